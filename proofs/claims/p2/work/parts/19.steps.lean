/-! M's steps as equations, an instruction each (printed by wip/genp.py) -/
theorem WP_at {j pc : Nat} {hd : Hd} (e : mCode j pc = hd) (ls : Lo) (st : Sk) (h : Hp) (Q : MRes → Hp → Prop) : WP Gm j pc ls st h Q = ndX Gm (WP Gm) j pc (hd ls st h) Q := by rw [WP_eq, ← e]
def c8 (st : Sk) : Bool := decide (catS st ≤ 8)
theorem catV_le (v : MV) : catV v ≤ 2 := by unfold catV; split <;> omega
theorem c8_0 : c8 [] = true := rfl
theorem c8_1 (a : MV) : c8 [a] = true := decide_eq_true (show catV a + 0 ≤ 8 by have := catV_le a; omega)
theorem c8_2 (a b : MV) : c8 [a, b] = true := decide_eq_true (show catV a + (catV b + 0) ≤ 8 by have := catV_le a; have := catV_le b; omega)
theorem c8_3 (a b c : MV) : c8 [a, b, c] = true := decide_eq_true (show catV a + (catV b + (catV c + 0)) ≤ 8 by have := catV_le a; have := catV_le b; have := catV_le c; omega)
theorem c8_4 (a b c d : MV) : c8 [a, b, c, d] = true := decide_eq_true (show catV a + (catV b + (catV c + (catV d + 0))) ≤ 8 by have := catV_le a; have := catV_le b; have := catV_le c; have := catV_le d; omega)
def kC (f : Option MV → Hp → Prop) (g : Nat → Hp → Prop) : MRes → Hp → Prop := fun r h2 => match r with | .inl v => f v h2 | .inr E => g E h2
theorem kC_l (f : Option MV → Hp → Prop) (g : Nat → Hp → Prop) (v : Option MV) (h : Hp) : kC f g (.inl v) h = f v h := rfl
theorem kC_r (f : Option MV → Hp → Prop) (g : Nat → Hp → Prop) (E : Nat) (h : Hp) : kC f g (.inr E) h = g E h := rfl
theorem nd_if {c : Int32 → Bool} {j pc t n : Nat} {x : Int32} {P : Prop} [Decidable P] (hp : c x = decide P) (ls : Lo) (st : Sk) (h : Hp) (Q : MRes → Hp → Prop) : ndX Gm (WP Gm) j pc (oIf c t n ls (.inl x :: st) h) Q = if P then WP Gm j t ls st h Q else WP Gm j n ls st h Q := by
  show WP Gm j (if c x = true then t else n) ls st h Q = _
  rw [hp]
  by_cases hP : P <;> simp [hP]
theorem nd_ic {c : Int32 → Int32 → Bool} {j pc t n : Nat} {x y : Int32} {P : Prop} [Decidable P] (hp : c x y = decide P) (ls : Lo) (st : Sk) (h : Hp) (Q : MRes → Hp → Prop) : ndX Gm (WP Gm) j pc (oIC c t n ls (.inl y :: .inl x :: st) h) Q = if P then WP Gm j t ls st h Q else WP Gm j n ls st h Q := by
  show WP Gm j (if c x y = true then t else n) ls st h Q = _
  rw [hp]
  by_cases hP : P <;> simp [hP]
theorem nd_in {j pc t n : Nat} {x : Option Nat} (ls : Lo) (st : Sk) (h : Hp) (Q : MRes → Hp → Prop) : ndX Gm (WP Gm) j pc (oIfN t n ls (.inr (.inl x) :: st) h) Q = if x.isNone = true then WP Gm j t ls st h Q else WP Gm j n ls st h Q := by cases x <;> rfl
theorem nd_inn {j pc t n : Nat} {x : Option Nat} (ls : Lo) (st : Sk) (h : Hp) (Q : MRes → Hp → Prop) : ndX Gm (WP Gm) j pc (oIfNN t n ls (.inr (.inl x) :: st) h) Q = if x.isNone = true then WP Gm j n ls st h Q else WP Gm j t ls st h Q := by cases x <;> rfl
def lnE (h : Hp) (a : Nat) : Nat := if a = eD then 0 else ln h a
theorem nd_le {h : Hp} {a t n : Nat} (hk : a = eD ∨ isK h a (100 + t) = true) (ls : Lo) (st : Sk) : oLenE t n ls (.inr (.inl (some a)) :: st) h = some (.inl (n, ls, .inl (Int32.ofNat (lnE h a)) :: st, h)) := by
  unfold oLenE lnE
  dsimp only
  by_cases ha : a = eD
  · rw [if_pos ha, if_pos ha]
    rfl
  · rw [if_neg ha, if_neg ha, if_pos (hk.resolve_left ha)]
theorem nd_ia {h : Hp} {x y : Option Nat} (hd : x = y ∨ dif h x y = true) {j pc t n : Nat} (ls : Lo) (st : Sk) (Q : MRes → Hp → Prop) : ndX Gm (WP Gm) j pc (oIfA t n ls (.inr (.inl y) :: .inr (.inl x) :: st) h) Q = if x = y then WP Gm j t ls st h Q else WP Gm j n ls st h Q := by
  unfold oIfA
  dsimp only
  by_cases hx : x = y
  · rw [if_pos hx, if_pos hx]
    rfl
  · rw [if_neg hx, if_neg hx, if_pos (hd.resolve_left hx)]
    rfl
section STEPS
variable (ls : Lo) (st : Sk) (h : Hp) (Q : MRes → Hp → Prop)
theorem c_Frame_init_0 : mCode j_Frame_init 0 = oAld 0 1 := rfl
theorem e_Frame_init_0 (x : Option Nat) : (WP Gm j_Frame_init 0 (some (.inr (.inl x)) :: ls) (st) h Q) = (WP Gm j_Frame_init 1 (some (.inr (.inl x)) :: ls) (.inr (.inl x) :: st) (h) Q) := (WP_at c_Frame_init_0 _ _ _ _)
theorem c_Frame_init_1 : mCode j_Frame_init 1 = oObj 4 := rfl
theorem e_Frame_init_1 (a : Nat) (hc : c8 st = true) : (WP Gm j_Frame_init 1 (ls) (.inr (.inl (some a)) :: st) h Q) = (WP Gm j_Frame_init 4 (ls) (st) (h) Q) := (WP_at c_Frame_init_1 _ _ _ _).trans (congrArg (fun o => ndX Gm (WP Gm) j_Frame_init 1 o Q) (if_pos (of_decide_eq_true hc)))
theorem c_Frame_init_4 : mCode j_Frame_init 4 = oAld 0 5 := rfl
theorem e_Frame_init_4 (x : Option Nat) : (WP Gm j_Frame_init 4 (some (.inr (.inl x)) :: ls) (st) h Q) = (WP Gm j_Frame_init 5 (some (.inr (.inl x)) :: ls) (.inr (.inl x) :: st) (h) Q) := (WP_at c_Frame_init_4 _ _ _ _)
theorem c_Frame_init_5 : mCode j_Frame_init 5 = oI 0 6 := rfl
theorem e_Frame_init_5  : (WP Gm j_Frame_init 5 (ls) (st) h Q) = (WP Gm j_Frame_init 6 (ls) (.inl 0 :: st) (h) Q) := (WP_at c_Frame_init_5 _ _ _ _)
theorem c_Frame_init_6 : mCode j_Frame_init 6 = oPutI kc_Frame 0 9 := rfl
theorem e_Frame_init_6 (a : Nat) (x : Int32) (hk : isK h a kc_Frame = true) : (WP Gm j_Frame_init 6 (ls) (.inl x :: .inr (.inl (some a)) :: st) h Q) = (WP Gm j_Frame_init 9 (ls) (st) (sI h a 0 x) Q) := (WP_at c_Frame_init_6 _ _ _ _).trans (congrArg (fun o => ndX Gm (WP Gm) j_Frame_init 6 o Q) (if_pos hk))
theorem c_Frame_init_9 : mCode j_Frame_init 9 = oAld 0 10 := rfl
theorem e_Frame_init_9 (x : Option Nat) : (WP Gm j_Frame_init 9 (some (.inr (.inl x)) :: ls) (st) h Q) = (WP Gm j_Frame_init 10 (some (.inr (.inl x)) :: ls) (.inr (.inl x) :: st) (h) Q) := (WP_at c_Frame_init_9 _ _ _ _)
theorem c_Frame_init_10 : mCode j_Frame_init 10 = oI 0 11 := rfl
theorem e_Frame_init_10  : (WP Gm j_Frame_init 10 (ls) (st) h Q) = (WP Gm j_Frame_init 11 (ls) (.inl 0 :: st) (h) Q) := (WP_at c_Frame_init_10 _ _ _ _)
theorem c_Frame_init_11 : mCode j_Frame_init 11 = oPutI kc_Frame 1 14 := rfl
theorem e_Frame_init_11 (a : Nat) (x : Int32) (hk : isK h a kc_Frame = true) : (WP Gm j_Frame_init 11 (ls) (.inl x :: .inr (.inl (some a)) :: st) h Q) = (WP Gm j_Frame_init 14 (ls) (st) (sI h a 1 x) Q) := (WP_at c_Frame_init_11 _ _ _ _).trans (congrArg (fun o => ndX Gm (WP Gm) j_Frame_init 11 o Q) (if_pos hk))
theorem c_Frame_init_14 : mCode j_Frame_init 14 = oAld 0 15 := rfl
theorem e_Frame_init_14 (x : Option Nat) : (WP Gm j_Frame_init 14 (some (.inr (.inl x)) :: ls) (st) h Q) = (WP Gm j_Frame_init 15 (some (.inr (.inl x)) :: ls) (.inr (.inl x) :: st) (h) Q) := (WP_at c_Frame_init_14 _ _ _ _)
theorem c_Frame_init_15 : mCode j_Frame_init 15 = oI 0 16 := rfl
theorem e_Frame_init_15  : (WP Gm j_Frame_init 15 (ls) (st) h Q) = (WP Gm j_Frame_init 16 (ls) (.inl 0 :: st) (h) Q) := (WP_at c_Frame_init_15 _ _ _ _)
theorem c_Frame_init_16 : mCode j_Frame_init 16 = oPutI kc_Frame 2 19 := rfl
theorem e_Frame_init_16 (a : Nat) (x : Int32) (hk : isK h a kc_Frame = true) : (WP Gm j_Frame_init 16 (ls) (.inl x :: .inr (.inl (some a)) :: st) h Q) = (WP Gm j_Frame_init 19 (ls) (st) (sI h a 2 x) Q) := (WP_at c_Frame_init_16 _ _ _ _).trans (congrArg (fun o => ndX Gm (WP Gm) j_Frame_init 16 o Q) (if_pos hk))
theorem c_Frame_init_19 : mCode j_Frame_init 19 = oAld 0 20 := rfl
theorem e_Frame_init_19 (x : Option Nat) : (WP Gm j_Frame_init 19 (some (.inr (.inl x)) :: ls) (st) h Q) = (WP Gm j_Frame_init 20 (some (.inr (.inl x)) :: ls) (.inr (.inl x) :: st) (h) Q) := (WP_at c_Frame_init_19 _ _ _ _)
theorem c_Frame_init_20 : mCode j_Frame_init 20 = oI 0 21 := rfl
theorem e_Frame_init_20  : (WP Gm j_Frame_init 20 (ls) (st) h Q) = (WP Gm j_Frame_init 21 (ls) (.inl 0 :: st) (h) Q) := (WP_at c_Frame_init_20 _ _ _ _)
theorem c_Frame_init_21 : mCode j_Frame_init 21 = oPutI kc_Frame 3 24 := rfl
theorem e_Frame_init_21 (a : Nat) (x : Int32) (hk : isK h a kc_Frame = true) : (WP Gm j_Frame_init 21 (ls) (.inl x :: .inr (.inl (some a)) :: st) h Q) = (WP Gm j_Frame_init 24 (ls) (st) (sI h a 3 x) Q) := (WP_at c_Frame_init_21 _ _ _ _).trans (congrArg (fun o => ndX Gm (WP Gm) j_Frame_init 21 o Q) (if_pos hk))
theorem c_Frame_init_24 : mCode j_Frame_init 24 = oAld 0 25 := rfl
theorem e_Frame_init_24 (x : Option Nat) : (WP Gm j_Frame_init 24 (some (.inr (.inl x)) :: ls) (st) h Q) = (WP Gm j_Frame_init 25 (some (.inr (.inl x)) :: ls) (.inr (.inl x) :: st) (h) Q) := (WP_at c_Frame_init_24 _ _ _ _)
theorem c_Frame_init_25 : mCode j_Frame_init 25 = oI 0 26 := rfl
theorem e_Frame_init_25  : (WP Gm j_Frame_init 25 (ls) (st) h Q) = (WP Gm j_Frame_init 26 (ls) (.inl 0 :: st) (h) Q) := (WP_at c_Frame_init_25 _ _ _ _)
theorem c_Frame_init_26 : mCode j_Frame_init 26 = oPutI kc_Frame 4 29 := rfl
theorem e_Frame_init_26 (a : Nat) (x : Int32) (hk : isK h a kc_Frame = true) : (WP Gm j_Frame_init 26 (ls) (.inl x :: .inr (.inl (some a)) :: st) h Q) = (WP Gm j_Frame_init 29 (ls) (st) (sI h a 4 x) Q) := (WP_at c_Frame_init_26 _ _ _ _).trans (congrArg (fun o => ndX Gm (WP Gm) j_Frame_init 26 o Q) (if_pos hk))
theorem c_Frame_init_29 : mCode j_Frame_init 29 = oRet := rfl
theorem e_Frame_init_29  : (WP Gm j_Frame_init 29 (ls) ([]) h Q) = (Q (.inl none) h) := (WP_at c_Frame_init_29 _ _ _ _)
theorem c_FrameQueue_init_0 : mCode j_FrameQueue_init 0 = oAld 0 1 := rfl
theorem e_FrameQueue_init_0 (x : Option Nat) : (WP Gm j_FrameQueue_init 0 (some (.inr (.inl x)) :: ls) (st) h Q) = (WP Gm j_FrameQueue_init 1 (some (.inr (.inl x)) :: ls) (.inr (.inl x) :: st) (h) Q) := (WP_at c_FrameQueue_init_0 _ _ _ _)
theorem c_FrameQueue_init_1 : mCode j_FrameQueue_init 1 = oObj 4 := rfl
theorem e_FrameQueue_init_1 (a : Nat) (hc : c8 st = true) : (WP Gm j_FrameQueue_init 1 (ls) (.inr (.inl (some a)) :: st) h Q) = (WP Gm j_FrameQueue_init 4 (ls) (st) (h) Q) := (WP_at c_FrameQueue_init_1 _ _ _ _).trans (congrArg (fun o => ndX Gm (WP Gm) j_FrameQueue_init 1 o Q) (if_pos (of_decide_eq_true hc)))
theorem c_FrameQueue_init_4 : mCode j_FrameQueue_init 4 = oAld 0 5 := rfl
theorem e_FrameQueue_init_4 (x : Option Nat) : (WP Gm j_FrameQueue_init 4 (some (.inr (.inl x)) :: ls) (st) h Q) = (WP Gm j_FrameQueue_init 5 (some (.inr (.inl x)) :: ls) (.inr (.inl x) :: st) (h) Q) := (WP_at c_FrameQueue_init_4 _ _ _ _)
theorem c_FrameQueue_init_5 : mCode j_FrameQueue_init 5 = oI 4 6 := rfl
theorem e_FrameQueue_init_5  : (WP Gm j_FrameQueue_init 5 (ls) (st) h Q) = (WP Gm j_FrameQueue_init 6 (ls) (.inl 4 :: st) (h) Q) := (WP_at c_FrameQueue_init_5 _ _ _ _)
theorem c_FrameQueue_init_6 : mCode j_FrameQueue_init 6 = oNewA cM sM 3 9 := rfl
theorem e_FrameQueue_init_6 (i : Int32) (hi : 0 ≤ i ∧ i.toNatClampNeg ≤ 1000000) (hr : okR cM sM h 1 i.toNatClampNeg = true) : (WP Gm j_FrameQueue_init 6 (ls) (.inl i :: st) h Q) = (WP Gm j_FrameQueue_init 9 (ls) (.inr (.inl (some (nx h))) :: st) (hN h (100 + 3) i.toNatClampNeg i.toNatClampNeg) Q) := (WP_at c_FrameQueue_init_6 _ _ _ _).trans (congrArg (fun o => ndX Gm (WP Gm) j_FrameQueue_init 6 o Q) (if_pos (by rw [hr]; simp [hi.1, hi.2])))
theorem c_FrameQueue_init_9 : mCode j_FrameQueue_init 9 = oPutR kc_FrameQueue 0 12 := rfl
theorem e_FrameQueue_init_9 (a : Nat) (x : Option Nat) (hk : isK h a kc_FrameQueue = true) : (WP Gm j_FrameQueue_init 9 (ls) (.inr (.inl x) :: .inr (.inl (some a)) :: st) h Q) = (WP Gm j_FrameQueue_init 12 (ls) (st) (sR h a 0 x) Q) := (WP_at c_FrameQueue_init_9 _ _ _ _).trans (congrArg (fun o => ndX Gm (WP Gm) j_FrameQueue_init 9 o Q) (if_pos hk))
theorem c_FrameQueue_init_12 : mCode j_FrameQueue_init 12 = oAld 0 13 := rfl
theorem e_FrameQueue_init_12 (x : Option Nat) : (WP Gm j_FrameQueue_init 12 (some (.inr (.inl x)) :: ls) (st) h Q) = (WP Gm j_FrameQueue_init 13 (some (.inr (.inl x)) :: ls) (.inr (.inl x) :: st) (h) Q) := (WP_at c_FrameQueue_init_12 _ _ _ _)
theorem c_FrameQueue_init_13 : mCode j_FrameQueue_init 13 = oI 0 14 := rfl
theorem e_FrameQueue_init_13  : (WP Gm j_FrameQueue_init 13 (ls) (st) h Q) = (WP Gm j_FrameQueue_init 14 (ls) (.inl 0 :: st) (h) Q) := (WP_at c_FrameQueue_init_13 _ _ _ _)
theorem c_FrameQueue_init_14 : mCode j_FrameQueue_init 14 = oPutI kc_FrameQueue 1 17 := rfl
theorem e_FrameQueue_init_14 (a : Nat) (x : Int32) (hk : isK h a kc_FrameQueue = true) : (WP Gm j_FrameQueue_init 14 (ls) (.inl x :: .inr (.inl (some a)) :: st) h Q) = (WP Gm j_FrameQueue_init 17 (ls) (st) (sI h a 1 x) Q) := (WP_at c_FrameQueue_init_14 _ _ _ _).trans (congrArg (fun o => ndX Gm (WP Gm) j_FrameQueue_init 14 o Q) (if_pos hk))
theorem c_FrameQueue_init_17 : mCode j_FrameQueue_init 17 = oI 0 18 := rfl
theorem e_FrameQueue_init_17  : (WP Gm j_FrameQueue_init 17 (ls) (st) h Q) = (WP Gm j_FrameQueue_init 18 (ls) (.inl 0 :: st) (h) Q) := (WP_at c_FrameQueue_init_17 _ _ _ _)
theorem c_FrameQueue_init_18 : mCode j_FrameQueue_init 18 = oIst 1 19 := rfl
theorem e_FrameQueue_init_18 (x : Int32) : (WP Gm j_FrameQueue_init 18 (ls) (.inl x :: st) h Q) = (WP Gm j_FrameQueue_init 19 (lSet1 ls 1 (some (.inl x))) (st) (h) Q) := (WP_at c_FrameQueue_init_18 _ _ _ _)
theorem c_FrameQueue_init_19 : mCode j_FrameQueue_init 19 = oIld 1 20 := rfl
theorem e_FrameQueue_init_19 (a0 : Option MV) (x : Int32) : (WP Gm j_FrameQueue_init 19 (a0 :: some (.inl x) :: ls) (st) h Q) = (WP Gm j_FrameQueue_init 20 (a0 :: some (.inl x) :: ls) (.inl x :: st) (h) Q) := (WP_at c_FrameQueue_init_19 _ _ _ _)
theorem c_FrameQueue_init_20 : mCode j_FrameQueue_init 20 = oI 4 21 := rfl
theorem e_FrameQueue_init_20  : (WP Gm j_FrameQueue_init 20 (ls) (st) h Q) = (WP Gm j_FrameQueue_init 21 (ls) (.inl 4 :: st) (h) Q) := (WP_at c_FrameQueue_init_20 _ _ _ _)
theorem c_FrameQueue_init_21 : mCode j_FrameQueue_init 21 = oIC (fun x y => decide (y ≤ x)) 43 24 := rfl
theorem e_FrameQueue_init_21 (x y : Int32) : (WP Gm j_FrameQueue_init 21 (ls) (.inl y :: .inl x :: st) h Q) = (if y ≤ x then WP Gm j_FrameQueue_init 43 (ls) (st) (h) Q else WP Gm j_FrameQueue_init 24 (ls) (st) (h) Q) := (WP_at c_FrameQueue_init_21 _ _ _ _).trans (nd_ic rfl _ _ _ _)
theorem c_FrameQueue_init_24 : mCode j_FrameQueue_init 24 = oAld 0 25 := rfl
theorem e_FrameQueue_init_24 (x : Option Nat) : (WP Gm j_FrameQueue_init 24 (some (.inr (.inl x)) :: ls) (st) h Q) = (WP Gm j_FrameQueue_init 25 (some (.inr (.inl x)) :: ls) (.inr (.inl x) :: st) (h) Q) := (WP_at c_FrameQueue_init_24 _ _ _ _)
theorem c_FrameQueue_init_25 : mCode j_FrameQueue_init 25 = oGetR kc_FrameQueue 0 28 := rfl
theorem e_FrameQueue_init_25 (a : Nat) (hk : isK h a kc_FrameQueue = true) : (WP Gm j_FrameQueue_init 25 (ls) (.inr (.inl (some a)) :: st) h Q) = (WP Gm j_FrameQueue_init 28 (ls) (.inr (.inl (gR h a 0)) :: st) (h) Q) := (WP_at c_FrameQueue_init_25 _ _ _ _).trans (congrArg (fun o => ndX Gm (WP Gm) j_FrameQueue_init 25 o Q) (if_pos hk))
theorem c_FrameQueue_init_28 : mCode j_FrameQueue_init 28 = oIld 1 29 := rfl
theorem e_FrameQueue_init_28 (a0 : Option MV) (x : Int32) : (WP Gm j_FrameQueue_init 28 (a0 :: some (.inl x) :: ls) (st) h Q) = (WP Gm j_FrameQueue_init 29 (a0 :: some (.inl x) :: ls) (.inl x :: st) (h) Q) := (WP_at c_FrameQueue_init_28 _ _ _ _)
theorem c_FrameQueue_init_29 : mCode j_FrameQueue_init 29 = oNew cM sM kc_Frame 5 32 := rfl
theorem e_FrameQueue_init_29 (hr : okR cM sM h 1 5 = true) : (WP Gm j_FrameQueue_init 29 (ls) (st) h Q) = (WP Gm j_FrameQueue_init 32 (ls) (.inr (.inl (some (nx h))) :: st) (hN h kc_Frame 0 5) Q) := (WP_at c_FrameQueue_init_29 _ _ _ _).trans (congrArg (fun o => ndX Gm (WP Gm) j_FrameQueue_init 29 o Q) (if_pos hr))
theorem c_FrameQueue_init_32 : mCode j_FrameQueue_init 32 = oDup 33 := rfl
theorem e_FrameQueue_init_32 (x : Option Nat) : (WP Gm j_FrameQueue_init 32 (ls) (.inr (.inl x) :: st) h Q) = (WP Gm j_FrameQueue_init 33 (ls) (.inr (.inl x) :: .inr (.inl x) :: st) (h) Q) := (WP_at c_FrameQueue_init_32 _ _ _ _)
theorem c_FrameQueue_init_33 : mCode j_FrameQueue_init 33 = oCallV kc_Frame j_Frame_init 0 (mL j_Frame_init) 36 := rfl
theorem e_FrameQueue_init_33 (a : Nat) (hk : isK h a kc_Frame = true) (hc : c8 st = true) : (WP Gm j_FrameQueue_init 33 (ls) (.inr (.inl (some a)) :: st) h Q) = (WP Gm j_Frame_init 0 [some (.inr (.inl (some a)))] [] h (kC (fun v h2 => WP Gm j_FrameQueue_init 36 ls (v.toList ++ st) h2 Q) (fun E h2 => Q (.inr E) h2))) := (WP_at c_FrameQueue_init_33 _ _ _ _).trans (congrArg (fun o => ndX Gm (WP Gm) j_FrameQueue_init 33 o Q) (if_pos (by rw [hk, show decide (catS st ≤ 8) = true from hc]; rfl)))
theorem c_FrameQueue_init_36 : mCode j_FrameQueue_init 36 = oAas 3 kc_Frame 37 := rfl
theorem e_FrameQueue_init_36 (a : Nat) (i : Int32) (x : Nat) (hk : isK h a 103 = true) (hi : inL h a i = true) (hx : isK h x kc_Frame = true) : (WP Gm j_FrameQueue_init 36 (ls) (.inr (.inl (some x)) :: .inl i :: .inr (.inl (some a)) :: st) h Q) = (WP Gm j_FrameQueue_init 37 (ls) (st) (sR h a i.toNatClampNeg (some x)) Q) := (WP_at c_FrameQueue_init_36 _ _ _ _).trans (congrArg (fun o => ndX Gm (WP Gm) j_FrameQueue_init 36 o Q) (if_pos (by rw [hk, hi, hx]; rfl)))
theorem c_FrameQueue_init_37 : mCode j_FrameQueue_init 37 = oInc 1 1 40 := rfl
theorem e_FrameQueue_init_37 (a0 : Option MV) (x : Int32) : (WP Gm j_FrameQueue_init 37 (a0 :: some (.inl x) :: ls) (st) h Q) = (WP Gm j_FrameQueue_init 40 (lSet1 (a0 :: some (.inl x) :: ls) 1 (some (.inl (x + 1)))) (st) (h) Q) := (WP_at c_FrameQueue_init_37 _ _ _ _)
theorem c_FrameQueue_init_40 : mCode j_FrameQueue_init 40 = oGo 19 := rfl
theorem e_FrameQueue_init_40  : (WP Gm j_FrameQueue_init 40 (ls) (st) h Q) = (WP Gm j_FrameQueue_init 19 (ls) (st) (h) Q) := (WP_at c_FrameQueue_init_40 _ _ _ _)
theorem c_FrameQueue_init_43 : mCode j_FrameQueue_init 43 = oRet := rfl
theorem e_FrameQueue_init_43  : (WP Gm j_FrameQueue_init 43 (ls) ([]) h Q) = (Q (.inl none) h) := (WP_at c_FrameQueue_init_43 _ _ _ _)
theorem c_FrameQueue_at_0 : mCode j_FrameQueue_at 0 = oIld 1 1 := rfl
theorem e_FrameQueue_at_0 (a0 : Option MV) (x : Int32) : (WP Gm j_FrameQueue_at 0 (a0 :: some (.inl x) :: ls) (st) h Q) = (WP Gm j_FrameQueue_at 1 (a0 :: some (.inl x) :: ls) (.inl x :: st) (h) Q) := (WP_at c_FrameQueue_at_0 _ _ _ _)
theorem c_FrameQueue_at_1 : mCode j_FrameQueue_at 1 = oIf (fun x => decide (x < 0)) 21 4 := rfl
theorem e_FrameQueue_at_1 (x : Int32) : (WP Gm j_FrameQueue_at 1 (ls) (.inl x :: st) h Q) = (if x < 0 then WP Gm j_FrameQueue_at 21 (ls) (st) (h) Q else WP Gm j_FrameQueue_at 4 (ls) (st) (h) Q) := (WP_at c_FrameQueue_at_1 _ _ _ _).trans (nd_if rfl _ _ _ _)
theorem c_FrameQueue_at_4 : mCode j_FrameQueue_at 4 = oIld 1 5 := rfl
theorem e_FrameQueue_at_4 (a0 : Option MV) (x : Int32) : (WP Gm j_FrameQueue_at 4 (a0 :: some (.inl x) :: ls) (st) h Q) = (WP Gm j_FrameQueue_at 5 (a0 :: some (.inl x) :: ls) (.inl x :: st) (h) Q) := (WP_at c_FrameQueue_at_4 _ _ _ _)
theorem c_FrameQueue_at_5 : mCode j_FrameQueue_at 5 = oAld 0 6 := rfl
theorem e_FrameQueue_at_5 (x : Option Nat) : (WP Gm j_FrameQueue_at 5 (some (.inr (.inl x)) :: ls) (st) h Q) = (WP Gm j_FrameQueue_at 6 (some (.inr (.inl x)) :: ls) (.inr (.inl x) :: st) (h) Q) := (WP_at c_FrameQueue_at_5 _ _ _ _)
theorem c_FrameQueue_at_6 : mCode j_FrameQueue_at 6 = oGetI kc_FrameQueue 1 9 := rfl
theorem e_FrameQueue_at_6 (a : Nat) (hk : isK h a kc_FrameQueue = true) : (WP Gm j_FrameQueue_at 6 (ls) (.inr (.inl (some a)) :: st) h Q) = (WP Gm j_FrameQueue_at 9 (ls) (.inl (gI h a 1) :: st) (h) Q) := (WP_at c_FrameQueue_at_6 _ _ _ _).trans (congrArg (fun o => ndX Gm (WP Gm) j_FrameQueue_at 6 o Q) (if_pos hk))
theorem c_FrameQueue_at_9 : mCode j_FrameQueue_at 9 = oIC (fun x y => decide (y ≤ x)) 21 12 := rfl
theorem e_FrameQueue_at_9 (x y : Int32) : (WP Gm j_FrameQueue_at 9 (ls) (.inl y :: .inl x :: st) h Q) = (if y ≤ x then WP Gm j_FrameQueue_at 21 (ls) (st) (h) Q else WP Gm j_FrameQueue_at 12 (ls) (st) (h) Q) := (WP_at c_FrameQueue_at_9 _ _ _ _).trans (nd_ic rfl _ _ _ _)
theorem c_FrameQueue_at_12 : mCode j_FrameQueue_at 12 = oAld 0 13 := rfl
theorem e_FrameQueue_at_12 (x : Option Nat) : (WP Gm j_FrameQueue_at 12 (some (.inr (.inl x)) :: ls) (st) h Q) = (WP Gm j_FrameQueue_at 13 (some (.inr (.inl x)) :: ls) (.inr (.inl x) :: st) (h) Q) := (WP_at c_FrameQueue_at_12 _ _ _ _)
theorem c_FrameQueue_at_13 : mCode j_FrameQueue_at 13 = oGetR kc_FrameQueue 0 16 := rfl
theorem e_FrameQueue_at_13 (a : Nat) (hk : isK h a kc_FrameQueue = true) : (WP Gm j_FrameQueue_at 13 (ls) (.inr (.inl (some a)) :: st) h Q) = (WP Gm j_FrameQueue_at 16 (ls) (.inr (.inl (gR h a 0)) :: st) (h) Q) := (WP_at c_FrameQueue_at_13 _ _ _ _).trans (congrArg (fun o => ndX Gm (WP Gm) j_FrameQueue_at 13 o Q) (if_pos hk))
theorem c_FrameQueue_at_16 : mCode j_FrameQueue_at 16 = oIld 1 17 := rfl
theorem e_FrameQueue_at_16 (a0 : Option MV) (x : Int32) : (WP Gm j_FrameQueue_at 16 (a0 :: some (.inl x) :: ls) (st) h Q) = (WP Gm j_FrameQueue_at 17 (a0 :: some (.inl x) :: ls) (.inl x :: st) (h) Q) := (WP_at c_FrameQueue_at_16 _ _ _ _)
theorem c_FrameQueue_at_17 : mCode j_FrameQueue_at 17 = oAal 3 18 := rfl
theorem e_FrameQueue_at_17 (a : Nat) (i : Int32) (hk : isK h a 103 = true) (hi : inL h a i = true) : (WP Gm j_FrameQueue_at 17 (ls) (.inl i :: .inr (.inl (some a)) :: st) h Q) = (WP Gm j_FrameQueue_at 18 (ls) (.inr (.inl (gR h a i.toNatClampNeg)) :: st) (h) Q) := (WP_at c_FrameQueue_at_17 _ _ _ _).trans (congrArg (fun o => ndX Gm (WP Gm) j_FrameQueue_at 17 o Q) (if_pos (by rw [hk, hi]; rfl)))
theorem c_FrameQueue_at_18 : mCode j_FrameQueue_at 18 = oGo 22 := rfl
theorem e_FrameQueue_at_18  : (WP Gm j_FrameQueue_at 18 (ls) (st) h Q) = (WP Gm j_FrameQueue_at 22 (ls) (st) (h) Q) := (WP_at c_FrameQueue_at_18 _ _ _ _)
theorem c_FrameQueue_at_21 : mCode j_FrameQueue_at 21 = oN 22 := rfl
theorem e_FrameQueue_at_21  : (WP Gm j_FrameQueue_at 21 (ls) (st) h Q) = (WP Gm j_FrameQueue_at 22 (ls) (.inr (.inl none) :: st) (h) Q) := (WP_at c_FrameQueue_at_21 _ _ _ _)
theorem c_FrameQueue_at_22 : mCode j_FrameQueue_at 22 = oRetA := rfl
theorem e_FrameQueue_at_22 (x : Option Nat) : (WP Gm j_FrameQueue_at 22 (ls) ([.inr (.inl x)]) h Q) = (Q (.inl (some (.inr (.inl x)))) h) := (WP_at c_FrameQueue_at_22 _ _ _ _)
theorem c_FrameQueue_add_0 : mCode j_FrameQueue_add 0 = oAld 0 1 := rfl
theorem e_FrameQueue_add_0 (x : Option Nat) : (WP Gm j_FrameQueue_add 0 (some (.inr (.inl x)) :: ls) (st) h Q) = (WP Gm j_FrameQueue_add 1 (some (.inr (.inl x)) :: ls) (.inr (.inl x) :: st) (h) Q) := (WP_at c_FrameQueue_add_0 _ _ _ _)
theorem c_FrameQueue_add_1 : mCode j_FrameQueue_add 1 = oGetI kc_FrameQueue 1 4 := rfl
theorem e_FrameQueue_add_1 (a : Nat) (hk : isK h a kc_FrameQueue = true) : (WP Gm j_FrameQueue_add 1 (ls) (.inr (.inl (some a)) :: st) h Q) = (WP Gm j_FrameQueue_add 4 (ls) (.inl (gI h a 1) :: st) (h) Q) := (WP_at c_FrameQueue_add_1 _ _ _ _).trans (congrArg (fun o => ndX Gm (WP Gm) j_FrameQueue_add 1 o Q) (if_pos hk))
theorem c_FrameQueue_add_4 : mCode j_FrameQueue_add 4 = oI 4 5 := rfl
theorem e_FrameQueue_add_4  : (WP Gm j_FrameQueue_add 4 (ls) (st) h Q) = (WP Gm j_FrameQueue_add 5 (ls) (.inl 4 :: st) (h) Q) := (WP_at c_FrameQueue_add_4 _ _ _ _)
theorem c_FrameQueue_add_5 : mCode j_FrameQueue_add 5 = oIC (fun x y => decide (x < y)) 10 8 := rfl
theorem e_FrameQueue_add_5 (x y : Int32) : (WP Gm j_FrameQueue_add 5 (ls) (.inl y :: .inl x :: st) h Q) = (if x < y then WP Gm j_FrameQueue_add 10 (ls) (st) (h) Q else WP Gm j_FrameQueue_add 8 (ls) (st) (h) Q) := (WP_at c_FrameQueue_add_5 _ _ _ _).trans (nd_ic rfl _ _ _ _)
theorem c_FrameQueue_add_8 : mCode j_FrameQueue_add 8 = oI 0 9 := rfl
theorem e_FrameQueue_add_8  : (WP Gm j_FrameQueue_add 8 (ls) (st) h Q) = (WP Gm j_FrameQueue_add 9 (ls) (.inl 0 :: st) (h) Q) := (WP_at c_FrameQueue_add_8 _ _ _ _)
theorem c_FrameQueue_add_9 : mCode j_FrameQueue_add 9 = oRetZ := rfl
theorem e_FrameQueue_add_9 (x : Int32) (hx : x = 0 ∨ x = 1) : (WP Gm j_FrameQueue_add 9 (ls) ([.inl x]) h Q) = (Q (.inl (some (.inl x))) h) := (WP_at c_FrameQueue_add_9 _ _ _ _).trans (congrArg (fun o => ndX Gm (WP Gm) j_FrameQueue_add 9 o Q) (if_pos (by rcases hx with rfl | rfl <;> rfl)))
theorem c_FrameQueue_add_10 : mCode j_FrameQueue_add 10 = oAld 0 11 := rfl
theorem e_FrameQueue_add_10 (x : Option Nat) : (WP Gm j_FrameQueue_add 10 (some (.inr (.inl x)) :: ls) (st) h Q) = (WP Gm j_FrameQueue_add 11 (some (.inr (.inl x)) :: ls) (.inr (.inl x) :: st) (h) Q) := (WP_at c_FrameQueue_add_10 _ _ _ _)
theorem c_FrameQueue_add_11 : mCode j_FrameQueue_add 11 = oGetR kc_FrameQueue 0 14 := rfl
theorem e_FrameQueue_add_11 (a : Nat) (hk : isK h a kc_FrameQueue = true) : (WP Gm j_FrameQueue_add 11 (ls) (.inr (.inl (some a)) :: st) h Q) = (WP Gm j_FrameQueue_add 14 (ls) (.inr (.inl (gR h a 0)) :: st) (h) Q) := (WP_at c_FrameQueue_add_11 _ _ _ _).trans (congrArg (fun o => ndX Gm (WP Gm) j_FrameQueue_add 11 o Q) (if_pos hk))
theorem c_FrameQueue_add_14 : mCode j_FrameQueue_add 14 = oAld 0 15 := rfl
theorem e_FrameQueue_add_14 (x : Option Nat) : (WP Gm j_FrameQueue_add 14 (some (.inr (.inl x)) :: ls) (st) h Q) = (WP Gm j_FrameQueue_add 15 (some (.inr (.inl x)) :: ls) (.inr (.inl x) :: st) (h) Q) := (WP_at c_FrameQueue_add_14 _ _ _ _)
theorem c_FrameQueue_add_15 : mCode j_FrameQueue_add 15 = oGetI kc_FrameQueue 1 18 := rfl
theorem e_FrameQueue_add_15 (a : Nat) (hk : isK h a kc_FrameQueue = true) : (WP Gm j_FrameQueue_add 15 (ls) (.inr (.inl (some a)) :: st) h Q) = (WP Gm j_FrameQueue_add 18 (ls) (.inl (gI h a 1) :: st) (h) Q) := (WP_at c_FrameQueue_add_15 _ _ _ _).trans (congrArg (fun o => ndX Gm (WP Gm) j_FrameQueue_add 15 o Q) (if_pos hk))
theorem c_FrameQueue_add_18 : mCode j_FrameQueue_add 18 = oAal 3 19 := rfl
theorem e_FrameQueue_add_18 (a : Nat) (i : Int32) (hk : isK h a 103 = true) (hi : inL h a i = true) : (WP Gm j_FrameQueue_add 18 (ls) (.inl i :: .inr (.inl (some a)) :: st) h Q) = (WP Gm j_FrameQueue_add 19 (ls) (.inr (.inl (gR h a i.toNatClampNeg)) :: st) (h) Q) := (WP_at c_FrameQueue_add_18 _ _ _ _).trans (congrArg (fun o => ndX Gm (WP Gm) j_FrameQueue_add 18 o Q) (if_pos (by rw [hk, hi]; rfl)))
theorem c_FrameQueue_add_19 : mCode j_FrameQueue_add 19 = oAst 6 21 := rfl
theorem e_FrameQueue_add_19 (x : Option Nat) : (WP Gm j_FrameQueue_add 19 (ls) (.inr (.inl x) :: st) h Q) = (WP Gm j_FrameQueue_add 21 (lSet1 ls 6 (some (.inr (.inl x)))) (st) (h) Q) := (WP_at c_FrameQueue_add_19 _ _ _ _)
theorem c_FrameQueue_add_21 : mCode j_FrameQueue_add 21 = oAld 6 23 := rfl
theorem e_FrameQueue_add_21 (a0 a1 a2 a3 a4 a5 : Option MV) (x : Option Nat) : (WP Gm j_FrameQueue_add 21 (a0 :: a1 :: a2 :: a3 :: a4 :: a5 :: some (.inr (.inl x)) :: ls) (st) h Q) = (WP Gm j_FrameQueue_add 23 (a0 :: a1 :: a2 :: a3 :: a4 :: a5 :: some (.inr (.inl x)) :: ls) (.inr (.inl x) :: st) (h) Q) := (WP_at c_FrameQueue_add_21 _ _ _ _)
theorem c_FrameQueue_add_23 : mCode j_FrameQueue_add 23 = oIld 1 24 := rfl
theorem e_FrameQueue_add_23 (a0 : Option MV) (x : Int32) : (WP Gm j_FrameQueue_add 23 (a0 :: some (.inl x) :: ls) (st) h Q) = (WP Gm j_FrameQueue_add 24 (a0 :: some (.inl x) :: ls) (.inl x :: st) (h) Q) := (WP_at c_FrameQueue_add_23 _ _ _ _)
theorem c_FrameQueue_add_24 : mCode j_FrameQueue_add 24 = oPutI kc_Frame 0 27 := rfl
theorem e_FrameQueue_add_24 (a : Nat) (x : Int32) (hk : isK h a kc_Frame = true) : (WP Gm j_FrameQueue_add 24 (ls) (.inl x :: .inr (.inl (some a)) :: st) h Q) = (WP Gm j_FrameQueue_add 27 (ls) (st) (sI h a 0 x) Q) := (WP_at c_FrameQueue_add_24 _ _ _ _).trans (congrArg (fun o => ndX Gm (WP Gm) j_FrameQueue_add 24 o Q) (if_pos hk))
theorem c_FrameQueue_add_27 : mCode j_FrameQueue_add 27 = oAld 6 29 := rfl
theorem e_FrameQueue_add_27 (a0 a1 a2 a3 a4 a5 : Option MV) (x : Option Nat) : (WP Gm j_FrameQueue_add 27 (a0 :: a1 :: a2 :: a3 :: a4 :: a5 :: some (.inr (.inl x)) :: ls) (st) h Q) = (WP Gm j_FrameQueue_add 29 (a0 :: a1 :: a2 :: a3 :: a4 :: a5 :: some (.inr (.inl x)) :: ls) (.inr (.inl x) :: st) (h) Q) := (WP_at c_FrameQueue_add_27 _ _ _ _)
theorem c_FrameQueue_add_29 : mCode j_FrameQueue_add 29 = oIld 2 30 := rfl
theorem e_FrameQueue_add_29 (a0 a1 : Option MV) (x : Int32) : (WP Gm j_FrameQueue_add 29 (a0 :: a1 :: some (.inl x) :: ls) (st) h Q) = (WP Gm j_FrameQueue_add 30 (a0 :: a1 :: some (.inl x) :: ls) (.inl x :: st) (h) Q) := (WP_at c_FrameQueue_add_29 _ _ _ _)
theorem c_FrameQueue_add_30 : mCode j_FrameQueue_add 30 = oPutI kc_Frame 1 33 := rfl
theorem e_FrameQueue_add_30 (a : Nat) (x : Int32) (hk : isK h a kc_Frame = true) : (WP Gm j_FrameQueue_add 30 (ls) (.inl x :: .inr (.inl (some a)) :: st) h Q) = (WP Gm j_FrameQueue_add 33 (ls) (st) (sI h a 1 x) Q) := (WP_at c_FrameQueue_add_30 _ _ _ _).trans (congrArg (fun o => ndX Gm (WP Gm) j_FrameQueue_add 30 o Q) (if_pos hk))
theorem c_FrameQueue_add_33 : mCode j_FrameQueue_add 33 = oAld 6 35 := rfl
theorem e_FrameQueue_add_33 (a0 a1 a2 a3 a4 a5 : Option MV) (x : Option Nat) : (WP Gm j_FrameQueue_add 33 (a0 :: a1 :: a2 :: a3 :: a4 :: a5 :: some (.inr (.inl x)) :: ls) (st) h Q) = (WP Gm j_FrameQueue_add 35 (a0 :: a1 :: a2 :: a3 :: a4 :: a5 :: some (.inr (.inl x)) :: ls) (.inr (.inl x) :: st) (h) Q) := (WP_at c_FrameQueue_add_33 _ _ _ _)
theorem c_FrameQueue_add_35 : mCode j_FrameQueue_add 35 = oIld 3 36 := rfl
theorem e_FrameQueue_add_35 (a0 a1 a2 : Option MV) (x : Int32) : (WP Gm j_FrameQueue_add 35 (a0 :: a1 :: a2 :: some (.inl x) :: ls) (st) h Q) = (WP Gm j_FrameQueue_add 36 (a0 :: a1 :: a2 :: some (.inl x) :: ls) (.inl x :: st) (h) Q) := (WP_at c_FrameQueue_add_35 _ _ _ _)
theorem c_FrameQueue_add_36 : mCode j_FrameQueue_add 36 = oPutI kc_Frame 2 39 := rfl
theorem e_FrameQueue_add_36 (a : Nat) (x : Int32) (hk : isK h a kc_Frame = true) : (WP Gm j_FrameQueue_add 36 (ls) (.inl x :: .inr (.inl (some a)) :: st) h Q) = (WP Gm j_FrameQueue_add 39 (ls) (st) (sI h a 2 x) Q) := (WP_at c_FrameQueue_add_36 _ _ _ _).trans (congrArg (fun o => ndX Gm (WP Gm) j_FrameQueue_add 36 o Q) (if_pos hk))
theorem c_FrameQueue_add_39 : mCode j_FrameQueue_add 39 = oAld 6 41 := rfl
theorem e_FrameQueue_add_39 (a0 a1 a2 a3 a4 a5 : Option MV) (x : Option Nat) : (WP Gm j_FrameQueue_add 39 (a0 :: a1 :: a2 :: a3 :: a4 :: a5 :: some (.inr (.inl x)) :: ls) (st) h Q) = (WP Gm j_FrameQueue_add 41 (a0 :: a1 :: a2 :: a3 :: a4 :: a5 :: some (.inr (.inl x)) :: ls) (.inr (.inl x) :: st) (h) Q) := (WP_at c_FrameQueue_add_39 _ _ _ _)
theorem c_FrameQueue_add_41 : mCode j_FrameQueue_add 41 = oIld 4 43 := rfl
theorem e_FrameQueue_add_41 (a0 a1 a2 a3 : Option MV) (x : Int32) : (WP Gm j_FrameQueue_add 41 (a0 :: a1 :: a2 :: a3 :: some (.inl x) :: ls) (st) h Q) = (WP Gm j_FrameQueue_add 43 (a0 :: a1 :: a2 :: a3 :: some (.inl x) :: ls) (.inl x :: st) (h) Q) := (WP_at c_FrameQueue_add_41 _ _ _ _)
theorem c_FrameQueue_add_43 : mCode j_FrameQueue_add 43 = oPutI kc_Frame 3 46 := rfl
theorem e_FrameQueue_add_43 (a : Nat) (x : Int32) (hk : isK h a kc_Frame = true) : (WP Gm j_FrameQueue_add 43 (ls) (.inl x :: .inr (.inl (some a)) :: st) h Q) = (WP Gm j_FrameQueue_add 46 (ls) (st) (sI h a 3 x) Q) := (WP_at c_FrameQueue_add_43 _ _ _ _).trans (congrArg (fun o => ndX Gm (WP Gm) j_FrameQueue_add 43 o Q) (if_pos hk))
theorem c_FrameQueue_add_46 : mCode j_FrameQueue_add 46 = oAld 6 48 := rfl
theorem e_FrameQueue_add_46 (a0 a1 a2 a3 a4 a5 : Option MV) (x : Option Nat) : (WP Gm j_FrameQueue_add 46 (a0 :: a1 :: a2 :: a3 :: a4 :: a5 :: some (.inr (.inl x)) :: ls) (st) h Q) = (WP Gm j_FrameQueue_add 48 (a0 :: a1 :: a2 :: a3 :: a4 :: a5 :: some (.inr (.inl x)) :: ls) (.inr (.inl x) :: st) (h) Q) := (WP_at c_FrameQueue_add_46 _ _ _ _)
theorem c_FrameQueue_add_48 : mCode j_FrameQueue_add 48 = oIld 5 50 := rfl
theorem e_FrameQueue_add_48 (a0 a1 a2 a3 a4 : Option MV) (x : Int32) : (WP Gm j_FrameQueue_add 48 (a0 :: a1 :: a2 :: a3 :: a4 :: some (.inl x) :: ls) (st) h Q) = (WP Gm j_FrameQueue_add 50 (a0 :: a1 :: a2 :: a3 :: a4 :: some (.inl x) :: ls) (.inl x :: st) (h) Q) := (WP_at c_FrameQueue_add_48 _ _ _ _)
theorem c_FrameQueue_add_50 : mCode j_FrameQueue_add 50 = oPutI kc_Frame 4 53 := rfl
theorem e_FrameQueue_add_50 (a : Nat) (x : Int32) (hk : isK h a kc_Frame = true) : (WP Gm j_FrameQueue_add 50 (ls) (.inl x :: .inr (.inl (some a)) :: st) h Q) = (WP Gm j_FrameQueue_add 53 (ls) (st) (sI h a 4 x) Q) := (WP_at c_FrameQueue_add_50 _ _ _ _).trans (congrArg (fun o => ndX Gm (WP Gm) j_FrameQueue_add 50 o Q) (if_pos hk))
theorem c_FrameQueue_add_53 : mCode j_FrameQueue_add 53 = oAld 0 54 := rfl
theorem e_FrameQueue_add_53 (x : Option Nat) : (WP Gm j_FrameQueue_add 53 (some (.inr (.inl x)) :: ls) (st) h Q) = (WP Gm j_FrameQueue_add 54 (some (.inr (.inl x)) :: ls) (.inr (.inl x) :: st) (h) Q) := (WP_at c_FrameQueue_add_53 _ _ _ _)
theorem c_FrameQueue_add_54 : mCode j_FrameQueue_add 54 = oDup 55 := rfl
theorem e_FrameQueue_add_54 (x : Option Nat) : (WP Gm j_FrameQueue_add 54 (ls) (.inr (.inl x) :: st) h Q) = (WP Gm j_FrameQueue_add 55 (ls) (.inr (.inl x) :: .inr (.inl x) :: st) (h) Q) := (WP_at c_FrameQueue_add_54 _ _ _ _)
theorem c_FrameQueue_add_55 : mCode j_FrameQueue_add 55 = oGetI kc_FrameQueue 1 58 := rfl
theorem e_FrameQueue_add_55 (a : Nat) (hk : isK h a kc_FrameQueue = true) : (WP Gm j_FrameQueue_add 55 (ls) (.inr (.inl (some a)) :: st) h Q) = (WP Gm j_FrameQueue_add 58 (ls) (.inl (gI h a 1) :: st) (h) Q) := (WP_at c_FrameQueue_add_55 _ _ _ _).trans (congrArg (fun o => ndX Gm (WP Gm) j_FrameQueue_add 55 o Q) (if_pos hk))
theorem c_FrameQueue_add_58 : mCode j_FrameQueue_add 58 = oI 1 59 := rfl
theorem e_FrameQueue_add_58  : (WP Gm j_FrameQueue_add 58 (ls) (st) h Q) = (WP Gm j_FrameQueue_add 59 (ls) (.inl 1 :: st) (h) Q) := (WP_at c_FrameQueue_add_58 _ _ _ _)
theorem c_FrameQueue_add_59 : mCode j_FrameQueue_add 59 = oII (fun x y => x + y) 60 := rfl
theorem e_FrameQueue_add_59 (x : Int32) (y : Int32) : (WP Gm j_FrameQueue_add 59 (ls) (.inl y :: .inl x :: st) h Q) = (WP Gm j_FrameQueue_add 60 (ls) (.inl (x + y) :: st) (h) Q) := (WP_at c_FrameQueue_add_59 _ _ _ _)
theorem c_FrameQueue_add_60 : mCode j_FrameQueue_add 60 = oPutI kc_FrameQueue 1 63 := rfl
theorem e_FrameQueue_add_60 (a : Nat) (x : Int32) (hk : isK h a kc_FrameQueue = true) : (WP Gm j_FrameQueue_add 60 (ls) (.inl x :: .inr (.inl (some a)) :: st) h Q) = (WP Gm j_FrameQueue_add 63 (ls) (st) (sI h a 1 x) Q) := (WP_at c_FrameQueue_add_60 _ _ _ _).trans (congrArg (fun o => ndX Gm (WP Gm) j_FrameQueue_add 60 o Q) (if_pos hk))
theorem c_FrameQueue_add_63 : mCode j_FrameQueue_add 63 = oI 1 64 := rfl
theorem e_FrameQueue_add_63  : (WP Gm j_FrameQueue_add 63 (ls) (st) h Q) = (WP Gm j_FrameQueue_add 64 (ls) (.inl 1 :: st) (h) Q) := (WP_at c_FrameQueue_add_63 _ _ _ _)
theorem c_FrameQueue_add_64 : mCode j_FrameQueue_add 64 = oRetZ := rfl
theorem e_FrameQueue_add_64 (x : Int32) (hx : x = 0 ∨ x = 1) : (WP Gm j_FrameQueue_add 64 (ls) ([.inl x]) h Q) = (Q (.inl (some (.inl x))) h) := (WP_at c_FrameQueue_add_64 _ _ _ _).trans (congrArg (fun o => ndX Gm (WP Gm) j_FrameQueue_add 64 o Q) (if_pos (by rcases hx with rfl | rfl <;> rfl)))
theorem c_FrameQueue_removeFirst_0 : mCode j_FrameQueue_removeFirst 0 = oAld 0 1 := rfl
theorem e_FrameQueue_removeFirst_0 (x : Option Nat) : (WP Gm j_FrameQueue_removeFirst 0 (some (.inr (.inl x)) :: ls) (st) h Q) = (WP Gm j_FrameQueue_removeFirst 1 (some (.inr (.inl x)) :: ls) (.inr (.inl x) :: st) (h) Q) := (WP_at c_FrameQueue_removeFirst_0 _ _ _ _)
theorem c_FrameQueue_removeFirst_1 : mCode j_FrameQueue_removeFirst 1 = oGetI kc_FrameQueue 1 4 := rfl
theorem e_FrameQueue_removeFirst_1 (a : Nat) (hk : isK h a kc_FrameQueue = true) : (WP Gm j_FrameQueue_removeFirst 1 (ls) (.inr (.inl (some a)) :: st) h Q) = (WP Gm j_FrameQueue_removeFirst 4 (ls) (.inl (gI h a 1) :: st) (h) Q) := (WP_at c_FrameQueue_removeFirst_1 _ _ _ _).trans (congrArg (fun o => ndX Gm (WP Gm) j_FrameQueue_removeFirst 1 o Q) (if_pos hk))
theorem c_FrameQueue_removeFirst_4 : mCode j_FrameQueue_removeFirst 4 = oIf (fun x => decide (0 < x)) 8 7 := rfl
theorem e_FrameQueue_removeFirst_4 (x : Int32) : (WP Gm j_FrameQueue_removeFirst 4 (ls) (.inl x :: st) h Q) = (if 0 < x then WP Gm j_FrameQueue_removeFirst 8 (ls) (st) (h) Q else WP Gm j_FrameQueue_removeFirst 7 (ls) (st) (h) Q) := (WP_at c_FrameQueue_removeFirst_4 _ _ _ _).trans (nd_if rfl _ _ _ _)
theorem c_FrameQueue_removeFirst_7 : mCode j_FrameQueue_removeFirst 7 = oRet := rfl
theorem e_FrameQueue_removeFirst_7  : (WP Gm j_FrameQueue_removeFirst 7 (ls) ([]) h Q) = (Q (.inl none) h) := (WP_at c_FrameQueue_removeFirst_7 _ _ _ _)
theorem c_FrameQueue_removeFirst_8 : mCode j_FrameQueue_removeFirst 8 = oAld 0 9 := rfl
theorem e_FrameQueue_removeFirst_8 (x : Option Nat) : (WP Gm j_FrameQueue_removeFirst 8 (some (.inr (.inl x)) :: ls) (st) h Q) = (WP Gm j_FrameQueue_removeFirst 9 (some (.inr (.inl x)) :: ls) (.inr (.inl x) :: st) (h) Q) := (WP_at c_FrameQueue_removeFirst_8 _ _ _ _)
theorem c_FrameQueue_removeFirst_9 : mCode j_FrameQueue_removeFirst 9 = oGetR kc_FrameQueue 0 12 := rfl
theorem e_FrameQueue_removeFirst_9 (a : Nat) (hk : isK h a kc_FrameQueue = true) : (WP Gm j_FrameQueue_removeFirst 9 (ls) (.inr (.inl (some a)) :: st) h Q) = (WP Gm j_FrameQueue_removeFirst 12 (ls) (.inr (.inl (gR h a 0)) :: st) (h) Q) := (WP_at c_FrameQueue_removeFirst_9 _ _ _ _).trans (congrArg (fun o => ndX Gm (WP Gm) j_FrameQueue_removeFirst 9 o Q) (if_pos hk))
theorem c_FrameQueue_removeFirst_12 : mCode j_FrameQueue_removeFirst 12 = oI 0 13 := rfl
theorem e_FrameQueue_removeFirst_12  : (WP Gm j_FrameQueue_removeFirst 12 (ls) (st) h Q) = (WP Gm j_FrameQueue_removeFirst 13 (ls) (.inl 0 :: st) (h) Q) := (WP_at c_FrameQueue_removeFirst_12 _ _ _ _)
theorem c_FrameQueue_removeFirst_13 : mCode j_FrameQueue_removeFirst 13 = oAal 3 14 := rfl
theorem e_FrameQueue_removeFirst_13 (a : Nat) (i : Int32) (hk : isK h a 103 = true) (hi : inL h a i = true) : (WP Gm j_FrameQueue_removeFirst 13 (ls) (.inl i :: .inr (.inl (some a)) :: st) h Q) = (WP Gm j_FrameQueue_removeFirst 14 (ls) (.inr (.inl (gR h a i.toNatClampNeg)) :: st) (h) Q) := (WP_at c_FrameQueue_removeFirst_13 _ _ _ _).trans (congrArg (fun o => ndX Gm (WP Gm) j_FrameQueue_removeFirst 13 o Q) (if_pos (by rw [hk, hi]; rfl)))
theorem c_FrameQueue_removeFirst_14 : mCode j_FrameQueue_removeFirst 14 = oAst 1 15 := rfl
theorem e_FrameQueue_removeFirst_14 (x : Option Nat) : (WP Gm j_FrameQueue_removeFirst 14 (ls) (.inr (.inl x) :: st) h Q) = (WP Gm j_FrameQueue_removeFirst 15 (lSet1 ls 1 (some (.inr (.inl x)))) (st) (h) Q) := (WP_at c_FrameQueue_removeFirst_14 _ _ _ _)
theorem c_FrameQueue_removeFirst_15 : mCode j_FrameQueue_removeFirst 15 = oI 1 16 := rfl
theorem e_FrameQueue_removeFirst_15  : (WP Gm j_FrameQueue_removeFirst 15 (ls) (st) h Q) = (WP Gm j_FrameQueue_removeFirst 16 (ls) (.inl 1 :: st) (h) Q) := (WP_at c_FrameQueue_removeFirst_15 _ _ _ _)
theorem c_FrameQueue_removeFirst_16 : mCode j_FrameQueue_removeFirst 16 = oIst 2 17 := rfl
theorem e_FrameQueue_removeFirst_16 (x : Int32) : (WP Gm j_FrameQueue_removeFirst 16 (ls) (.inl x :: st) h Q) = (WP Gm j_FrameQueue_removeFirst 17 (lSet1 ls 2 (some (.inl x))) (st) (h) Q) := (WP_at c_FrameQueue_removeFirst_16 _ _ _ _)
theorem c_FrameQueue_removeFirst_17 : mCode j_FrameQueue_removeFirst 17 = oIld 2 18 := rfl
theorem e_FrameQueue_removeFirst_17 (a0 a1 : Option MV) (x : Int32) : (WP Gm j_FrameQueue_removeFirst 17 (a0 :: a1 :: some (.inl x) :: ls) (st) h Q) = (WP Gm j_FrameQueue_removeFirst 18 (a0 :: a1 :: some (.inl x) :: ls) (.inl x :: st) (h) Q) := (WP_at c_FrameQueue_removeFirst_17 _ _ _ _)
theorem c_FrameQueue_removeFirst_18 : mCode j_FrameQueue_removeFirst 18 = oAld 0 19 := rfl
theorem e_FrameQueue_removeFirst_18 (x : Option Nat) : (WP Gm j_FrameQueue_removeFirst 18 (some (.inr (.inl x)) :: ls) (st) h Q) = (WP Gm j_FrameQueue_removeFirst 19 (some (.inr (.inl x)) :: ls) (.inr (.inl x) :: st) (h) Q) := (WP_at c_FrameQueue_removeFirst_18 _ _ _ _)
theorem c_FrameQueue_removeFirst_19 : mCode j_FrameQueue_removeFirst 19 = oGetI kc_FrameQueue 1 22 := rfl
theorem e_FrameQueue_removeFirst_19 (a : Nat) (hk : isK h a kc_FrameQueue = true) : (WP Gm j_FrameQueue_removeFirst 19 (ls) (.inr (.inl (some a)) :: st) h Q) = (WP Gm j_FrameQueue_removeFirst 22 (ls) (.inl (gI h a 1) :: st) (h) Q) := (WP_at c_FrameQueue_removeFirst_19 _ _ _ _).trans (congrArg (fun o => ndX Gm (WP Gm) j_FrameQueue_removeFirst 19 o Q) (if_pos hk))
theorem c_FrameQueue_removeFirst_22 : mCode j_FrameQueue_removeFirst 22 = oIC (fun x y => decide (y ≤ x)) 45 25 := rfl
theorem e_FrameQueue_removeFirst_22 (x y : Int32) : (WP Gm j_FrameQueue_removeFirst 22 (ls) (.inl y :: .inl x :: st) h Q) = (if y ≤ x then WP Gm j_FrameQueue_removeFirst 45 (ls) (st) (h) Q else WP Gm j_FrameQueue_removeFirst 25 (ls) (st) (h) Q) := (WP_at c_FrameQueue_removeFirst_22 _ _ _ _).trans (nd_ic rfl _ _ _ _)
theorem c_FrameQueue_removeFirst_25 : mCode j_FrameQueue_removeFirst 25 = oAld 0 26 := rfl
theorem e_FrameQueue_removeFirst_25 (x : Option Nat) : (WP Gm j_FrameQueue_removeFirst 25 (some (.inr (.inl x)) :: ls) (st) h Q) = (WP Gm j_FrameQueue_removeFirst 26 (some (.inr (.inl x)) :: ls) (.inr (.inl x) :: st) (h) Q) := (WP_at c_FrameQueue_removeFirst_25 _ _ _ _)
theorem c_FrameQueue_removeFirst_26 : mCode j_FrameQueue_removeFirst 26 = oGetR kc_FrameQueue 0 29 := rfl
theorem e_FrameQueue_removeFirst_26 (a : Nat) (hk : isK h a kc_FrameQueue = true) : (WP Gm j_FrameQueue_removeFirst 26 (ls) (.inr (.inl (some a)) :: st) h Q) = (WP Gm j_FrameQueue_removeFirst 29 (ls) (.inr (.inl (gR h a 0)) :: st) (h) Q) := (WP_at c_FrameQueue_removeFirst_26 _ _ _ _).trans (congrArg (fun o => ndX Gm (WP Gm) j_FrameQueue_removeFirst 26 o Q) (if_pos hk))
theorem c_FrameQueue_removeFirst_29 : mCode j_FrameQueue_removeFirst 29 = oIld 2 30 := rfl
theorem e_FrameQueue_removeFirst_29 (a0 a1 : Option MV) (x : Int32) : (WP Gm j_FrameQueue_removeFirst 29 (a0 :: a1 :: some (.inl x) :: ls) (st) h Q) = (WP Gm j_FrameQueue_removeFirst 30 (a0 :: a1 :: some (.inl x) :: ls) (.inl x :: st) (h) Q) := (WP_at c_FrameQueue_removeFirst_29 _ _ _ _)
theorem c_FrameQueue_removeFirst_30 : mCode j_FrameQueue_removeFirst 30 = oI 1 31 := rfl
theorem e_FrameQueue_removeFirst_30  : (WP Gm j_FrameQueue_removeFirst 30 (ls) (st) h Q) = (WP Gm j_FrameQueue_removeFirst 31 (ls) (.inl 1 :: st) (h) Q) := (WP_at c_FrameQueue_removeFirst_30 _ _ _ _)
theorem c_FrameQueue_removeFirst_31 : mCode j_FrameQueue_removeFirst 31 = oII (fun x y => x - y) 32 := rfl
theorem e_FrameQueue_removeFirst_31 (x : Int32) (y : Int32) : (WP Gm j_FrameQueue_removeFirst 31 (ls) (.inl y :: .inl x :: st) h Q) = (WP Gm j_FrameQueue_removeFirst 32 (ls) (.inl (x - y) :: st) (h) Q) := (WP_at c_FrameQueue_removeFirst_31 _ _ _ _)
theorem c_FrameQueue_removeFirst_32 : mCode j_FrameQueue_removeFirst 32 = oAld 0 33 := rfl
theorem e_FrameQueue_removeFirst_32 (x : Option Nat) : (WP Gm j_FrameQueue_removeFirst 32 (some (.inr (.inl x)) :: ls) (st) h Q) = (WP Gm j_FrameQueue_removeFirst 33 (some (.inr (.inl x)) :: ls) (.inr (.inl x) :: st) (h) Q) := (WP_at c_FrameQueue_removeFirst_32 _ _ _ _)
theorem c_FrameQueue_removeFirst_33 : mCode j_FrameQueue_removeFirst 33 = oGetR kc_FrameQueue 0 36 := rfl
theorem e_FrameQueue_removeFirst_33 (a : Nat) (hk : isK h a kc_FrameQueue = true) : (WP Gm j_FrameQueue_removeFirst 33 (ls) (.inr (.inl (some a)) :: st) h Q) = (WP Gm j_FrameQueue_removeFirst 36 (ls) (.inr (.inl (gR h a 0)) :: st) (h) Q) := (WP_at c_FrameQueue_removeFirst_33 _ _ _ _).trans (congrArg (fun o => ndX Gm (WP Gm) j_FrameQueue_removeFirst 33 o Q) (if_pos hk))
theorem c_FrameQueue_removeFirst_36 : mCode j_FrameQueue_removeFirst 36 = oIld 2 37 := rfl
theorem e_FrameQueue_removeFirst_36 (a0 a1 : Option MV) (x : Int32) : (WP Gm j_FrameQueue_removeFirst 36 (a0 :: a1 :: some (.inl x) :: ls) (st) h Q) = (WP Gm j_FrameQueue_removeFirst 37 (a0 :: a1 :: some (.inl x) :: ls) (.inl x :: st) (h) Q) := (WP_at c_FrameQueue_removeFirst_36 _ _ _ _)
theorem c_FrameQueue_removeFirst_37 : mCode j_FrameQueue_removeFirst 37 = oAal 3 38 := rfl
theorem e_FrameQueue_removeFirst_37 (a : Nat) (i : Int32) (hk : isK h a 103 = true) (hi : inL h a i = true) : (WP Gm j_FrameQueue_removeFirst 37 (ls) (.inl i :: .inr (.inl (some a)) :: st) h Q) = (WP Gm j_FrameQueue_removeFirst 38 (ls) (.inr (.inl (gR h a i.toNatClampNeg)) :: st) (h) Q) := (WP_at c_FrameQueue_removeFirst_37 _ _ _ _).trans (congrArg (fun o => ndX Gm (WP Gm) j_FrameQueue_removeFirst 37 o Q) (if_pos (by rw [hk, hi]; rfl)))
theorem c_FrameQueue_removeFirst_38 : mCode j_FrameQueue_removeFirst 38 = oAas 3 kc_Frame 39 := rfl
theorem e_FrameQueue_removeFirst_38 (a : Nat) (i : Int32) (x : Nat) (hk : isK h a 103 = true) (hi : inL h a i = true) (hx : isK h x kc_Frame = true) : (WP Gm j_FrameQueue_removeFirst 38 (ls) (.inr (.inl (some x)) :: .inl i :: .inr (.inl (some a)) :: st) h Q) = (WP Gm j_FrameQueue_removeFirst 39 (ls) (st) (sR h a i.toNatClampNeg (some x)) Q) := (WP_at c_FrameQueue_removeFirst_38 _ _ _ _).trans (congrArg (fun o => ndX Gm (WP Gm) j_FrameQueue_removeFirst 38 o Q) (if_pos (by rw [hk, hi, hx]; rfl)))
theorem c_FrameQueue_removeFirst_39 : mCode j_FrameQueue_removeFirst 39 = oInc 2 1 42 := rfl
theorem e_FrameQueue_removeFirst_39 (a0 a1 : Option MV) (x : Int32) : (WP Gm j_FrameQueue_removeFirst 39 (a0 :: a1 :: some (.inl x) :: ls) (st) h Q) = (WP Gm j_FrameQueue_removeFirst 42 (lSet1 (a0 :: a1 :: some (.inl x) :: ls) 2 (some (.inl (x + 1)))) (st) (h) Q) := (WP_at c_FrameQueue_removeFirst_39 _ _ _ _)
theorem c_FrameQueue_removeFirst_42 : mCode j_FrameQueue_removeFirst 42 = oGo 17 := rfl
theorem e_FrameQueue_removeFirst_42  : (WP Gm j_FrameQueue_removeFirst 42 (ls) (st) h Q) = (WP Gm j_FrameQueue_removeFirst 17 (ls) (st) (h) Q) := (WP_at c_FrameQueue_removeFirst_42 _ _ _ _)
theorem c_FrameQueue_removeFirst_45 : mCode j_FrameQueue_removeFirst 45 = oAld 0 46 := rfl
theorem e_FrameQueue_removeFirst_45 (x : Option Nat) : (WP Gm j_FrameQueue_removeFirst 45 (some (.inr (.inl x)) :: ls) (st) h Q) = (WP Gm j_FrameQueue_removeFirst 46 (some (.inr (.inl x)) :: ls) (.inr (.inl x) :: st) (h) Q) := (WP_at c_FrameQueue_removeFirst_45 _ _ _ _)
theorem c_FrameQueue_removeFirst_46 : mCode j_FrameQueue_removeFirst 46 = oDup 47 := rfl
theorem e_FrameQueue_removeFirst_46 (x : Option Nat) : (WP Gm j_FrameQueue_removeFirst 46 (ls) (.inr (.inl x) :: st) h Q) = (WP Gm j_FrameQueue_removeFirst 47 (ls) (.inr (.inl x) :: .inr (.inl x) :: st) (h) Q) := (WP_at c_FrameQueue_removeFirst_46 _ _ _ _)
theorem c_FrameQueue_removeFirst_47 : mCode j_FrameQueue_removeFirst 47 = oGetI kc_FrameQueue 1 50 := rfl
theorem e_FrameQueue_removeFirst_47 (a : Nat) (hk : isK h a kc_FrameQueue = true) : (WP Gm j_FrameQueue_removeFirst 47 (ls) (.inr (.inl (some a)) :: st) h Q) = (WP Gm j_FrameQueue_removeFirst 50 (ls) (.inl (gI h a 1) :: st) (h) Q) := (WP_at c_FrameQueue_removeFirst_47 _ _ _ _).trans (congrArg (fun o => ndX Gm (WP Gm) j_FrameQueue_removeFirst 47 o Q) (if_pos hk))
theorem c_FrameQueue_removeFirst_50 : mCode j_FrameQueue_removeFirst 50 = oI 1 51 := rfl
theorem e_FrameQueue_removeFirst_50  : (WP Gm j_FrameQueue_removeFirst 50 (ls) (st) h Q) = (WP Gm j_FrameQueue_removeFirst 51 (ls) (.inl 1 :: st) (h) Q) := (WP_at c_FrameQueue_removeFirst_50 _ _ _ _)
theorem c_FrameQueue_removeFirst_51 : mCode j_FrameQueue_removeFirst 51 = oII (fun x y => x - y) 52 := rfl
theorem e_FrameQueue_removeFirst_51 (x : Int32) (y : Int32) : (WP Gm j_FrameQueue_removeFirst 51 (ls) (.inl y :: .inl x :: st) h Q) = (WP Gm j_FrameQueue_removeFirst 52 (ls) (.inl (x - y) :: st) (h) Q) := (WP_at c_FrameQueue_removeFirst_51 _ _ _ _)
theorem c_FrameQueue_removeFirst_52 : mCode j_FrameQueue_removeFirst 52 = oPutI kc_FrameQueue 1 55 := rfl
theorem e_FrameQueue_removeFirst_52 (a : Nat) (x : Int32) (hk : isK h a kc_FrameQueue = true) : (WP Gm j_FrameQueue_removeFirst 52 (ls) (.inl x :: .inr (.inl (some a)) :: st) h Q) = (WP Gm j_FrameQueue_removeFirst 55 (ls) (st) (sI h a 1 x) Q) := (WP_at c_FrameQueue_removeFirst_52 _ _ _ _).trans (congrArg (fun o => ndX Gm (WP Gm) j_FrameQueue_removeFirst 52 o Q) (if_pos hk))
theorem c_FrameQueue_removeFirst_55 : mCode j_FrameQueue_removeFirst 55 = oAld 0 56 := rfl
theorem e_FrameQueue_removeFirst_55 (x : Option Nat) : (WP Gm j_FrameQueue_removeFirst 55 (some (.inr (.inl x)) :: ls) (st) h Q) = (WP Gm j_FrameQueue_removeFirst 56 (some (.inr (.inl x)) :: ls) (.inr (.inl x) :: st) (h) Q) := (WP_at c_FrameQueue_removeFirst_55 _ _ _ _)
theorem c_FrameQueue_removeFirst_56 : mCode j_FrameQueue_removeFirst 56 = oGetR kc_FrameQueue 0 59 := rfl
theorem e_FrameQueue_removeFirst_56 (a : Nat) (hk : isK h a kc_FrameQueue = true) : (WP Gm j_FrameQueue_removeFirst 56 (ls) (.inr (.inl (some a)) :: st) h Q) = (WP Gm j_FrameQueue_removeFirst 59 (ls) (.inr (.inl (gR h a 0)) :: st) (h) Q) := (WP_at c_FrameQueue_removeFirst_56 _ _ _ _).trans (congrArg (fun o => ndX Gm (WP Gm) j_FrameQueue_removeFirst 56 o Q) (if_pos hk))
theorem c_FrameQueue_removeFirst_59 : mCode j_FrameQueue_removeFirst 59 = oAld 0 60 := rfl
theorem e_FrameQueue_removeFirst_59 (x : Option Nat) : (WP Gm j_FrameQueue_removeFirst 59 (some (.inr (.inl x)) :: ls) (st) h Q) = (WP Gm j_FrameQueue_removeFirst 60 (some (.inr (.inl x)) :: ls) (.inr (.inl x) :: st) (h) Q) := (WP_at c_FrameQueue_removeFirst_59 _ _ _ _)
theorem c_FrameQueue_removeFirst_60 : mCode j_FrameQueue_removeFirst 60 = oGetI kc_FrameQueue 1 63 := rfl
theorem e_FrameQueue_removeFirst_60 (a : Nat) (hk : isK h a kc_FrameQueue = true) : (WP Gm j_FrameQueue_removeFirst 60 (ls) (.inr (.inl (some a)) :: st) h Q) = (WP Gm j_FrameQueue_removeFirst 63 (ls) (.inl (gI h a 1) :: st) (h) Q) := (WP_at c_FrameQueue_removeFirst_60 _ _ _ _).trans (congrArg (fun o => ndX Gm (WP Gm) j_FrameQueue_removeFirst 60 o Q) (if_pos hk))
theorem c_FrameQueue_removeFirst_63 : mCode j_FrameQueue_removeFirst 63 = oAld 1 64 := rfl
theorem e_FrameQueue_removeFirst_63 (a0 : Option MV) (x : Option Nat) : (WP Gm j_FrameQueue_removeFirst 63 (a0 :: some (.inr (.inl x)) :: ls) (st) h Q) = (WP Gm j_FrameQueue_removeFirst 64 (a0 :: some (.inr (.inl x)) :: ls) (.inr (.inl x) :: st) (h) Q) := (WP_at c_FrameQueue_removeFirst_63 _ _ _ _)
theorem c_FrameQueue_removeFirst_64 : mCode j_FrameQueue_removeFirst 64 = oAas 3 kc_Frame 65 := rfl
theorem e_FrameQueue_removeFirst_64 (a : Nat) (i : Int32) (x : Nat) (hk : isK h a 103 = true) (hi : inL h a i = true) (hx : isK h x kc_Frame = true) : (WP Gm j_FrameQueue_removeFirst 64 (ls) (.inr (.inl (some x)) :: .inl i :: .inr (.inl (some a)) :: st) h Q) = (WP Gm j_FrameQueue_removeFirst 65 (ls) (st) (sR h a i.toNatClampNeg (some x)) Q) := (WP_at c_FrameQueue_removeFirst_64 _ _ _ _).trans (congrArg (fun o => ndX Gm (WP Gm) j_FrameQueue_removeFirst 64 o Q) (if_pos (by rw [hk, hi, hx]; rfl)))
theorem c_FrameQueue_removeFirst_65 : mCode j_FrameQueue_removeFirst 65 = oRet := rfl
theorem e_FrameQueue_removeFirst_65  : (WP Gm j_FrameQueue_removeFirst 65 (ls) ([]) h Q) = (Q (.inl none) h) := (WP_at c_FrameQueue_removeFirst_65 _ _ _ _)
theorem c_Land_init_0 : mCode j_Land_init 0 = oAld 0 1 := rfl
theorem e_Land_init_0 (x : Option Nat) : (WP Gm j_Land_init 0 (some (.inr (.inl x)) :: ls) (st) h Q) = (WP Gm j_Land_init 1 (some (.inr (.inl x)) :: ls) (.inr (.inl x) :: st) (h) Q) := (WP_at c_Land_init_0 _ _ _ _)
theorem c_Land_init_1 : mCode j_Land_init 1 = oObj 4 := rfl
theorem e_Land_init_1 (a : Nat) (hc : c8 st = true) : (WP Gm j_Land_init 1 (ls) (.inr (.inl (some a)) :: st) h Q) = (WP Gm j_Land_init 4 (ls) (st) (h) Q) := (WP_at c_Land_init_1 _ _ _ _).trans (congrArg (fun o => ndX Gm (WP Gm) j_Land_init 1 o Q) (if_pos (of_decide_eq_true hc)))
theorem c_Land_init_4 : mCode j_Land_init 4 = oAld 0 5 := rfl
theorem e_Land_init_4 (x : Option Nat) : (WP Gm j_Land_init 4 (some (.inr (.inl x)) :: ls) (st) h Q) = (WP Gm j_Land_init 5 (some (.inr (.inl x)) :: ls) (.inr (.inl x) :: st) (h) Q) := (WP_at c_Land_init_4 _ _ _ _)
theorem c_Land_init_5 : mCode j_Land_init 5 = oI 8 7 := rfl
theorem e_Land_init_5  : (WP Gm j_Land_init 5 (ls) (st) h Q) = (WP Gm j_Land_init 7 (ls) (.inl 8 :: st) (h) Q) := (WP_at c_Land_init_5 _ _ _ _)
theorem c_Land_init_7 : mCode j_Land_init 7 = oNewA cM sM 2 10 := rfl
theorem e_Land_init_7 (i : Int32) (hi : 0 ≤ i ∧ i.toNatClampNeg ≤ 1000000) (hr : okR cM sM h 1 i.toNatClampNeg = true) : (WP Gm j_Land_init 7 (ls) (.inl i :: st) h Q) = (WP Gm j_Land_init 10 (ls) (.inr (.inl (some (nx h))) :: st) (hN h (100 + 2) i.toNatClampNeg i.toNatClampNeg) Q) := (WP_at c_Land_init_7 _ _ _ _).trans (congrArg (fun o => ndX Gm (WP Gm) j_Land_init 7 o Q) (if_pos (by rw [hr]; simp [hi.1, hi.2])))
theorem c_Land_init_10 : mCode j_Land_init 10 = oPutR kc_Land 0 13 := rfl
theorem e_Land_init_10 (a : Nat) (x : Option Nat) (hk : isK h a kc_Land = true) : (WP Gm j_Land_init 10 (ls) (.inr (.inl x) :: .inr (.inl (some a)) :: st) h Q) = (WP Gm j_Land_init 13 (ls) (st) (sR h a 0 x) Q) := (WP_at c_Land_init_10 _ _ _ _).trans (congrArg (fun o => ndX Gm (WP Gm) j_Land_init 10 o Q) (if_pos hk))
theorem c_Land_init_13 : mCode j_Land_init 13 = oAld 0 14 := rfl
theorem e_Land_init_13 (x : Option Nat) : (WP Gm j_Land_init 13 (some (.inr (.inl x)) :: ls) (st) h Q) = (WP Gm j_Land_init 14 (some (.inr (.inl x)) :: ls) (.inr (.inl x) :: st) (h) Q) := (WP_at c_Land_init_13 _ _ _ _)
theorem c_Land_init_14 : mCode j_Land_init 14 = oI 8 16 := rfl
theorem e_Land_init_14  : (WP Gm j_Land_init 14 (ls) (st) h Q) = (WP Gm j_Land_init 16 (ls) (.inl 8 :: st) (h) Q) := (WP_at c_Land_init_14 _ _ _ _)
theorem c_Land_init_16 : mCode j_Land_init 16 = oNewA cM sM 0 18 := rfl
theorem e_Land_init_16 (i : Int32) (hi : 0 ≤ i ∧ i.toNatClampNeg ≤ 1000000) (hr : okR cM sM h 1 i.toNatClampNeg = true) : (WP Gm j_Land_init 16 (ls) (.inl i :: st) h Q) = (WP Gm j_Land_init 18 (ls) (.inr (.inl (some (nx h))) :: st) (hN h (100 + 0) i.toNatClampNeg i.toNatClampNeg) Q) := (WP_at c_Land_init_16 _ _ _ _).trans (congrArg (fun o => ndX Gm (WP Gm) j_Land_init 16 o Q) (if_pos (by rw [hr]; simp [hi.1, hi.2])))
theorem c_Land_init_18 : mCode j_Land_init 18 = oPutR kc_Land 1 21 := rfl
theorem e_Land_init_18 (a : Nat) (x : Option Nat) (hk : isK h a kc_Land = true) : (WP Gm j_Land_init 18 (ls) (.inr (.inl x) :: .inr (.inl (some a)) :: st) h Q) = (WP Gm j_Land_init 21 (ls) (st) (sR h a 1 x) Q) := (WP_at c_Land_init_18 _ _ _ _).trans (congrArg (fun o => ndX Gm (WP Gm) j_Land_init 18 o Q) (if_pos hk))
theorem c_Land_init_21 : mCode j_Land_init 21 = oAld 0 22 := rfl
theorem e_Land_init_21 (x : Option Nat) : (WP Gm j_Land_init 21 (some (.inr (.inl x)) :: ls) (st) h Q) = (WP Gm j_Land_init 22 (some (.inr (.inl x)) :: ls) (.inr (.inl x) :: st) (h) Q) := (WP_at c_Land_init_21 _ _ _ _)
theorem c_Land_init_22 : mCode j_Land_init 22 = oI 0 23 := rfl
theorem e_Land_init_22  : (WP Gm j_Land_init 22 (ls) (st) h Q) = (WP Gm j_Land_init 23 (ls) (.inl 0 :: st) (h) Q) := (WP_at c_Land_init_22 _ _ _ _)
theorem c_Land_init_23 : mCode j_Land_init 23 = oPutI kc_Land 2 26 := rfl
theorem e_Land_init_23 (a : Nat) (x : Int32) (hk : isK h a kc_Land = true) : (WP Gm j_Land_init 23 (ls) (.inl x :: .inr (.inl (some a)) :: st) h Q) = (WP Gm j_Land_init 26 (ls) (st) (sI h a 2 x) Q) := (WP_at c_Land_init_23 _ _ _ _).trans (congrArg (fun o => ndX Gm (WP Gm) j_Land_init 23 o Q) (if_pos hk))
theorem c_Land_init_26 : mCode j_Land_init 26 = oI 0 27 := rfl
theorem e_Land_init_26  : (WP Gm j_Land_init 26 (ls) (st) h Q) = (WP Gm j_Land_init 27 (ls) (.inl 0 :: st) (h) Q) := (WP_at c_Land_init_26 _ _ _ _)
theorem c_Land_init_27 : mCode j_Land_init 27 = oIst 1 28 := rfl
theorem e_Land_init_27 (x : Int32) : (WP Gm j_Land_init 27 (ls) (.inl x :: st) h Q) = (WP Gm j_Land_init 28 (lSet1 ls 1 (some (.inl x))) (st) (h) Q) := (WP_at c_Land_init_27 _ _ _ _)
theorem c_Land_init_28 : mCode j_Land_init 28 = oIld 1 29 := rfl
theorem e_Land_init_28 (a0 : Option MV) (x : Int32) : (WP Gm j_Land_init 28 (a0 :: some (.inl x) :: ls) (st) h Q) = (WP Gm j_Land_init 29 (a0 :: some (.inl x) :: ls) (.inl x :: st) (h) Q) := (WP_at c_Land_init_28 _ _ _ _)
theorem c_Land_init_29 : mCode j_Land_init 29 = oI 8 31 := rfl
theorem e_Land_init_29  : (WP Gm j_Land_init 29 (ls) (st) h Q) = (WP Gm j_Land_init 31 (ls) (.inl 8 :: st) (h) Q) := (WP_at c_Land_init_29 _ _ _ _)
theorem c_Land_init_31 : mCode j_Land_init 31 = oIC (fun x y => decide (y ≤ x)) 53 34 := rfl
theorem e_Land_init_31 (x y : Int32) : (WP Gm j_Land_init 31 (ls) (.inl y :: .inl x :: st) h Q) = (if y ≤ x then WP Gm j_Land_init 53 (ls) (st) (h) Q else WP Gm j_Land_init 34 (ls) (st) (h) Q) := (WP_at c_Land_init_31 _ _ _ _).trans (nd_ic rfl _ _ _ _)
theorem c_Land_init_34 : mCode j_Land_init 34 = oAld 0 35 := rfl
theorem e_Land_init_34 (x : Option Nat) : (WP Gm j_Land_init 34 (some (.inr (.inl x)) :: ls) (st) h Q) = (WP Gm j_Land_init 35 (some (.inr (.inl x)) :: ls) (.inr (.inl x) :: st) (h) Q) := (WP_at c_Land_init_34 _ _ _ _)
theorem c_Land_init_35 : mCode j_Land_init 35 = oGetR kc_Land 0 38 := rfl
theorem e_Land_init_35 (a : Nat) (hk : isK h a kc_Land = true) : (WP Gm j_Land_init 35 (ls) (.inr (.inl (some a)) :: st) h Q) = (WP Gm j_Land_init 38 (ls) (.inr (.inl (gR h a 0)) :: st) (h) Q) := (WP_at c_Land_init_35 _ _ _ _).trans (congrArg (fun o => ndX Gm (WP Gm) j_Land_init 35 o Q) (if_pos hk))
theorem c_Land_init_38 : mCode j_Land_init 38 = oIld 1 39 := rfl
theorem e_Land_init_38 (a0 : Option MV) (x : Int32) : (WP Gm j_Land_init 38 (a0 :: some (.inl x) :: ls) (st) h Q) = (WP Gm j_Land_init 39 (a0 :: some (.inl x) :: ls) (.inl x :: st) (h) Q) := (WP_at c_Land_init_38 _ _ _ _)
theorem c_Land_init_39 : mCode j_Land_init 39 = oNew cM sM kc_Node 16 42 := rfl
theorem e_Land_init_39 (hr : okR cM sM h 1 16 = true) : (WP Gm j_Land_init 39 (ls) (st) h Q) = (WP Gm j_Land_init 42 (ls) (.inr (.inl (some (nx h))) :: st) (hN h kc_Node 0 16) Q) := (WP_at c_Land_init_39 _ _ _ _).trans (congrArg (fun o => ndX Gm (WP Gm) j_Land_init 39 o Q) (if_pos hr))
theorem c_Land_init_42 : mCode j_Land_init 42 = oDup 43 := rfl
theorem e_Land_init_42 (x : Option Nat) : (WP Gm j_Land_init 42 (ls) (.inr (.inl x) :: st) h Q) = (WP Gm j_Land_init 43 (ls) (.inr (.inl x) :: .inr (.inl x) :: st) (h) Q) := (WP_at c_Land_init_42 _ _ _ _)
theorem c_Land_init_43 : mCode j_Land_init 43 = oCallV kc_Node j_Node_init 0 (mL j_Node_init) 46 := rfl
theorem e_Land_init_43 (a : Nat) (hk : isK h a kc_Node = true) (hc : c8 st = true) : (WP Gm j_Land_init 43 (ls) (.inr (.inl (some a)) :: st) h Q) = (WP Gm j_Node_init 0 [some (.inr (.inl (some a)))] [] h (kC (fun v h2 => WP Gm j_Land_init 46 ls (v.toList ++ st) h2 Q) (fun E h2 => Q (.inr E) h2))) := (WP_at c_Land_init_43 _ _ _ _).trans (congrArg (fun o => ndX Gm (WP Gm) j_Land_init 43 o Q) (if_pos (by rw [hk, show decide (catS st ≤ 8) = true from hc]; rfl)))
theorem c_Land_init_46 : mCode j_Land_init 46 = oAas 2 kc_Node 47 := rfl
theorem e_Land_init_46 (a : Nat) (i : Int32) (x : Nat) (hk : isK h a 102 = true) (hi : inL h a i = true) (hx : isK h x kc_Node = true) : (WP Gm j_Land_init 46 (ls) (.inr (.inl (some x)) :: .inl i :: .inr (.inl (some a)) :: st) h Q) = (WP Gm j_Land_init 47 (ls) (st) (sR h a i.toNatClampNeg (some x)) Q) := (WP_at c_Land_init_46 _ _ _ _).trans (congrArg (fun o => ndX Gm (WP Gm) j_Land_init 46 o Q) (if_pos (by rw [hk, hi, hx]; rfl)))
theorem c_Land_init_47 : mCode j_Land_init 47 = oInc 1 1 50 := rfl
theorem e_Land_init_47 (a0 : Option MV) (x : Int32) : (WP Gm j_Land_init 47 (a0 :: some (.inl x) :: ls) (st) h Q) = (WP Gm j_Land_init 50 (lSet1 (a0 :: some (.inl x) :: ls) 1 (some (.inl (x + 1)))) (st) (h) Q) := (WP_at c_Land_init_47 _ _ _ _)
theorem c_Land_init_50 : mCode j_Land_init 50 = oGo 28 := rfl
theorem e_Land_init_50  : (WP Gm j_Land_init 50 (ls) (st) h Q) = (WP Gm j_Land_init 28 (ls) (st) (h) Q) := (WP_at c_Land_init_50 _ _ _ _)
theorem c_Land_init_53 : mCode j_Land_init 53 = oRet := rfl
theorem e_Land_init_53  : (WP Gm j_Land_init 53 (ls) ([]) h Q) = (Q (.inl none) h) := (WP_at c_Land_init_53 _ _ _ _)
theorem c_Land_isNode_0 : mCode j_Land_isNode 0 = oIld 1 1 := rfl
theorem e_Land_isNode_0 (a0 : Option MV) (x : Int32) : (WP Gm j_Land_isNode 0 (a0 :: some (.inl x) :: ls) (st) h Q) = (WP Gm j_Land_isNode 1 (a0 :: some (.inl x) :: ls) (.inl x :: st) (h) Q) := (WP_at c_Land_isNode_0 _ _ _ _)
theorem c_Land_isNode_1 : mCode j_Land_isNode 1 = oIf (fun x => decide (x < 0)) 16 4 := rfl
theorem e_Land_isNode_1 (x : Int32) : (WP Gm j_Land_isNode 1 (ls) (.inl x :: st) h Q) = (if x < 0 then WP Gm j_Land_isNode 16 (ls) (st) (h) Q else WP Gm j_Land_isNode 4 (ls) (st) (h) Q) := (WP_at c_Land_isNode_1 _ _ _ _).trans (nd_if rfl _ _ _ _)
theorem c_Land_isNode_4 : mCode j_Land_isNode 4 = oIld 1 5 := rfl
theorem e_Land_isNode_4 (a0 : Option MV) (x : Int32) : (WP Gm j_Land_isNode 4 (a0 :: some (.inl x) :: ls) (st) h Q) = (WP Gm j_Land_isNode 5 (a0 :: some (.inl x) :: ls) (.inl x :: st) (h) Q) := (WP_at c_Land_isNode_4 _ _ _ _)
theorem c_Land_isNode_5 : mCode j_Land_isNode 5 = oAld 0 6 := rfl
theorem e_Land_isNode_5 (x : Option Nat) : (WP Gm j_Land_isNode 5 (some (.inr (.inl x)) :: ls) (st) h Q) = (WP Gm j_Land_isNode 6 (some (.inr (.inl x)) :: ls) (.inr (.inl x) :: st) (h) Q) := (WP_at c_Land_isNode_5 _ _ _ _)
theorem c_Land_isNode_6 : mCode j_Land_isNode 6 = oGetI kc_Land 2 9 := rfl
theorem e_Land_isNode_6 (a : Nat) (hk : isK h a kc_Land = true) : (WP Gm j_Land_isNode 6 (ls) (.inr (.inl (some a)) :: st) h Q) = (WP Gm j_Land_isNode 9 (ls) (.inl (gI h a 2) :: st) (h) Q) := (WP_at c_Land_isNode_6 _ _ _ _).trans (congrArg (fun o => ndX Gm (WP Gm) j_Land_isNode 6 o Q) (if_pos hk))
theorem c_Land_isNode_9 : mCode j_Land_isNode 9 = oIC (fun x y => decide (y ≤ x)) 16 12 := rfl
theorem e_Land_isNode_9 (x y : Int32) : (WP Gm j_Land_isNode 9 (ls) (.inl y :: .inl x :: st) h Q) = (if y ≤ x then WP Gm j_Land_isNode 16 (ls) (st) (h) Q else WP Gm j_Land_isNode 12 (ls) (st) (h) Q) := (WP_at c_Land_isNode_9 _ _ _ _).trans (nd_ic rfl _ _ _ _)
theorem c_Land_isNode_12 : mCode j_Land_isNode 12 = oI 1 13 := rfl
theorem e_Land_isNode_12  : (WP Gm j_Land_isNode 12 (ls) (st) h Q) = (WP Gm j_Land_isNode 13 (ls) (.inl 1 :: st) (h) Q) := (WP_at c_Land_isNode_12 _ _ _ _)
theorem c_Land_isNode_13 : mCode j_Land_isNode 13 = oGo 17 := rfl
theorem e_Land_isNode_13  : (WP Gm j_Land_isNode 13 (ls) (st) h Q) = (WP Gm j_Land_isNode 17 (ls) (st) (h) Q) := (WP_at c_Land_isNode_13 _ _ _ _)
theorem c_Land_isNode_16 : mCode j_Land_isNode 16 = oI 0 17 := rfl
theorem e_Land_isNode_16  : (WP Gm j_Land_isNode 16 (ls) (st) h Q) = (WP Gm j_Land_isNode 17 (ls) (.inl 0 :: st) (h) Q) := (WP_at c_Land_isNode_16 _ _ _ _)
theorem c_Land_isNode_17 : mCode j_Land_isNode 17 = oRetZ := rfl
theorem e_Land_isNode_17 (x : Int32) (hx : x = 0 ∨ x = 1) : (WP Gm j_Land_isNode 17 (ls) ([.inl x]) h Q) = (Q (.inl (some (.inl x))) h) := (WP_at c_Land_isNode_17 _ _ _ _).trans (congrArg (fun o => ndX Gm (WP Gm) j_Land_isNode 17 o Q) (if_pos (by rcases hx with rfl | rfl <;> rfl)))
theorem c_Land_everyone_0 : mCode j_Land_everyone 0 = oI 1 1 := rfl
theorem e_Land_everyone_0  : (WP Gm j_Land_everyone 0 (ls) (st) h Q) = (WP Gm j_Land_everyone 1 (ls) (.inl 1 :: st) (h) Q) := (WP_at c_Land_everyone_0 _ _ _ _)
theorem c_Land_everyone_1 : mCode j_Land_everyone 1 = oAld 0 2 := rfl
theorem e_Land_everyone_1 (x : Option Nat) : (WP Gm j_Land_everyone 1 (some (.inr (.inl x)) :: ls) (st) h Q) = (WP Gm j_Land_everyone 2 (some (.inr (.inl x)) :: ls) (.inr (.inl x) :: st) (h) Q) := (WP_at c_Land_everyone_1 _ _ _ _)
theorem c_Land_everyone_2 : mCode j_Land_everyone 2 = oGetI kc_Land 2 5 := rfl
theorem e_Land_everyone_2 (a : Nat) (hk : isK h a kc_Land = true) : (WP Gm j_Land_everyone 2 (ls) (.inr (.inl (some a)) :: st) h Q) = (WP Gm j_Land_everyone 5 (ls) (.inl (gI h a 2) :: st) (h) Q) := (WP_at c_Land_everyone_2 _ _ _ _).trans (congrArg (fun o => ndX Gm (WP Gm) j_Land_everyone 2 o Q) (if_pos hk))
theorem c_Land_everyone_5 : mCode j_Land_everyone 5 = oII (fun x y => x <<< (y &&& 31)) 6 := rfl
theorem e_Land_everyone_5 (x : Int32) (y : Int32) : (WP Gm j_Land_everyone 5 (ls) (.inl y :: .inl x :: st) h Q) = (WP Gm j_Land_everyone 6 (ls) (.inl (x <<< (y &&& 31)) :: st) (h) Q) := (WP_at c_Land_everyone_5 _ _ _ _)
theorem c_Land_everyone_6 : mCode j_Land_everyone 6 = oI 1 7 := rfl
theorem e_Land_everyone_6  : (WP Gm j_Land_everyone 6 (ls) (st) h Q) = (WP Gm j_Land_everyone 7 (ls) (.inl 1 :: st) (h) Q) := (WP_at c_Land_everyone_6 _ _ _ _)
theorem c_Land_everyone_7 : mCode j_Land_everyone 7 = oII (fun x y => x - y) 8 := rfl
theorem e_Land_everyone_7 (x : Int32) (y : Int32) : (WP Gm j_Land_everyone 7 (ls) (.inl y :: .inl x :: st) h Q) = (WP Gm j_Land_everyone 8 (ls) (.inl (x - y) :: st) (h) Q) := (WP_at c_Land_everyone_7 _ _ _ _)
theorem c_Land_everyone_8 : mCode j_Land_everyone 8 = oRetI := rfl
theorem e_Land_everyone_8 (x : Int32) : (WP Gm j_Land_everyone 8 (ls) ([.inl x]) h Q) = (Q (.inl (some (.inl x))) h) := (WP_at c_Land_everyone_8 _ _ _ _)
theorem c_Land_add_0 : mCode j_Land_add 0 = oAld 0 1 := rfl
theorem e_Land_add_0 (x : Option Nat) : (WP Gm j_Land_add 0 (some (.inr (.inl x)) :: ls) (st) h Q) = (WP Gm j_Land_add 1 (some (.inr (.inl x)) :: ls) (.inr (.inl x) :: st) (h) Q) := (WP_at c_Land_add_0 _ _ _ _)
theorem c_Land_add_1 : mCode j_Land_add 1 = oGetI kc_Land 2 4 := rfl
theorem e_Land_add_1 (a : Nat) (hk : isK h a kc_Land = true) : (WP Gm j_Land_add 1 (ls) (.inr (.inl (some a)) :: st) h Q) = (WP Gm j_Land_add 4 (ls) (.inl (gI h a 2) :: st) (h) Q) := (WP_at c_Land_add_1 _ _ _ _).trans (congrArg (fun o => ndX Gm (WP Gm) j_Land_add 1 o Q) (if_pos hk))
theorem c_Land_add_4 : mCode j_Land_add 4 = oIst 5 6 := rfl
theorem e_Land_add_4 (x : Int32) : (WP Gm j_Land_add 4 (ls) (.inl x :: st) h Q) = (WP Gm j_Land_add 6 (lSet1 ls 5 (some (.inl x))) (st) (h) Q) := (WP_at c_Land_add_4 _ _ _ _)
theorem c_Land_add_6 : mCode j_Land_add 6 = oAld 0 7 := rfl
theorem e_Land_add_6 (x : Option Nat) : (WP Gm j_Land_add 6 (some (.inr (.inl x)) :: ls) (st) h Q) = (WP Gm j_Land_add 7 (some (.inr (.inl x)) :: ls) (.inr (.inl x) :: st) (h) Q) := (WP_at c_Land_add_6 _ _ _ _)
theorem c_Land_add_7 : mCode j_Land_add 7 = oDup 8 := rfl
theorem e_Land_add_7 (x : Option Nat) : (WP Gm j_Land_add 7 (ls) (.inr (.inl x) :: st) h Q) = (WP Gm j_Land_add 8 (ls) (.inr (.inl x) :: .inr (.inl x) :: st) (h) Q) := (WP_at c_Land_add_7 _ _ _ _)
theorem c_Land_add_8 : mCode j_Land_add 8 = oGetI kc_Land 2 11 := rfl
theorem e_Land_add_8 (a : Nat) (hk : isK h a kc_Land = true) : (WP Gm j_Land_add 8 (ls) (.inr (.inl (some a)) :: st) h Q) = (WP Gm j_Land_add 11 (ls) (.inl (gI h a 2) :: st) (h) Q) := (WP_at c_Land_add_8 _ _ _ _).trans (congrArg (fun o => ndX Gm (WP Gm) j_Land_add 8 o Q) (if_pos hk))
theorem c_Land_add_11 : mCode j_Land_add 11 = oI 1 12 := rfl
theorem e_Land_add_11  : (WP Gm j_Land_add 11 (ls) (st) h Q) = (WP Gm j_Land_add 12 (ls) (.inl 1 :: st) (h) Q) := (WP_at c_Land_add_11 _ _ _ _)
theorem c_Land_add_12 : mCode j_Land_add 12 = oII (fun x y => x + y) 13 := rfl
theorem e_Land_add_12 (x : Int32) (y : Int32) : (WP Gm j_Land_add 12 (ls) (.inl y :: .inl x :: st) h Q) = (WP Gm j_Land_add 13 (ls) (.inl (x + y) :: st) (h) Q) := (WP_at c_Land_add_12 _ _ _ _)
theorem c_Land_add_13 : mCode j_Land_add 13 = oPutI kc_Land 2 16 := rfl
theorem e_Land_add_13 (a : Nat) (x : Int32) (hk : isK h a kc_Land = true) : (WP Gm j_Land_add 13 (ls) (.inl x :: .inr (.inl (some a)) :: st) h Q) = (WP Gm j_Land_add 16 (ls) (st) (sI h a 2 x) Q) := (WP_at c_Land_add_13 _ _ _ _).trans (congrArg (fun o => ndX Gm (WP Gm) j_Land_add 13 o Q) (if_pos hk))
theorem c_Land_add_16 : mCode j_Land_add 16 = oAld 0 17 := rfl
theorem e_Land_add_16 (x : Option Nat) : (WP Gm j_Land_add 16 (some (.inr (.inl x)) :: ls) (st) h Q) = (WP Gm j_Land_add 17 (some (.inr (.inl x)) :: ls) (.inr (.inl x) :: st) (h) Q) := (WP_at c_Land_add_16 _ _ _ _)
theorem c_Land_add_17 : mCode j_Land_add 17 = oGetR kc_Land 0 20 := rfl
theorem e_Land_add_17 (a : Nat) (hk : isK h a kc_Land = true) : (WP Gm j_Land_add 17 (ls) (.inr (.inl (some a)) :: st) h Q) = (WP Gm j_Land_add 20 (ls) (.inr (.inl (gR h a 0)) :: st) (h) Q) := (WP_at c_Land_add_17 _ _ _ _).trans (congrArg (fun o => ndX Gm (WP Gm) j_Land_add 17 o Q) (if_pos hk))
theorem c_Land_add_20 : mCode j_Land_add 20 = oIld 5 22 := rfl
theorem e_Land_add_20 (a0 a1 a2 a3 a4 : Option MV) (x : Int32) : (WP Gm j_Land_add 20 (a0 :: a1 :: a2 :: a3 :: a4 :: some (.inl x) :: ls) (st) h Q) = (WP Gm j_Land_add 22 (a0 :: a1 :: a2 :: a3 :: a4 :: some (.inl x) :: ls) (.inl x :: st) (h) Q) := (WP_at c_Land_add_20 _ _ _ _)
theorem c_Land_add_22 : mCode j_Land_add 22 = oAal 2 23 := rfl
theorem e_Land_add_22 (a : Nat) (i : Int32) (hk : isK h a 102 = true) (hi : inL h a i = true) : (WP Gm j_Land_add 22 (ls) (.inl i :: .inr (.inl (some a)) :: st) h Q) = (WP Gm j_Land_add 23 (ls) (.inr (.inl (gR h a i.toNatClampNeg)) :: st) (h) Q) := (WP_at c_Land_add_22 _ _ _ _).trans (congrArg (fun o => ndX Gm (WP Gm) j_Land_add 22 o Q) (if_pos (by rw [hk, hi]; rfl)))
theorem c_Land_add_23 : mCode j_Land_add 23 = oIld 1 24 := rfl
theorem e_Land_add_23 (a0 : Option MV) (x : Int32) : (WP Gm j_Land_add 23 (a0 :: some (.inl x) :: ls) (st) h Q) = (WP Gm j_Land_add 24 (a0 :: some (.inl x) :: ls) (.inl x :: st) (h) Q) := (WP_at c_Land_add_23 _ _ _ _)
theorem c_Land_add_24 : mCode j_Land_add 24 = oPutI kc_Node 0 27 := rfl
theorem e_Land_add_24 (a : Nat) (x : Int32) (hk : isK h a kc_Node = true) : (WP Gm j_Land_add 24 (ls) (.inl x :: .inr (.inl (some a)) :: st) h Q) = (WP Gm j_Land_add 27 (ls) (st) (sI h a 0 x) Q) := (WP_at c_Land_add_24 _ _ _ _).trans (congrArg (fun o => ndX Gm (WP Gm) j_Land_add 24 o Q) (if_pos hk))
theorem c_Land_add_27 : mCode j_Land_add 27 = oAld 0 28 := rfl
theorem e_Land_add_27 (x : Option Nat) : (WP Gm j_Land_add 27 (some (.inr (.inl x)) :: ls) (st) h Q) = (WP Gm j_Land_add 28 (some (.inr (.inl x)) :: ls) (.inr (.inl x) :: st) (h) Q) := (WP_at c_Land_add_27 _ _ _ _)
theorem c_Land_add_28 : mCode j_Land_add 28 = oGetR kc_Land 0 31 := rfl
theorem e_Land_add_28 (a : Nat) (hk : isK h a kc_Land = true) : (WP Gm j_Land_add 28 (ls) (.inr (.inl (some a)) :: st) h Q) = (WP Gm j_Land_add 31 (ls) (.inr (.inl (gR h a 0)) :: st) (h) Q) := (WP_at c_Land_add_28 _ _ _ _).trans (congrArg (fun o => ndX Gm (WP Gm) j_Land_add 28 o Q) (if_pos hk))
theorem c_Land_add_31 : mCode j_Land_add 31 = oIld 5 33 := rfl
theorem e_Land_add_31 (a0 a1 a2 a3 a4 : Option MV) (x : Int32) : (WP Gm j_Land_add 31 (a0 :: a1 :: a2 :: a3 :: a4 :: some (.inl x) :: ls) (st) h Q) = (WP Gm j_Land_add 33 (a0 :: a1 :: a2 :: a3 :: a4 :: some (.inl x) :: ls) (.inl x :: st) (h) Q) := (WP_at c_Land_add_31 _ _ _ _)
theorem c_Land_add_33 : mCode j_Land_add 33 = oAal 2 34 := rfl
theorem e_Land_add_33 (a : Nat) (i : Int32) (hk : isK h a 102 = true) (hi : inL h a i = true) : (WP Gm j_Land_add 33 (ls) (.inl i :: .inr (.inl (some a)) :: st) h Q) = (WP Gm j_Land_add 34 (ls) (.inr (.inl (gR h a i.toNatClampNeg)) :: st) (h) Q) := (WP_at c_Land_add_33 _ _ _ _).trans (congrArg (fun o => ndX Gm (WP Gm) j_Land_add 33 o Q) (if_pos (by rw [hk, hi]; rfl)))
theorem c_Land_add_34 : mCode j_Land_add 34 = oIld 2 35 := rfl
theorem e_Land_add_34 (a0 a1 : Option MV) (x : Int32) : (WP Gm j_Land_add 34 (a0 :: a1 :: some (.inl x) :: ls) (st) h Q) = (WP Gm j_Land_add 35 (a0 :: a1 :: some (.inl x) :: ls) (.inl x :: st) (h) Q) := (WP_at c_Land_add_34 _ _ _ _)
theorem c_Land_add_35 : mCode j_Land_add 35 = oPutI kc_Node 1 38 := rfl
theorem e_Land_add_35 (a : Nat) (x : Int32) (hk : isK h a kc_Node = true) : (WP Gm j_Land_add 35 (ls) (.inl x :: .inr (.inl (some a)) :: st) h Q) = (WP Gm j_Land_add 38 (ls) (st) (sI h a 1 x) Q) := (WP_at c_Land_add_35 _ _ _ _).trans (congrArg (fun o => ndX Gm (WP Gm) j_Land_add 35 o Q) (if_pos hk))
theorem c_Land_add_38 : mCode j_Land_add 38 = oAld 0 39 := rfl
theorem e_Land_add_38 (x : Option Nat) : (WP Gm j_Land_add 38 (some (.inr (.inl x)) :: ls) (st) h Q) = (WP Gm j_Land_add 39 (some (.inr (.inl x)) :: ls) (.inr (.inl x) :: st) (h) Q) := (WP_at c_Land_add_38 _ _ _ _)
theorem c_Land_add_39 : mCode j_Land_add 39 = oIld 5 41 := rfl
theorem e_Land_add_39 (a0 a1 a2 a3 a4 : Option MV) (x : Int32) : (WP Gm j_Land_add 39 (a0 :: a1 :: a2 :: a3 :: a4 :: some (.inl x) :: ls) (st) h Q) = (WP Gm j_Land_add 41 (a0 :: a1 :: a2 :: a3 :: a4 :: some (.inl x) :: ls) (.inl x :: st) (h) Q) := (WP_at c_Land_add_39 _ _ _ _)
theorem c_Land_add_41 : mCode j_Land_add 41 = oIld 3 42 := rfl
theorem e_Land_add_41 (a0 a1 a2 : Option MV) (x : Int32) : (WP Gm j_Land_add 41 (a0 :: a1 :: a2 :: some (.inl x) :: ls) (st) h Q) = (WP Gm j_Land_add 42 (a0 :: a1 :: a2 :: some (.inl x) :: ls) (.inl x :: st) (h) Q) := (WP_at c_Land_add_41 _ _ _ _)
theorem c_Land_add_42 : mCode j_Land_add 42 = oIld 4 44 := rfl
theorem e_Land_add_42 (a0 a1 a2 a3 : Option MV) (x : Int32) : (WP Gm j_Land_add 42 (a0 :: a1 :: a2 :: a3 :: some (.inl x) :: ls) (st) h Q) = (WP Gm j_Land_add 44 (a0 :: a1 :: a2 :: a3 :: some (.inl x) :: ls) (.inl x :: st) (h) Q) := (WP_at c_Land_add_42 _ _ _ _)
theorem c_Land_add_44 : mCode j_Land_add 44 = oCallV kc_Land j_Land_adjust 3 (mL j_Land_adjust) 47 := rfl
theorem e_Land_add_44 (a : Nat) (x0 : Int32) (x1 : Int32) (x2 : Int32) (hk : isK h a kc_Land = true) (hc : c8 st = true) : (WP Gm j_Land_add 44 (ls) (.inl x2 :: .inl x1 :: .inl x0 :: .inr (.inl (some a)) :: st) h Q) = (WP Gm j_Land_adjust 0 [some (.inr (.inl (some a))), some (.inl x0), some (.inl x1), some (.inl x2)] [] h (kC (fun v h2 => WP Gm j_Land_add 47 ls (v.toList ++ st) h2 Q) (fun E h2 => Q (.inr E) h2))) := (WP_at c_Land_add_44 _ _ _ _).trans (congrArg (fun o => ndX Gm (WP Gm) j_Land_add 44 o Q) (if_pos (by rw [hk, show decide (catS st ≤ 8) = true from hc]; rfl)))
theorem c_Land_add_47 : mCode j_Land_add 47 = oIld 5 49 := rfl
theorem e_Land_add_47 (a0 a1 a2 a3 a4 : Option MV) (x : Int32) : (WP Gm j_Land_add 47 (a0 :: a1 :: a2 :: a3 :: a4 :: some (.inl x) :: ls) (st) h Q) = (WP Gm j_Land_add 49 (a0 :: a1 :: a2 :: a3 :: a4 :: some (.inl x) :: ls) (.inl x :: st) (h) Q) := (WP_at c_Land_add_47 _ _ _ _)
theorem c_Land_add_49 : mCode j_Land_add 49 = oRetI := rfl
theorem e_Land_add_49 (x : Int32) : (WP Gm j_Land_add 49 (ls) ([.inl x]) h Q) = (Q (.inl (some (.inl x))) h) := (WP_at c_Land_add_49 _ _ _ _)
theorem c_Land_put_0 : mCode j_Land_put 0 = oAld 0 1 := rfl
theorem e_Land_put_0 (x : Option Nat) : (WP Gm j_Land_put 0 (some (.inr (.inl x)) :: ls) (st) h Q) = (WP Gm j_Land_put 1 (some (.inr (.inl x)) :: ls) (.inr (.inl x) :: st) (h) Q) := (WP_at c_Land_put_0 _ _ _ _)
theorem c_Land_put_1 : mCode j_Land_put 1 = oGetR kc_Land 0 4 := rfl
theorem e_Land_put_1 (a : Nat) (hk : isK h a kc_Land = true) : (WP Gm j_Land_put 1 (ls) (.inr (.inl (some a)) :: st) h Q) = (WP Gm j_Land_put 4 (ls) (.inr (.inl (gR h a 0)) :: st) (h) Q) := (WP_at c_Land_put_1 _ _ _ _).trans (congrArg (fun o => ndX Gm (WP Gm) j_Land_put 1 o Q) (if_pos hk))
theorem c_Land_put_4 : mCode j_Land_put 4 = oIld 1 5 := rfl
theorem e_Land_put_4 (a0 : Option MV) (x : Int32) : (WP Gm j_Land_put 4 (a0 :: some (.inl x) :: ls) (st) h Q) = (WP Gm j_Land_put 5 (a0 :: some (.inl x) :: ls) (.inl x :: st) (h) Q) := (WP_at c_Land_put_4 _ _ _ _)
theorem c_Land_put_5 : mCode j_Land_put 5 = oAal 2 6 := rfl
theorem e_Land_put_5 (a : Nat) (i : Int32) (hk : isK h a 102 = true) (hi : inL h a i = true) : (WP Gm j_Land_put 5 (ls) (.inl i :: .inr (.inl (some a)) :: st) h Q) = (WP Gm j_Land_put 6 (ls) (.inr (.inl (gR h a i.toNatClampNeg)) :: st) (h) Q) := (WP_at c_Land_put_5 _ _ _ _).trans (congrArg (fun o => ndX Gm (WP Gm) j_Land_put 5 o Q) (if_pos (by rw [hk, hi]; rfl)))
theorem c_Land_put_6 : mCode j_Land_put 6 = oIld 2 7 := rfl
theorem e_Land_put_6 (a0 a1 : Option MV) (x : Int32) : (WP Gm j_Land_put 6 (a0 :: a1 :: some (.inl x) :: ls) (st) h Q) = (WP Gm j_Land_put 7 (a0 :: a1 :: some (.inl x) :: ls) (.inl x :: st) (h) Q) := (WP_at c_Land_put_6 _ _ _ _)
theorem c_Land_put_7 : mCode j_Land_put 7 = oPutI kc_Node 0 10 := rfl
theorem e_Land_put_7 (a : Nat) (x : Int32) (hk : isK h a kc_Node = true) : (WP Gm j_Land_put 7 (ls) (.inl x :: .inr (.inl (some a)) :: st) h Q) = (WP Gm j_Land_put 10 (ls) (st) (sI h a 0 x) Q) := (WP_at c_Land_put_7 _ _ _ _).trans (congrArg (fun o => ndX Gm (WP Gm) j_Land_put 7 o Q) (if_pos hk))
theorem c_Land_put_10 : mCode j_Land_put 10 = oAld 0 11 := rfl
theorem e_Land_put_10 (x : Option Nat) : (WP Gm j_Land_put 10 (some (.inr (.inl x)) :: ls) (st) h Q) = (WP Gm j_Land_put 11 (some (.inr (.inl x)) :: ls) (.inr (.inl x) :: st) (h) Q) := (WP_at c_Land_put_10 _ _ _ _)
theorem c_Land_put_11 : mCode j_Land_put 11 = oGetR kc_Land 0 14 := rfl
theorem e_Land_put_11 (a : Nat) (hk : isK h a kc_Land = true) : (WP Gm j_Land_put 11 (ls) (.inr (.inl (some a)) :: st) h Q) = (WP Gm j_Land_put 14 (ls) (.inr (.inl (gR h a 0)) :: st) (h) Q) := (WP_at c_Land_put_11 _ _ _ _).trans (congrArg (fun o => ndX Gm (WP Gm) j_Land_put 11 o Q) (if_pos hk))
theorem c_Land_put_14 : mCode j_Land_put 14 = oIld 1 15 := rfl
theorem e_Land_put_14 (a0 : Option MV) (x : Int32) : (WP Gm j_Land_put 14 (a0 :: some (.inl x) :: ls) (st) h Q) = (WP Gm j_Land_put 15 (a0 :: some (.inl x) :: ls) (.inl x :: st) (h) Q) := (WP_at c_Land_put_14 _ _ _ _)
theorem c_Land_put_15 : mCode j_Land_put 15 = oAal 2 16 := rfl
theorem e_Land_put_15 (a : Nat) (i : Int32) (hk : isK h a 102 = true) (hi : inL h a i = true) : (WP Gm j_Land_put 15 (ls) (.inl i :: .inr (.inl (some a)) :: st) h Q) = (WP Gm j_Land_put 16 (ls) (.inr (.inl (gR h a i.toNatClampNeg)) :: st) (h) Q) := (WP_at c_Land_put_15 _ _ _ _).trans (congrArg (fun o => ndX Gm (WP Gm) j_Land_put 15 o Q) (if_pos (by rw [hk, hi]; rfl)))
theorem c_Land_put_16 : mCode j_Land_put 16 = oIld 3 17 := rfl
theorem e_Land_put_16 (a0 a1 a2 : Option MV) (x : Int32) : (WP Gm j_Land_put 16 (a0 :: a1 :: a2 :: some (.inl x) :: ls) (st) h Q) = (WP Gm j_Land_put 17 (a0 :: a1 :: a2 :: some (.inl x) :: ls) (.inl x :: st) (h) Q) := (WP_at c_Land_put_16 _ _ _ _)
theorem c_Land_put_17 : mCode j_Land_put 17 = oPutI kc_Node 1 20 := rfl
theorem e_Land_put_17 (a : Nat) (x : Int32) (hk : isK h a kc_Node = true) : (WP Gm j_Land_put 17 (ls) (.inl x :: .inr (.inl (some a)) :: st) h Q) = (WP Gm j_Land_put 20 (ls) (st) (sI h a 1 x) Q) := (WP_at c_Land_put_17 _ _ _ _).trans (congrArg (fun o => ndX Gm (WP Gm) j_Land_put 17 o Q) (if_pos hk))
theorem c_Land_put_20 : mCode j_Land_put 20 = oAld 0 21 := rfl
theorem e_Land_put_20 (x : Option Nat) : (WP Gm j_Land_put 20 (some (.inr (.inl x)) :: ls) (st) h Q) = (WP Gm j_Land_put 21 (some (.inr (.inl x)) :: ls) (.inr (.inl x) :: st) (h) Q) := (WP_at c_Land_put_20 _ _ _ _)
theorem c_Land_put_21 : mCode j_Land_put 21 = oCallV kc_Land j_Land_findHearers 0 (mL j_Land_findHearers) 24 := rfl
theorem e_Land_put_21 (a : Nat) (hk : isK h a kc_Land = true) (hc : c8 st = true) : (WP Gm j_Land_put 21 (ls) (.inr (.inl (some a)) :: st) h Q) = (WP Gm j_Land_findHearers 0 [some (.inr (.inl (some a))), none, none, none] [] h (kC (fun v h2 => WP Gm j_Land_put 24 ls (v.toList ++ st) h2 Q) (fun E h2 => Q (.inr E) h2))) := (WP_at c_Land_put_21 _ _ _ _).trans (congrArg (fun o => ndX Gm (WP Gm) j_Land_put 21 o Q) (if_pos (by rw [hk, show decide (catS st ≤ 8) = true from hc]; rfl)))
theorem c_Land_put_24 : mCode j_Land_put 24 = oRet := rfl
theorem e_Land_put_24  : (WP Gm j_Land_put 24 (ls) ([]) h Q) = (Q (.inl none) h) := (WP_at c_Land_put_24 _ _ _ _)
theorem c_Land_adjust_0 : mCode j_Land_adjust 0 = oAld 0 1 := rfl
theorem e_Land_adjust_0 (x : Option Nat) : (WP Gm j_Land_adjust 0 (some (.inr (.inl x)) :: ls) (st) h Q) = (WP Gm j_Land_adjust 1 (some (.inr (.inl x)) :: ls) (.inr (.inl x) :: st) (h) Q) := (WP_at c_Land_adjust_0 _ _ _ _)
theorem c_Land_adjust_1 : mCode j_Land_adjust 1 = oGetR kc_Land 0 4 := rfl
theorem e_Land_adjust_1 (a : Nat) (hk : isK h a kc_Land = true) : (WP Gm j_Land_adjust 1 (ls) (.inr (.inl (some a)) :: st) h Q) = (WP Gm j_Land_adjust 4 (ls) (.inr (.inl (gR h a 0)) :: st) (h) Q) := (WP_at c_Land_adjust_1 _ _ _ _).trans (congrArg (fun o => ndX Gm (WP Gm) j_Land_adjust 1 o Q) (if_pos hk))
theorem c_Land_adjust_4 : mCode j_Land_adjust 4 = oIld 1 5 := rfl
theorem e_Land_adjust_4 (a0 : Option MV) (x : Int32) : (WP Gm j_Land_adjust 4 (a0 :: some (.inl x) :: ls) (st) h Q) = (WP Gm j_Land_adjust 5 (a0 :: some (.inl x) :: ls) (.inl x :: st) (h) Q) := (WP_at c_Land_adjust_4 _ _ _ _)
theorem c_Land_adjust_5 : mCode j_Land_adjust 5 = oAal 2 6 := rfl
theorem e_Land_adjust_5 (a : Nat) (i : Int32) (hk : isK h a 102 = true) (hi : inL h a i = true) : (WP Gm j_Land_adjust 5 (ls) (.inl i :: .inr (.inl (some a)) :: st) h Q) = (WP Gm j_Land_adjust 6 (ls) (.inr (.inl (gR h a i.toNatClampNeg)) :: st) (h) Q) := (WP_at c_Land_adjust_5 _ _ _ _).trans (congrArg (fun o => ndX Gm (WP Gm) j_Land_adjust 5 o Q) (if_pos (by rw [hk, hi]; rfl)))
theorem c_Land_adjust_6 : mCode j_Land_adjust 6 = oIld 2 7 := rfl
theorem e_Land_adjust_6 (a0 a1 : Option MV) (x : Int32) : (WP Gm j_Land_adjust 6 (a0 :: a1 :: some (.inl x) :: ls) (st) h Q) = (WP Gm j_Land_adjust 7 (a0 :: a1 :: some (.inl x) :: ls) (.inl x :: st) (h) Q) := (WP_at c_Land_adjust_6 _ _ _ _)
theorem c_Land_adjust_7 : mCode j_Land_adjust 7 = oPutI kc_Node 2 10 := rfl
theorem e_Land_adjust_7 (a : Nat) (x : Int32) (hk : isK h a kc_Node = true) : (WP Gm j_Land_adjust 7 (ls) (.inl x :: .inr (.inl (some a)) :: st) h Q) = (WP Gm j_Land_adjust 10 (ls) (st) (sI h a 2 x) Q) := (WP_at c_Land_adjust_7 _ _ _ _).trans (congrArg (fun o => ndX Gm (WP Gm) j_Land_adjust 7 o Q) (if_pos hk))
theorem c_Land_adjust_10 : mCode j_Land_adjust 10 = oAld 0 11 := rfl
theorem e_Land_adjust_10 (x : Option Nat) : (WP Gm j_Land_adjust 10 (some (.inr (.inl x)) :: ls) (st) h Q) = (WP Gm j_Land_adjust 11 (some (.inr (.inl x)) :: ls) (.inr (.inl x) :: st) (h) Q) := (WP_at c_Land_adjust_10 _ _ _ _)
theorem c_Land_adjust_11 : mCode j_Land_adjust 11 = oGetR kc_Land 0 14 := rfl
theorem e_Land_adjust_11 (a : Nat) (hk : isK h a kc_Land = true) : (WP Gm j_Land_adjust 11 (ls) (.inr (.inl (some a)) :: st) h Q) = (WP Gm j_Land_adjust 14 (ls) (.inr (.inl (gR h a 0)) :: st) (h) Q) := (WP_at c_Land_adjust_11 _ _ _ _).trans (congrArg (fun o => ndX Gm (WP Gm) j_Land_adjust 11 o Q) (if_pos hk))
theorem c_Land_adjust_14 : mCode j_Land_adjust 14 = oIld 1 15 := rfl
theorem e_Land_adjust_14 (a0 : Option MV) (x : Int32) : (WP Gm j_Land_adjust 14 (a0 :: some (.inl x) :: ls) (st) h Q) = (WP Gm j_Land_adjust 15 (a0 :: some (.inl x) :: ls) (.inl x :: st) (h) Q) := (WP_at c_Land_adjust_14 _ _ _ _)
theorem c_Land_adjust_15 : mCode j_Land_adjust 15 = oAal 2 16 := rfl
theorem e_Land_adjust_15 (a : Nat) (i : Int32) (hk : isK h a 102 = true) (hi : inL h a i = true) : (WP Gm j_Land_adjust 15 (ls) (.inl i :: .inr (.inl (some a)) :: st) h Q) = (WP Gm j_Land_adjust 16 (ls) (.inr (.inl (gR h a i.toNatClampNeg)) :: st) (h) Q) := (WP_at c_Land_adjust_15 _ _ _ _).trans (congrArg (fun o => ndX Gm (WP Gm) j_Land_adjust 15 o Q) (if_pos (by rw [hk, hi]; rfl)))
theorem c_Land_adjust_16 : mCode j_Land_adjust 16 = oIld 3 17 := rfl
theorem e_Land_adjust_16 (a0 a1 a2 : Option MV) (x : Int32) : (WP Gm j_Land_adjust 16 (a0 :: a1 :: a2 :: some (.inl x) :: ls) (st) h Q) = (WP Gm j_Land_adjust 17 (a0 :: a1 :: a2 :: some (.inl x) :: ls) (.inl x :: st) (h) Q) := (WP_at c_Land_adjust_16 _ _ _ _)
theorem c_Land_adjust_17 : mCode j_Land_adjust 17 = oPutZ kc_Node 3 20 := rfl
theorem e_Land_adjust_17 (a : Nat) (x : Int32) (hk : isK h a kc_Node = true) (hx : x = 0 ∨ x = 1) : (WP Gm j_Land_adjust 17 (ls) (.inl x :: .inr (.inl (some a)) :: st) h Q) = (WP Gm j_Land_adjust 20 (ls) (st) (sI h a 3 x) Q) := (WP_at c_Land_adjust_17 _ _ _ _).trans (congrArg (fun o => ndX Gm (WP Gm) j_Land_adjust 17 o Q) (if_pos (by rw [hk]; rcases hx with rfl | rfl <;> rfl)))
theorem c_Land_adjust_20 : mCode j_Land_adjust 20 = oAld 0 21 := rfl
theorem e_Land_adjust_20 (x : Option Nat) : (WP Gm j_Land_adjust 20 (some (.inr (.inl x)) :: ls) (st) h Q) = (WP Gm j_Land_adjust 21 (some (.inr (.inl x)) :: ls) (.inr (.inl x) :: st) (h) Q) := (WP_at c_Land_adjust_20 _ _ _ _)
theorem c_Land_adjust_21 : mCode j_Land_adjust 21 = oCallV kc_Land j_Land_findHearers 0 (mL j_Land_findHearers) 24 := rfl
theorem e_Land_adjust_21 (a : Nat) (hk : isK h a kc_Land = true) (hc : c8 st = true) : (WP Gm j_Land_adjust 21 (ls) (.inr (.inl (some a)) :: st) h Q) = (WP Gm j_Land_findHearers 0 [some (.inr (.inl (some a))), none, none, none] [] h (kC (fun v h2 => WP Gm j_Land_adjust 24 ls (v.toList ++ st) h2 Q) (fun E h2 => Q (.inr E) h2))) := (WP_at c_Land_adjust_21 _ _ _ _).trans (congrArg (fun o => ndX Gm (WP Gm) j_Land_adjust 21 o Q) (if_pos (by rw [hk, show decide (catS st ≤ 8) = true from hc]; rfl)))
theorem c_Land_adjust_24 : mCode j_Land_adjust 24 = oRet := rfl
theorem e_Land_adjust_24  : (WP Gm j_Land_adjust 24 (ls) ([]) h Q) = (Q (.inl none) h) := (WP_at c_Land_adjust_24 _ _ _ _)
theorem c_Land_findHearers_0 : mCode j_Land_findHearers 0 = oI 0 1 := rfl
theorem e_Land_findHearers_0  : (WP Gm j_Land_findHearers 0 (ls) (st) h Q) = (WP Gm j_Land_findHearers 1 (ls) (.inl 0 :: st) (h) Q) := (WP_at c_Land_findHearers_0 _ _ _ _)
theorem c_Land_findHearers_1 : mCode j_Land_findHearers 1 = oIst 1 2 := rfl
theorem e_Land_findHearers_1 (x : Int32) : (WP Gm j_Land_findHearers 1 (ls) (.inl x :: st) h Q) = (WP Gm j_Land_findHearers 2 (lSet1 ls 1 (some (.inl x))) (st) (h) Q) := (WP_at c_Land_findHearers_1 _ _ _ _)
theorem c_Land_findHearers_2 : mCode j_Land_findHearers 2 = oIld 1 3 := rfl
theorem e_Land_findHearers_2 (a0 : Option MV) (x : Int32) : (WP Gm j_Land_findHearers 2 (a0 :: some (.inl x) :: ls) (st) h Q) = (WP Gm j_Land_findHearers 3 (a0 :: some (.inl x) :: ls) (.inl x :: st) (h) Q) := (WP_at c_Land_findHearers_2 _ _ _ _)
theorem c_Land_findHearers_3 : mCode j_Land_findHearers 3 = oAld 0 4 := rfl
theorem e_Land_findHearers_3 (x : Option Nat) : (WP Gm j_Land_findHearers 3 (some (.inr (.inl x)) :: ls) (st) h Q) = (WP Gm j_Land_findHearers 4 (some (.inr (.inl x)) :: ls) (.inr (.inl x) :: st) (h) Q) := (WP_at c_Land_findHearers_3 _ _ _ _)
theorem c_Land_findHearers_4 : mCode j_Land_findHearers 4 = oGetI kc_Land 2 7 := rfl
theorem e_Land_findHearers_4 (a : Nat) (hk : isK h a kc_Land = true) : (WP Gm j_Land_findHearers 4 (ls) (.inr (.inl (some a)) :: st) h Q) = (WP Gm j_Land_findHearers 7 (ls) (.inl (gI h a 2) :: st) (h) Q) := (WP_at c_Land_findHearers_4 _ _ _ _).trans (congrArg (fun o => ndX Gm (WP Gm) j_Land_findHearers 4 o Q) (if_pos hk))
theorem c_Land_findHearers_7 : mCode j_Land_findHearers 7 = oIC (fun x y => decide (y ≤ x)) 80 10 := rfl
theorem e_Land_findHearers_7 (x y : Int32) : (WP Gm j_Land_findHearers 7 (ls) (.inl y :: .inl x :: st) h Q) = (if y ≤ x then WP Gm j_Land_findHearers 80 (ls) (st) (h) Q else WP Gm j_Land_findHearers 10 (ls) (st) (h) Q) := (WP_at c_Land_findHearers_7 _ _ _ _).trans (nd_ic rfl _ _ _ _)
theorem c_Land_findHearers_10 : mCode j_Land_findHearers 10 = oI 0 11 := rfl
theorem e_Land_findHearers_10  : (WP Gm j_Land_findHearers 10 (ls) (st) h Q) = (WP Gm j_Land_findHearers 11 (ls) (.inl 0 :: st) (h) Q) := (WP_at c_Land_findHearers_10 _ _ _ _)
theorem c_Land_findHearers_11 : mCode j_Land_findHearers 11 = oIst 2 12 := rfl
theorem e_Land_findHearers_11 (x : Int32) : (WP Gm j_Land_findHearers 11 (ls) (.inl x :: st) h Q) = (WP Gm j_Land_findHearers 12 (lSet1 ls 2 (some (.inl x))) (st) (h) Q) := (WP_at c_Land_findHearers_11 _ _ _ _)
theorem c_Land_findHearers_12 : mCode j_Land_findHearers 12 = oI 0 13 := rfl
theorem e_Land_findHearers_12  : (WP Gm j_Land_findHearers 12 (ls) (st) h Q) = (WP Gm j_Land_findHearers 13 (ls) (.inl 0 :: st) (h) Q) := (WP_at c_Land_findHearers_12 _ _ _ _)
theorem c_Land_findHearers_13 : mCode j_Land_findHearers 13 = oIst 3 14 := rfl
theorem e_Land_findHearers_13 (x : Int32) : (WP Gm j_Land_findHearers 13 (ls) (.inl x :: st) h Q) = (WP Gm j_Land_findHearers 14 (lSet1 ls 3 (some (.inl x))) (st) (h) Q) := (WP_at c_Land_findHearers_13 _ _ _ _)
theorem c_Land_findHearers_14 : mCode j_Land_findHearers 14 = oIld 3 15 := rfl
theorem e_Land_findHearers_14 (a0 a1 a2 : Option MV) (x : Int32) : (WP Gm j_Land_findHearers 14 (a0 :: a1 :: a2 :: some (.inl x) :: ls) (st) h Q) = (WP Gm j_Land_findHearers 15 (a0 :: a1 :: a2 :: some (.inl x) :: ls) (.inl x :: st) (h) Q) := (WP_at c_Land_findHearers_14 _ _ _ _)
theorem c_Land_findHearers_15 : mCode j_Land_findHearers 15 = oAld 0 16 := rfl
theorem e_Land_findHearers_15 (x : Option Nat) : (WP Gm j_Land_findHearers 15 (some (.inr (.inl x)) :: ls) (st) h Q) = (WP Gm j_Land_findHearers 16 (some (.inr (.inl x)) :: ls) (.inr (.inl x) :: st) (h) Q) := (WP_at c_Land_findHearers_15 _ _ _ _)
theorem c_Land_findHearers_16 : mCode j_Land_findHearers 16 = oGetI kc_Land 2 19 := rfl
theorem e_Land_findHearers_16 (a : Nat) (hk : isK h a kc_Land = true) : (WP Gm j_Land_findHearers 16 (ls) (.inr (.inl (some a)) :: st) h Q) = (WP Gm j_Land_findHearers 19 (ls) (.inl (gI h a 2) :: st) (h) Q) := (WP_at c_Land_findHearers_16 _ _ _ _).trans (congrArg (fun o => ndX Gm (WP Gm) j_Land_findHearers 16 o Q) (if_pos hk))
theorem c_Land_findHearers_19 : mCode j_Land_findHearers 19 = oIC (fun x y => decide (y ≤ x)) 67 22 := rfl
theorem e_Land_findHearers_19 (x y : Int32) : (WP Gm j_Land_findHearers 19 (ls) (.inl y :: .inl x :: st) h Q) = (if y ≤ x then WP Gm j_Land_findHearers 67 (ls) (st) (h) Q else WP Gm j_Land_findHearers 22 (ls) (st) (h) Q) := (WP_at c_Land_findHearers_19 _ _ _ _).trans (nd_ic rfl _ _ _ _)
theorem c_Land_findHearers_22 : mCode j_Land_findHearers 22 = oIld 3 23 := rfl
theorem e_Land_findHearers_22 (a0 a1 a2 : Option MV) (x : Int32) : (WP Gm j_Land_findHearers 22 (a0 :: a1 :: a2 :: some (.inl x) :: ls) (st) h Q) = (WP Gm j_Land_findHearers 23 (a0 :: a1 :: a2 :: some (.inl x) :: ls) (.inl x :: st) (h) Q) := (WP_at c_Land_findHearers_22 _ _ _ _)
theorem c_Land_findHearers_23 : mCode j_Land_findHearers 23 = oIld 1 24 := rfl
theorem e_Land_findHearers_23 (a0 : Option MV) (x : Int32) : (WP Gm j_Land_findHearers 23 (a0 :: some (.inl x) :: ls) (st) h Q) = (WP Gm j_Land_findHearers 24 (a0 :: some (.inl x) :: ls) (.inl x :: st) (h) Q) := (WP_at c_Land_findHearers_23 _ _ _ _)
theorem c_Land_findHearers_24 : mCode j_Land_findHearers 24 = oIC (fun x y => decide (x = y)) 61 27 := rfl
theorem e_Land_findHearers_24 (x y : Int32) : (WP Gm j_Land_findHearers 24 (ls) (.inl y :: .inl x :: st) h Q) = (if x = y then WP Gm j_Land_findHearers 61 (ls) (st) (h) Q else WP Gm j_Land_findHearers 27 (ls) (st) (h) Q) := (WP_at c_Land_findHearers_24 _ _ _ _).trans (nd_ic rfl _ _ _ _)
theorem c_Land_findHearers_27 : mCode j_Land_findHearers 27 = oAld 0 28 := rfl
theorem e_Land_findHearers_27 (x : Option Nat) : (WP Gm j_Land_findHearers 27 (some (.inr (.inl x)) :: ls) (st) h Q) = (WP Gm j_Land_findHearers 28 (some (.inr (.inl x)) :: ls) (.inr (.inl x) :: st) (h) Q) := (WP_at c_Land_findHearers_27 _ _ _ _)
theorem c_Land_findHearers_28 : mCode j_Land_findHearers 28 = oIld 3 29 := rfl
theorem e_Land_findHearers_28 (a0 a1 a2 : Option MV) (x : Int32) : (WP Gm j_Land_findHearers 28 (a0 :: a1 :: a2 :: some (.inl x) :: ls) (st) h Q) = (WP Gm j_Land_findHearers 29 (a0 :: a1 :: a2 :: some (.inl x) :: ls) (.inl x :: st) (h) Q) := (WP_at c_Land_findHearers_28 _ _ _ _)
theorem c_Land_findHearers_29 : mCode j_Land_findHearers 29 = oIld 1 30 := rfl
theorem e_Land_findHearers_29 (a0 : Option MV) (x : Int32) : (WP Gm j_Land_findHearers 29 (a0 :: some (.inl x) :: ls) (st) h Q) = (WP Gm j_Land_findHearers 30 (a0 :: some (.inl x) :: ls) (.inl x :: st) (h) Q) := (WP_at c_Land_findHearers_29 _ _ _ _)
theorem c_Land_findHearers_30 : mCode j_Land_findHearers 30 = oCallV kc_Land j_Land_far 2 (mL j_Land_far) 33 := rfl
theorem e_Land_findHearers_30 (a : Nat) (x0 : Int32) (x1 : Int32) (hk : isK h a kc_Land = true) (hc : c8 st = true) : (WP Gm j_Land_findHearers 30 (ls) (.inl x1 :: .inl x0 :: .inr (.inl (some a)) :: st) h Q) = (WP Gm j_Land_far 0 [some (.inr (.inl (some a))), some (.inl x0), some (.inl x1), none, none] [] h (kC (fun v h2 => WP Gm j_Land_findHearers 33 ls (v.toList ++ st) h2 Q) (fun E h2 => Q (.inr E) h2))) := (WP_at c_Land_findHearers_30 _ _ _ _).trans (congrArg (fun o => ndX Gm (WP Gm) j_Land_findHearers 30 o Q) (if_pos (by rw [hk, show decide (catS st ≤ 8) = true from hc]; rfl)))
theorem c_Land_findHearers_33 : mCode j_Land_findHearers 33 = oAld 0 34 := rfl
theorem e_Land_findHearers_33 (x : Option Nat) : (WP Gm j_Land_findHearers 33 (some (.inr (.inl x)) :: ls) (st) h Q) = (WP Gm j_Land_findHearers 34 (some (.inr (.inl x)) :: ls) (.inr (.inl x) :: st) (h) Q) := (WP_at c_Land_findHearers_33 _ _ _ _)
theorem c_Land_findHearers_34 : mCode j_Land_findHearers 34 = oGetR kc_Land 0 37 := rfl
theorem e_Land_findHearers_34 (a : Nat) (hk : isK h a kc_Land = true) : (WP Gm j_Land_findHearers 34 (ls) (.inr (.inl (some a)) :: st) h Q) = (WP Gm j_Land_findHearers 37 (ls) (.inr (.inl (gR h a 0)) :: st) (h) Q) := (WP_at c_Land_findHearers_34 _ _ _ _).trans (congrArg (fun o => ndX Gm (WP Gm) j_Land_findHearers 34 o Q) (if_pos hk))
theorem c_Land_findHearers_37 : mCode j_Land_findHearers 37 = oIld 1 38 := rfl
theorem e_Land_findHearers_37 (a0 : Option MV) (x : Int32) : (WP Gm j_Land_findHearers 37 (a0 :: some (.inl x) :: ls) (st) h Q) = (WP Gm j_Land_findHearers 38 (a0 :: some (.inl x) :: ls) (.inl x :: st) (h) Q) := (WP_at c_Land_findHearers_37 _ _ _ _)
theorem c_Land_findHearers_38 : mCode j_Land_findHearers 38 = oAal 2 39 := rfl
theorem e_Land_findHearers_38 (a : Nat) (i : Int32) (hk : isK h a 102 = true) (hi : inL h a i = true) : (WP Gm j_Land_findHearers 38 (ls) (.inl i :: .inr (.inl (some a)) :: st) h Q) = (WP Gm j_Land_findHearers 39 (ls) (.inr (.inl (gR h a i.toNatClampNeg)) :: st) (h) Q) := (WP_at c_Land_findHearers_38 _ _ _ _).trans (congrArg (fun o => ndX Gm (WP Gm) j_Land_findHearers 38 o Q) (if_pos (by rw [hk, hi]; rfl)))
theorem c_Land_findHearers_39 : mCode j_Land_findHearers 39 = oGetI kc_Node 2 42 := rfl
theorem e_Land_findHearers_39 (a : Nat) (hk : isK h a kc_Node = true) : (WP Gm j_Land_findHearers 39 (ls) (.inr (.inl (some a)) :: st) h Q) = (WP Gm j_Land_findHearers 42 (ls) (.inl (gI h a 2) :: st) (h) Q) := (WP_at c_Land_findHearers_39 _ _ _ _).trans (congrArg (fun o => ndX Gm (WP Gm) j_Land_findHearers 39 o Q) (if_pos hk))
theorem c_Land_findHearers_42 : mCode j_Land_findHearers 42 = oAld 0 43 := rfl
theorem e_Land_findHearers_42 (x : Option Nat) : (WP Gm j_Land_findHearers 42 (some (.inr (.inl x)) :: ls) (st) h Q) = (WP Gm j_Land_findHearers 43 (some (.inr (.inl x)) :: ls) (.inr (.inl x) :: st) (h) Q) := (WP_at c_Land_findHearers_42 _ _ _ _)
theorem c_Land_findHearers_43 : mCode j_Land_findHearers 43 = oGetR kc_Land 0 46 := rfl
theorem e_Land_findHearers_43 (a : Nat) (hk : isK h a kc_Land = true) : (WP Gm j_Land_findHearers 43 (ls) (.inr (.inl (some a)) :: st) h Q) = (WP Gm j_Land_findHearers 46 (ls) (.inr (.inl (gR h a 0)) :: st) (h) Q) := (WP_at c_Land_findHearers_43 _ _ _ _).trans (congrArg (fun o => ndX Gm (WP Gm) j_Land_findHearers 43 o Q) (if_pos hk))
theorem c_Land_findHearers_46 : mCode j_Land_findHearers 46 = oIld 1 47 := rfl
theorem e_Land_findHearers_46 (a0 : Option MV) (x : Int32) : (WP Gm j_Land_findHearers 46 (a0 :: some (.inl x) :: ls) (st) h Q) = (WP Gm j_Land_findHearers 47 (a0 :: some (.inl x) :: ls) (.inl x :: st) (h) Q) := (WP_at c_Land_findHearers_46 _ _ _ _)
theorem c_Land_findHearers_47 : mCode j_Land_findHearers 47 = oAal 2 48 := rfl
theorem e_Land_findHearers_47 (a : Nat) (i : Int32) (hk : isK h a 102 = true) (hi : inL h a i = true) : (WP Gm j_Land_findHearers 47 (ls) (.inl i :: .inr (.inl (some a)) :: st) h Q) = (WP Gm j_Land_findHearers 48 (ls) (.inr (.inl (gR h a i.toNatClampNeg)) :: st) (h) Q) := (WP_at c_Land_findHearers_47 _ _ _ _).trans (congrArg (fun o => ndX Gm (WP Gm) j_Land_findHearers 47 o Q) (if_pos (by rw [hk, hi]; rfl)))
theorem c_Land_findHearers_48 : mCode j_Land_findHearers 48 = oGetI kc_Node 2 51 := rfl
theorem e_Land_findHearers_48 (a : Nat) (hk : isK h a kc_Node = true) : (WP Gm j_Land_findHearers 48 (ls) (.inr (.inl (some a)) :: st) h Q) = (WP Gm j_Land_findHearers 51 (ls) (.inl (gI h a 2) :: st) (h) Q) := (WP_at c_Land_findHearers_48 _ _ _ _).trans (congrArg (fun o => ndX Gm (WP Gm) j_Land_findHearers 48 o Q) (if_pos hk))
theorem c_Land_findHearers_51 : mCode j_Land_findHearers 51 = oII (fun x y => x * y) 52 := rfl
theorem e_Land_findHearers_51 (x : Int32) (y : Int32) : (WP Gm j_Land_findHearers 51 (ls) (.inl y :: .inl x :: st) h Q) = (WP Gm j_Land_findHearers 52 (ls) (.inl (x * y) :: st) (h) Q) := (WP_at c_Land_findHearers_51 _ _ _ _)
theorem c_Land_findHearers_52 : mCode j_Land_findHearers 52 = oIC (fun x y => decide (y < x)) 61 55 := rfl
theorem e_Land_findHearers_52 (x y : Int32) : (WP Gm j_Land_findHearers 52 (ls) (.inl y :: .inl x :: st) h Q) = (if y < x then WP Gm j_Land_findHearers 61 (ls) (st) (h) Q else WP Gm j_Land_findHearers 55 (ls) (st) (h) Q) := (WP_at c_Land_findHearers_52 _ _ _ _).trans (nd_ic rfl _ _ _ _)
theorem c_Land_findHearers_55 : mCode j_Land_findHearers 55 = oIld 2 56 := rfl
theorem e_Land_findHearers_55 (a0 a1 : Option MV) (x : Int32) : (WP Gm j_Land_findHearers 55 (a0 :: a1 :: some (.inl x) :: ls) (st) h Q) = (WP Gm j_Land_findHearers 56 (a0 :: a1 :: some (.inl x) :: ls) (.inl x :: st) (h) Q) := (WP_at c_Land_findHearers_55 _ _ _ _)
theorem c_Land_findHearers_56 : mCode j_Land_findHearers 56 = oI 1 57 := rfl
theorem e_Land_findHearers_56  : (WP Gm j_Land_findHearers 56 (ls) (st) h Q) = (WP Gm j_Land_findHearers 57 (ls) (.inl 1 :: st) (h) Q) := (WP_at c_Land_findHearers_56 _ _ _ _)
theorem c_Land_findHearers_57 : mCode j_Land_findHearers 57 = oIld 3 58 := rfl
theorem e_Land_findHearers_57 (a0 a1 a2 : Option MV) (x : Int32) : (WP Gm j_Land_findHearers 57 (a0 :: a1 :: a2 :: some (.inl x) :: ls) (st) h Q) = (WP Gm j_Land_findHearers 58 (a0 :: a1 :: a2 :: some (.inl x) :: ls) (.inl x :: st) (h) Q) := (WP_at c_Land_findHearers_57 _ _ _ _)
theorem c_Land_findHearers_58 : mCode j_Land_findHearers 58 = oII (fun x y => x <<< (y &&& 31)) 59 := rfl
theorem e_Land_findHearers_58 (x : Int32) (y : Int32) : (WP Gm j_Land_findHearers 58 (ls) (.inl y :: .inl x :: st) h Q) = (WP Gm j_Land_findHearers 59 (ls) (.inl (x <<< (y &&& 31)) :: st) (h) Q) := (WP_at c_Land_findHearers_58 _ _ _ _)
theorem c_Land_findHearers_59 : mCode j_Land_findHearers 59 = oII (fun x y => x ||| y) 60 := rfl
theorem e_Land_findHearers_59 (x : Int32) (y : Int32) : (WP Gm j_Land_findHearers 59 (ls) (.inl y :: .inl x :: st) h Q) = (WP Gm j_Land_findHearers 60 (ls) (.inl (x ||| y) :: st) (h) Q) := (WP_at c_Land_findHearers_59 _ _ _ _)
theorem c_Land_findHearers_60 : mCode j_Land_findHearers 60 = oIst 2 61 := rfl
theorem e_Land_findHearers_60 (x : Int32) : (WP Gm j_Land_findHearers 60 (ls) (.inl x :: st) h Q) = (WP Gm j_Land_findHearers 61 (lSet1 ls 2 (some (.inl x))) (st) (h) Q) := (WP_at c_Land_findHearers_60 _ _ _ _)
theorem c_Land_findHearers_61 : mCode j_Land_findHearers 61 = oInc 3 1 64 := rfl
theorem e_Land_findHearers_61 (a0 a1 a2 : Option MV) (x : Int32) : (WP Gm j_Land_findHearers 61 (a0 :: a1 :: a2 :: some (.inl x) :: ls) (st) h Q) = (WP Gm j_Land_findHearers 64 (lSet1 (a0 :: a1 :: a2 :: some (.inl x) :: ls) 3 (some (.inl (x + 1)))) (st) (h) Q) := (WP_at c_Land_findHearers_61 _ _ _ _)
theorem c_Land_findHearers_64 : mCode j_Land_findHearers 64 = oGo 14 := rfl
theorem e_Land_findHearers_64  : (WP Gm j_Land_findHearers 64 (ls) (st) h Q) = (WP Gm j_Land_findHearers 14 (ls) (st) (h) Q) := (WP_at c_Land_findHearers_64 _ _ _ _)
theorem c_Land_findHearers_67 : mCode j_Land_findHearers 67 = oAld 0 68 := rfl
theorem e_Land_findHearers_67 (x : Option Nat) : (WP Gm j_Land_findHearers 67 (some (.inr (.inl x)) :: ls) (st) h Q) = (WP Gm j_Land_findHearers 68 (some (.inr (.inl x)) :: ls) (.inr (.inl x) :: st) (h) Q) := (WP_at c_Land_findHearers_67 _ _ _ _)
theorem c_Land_findHearers_68 : mCode j_Land_findHearers 68 = oGetR kc_Land 1 71 := rfl
theorem e_Land_findHearers_68 (a : Nat) (hk : isK h a kc_Land = true) : (WP Gm j_Land_findHearers 68 (ls) (.inr (.inl (some a)) :: st) h Q) = (WP Gm j_Land_findHearers 71 (ls) (.inr (.inl (gR h a 1)) :: st) (h) Q) := (WP_at c_Land_findHearers_68 _ _ _ _).trans (congrArg (fun o => ndX Gm (WP Gm) j_Land_findHearers 68 o Q) (if_pos hk))
theorem c_Land_findHearers_71 : mCode j_Land_findHearers 71 = oIld 1 72 := rfl
theorem e_Land_findHearers_71 (a0 : Option MV) (x : Int32) : (WP Gm j_Land_findHearers 71 (a0 :: some (.inl x) :: ls) (st) h Q) = (WP Gm j_Land_findHearers 72 (a0 :: some (.inl x) :: ls) (.inl x :: st) (h) Q) := (WP_at c_Land_findHearers_71 _ _ _ _)
theorem c_Land_findHearers_72 : mCode j_Land_findHearers 72 = oIld 2 73 := rfl
theorem e_Land_findHearers_72 (a0 a1 : Option MV) (x : Int32) : (WP Gm j_Land_findHearers 72 (a0 :: a1 :: some (.inl x) :: ls) (st) h Q) = (WP Gm j_Land_findHearers 73 (a0 :: a1 :: some (.inl x) :: ls) (.inl x :: st) (h) Q) := (WP_at c_Land_findHearers_72 _ _ _ _)
theorem c_Land_findHearers_73 : mCode j_Land_findHearers 73 = oIas 0 74 := rfl
theorem e_Land_findHearers_73 (a : Nat) (i : Int32) (x : Int32) (hk : isK h a 100 = true) (hi : inL h a i = true) (h0 : ¬ a = 0) : (WP Gm j_Land_findHearers 73 (ls) (.inl x :: .inl i :: .inr (.inl (some a)) :: st) h Q) = (WP Gm j_Land_findHearers 74 (ls) (st) (sI h a i.toNatClampNeg x) Q) := (WP_at c_Land_findHearers_73 _ _ _ _).trans (congrArg (fun o => ndX Gm (WP Gm) j_Land_findHearers 73 o Q) (if_pos (by rw [hk, hi]; simp [h0])))
theorem c_Land_findHearers_74 : mCode j_Land_findHearers 74 = oInc 1 1 77 := rfl
theorem e_Land_findHearers_74 (a0 : Option MV) (x : Int32) : (WP Gm j_Land_findHearers 74 (a0 :: some (.inl x) :: ls) (st) h Q) = (WP Gm j_Land_findHearers 77 (lSet1 (a0 :: some (.inl x) :: ls) 1 (some (.inl (x + 1)))) (st) (h) Q) := (WP_at c_Land_findHearers_74 _ _ _ _)
theorem c_Land_findHearers_77 : mCode j_Land_findHearers 77 = oGo 2 := rfl
theorem e_Land_findHearers_77  : (WP Gm j_Land_findHearers 77 (ls) (st) h Q) = (WP Gm j_Land_findHearers 2 (ls) (st) (h) Q) := (WP_at c_Land_findHearers_77 _ _ _ _)
theorem c_Land_findHearers_80 : mCode j_Land_findHearers 80 = oRet := rfl
theorem e_Land_findHearers_80  : (WP Gm j_Land_findHearers 80 (ls) ([]) h Q) = (Q (.inl none) h) := (WP_at c_Land_findHearers_80 _ _ _ _)
theorem c_Land_far_0 : mCode j_Land_far 0 = oAld 0 1 := rfl
theorem e_Land_far_0 (x : Option Nat) : (WP Gm j_Land_far 0 (some (.inr (.inl x)) :: ls) (st) h Q) = (WP Gm j_Land_far 1 (some (.inr (.inl x)) :: ls) (.inr (.inl x) :: st) (h) Q) := (WP_at c_Land_far_0 _ _ _ _)
theorem c_Land_far_1 : mCode j_Land_far 1 = oGetR kc_Land 0 4 := rfl
theorem e_Land_far_1 (a : Nat) (hk : isK h a kc_Land = true) : (WP Gm j_Land_far 1 (ls) (.inr (.inl (some a)) :: st) h Q) = (WP Gm j_Land_far 4 (ls) (.inr (.inl (gR h a 0)) :: st) (h) Q) := (WP_at c_Land_far_1 _ _ _ _).trans (congrArg (fun o => ndX Gm (WP Gm) j_Land_far 1 o Q) (if_pos hk))
theorem c_Land_far_4 : mCode j_Land_far 4 = oIld 1 5 := rfl
theorem e_Land_far_4 (a0 : Option MV) (x : Int32) : (WP Gm j_Land_far 4 (a0 :: some (.inl x) :: ls) (st) h Q) = (WP Gm j_Land_far 5 (a0 :: some (.inl x) :: ls) (.inl x :: st) (h) Q) := (WP_at c_Land_far_4 _ _ _ _)
theorem c_Land_far_5 : mCode j_Land_far 5 = oAal 2 6 := rfl
theorem e_Land_far_5 (a : Nat) (i : Int32) (hk : isK h a 102 = true) (hi : inL h a i = true) : (WP Gm j_Land_far 5 (ls) (.inl i :: .inr (.inl (some a)) :: st) h Q) = (WP Gm j_Land_far 6 (ls) (.inr (.inl (gR h a i.toNatClampNeg)) :: st) (h) Q) := (WP_at c_Land_far_5 _ _ _ _).trans (congrArg (fun o => ndX Gm (WP Gm) j_Land_far 5 o Q) (if_pos (by rw [hk, hi]; rfl)))
theorem c_Land_far_6 : mCode j_Land_far 6 = oGetI kc_Node 0 9 := rfl
theorem e_Land_far_6 (a : Nat) (hk : isK h a kc_Node = true) : (WP Gm j_Land_far 6 (ls) (.inr (.inl (some a)) :: st) h Q) = (WP Gm j_Land_far 9 (ls) (.inl (gI h a 0) :: st) (h) Q) := (WP_at c_Land_far_6 _ _ _ _).trans (congrArg (fun o => ndX Gm (WP Gm) j_Land_far 6 o Q) (if_pos hk))
theorem c_Land_far_9 : mCode j_Land_far 9 = oAld 0 10 := rfl
theorem e_Land_far_9 (x : Option Nat) : (WP Gm j_Land_far 9 (some (.inr (.inl x)) :: ls) (st) h Q) = (WP Gm j_Land_far 10 (some (.inr (.inl x)) :: ls) (.inr (.inl x) :: st) (h) Q) := (WP_at c_Land_far_9 _ _ _ _)
theorem c_Land_far_10 : mCode j_Land_far 10 = oGetR kc_Land 0 13 := rfl
theorem e_Land_far_10 (a : Nat) (hk : isK h a kc_Land = true) : (WP Gm j_Land_far 10 (ls) (.inr (.inl (some a)) :: st) h Q) = (WP Gm j_Land_far 13 (ls) (.inr (.inl (gR h a 0)) :: st) (h) Q) := (WP_at c_Land_far_10 _ _ _ _).trans (congrArg (fun o => ndX Gm (WP Gm) j_Land_far 10 o Q) (if_pos hk))
theorem c_Land_far_13 : mCode j_Land_far 13 = oIld 2 14 := rfl
theorem e_Land_far_13 (a0 a1 : Option MV) (x : Int32) : (WP Gm j_Land_far 13 (a0 :: a1 :: some (.inl x) :: ls) (st) h Q) = (WP Gm j_Land_far 14 (a0 :: a1 :: some (.inl x) :: ls) (.inl x :: st) (h) Q) := (WP_at c_Land_far_13 _ _ _ _)
theorem c_Land_far_14 : mCode j_Land_far 14 = oAal 2 15 := rfl
theorem e_Land_far_14 (a : Nat) (i : Int32) (hk : isK h a 102 = true) (hi : inL h a i = true) : (WP Gm j_Land_far 14 (ls) (.inl i :: .inr (.inl (some a)) :: st) h Q) = (WP Gm j_Land_far 15 (ls) (.inr (.inl (gR h a i.toNatClampNeg)) :: st) (h) Q) := (WP_at c_Land_far_14 _ _ _ _).trans (congrArg (fun o => ndX Gm (WP Gm) j_Land_far 14 o Q) (if_pos (by rw [hk, hi]; rfl)))
theorem c_Land_far_15 : mCode j_Land_far 15 = oGetI kc_Node 0 18 := rfl
theorem e_Land_far_15 (a : Nat) (hk : isK h a kc_Node = true) : (WP Gm j_Land_far 15 (ls) (.inr (.inl (some a)) :: st) h Q) = (WP Gm j_Land_far 18 (ls) (.inl (gI h a 0) :: st) (h) Q) := (WP_at c_Land_far_15 _ _ _ _).trans (congrArg (fun o => ndX Gm (WP Gm) j_Land_far 15 o Q) (if_pos hk))
theorem c_Land_far_18 : mCode j_Land_far 18 = oII (fun x y => x - y) 19 := rfl
theorem e_Land_far_18 (x : Int32) (y : Int32) : (WP Gm j_Land_far 18 (ls) (.inl y :: .inl x :: st) h Q) = (WP Gm j_Land_far 19 (ls) (.inl (x - y) :: st) (h) Q) := (WP_at c_Land_far_18 _ _ _ _)
theorem c_Land_far_19 : mCode j_Land_far 19 = oIst 3 20 := rfl
theorem e_Land_far_19 (x : Int32) : (WP Gm j_Land_far 19 (ls) (.inl x :: st) h Q) = (WP Gm j_Land_far 20 (lSet1 ls 3 (some (.inl x))) (st) (h) Q) := (WP_at c_Land_far_19 _ _ _ _)
theorem c_Land_far_20 : mCode j_Land_far 20 = oAld 0 21 := rfl
theorem e_Land_far_20 (x : Option Nat) : (WP Gm j_Land_far 20 (some (.inr (.inl x)) :: ls) (st) h Q) = (WP Gm j_Land_far 21 (some (.inr (.inl x)) :: ls) (.inr (.inl x) :: st) (h) Q) := (WP_at c_Land_far_20 _ _ _ _)
theorem c_Land_far_21 : mCode j_Land_far 21 = oGetR kc_Land 0 24 := rfl
theorem e_Land_far_21 (a : Nat) (hk : isK h a kc_Land = true) : (WP Gm j_Land_far 21 (ls) (.inr (.inl (some a)) :: st) h Q) = (WP Gm j_Land_far 24 (ls) (.inr (.inl (gR h a 0)) :: st) (h) Q) := (WP_at c_Land_far_21 _ _ _ _).trans (congrArg (fun o => ndX Gm (WP Gm) j_Land_far 21 o Q) (if_pos hk))
theorem c_Land_far_24 : mCode j_Land_far 24 = oIld 1 25 := rfl
theorem e_Land_far_24 (a0 : Option MV) (x : Int32) : (WP Gm j_Land_far 24 (a0 :: some (.inl x) :: ls) (st) h Q) = (WP Gm j_Land_far 25 (a0 :: some (.inl x) :: ls) (.inl x :: st) (h) Q) := (WP_at c_Land_far_24 _ _ _ _)
theorem c_Land_far_25 : mCode j_Land_far 25 = oAal 2 26 := rfl
theorem e_Land_far_25 (a : Nat) (i : Int32) (hk : isK h a 102 = true) (hi : inL h a i = true) : (WP Gm j_Land_far 25 (ls) (.inl i :: .inr (.inl (some a)) :: st) h Q) = (WP Gm j_Land_far 26 (ls) (.inr (.inl (gR h a i.toNatClampNeg)) :: st) (h) Q) := (WP_at c_Land_far_25 _ _ _ _).trans (congrArg (fun o => ndX Gm (WP Gm) j_Land_far 25 o Q) (if_pos (by rw [hk, hi]; rfl)))
theorem c_Land_far_26 : mCode j_Land_far 26 = oGetI kc_Node 1 29 := rfl
theorem e_Land_far_26 (a : Nat) (hk : isK h a kc_Node = true) : (WP Gm j_Land_far 26 (ls) (.inr (.inl (some a)) :: st) h Q) = (WP Gm j_Land_far 29 (ls) (.inl (gI h a 1) :: st) (h) Q) := (WP_at c_Land_far_26 _ _ _ _).trans (congrArg (fun o => ndX Gm (WP Gm) j_Land_far 26 o Q) (if_pos hk))
theorem c_Land_far_29 : mCode j_Land_far 29 = oAld 0 30 := rfl
theorem e_Land_far_29 (x : Option Nat) : (WP Gm j_Land_far 29 (some (.inr (.inl x)) :: ls) (st) h Q) = (WP Gm j_Land_far 30 (some (.inr (.inl x)) :: ls) (.inr (.inl x) :: st) (h) Q) := (WP_at c_Land_far_29 _ _ _ _)
theorem c_Land_far_30 : mCode j_Land_far 30 = oGetR kc_Land 0 33 := rfl
theorem e_Land_far_30 (a : Nat) (hk : isK h a kc_Land = true) : (WP Gm j_Land_far 30 (ls) (.inr (.inl (some a)) :: st) h Q) = (WP Gm j_Land_far 33 (ls) (.inr (.inl (gR h a 0)) :: st) (h) Q) := (WP_at c_Land_far_30 _ _ _ _).trans (congrArg (fun o => ndX Gm (WP Gm) j_Land_far 30 o Q) (if_pos hk))
theorem c_Land_far_33 : mCode j_Land_far 33 = oIld 2 34 := rfl
theorem e_Land_far_33 (a0 a1 : Option MV) (x : Int32) : (WP Gm j_Land_far 33 (a0 :: a1 :: some (.inl x) :: ls) (st) h Q) = (WP Gm j_Land_far 34 (a0 :: a1 :: some (.inl x) :: ls) (.inl x :: st) (h) Q) := (WP_at c_Land_far_33 _ _ _ _)
theorem c_Land_far_34 : mCode j_Land_far 34 = oAal 2 35 := rfl
theorem e_Land_far_34 (a : Nat) (i : Int32) (hk : isK h a 102 = true) (hi : inL h a i = true) : (WP Gm j_Land_far 34 (ls) (.inl i :: .inr (.inl (some a)) :: st) h Q) = (WP Gm j_Land_far 35 (ls) (.inr (.inl (gR h a i.toNatClampNeg)) :: st) (h) Q) := (WP_at c_Land_far_34 _ _ _ _).trans (congrArg (fun o => ndX Gm (WP Gm) j_Land_far 34 o Q) (if_pos (by rw [hk, hi]; rfl)))
theorem c_Land_far_35 : mCode j_Land_far 35 = oGetI kc_Node 1 38 := rfl
theorem e_Land_far_35 (a : Nat) (hk : isK h a kc_Node = true) : (WP Gm j_Land_far 35 (ls) (.inr (.inl (some a)) :: st) h Q) = (WP Gm j_Land_far 38 (ls) (.inl (gI h a 1) :: st) (h) Q) := (WP_at c_Land_far_35 _ _ _ _).trans (congrArg (fun o => ndX Gm (WP Gm) j_Land_far 35 o Q) (if_pos hk))
theorem c_Land_far_38 : mCode j_Land_far 38 = oII (fun x y => x - y) 39 := rfl
theorem e_Land_far_38 (x : Int32) (y : Int32) : (WP Gm j_Land_far 38 (ls) (.inl y :: .inl x :: st) h Q) = (WP Gm j_Land_far 39 (ls) (.inl (x - y) :: st) (h) Q) := (WP_at c_Land_far_38 _ _ _ _)
theorem c_Land_far_39 : mCode j_Land_far 39 = oIst 4 41 := rfl
theorem e_Land_far_39 (x : Int32) : (WP Gm j_Land_far 39 (ls) (.inl x :: st) h Q) = (WP Gm j_Land_far 41 (lSet1 ls 4 (some (.inl x))) (st) (h) Q) := (WP_at c_Land_far_39 _ _ _ _)
theorem c_Land_far_41 : mCode j_Land_far 41 = oIld 3 42 := rfl
theorem e_Land_far_41 (a0 a1 a2 : Option MV) (x : Int32) : (WP Gm j_Land_far 41 (a0 :: a1 :: a2 :: some (.inl x) :: ls) (st) h Q) = (WP Gm j_Land_far 42 (a0 :: a1 :: a2 :: some (.inl x) :: ls) (.inl x :: st) (h) Q) := (WP_at c_Land_far_41 _ _ _ _)
theorem c_Land_far_42 : mCode j_Land_far 42 = oIld 3 43 := rfl
theorem e_Land_far_42 (a0 a1 a2 : Option MV) (x : Int32) : (WP Gm j_Land_far 42 (a0 :: a1 :: a2 :: some (.inl x) :: ls) (st) h Q) = (WP Gm j_Land_far 43 (a0 :: a1 :: a2 :: some (.inl x) :: ls) (.inl x :: st) (h) Q) := (WP_at c_Land_far_42 _ _ _ _)
theorem c_Land_far_43 : mCode j_Land_far 43 = oII (fun x y => x * y) 44 := rfl
theorem e_Land_far_43 (x : Int32) (y : Int32) : (WP Gm j_Land_far 43 (ls) (.inl y :: .inl x :: st) h Q) = (WP Gm j_Land_far 44 (ls) (.inl (x * y) :: st) (h) Q) := (WP_at c_Land_far_43 _ _ _ _)
theorem c_Land_far_44 : mCode j_Land_far 44 = oIld 4 46 := rfl
theorem e_Land_far_44 (a0 a1 a2 a3 : Option MV) (x : Int32) : (WP Gm j_Land_far 44 (a0 :: a1 :: a2 :: a3 :: some (.inl x) :: ls) (st) h Q) = (WP Gm j_Land_far 46 (a0 :: a1 :: a2 :: a3 :: some (.inl x) :: ls) (.inl x :: st) (h) Q) := (WP_at c_Land_far_44 _ _ _ _)
theorem c_Land_far_46 : mCode j_Land_far 46 = oIld 4 48 := rfl
theorem e_Land_far_46 (a0 a1 a2 a3 : Option MV) (x : Int32) : (WP Gm j_Land_far 46 (a0 :: a1 :: a2 :: a3 :: some (.inl x) :: ls) (st) h Q) = (WP Gm j_Land_far 48 (a0 :: a1 :: a2 :: a3 :: some (.inl x) :: ls) (.inl x :: st) (h) Q) := (WP_at c_Land_far_46 _ _ _ _)
theorem c_Land_far_48 : mCode j_Land_far 48 = oII (fun x y => x * y) 49 := rfl
theorem e_Land_far_48 (x : Int32) (y : Int32) : (WP Gm j_Land_far 48 (ls) (.inl y :: .inl x :: st) h Q) = (WP Gm j_Land_far 49 (ls) (.inl (x * y) :: st) (h) Q) := (WP_at c_Land_far_48 _ _ _ _)
theorem c_Land_far_49 : mCode j_Land_far 49 = oII (fun x y => x + y) 50 := rfl
theorem e_Land_far_49 (x : Int32) (y : Int32) : (WP Gm j_Land_far 49 (ls) (.inl y :: .inl x :: st) h Q) = (WP Gm j_Land_far 50 (ls) (.inl (x + y) :: st) (h) Q) := (WP_at c_Land_far_49 _ _ _ _)
theorem c_Land_far_50 : mCode j_Land_far 50 = oRetI := rfl
theorem e_Land_far_50 (x : Int32) : (WP Gm j_Land_far 50 (ls) ([.inl x]) h Q) = (Q (.inl (some (.inl x))) h) := (WP_at c_Land_far_50 _ _ _ _)
theorem c_Land_canHear_0 : mCode j_Land_canHear 0 = oAld 0 1 := rfl
theorem e_Land_canHear_0 (x : Option Nat) : (WP Gm j_Land_canHear 0 (some (.inr (.inl x)) :: ls) (st) h Q) = (WP Gm j_Land_canHear 1 (some (.inr (.inl x)) :: ls) (.inr (.inl x) :: st) (h) Q) := (WP_at c_Land_canHear_0 _ _ _ _)
theorem c_Land_canHear_1 : mCode j_Land_canHear 1 = oIld 1 2 := rfl
theorem e_Land_canHear_1 (a0 : Option MV) (x : Int32) : (WP Gm j_Land_canHear 1 (a0 :: some (.inl x) :: ls) (st) h Q) = (WP Gm j_Land_canHear 2 (a0 :: some (.inl x) :: ls) (.inl x :: st) (h) Q) := (WP_at c_Land_canHear_1 _ _ _ _)
theorem c_Land_canHear_2 : mCode j_Land_canHear 2 = oCallV kc_Land j_Land_isNode 1 (mL j_Land_isNode) 5 := rfl
theorem e_Land_canHear_2 (a : Nat) (x0 : Int32) (hk : isK h a kc_Land = true) (hc : c8 st = true) : (WP Gm j_Land_canHear 2 (ls) (.inl x0 :: .inr (.inl (some a)) :: st) h Q) = (WP Gm j_Land_isNode 0 [some (.inr (.inl (some a))), some (.inl x0)] [] h (kC (fun v h2 => WP Gm j_Land_canHear 5 ls (v.toList ++ st) h2 Q) (fun E h2 => Q (.inr E) h2))) := (WP_at c_Land_canHear_2 _ _ _ _).trans (congrArg (fun o => ndX Gm (WP Gm) j_Land_canHear 2 o Q) (if_pos (by rw [hk, show decide (catS st ≤ 8) = true from hc]; rfl)))
theorem c_Land_canHear_5 : mCode j_Land_canHear 5 = oIf (fun x => decide (x = 0)) 33 8 := rfl
theorem e_Land_canHear_5 (x : Int32) : (WP Gm j_Land_canHear 5 (ls) (.inl x :: st) h Q) = (if x = 0 then WP Gm j_Land_canHear 33 (ls) (st) (h) Q else WP Gm j_Land_canHear 8 (ls) (st) (h) Q) := (WP_at c_Land_canHear_5 _ _ _ _).trans (nd_if rfl _ _ _ _)
theorem c_Land_canHear_8 : mCode j_Land_canHear 8 = oAld 0 9 := rfl
theorem e_Land_canHear_8 (x : Option Nat) : (WP Gm j_Land_canHear 8 (some (.inr (.inl x)) :: ls) (st) h Q) = (WP Gm j_Land_canHear 9 (some (.inr (.inl x)) :: ls) (.inr (.inl x) :: st) (h) Q) := (WP_at c_Land_canHear_8 _ _ _ _)
theorem c_Land_canHear_9 : mCode j_Land_canHear 9 = oIld 2 10 := rfl
theorem e_Land_canHear_9 (a0 a1 : Option MV) (x : Int32) : (WP Gm j_Land_canHear 9 (a0 :: a1 :: some (.inl x) :: ls) (st) h Q) = (WP Gm j_Land_canHear 10 (a0 :: a1 :: some (.inl x) :: ls) (.inl x :: st) (h) Q) := (WP_at c_Land_canHear_9 _ _ _ _)
theorem c_Land_canHear_10 : mCode j_Land_canHear 10 = oCallV kc_Land j_Land_isNode 1 (mL j_Land_isNode) 13 := rfl
theorem e_Land_canHear_10 (a : Nat) (x0 : Int32) (hk : isK h a kc_Land = true) (hc : c8 st = true) : (WP Gm j_Land_canHear 10 (ls) (.inl x0 :: .inr (.inl (some a)) :: st) h Q) = (WP Gm j_Land_isNode 0 [some (.inr (.inl (some a))), some (.inl x0)] [] h (kC (fun v h2 => WP Gm j_Land_canHear 13 ls (v.toList ++ st) h2 Q) (fun E h2 => Q (.inr E) h2))) := (WP_at c_Land_canHear_10 _ _ _ _).trans (congrArg (fun o => ndX Gm (WP Gm) j_Land_canHear 10 o Q) (if_pos (by rw [hk, show decide (catS st ≤ 8) = true from hc]; rfl)))
theorem c_Land_canHear_13 : mCode j_Land_canHear 13 = oIf (fun x => decide (x = 0)) 33 16 := rfl
theorem e_Land_canHear_13 (x : Int32) : (WP Gm j_Land_canHear 13 (ls) (.inl x :: st) h Q) = (if x = 0 then WP Gm j_Land_canHear 33 (ls) (st) (h) Q else WP Gm j_Land_canHear 16 (ls) (st) (h) Q) := (WP_at c_Land_canHear_13 _ _ _ _).trans (nd_if rfl _ _ _ _)
theorem c_Land_canHear_16 : mCode j_Land_canHear 16 = oAld 0 17 := rfl
theorem e_Land_canHear_16 (x : Option Nat) : (WP Gm j_Land_canHear 16 (some (.inr (.inl x)) :: ls) (st) h Q) = (WP Gm j_Land_canHear 17 (some (.inr (.inl x)) :: ls) (.inr (.inl x) :: st) (h) Q) := (WP_at c_Land_canHear_16 _ _ _ _)
theorem c_Land_canHear_17 : mCode j_Land_canHear 17 = oGetR kc_Land 1 20 := rfl
theorem e_Land_canHear_17 (a : Nat) (hk : isK h a kc_Land = true) : (WP Gm j_Land_canHear 17 (ls) (.inr (.inl (some a)) :: st) h Q) = (WP Gm j_Land_canHear 20 (ls) (.inr (.inl (gR h a 1)) :: st) (h) Q) := (WP_at c_Land_canHear_17 _ _ _ _).trans (congrArg (fun o => ndX Gm (WP Gm) j_Land_canHear 17 o Q) (if_pos hk))
theorem c_Land_canHear_20 : mCode j_Land_canHear 20 = oIld 2 21 := rfl
theorem e_Land_canHear_20 (a0 a1 : Option MV) (x : Int32) : (WP Gm j_Land_canHear 20 (a0 :: a1 :: some (.inl x) :: ls) (st) h Q) = (WP Gm j_Land_canHear 21 (a0 :: a1 :: some (.inl x) :: ls) (.inl x :: st) (h) Q) := (WP_at c_Land_canHear_20 _ _ _ _)
theorem c_Land_canHear_21 : mCode j_Land_canHear 21 = oIal 0 22 := rfl
theorem e_Land_canHear_21 (a : Nat) (i : Int32) (hk : isK h a 100 = true) (hi : inL h a i = true) : (WP Gm j_Land_canHear 21 (ls) (.inl i :: .inr (.inl (some a)) :: st) h Q) = (WP Gm j_Land_canHear 22 (ls) (.inl (gI h a i.toNatClampNeg) :: st) (h) Q) := (WP_at c_Land_canHear_21 _ _ _ _).trans (congrArg (fun o => ndX Gm (WP Gm) j_Land_canHear 21 o Q) (if_pos (by rw [hk, hi]; rfl)))
theorem c_Land_canHear_22 : mCode j_Land_canHear 22 = oIld 1 23 := rfl
theorem e_Land_canHear_22 (a0 : Option MV) (x : Int32) : (WP Gm j_Land_canHear 22 (a0 :: some (.inl x) :: ls) (st) h Q) = (WP Gm j_Land_canHear 23 (a0 :: some (.inl x) :: ls) (.inl x :: st) (h) Q) := (WP_at c_Land_canHear_22 _ _ _ _)
theorem c_Land_canHear_23 : mCode j_Land_canHear 23 = oCallS j_S_isIn 2 (mL j_S_isIn) 26 := rfl
theorem e_Land_canHear_23 (x0 : Int32) (x1 : Int32) (hc : c8 st = true) : (WP Gm j_Land_canHear 23 (ls) (.inl x1 :: .inl x0 :: st) h Q) = (WP Gm j_S_isIn 0 [some (.inl x0), some (.inl x1)] [] h (kC (fun v h2 => WP Gm j_Land_canHear 26 ls (v.toList ++ st) h2 Q) (fun E h2 => Q (.inr E) h2))) := (WP_at c_Land_canHear_23 _ _ _ _).trans (congrArg (fun o => ndX Gm (WP Gm) j_Land_canHear 23 o Q) (if_pos (by rw [show decide (catS st ≤ 8) = true from hc]; rfl)))
theorem c_Land_canHear_26 : mCode j_Land_canHear 26 = oIf (fun x => decide (x = 0)) 33 29 := rfl
theorem e_Land_canHear_26 (x : Int32) : (WP Gm j_Land_canHear 26 (ls) (.inl x :: st) h Q) = (if x = 0 then WP Gm j_Land_canHear 33 (ls) (st) (h) Q else WP Gm j_Land_canHear 29 (ls) (st) (h) Q) := (WP_at c_Land_canHear_26 _ _ _ _).trans (nd_if rfl _ _ _ _)
theorem c_Land_canHear_29 : mCode j_Land_canHear 29 = oI 1 30 := rfl
theorem e_Land_canHear_29  : (WP Gm j_Land_canHear 29 (ls) (st) h Q) = (WP Gm j_Land_canHear 30 (ls) (.inl 1 :: st) (h) Q) := (WP_at c_Land_canHear_29 _ _ _ _)
theorem c_Land_canHear_30 : mCode j_Land_canHear 30 = oGo 34 := rfl
theorem e_Land_canHear_30  : (WP Gm j_Land_canHear 30 (ls) (st) h Q) = (WP Gm j_Land_canHear 34 (ls) (st) (h) Q) := (WP_at c_Land_canHear_30 _ _ _ _)
theorem c_Land_canHear_33 : mCode j_Land_canHear 33 = oI 0 34 := rfl
theorem e_Land_canHear_33  : (WP Gm j_Land_canHear 33 (ls) (st) h Q) = (WP Gm j_Land_canHear 34 (ls) (.inl 0 :: st) (h) Q) := (WP_at c_Land_canHear_33 _ _ _ _)
theorem c_Land_canHear_34 : mCode j_Land_canHear 34 = oRetZ := rfl
theorem e_Land_canHear_34 (x : Int32) (hx : x = 0 ∨ x = 1) : (WP Gm j_Land_canHear 34 (ls) ([.inl x]) h Q) = (Q (.inl (some (.inl x))) h) := (WP_at c_Land_canHear_34 _ _ _ _).trans (congrArg (fun o => ndX Gm (WP Gm) j_Land_canHear 34 o Q) (if_pos (by rcases hx with rfl | rfl <;> rfl)))
theorem c_Land_areLinked_0 : mCode j_Land_areLinked 0 = oAld 0 1 := rfl
theorem e_Land_areLinked_0 (x : Option Nat) : (WP Gm j_Land_areLinked 0 (some (.inr (.inl x)) :: ls) (st) h Q) = (WP Gm j_Land_areLinked 1 (some (.inr (.inl x)) :: ls) (.inr (.inl x) :: st) (h) Q) := (WP_at c_Land_areLinked_0 _ _ _ _)
theorem c_Land_areLinked_1 : mCode j_Land_areLinked 1 = oIld 1 2 := rfl
theorem e_Land_areLinked_1 (a0 : Option MV) (x : Int32) : (WP Gm j_Land_areLinked 1 (a0 :: some (.inl x) :: ls) (st) h Q) = (WP Gm j_Land_areLinked 2 (a0 :: some (.inl x) :: ls) (.inl x :: st) (h) Q) := (WP_at c_Land_areLinked_1 _ _ _ _)
theorem c_Land_areLinked_2 : mCode j_Land_areLinked 2 = oIld 2 3 := rfl
theorem e_Land_areLinked_2 (a0 a1 : Option MV) (x : Int32) : (WP Gm j_Land_areLinked 2 (a0 :: a1 :: some (.inl x) :: ls) (st) h Q) = (WP Gm j_Land_areLinked 3 (a0 :: a1 :: some (.inl x) :: ls) (.inl x :: st) (h) Q) := (WP_at c_Land_areLinked_2 _ _ _ _)
theorem c_Land_areLinked_3 : mCode j_Land_areLinked 3 = oCallV kc_Land j_Land_canHear 2 (mL j_Land_canHear) 6 := rfl
theorem e_Land_areLinked_3 (a : Nat) (x0 : Int32) (x1 : Int32) (hk : isK h a kc_Land = true) (hc : c8 st = true) : (WP Gm j_Land_areLinked 3 (ls) (.inl x1 :: .inl x0 :: .inr (.inl (some a)) :: st) h Q) = (WP Gm j_Land_canHear 0 [some (.inr (.inl (some a))), some (.inl x0), some (.inl x1)] [] h (kC (fun v h2 => WP Gm j_Land_areLinked 6 ls (v.toList ++ st) h2 Q) (fun E h2 => Q (.inr E) h2))) := (WP_at c_Land_areLinked_3 _ _ _ _).trans (congrArg (fun o => ndX Gm (WP Gm) j_Land_areLinked 3 o Q) (if_pos (by rw [hk, show decide (catS st ≤ 8) = true from hc]; rfl)))
theorem c_Land_areLinked_6 : mCode j_Land_areLinked 6 = oIf (fun x => decide (x = 0)) 22 9 := rfl
theorem e_Land_areLinked_6 (x : Int32) : (WP Gm j_Land_areLinked 6 (ls) (.inl x :: st) h Q) = (if x = 0 then WP Gm j_Land_areLinked 22 (ls) (st) (h) Q else WP Gm j_Land_areLinked 9 (ls) (st) (h) Q) := (WP_at c_Land_areLinked_6 _ _ _ _).trans (nd_if rfl _ _ _ _)
theorem c_Land_areLinked_9 : mCode j_Land_areLinked 9 = oAld 0 10 := rfl
theorem e_Land_areLinked_9 (x : Option Nat) : (WP Gm j_Land_areLinked 9 (some (.inr (.inl x)) :: ls) (st) h Q) = (WP Gm j_Land_areLinked 10 (some (.inr (.inl x)) :: ls) (.inr (.inl x) :: st) (h) Q) := (WP_at c_Land_areLinked_9 _ _ _ _)
theorem c_Land_areLinked_10 : mCode j_Land_areLinked 10 = oIld 2 11 := rfl
theorem e_Land_areLinked_10 (a0 a1 : Option MV) (x : Int32) : (WP Gm j_Land_areLinked 10 (a0 :: a1 :: some (.inl x) :: ls) (st) h Q) = (WP Gm j_Land_areLinked 11 (a0 :: a1 :: some (.inl x) :: ls) (.inl x :: st) (h) Q) := (WP_at c_Land_areLinked_10 _ _ _ _)
theorem c_Land_areLinked_11 : mCode j_Land_areLinked 11 = oIld 1 12 := rfl
theorem e_Land_areLinked_11 (a0 : Option MV) (x : Int32) : (WP Gm j_Land_areLinked 11 (a0 :: some (.inl x) :: ls) (st) h Q) = (WP Gm j_Land_areLinked 12 (a0 :: some (.inl x) :: ls) (.inl x :: st) (h) Q) := (WP_at c_Land_areLinked_11 _ _ _ _)
theorem c_Land_areLinked_12 : mCode j_Land_areLinked 12 = oCallV kc_Land j_Land_canHear 2 (mL j_Land_canHear) 15 := rfl
theorem e_Land_areLinked_12 (a : Nat) (x0 : Int32) (x1 : Int32) (hk : isK h a kc_Land = true) (hc : c8 st = true) : (WP Gm j_Land_areLinked 12 (ls) (.inl x1 :: .inl x0 :: .inr (.inl (some a)) :: st) h Q) = (WP Gm j_Land_canHear 0 [some (.inr (.inl (some a))), some (.inl x0), some (.inl x1)] [] h (kC (fun v h2 => WP Gm j_Land_areLinked 15 ls (v.toList ++ st) h2 Q) (fun E h2 => Q (.inr E) h2))) := (WP_at c_Land_areLinked_12 _ _ _ _).trans (congrArg (fun o => ndX Gm (WP Gm) j_Land_areLinked 12 o Q) (if_pos (by rw [hk, show decide (catS st ≤ 8) = true from hc]; rfl)))
theorem c_Land_areLinked_15 : mCode j_Land_areLinked 15 = oIf (fun x => decide (x = 0)) 22 18 := rfl
theorem e_Land_areLinked_15 (x : Int32) : (WP Gm j_Land_areLinked 15 (ls) (.inl x :: st) h Q) = (if x = 0 then WP Gm j_Land_areLinked 22 (ls) (st) (h) Q else WP Gm j_Land_areLinked 18 (ls) (st) (h) Q) := (WP_at c_Land_areLinked_15 _ _ _ _).trans (nd_if rfl _ _ _ _)
theorem c_Land_areLinked_18 : mCode j_Land_areLinked 18 = oI 1 19 := rfl
theorem e_Land_areLinked_18  : (WP Gm j_Land_areLinked 18 (ls) (st) h Q) = (WP Gm j_Land_areLinked 19 (ls) (.inl 1 :: st) (h) Q) := (WP_at c_Land_areLinked_18 _ _ _ _)
theorem c_Land_areLinked_19 : mCode j_Land_areLinked 19 = oGo 23 := rfl
theorem e_Land_areLinked_19  : (WP Gm j_Land_areLinked 19 (ls) (st) h Q) = (WP Gm j_Land_areLinked 23 (ls) (st) (h) Q) := (WP_at c_Land_areLinked_19 _ _ _ _)
theorem c_Land_areLinked_22 : mCode j_Land_areLinked 22 = oI 0 23 := rfl
theorem e_Land_areLinked_22  : (WP Gm j_Land_areLinked 22 (ls) (st) h Q) = (WP Gm j_Land_areLinked 23 (ls) (.inl 0 :: st) (h) Q) := (WP_at c_Land_areLinked_22 _ _ _ _)
theorem c_Land_areLinked_23 : mCode j_Land_areLinked 23 = oRetZ := rfl
theorem e_Land_areLinked_23 (x : Int32) (hx : x = 0 ∨ x = 1) : (WP Gm j_Land_areLinked 23 (ls) ([.inl x]) h Q) = (Q (.inl (some (.inl x))) h) := (WP_at c_Land_areLinked_23 _ _ _ _).trans (congrArg (fun o => ndX Gm (WP Gm) j_Land_areLinked 23 o Q) (if_pos (by rcases hx with rfl | rfl <;> rfl)))
theorem c_Land_linkedWith_0 : mCode j_Land_linkedWith 0 = oI 0 1 := rfl
theorem e_Land_linkedWith_0  : (WP Gm j_Land_linkedWith 0 (ls) (st) h Q) = (WP Gm j_Land_linkedWith 1 (ls) (.inl 0 :: st) (h) Q) := (WP_at c_Land_linkedWith_0 _ _ _ _)
theorem c_Land_linkedWith_1 : mCode j_Land_linkedWith 1 = oIst 2 2 := rfl
theorem e_Land_linkedWith_1 (x : Int32) : (WP Gm j_Land_linkedWith 1 (ls) (.inl x :: st) h Q) = (WP Gm j_Land_linkedWith 2 (lSet1 ls 2 (some (.inl x))) (st) (h) Q) := (WP_at c_Land_linkedWith_1 _ _ _ _)
theorem c_Land_linkedWith_2 : mCode j_Land_linkedWith 2 = oI 0 3 := rfl
theorem e_Land_linkedWith_2  : (WP Gm j_Land_linkedWith 2 (ls) (st) h Q) = (WP Gm j_Land_linkedWith 3 (ls) (.inl 0 :: st) (h) Q) := (WP_at c_Land_linkedWith_2 _ _ _ _)
theorem c_Land_linkedWith_3 : mCode j_Land_linkedWith 3 = oIst 3 4 := rfl
theorem e_Land_linkedWith_3 (x : Int32) : (WP Gm j_Land_linkedWith 3 (ls) (.inl x :: st) h Q) = (WP Gm j_Land_linkedWith 4 (lSet1 ls 3 (some (.inl x))) (st) (h) Q) := (WP_at c_Land_linkedWith_3 _ _ _ _)
theorem c_Land_linkedWith_4 : mCode j_Land_linkedWith 4 = oIld 3 5 := rfl
theorem e_Land_linkedWith_4 (a0 a1 a2 : Option MV) (x : Int32) : (WP Gm j_Land_linkedWith 4 (a0 :: a1 :: a2 :: some (.inl x) :: ls) (st) h Q) = (WP Gm j_Land_linkedWith 5 (a0 :: a1 :: a2 :: some (.inl x) :: ls) (.inl x :: st) (h) Q) := (WP_at c_Land_linkedWith_4 _ _ _ _)
theorem c_Land_linkedWith_5 : mCode j_Land_linkedWith 5 = oAld 0 6 := rfl
theorem e_Land_linkedWith_5 (x : Option Nat) : (WP Gm j_Land_linkedWith 5 (some (.inr (.inl x)) :: ls) (st) h Q) = (WP Gm j_Land_linkedWith 6 (some (.inr (.inl x)) :: ls) (.inr (.inl x) :: st) (h) Q) := (WP_at c_Land_linkedWith_5 _ _ _ _)
theorem c_Land_linkedWith_6 : mCode j_Land_linkedWith 6 = oGetI kc_Land 2 9 := rfl
theorem e_Land_linkedWith_6 (a : Nat) (hk : isK h a kc_Land = true) : (WP Gm j_Land_linkedWith 6 (ls) (.inr (.inl (some a)) :: st) h Q) = (WP Gm j_Land_linkedWith 9 (ls) (.inl (gI h a 2) :: st) (h) Q) := (WP_at c_Land_linkedWith_6 _ _ _ _).trans (congrArg (fun o => ndX Gm (WP Gm) j_Land_linkedWith 6 o Q) (if_pos hk))
theorem c_Land_linkedWith_9 : mCode j_Land_linkedWith 9 = oIC (fun x y => decide (y ≤ x)) 33 12 := rfl
theorem e_Land_linkedWith_9 (x y : Int32) : (WP Gm j_Land_linkedWith 9 (ls) (.inl y :: .inl x :: st) h Q) = (if y ≤ x then WP Gm j_Land_linkedWith 33 (ls) (st) (h) Q else WP Gm j_Land_linkedWith 12 (ls) (st) (h) Q) := (WP_at c_Land_linkedWith_9 _ _ _ _).trans (nd_ic rfl _ _ _ _)
theorem c_Land_linkedWith_12 : mCode j_Land_linkedWith 12 = oAld 0 13 := rfl
theorem e_Land_linkedWith_12 (x : Option Nat) : (WP Gm j_Land_linkedWith 12 (some (.inr (.inl x)) :: ls) (st) h Q) = (WP Gm j_Land_linkedWith 13 (some (.inr (.inl x)) :: ls) (.inr (.inl x) :: st) (h) Q) := (WP_at c_Land_linkedWith_12 _ _ _ _)
theorem c_Land_linkedWith_13 : mCode j_Land_linkedWith 13 = oIld 1 14 := rfl
theorem e_Land_linkedWith_13 (a0 : Option MV) (x : Int32) : (WP Gm j_Land_linkedWith 13 (a0 :: some (.inl x) :: ls) (st) h Q) = (WP Gm j_Land_linkedWith 14 (a0 :: some (.inl x) :: ls) (.inl x :: st) (h) Q) := (WP_at c_Land_linkedWith_13 _ _ _ _)
theorem c_Land_linkedWith_14 : mCode j_Land_linkedWith 14 = oIld 3 15 := rfl
theorem e_Land_linkedWith_14 (a0 a1 a2 : Option MV) (x : Int32) : (WP Gm j_Land_linkedWith 14 (a0 :: a1 :: a2 :: some (.inl x) :: ls) (st) h Q) = (WP Gm j_Land_linkedWith 15 (a0 :: a1 :: a2 :: some (.inl x) :: ls) (.inl x :: st) (h) Q) := (WP_at c_Land_linkedWith_14 _ _ _ _)
theorem c_Land_linkedWith_15 : mCode j_Land_linkedWith 15 = oCallV kc_Land j_Land_areLinked 2 (mL j_Land_areLinked) 18 := rfl
theorem e_Land_linkedWith_15 (a : Nat) (x0 : Int32) (x1 : Int32) (hk : isK h a kc_Land = true) (hc : c8 st = true) : (WP Gm j_Land_linkedWith 15 (ls) (.inl x1 :: .inl x0 :: .inr (.inl (some a)) :: st) h Q) = (WP Gm j_Land_areLinked 0 [some (.inr (.inl (some a))), some (.inl x0), some (.inl x1)] [] h (kC (fun v h2 => WP Gm j_Land_linkedWith 18 ls (v.toList ++ st) h2 Q) (fun E h2 => Q (.inr E) h2))) := (WP_at c_Land_linkedWith_15 _ _ _ _).trans (congrArg (fun o => ndX Gm (WP Gm) j_Land_linkedWith 15 o Q) (if_pos (by rw [hk, show decide (catS st ≤ 8) = true from hc]; rfl)))
theorem c_Land_linkedWith_18 : mCode j_Land_linkedWith 18 = oIf (fun x => decide (x = 0)) 27 21 := rfl
theorem e_Land_linkedWith_18 (x : Int32) : (WP Gm j_Land_linkedWith 18 (ls) (.inl x :: st) h Q) = (if x = 0 then WP Gm j_Land_linkedWith 27 (ls) (st) (h) Q else WP Gm j_Land_linkedWith 21 (ls) (st) (h) Q) := (WP_at c_Land_linkedWith_18 _ _ _ _).trans (nd_if rfl _ _ _ _)
theorem c_Land_linkedWith_21 : mCode j_Land_linkedWith 21 = oIld 2 22 := rfl
theorem e_Land_linkedWith_21 (a0 a1 : Option MV) (x : Int32) : (WP Gm j_Land_linkedWith 21 (a0 :: a1 :: some (.inl x) :: ls) (st) h Q) = (WP Gm j_Land_linkedWith 22 (a0 :: a1 :: some (.inl x) :: ls) (.inl x :: st) (h) Q) := (WP_at c_Land_linkedWith_21 _ _ _ _)
theorem c_Land_linkedWith_22 : mCode j_Land_linkedWith 22 = oI 1 23 := rfl
theorem e_Land_linkedWith_22  : (WP Gm j_Land_linkedWith 22 (ls) (st) h Q) = (WP Gm j_Land_linkedWith 23 (ls) (.inl 1 :: st) (h) Q) := (WP_at c_Land_linkedWith_22 _ _ _ _)
theorem c_Land_linkedWith_23 : mCode j_Land_linkedWith 23 = oIld 3 24 := rfl
theorem e_Land_linkedWith_23 (a0 a1 a2 : Option MV) (x : Int32) : (WP Gm j_Land_linkedWith 23 (a0 :: a1 :: a2 :: some (.inl x) :: ls) (st) h Q) = (WP Gm j_Land_linkedWith 24 (a0 :: a1 :: a2 :: some (.inl x) :: ls) (.inl x :: st) (h) Q) := (WP_at c_Land_linkedWith_23 _ _ _ _)
theorem c_Land_linkedWith_24 : mCode j_Land_linkedWith 24 = oII (fun x y => x <<< (y &&& 31)) 25 := rfl
theorem e_Land_linkedWith_24 (x : Int32) (y : Int32) : (WP Gm j_Land_linkedWith 24 (ls) (.inl y :: .inl x :: st) h Q) = (WP Gm j_Land_linkedWith 25 (ls) (.inl (x <<< (y &&& 31)) :: st) (h) Q) := (WP_at c_Land_linkedWith_24 _ _ _ _)
theorem c_Land_linkedWith_25 : mCode j_Land_linkedWith 25 = oII (fun x y => x ||| y) 26 := rfl
theorem e_Land_linkedWith_25 (x : Int32) (y : Int32) : (WP Gm j_Land_linkedWith 25 (ls) (.inl y :: .inl x :: st) h Q) = (WP Gm j_Land_linkedWith 26 (ls) (.inl (x ||| y) :: st) (h) Q) := (WP_at c_Land_linkedWith_25 _ _ _ _)
theorem c_Land_linkedWith_26 : mCode j_Land_linkedWith 26 = oIst 2 27 := rfl
theorem e_Land_linkedWith_26 (x : Int32) : (WP Gm j_Land_linkedWith 26 (ls) (.inl x :: st) h Q) = (WP Gm j_Land_linkedWith 27 (lSet1 ls 2 (some (.inl x))) (st) (h) Q) := (WP_at c_Land_linkedWith_26 _ _ _ _)
theorem c_Land_linkedWith_27 : mCode j_Land_linkedWith 27 = oInc 3 1 30 := rfl
theorem e_Land_linkedWith_27 (a0 a1 a2 : Option MV) (x : Int32) : (WP Gm j_Land_linkedWith 27 (a0 :: a1 :: a2 :: some (.inl x) :: ls) (st) h Q) = (WP Gm j_Land_linkedWith 30 (lSet1 (a0 :: a1 :: a2 :: some (.inl x) :: ls) 3 (some (.inl (x + 1)))) (st) (h) Q) := (WP_at c_Land_linkedWith_27 _ _ _ _)
theorem c_Land_linkedWith_30 : mCode j_Land_linkedWith 30 = oGo 4 := rfl
theorem e_Land_linkedWith_30  : (WP Gm j_Land_linkedWith 30 (ls) (st) h Q) = (WP Gm j_Land_linkedWith 4 (ls) (st) (h) Q) := (WP_at c_Land_linkedWith_30 _ _ _ _)
theorem c_Land_linkedWith_33 : mCode j_Land_linkedWith 33 = oIld 2 34 := rfl
theorem e_Land_linkedWith_33 (a0 a1 : Option MV) (x : Int32) : (WP Gm j_Land_linkedWith 33 (a0 :: a1 :: some (.inl x) :: ls) (st) h Q) = (WP Gm j_Land_linkedWith 34 (a0 :: a1 :: some (.inl x) :: ls) (.inl x :: st) (h) Q) := (WP_at c_Land_linkedWith_33 _ _ _ _)
theorem c_Land_linkedWith_34 : mCode j_Land_linkedWith 34 = oRetI := rfl
theorem e_Land_linkedWith_34 (x : Int32) : (WP Gm j_Land_linkedWith 34 (ls) ([.inl x]) h Q) = (Q (.inl (some (.inl x))) h) := (WP_at c_Land_linkedWith_34 _ _ _ _)
theorem c_Land_hearsOneOf_0 : mCode j_Land_hearsOneOf 0 = oI 0 1 := rfl
theorem e_Land_hearsOneOf_0  : (WP Gm j_Land_hearsOneOf 0 (ls) (st) h Q) = (WP Gm j_Land_hearsOneOf 1 (ls) (.inl 0 :: st) (h) Q) := (WP_at c_Land_hearsOneOf_0 _ _ _ _)
theorem c_Land_hearsOneOf_1 : mCode j_Land_hearsOneOf 1 = oIst 3 2 := rfl
theorem e_Land_hearsOneOf_1 (x : Int32) : (WP Gm j_Land_hearsOneOf 1 (ls) (.inl x :: st) h Q) = (WP Gm j_Land_hearsOneOf 2 (lSet1 ls 3 (some (.inl x))) (st) (h) Q) := (WP_at c_Land_hearsOneOf_1 _ _ _ _)
theorem c_Land_hearsOneOf_2 : mCode j_Land_hearsOneOf 2 = oIld 3 3 := rfl
theorem e_Land_hearsOneOf_2 (a0 a1 a2 : Option MV) (x : Int32) : (WP Gm j_Land_hearsOneOf 2 (a0 :: a1 :: a2 :: some (.inl x) :: ls) (st) h Q) = (WP Gm j_Land_hearsOneOf 3 (a0 :: a1 :: a2 :: some (.inl x) :: ls) (.inl x :: st) (h) Q) := (WP_at c_Land_hearsOneOf_2 _ _ _ _)
theorem c_Land_hearsOneOf_3 : mCode j_Land_hearsOneOf 3 = oAld 0 4 := rfl
theorem e_Land_hearsOneOf_3 (x : Option Nat) : (WP Gm j_Land_hearsOneOf 3 (some (.inr (.inl x)) :: ls) (st) h Q) = (WP Gm j_Land_hearsOneOf 4 (some (.inr (.inl x)) :: ls) (.inr (.inl x) :: st) (h) Q) := (WP_at c_Land_hearsOneOf_3 _ _ _ _)
theorem c_Land_hearsOneOf_4 : mCode j_Land_hearsOneOf 4 = oGetI kc_Land 2 7 := rfl
theorem e_Land_hearsOneOf_4 (a : Nat) (hk : isK h a kc_Land = true) : (WP Gm j_Land_hearsOneOf 4 (ls) (.inr (.inl (some a)) :: st) h Q) = (WP Gm j_Land_hearsOneOf 7 (ls) (.inl (gI h a 2) :: st) (h) Q) := (WP_at c_Land_hearsOneOf_4 _ _ _ _).trans (congrArg (fun o => ndX Gm (WP Gm) j_Land_hearsOneOf 4 o Q) (if_pos hk))
theorem c_Land_hearsOneOf_7 : mCode j_Land_hearsOneOf 7 = oIC (fun x y => decide (y ≤ x)) 35 10 := rfl
theorem e_Land_hearsOneOf_7 (x y : Int32) : (WP Gm j_Land_hearsOneOf 7 (ls) (.inl y :: .inl x :: st) h Q) = (if y ≤ x then WP Gm j_Land_hearsOneOf 35 (ls) (st) (h) Q else WP Gm j_Land_hearsOneOf 10 (ls) (st) (h) Q) := (WP_at c_Land_hearsOneOf_7 _ _ _ _).trans (nd_ic rfl _ _ _ _)
theorem c_Land_hearsOneOf_10 : mCode j_Land_hearsOneOf 10 = oIld 2 11 := rfl
theorem e_Land_hearsOneOf_10 (a0 a1 : Option MV) (x : Int32) : (WP Gm j_Land_hearsOneOf 10 (a0 :: a1 :: some (.inl x) :: ls) (st) h Q) = (WP Gm j_Land_hearsOneOf 11 (a0 :: a1 :: some (.inl x) :: ls) (.inl x :: st) (h) Q) := (WP_at c_Land_hearsOneOf_10 _ _ _ _)
theorem c_Land_hearsOneOf_11 : mCode j_Land_hearsOneOf 11 = oIld 3 12 := rfl
theorem e_Land_hearsOneOf_11 (a0 a1 a2 : Option MV) (x : Int32) : (WP Gm j_Land_hearsOneOf 11 (a0 :: a1 :: a2 :: some (.inl x) :: ls) (st) h Q) = (WP Gm j_Land_hearsOneOf 12 (a0 :: a1 :: a2 :: some (.inl x) :: ls) (.inl x :: st) (h) Q) := (WP_at c_Land_hearsOneOf_11 _ _ _ _)
theorem c_Land_hearsOneOf_12 : mCode j_Land_hearsOneOf 12 = oCallS j_S_isIn 2 (mL j_S_isIn) 15 := rfl
theorem e_Land_hearsOneOf_12 (x0 : Int32) (x1 : Int32) (hc : c8 st = true) : (WP Gm j_Land_hearsOneOf 12 (ls) (.inl x1 :: .inl x0 :: st) h Q) = (WP Gm j_S_isIn 0 [some (.inl x0), some (.inl x1)] [] h (kC (fun v h2 => WP Gm j_Land_hearsOneOf 15 ls (v.toList ++ st) h2 Q) (fun E h2 => Q (.inr E) h2))) := (WP_at c_Land_hearsOneOf_12 _ _ _ _).trans (congrArg (fun o => ndX Gm (WP Gm) j_Land_hearsOneOf 12 o Q) (if_pos (by rw [show decide (catS st ≤ 8) = true from hc]; rfl)))
theorem c_Land_hearsOneOf_15 : mCode j_Land_hearsOneOf 15 = oIf (fun x => decide (x = 0)) 29 18 := rfl
theorem e_Land_hearsOneOf_15 (x : Int32) : (WP Gm j_Land_hearsOneOf 15 (ls) (.inl x :: st) h Q) = (if x = 0 then WP Gm j_Land_hearsOneOf 29 (ls) (st) (h) Q else WP Gm j_Land_hearsOneOf 18 (ls) (st) (h) Q) := (WP_at c_Land_hearsOneOf_15 _ _ _ _).trans (nd_if rfl _ _ _ _)
theorem c_Land_hearsOneOf_18 : mCode j_Land_hearsOneOf 18 = oAld 0 19 := rfl
theorem e_Land_hearsOneOf_18 (x : Option Nat) : (WP Gm j_Land_hearsOneOf 18 (some (.inr (.inl x)) :: ls) (st) h Q) = (WP Gm j_Land_hearsOneOf 19 (some (.inr (.inl x)) :: ls) (.inr (.inl x) :: st) (h) Q) := (WP_at c_Land_hearsOneOf_18 _ _ _ _)
theorem c_Land_hearsOneOf_19 : mCode j_Land_hearsOneOf 19 = oIld 1 20 := rfl
theorem e_Land_hearsOneOf_19 (a0 : Option MV) (x : Int32) : (WP Gm j_Land_hearsOneOf 19 (a0 :: some (.inl x) :: ls) (st) h Q) = (WP Gm j_Land_hearsOneOf 20 (a0 :: some (.inl x) :: ls) (.inl x :: st) (h) Q) := (WP_at c_Land_hearsOneOf_19 _ _ _ _)
theorem c_Land_hearsOneOf_20 : mCode j_Land_hearsOneOf 20 = oIld 3 21 := rfl
theorem e_Land_hearsOneOf_20 (a0 a1 a2 : Option MV) (x : Int32) : (WP Gm j_Land_hearsOneOf 20 (a0 :: a1 :: a2 :: some (.inl x) :: ls) (st) h Q) = (WP Gm j_Land_hearsOneOf 21 (a0 :: a1 :: a2 :: some (.inl x) :: ls) (.inl x :: st) (h) Q) := (WP_at c_Land_hearsOneOf_20 _ _ _ _)
theorem c_Land_hearsOneOf_21 : mCode j_Land_hearsOneOf 21 = oCallV kc_Land j_Land_canHear 2 (mL j_Land_canHear) 24 := rfl
theorem e_Land_hearsOneOf_21 (a : Nat) (x0 : Int32) (x1 : Int32) (hk : isK h a kc_Land = true) (hc : c8 st = true) : (WP Gm j_Land_hearsOneOf 21 (ls) (.inl x1 :: .inl x0 :: .inr (.inl (some a)) :: st) h Q) = (WP Gm j_Land_canHear 0 [some (.inr (.inl (some a))), some (.inl x0), some (.inl x1)] [] h (kC (fun v h2 => WP Gm j_Land_hearsOneOf 24 ls (v.toList ++ st) h2 Q) (fun E h2 => Q (.inr E) h2))) := (WP_at c_Land_hearsOneOf_21 _ _ _ _).trans (congrArg (fun o => ndX Gm (WP Gm) j_Land_hearsOneOf 21 o Q) (if_pos (by rw [hk, show decide (catS st ≤ 8) = true from hc]; rfl)))
theorem c_Land_hearsOneOf_24 : mCode j_Land_hearsOneOf 24 = oIf (fun x => decide (x = 0)) 29 27 := rfl
theorem e_Land_hearsOneOf_24 (x : Int32) : (WP Gm j_Land_hearsOneOf 24 (ls) (.inl x :: st) h Q) = (if x = 0 then WP Gm j_Land_hearsOneOf 29 (ls) (st) (h) Q else WP Gm j_Land_hearsOneOf 27 (ls) (st) (h) Q) := (WP_at c_Land_hearsOneOf_24 _ _ _ _).trans (nd_if rfl _ _ _ _)
theorem c_Land_hearsOneOf_27 : mCode j_Land_hearsOneOf 27 = oI 1 28 := rfl
theorem e_Land_hearsOneOf_27  : (WP Gm j_Land_hearsOneOf 27 (ls) (st) h Q) = (WP Gm j_Land_hearsOneOf 28 (ls) (.inl 1 :: st) (h) Q) := (WP_at c_Land_hearsOneOf_27 _ _ _ _)
theorem c_Land_hearsOneOf_28 : mCode j_Land_hearsOneOf 28 = oRetZ := rfl
theorem e_Land_hearsOneOf_28 (x : Int32) (hx : x = 0 ∨ x = 1) : (WP Gm j_Land_hearsOneOf 28 (ls) ([.inl x]) h Q) = (Q (.inl (some (.inl x))) h) := (WP_at c_Land_hearsOneOf_28 _ _ _ _).trans (congrArg (fun o => ndX Gm (WP Gm) j_Land_hearsOneOf 28 o Q) (if_pos (by rcases hx with rfl | rfl <;> rfl)))
theorem c_Land_hearsOneOf_29 : mCode j_Land_hearsOneOf 29 = oInc 3 1 32 := rfl
theorem e_Land_hearsOneOf_29 (a0 a1 a2 : Option MV) (x : Int32) : (WP Gm j_Land_hearsOneOf 29 (a0 :: a1 :: a2 :: some (.inl x) :: ls) (st) h Q) = (WP Gm j_Land_hearsOneOf 32 (lSet1 (a0 :: a1 :: a2 :: some (.inl x) :: ls) 3 (some (.inl (x + 1)))) (st) (h) Q) := (WP_at c_Land_hearsOneOf_29 _ _ _ _)
theorem c_Land_hearsOneOf_32 : mCode j_Land_hearsOneOf 32 = oGo 2 := rfl
theorem e_Land_hearsOneOf_32  : (WP Gm j_Land_hearsOneOf 32 (ls) (st) h Q) = (WP Gm j_Land_hearsOneOf 2 (ls) (st) (h) Q) := (WP_at c_Land_hearsOneOf_32 _ _ _ _)
theorem c_Land_hearsOneOf_35 : mCode j_Land_hearsOneOf 35 = oI 0 36 := rfl
theorem e_Land_hearsOneOf_35  : (WP Gm j_Land_hearsOneOf 35 (ls) (st) h Q) = (WP Gm j_Land_hearsOneOf 36 (ls) (.inl 0 :: st) (h) Q) := (WP_at c_Land_hearsOneOf_35 _ _ _ _)
theorem c_Land_hearsOneOf_36 : mCode j_Land_hearsOneOf 36 = oRetZ := rfl
theorem e_Land_hearsOneOf_36 (x : Int32) (hx : x = 0 ∨ x = 1) : (WP Gm j_Land_hearsOneOf 36 (ls) ([.inl x]) h Q) = (Q (.inl (some (.inl x))) h) := (WP_at c_Land_hearsOneOf_36 _ _ _ _).trans (congrArg (fun o => ndX Gm (WP Gm) j_Land_hearsOneOf 36 o Q) (if_pos (by rcases hx with rfl | rfl <;> rfl)))
theorem c_Land_gets_0 : mCode j_Land_gets 0 = oIld 3 1 := rfl
theorem e_Land_gets_0 (a0 a1 a2 : Option MV) (x : Int32) : (WP Gm j_Land_gets 0 (a0 :: a1 :: a2 :: some (.inl x) :: ls) (st) h Q) = (WP Gm j_Land_gets 1 (a0 :: a1 :: a2 :: some (.inl x) :: ls) (.inl x :: st) (h) Q) := (WP_at c_Land_gets_0 _ _ _ _)
theorem c_Land_gets_1 : mCode j_Land_gets 1 = oIld 1 2 := rfl
theorem e_Land_gets_1 (a0 : Option MV) (x : Int32) : (WP Gm j_Land_gets 1 (a0 :: some (.inl x) :: ls) (st) h Q) = (WP Gm j_Land_gets 2 (a0 :: some (.inl x) :: ls) (.inl x :: st) (h) Q) := (WP_at c_Land_gets_1 _ _ _ _)
theorem c_Land_gets_2 : mCode j_Land_gets 2 = oCallS j_S_isIn 2 (mL j_S_isIn) 5 := rfl
theorem e_Land_gets_2 (x0 : Int32) (x1 : Int32) (hc : c8 st = true) : (WP Gm j_Land_gets 2 (ls) (.inl x1 :: .inl x0 :: st) h Q) = (WP Gm j_S_isIn 0 [some (.inl x0), some (.inl x1)] [] h (kC (fun v h2 => WP Gm j_Land_gets 5 ls (v.toList ++ st) h2 Q) (fun E h2 => Q (.inr E) h2))) := (WP_at c_Land_gets_2 _ _ _ _).trans (congrArg (fun o => ndX Gm (WP Gm) j_Land_gets 2 o Q) (if_pos (by rw [show decide (catS st ≤ 8) = true from hc]; rfl)))
theorem c_Land_gets_5 : mCode j_Land_gets 5 = oIf (fun x => decide (¬ x = 0)) 17 8 := rfl
theorem e_Land_gets_5 (x : Int32) : (WP Gm j_Land_gets 5 (ls) (.inl x :: st) h Q) = (if ¬ x = 0 then WP Gm j_Land_gets 17 (ls) (st) (h) Q else WP Gm j_Land_gets 8 (ls) (st) (h) Q) := (WP_at c_Land_gets_5 _ _ _ _).trans (nd_if rfl _ _ _ _)
theorem c_Land_gets_8 : mCode j_Land_gets 8 = oAld 0 9 := rfl
theorem e_Land_gets_8 (x : Option Nat) : (WP Gm j_Land_gets 8 (some (.inr (.inl x)) :: ls) (st) h Q) = (WP Gm j_Land_gets 9 (some (.inr (.inl x)) :: ls) (.inr (.inl x) :: st) (h) Q) := (WP_at c_Land_gets_8 _ _ _ _)
theorem c_Land_gets_9 : mCode j_Land_gets 9 = oIld 1 10 := rfl
theorem e_Land_gets_9 (a0 : Option MV) (x : Int32) : (WP Gm j_Land_gets 9 (a0 :: some (.inl x) :: ls) (st) h Q) = (WP Gm j_Land_gets 10 (a0 :: some (.inl x) :: ls) (.inl x :: st) (h) Q) := (WP_at c_Land_gets_9 _ _ _ _)
theorem c_Land_gets_10 : mCode j_Land_gets 10 = oIld 2 11 := rfl
theorem e_Land_gets_10 (a0 a1 : Option MV) (x : Int32) : (WP Gm j_Land_gets 10 (a0 :: a1 :: some (.inl x) :: ls) (st) h Q) = (WP Gm j_Land_gets 11 (a0 :: a1 :: some (.inl x) :: ls) (.inl x :: st) (h) Q) := (WP_at c_Land_gets_10 _ _ _ _)
theorem c_Land_gets_11 : mCode j_Land_gets 11 = oCallV kc_Land j_Land_canHear 2 (mL j_Land_canHear) 14 := rfl
theorem e_Land_gets_11 (a : Nat) (x0 : Int32) (x1 : Int32) (hk : isK h a kc_Land = true) (hc : c8 st = true) : (WP Gm j_Land_gets 11 (ls) (.inl x1 :: .inl x0 :: .inr (.inl (some a)) :: st) h Q) = (WP Gm j_Land_canHear 0 [some (.inr (.inl (some a))), some (.inl x0), some (.inl x1)] [] h (kC (fun v h2 => WP Gm j_Land_gets 14 ls (v.toList ++ st) h2 Q) (fun E h2 => Q (.inr E) h2))) := (WP_at c_Land_gets_11 _ _ _ _).trans (congrArg (fun o => ndX Gm (WP Gm) j_Land_gets 11 o Q) (if_pos (by rw [hk, show decide (catS st ≤ 8) = true from hc]; rfl)))
theorem c_Land_gets_14 : mCode j_Land_gets 14 = oIf (fun x => decide (¬ x = 0)) 19 17 := rfl
theorem e_Land_gets_14 (x : Int32) : (WP Gm j_Land_gets 14 (ls) (.inl x :: st) h Q) = (if ¬ x = 0 then WP Gm j_Land_gets 19 (ls) (st) (h) Q else WP Gm j_Land_gets 17 (ls) (st) (h) Q) := (WP_at c_Land_gets_14 _ _ _ _).trans (nd_if rfl _ _ _ _)
theorem c_Land_gets_17 : mCode j_Land_gets 17 = oI 0 18 := rfl
theorem e_Land_gets_17  : (WP Gm j_Land_gets 17 (ls) (st) h Q) = (WP Gm j_Land_gets 18 (ls) (.inl 0 :: st) (h) Q) := (WP_at c_Land_gets_17 _ _ _ _)
theorem c_Land_gets_18 : mCode j_Land_gets 18 = oRetZ := rfl
theorem e_Land_gets_18 (x : Int32) (hx : x = 0 ∨ x = 1) : (WP Gm j_Land_gets 18 (ls) ([.inl x]) h Q) = (Q (.inl (some (.inl x))) h) := (WP_at c_Land_gets_18 _ _ _ _).trans (congrArg (fun o => ndX Gm (WP Gm) j_Land_gets 18 o Q) (if_pos (by rcases hx with rfl | rfl <;> rfl)))
theorem c_Land_gets_19 : mCode j_Land_gets 19 = oI 4 20 := rfl
theorem e_Land_gets_19  : (WP Gm j_Land_gets 19 (ls) (st) h Q) = (WP Gm j_Land_gets 20 (ls) (.inl 4 :: st) (h) Q) := (WP_at c_Land_gets_19 _ _ _ _)
theorem c_Land_gets_20 : mCode j_Land_gets 20 = oAld 0 21 := rfl
theorem e_Land_gets_20 (x : Option Nat) : (WP Gm j_Land_gets 20 (some (.inr (.inl x)) :: ls) (st) h Q) = (WP Gm j_Land_gets 21 (some (.inr (.inl x)) :: ls) (.inr (.inl x) :: st) (h) Q) := (WP_at c_Land_gets_20 _ _ _ _)
theorem c_Land_gets_21 : mCode j_Land_gets 21 = oIld 2 22 := rfl
theorem e_Land_gets_21 (a0 a1 : Option MV) (x : Int32) : (WP Gm j_Land_gets 21 (a0 :: a1 :: some (.inl x) :: ls) (st) h Q) = (WP Gm j_Land_gets 22 (a0 :: a1 :: some (.inl x) :: ls) (.inl x :: st) (h) Q) := (WP_at c_Land_gets_21 _ _ _ _)
theorem c_Land_gets_22 : mCode j_Land_gets 22 = oIld 1 23 := rfl
theorem e_Land_gets_22 (a0 : Option MV) (x : Int32) : (WP Gm j_Land_gets 22 (a0 :: some (.inl x) :: ls) (st) h Q) = (WP Gm j_Land_gets 23 (a0 :: some (.inl x) :: ls) (.inl x :: st) (h) Q) := (WP_at c_Land_gets_22 _ _ _ _)
theorem c_Land_gets_23 : mCode j_Land_gets 23 = oCallV kc_Land j_Land_far 2 (mL j_Land_far) 26 := rfl
theorem e_Land_gets_23 (a : Nat) (x0 : Int32) (x1 : Int32) (hk : isK h a kc_Land = true) (hc : c8 st = true) : (WP Gm j_Land_gets 23 (ls) (.inl x1 :: .inl x0 :: .inr (.inl (some a)) :: st) h Q) = (WP Gm j_Land_far 0 [some (.inr (.inl (some a))), some (.inl x0), some (.inl x1), none, none] [] h (kC (fun v h2 => WP Gm j_Land_gets 26 ls (v.toList ++ st) h2 Q) (fun E h2 => Q (.inr E) h2))) := (WP_at c_Land_gets_23 _ _ _ _).trans (congrArg (fun o => ndX Gm (WP Gm) j_Land_gets 23 o Q) (if_pos (by rw [hk, show decide (catS st ≤ 8) = true from hc]; rfl)))
theorem c_Land_gets_26 : mCode j_Land_gets 26 = oII (fun x y => x * y) 27 := rfl
theorem e_Land_gets_26 (x : Int32) (y : Int32) : (WP Gm j_Land_gets 26 (ls) (.inl y :: .inl x :: st) h Q) = (WP Gm j_Land_gets 27 (ls) (.inl (x * y) :: st) (h) Q) := (WP_at c_Land_gets_26 _ _ _ _)
theorem c_Land_gets_27 : mCode j_Land_gets 27 = oIst 4 29 := rfl
theorem e_Land_gets_27 (x : Int32) : (WP Gm j_Land_gets 27 (ls) (.inl x :: st) h Q) = (WP Gm j_Land_gets 29 (lSet1 ls 4 (some (.inl x))) (st) (h) Q) := (WP_at c_Land_gets_27 _ _ _ _)
theorem c_Land_gets_29 : mCode j_Land_gets 29 = oI 0 30 := rfl
theorem e_Land_gets_29  : (WP Gm j_Land_gets 29 (ls) (st) h Q) = (WP Gm j_Land_gets 30 (ls) (.inl 0 :: st) (h) Q) := (WP_at c_Land_gets_29 _ _ _ _)
theorem c_Land_gets_30 : mCode j_Land_gets 30 = oIst 5 32 := rfl
theorem e_Land_gets_30 (x : Int32) : (WP Gm j_Land_gets 30 (ls) (.inl x :: st) h Q) = (WP Gm j_Land_gets 32 (lSet1 ls 5 (some (.inl x))) (st) (h) Q) := (WP_at c_Land_gets_30 _ _ _ _)
theorem c_Land_gets_32 : mCode j_Land_gets 32 = oIld 5 34 := rfl
theorem e_Land_gets_32 (a0 a1 a2 a3 a4 : Option MV) (x : Int32) : (WP Gm j_Land_gets 32 (a0 :: a1 :: a2 :: a3 :: a4 :: some (.inl x) :: ls) (st) h Q) = (WP Gm j_Land_gets 34 (a0 :: a1 :: a2 :: a3 :: a4 :: some (.inl x) :: ls) (.inl x :: st) (h) Q) := (WP_at c_Land_gets_32 _ _ _ _)
theorem c_Land_gets_34 : mCode j_Land_gets 34 = oAld 0 35 := rfl
theorem e_Land_gets_34 (x : Option Nat) : (WP Gm j_Land_gets 34 (some (.inr (.inl x)) :: ls) (st) h Q) = (WP Gm j_Land_gets 35 (some (.inr (.inl x)) :: ls) (.inr (.inl x) :: st) (h) Q) := (WP_at c_Land_gets_34 _ _ _ _)
theorem c_Land_gets_35 : mCode j_Land_gets 35 = oGetI kc_Land 2 38 := rfl
theorem e_Land_gets_35 (a : Nat) (hk : isK h a kc_Land = true) : (WP Gm j_Land_gets 35 (ls) (.inr (.inl (some a)) :: st) h Q) = (WP Gm j_Land_gets 38 (ls) (.inl (gI h a 2) :: st) (h) Q) := (WP_at c_Land_gets_35 _ _ _ _).trans (congrArg (fun o => ndX Gm (WP Gm) j_Land_gets 35 o Q) (if_pos hk))
theorem c_Land_gets_38 : mCode j_Land_gets 38 = oIC (fun x y => decide (y ≤ x)) 98 41 := rfl
theorem e_Land_gets_38 (x y : Int32) : (WP Gm j_Land_gets 38 (ls) (.inl y :: .inl x :: st) h Q) = (if y ≤ x then WP Gm j_Land_gets 98 (ls) (st) (h) Q else WP Gm j_Land_gets 41 (ls) (st) (h) Q) := (WP_at c_Land_gets_38 _ _ _ _).trans (nd_ic rfl _ _ _ _)
theorem c_Land_gets_41 : mCode j_Land_gets 41 = oIld 5 43 := rfl
theorem e_Land_gets_41 (a0 a1 a2 a3 a4 : Option MV) (x : Int32) : (WP Gm j_Land_gets 41 (a0 :: a1 :: a2 :: a3 :: a4 :: some (.inl x) :: ls) (st) h Q) = (WP Gm j_Land_gets 43 (a0 :: a1 :: a2 :: a3 :: a4 :: some (.inl x) :: ls) (.inl x :: st) (h) Q) := (WP_at c_Land_gets_41 _ _ _ _)
theorem c_Land_gets_43 : mCode j_Land_gets 43 = oIld 2 44 := rfl
theorem e_Land_gets_43 (a0 a1 : Option MV) (x : Int32) : (WP Gm j_Land_gets 43 (a0 :: a1 :: some (.inl x) :: ls) (st) h Q) = (WP Gm j_Land_gets 44 (a0 :: a1 :: some (.inl x) :: ls) (.inl x :: st) (h) Q) := (WP_at c_Land_gets_43 _ _ _ _)
theorem c_Land_gets_44 : mCode j_Land_gets 44 = oIC (fun x y => decide (x = y)) 70 47 := rfl
theorem e_Land_gets_44 (x y : Int32) : (WP Gm j_Land_gets 44 (ls) (.inl y :: .inl x :: st) h Q) = (if x = y then WP Gm j_Land_gets 70 (ls) (st) (h) Q else WP Gm j_Land_gets 47 (ls) (st) (h) Q) := (WP_at c_Land_gets_44 _ _ _ _).trans (nd_ic rfl _ _ _ _)
theorem c_Land_gets_47 : mCode j_Land_gets 47 = oIld 3 48 := rfl
theorem e_Land_gets_47 (a0 a1 a2 : Option MV) (x : Int32) : (WP Gm j_Land_gets 47 (a0 :: a1 :: a2 :: some (.inl x) :: ls) (st) h Q) = (WP Gm j_Land_gets 48 (a0 :: a1 :: a2 :: some (.inl x) :: ls) (.inl x :: st) (h) Q) := (WP_at c_Land_gets_47 _ _ _ _)
theorem c_Land_gets_48 : mCode j_Land_gets 48 = oIld 5 50 := rfl
theorem e_Land_gets_48 (a0 a1 a2 a3 a4 : Option MV) (x : Int32) : (WP Gm j_Land_gets 48 (a0 :: a1 :: a2 :: a3 :: a4 :: some (.inl x) :: ls) (st) h Q) = (WP Gm j_Land_gets 50 (a0 :: a1 :: a2 :: a3 :: a4 :: some (.inl x) :: ls) (.inl x :: st) (h) Q) := (WP_at c_Land_gets_48 _ _ _ _)
theorem c_Land_gets_50 : mCode j_Land_gets 50 = oCallS j_S_isIn 2 (mL j_S_isIn) 53 := rfl
theorem e_Land_gets_50 (x0 : Int32) (x1 : Int32) (hc : c8 st = true) : (WP Gm j_Land_gets 50 (ls) (.inl x1 :: .inl x0 :: st) h Q) = (WP Gm j_S_isIn 0 [some (.inl x0), some (.inl x1)] [] h (kC (fun v h2 => WP Gm j_Land_gets 53 ls (v.toList ++ st) h2 Q) (fun E h2 => Q (.inr E) h2))) := (WP_at c_Land_gets_50 _ _ _ _).trans (congrArg (fun o => ndX Gm (WP Gm) j_Land_gets 50 o Q) (if_pos (by rw [show decide (catS st ≤ 8) = true from hc]; rfl)))
theorem c_Land_gets_53 : mCode j_Land_gets 53 = oIf (fun x => decide (x = 0)) 70 56 := rfl
theorem e_Land_gets_53 (x : Int32) : (WP Gm j_Land_gets 53 (ls) (.inl x :: st) h Q) = (if x = 0 then WP Gm j_Land_gets 70 (ls) (st) (h) Q else WP Gm j_Land_gets 56 (ls) (st) (h) Q) := (WP_at c_Land_gets_53 _ _ _ _).trans (nd_if rfl _ _ _ _)
theorem c_Land_gets_56 : mCode j_Land_gets 56 = oAld 0 57 := rfl
theorem e_Land_gets_56 (x : Option Nat) : (WP Gm j_Land_gets 56 (some (.inr (.inl x)) :: ls) (st) h Q) = (WP Gm j_Land_gets 57 (some (.inr (.inl x)) :: ls) (.inr (.inl x) :: st) (h) Q) := (WP_at c_Land_gets_56 _ _ _ _)
theorem c_Land_gets_57 : mCode j_Land_gets 57 = oIld 1 58 := rfl
theorem e_Land_gets_57 (a0 : Option MV) (x : Int32) : (WP Gm j_Land_gets 57 (a0 :: some (.inl x) :: ls) (st) h Q) = (WP Gm j_Land_gets 58 (a0 :: some (.inl x) :: ls) (.inl x :: st) (h) Q) := (WP_at c_Land_gets_57 _ _ _ _)
theorem c_Land_gets_58 : mCode j_Land_gets 58 = oIld 5 60 := rfl
theorem e_Land_gets_58 (a0 a1 a2 a3 a4 : Option MV) (x : Int32) : (WP Gm j_Land_gets 58 (a0 :: a1 :: a2 :: a3 :: a4 :: some (.inl x) :: ls) (st) h Q) = (WP Gm j_Land_gets 60 (a0 :: a1 :: a2 :: a3 :: a4 :: some (.inl x) :: ls) (.inl x :: st) (h) Q) := (WP_at c_Land_gets_58 _ _ _ _)
theorem c_Land_gets_60 : mCode j_Land_gets 60 = oCallV kc_Land j_Land_canHear 2 (mL j_Land_canHear) 63 := rfl
theorem e_Land_gets_60 (a : Nat) (x0 : Int32) (x1 : Int32) (hk : isK h a kc_Land = true) (hc : c8 st = true) : (WP Gm j_Land_gets 60 (ls) (.inl x1 :: .inl x0 :: .inr (.inl (some a)) :: st) h Q) = (WP Gm j_Land_canHear 0 [some (.inr (.inl (some a))), some (.inl x0), some (.inl x1)] [] h (kC (fun v h2 => WP Gm j_Land_gets 63 ls (v.toList ++ st) h2 Q) (fun E h2 => Q (.inr E) h2))) := (WP_at c_Land_gets_60 _ _ _ _).trans (congrArg (fun o => ndX Gm (WP Gm) j_Land_gets 60 o Q) (if_pos (by rw [hk, show decide (catS st ≤ 8) = true from hc]; rfl)))
theorem c_Land_gets_63 : mCode j_Land_gets 63 = oIf (fun x => decide (x = 0)) 70 66 := rfl
theorem e_Land_gets_63 (x : Int32) : (WP Gm j_Land_gets 63 (ls) (.inl x :: st) h Q) = (if x = 0 then WP Gm j_Land_gets 70 (ls) (st) (h) Q else WP Gm j_Land_gets 66 (ls) (st) (h) Q) := (WP_at c_Land_gets_63 _ _ _ _).trans (nd_if rfl _ _ _ _)
theorem c_Land_gets_66 : mCode j_Land_gets 66 = oI 1 67 := rfl
theorem e_Land_gets_66  : (WP Gm j_Land_gets 66 (ls) (st) h Q) = (WP Gm j_Land_gets 67 (ls) (.inl 1 :: st) (h) Q) := (WP_at c_Land_gets_66 _ _ _ _)
theorem c_Land_gets_67 : mCode j_Land_gets 67 = oGo 71 := rfl
theorem e_Land_gets_67  : (WP Gm j_Land_gets 67 (ls) (st) h Q) = (WP Gm j_Land_gets 71 (ls) (st) (h) Q) := (WP_at c_Land_gets_67 _ _ _ _)
theorem c_Land_gets_70 : mCode j_Land_gets 70 = oI 0 71 := rfl
theorem e_Land_gets_70  : (WP Gm j_Land_gets 70 (ls) (st) h Q) = (WP Gm j_Land_gets 71 (ls) (.inl 0 :: st) (h) Q) := (WP_at c_Land_gets_70 _ _ _ _)
theorem c_Land_gets_71 : mCode j_Land_gets 71 = oIst 6 73 := rfl
theorem e_Land_gets_71 (x : Int32) : (WP Gm j_Land_gets 71 (ls) (.inl x :: st) h Q) = (WP Gm j_Land_gets 73 (lSet1 ls 6 (some (.inl x))) (st) (h) Q) := (WP_at c_Land_gets_71 _ _ _ _)
theorem c_Land_gets_73 : mCode j_Land_gets 73 = oIld 6 75 := rfl
theorem e_Land_gets_73 (a0 a1 a2 a3 a4 a5 : Option MV) (x : Int32) : (WP Gm j_Land_gets 73 (a0 :: a1 :: a2 :: a3 :: a4 :: a5 :: some (.inl x) :: ls) (st) h Q) = (WP Gm j_Land_gets 75 (a0 :: a1 :: a2 :: a3 :: a4 :: a5 :: some (.inl x) :: ls) (.inl x :: st) (h) Q) := (WP_at c_Land_gets_73 _ _ _ _)
theorem c_Land_gets_75 : mCode j_Land_gets 75 = oIf (fun x => decide (x = 0)) 92 78 := rfl
theorem e_Land_gets_75 (x : Int32) : (WP Gm j_Land_gets 75 (ls) (.inl x :: st) h Q) = (if x = 0 then WP Gm j_Land_gets 92 (ls) (st) (h) Q else WP Gm j_Land_gets 78 (ls) (st) (h) Q) := (WP_at c_Land_gets_75 _ _ _ _).trans (nd_if rfl _ _ _ _)
theorem c_Land_gets_78 : mCode j_Land_gets 78 = oIld 4 80 := rfl
theorem e_Land_gets_78 (a0 a1 a2 a3 : Option MV) (x : Int32) : (WP Gm j_Land_gets 78 (a0 :: a1 :: a2 :: a3 :: some (.inl x) :: ls) (st) h Q) = (WP Gm j_Land_gets 80 (a0 :: a1 :: a2 :: a3 :: some (.inl x) :: ls) (.inl x :: st) (h) Q) := (WP_at c_Land_gets_78 _ _ _ _)
theorem c_Land_gets_80 : mCode j_Land_gets 80 = oAld 0 81 := rfl
theorem e_Land_gets_80 (x : Option Nat) : (WP Gm j_Land_gets 80 (some (.inr (.inl x)) :: ls) (st) h Q) = (WP Gm j_Land_gets 81 (some (.inr (.inl x)) :: ls) (.inr (.inl x) :: st) (h) Q) := (WP_at c_Land_gets_80 _ _ _ _)
theorem c_Land_gets_81 : mCode j_Land_gets 81 = oIld 5 83 := rfl
theorem e_Land_gets_81 (a0 a1 a2 a3 a4 : Option MV) (x : Int32) : (WP Gm j_Land_gets 81 (a0 :: a1 :: a2 :: a3 :: a4 :: some (.inl x) :: ls) (st) h Q) = (WP Gm j_Land_gets 83 (a0 :: a1 :: a2 :: a3 :: a4 :: some (.inl x) :: ls) (.inl x :: st) (h) Q) := (WP_at c_Land_gets_81 _ _ _ _)
theorem c_Land_gets_83 : mCode j_Land_gets 83 = oIld 1 84 := rfl
theorem e_Land_gets_83 (a0 : Option MV) (x : Int32) : (WP Gm j_Land_gets 83 (a0 :: some (.inl x) :: ls) (st) h Q) = (WP Gm j_Land_gets 84 (a0 :: some (.inl x) :: ls) (.inl x :: st) (h) Q) := (WP_at c_Land_gets_83 _ _ _ _)
theorem c_Land_gets_84 : mCode j_Land_gets 84 = oCallV kc_Land j_Land_far 2 (mL j_Land_far) 87 := rfl
theorem e_Land_gets_84 (a : Nat) (x0 : Int32) (x1 : Int32) (hk : isK h a kc_Land = true) (hc : c8 st = true) : (WP Gm j_Land_gets 84 (ls) (.inl x1 :: .inl x0 :: .inr (.inl (some a)) :: st) h Q) = (WP Gm j_Land_far 0 [some (.inr (.inl (some a))), some (.inl x0), some (.inl x1), none, none] [] h (kC (fun v h2 => WP Gm j_Land_gets 87 ls (v.toList ++ st) h2 Q) (fun E h2 => Q (.inr E) h2))) := (WP_at c_Land_gets_84 _ _ _ _).trans (congrArg (fun o => ndX Gm (WP Gm) j_Land_gets 84 o Q) (if_pos (by rw [hk, show decide (catS st ≤ 8) = true from hc]; rfl)))
theorem c_Land_gets_87 : mCode j_Land_gets 87 = oIC (fun x y => decide (x ≤ y)) 92 90 := rfl
theorem e_Land_gets_87 (x y : Int32) : (WP Gm j_Land_gets 87 (ls) (.inl y :: .inl x :: st) h Q) = (if x ≤ y then WP Gm j_Land_gets 92 (ls) (st) (h) Q else WP Gm j_Land_gets 90 (ls) (st) (h) Q) := (WP_at c_Land_gets_87 _ _ _ _).trans (nd_ic rfl _ _ _ _)
theorem c_Land_gets_90 : mCode j_Land_gets 90 = oI 0 91 := rfl
theorem e_Land_gets_90  : (WP Gm j_Land_gets 90 (ls) (st) h Q) = (WP Gm j_Land_gets 91 (ls) (.inl 0 :: st) (h) Q) := (WP_at c_Land_gets_90 _ _ _ _)
theorem c_Land_gets_91 : mCode j_Land_gets 91 = oRetZ := rfl
theorem e_Land_gets_91 (x : Int32) (hx : x = 0 ∨ x = 1) : (WP Gm j_Land_gets 91 (ls) ([.inl x]) h Q) = (Q (.inl (some (.inl x))) h) := (WP_at c_Land_gets_91 _ _ _ _).trans (congrArg (fun o => ndX Gm (WP Gm) j_Land_gets 91 o Q) (if_pos (by rcases hx with rfl | rfl <;> rfl)))
theorem c_Land_gets_92 : mCode j_Land_gets 92 = oInc 5 1 95 := rfl
theorem e_Land_gets_92 (a0 a1 a2 a3 a4 : Option MV) (x : Int32) : (WP Gm j_Land_gets 92 (a0 :: a1 :: a2 :: a3 :: a4 :: some (.inl x) :: ls) (st) h Q) = (WP Gm j_Land_gets 95 (lSet1 (a0 :: a1 :: a2 :: a3 :: a4 :: some (.inl x) :: ls) 5 (some (.inl (x + 1)))) (st) (h) Q) := (WP_at c_Land_gets_92 _ _ _ _)
theorem c_Land_gets_95 : mCode j_Land_gets 95 = oGo 32 := rfl
theorem e_Land_gets_95  : (WP Gm j_Land_gets 95 (ls) (st) h Q) = (WP Gm j_Land_gets 32 (ls) (st) (h) Q) := (WP_at c_Land_gets_95 _ _ _ _)
theorem c_Land_gets_98 : mCode j_Land_gets 98 = oI 1 99 := rfl
theorem e_Land_gets_98  : (WP Gm j_Land_gets 98 (ls) (st) h Q) = (WP Gm j_Land_gets 99 (ls) (.inl 1 :: st) (h) Q) := (WP_at c_Land_gets_98 _ _ _ _)
theorem c_Land_gets_99 : mCode j_Land_gets 99 = oRetZ := rfl
theorem e_Land_gets_99 (x : Int32) (hx : x = 0 ∨ x = 1) : (WP Gm j_Land_gets 99 (ls) ([.inl x]) h Q) = (Q (.inl (some (.inl x))) h) := (WP_at c_Land_gets_99 _ _ _ _).trans (congrArg (fun o => ndX Gm (WP Gm) j_Land_gets 99 o Q) (if_pos (by rcases hx with rfl | rfl <;> rfl)))
theorem c_Land_framesInQueues_0 : mCode j_Land_framesInQueues 0 = oI 0 1 := rfl
theorem e_Land_framesInQueues_0  : (WP Gm j_Land_framesInQueues 0 (ls) (st) h Q) = (WP Gm j_Land_framesInQueues 1 (ls) (.inl 0 :: st) (h) Q) := (WP_at c_Land_framesInQueues_0 _ _ _ _)
theorem c_Land_framesInQueues_1 : mCode j_Land_framesInQueues 1 = oIst 1 2 := rfl
theorem e_Land_framesInQueues_1 (x : Int32) : (WP Gm j_Land_framesInQueues 1 (ls) (.inl x :: st) h Q) = (WP Gm j_Land_framesInQueues 2 (lSet1 ls 1 (some (.inl x))) (st) (h) Q) := (WP_at c_Land_framesInQueues_1 _ _ _ _)
theorem c_Land_framesInQueues_2 : mCode j_Land_framesInQueues 2 = oI 0 3 := rfl
theorem e_Land_framesInQueues_2  : (WP Gm j_Land_framesInQueues 2 (ls) (st) h Q) = (WP Gm j_Land_framesInQueues 3 (ls) (.inl 0 :: st) (h) Q) := (WP_at c_Land_framesInQueues_2 _ _ _ _)
theorem c_Land_framesInQueues_3 : mCode j_Land_framesInQueues 3 = oIst 2 4 := rfl
theorem e_Land_framesInQueues_3 (x : Int32) : (WP Gm j_Land_framesInQueues 3 (ls) (.inl x :: st) h Q) = (WP Gm j_Land_framesInQueues 4 (lSet1 ls 2 (some (.inl x))) (st) (h) Q) := (WP_at c_Land_framesInQueues_3 _ _ _ _)
theorem c_Land_framesInQueues_4 : mCode j_Land_framesInQueues 4 = oIld 2 5 := rfl
theorem e_Land_framesInQueues_4 (a0 a1 : Option MV) (x : Int32) : (WP Gm j_Land_framesInQueues 4 (a0 :: a1 :: some (.inl x) :: ls) (st) h Q) = (WP Gm j_Land_framesInQueues 5 (a0 :: a1 :: some (.inl x) :: ls) (.inl x :: st) (h) Q) := (WP_at c_Land_framesInQueues_4 _ _ _ _)
theorem c_Land_framesInQueues_5 : mCode j_Land_framesInQueues 5 = oAld 0 6 := rfl
theorem e_Land_framesInQueues_5 (x : Option Nat) : (WP Gm j_Land_framesInQueues 5 (some (.inr (.inl x)) :: ls) (st) h Q) = (WP Gm j_Land_framesInQueues 6 (some (.inr (.inl x)) :: ls) (.inr (.inl x) :: st) (h) Q) := (WP_at c_Land_framesInQueues_5 _ _ _ _)
theorem c_Land_framesInQueues_6 : mCode j_Land_framesInQueues 6 = oGetI kc_Land 2 9 := rfl
theorem e_Land_framesInQueues_6 (a : Nat) (hk : isK h a kc_Land = true) : (WP Gm j_Land_framesInQueues 6 (ls) (.inr (.inl (some a)) :: st) h Q) = (WP Gm j_Land_framesInQueues 9 (ls) (.inl (gI h a 2) :: st) (h) Q) := (WP_at c_Land_framesInQueues_6 _ _ _ _).trans (congrArg (fun o => ndX Gm (WP Gm) j_Land_framesInQueues 6 o Q) (if_pos hk))
theorem c_Land_framesInQueues_9 : mCode j_Land_framesInQueues 9 = oIC (fun x y => decide (y ≤ x)) 33 12 := rfl
theorem e_Land_framesInQueues_9 (x y : Int32) : (WP Gm j_Land_framesInQueues 9 (ls) (.inl y :: .inl x :: st) h Q) = (if y ≤ x then WP Gm j_Land_framesInQueues 33 (ls) (st) (h) Q else WP Gm j_Land_framesInQueues 12 (ls) (st) (h) Q) := (WP_at c_Land_framesInQueues_9 _ _ _ _).trans (nd_ic rfl _ _ _ _)
theorem c_Land_framesInQueues_12 : mCode j_Land_framesInQueues 12 = oIld 1 13 := rfl
theorem e_Land_framesInQueues_12 (a0 : Option MV) (x : Int32) : (WP Gm j_Land_framesInQueues 12 (a0 :: some (.inl x) :: ls) (st) h Q) = (WP Gm j_Land_framesInQueues 13 (a0 :: some (.inl x) :: ls) (.inl x :: st) (h) Q) := (WP_at c_Land_framesInQueues_12 _ _ _ _)
theorem c_Land_framesInQueues_13 : mCode j_Land_framesInQueues 13 = oAld 0 14 := rfl
theorem e_Land_framesInQueues_13 (x : Option Nat) : (WP Gm j_Land_framesInQueues 13 (some (.inr (.inl x)) :: ls) (st) h Q) = (WP Gm j_Land_framesInQueues 14 (some (.inr (.inl x)) :: ls) (.inr (.inl x) :: st) (h) Q) := (WP_at c_Land_framesInQueues_13 _ _ _ _)
theorem c_Land_framesInQueues_14 : mCode j_Land_framesInQueues 14 = oGetR kc_Land 0 17 := rfl
theorem e_Land_framesInQueues_14 (a : Nat) (hk : isK h a kc_Land = true) : (WP Gm j_Land_framesInQueues 14 (ls) (.inr (.inl (some a)) :: st) h Q) = (WP Gm j_Land_framesInQueues 17 (ls) (.inr (.inl (gR h a 0)) :: st) (h) Q) := (WP_at c_Land_framesInQueues_14 _ _ _ _).trans (congrArg (fun o => ndX Gm (WP Gm) j_Land_framesInQueues 14 o Q) (if_pos hk))
theorem c_Land_framesInQueues_17 : mCode j_Land_framesInQueues 17 = oIld 2 18 := rfl
theorem e_Land_framesInQueues_17 (a0 a1 : Option MV) (x : Int32) : (WP Gm j_Land_framesInQueues 17 (a0 :: a1 :: some (.inl x) :: ls) (st) h Q) = (WP Gm j_Land_framesInQueues 18 (a0 :: a1 :: some (.inl x) :: ls) (.inl x :: st) (h) Q) := (WP_at c_Land_framesInQueues_17 _ _ _ _)
theorem c_Land_framesInQueues_18 : mCode j_Land_framesInQueues 18 = oAal 2 19 := rfl
theorem e_Land_framesInQueues_18 (a : Nat) (i : Int32) (hk : isK h a 102 = true) (hi : inL h a i = true) : (WP Gm j_Land_framesInQueues 18 (ls) (.inl i :: .inr (.inl (some a)) :: st) h Q) = (WP Gm j_Land_framesInQueues 19 (ls) (.inr (.inl (gR h a i.toNatClampNeg)) :: st) (h) Q) := (WP_at c_Land_framesInQueues_18 _ _ _ _).trans (congrArg (fun o => ndX Gm (WP Gm) j_Land_framesInQueues 18 o Q) (if_pos (by rw [hk, hi]; rfl)))
theorem c_Land_framesInQueues_19 : mCode j_Land_framesInQueues 19 = oGetR kc_Node 4 22 := rfl
theorem e_Land_framesInQueues_19 (a : Nat) (hk : isK h a kc_Node = true) : (WP Gm j_Land_framesInQueues 19 (ls) (.inr (.inl (some a)) :: st) h Q) = (WP Gm j_Land_framesInQueues 22 (ls) (.inr (.inl (gR h a 4)) :: st) (h) Q) := (WP_at c_Land_framesInQueues_19 _ _ _ _).trans (congrArg (fun o => ndX Gm (WP Gm) j_Land_framesInQueues 19 o Q) (if_pos hk))
theorem c_Land_framesInQueues_22 : mCode j_Land_framesInQueues 22 = oGetI kc_FrameQueue 1 25 := rfl
theorem e_Land_framesInQueues_22 (a : Nat) (hk : isK h a kc_FrameQueue = true) : (WP Gm j_Land_framesInQueues 22 (ls) (.inr (.inl (some a)) :: st) h Q) = (WP Gm j_Land_framesInQueues 25 (ls) (.inl (gI h a 1) :: st) (h) Q) := (WP_at c_Land_framesInQueues_22 _ _ _ _).trans (congrArg (fun o => ndX Gm (WP Gm) j_Land_framesInQueues 22 o Q) (if_pos hk))
theorem c_Land_framesInQueues_25 : mCode j_Land_framesInQueues 25 = oII (fun x y => x + y) 26 := rfl
theorem e_Land_framesInQueues_25 (x : Int32) (y : Int32) : (WP Gm j_Land_framesInQueues 25 (ls) (.inl y :: .inl x :: st) h Q) = (WP Gm j_Land_framesInQueues 26 (ls) (.inl (x + y) :: st) (h) Q) := (WP_at c_Land_framesInQueues_25 _ _ _ _)
theorem c_Land_framesInQueues_26 : mCode j_Land_framesInQueues 26 = oIst 1 27 := rfl
theorem e_Land_framesInQueues_26 (x : Int32) : (WP Gm j_Land_framesInQueues 26 (ls) (.inl x :: st) h Q) = (WP Gm j_Land_framesInQueues 27 (lSet1 ls 1 (some (.inl x))) (st) (h) Q) := (WP_at c_Land_framesInQueues_26 _ _ _ _)
theorem c_Land_framesInQueues_27 : mCode j_Land_framesInQueues 27 = oInc 2 1 30 := rfl
theorem e_Land_framesInQueues_27 (a0 a1 : Option MV) (x : Int32) : (WP Gm j_Land_framesInQueues 27 (a0 :: a1 :: some (.inl x) :: ls) (st) h Q) = (WP Gm j_Land_framesInQueues 30 (lSet1 (a0 :: a1 :: some (.inl x) :: ls) 2 (some (.inl (x + 1)))) (st) (h) Q) := (WP_at c_Land_framesInQueues_27 _ _ _ _)
theorem c_Land_framesInQueues_30 : mCode j_Land_framesInQueues 30 = oGo 4 := rfl
theorem e_Land_framesInQueues_30  : (WP Gm j_Land_framesInQueues 30 (ls) (st) h Q) = (WP Gm j_Land_framesInQueues 4 (ls) (st) (h) Q) := (WP_at c_Land_framesInQueues_30 _ _ _ _)
theorem c_Land_framesInQueues_33 : mCode j_Land_framesInQueues 33 = oIld 1 34 := rfl
theorem e_Land_framesInQueues_33 (a0 : Option MV) (x : Int32) : (WP Gm j_Land_framesInQueues 33 (a0 :: some (.inl x) :: ls) (st) h Q) = (WP Gm j_Land_framesInQueues 34 (a0 :: some (.inl x) :: ls) (.inl x :: st) (h) Q) := (WP_at c_Land_framesInQueues_33 _ _ _ _)
theorem c_Land_framesInQueues_34 : mCode j_Land_framesInQueues 34 = oRetI := rfl
theorem e_Land_framesInQueues_34 (x : Int32) : (WP Gm j_Land_framesInQueues 34 (ls) ([.inl x]) h Q) = (Q (.inl (some (.inl x))) h) := (WP_at c_Land_framesInQueues_34 _ _ _ _)
theorem c_Land_isSuspect_0 : mCode j_Land_isSuspect 0 = oAld 0 1 := rfl
theorem e_Land_isSuspect_0 (x : Option Nat) : (WP Gm j_Land_isSuspect 0 (some (.inr (.inl x)) :: ls) (st) h Q) = (WP Gm j_Land_isSuspect 1 (some (.inr (.inl x)) :: ls) (.inr (.inl x) :: st) (h) Q) := (WP_at c_Land_isSuspect_0 _ _ _ _)
theorem c_Land_isSuspect_1 : mCode j_Land_isSuspect 1 = oGetR kc_Land 0 4 := rfl
theorem e_Land_isSuspect_1 (a : Nat) (hk : isK h a kc_Land = true) : (WP Gm j_Land_isSuspect 1 (ls) (.inr (.inl (some a)) :: st) h Q) = (WP Gm j_Land_isSuspect 4 (ls) (.inr (.inl (gR h a 0)) :: st) (h) Q) := (WP_at c_Land_isSuspect_1 _ _ _ _).trans (congrArg (fun o => ndX Gm (WP Gm) j_Land_isSuspect 1 o Q) (if_pos hk))
theorem c_Land_isSuspect_4 : mCode j_Land_isSuspect 4 = oIld 1 5 := rfl
theorem e_Land_isSuspect_4 (a0 : Option MV) (x : Int32) : (WP Gm j_Land_isSuspect 4 (a0 :: some (.inl x) :: ls) (st) h Q) = (WP Gm j_Land_isSuspect 5 (a0 :: some (.inl x) :: ls) (.inl x :: st) (h) Q) := (WP_at c_Land_isSuspect_4 _ _ _ _)
theorem c_Land_isSuspect_5 : mCode j_Land_isSuspect 5 = oAal 2 6 := rfl
theorem e_Land_isSuspect_5 (a : Nat) (i : Int32) (hk : isK h a 102 = true) (hi : inL h a i = true) : (WP Gm j_Land_isSuspect 5 (ls) (.inl i :: .inr (.inl (some a)) :: st) h Q) = (WP Gm j_Land_isSuspect 6 (ls) (.inr (.inl (gR h a i.toNatClampNeg)) :: st) (h) Q) := (WP_at c_Land_isSuspect_5 _ _ _ _).trans (congrArg (fun o => ndX Gm (WP Gm) j_Land_isSuspect 5 o Q) (if_pos (by rw [hk, hi]; rfl)))
theorem c_Land_isSuspect_6 : mCode j_Land_isSuspect 6 = oGetI kc_Node 12 9 := rfl
theorem e_Land_isSuspect_6 (a : Nat) (hk : isK h a kc_Node = true) : (WP Gm j_Land_isSuspect 6 (ls) (.inr (.inl (some a)) :: st) h Q) = (WP Gm j_Land_isSuspect 9 (ls) (.inl (gI h a 12) :: st) (h) Q) := (WP_at c_Land_isSuspect_6 _ _ _ _).trans (congrArg (fun o => ndX Gm (WP Gm) j_Land_isSuspect 6 o Q) (if_pos hk))
theorem c_Land_isSuspect_9 : mCode j_Land_isSuspect 9 = oI2L 10 := rfl
theorem e_Land_isSuspect_9 (x : Int32) : (WP Gm j_Land_isSuspect 9 (ls) (.inl x :: st) h Q) = (WP Gm j_Land_isSuspect 10 (ls) (.inr (.inr (.inl x.toInt64)) :: st) (h) Q) := (WP_at c_Land_isSuspect_9 _ _ _ _)
theorem c_Land_isSuspect_10 : mCode j_Land_isSuspect 10 = oLst 2 11 := rfl
theorem e_Land_isSuspect_10 (x : Int64) : (WP Gm j_Land_isSuspect 10 (ls) (.inr (.inr (.inl x)) :: st) h Q) = (WP Gm j_Land_isSuspect 11 (lSet2 ls 2 (.inr (.inr (.inl x)))) (st) (h) Q) := (WP_at c_Land_isSuspect_10 _ _ _ _)
theorem c_Land_isSuspect_11 : mCode j_Land_isSuspect 11 = oAld 0 12 := rfl
theorem e_Land_isSuspect_11 (x : Option Nat) : (WP Gm j_Land_isSuspect 11 (some (.inr (.inl x)) :: ls) (st) h Q) = (WP Gm j_Land_isSuspect 12 (some (.inr (.inl x)) :: ls) (.inr (.inl x) :: st) (h) Q) := (WP_at c_Land_isSuspect_11 _ _ _ _)
theorem c_Land_isSuspect_12 : mCode j_Land_isSuspect 12 = oGetR kc_Land 0 15 := rfl
theorem e_Land_isSuspect_12 (a : Nat) (hk : isK h a kc_Land = true) : (WP Gm j_Land_isSuspect 12 (ls) (.inr (.inl (some a)) :: st) h Q) = (WP Gm j_Land_isSuspect 15 (ls) (.inr (.inl (gR h a 0)) :: st) (h) Q) := (WP_at c_Land_isSuspect_12 _ _ _ _).trans (congrArg (fun o => ndX Gm (WP Gm) j_Land_isSuspect 12 o Q) (if_pos hk))
theorem c_Land_isSuspect_15 : mCode j_Land_isSuspect 15 = oIld 1 16 := rfl
theorem e_Land_isSuspect_15 (a0 : Option MV) (x : Int32) : (WP Gm j_Land_isSuspect 15 (a0 :: some (.inl x) :: ls) (st) h Q) = (WP Gm j_Land_isSuspect 16 (a0 :: some (.inl x) :: ls) (.inl x :: st) (h) Q) := (WP_at c_Land_isSuspect_15 _ _ _ _)
theorem c_Land_isSuspect_16 : mCode j_Land_isSuspect 16 = oAal 2 17 := rfl
theorem e_Land_isSuspect_16 (a : Nat) (i : Int32) (hk : isK h a 102 = true) (hi : inL h a i = true) : (WP Gm j_Land_isSuspect 16 (ls) (.inl i :: .inr (.inl (some a)) :: st) h Q) = (WP Gm j_Land_isSuspect 17 (ls) (.inr (.inl (gR h a i.toNatClampNeg)) :: st) (h) Q) := (WP_at c_Land_isSuspect_16 _ _ _ _).trans (congrArg (fun o => ndX Gm (WP Gm) j_Land_isSuspect 16 o Q) (if_pos (by rw [hk, hi]; rfl)))
theorem c_Land_isSuspect_17 : mCode j_Land_isSuspect 17 = oGetI kc_Node 13 20 := rfl
theorem e_Land_isSuspect_17 (a : Nat) (hk : isK h a kc_Node = true) : (WP Gm j_Land_isSuspect 17 (ls) (.inr (.inl (some a)) :: st) h Q) = (WP Gm j_Land_isSuspect 20 (ls) (.inl (gI h a 13) :: st) (h) Q) := (WP_at c_Land_isSuspect_17 _ _ _ _).trans (congrArg (fun o => ndX Gm (WP Gm) j_Land_isSuspect 17 o Q) (if_pos hk))
theorem c_Land_isSuspect_20 : mCode j_Land_isSuspect 20 = oI2L 21 := rfl
theorem e_Land_isSuspect_20 (x : Int32) : (WP Gm j_Land_isSuspect 20 (ls) (.inl x :: st) h Q) = (WP Gm j_Land_isSuspect 21 (ls) (.inr (.inr (.inl x.toInt64)) :: st) (h) Q) := (WP_at c_Land_isSuspect_20 _ _ _ _)
theorem c_Land_isSuspect_21 : mCode j_Land_isSuspect 21 = oLst 4 23 := rfl
theorem e_Land_isSuspect_21 (x : Int64) : (WP Gm j_Land_isSuspect 21 (ls) (.inr (.inr (.inl x)) :: st) h Q) = (WP Gm j_Land_isSuspect 23 (lSet2 ls 4 (.inr (.inr (.inl x)))) (st) (h) Q) := (WP_at c_Land_isSuspect_21 _ _ _ _)
theorem c_Land_isSuspect_23 : mCode j_Land_isSuspect 23 = oJ 0 24 := rfl
theorem e_Land_isSuspect_23  : (WP Gm j_Land_isSuspect 23 (ls) (st) h Q) = (WP Gm j_Land_isSuspect 24 (ls) (.inr (.inr (.inl 0)) :: st) (h) Q) := (WP_at c_Land_isSuspect_23 _ _ _ _)
theorem c_Land_isSuspect_24 : mCode j_Land_isSuspect 24 = oLst 6 26 := rfl
theorem e_Land_isSuspect_24 (x : Int64) : (WP Gm j_Land_isSuspect 24 (ls) (.inr (.inr (.inl x)) :: st) h Q) = (WP Gm j_Land_isSuspect 26 (lSet2 ls 6 (.inr (.inr (.inl x)))) (st) (h) Q) := (WP_at c_Land_isSuspect_24 _ _ _ _)
theorem c_Land_isSuspect_26 : mCode j_Land_isSuspect 26 = oJ 0 27 := rfl
theorem e_Land_isSuspect_26  : (WP Gm j_Land_isSuspect 26 (ls) (st) h Q) = (WP Gm j_Land_isSuspect 27 (ls) (.inr (.inr (.inl 0)) :: st) (h) Q) := (WP_at c_Land_isSuspect_26 _ _ _ _)
theorem c_Land_isSuspect_27 : mCode j_Land_isSuspect 27 = oLst 8 29 := rfl
theorem e_Land_isSuspect_27 (x : Int64) : (WP Gm j_Land_isSuspect 27 (ls) (.inr (.inr (.inl x)) :: st) h Q) = (WP Gm j_Land_isSuspect 29 (lSet2 ls 8 (.inr (.inr (.inl x)))) (st) (h) Q) := (WP_at c_Land_isSuspect_27 _ _ _ _)
theorem c_Land_isSuspect_29 : mCode j_Land_isSuspect 29 = oI 0 30 := rfl
theorem e_Land_isSuspect_29  : (WP Gm j_Land_isSuspect 29 (ls) (st) h Q) = (WP Gm j_Land_isSuspect 30 (ls) (.inl 0 :: st) (h) Q) := (WP_at c_Land_isSuspect_29 _ _ _ _)
theorem c_Land_isSuspect_30 : mCode j_Land_isSuspect 30 = oIst 10 32 := rfl
theorem e_Land_isSuspect_30 (x : Int32) : (WP Gm j_Land_isSuspect 30 (ls) (.inl x :: st) h Q) = (WP Gm j_Land_isSuspect 32 (lSet1 ls 10 (some (.inl x))) (st) (h) Q) := (WP_at c_Land_isSuspect_30 _ _ _ _)
theorem c_Land_isSuspect_32 : mCode j_Land_isSuspect 32 = oIld 10 34 := rfl
theorem e_Land_isSuspect_32 (a0 a1 a2 a3 a4 a5 a6 a7 a8 a9 : Option MV) (x : Int32) : (WP Gm j_Land_isSuspect 32 (a0 :: a1 :: a2 :: a3 :: a4 :: a5 :: a6 :: a7 :: a8 :: a9 :: some (.inl x) :: ls) (st) h Q) = (WP Gm j_Land_isSuspect 34 (a0 :: a1 :: a2 :: a3 :: a4 :: a5 :: a6 :: a7 :: a8 :: a9 :: some (.inl x) :: ls) (.inl x :: st) (h) Q) := (WP_at c_Land_isSuspect_32 _ _ _ _)
theorem c_Land_isSuspect_34 : mCode j_Land_isSuspect 34 = oAld 0 35 := rfl
theorem e_Land_isSuspect_34 (x : Option Nat) : (WP Gm j_Land_isSuspect 34 (some (.inr (.inl x)) :: ls) (st) h Q) = (WP Gm j_Land_isSuspect 35 (some (.inr (.inl x)) :: ls) (.inr (.inl x) :: st) (h) Q) := (WP_at c_Land_isSuspect_34 _ _ _ _)
theorem c_Land_isSuspect_35 : mCode j_Land_isSuspect 35 = oGetI kc_Land 2 38 := rfl
theorem e_Land_isSuspect_35 (a : Nat) (hk : isK h a kc_Land = true) : (WP Gm j_Land_isSuspect 35 (ls) (.inr (.inl (some a)) :: st) h Q) = (WP Gm j_Land_isSuspect 38 (ls) (.inl (gI h a 2) :: st) (h) Q) := (WP_at c_Land_isSuspect_35 _ _ _ _).trans (congrArg (fun o => ndX Gm (WP Gm) j_Land_isSuspect 35 o Q) (if_pos hk))
theorem c_Land_isSuspect_38 : mCode j_Land_isSuspect 38 = oIC (fun x y => decide (y ≤ x)) 85 41 := rfl
theorem e_Land_isSuspect_38 (x y : Int32) : (WP Gm j_Land_isSuspect 38 (ls) (.inl y :: .inl x :: st) h Q) = (if y ≤ x then WP Gm j_Land_isSuspect 85 (ls) (st) (h) Q else WP Gm j_Land_isSuspect 41 (ls) (st) (h) Q) := (WP_at c_Land_isSuspect_38 _ _ _ _).trans (nd_ic rfl _ _ _ _)
theorem c_Land_isSuspect_41 : mCode j_Land_isSuspect 41 = oIld 10 43 := rfl
theorem e_Land_isSuspect_41 (a0 a1 a2 a3 a4 a5 a6 a7 a8 a9 : Option MV) (x : Int32) : (WP Gm j_Land_isSuspect 41 (a0 :: a1 :: a2 :: a3 :: a4 :: a5 :: a6 :: a7 :: a8 :: a9 :: some (.inl x) :: ls) (st) h Q) = (WP Gm j_Land_isSuspect 43 (a0 :: a1 :: a2 :: a3 :: a4 :: a5 :: a6 :: a7 :: a8 :: a9 :: some (.inl x) :: ls) (.inl x :: st) (h) Q) := (WP_at c_Land_isSuspect_41 _ _ _ _)
theorem c_Land_isSuspect_43 : mCode j_Land_isSuspect 43 = oIld 1 44 := rfl
theorem e_Land_isSuspect_43 (a0 : Option MV) (x : Int32) : (WP Gm j_Land_isSuspect 43 (a0 :: some (.inl x) :: ls) (st) h Q) = (WP Gm j_Land_isSuspect 44 (a0 :: some (.inl x) :: ls) (.inl x :: st) (h) Q) := (WP_at c_Land_isSuspect_43 _ _ _ _)
theorem c_Land_isSuspect_44 : mCode j_Land_isSuspect 44 = oIC (fun x y => decide (x = y)) 79 47 := rfl
theorem e_Land_isSuspect_44 (x y : Int32) : (WP Gm j_Land_isSuspect 44 (ls) (.inl y :: .inl x :: st) h Q) = (if x = y then WP Gm j_Land_isSuspect 79 (ls) (st) (h) Q else WP Gm j_Land_isSuspect 47 (ls) (st) (h) Q) := (WP_at c_Land_isSuspect_44 _ _ _ _).trans (nd_ic rfl _ _ _ _)
theorem c_Land_isSuspect_47 : mCode j_Land_isSuspect 47 = oLld 6 49 := rfl
theorem e_Land_isSuspect_47 (a0 a1 a2 a3 a4 a5 : Option MV) (x : Int64) : (WP Gm j_Land_isSuspect 47 (a0 :: a1 :: a2 :: a3 :: a4 :: a5 :: some (.inr (.inr (.inl x))) :: ls) (st) h Q) = (WP Gm j_Land_isSuspect 49 (a0 :: a1 :: a2 :: a3 :: a4 :: a5 :: some (.inr (.inr (.inl x))) :: ls) (.inr (.inr (.inl x)) :: st) (h) Q) := (WP_at c_Land_isSuspect_47 _ _ _ _)
theorem c_Land_isSuspect_49 : mCode j_Land_isSuspect 49 = oAld 0 50 := rfl
theorem e_Land_isSuspect_49 (x : Option Nat) : (WP Gm j_Land_isSuspect 49 (some (.inr (.inl x)) :: ls) (st) h Q) = (WP Gm j_Land_isSuspect 50 (some (.inr (.inl x)) :: ls) (.inr (.inl x) :: st) (h) Q) := (WP_at c_Land_isSuspect_49 _ _ _ _)
theorem c_Land_isSuspect_50 : mCode j_Land_isSuspect 50 = oGetR kc_Land 0 53 := rfl
theorem e_Land_isSuspect_50 (a : Nat) (hk : isK h a kc_Land = true) : (WP Gm j_Land_isSuspect 50 (ls) (.inr (.inl (some a)) :: st) h Q) = (WP Gm j_Land_isSuspect 53 (ls) (.inr (.inl (gR h a 0)) :: st) (h) Q) := (WP_at c_Land_isSuspect_50 _ _ _ _).trans (congrArg (fun o => ndX Gm (WP Gm) j_Land_isSuspect 50 o Q) (if_pos hk))
theorem c_Land_isSuspect_53 : mCode j_Land_isSuspect 53 = oIld 10 55 := rfl
theorem e_Land_isSuspect_53 (a0 a1 a2 a3 a4 a5 a6 a7 a8 a9 : Option MV) (x : Int32) : (WP Gm j_Land_isSuspect 53 (a0 :: a1 :: a2 :: a3 :: a4 :: a5 :: a6 :: a7 :: a8 :: a9 :: some (.inl x) :: ls) (st) h Q) = (WP Gm j_Land_isSuspect 55 (a0 :: a1 :: a2 :: a3 :: a4 :: a5 :: a6 :: a7 :: a8 :: a9 :: some (.inl x) :: ls) (.inl x :: st) (h) Q) := (WP_at c_Land_isSuspect_53 _ _ _ _)
theorem c_Land_isSuspect_55 : mCode j_Land_isSuspect 55 = oAal 2 56 := rfl
theorem e_Land_isSuspect_55 (a : Nat) (i : Int32) (hk : isK h a 102 = true) (hi : inL h a i = true) : (WP Gm j_Land_isSuspect 55 (ls) (.inl i :: .inr (.inl (some a)) :: st) h Q) = (WP Gm j_Land_isSuspect 56 (ls) (.inr (.inl (gR h a i.toNatClampNeg)) :: st) (h) Q) := (WP_at c_Land_isSuspect_55 _ _ _ _).trans (congrArg (fun o => ndX Gm (WP Gm) j_Land_isSuspect 55 o Q) (if_pos (by rw [hk, hi]; rfl)))
theorem c_Land_isSuspect_56 : mCode j_Land_isSuspect 56 = oGetI kc_Node 12 59 := rfl
theorem e_Land_isSuspect_56 (a : Nat) (hk : isK h a kc_Node = true) : (WP Gm j_Land_isSuspect 56 (ls) (.inr (.inl (some a)) :: st) h Q) = (WP Gm j_Land_isSuspect 59 (ls) (.inl (gI h a 12) :: st) (h) Q) := (WP_at c_Land_isSuspect_56 _ _ _ _).trans (congrArg (fun o => ndX Gm (WP Gm) j_Land_isSuspect 56 o Q) (if_pos hk))
theorem c_Land_isSuspect_59 : mCode j_Land_isSuspect 59 = oI2L 60 := rfl
theorem e_Land_isSuspect_59 (x : Int32) : (WP Gm j_Land_isSuspect 59 (ls) (.inl x :: st) h Q) = (WP Gm j_Land_isSuspect 60 (ls) (.inr (.inr (.inl x.toInt64)) :: st) (h) Q) := (WP_at c_Land_isSuspect_59 _ _ _ _)
theorem c_Land_isSuspect_60 : mCode j_Land_isSuspect 60 = oLL (fun x y => x + y) 61 := rfl
theorem e_Land_isSuspect_60 (x : Int64) (y : Int64) : (WP Gm j_Land_isSuspect 60 (ls) (.inr (.inr (.inl y)) :: .inr (.inr (.inl x)) :: st) h Q) = (WP Gm j_Land_isSuspect 61 (ls) (.inr (.inr (.inl (x + y))) :: st) (h) Q) := (WP_at c_Land_isSuspect_60 _ _ _ _)
theorem c_Land_isSuspect_61 : mCode j_Land_isSuspect 61 = oLst 6 63 := rfl
theorem e_Land_isSuspect_61 (x : Int64) : (WP Gm j_Land_isSuspect 61 (ls) (.inr (.inr (.inl x)) :: st) h Q) = (WP Gm j_Land_isSuspect 63 (lSet2 ls 6 (.inr (.inr (.inl x)))) (st) (h) Q) := (WP_at c_Land_isSuspect_61 _ _ _ _)
theorem c_Land_isSuspect_63 : mCode j_Land_isSuspect 63 = oLld 8 65 := rfl
theorem e_Land_isSuspect_63 (a0 a1 a2 a3 a4 a5 a6 a7 : Option MV) (x : Int64) : (WP Gm j_Land_isSuspect 63 (a0 :: a1 :: a2 :: a3 :: a4 :: a5 :: a6 :: a7 :: some (.inr (.inr (.inl x))) :: ls) (st) h Q) = (WP Gm j_Land_isSuspect 65 (a0 :: a1 :: a2 :: a3 :: a4 :: a5 :: a6 :: a7 :: some (.inr (.inr (.inl x))) :: ls) (.inr (.inr (.inl x)) :: st) (h) Q) := (WP_at c_Land_isSuspect_63 _ _ _ _)
theorem c_Land_isSuspect_65 : mCode j_Land_isSuspect 65 = oAld 0 66 := rfl
theorem e_Land_isSuspect_65 (x : Option Nat) : (WP Gm j_Land_isSuspect 65 (some (.inr (.inl x)) :: ls) (st) h Q) = (WP Gm j_Land_isSuspect 66 (some (.inr (.inl x)) :: ls) (.inr (.inl x) :: st) (h) Q) := (WP_at c_Land_isSuspect_65 _ _ _ _)
theorem c_Land_isSuspect_66 : mCode j_Land_isSuspect 66 = oGetR kc_Land 0 69 := rfl
theorem e_Land_isSuspect_66 (a : Nat) (hk : isK h a kc_Land = true) : (WP Gm j_Land_isSuspect 66 (ls) (.inr (.inl (some a)) :: st) h Q) = (WP Gm j_Land_isSuspect 69 (ls) (.inr (.inl (gR h a 0)) :: st) (h) Q) := (WP_at c_Land_isSuspect_66 _ _ _ _).trans (congrArg (fun o => ndX Gm (WP Gm) j_Land_isSuspect 66 o Q) (if_pos hk))
theorem c_Land_isSuspect_69 : mCode j_Land_isSuspect 69 = oIld 10 71 := rfl
theorem e_Land_isSuspect_69 (a0 a1 a2 a3 a4 a5 a6 a7 a8 a9 : Option MV) (x : Int32) : (WP Gm j_Land_isSuspect 69 (a0 :: a1 :: a2 :: a3 :: a4 :: a5 :: a6 :: a7 :: a8 :: a9 :: some (.inl x) :: ls) (st) h Q) = (WP Gm j_Land_isSuspect 71 (a0 :: a1 :: a2 :: a3 :: a4 :: a5 :: a6 :: a7 :: a8 :: a9 :: some (.inl x) :: ls) (.inl x :: st) (h) Q) := (WP_at c_Land_isSuspect_69 _ _ _ _)
theorem c_Land_isSuspect_71 : mCode j_Land_isSuspect 71 = oAal 2 72 := rfl
theorem e_Land_isSuspect_71 (a : Nat) (i : Int32) (hk : isK h a 102 = true) (hi : inL h a i = true) : (WP Gm j_Land_isSuspect 71 (ls) (.inl i :: .inr (.inl (some a)) :: st) h Q) = (WP Gm j_Land_isSuspect 72 (ls) (.inr (.inl (gR h a i.toNatClampNeg)) :: st) (h) Q) := (WP_at c_Land_isSuspect_71 _ _ _ _).trans (congrArg (fun o => ndX Gm (WP Gm) j_Land_isSuspect 71 o Q) (if_pos (by rw [hk, hi]; rfl)))
theorem c_Land_isSuspect_72 : mCode j_Land_isSuspect 72 = oGetI kc_Node 13 75 := rfl
theorem e_Land_isSuspect_72 (a : Nat) (hk : isK h a kc_Node = true) : (WP Gm j_Land_isSuspect 72 (ls) (.inr (.inl (some a)) :: st) h Q) = (WP Gm j_Land_isSuspect 75 (ls) (.inl (gI h a 13) :: st) (h) Q) := (WP_at c_Land_isSuspect_72 _ _ _ _).trans (congrArg (fun o => ndX Gm (WP Gm) j_Land_isSuspect 72 o Q) (if_pos hk))
theorem c_Land_isSuspect_75 : mCode j_Land_isSuspect 75 = oI2L 76 := rfl
theorem e_Land_isSuspect_75 (x : Int32) : (WP Gm j_Land_isSuspect 75 (ls) (.inl x :: st) h Q) = (WP Gm j_Land_isSuspect 76 (ls) (.inr (.inr (.inl x.toInt64)) :: st) (h) Q) := (WP_at c_Land_isSuspect_75 _ _ _ _)
theorem c_Land_isSuspect_76 : mCode j_Land_isSuspect 76 = oLL (fun x y => x + y) 77 := rfl
theorem e_Land_isSuspect_76 (x : Int64) (y : Int64) : (WP Gm j_Land_isSuspect 76 (ls) (.inr (.inr (.inl y)) :: .inr (.inr (.inl x)) :: st) h Q) = (WP Gm j_Land_isSuspect 77 (ls) (.inr (.inr (.inl (x + y))) :: st) (h) Q) := (WP_at c_Land_isSuspect_76 _ _ _ _)
theorem c_Land_isSuspect_77 : mCode j_Land_isSuspect 77 = oLst 8 79 := rfl
theorem e_Land_isSuspect_77 (x : Int64) : (WP Gm j_Land_isSuspect 77 (ls) (.inr (.inr (.inl x)) :: st) h Q) = (WP Gm j_Land_isSuspect 79 (lSet2 ls 8 (.inr (.inr (.inl x)))) (st) (h) Q) := (WP_at c_Land_isSuspect_77 _ _ _ _)
theorem c_Land_isSuspect_79 : mCode j_Land_isSuspect 79 = oInc 10 1 82 := rfl
theorem e_Land_isSuspect_79 (a0 a1 a2 a3 a4 a5 a6 a7 a8 a9 : Option MV) (x : Int32) : (WP Gm j_Land_isSuspect 79 (a0 :: a1 :: a2 :: a3 :: a4 :: a5 :: a6 :: a7 :: a8 :: a9 :: some (.inl x) :: ls) (st) h Q) = (WP Gm j_Land_isSuspect 82 (lSet1 (a0 :: a1 :: a2 :: a3 :: a4 :: a5 :: a6 :: a7 :: a8 :: a9 :: some (.inl x) :: ls) 10 (some (.inl (x + 1)))) (st) (h) Q) := (WP_at c_Land_isSuspect_79 _ _ _ _)
theorem c_Land_isSuspect_82 : mCode j_Land_isSuspect 82 = oGo 32 := rfl
theorem e_Land_isSuspect_82  : (WP Gm j_Land_isSuspect 82 (ls) (st) h Q) = (WP Gm j_Land_isSuspect 32 (ls) (st) (h) Q) := (WP_at c_Land_isSuspect_82 _ _ _ _)
theorem c_Land_isSuspect_85 : mCode j_Land_isSuspect 85 = oLld 4 87 := rfl
theorem e_Land_isSuspect_85 (a0 a1 a2 a3 : Option MV) (x : Int64) : (WP Gm j_Land_isSuspect 85 (a0 :: a1 :: a2 :: a3 :: some (.inr (.inr (.inl x))) :: ls) (st) h Q) = (WP Gm j_Land_isSuspect 87 (a0 :: a1 :: a2 :: a3 :: some (.inr (.inr (.inl x))) :: ls) (.inr (.inr (.inl x)) :: st) (h) Q) := (WP_at c_Land_isSuspect_85 _ _ _ _)
theorem c_Land_isSuspect_87 : mCode j_Land_isSuspect 87 = oJ 3 90 := rfl
theorem e_Land_isSuspect_87  : (WP Gm j_Land_isSuspect 87 (ls) (st) h Q) = (WP Gm j_Land_isSuspect 90 (ls) (.inr (.inr (.inl 3)) :: st) (h) Q) := (WP_at c_Land_isSuspect_87 _ _ _ _)
theorem c_Land_isSuspect_90 : mCode j_Land_isSuspect 90 = oLcmp 91 := rfl
theorem e_Land_isSuspect_90 (x y : Int64) : (WP Gm j_Land_isSuspect 90 (ls) (.inr (.inr (.inl y)) :: .inr (.inr (.inl x)) :: st) h Q) = (WP Gm j_Land_isSuspect 91 (ls) (.inl (lg_cmp x y) :: st) (h) Q) := (WP_at c_Land_isSuspect_90 _ _ _ _)
theorem c_Land_isSuspect_91 : mCode j_Land_isSuspect 91 = oIf (fun x => decide (x < 0)) 115 94 := rfl
theorem e_Land_isSuspect_91 (x : Int32) : (WP Gm j_Land_isSuspect 91 (ls) (.inl x :: st) h Q) = (if x < 0 then WP Gm j_Land_isSuspect 115 (ls) (st) (h) Q else WP Gm j_Land_isSuspect 94 (ls) (st) (h) Q) := (WP_at c_Land_isSuspect_91 _ _ _ _).trans (nd_if rfl _ _ _ _)
theorem c_Land_isSuspect_94 : mCode j_Land_isSuspect 94 = oJ 4 97 := rfl
theorem e_Land_isSuspect_94  : (WP Gm j_Land_isSuspect 94 (ls) (st) h Q) = (WP Gm j_Land_isSuspect 97 (ls) (.inr (.inr (.inl 4)) :: st) (h) Q) := (WP_at c_Land_isSuspect_94 _ _ _ _)
theorem c_Land_isSuspect_97 : mCode j_Land_isSuspect 97 = oLld 2 98 := rfl
theorem e_Land_isSuspect_97 (a0 a1 : Option MV) (x : Int64) : (WP Gm j_Land_isSuspect 97 (a0 :: a1 :: some (.inr (.inr (.inl x))) :: ls) (st) h Q) = (WP Gm j_Land_isSuspect 98 (a0 :: a1 :: some (.inr (.inr (.inl x))) :: ls) (.inr (.inr (.inl x)) :: st) (h) Q) := (WP_at c_Land_isSuspect_97 _ _ _ _)
theorem c_Land_isSuspect_98 : mCode j_Land_isSuspect 98 = oLL (fun x y => x * y) 99 := rfl
theorem e_Land_isSuspect_98 (x : Int64) (y : Int64) : (WP Gm j_Land_isSuspect 98 (ls) (.inr (.inr (.inl y)) :: .inr (.inr (.inl x)) :: st) h Q) = (WP Gm j_Land_isSuspect 99 (ls) (.inr (.inr (.inl (x * y))) :: st) (h) Q) := (WP_at c_Land_isSuspect_98 _ _ _ _)
theorem c_Land_isSuspect_99 : mCode j_Land_isSuspect 99 = oLld 8 101 := rfl
theorem e_Land_isSuspect_99 (a0 a1 a2 a3 a4 a5 a6 a7 : Option MV) (x : Int64) : (WP Gm j_Land_isSuspect 99 (a0 :: a1 :: a2 :: a3 :: a4 :: a5 :: a6 :: a7 :: some (.inr (.inr (.inl x))) :: ls) (st) h Q) = (WP Gm j_Land_isSuspect 101 (a0 :: a1 :: a2 :: a3 :: a4 :: a5 :: a6 :: a7 :: some (.inr (.inr (.inl x))) :: ls) (.inr (.inr (.inl x)) :: st) (h) Q) := (WP_at c_Land_isSuspect_99 _ _ _ _)
theorem c_Land_isSuspect_101 : mCode j_Land_isSuspect 101 = oLL (fun x y => x * y) 102 := rfl
theorem e_Land_isSuspect_101 (x : Int64) (y : Int64) : (WP Gm j_Land_isSuspect 101 (ls) (.inr (.inr (.inl y)) :: .inr (.inr (.inl x)) :: st) h Q) = (WP Gm j_Land_isSuspect 102 (ls) (.inr (.inr (.inl (x * y))) :: st) (h) Q) := (WP_at c_Land_isSuspect_101 _ _ _ _)
theorem c_Land_isSuspect_102 : mCode j_Land_isSuspect 102 = oLld 6 104 := rfl
theorem e_Land_isSuspect_102 (a0 a1 a2 a3 a4 a5 : Option MV) (x : Int64) : (WP Gm j_Land_isSuspect 102 (a0 :: a1 :: a2 :: a3 :: a4 :: a5 :: some (.inr (.inr (.inl x))) :: ls) (st) h Q) = (WP Gm j_Land_isSuspect 104 (a0 :: a1 :: a2 :: a3 :: a4 :: a5 :: some (.inr (.inr (.inl x))) :: ls) (.inr (.inr (.inl x)) :: st) (h) Q) := (WP_at c_Land_isSuspect_102 _ _ _ _)
theorem c_Land_isSuspect_104 : mCode j_Land_isSuspect 104 = oLld 4 106 := rfl
theorem e_Land_isSuspect_104 (a0 a1 a2 a3 : Option MV) (x : Int64) : (WP Gm j_Land_isSuspect 104 (a0 :: a1 :: a2 :: a3 :: some (.inr (.inr (.inl x))) :: ls) (st) h Q) = (WP Gm j_Land_isSuspect 106 (a0 :: a1 :: a2 :: a3 :: some (.inr (.inr (.inl x))) :: ls) (.inr (.inr (.inl x)) :: st) (h) Q) := (WP_at c_Land_isSuspect_104 _ _ _ _)
theorem c_Land_isSuspect_106 : mCode j_Land_isSuspect 106 = oLL (fun x y => x * y) 107 := rfl
theorem e_Land_isSuspect_106 (x : Int64) (y : Int64) : (WP Gm j_Land_isSuspect 106 (ls) (.inr (.inr (.inl y)) :: .inr (.inr (.inl x)) :: st) h Q) = (WP Gm j_Land_isSuspect 107 (ls) (.inr (.inr (.inl (x * y))) :: st) (h) Q) := (WP_at c_Land_isSuspect_106 _ _ _ _)
theorem c_Land_isSuspect_107 : mCode j_Land_isSuspect 107 = oLcmp 108 := rfl
theorem e_Land_isSuspect_107 (x y : Int64) : (WP Gm j_Land_isSuspect 107 (ls) (.inr (.inr (.inl y)) :: .inr (.inr (.inl x)) :: st) h Q) = (WP Gm j_Land_isSuspect 108 (ls) (.inl (lg_cmp x y) :: st) (h) Q) := (WP_at c_Land_isSuspect_107 _ _ _ _)
theorem c_Land_isSuspect_108 : mCode j_Land_isSuspect 108 = oIf (fun x => decide (0 ≤ x)) 115 111 := rfl
theorem e_Land_isSuspect_108 (x : Int32) : (WP Gm j_Land_isSuspect 108 (ls) (.inl x :: st) h Q) = (if 0 ≤ x then WP Gm j_Land_isSuspect 115 (ls) (st) (h) Q else WP Gm j_Land_isSuspect 111 (ls) (st) (h) Q) := (WP_at c_Land_isSuspect_108 _ _ _ _).trans (nd_if rfl _ _ _ _)
theorem c_Land_isSuspect_111 : mCode j_Land_isSuspect 111 = oI 1 112 := rfl
theorem e_Land_isSuspect_111  : (WP Gm j_Land_isSuspect 111 (ls) (st) h Q) = (WP Gm j_Land_isSuspect 112 (ls) (.inl 1 :: st) (h) Q) := (WP_at c_Land_isSuspect_111 _ _ _ _)
theorem c_Land_isSuspect_112 : mCode j_Land_isSuspect 112 = oGo 116 := rfl
theorem e_Land_isSuspect_112  : (WP Gm j_Land_isSuspect 112 (ls) (st) h Q) = (WP Gm j_Land_isSuspect 116 (ls) (st) (h) Q) := (WP_at c_Land_isSuspect_112 _ _ _ _)
theorem c_Land_isSuspect_115 : mCode j_Land_isSuspect 115 = oI 0 116 := rfl
theorem e_Land_isSuspect_115  : (WP Gm j_Land_isSuspect 115 (ls) (st) h Q) = (WP Gm j_Land_isSuspect 116 (ls) (.inl 0 :: st) (h) Q) := (WP_at c_Land_isSuspect_115 _ _ _ _)
theorem c_Land_isSuspect_116 : mCode j_Land_isSuspect 116 = oRetZ := rfl
theorem e_Land_isSuspect_116 (x : Int32) (hx : x = 0 ∨ x = 1) : (WP Gm j_Land_isSuspect 116 (ls) ([.inl x]) h Q) = (Q (.inl (some (.inl x))) h) := (WP_at c_Land_isSuspect_116 _ _ _ _).trans (congrArg (fun o => ndX Gm (WP Gm) j_Land_isSuspect 116 o Q) (if_pos (by rcases hx with rfl | rfl <;> rfl)))
theorem c_Land_fewestCovering_0 : mCode j_Land_fewestCovering 0 = oAld 0 1 := rfl
theorem e_Land_fewestCovering_0 (x : Option Nat) : (WP Gm j_Land_fewestCovering 0 (some (.inr (.inl x)) :: ls) (st) h Q) = (WP Gm j_Land_fewestCovering 1 (some (.inr (.inl x)) :: ls) (.inr (.inl x) :: st) (h) Q) := (WP_at c_Land_fewestCovering_0 _ _ _ _)
theorem c_Land_fewestCovering_1 : mCode j_Land_fewestCovering 1 = oCallV kc_Land j_Land_everyone 0 (mL j_Land_everyone) 4 := rfl
theorem e_Land_fewestCovering_1 (a : Nat) (hk : isK h a kc_Land = true) (hc : c8 st = true) : (WP Gm j_Land_fewestCovering 1 (ls) (.inr (.inl (some a)) :: st) h Q) = (WP Gm j_Land_everyone 0 [some (.inr (.inl (some a)))] [] h (kC (fun v h2 => WP Gm j_Land_fewestCovering 4 ls (v.toList ++ st) h2 Q) (fun E h2 => Q (.inr E) h2))) := (WP_at c_Land_fewestCovering_1 _ _ _ _).trans (congrArg (fun o => ndX Gm (WP Gm) j_Land_fewestCovering 1 o Q) (if_pos (by rw [hk, show decide (catS st ≤ 8) = true from hc]; rfl)))
theorem c_Land_fewestCovering_4 : mCode j_Land_fewestCovering 4 = oIst 1 5 := rfl
theorem e_Land_fewestCovering_4 (x : Int32) : (WP Gm j_Land_fewestCovering 4 (ls) (.inl x :: st) h Q) = (WP Gm j_Land_fewestCovering 5 (lSet1 ls 1 (some (.inl x))) (st) (h) Q) := (WP_at c_Land_fewestCovering_4 _ _ _ _)
theorem c_Land_fewestCovering_5 : mCode j_Land_fewestCovering 5 = oI 0 6 := rfl
theorem e_Land_fewestCovering_5  : (WP Gm j_Land_fewestCovering 5 (ls) (st) h Q) = (WP Gm j_Land_fewestCovering 6 (ls) (.inl 0 :: st) (h) Q) := (WP_at c_Land_fewestCovering_5 _ _ _ _)
theorem c_Land_fewestCovering_6 : mCode j_Land_fewestCovering 6 = oIst 2 7 := rfl
theorem e_Land_fewestCovering_6 (x : Int32) : (WP Gm j_Land_fewestCovering 6 (ls) (.inl x :: st) h Q) = (WP Gm j_Land_fewestCovering 7 (lSet1 ls 2 (some (.inl x))) (st) (h) Q) := (WP_at c_Land_fewestCovering_6 _ _ _ _)
theorem c_Land_fewestCovering_7 : mCode j_Land_fewestCovering 7 = oIld 2 8 := rfl
theorem e_Land_fewestCovering_7 (a0 a1 : Option MV) (x : Int32) : (WP Gm j_Land_fewestCovering 7 (a0 :: a1 :: some (.inl x) :: ls) (st) h Q) = (WP Gm j_Land_fewestCovering 8 (a0 :: a1 :: some (.inl x) :: ls) (.inl x :: st) (h) Q) := (WP_at c_Land_fewestCovering_7 _ _ _ _)
theorem c_Land_fewestCovering_8 : mCode j_Land_fewestCovering 8 = oAld 0 9 := rfl
theorem e_Land_fewestCovering_8 (x : Option Nat) : (WP Gm j_Land_fewestCovering 8 (some (.inr (.inl x)) :: ls) (st) h Q) = (WP Gm j_Land_fewestCovering 9 (some (.inr (.inl x)) :: ls) (.inr (.inl x) :: st) (h) Q) := (WP_at c_Land_fewestCovering_8 _ _ _ _)
theorem c_Land_fewestCovering_9 : mCode j_Land_fewestCovering 9 = oCallV kc_Land j_Land_everyone 0 (mL j_Land_everyone) 12 := rfl
theorem e_Land_fewestCovering_9 (a : Nat) (hk : isK h a kc_Land = true) (hc : c8 st = true) : (WP Gm j_Land_fewestCovering 9 (ls) (.inr (.inl (some a)) :: st) h Q) = (WP Gm j_Land_everyone 0 [some (.inr (.inl (some a)))] [] h (kC (fun v h2 => WP Gm j_Land_fewestCovering 12 ls (v.toList ++ st) h2 Q) (fun E h2 => Q (.inr E) h2))) := (WP_at c_Land_fewestCovering_9 _ _ _ _).trans (congrArg (fun o => ndX Gm (WP Gm) j_Land_fewestCovering 9 o Q) (if_pos (by rw [hk, show decide (catS st ≤ 8) = true from hc]; rfl)))
theorem c_Land_fewestCovering_12 : mCode j_Land_fewestCovering 12 = oIC (fun x y => decide (y ≤ x)) 42 15 := rfl
theorem e_Land_fewestCovering_12 (x y : Int32) : (WP Gm j_Land_fewestCovering 12 (ls) (.inl y :: .inl x :: st) h Q) = (if y ≤ x then WP Gm j_Land_fewestCovering 42 (ls) (st) (h) Q else WP Gm j_Land_fewestCovering 15 (ls) (st) (h) Q) := (WP_at c_Land_fewestCovering_12 _ _ _ _).trans (nd_ic rfl _ _ _ _)
theorem c_Land_fewestCovering_15 : mCode j_Land_fewestCovering 15 = oIld 2 16 := rfl
theorem e_Land_fewestCovering_15 (a0 a1 : Option MV) (x : Int32) : (WP Gm j_Land_fewestCovering 15 (a0 :: a1 :: some (.inl x) :: ls) (st) h Q) = (WP Gm j_Land_fewestCovering 16 (a0 :: a1 :: some (.inl x) :: ls) (.inl x :: st) (h) Q) := (WP_at c_Land_fewestCovering_15 _ _ _ _)
theorem c_Land_fewestCovering_16 : mCode j_Land_fewestCovering 16 = oCallS j_Integer_bitCount 1 (mL j_Integer_bitCount) 19 := rfl
theorem e_Land_fewestCovering_16 (x0 : Int32) (hc : c8 st = true) : (WP Gm j_Land_fewestCovering 16 (ls) (.inl x0 :: st) h Q) = (WP Gm j_Integer_bitCount 0 [some (.inl x0)] [] h (kC (fun v h2 => WP Gm j_Land_fewestCovering 19 ls (v.toList ++ st) h2 Q) (fun E h2 => Q (.inr E) h2))) := (WP_at c_Land_fewestCovering_16 _ _ _ _).trans (congrArg (fun o => ndX Gm (WP Gm) j_Land_fewestCovering 16 o Q) (if_pos (by rw [show decide (catS st ≤ 8) = true from hc]; rfl)))
theorem c_Land_fewestCovering_19 : mCode j_Land_fewestCovering 19 = oIld 1 20 := rfl
theorem e_Land_fewestCovering_19 (a0 : Option MV) (x : Int32) : (WP Gm j_Land_fewestCovering 19 (a0 :: some (.inl x) :: ls) (st) h Q) = (WP Gm j_Land_fewestCovering 20 (a0 :: some (.inl x) :: ls) (.inl x :: st) (h) Q) := (WP_at c_Land_fewestCovering_19 _ _ _ _)
theorem c_Land_fewestCovering_20 : mCode j_Land_fewestCovering 20 = oCallS j_Integer_bitCount 1 (mL j_Integer_bitCount) 23 := rfl
theorem e_Land_fewestCovering_20 (x0 : Int32) (hc : c8 st = true) : (WP Gm j_Land_fewestCovering 20 (ls) (.inl x0 :: st) h Q) = (WP Gm j_Integer_bitCount 0 [some (.inl x0)] [] h (kC (fun v h2 => WP Gm j_Land_fewestCovering 23 ls (v.toList ++ st) h2 Q) (fun E h2 => Q (.inr E) h2))) := (WP_at c_Land_fewestCovering_20 _ _ _ _).trans (congrArg (fun o => ndX Gm (WP Gm) j_Land_fewestCovering 20 o Q) (if_pos (by rw [show decide (catS st ≤ 8) = true from hc]; rfl)))
theorem c_Land_fewestCovering_23 : mCode j_Land_fewestCovering 23 = oIC (fun x y => decide (y ≤ x)) 36 26 := rfl
theorem e_Land_fewestCovering_23 (x y : Int32) : (WP Gm j_Land_fewestCovering 23 (ls) (.inl y :: .inl x :: st) h Q) = (if y ≤ x then WP Gm j_Land_fewestCovering 36 (ls) (st) (h) Q else WP Gm j_Land_fewestCovering 26 (ls) (st) (h) Q) := (WP_at c_Land_fewestCovering_23 _ _ _ _).trans (nd_ic rfl _ _ _ _)
theorem c_Land_fewestCovering_26 : mCode j_Land_fewestCovering 26 = oAld 0 27 := rfl
theorem e_Land_fewestCovering_26 (x : Option Nat) : (WP Gm j_Land_fewestCovering 26 (some (.inr (.inl x)) :: ls) (st) h Q) = (WP Gm j_Land_fewestCovering 27 (some (.inr (.inl x)) :: ls) (.inr (.inl x) :: st) (h) Q) := (WP_at c_Land_fewestCovering_26 _ _ _ _)
theorem c_Land_fewestCovering_27 : mCode j_Land_fewestCovering 27 = oIld 2 28 := rfl
theorem e_Land_fewestCovering_27 (a0 a1 : Option MV) (x : Int32) : (WP Gm j_Land_fewestCovering 27 (a0 :: a1 :: some (.inl x) :: ls) (st) h Q) = (WP Gm j_Land_fewestCovering 28 (a0 :: a1 :: some (.inl x) :: ls) (.inl x :: st) (h) Q) := (WP_at c_Land_fewestCovering_27 _ _ _ _)
theorem c_Land_fewestCovering_28 : mCode j_Land_fewestCovering 28 = oCallV kc_Land j_Land_isCovering 1 (mL j_Land_isCovering) 31 := rfl
theorem e_Land_fewestCovering_28 (a : Nat) (x0 : Int32) (hk : isK h a kc_Land = true) (hc : c8 st = true) : (WP Gm j_Land_fewestCovering 28 (ls) (.inl x0 :: .inr (.inl (some a)) :: st) h Q) = (WP Gm j_Land_isCovering 0 [some (.inr (.inl (some a))), some (.inl x0), none, none] [] h (kC (fun v h2 => WP Gm j_Land_fewestCovering 31 ls (v.toList ++ st) h2 Q) (fun E h2 => Q (.inr E) h2))) := (WP_at c_Land_fewestCovering_28 _ _ _ _).trans (congrArg (fun o => ndX Gm (WP Gm) j_Land_fewestCovering 28 o Q) (if_pos (by rw [hk, show decide (catS st ≤ 8) = true from hc]; rfl)))
theorem c_Land_fewestCovering_31 : mCode j_Land_fewestCovering 31 = oIf (fun x => decide (x = 0)) 36 34 := rfl
theorem e_Land_fewestCovering_31 (x : Int32) : (WP Gm j_Land_fewestCovering 31 (ls) (.inl x :: st) h Q) = (if x = 0 then WP Gm j_Land_fewestCovering 36 (ls) (st) (h) Q else WP Gm j_Land_fewestCovering 34 (ls) (st) (h) Q) := (WP_at c_Land_fewestCovering_31 _ _ _ _).trans (nd_if rfl _ _ _ _)
theorem c_Land_fewestCovering_34 : mCode j_Land_fewestCovering 34 = oIld 2 35 := rfl
theorem e_Land_fewestCovering_34 (a0 a1 : Option MV) (x : Int32) : (WP Gm j_Land_fewestCovering 34 (a0 :: a1 :: some (.inl x) :: ls) (st) h Q) = (WP Gm j_Land_fewestCovering 35 (a0 :: a1 :: some (.inl x) :: ls) (.inl x :: st) (h) Q) := (WP_at c_Land_fewestCovering_34 _ _ _ _)
theorem c_Land_fewestCovering_35 : mCode j_Land_fewestCovering 35 = oIst 1 36 := rfl
theorem e_Land_fewestCovering_35 (x : Int32) : (WP Gm j_Land_fewestCovering 35 (ls) (.inl x :: st) h Q) = (WP Gm j_Land_fewestCovering 36 (lSet1 ls 1 (some (.inl x))) (st) (h) Q) := (WP_at c_Land_fewestCovering_35 _ _ _ _)
theorem c_Land_fewestCovering_36 : mCode j_Land_fewestCovering 36 = oInc 2 1 39 := rfl
theorem e_Land_fewestCovering_36 (a0 a1 : Option MV) (x : Int32) : (WP Gm j_Land_fewestCovering 36 (a0 :: a1 :: some (.inl x) :: ls) (st) h Q) = (WP Gm j_Land_fewestCovering 39 (lSet1 (a0 :: a1 :: some (.inl x) :: ls) 2 (some (.inl (x + 1)))) (st) (h) Q) := (WP_at c_Land_fewestCovering_36 _ _ _ _)
theorem c_Land_fewestCovering_39 : mCode j_Land_fewestCovering 39 = oGo 7 := rfl
theorem e_Land_fewestCovering_39  : (WP Gm j_Land_fewestCovering 39 (ls) (st) h Q) = (WP Gm j_Land_fewestCovering 7 (ls) (st) (h) Q) := (WP_at c_Land_fewestCovering_39 _ _ _ _)
theorem c_Land_fewestCovering_42 : mCode j_Land_fewestCovering 42 = oIld 1 43 := rfl
theorem e_Land_fewestCovering_42 (a0 : Option MV) (x : Int32) : (WP Gm j_Land_fewestCovering 42 (a0 :: some (.inl x) :: ls) (st) h Q) = (WP Gm j_Land_fewestCovering 43 (a0 :: some (.inl x) :: ls) (.inl x :: st) (h) Q) := (WP_at c_Land_fewestCovering_42 _ _ _ _)
theorem c_Land_fewestCovering_43 : mCode j_Land_fewestCovering 43 = oRetI := rfl
theorem e_Land_fewestCovering_43 (x : Int32) : (WP Gm j_Land_fewestCovering 43 (ls) ([.inl x]) h Q) = (Q (.inl (some (.inl x))) h) := (WP_at c_Land_fewestCovering_43 _ _ _ _)
theorem c_Land_isCovering_0 : mCode j_Land_isCovering 0 = oIld 1 1 := rfl
theorem e_Land_isCovering_0 (a0 : Option MV) (x : Int32) : (WP Gm j_Land_isCovering 0 (a0 :: some (.inl x) :: ls) (st) h Q) = (WP Gm j_Land_isCovering 1 (a0 :: some (.inl x) :: ls) (.inl x :: st) (h) Q) := (WP_at c_Land_isCovering_0 _ _ _ _)
theorem c_Land_isCovering_1 : mCode j_Land_isCovering 1 = oIst 2 2 := rfl
theorem e_Land_isCovering_1 (x : Int32) : (WP Gm j_Land_isCovering 1 (ls) (.inl x :: st) h Q) = (WP Gm j_Land_isCovering 2 (lSet1 ls 2 (some (.inl x))) (st) (h) Q) := (WP_at c_Land_isCovering_1 _ _ _ _)
theorem c_Land_isCovering_2 : mCode j_Land_isCovering 2 = oI 0 3 := rfl
theorem e_Land_isCovering_2  : (WP Gm j_Land_isCovering 2 (ls) (st) h Q) = (WP Gm j_Land_isCovering 3 (ls) (.inl 0 :: st) (h) Q) := (WP_at c_Land_isCovering_2 _ _ _ _)
theorem c_Land_isCovering_3 : mCode j_Land_isCovering 3 = oIst 3 4 := rfl
theorem e_Land_isCovering_3 (x : Int32) : (WP Gm j_Land_isCovering 3 (ls) (.inl x :: st) h Q) = (WP Gm j_Land_isCovering 4 (lSet1 ls 3 (some (.inl x))) (st) (h) Q) := (WP_at c_Land_isCovering_3 _ _ _ _)
theorem c_Land_isCovering_4 : mCode j_Land_isCovering 4 = oIld 3 5 := rfl
theorem e_Land_isCovering_4 (a0 a1 a2 : Option MV) (x : Int32) : (WP Gm j_Land_isCovering 4 (a0 :: a1 :: a2 :: some (.inl x) :: ls) (st) h Q) = (WP Gm j_Land_isCovering 5 (a0 :: a1 :: a2 :: some (.inl x) :: ls) (.inl x :: st) (h) Q) := (WP_at c_Land_isCovering_4 _ _ _ _)
theorem c_Land_isCovering_5 : mCode j_Land_isCovering 5 = oAld 0 6 := rfl
theorem e_Land_isCovering_5 (x : Option Nat) : (WP Gm j_Land_isCovering 5 (some (.inr (.inl x)) :: ls) (st) h Q) = (WP Gm j_Land_isCovering 6 (some (.inr (.inl x)) :: ls) (.inr (.inl x) :: st) (h) Q) := (WP_at c_Land_isCovering_5 _ _ _ _)
theorem c_Land_isCovering_6 : mCode j_Land_isCovering 6 = oGetI kc_Land 2 9 := rfl
theorem e_Land_isCovering_6 (a : Nat) (hk : isK h a kc_Land = true) : (WP Gm j_Land_isCovering 6 (ls) (.inr (.inl (some a)) :: st) h Q) = (WP Gm j_Land_isCovering 9 (ls) (.inl (gI h a 2) :: st) (h) Q) := (WP_at c_Land_isCovering_6 _ _ _ _).trans (congrArg (fun o => ndX Gm (WP Gm) j_Land_isCovering 6 o Q) (if_pos hk))
theorem c_Land_isCovering_9 : mCode j_Land_isCovering 9 = oIC (fun x y => decide (y ≤ x)) 35 12 := rfl
theorem e_Land_isCovering_9 (x y : Int32) : (WP Gm j_Land_isCovering 9 (ls) (.inl y :: .inl x :: st) h Q) = (if y ≤ x then WP Gm j_Land_isCovering 35 (ls) (st) (h) Q else WP Gm j_Land_isCovering 12 (ls) (st) (h) Q) := (WP_at c_Land_isCovering_9 _ _ _ _).trans (nd_ic rfl _ _ _ _)
theorem c_Land_isCovering_12 : mCode j_Land_isCovering 12 = oIld 1 13 := rfl
theorem e_Land_isCovering_12 (a0 : Option MV) (x : Int32) : (WP Gm j_Land_isCovering 12 (a0 :: some (.inl x) :: ls) (st) h Q) = (WP Gm j_Land_isCovering 13 (a0 :: some (.inl x) :: ls) (.inl x :: st) (h) Q) := (WP_at c_Land_isCovering_12 _ _ _ _)
theorem c_Land_isCovering_13 : mCode j_Land_isCovering 13 = oIld 3 14 := rfl
theorem e_Land_isCovering_13 (a0 a1 a2 : Option MV) (x : Int32) : (WP Gm j_Land_isCovering 13 (a0 :: a1 :: a2 :: some (.inl x) :: ls) (st) h Q) = (WP Gm j_Land_isCovering 14 (a0 :: a1 :: a2 :: some (.inl x) :: ls) (.inl x :: st) (h) Q) := (WP_at c_Land_isCovering_13 _ _ _ _)
theorem c_Land_isCovering_14 : mCode j_Land_isCovering 14 = oCallS j_S_isIn 2 (mL j_S_isIn) 17 := rfl
theorem e_Land_isCovering_14 (x0 : Int32) (x1 : Int32) (hc : c8 st = true) : (WP Gm j_Land_isCovering 14 (ls) (.inl x1 :: .inl x0 :: st) h Q) = (WP Gm j_S_isIn 0 [some (.inl x0), some (.inl x1)] [] h (kC (fun v h2 => WP Gm j_Land_isCovering 17 ls (v.toList ++ st) h2 Q) (fun E h2 => Q (.inr E) h2))) := (WP_at c_Land_isCovering_14 _ _ _ _).trans (congrArg (fun o => ndX Gm (WP Gm) j_Land_isCovering 14 o Q) (if_pos (by rw [show decide (catS st ≤ 8) = true from hc]; rfl)))
theorem c_Land_isCovering_17 : mCode j_Land_isCovering 17 = oIf (fun x => decide (x = 0)) 29 20 := rfl
theorem e_Land_isCovering_17 (x : Int32) : (WP Gm j_Land_isCovering 17 (ls) (.inl x :: st) h Q) = (if x = 0 then WP Gm j_Land_isCovering 29 (ls) (st) (h) Q else WP Gm j_Land_isCovering 20 (ls) (st) (h) Q) := (WP_at c_Land_isCovering_17 _ _ _ _).trans (nd_if rfl _ _ _ _)
theorem c_Land_isCovering_20 : mCode j_Land_isCovering 20 = oIld 2 21 := rfl
theorem e_Land_isCovering_20 (a0 a1 : Option MV) (x : Int32) : (WP Gm j_Land_isCovering 20 (a0 :: a1 :: some (.inl x) :: ls) (st) h Q) = (WP Gm j_Land_isCovering 21 (a0 :: a1 :: some (.inl x) :: ls) (.inl x :: st) (h) Q) := (WP_at c_Land_isCovering_20 _ _ _ _)
theorem c_Land_isCovering_21 : mCode j_Land_isCovering 21 = oAld 0 22 := rfl
theorem e_Land_isCovering_21 (x : Option Nat) : (WP Gm j_Land_isCovering 21 (some (.inr (.inl x)) :: ls) (st) h Q) = (WP Gm j_Land_isCovering 22 (some (.inr (.inl x)) :: ls) (.inr (.inl x) :: st) (h) Q) := (WP_at c_Land_isCovering_21 _ _ _ _)
theorem c_Land_isCovering_22 : mCode j_Land_isCovering 22 = oGetR kc_Land 1 25 := rfl
theorem e_Land_isCovering_22 (a : Nat) (hk : isK h a kc_Land = true) : (WP Gm j_Land_isCovering 22 (ls) (.inr (.inl (some a)) :: st) h Q) = (WP Gm j_Land_isCovering 25 (ls) (.inr (.inl (gR h a 1)) :: st) (h) Q) := (WP_at c_Land_isCovering_22 _ _ _ _).trans (congrArg (fun o => ndX Gm (WP Gm) j_Land_isCovering 22 o Q) (if_pos hk))
theorem c_Land_isCovering_25 : mCode j_Land_isCovering 25 = oIld 3 26 := rfl
theorem e_Land_isCovering_25 (a0 a1 a2 : Option MV) (x : Int32) : (WP Gm j_Land_isCovering 25 (a0 :: a1 :: a2 :: some (.inl x) :: ls) (st) h Q) = (WP Gm j_Land_isCovering 26 (a0 :: a1 :: a2 :: some (.inl x) :: ls) (.inl x :: st) (h) Q) := (WP_at c_Land_isCovering_25 _ _ _ _)
theorem c_Land_isCovering_26 : mCode j_Land_isCovering 26 = oIal 0 27 := rfl
theorem e_Land_isCovering_26 (a : Nat) (i : Int32) (hk : isK h a 100 = true) (hi : inL h a i = true) : (WP Gm j_Land_isCovering 26 (ls) (.inl i :: .inr (.inl (some a)) :: st) h Q) = (WP Gm j_Land_isCovering 27 (ls) (.inl (gI h a i.toNatClampNeg) :: st) (h) Q) := (WP_at c_Land_isCovering_26 _ _ _ _).trans (congrArg (fun o => ndX Gm (WP Gm) j_Land_isCovering 26 o Q) (if_pos (by rw [hk, hi]; rfl)))
theorem c_Land_isCovering_27 : mCode j_Land_isCovering 27 = oII (fun x y => x ||| y) 28 := rfl
theorem e_Land_isCovering_27 (x : Int32) (y : Int32) : (WP Gm j_Land_isCovering 27 (ls) (.inl y :: .inl x :: st) h Q) = (WP Gm j_Land_isCovering 28 (ls) (.inl (x ||| y) :: st) (h) Q) := (WP_at c_Land_isCovering_27 _ _ _ _)
theorem c_Land_isCovering_28 : mCode j_Land_isCovering 28 = oIst 2 29 := rfl
theorem e_Land_isCovering_28 (x : Int32) : (WP Gm j_Land_isCovering 28 (ls) (.inl x :: st) h Q) = (WP Gm j_Land_isCovering 29 (lSet1 ls 2 (some (.inl x))) (st) (h) Q) := (WP_at c_Land_isCovering_28 _ _ _ _)
theorem c_Land_isCovering_29 : mCode j_Land_isCovering 29 = oInc 3 1 32 := rfl
theorem e_Land_isCovering_29 (a0 a1 a2 : Option MV) (x : Int32) : (WP Gm j_Land_isCovering 29 (a0 :: a1 :: a2 :: some (.inl x) :: ls) (st) h Q) = (WP Gm j_Land_isCovering 32 (lSet1 (a0 :: a1 :: a2 :: some (.inl x) :: ls) 3 (some (.inl (x + 1)))) (st) (h) Q) := (WP_at c_Land_isCovering_29 _ _ _ _)
theorem c_Land_isCovering_32 : mCode j_Land_isCovering 32 = oGo 4 := rfl
theorem e_Land_isCovering_32  : (WP Gm j_Land_isCovering 32 (ls) (st) h Q) = (WP Gm j_Land_isCovering 4 (ls) (st) (h) Q) := (WP_at c_Land_isCovering_32 _ _ _ _)
theorem c_Land_isCovering_35 : mCode j_Land_isCovering 35 = oIld 2 36 := rfl
theorem e_Land_isCovering_35 (a0 a1 : Option MV) (x : Int32) : (WP Gm j_Land_isCovering 35 (a0 :: a1 :: some (.inl x) :: ls) (st) h Q) = (WP Gm j_Land_isCovering 36 (a0 :: a1 :: some (.inl x) :: ls) (.inl x :: st) (h) Q) := (WP_at c_Land_isCovering_35 _ _ _ _)
theorem c_Land_isCovering_36 : mCode j_Land_isCovering 36 = oAld 0 37 := rfl
theorem e_Land_isCovering_36 (x : Option Nat) : (WP Gm j_Land_isCovering 36 (some (.inr (.inl x)) :: ls) (st) h Q) = (WP Gm j_Land_isCovering 37 (some (.inr (.inl x)) :: ls) (.inr (.inl x) :: st) (h) Q) := (WP_at c_Land_isCovering_36 _ _ _ _)
theorem c_Land_isCovering_37 : mCode j_Land_isCovering 37 = oCallV kc_Land j_Land_everyone 0 (mL j_Land_everyone) 40 := rfl
theorem e_Land_isCovering_37 (a : Nat) (hk : isK h a kc_Land = true) (hc : c8 st = true) : (WP Gm j_Land_isCovering 37 (ls) (.inr (.inl (some a)) :: st) h Q) = (WP Gm j_Land_everyone 0 [some (.inr (.inl (some a)))] [] h (kC (fun v h2 => WP Gm j_Land_isCovering 40 ls (v.toList ++ st) h2 Q) (fun E h2 => Q (.inr E) h2))) := (WP_at c_Land_isCovering_37 _ _ _ _).trans (congrArg (fun o => ndX Gm (WP Gm) j_Land_isCovering 37 o Q) (if_pos (by rw [hk, show decide (catS st ≤ 8) = true from hc]; rfl)))
theorem c_Land_isCovering_40 : mCode j_Land_isCovering 40 = oIC (fun x y => decide (¬ x = y)) 47 43 := rfl
theorem e_Land_isCovering_40 (x y : Int32) : (WP Gm j_Land_isCovering 40 (ls) (.inl y :: .inl x :: st) h Q) = (if ¬ x = y then WP Gm j_Land_isCovering 47 (ls) (st) (h) Q else WP Gm j_Land_isCovering 43 (ls) (st) (h) Q) := (WP_at c_Land_isCovering_40 _ _ _ _).trans (nd_ic rfl _ _ _ _)
theorem c_Land_isCovering_43 : mCode j_Land_isCovering 43 = oI 1 44 := rfl
theorem e_Land_isCovering_43  : (WP Gm j_Land_isCovering 43 (ls) (st) h Q) = (WP Gm j_Land_isCovering 44 (ls) (.inl 1 :: st) (h) Q) := (WP_at c_Land_isCovering_43 _ _ _ _)
theorem c_Land_isCovering_44 : mCode j_Land_isCovering 44 = oGo 48 := rfl
theorem e_Land_isCovering_44  : (WP Gm j_Land_isCovering 44 (ls) (st) h Q) = (WP Gm j_Land_isCovering 48 (ls) (st) (h) Q) := (WP_at c_Land_isCovering_44 _ _ _ _)
theorem c_Land_isCovering_47 : mCode j_Land_isCovering 47 = oI 0 48 := rfl
theorem e_Land_isCovering_47  : (WP Gm j_Land_isCovering 47 (ls) (st) h Q) = (WP Gm j_Land_isCovering 48 (ls) (.inl 0 :: st) (h) Q) := (WP_at c_Land_isCovering_47 _ _ _ _)
theorem c_Land_isCovering_48 : mCode j_Land_isCovering 48 = oRetZ := rfl
theorem e_Land_isCovering_48 (x : Int32) (hx : x = 0 ∨ x = 1) : (WP Gm j_Land_isCovering 48 (ls) ([.inl x]) h Q) = (Q (.inl (some (.inl x))) h) := (WP_at c_Land_isCovering_48 _ _ _ _).trans (congrArg (fun o => ndX Gm (WP Gm) j_Land_isCovering 48 o Q) (if_pos (by rcases hx with rfl | rfl <;> rfl)))
theorem c_Market_init_0 : mCode j_Market_init 0 = oAld 0 1 := rfl
theorem e_Market_init_0 (x : Option Nat) : (WP Gm j_Market_init 0 (some (.inr (.inl x)) :: ls) (st) h Q) = (WP Gm j_Market_init 1 (some (.inr (.inl x)) :: ls) (.inr (.inl x) :: st) (h) Q) := (WP_at c_Market_init_0 _ _ _ _)
theorem c_Market_init_1 : mCode j_Market_init 1 = oObj 4 := rfl
theorem e_Market_init_1 (a : Nat) (hc : c8 st = true) : (WP Gm j_Market_init 1 (ls) (.inr (.inl (some a)) :: st) h Q) = (WP Gm j_Market_init 4 (ls) (st) (h) Q) := (WP_at c_Market_init_1 _ _ _ _).trans (congrArg (fun o => ndX Gm (WP Gm) j_Market_init 1 o Q) (if_pos (of_decide_eq_true hc)))
theorem c_Market_init_4 : mCode j_Market_init 4 = oAld 0 5 := rfl
theorem e_Market_init_4 (x : Option Nat) : (WP Gm j_Market_init 4 (some (.inr (.inl x)) :: ls) (st) h Q) = (WP Gm j_Market_init 5 (some (.inr (.inl x)) :: ls) (.inr (.inl x) :: st) (h) Q) := (WP_at c_Market_init_4 _ _ _ _)
theorem c_Market_init_5 : mCode j_Market_init 5 = oI 10 7 := rfl
theorem e_Market_init_5  : (WP Gm j_Market_init 5 (ls) (st) h Q) = (WP Gm j_Market_init 7 (ls) (.inl 10 :: st) (h) Q) := (WP_at c_Market_init_5 _ _ _ _)
theorem c_Market_init_7 : mCode j_Market_init 7 = oNewA cM sM 0 9 := rfl
theorem e_Market_init_7 (i : Int32) (hi : 0 ≤ i ∧ i.toNatClampNeg ≤ 1000000) (hr : okR cM sM h 1 i.toNatClampNeg = true) : (WP Gm j_Market_init 7 (ls) (.inl i :: st) h Q) = (WP Gm j_Market_init 9 (ls) (.inr (.inl (some (nx h))) :: st) (hN h (100 + 0) i.toNatClampNeg i.toNatClampNeg) Q) := (WP_at c_Market_init_7 _ _ _ _).trans (congrArg (fun o => ndX Gm (WP Gm) j_Market_init 7 o Q) (if_pos (by rw [hr]; simp [hi.1, hi.2])))
theorem c_Market_init_9 : mCode j_Market_init 9 = oPutR kc_Market 0 12 := rfl
theorem e_Market_init_9 (a : Nat) (x : Option Nat) (hk : isK h a kc_Market = true) : (WP Gm j_Market_init 9 (ls) (.inr (.inl x) :: .inr (.inl (some a)) :: st) h Q) = (WP Gm j_Market_init 12 (ls) (st) (sR h a 0 x) Q) := (WP_at c_Market_init_9 _ _ _ _).trans (congrArg (fun o => ndX Gm (WP Gm) j_Market_init 9 o Q) (if_pos hk))
theorem c_Market_init_12 : mCode j_Market_init 12 = oAld 0 13 := rfl
theorem e_Market_init_12 (x : Option Nat) : (WP Gm j_Market_init 12 (some (.inr (.inl x)) :: ls) (st) h Q) = (WP Gm j_Market_init 13 (some (.inr (.inl x)) :: ls) (.inr (.inl x) :: st) (h) Q) := (WP_at c_Market_init_12 _ _ _ _)
theorem c_Market_init_13 : mCode j_Market_init 13 = oI 10 15 := rfl
theorem e_Market_init_13  : (WP Gm j_Market_init 13 (ls) (st) h Q) = (WP Gm j_Market_init 15 (ls) (.inl 10 :: st) (h) Q) := (WP_at c_Market_init_13 _ _ _ _)
theorem c_Market_init_15 : mCode j_Market_init 15 = oNewA cM sM 0 17 := rfl
theorem e_Market_init_15 (i : Int32) (hi : 0 ≤ i ∧ i.toNatClampNeg ≤ 1000000) (hr : okR cM sM h 1 i.toNatClampNeg = true) : (WP Gm j_Market_init 15 (ls) (.inl i :: st) h Q) = (WP Gm j_Market_init 17 (ls) (.inr (.inl (some (nx h))) :: st) (hN h (100 + 0) i.toNatClampNeg i.toNatClampNeg) Q) := (WP_at c_Market_init_15 _ _ _ _).trans (congrArg (fun o => ndX Gm (WP Gm) j_Market_init 15 o Q) (if_pos (by rw [hr]; simp [hi.1, hi.2])))
theorem c_Market_init_17 : mCode j_Market_init 17 = oPutR kc_Market 1 20 := rfl
theorem e_Market_init_17 (a : Nat) (x : Option Nat) (hk : isK h a kc_Market = true) : (WP Gm j_Market_init 17 (ls) (.inr (.inl x) :: .inr (.inl (some a)) :: st) h Q) = (WP Gm j_Market_init 20 (ls) (st) (sR h a 1 x) Q) := (WP_at c_Market_init_17 _ _ _ _).trans (congrArg (fun o => ndX Gm (WP Gm) j_Market_init 17 o Q) (if_pos hk))
theorem c_Market_init_20 : mCode j_Market_init 20 = oAld 0 21 := rfl
theorem e_Market_init_20 (x : Option Nat) : (WP Gm j_Market_init 20 (some (.inr (.inl x)) :: ls) (st) h Q) = (WP Gm j_Market_init 21 (some (.inr (.inl x)) :: ls) (.inr (.inl x) :: st) (h) Q) := (WP_at c_Market_init_20 _ _ _ _)
theorem c_Market_init_21 : mCode j_Market_init 21 = oI 1024 24 := rfl
theorem e_Market_init_21  : (WP Gm j_Market_init 21 (ls) (st) h Q) = (WP Gm j_Market_init 24 (ls) (.inl 1024 :: st) (h) Q) := (WP_at c_Market_init_21 _ _ _ _)
theorem c_Market_init_24 : mCode j_Market_init 24 = oNewA cM sM 0 26 := rfl
theorem e_Market_init_24 (i : Int32) (hi : 0 ≤ i ∧ i.toNatClampNeg ≤ 1000000) (hr : okR cM sM h 1 i.toNatClampNeg = true) : (WP Gm j_Market_init 24 (ls) (.inl i :: st) h Q) = (WP Gm j_Market_init 26 (ls) (.inr (.inl (some (nx h))) :: st) (hN h (100 + 0) i.toNatClampNeg i.toNatClampNeg) Q) := (WP_at c_Market_init_24 _ _ _ _).trans (congrArg (fun o => ndX Gm (WP Gm) j_Market_init 24 o Q) (if_pos (by rw [hr]; simp [hi.1, hi.2])))
theorem c_Market_init_26 : mCode j_Market_init 26 = oPutR kc_Market 2 29 := rfl
theorem e_Market_init_26 (a : Nat) (x : Option Nat) (hk : isK h a kc_Market = true) : (WP Gm j_Market_init 26 (ls) (.inr (.inl x) :: .inr (.inl (some a)) :: st) h Q) = (WP Gm j_Market_init 29 (ls) (st) (sR h a 2 x) Q) := (WP_at c_Market_init_26 _ _ _ _).trans (congrArg (fun o => ndX Gm (WP Gm) j_Market_init 26 o Q) (if_pos hk))
theorem c_Market_init_29 : mCode j_Market_init 29 = oAld 0 30 := rfl
theorem e_Market_init_29 (x : Option Nat) : (WP Gm j_Market_init 29 (some (.inr (.inl x)) :: ls) (st) h Q) = (WP Gm j_Market_init 30 (some (.inr (.inl x)) :: ls) (.inr (.inl x) :: st) (h) Q) := (WP_at c_Market_init_29 _ _ _ _)
theorem c_Market_init_30 : mCode j_Market_init 30 = oI 1024 33 := rfl
theorem e_Market_init_30  : (WP Gm j_Market_init 30 (ls) (st) h Q) = (WP Gm j_Market_init 33 (ls) (.inl 1024 :: st) (h) Q) := (WP_at c_Market_init_30 _ _ _ _)
theorem c_Market_init_33 : mCode j_Market_init 33 = oNewA cM sM 0 35 := rfl
theorem e_Market_init_33 (i : Int32) (hi : 0 ≤ i ∧ i.toNatClampNeg ≤ 1000000) (hr : okR cM sM h 1 i.toNatClampNeg = true) : (WP Gm j_Market_init 33 (ls) (.inl i :: st) h Q) = (WP Gm j_Market_init 35 (ls) (.inr (.inl (some (nx h))) :: st) (hN h (100 + 0) i.toNatClampNeg i.toNatClampNeg) Q) := (WP_at c_Market_init_33 _ _ _ _).trans (congrArg (fun o => ndX Gm (WP Gm) j_Market_init 33 o Q) (if_pos (by rw [hr]; simp [hi.1, hi.2])))
theorem c_Market_init_35 : mCode j_Market_init 35 = oPutR kc_Market 3 38 := rfl
theorem e_Market_init_35 (a : Nat) (x : Option Nat) (hk : isK h a kc_Market = true) : (WP Gm j_Market_init 35 (ls) (.inr (.inl x) :: .inr (.inl (some a)) :: st) h Q) = (WP Gm j_Market_init 38 (ls) (st) (sR h a 3 x) Q) := (WP_at c_Market_init_35 _ _ _ _).trans (congrArg (fun o => ndX Gm (WP Gm) j_Market_init 35 o Q) (if_pos hk))
theorem c_Market_init_38 : mCode j_Market_init 38 = oAld 0 39 := rfl
theorem e_Market_init_38 (x : Option Nat) : (WP Gm j_Market_init 38 (some (.inr (.inl x)) :: ls) (st) h Q) = (WP Gm j_Market_init 39 (some (.inr (.inl x)) :: ls) (.inr (.inl x) :: st) (h) Q) := (WP_at c_Market_init_38 _ _ _ _)
theorem c_Market_init_39 : mCode j_Market_init 39 = oI 5 40 := rfl
theorem e_Market_init_39  : (WP Gm j_Market_init 39 (ls) (st) h Q) = (WP Gm j_Market_init 40 (ls) (.inl 5 :: st) (h) Q) := (WP_at c_Market_init_39 _ _ _ _)
theorem c_Market_init_40 : mCode j_Market_init 40 = oNewA cM sM 0 42 := rfl
theorem e_Market_init_40 (i : Int32) (hi : 0 ≤ i ∧ i.toNatClampNeg ≤ 1000000) (hr : okR cM sM h 1 i.toNatClampNeg = true) : (WP Gm j_Market_init 40 (ls) (.inl i :: st) h Q) = (WP Gm j_Market_init 42 (ls) (.inr (.inl (some (nx h))) :: st) (hN h (100 + 0) i.toNatClampNeg i.toNatClampNeg) Q) := (WP_at c_Market_init_40 _ _ _ _).trans (congrArg (fun o => ndX Gm (WP Gm) j_Market_init 40 o Q) (if_pos (by rw [hr]; simp [hi.1, hi.2])))
theorem c_Market_init_42 : mCode j_Market_init 42 = oPutR kc_Market 4 45 := rfl
theorem e_Market_init_42 (a : Nat) (x : Option Nat) (hk : isK h a kc_Market = true) : (WP Gm j_Market_init 42 (ls) (.inr (.inl x) :: .inr (.inl (some a)) :: st) h Q) = (WP Gm j_Market_init 45 (ls) (st) (sR h a 4 x) Q) := (WP_at c_Market_init_42 _ _ _ _).trans (congrArg (fun o => ndX Gm (WP Gm) j_Market_init 42 o Q) (if_pos hk))
theorem c_Market_init_45 : mCode j_Market_init 45 = oAld 0 46 := rfl
theorem e_Market_init_45 (x : Option Nat) : (WP Gm j_Market_init 45 (some (.inr (.inl x)) :: ls) (st) h Q) = (WP Gm j_Market_init 46 (some (.inr (.inl x)) :: ls) (.inr (.inl x) :: st) (h) Q) := (WP_at c_Market_init_45 _ _ _ _)
theorem c_Market_init_46 : mCode j_Market_init 46 = oI 0 47 := rfl
theorem e_Market_init_46  : (WP Gm j_Market_init 46 (ls) (st) h Q) = (WP Gm j_Market_init 47 (ls) (.inl 0 :: st) (h) Q) := (WP_at c_Market_init_46 _ _ _ _)
theorem c_Market_init_47 : mCode j_Market_init 47 = oPutI kc_Market 5 50 := rfl
theorem e_Market_init_47 (a : Nat) (x : Int32) (hk : isK h a kc_Market = true) : (WP Gm j_Market_init 47 (ls) (.inl x :: .inr (.inl (some a)) :: st) h Q) = (WP Gm j_Market_init 50 (ls) (st) (sI h a 5 x) Q) := (WP_at c_Market_init_47 _ _ _ _).trans (congrArg (fun o => ndX Gm (WP Gm) j_Market_init 47 o Q) (if_pos hk))
theorem c_Market_init_50 : mCode j_Market_init 50 = oAld 0 51 := rfl
theorem e_Market_init_50 (x : Option Nat) : (WP Gm j_Market_init 50 (some (.inr (.inl x)) :: ls) (st) h Q) = (WP Gm j_Market_init 51 (some (.inr (.inl x)) :: ls) (.inr (.inl x) :: st) (h) Q) := (WP_at c_Market_init_50 _ _ _ _)
theorem c_Market_init_51 : mCode j_Market_init 51 = oI 0 52 := rfl
theorem e_Market_init_51  : (WP Gm j_Market_init 51 (ls) (st) h Q) = (WP Gm j_Market_init 52 (ls) (.inl 0 :: st) (h) Q) := (WP_at c_Market_init_51 _ _ _ _)
theorem c_Market_init_52 : mCode j_Market_init 52 = oPutI kc_Market 6 55 := rfl
theorem e_Market_init_52 (a : Nat) (x : Int32) (hk : isK h a kc_Market = true) : (WP Gm j_Market_init 52 (ls) (.inl x :: .inr (.inl (some a)) :: st) h Q) = (WP Gm j_Market_init 55 (ls) (st) (sI h a 6 x) Q) := (WP_at c_Market_init_52 _ _ _ _).trans (congrArg (fun o => ndX Gm (WP Gm) j_Market_init 52 o Q) (if_pos hk))
theorem c_Market_init_55 : mCode j_Market_init 55 = oAld 0 56 := rfl
theorem e_Market_init_55 (x : Option Nat) : (WP Gm j_Market_init 55 (some (.inr (.inl x)) :: ls) (st) h Q) = (WP Gm j_Market_init 56 (some (.inr (.inl x)) :: ls) (.inr (.inl x) :: st) (h) Q) := (WP_at c_Market_init_55 _ _ _ _)
theorem c_Market_init_56 : mCode j_Market_init 56 = oI 0 57 := rfl
theorem e_Market_init_56  : (WP Gm j_Market_init 56 (ls) (st) h Q) = (WP Gm j_Market_init 57 (ls) (.inl 0 :: st) (h) Q) := (WP_at c_Market_init_56 _ _ _ _)
theorem c_Market_init_57 : mCode j_Market_init 57 = oPutI kc_Market 7 60 := rfl
theorem e_Market_init_57 (a : Nat) (x : Int32) (hk : isK h a kc_Market = true) : (WP Gm j_Market_init 57 (ls) (.inl x :: .inr (.inl (some a)) :: st) h Q) = (WP Gm j_Market_init 60 (ls) (st) (sI h a 7 x) Q) := (WP_at c_Market_init_57 _ _ _ _).trans (congrArg (fun o => ndX Gm (WP Gm) j_Market_init 57 o Q) (if_pos hk))
theorem c_Market_init_60 : mCode j_Market_init 60 = oAld 0 61 := rfl
theorem e_Market_init_60 (x : Option Nat) : (WP Gm j_Market_init 60 (some (.inr (.inl x)) :: ls) (st) h Q) = (WP Gm j_Market_init 61 (some (.inr (.inl x)) :: ls) (.inr (.inl x) :: st) (h) Q) := (WP_at c_Market_init_60 _ _ _ _)
theorem c_Market_init_61 : mCode j_Market_init 61 = oI 0 62 := rfl
theorem e_Market_init_61  : (WP Gm j_Market_init 61 (ls) (st) h Q) = (WP Gm j_Market_init 62 (ls) (.inl 0 :: st) (h) Q) := (WP_at c_Market_init_61 _ _ _ _)
theorem c_Market_init_62 : mCode j_Market_init 62 = oPutI kc_Market 8 65 := rfl
theorem e_Market_init_62 (a : Nat) (x : Int32) (hk : isK h a kc_Market = true) : (WP Gm j_Market_init 62 (ls) (.inl x :: .inr (.inl (some a)) :: st) h Q) = (WP Gm j_Market_init 65 (ls) (st) (sI h a 8 x) Q) := (WP_at c_Market_init_62 _ _ _ _).trans (congrArg (fun o => ndX Gm (WP Gm) j_Market_init 62 o Q) (if_pos hk))
theorem c_Market_init_65 : mCode j_Market_init 65 = oRet := rfl
theorem e_Market_init_65  : (WP Gm j_Market_init 65 (ls) ([]) h Q) = (Q (.inl none) h) := (WP_at c_Market_init_65 _ _ _ _)
theorem c_Market_add_0 : mCode j_Market_add 0 = oAld 0 1 := rfl
theorem e_Market_add_0 (x : Option Nat) : (WP Gm j_Market_add 0 (some (.inr (.inl x)) :: ls) (st) h Q) = (WP Gm j_Market_add 1 (some (.inr (.inl x)) :: ls) (.inr (.inl x) :: st) (h) Q) := (WP_at c_Market_add_0 _ _ _ _)
theorem c_Market_add_1 : mCode j_Market_add 1 = oGetI kc_Market 5 4 := rfl
theorem e_Market_add_1 (a : Nat) (hk : isK h a kc_Market = true) : (WP Gm j_Market_add 1 (ls) (.inr (.inl (some a)) :: st) h Q) = (WP Gm j_Market_add 4 (ls) (.inl (gI h a 5) :: st) (h) Q) := (WP_at c_Market_add_1 _ _ _ _).trans (congrArg (fun o => ndX Gm (WP Gm) j_Market_add 1 o Q) (if_pos hk))
theorem c_Market_add_4 : mCode j_Market_add 4 = oIst 4 6 := rfl
theorem e_Market_add_4 (x : Int32) : (WP Gm j_Market_add 4 (ls) (.inl x :: st) h Q) = (WP Gm j_Market_add 6 (lSet1 ls 4 (some (.inl x))) (st) (h) Q) := (WP_at c_Market_add_4 _ _ _ _)
theorem c_Market_add_6 : mCode j_Market_add 6 = oAld 0 7 := rfl
theorem e_Market_add_6 (x : Option Nat) : (WP Gm j_Market_add 6 (some (.inr (.inl x)) :: ls) (st) h Q) = (WP Gm j_Market_add 7 (some (.inr (.inl x)) :: ls) (.inr (.inl x) :: st) (h) Q) := (WP_at c_Market_add_6 _ _ _ _)
theorem c_Market_add_7 : mCode j_Market_add 7 = oDup 8 := rfl
theorem e_Market_add_7 (x : Option Nat) : (WP Gm j_Market_add 7 (ls) (.inr (.inl x) :: st) h Q) = (WP Gm j_Market_add 8 (ls) (.inr (.inl x) :: .inr (.inl x) :: st) (h) Q) := (WP_at c_Market_add_7 _ _ _ _)
theorem c_Market_add_8 : mCode j_Market_add 8 = oGetI kc_Market 5 11 := rfl
theorem e_Market_add_8 (a : Nat) (hk : isK h a kc_Market = true) : (WP Gm j_Market_add 8 (ls) (.inr (.inl (some a)) :: st) h Q) = (WP Gm j_Market_add 11 (ls) (.inl (gI h a 5) :: st) (h) Q) := (WP_at c_Market_add_8 _ _ _ _).trans (congrArg (fun o => ndX Gm (WP Gm) j_Market_add 8 o Q) (if_pos hk))
theorem c_Market_add_11 : mCode j_Market_add 11 = oI 1 12 := rfl
theorem e_Market_add_11  : (WP Gm j_Market_add 11 (ls) (st) h Q) = (WP Gm j_Market_add 12 (ls) (.inl 1 :: st) (h) Q) := (WP_at c_Market_add_11 _ _ _ _)
theorem c_Market_add_12 : mCode j_Market_add 12 = oII (fun x y => x + y) 13 := rfl
theorem e_Market_add_12 (x : Int32) (y : Int32) : (WP Gm j_Market_add 12 (ls) (.inl y :: .inl x :: st) h Q) = (WP Gm j_Market_add 13 (ls) (.inl (x + y) :: st) (h) Q) := (WP_at c_Market_add_12 _ _ _ _)
theorem c_Market_add_13 : mCode j_Market_add 13 = oPutI kc_Market 5 16 := rfl
theorem e_Market_add_13 (a : Nat) (x : Int32) (hk : isK h a kc_Market = true) : (WP Gm j_Market_add 13 (ls) (.inl x :: .inr (.inl (some a)) :: st) h Q) = (WP Gm j_Market_add 16 (ls) (st) (sI h a 5 x) Q) := (WP_at c_Market_add_13 _ _ _ _).trans (congrArg (fun o => ndX Gm (WP Gm) j_Market_add 13 o Q) (if_pos hk))
theorem c_Market_add_16 : mCode j_Market_add 16 = oAld 0 17 := rfl
theorem e_Market_add_16 (x : Option Nat) : (WP Gm j_Market_add 16 (some (.inr (.inl x)) :: ls) (st) h Q) = (WP Gm j_Market_add 17 (some (.inr (.inl x)) :: ls) (.inr (.inl x) :: st) (h) Q) := (WP_at c_Market_add_16 _ _ _ _)
theorem c_Market_add_17 : mCode j_Market_add 17 = oGetR kc_Market 0 20 := rfl
theorem e_Market_add_17 (a : Nat) (hk : isK h a kc_Market = true) : (WP Gm j_Market_add 17 (ls) (.inr (.inl (some a)) :: st) h Q) = (WP Gm j_Market_add 20 (ls) (.inr (.inl (gR h a 0)) :: st) (h) Q) := (WP_at c_Market_add_17 _ _ _ _).trans (congrArg (fun o => ndX Gm (WP Gm) j_Market_add 17 o Q) (if_pos hk))
theorem c_Market_add_20 : mCode j_Market_add 20 = oIld 4 22 := rfl
theorem e_Market_add_20 (a0 a1 a2 a3 : Option MV) (x : Int32) : (WP Gm j_Market_add 20 (a0 :: a1 :: a2 :: a3 :: some (.inl x) :: ls) (st) h Q) = (WP Gm j_Market_add 22 (a0 :: a1 :: a2 :: a3 :: some (.inl x) :: ls) (.inl x :: st) (h) Q) := (WP_at c_Market_add_20 _ _ _ _)
theorem c_Market_add_22 : mCode j_Market_add 22 = oIld 1 23 := rfl
theorem e_Market_add_22 (a0 : Option MV) (x : Int32) : (WP Gm j_Market_add 22 (a0 :: some (.inl x) :: ls) (st) h Q) = (WP Gm j_Market_add 23 (a0 :: some (.inl x) :: ls) (.inl x :: st) (h) Q) := (WP_at c_Market_add_22 _ _ _ _)
theorem c_Market_add_23 : mCode j_Market_add 23 = oIas 0 24 := rfl
theorem e_Market_add_23 (a : Nat) (i : Int32) (x : Int32) (hk : isK h a 100 = true) (hi : inL h a i = true) (h0 : ¬ a = 0) : (WP Gm j_Market_add 23 (ls) (.inl x :: .inl i :: .inr (.inl (some a)) :: st) h Q) = (WP Gm j_Market_add 24 (ls) (st) (sI h a i.toNatClampNeg x) Q) := (WP_at c_Market_add_23 _ _ _ _).trans (congrArg (fun o => ndX Gm (WP Gm) j_Market_add 23 o Q) (if_pos (by rw [hk, hi]; simp [h0])))
theorem c_Market_add_24 : mCode j_Market_add 24 = oAld 0 25 := rfl
theorem e_Market_add_24 (x : Option Nat) : (WP Gm j_Market_add 24 (some (.inr (.inl x)) :: ls) (st) h Q) = (WP Gm j_Market_add 25 (some (.inr (.inl x)) :: ls) (.inr (.inl x) :: st) (h) Q) := (WP_at c_Market_add_24 _ _ _ _)
theorem c_Market_add_25 : mCode j_Market_add 25 = oGetR kc_Market 1 28 := rfl
theorem e_Market_add_25 (a : Nat) (hk : isK h a kc_Market = true) : (WP Gm j_Market_add 25 (ls) (.inr (.inl (some a)) :: st) h Q) = (WP Gm j_Market_add 28 (ls) (.inr (.inl (gR h a 1)) :: st) (h) Q) := (WP_at c_Market_add_25 _ _ _ _).trans (congrArg (fun o => ndX Gm (WP Gm) j_Market_add 25 o Q) (if_pos hk))
theorem c_Market_add_28 : mCode j_Market_add 28 = oIld 4 30 := rfl
theorem e_Market_add_28 (a0 a1 a2 a3 : Option MV) (x : Int32) : (WP Gm j_Market_add 28 (a0 :: a1 :: a2 :: a3 :: some (.inl x) :: ls) (st) h Q) = (WP Gm j_Market_add 30 (a0 :: a1 :: a2 :: a3 :: some (.inl x) :: ls) (.inl x :: st) (h) Q) := (WP_at c_Market_add_28 _ _ _ _)
theorem c_Market_add_30 : mCode j_Market_add 30 = oIld 3 31 := rfl
theorem e_Market_add_30 (a0 a1 a2 : Option MV) (x : Int32) : (WP Gm j_Market_add 30 (a0 :: a1 :: a2 :: some (.inl x) :: ls) (st) h Q) = (WP Gm j_Market_add 31 (a0 :: a1 :: a2 :: some (.inl x) :: ls) (.inl x :: st) (h) Q) := (WP_at c_Market_add_30 _ _ _ _)
theorem c_Market_add_31 : mCode j_Market_add 31 = oIas 0 32 := rfl
theorem e_Market_add_31 (a : Nat) (i : Int32) (x : Int32) (hk : isK h a 100 = true) (hi : inL h a i = true) (h0 : ¬ a = 0) : (WP Gm j_Market_add 31 (ls) (.inl x :: .inl i :: .inr (.inl (some a)) :: st) h Q) = (WP Gm j_Market_add 32 (ls) (st) (sI h a i.toNatClampNeg x) Q) := (WP_at c_Market_add_31 _ _ _ _).trans (congrArg (fun o => ndX Gm (WP Gm) j_Market_add 31 o Q) (if_pos (by rw [hk, hi]; simp [h0])))
theorem c_Market_add_32 : mCode j_Market_add 32 = oIld 2 33 := rfl
theorem e_Market_add_32 (a0 a1 : Option MV) (x : Int32) : (WP Gm j_Market_add 32 (a0 :: a1 :: some (.inl x) :: ls) (st) h Q) = (WP Gm j_Market_add 33 (a0 :: a1 :: some (.inl x) :: ls) (.inl x :: st) (h) Q) := (WP_at c_Market_add_32 _ _ _ _)
theorem c_Market_add_33 : mCode j_Market_add 33 = oI 1 34 := rfl
theorem e_Market_add_33  : (WP Gm j_Market_add 33 (ls) (st) h Q) = (WP Gm j_Market_add 34 (ls) (.inl 1 :: st) (h) Q) := (WP_at c_Market_add_33 _ _ _ _)
theorem c_Market_add_34 : mCode j_Market_add 34 = oI 6 36 := rfl
theorem e_Market_add_34  : (WP Gm j_Market_add 34 (ls) (st) h Q) = (WP Gm j_Market_add 36 (ls) (.inl 6 :: st) (h) Q) := (WP_at c_Market_add_34 _ _ _ _)
theorem c_Market_add_36 : mCode j_Market_add 36 = oIld 1 37 := rfl
theorem e_Market_add_36 (a0 : Option MV) (x : Int32) : (WP Gm j_Market_add 36 (a0 :: some (.inl x) :: ls) (st) h Q) = (WP Gm j_Market_add 37 (a0 :: some (.inl x) :: ls) (.inl x :: st) (h) Q) := (WP_at c_Market_add_36 _ _ _ _)
theorem c_Market_add_37 : mCode j_Market_add 37 = oII (fun x y => x + y) 38 := rfl
theorem e_Market_add_37 (x : Int32) (y : Int32) : (WP Gm j_Market_add 37 (ls) (.inl y :: .inl x :: st) h Q) = (WP Gm j_Market_add 38 (ls) (.inl (x + y) :: st) (h) Q) := (WP_at c_Market_add_37 _ _ _ _)
theorem c_Market_add_38 : mCode j_Market_add 38 = oII (fun x y => x <<< (y &&& 31)) 39 := rfl
theorem e_Market_add_38 (x : Int32) (y : Int32) : (WP Gm j_Market_add 38 (ls) (.inl y :: .inl x :: st) h Q) = (WP Gm j_Market_add 39 (ls) (.inl (x <<< (y &&& 31)) :: st) (h) Q) := (WP_at c_Market_add_38 _ _ _ _)
theorem c_Market_add_39 : mCode j_Market_add 39 = oII (fun x y => x ||| y) 40 := rfl
theorem e_Market_add_39 (x : Int32) (y : Int32) : (WP Gm j_Market_add 39 (ls) (.inl y :: .inl x :: st) h Q) = (WP Gm j_Market_add 40 (ls) (.inl (x ||| y) :: st) (h) Q) := (WP_at c_Market_add_39 _ _ _ _)
theorem c_Market_add_40 : mCode j_Market_add 40 = oIst 5 42 := rfl
theorem e_Market_add_40 (x : Int32) : (WP Gm j_Market_add 40 (ls) (.inl x :: st) h Q) = (WP Gm j_Market_add 42 (lSet1 ls 5 (some (.inl x))) (st) (h) Q) := (WP_at c_Market_add_40 _ _ _ _)
theorem c_Market_add_42 : mCode j_Market_add 42 = oI 1 43 := rfl
theorem e_Market_add_42  : (WP Gm j_Market_add 42 (ls) (st) h Q) = (WP Gm j_Market_add 43 (ls) (.inl 1 :: st) (h) Q) := (WP_at c_Market_add_42 _ _ _ _)
theorem c_Market_add_43 : mCode j_Market_add 43 = oIld 4 45 := rfl
theorem e_Market_add_43 (a0 a1 a2 a3 : Option MV) (x : Int32) : (WP Gm j_Market_add 43 (a0 :: a1 :: a2 :: a3 :: some (.inl x) :: ls) (st) h Q) = (WP Gm j_Market_add 45 (a0 :: a1 :: a2 :: a3 :: some (.inl x) :: ls) (.inl x :: st) (h) Q) := (WP_at c_Market_add_43 _ _ _ _)
theorem c_Market_add_45 : mCode j_Market_add 45 = oII (fun x y => x <<< (y &&& 31)) 46 := rfl
theorem e_Market_add_45 (x : Int32) (y : Int32) : (WP Gm j_Market_add 45 (ls) (.inl y :: .inl x :: st) h Q) = (WP Gm j_Market_add 46 (ls) (.inl (x <<< (y &&& 31)) :: st) (h) Q) := (WP_at c_Market_add_45 _ _ _ _)
theorem c_Market_add_46 : mCode j_Market_add 46 = oIst 6 48 := rfl
theorem e_Market_add_46 (x : Int32) : (WP Gm j_Market_add 46 (ls) (.inl x :: st) h Q) = (WP Gm j_Market_add 48 (lSet1 ls 6 (some (.inl x))) (st) (h) Q) := (WP_at c_Market_add_46 _ _ _ _)
theorem c_Market_add_48 : mCode j_Market_add 48 = oI 0 49 := rfl
theorem e_Market_add_48  : (WP Gm j_Market_add 48 (ls) (st) h Q) = (WP Gm j_Market_add 49 (ls) (.inl 0 :: st) (h) Q) := (WP_at c_Market_add_48 _ _ _ _)
theorem c_Market_add_49 : mCode j_Market_add 49 = oIst 7 51 := rfl
theorem e_Market_add_49 (x : Int32) : (WP Gm j_Market_add 49 (ls) (.inl x :: st) h Q) = (WP Gm j_Market_add 51 (lSet1 ls 7 (some (.inl x))) (st) (h) Q) := (WP_at c_Market_add_49 _ _ _ _)
theorem c_Market_add_51 : mCode j_Market_add 51 = oIld 7 53 := rfl
theorem e_Market_add_51 (a0 a1 a2 a3 a4 a5 a6 : Option MV) (x : Int32) : (WP Gm j_Market_add 51 (a0 :: a1 :: a2 :: a3 :: a4 :: a5 :: a6 :: some (.inl x) :: ls) (st) h Q) = (WP Gm j_Market_add 53 (a0 :: a1 :: a2 :: a3 :: a4 :: a5 :: a6 :: some (.inl x) :: ls) (.inl x :: st) (h) Q) := (WP_at c_Market_add_51 _ _ _ _)
theorem c_Market_add_53 : mCode j_Market_add 53 = oIld 6 55 := rfl
theorem e_Market_add_53 (a0 a1 a2 a3 a4 a5 : Option MV) (x : Int32) : (WP Gm j_Market_add 53 (a0 :: a1 :: a2 :: a3 :: a4 :: a5 :: some (.inl x) :: ls) (st) h Q) = (WP Gm j_Market_add 55 (a0 :: a1 :: a2 :: a3 :: a4 :: a5 :: some (.inl x) :: ls) (.inl x :: st) (h) Q) := (WP_at c_Market_add_53 _ _ _ _)
theorem c_Market_add_55 : mCode j_Market_add 55 = oIC (fun x y => decide (y ≤ x)) 145 58 := rfl
theorem e_Market_add_55 (x y : Int32) : (WP Gm j_Market_add 55 (ls) (.inl y :: .inl x :: st) h Q) = (if y ≤ x then WP Gm j_Market_add 145 (ls) (st) (h) Q else WP Gm j_Market_add 58 (ls) (st) (h) Q) := (WP_at c_Market_add_55 _ _ _ _).trans (nd_ic rfl _ _ _ _)
theorem c_Market_add_58 : mCode j_Market_add 58 = oIld 7 60 := rfl
theorem e_Market_add_58 (a0 a1 a2 a3 a4 a5 a6 : Option MV) (x : Int32) : (WP Gm j_Market_add 58 (a0 :: a1 :: a2 :: a3 :: a4 :: a5 :: a6 :: some (.inl x) :: ls) (st) h Q) = (WP Gm j_Market_add 60 (a0 :: a1 :: a2 :: a3 :: a4 :: a5 :: a6 :: some (.inl x) :: ls) (.inl x :: st) (h) Q) := (WP_at c_Market_add_58 _ _ _ _)
theorem c_Market_add_60 : mCode j_Market_add 60 = oIld 6 62 := rfl
theorem e_Market_add_60 (a0 a1 a2 a3 a4 a5 : Option MV) (x : Int32) : (WP Gm j_Market_add 60 (a0 :: a1 :: a2 :: a3 :: a4 :: a5 :: some (.inl x) :: ls) (st) h Q) = (WP Gm j_Market_add 62 (a0 :: a1 :: a2 :: a3 :: a4 :: a5 :: some (.inl x) :: ls) (.inl x :: st) (h) Q) := (WP_at c_Market_add_60 _ _ _ _)
theorem c_Market_add_62 : mCode j_Market_add 62 = oII (fun x y => x ||| y) 63 := rfl
theorem e_Market_add_62 (x : Int32) (y : Int32) : (WP Gm j_Market_add 62 (ls) (.inl y :: .inl x :: st) h Q) = (WP Gm j_Market_add 63 (ls) (.inl (x ||| y) :: st) (h) Q) := (WP_at c_Market_add_62 _ _ _ _)
theorem c_Market_add_63 : mCode j_Market_add 63 = oIst 8 65 := rfl
theorem e_Market_add_63 (x : Int32) : (WP Gm j_Market_add 63 (ls) (.inl x :: st) h Q) = (WP Gm j_Market_add 65 (lSet1 ls 8 (some (.inl x))) (st) (h) Q) := (WP_at c_Market_add_63 _ _ _ _)
theorem c_Market_add_65 : mCode j_Market_add 65 = oAld 0 66 := rfl
theorem e_Market_add_65 (x : Option Nat) : (WP Gm j_Market_add 65 (some (.inr (.inl x)) :: ls) (st) h Q) = (WP Gm j_Market_add 66 (some (.inr (.inl x)) :: ls) (.inr (.inl x) :: st) (h) Q) := (WP_at c_Market_add_65 _ _ _ _)
theorem c_Market_add_66 : mCode j_Market_add 66 = oGetR kc_Market 3 69 := rfl
theorem e_Market_add_66 (a : Nat) (hk : isK h a kc_Market = true) : (WP Gm j_Market_add 66 (ls) (.inr (.inl (some a)) :: st) h Q) = (WP Gm j_Market_add 69 (ls) (.inr (.inl (gR h a 3)) :: st) (h) Q) := (WP_at c_Market_add_66 _ _ _ _).trans (congrArg (fun o => ndX Gm (WP Gm) j_Market_add 66 o Q) (if_pos hk))
theorem c_Market_add_69 : mCode j_Market_add 69 = oIld 7 71 := rfl
theorem e_Market_add_69 (a0 a1 a2 a3 a4 a5 a6 : Option MV) (x : Int32) : (WP Gm j_Market_add 69 (a0 :: a1 :: a2 :: a3 :: a4 :: a5 :: a6 :: some (.inl x) :: ls) (st) h Q) = (WP Gm j_Market_add 71 (a0 :: a1 :: a2 :: a3 :: a4 :: a5 :: a6 :: some (.inl x) :: ls) (.inl x :: st) (h) Q) := (WP_at c_Market_add_69 _ _ _ _)
theorem c_Market_add_71 : mCode j_Market_add 71 = oIal 0 72 := rfl
theorem e_Market_add_71 (a : Nat) (i : Int32) (hk : isK h a 100 = true) (hi : inL h a i = true) : (WP Gm j_Market_add 71 (ls) (.inl i :: .inr (.inl (some a)) :: st) h Q) = (WP Gm j_Market_add 72 (ls) (.inl (gI h a i.toNatClampNeg) :: st) (h) Q) := (WP_at c_Market_add_71 _ _ _ _).trans (congrArg (fun o => ndX Gm (WP Gm) j_Market_add 71 o Q) (if_pos (by rw [hk, hi]; rfl)))
theorem c_Market_add_72 : mCode j_Market_add 72 = oI (-1) 73 := rfl
theorem e_Market_add_72  : (WP Gm j_Market_add 72 (ls) (st) h Q) = (WP Gm j_Market_add 73 (ls) (.inl (-1) :: st) (h) Q) := (WP_at c_Market_add_72 _ _ _ _)
theorem c_Market_add_73 : mCode j_Market_add 73 = oIC (fun x y => decide (x = y)) 89 76 := rfl
theorem e_Market_add_73 (x y : Int32) : (WP Gm j_Market_add 73 (ls) (.inl y :: .inl x :: st) h Q) = (if x = y then WP Gm j_Market_add 89 (ls) (st) (h) Q else WP Gm j_Market_add 76 (ls) (st) (h) Q) := (WP_at c_Market_add_73 _ _ _ _).trans (nd_ic rfl _ _ _ _)
theorem c_Market_add_76 : mCode j_Market_add 76 = oAld 0 77 := rfl
theorem e_Market_add_76 (x : Option Nat) : (WP Gm j_Market_add 76 (some (.inr (.inl x)) :: ls) (st) h Q) = (WP Gm j_Market_add 77 (some (.inr (.inl x)) :: ls) (.inr (.inl x) :: st) (h) Q) := (WP_at c_Market_add_76 _ _ _ _)
theorem c_Market_add_77 : mCode j_Market_add 77 = oGetR kc_Market 2 80 := rfl
theorem e_Market_add_77 (a : Nat) (hk : isK h a kc_Market = true) : (WP Gm j_Market_add 77 (ls) (.inr (.inl (some a)) :: st) h Q) = (WP Gm j_Market_add 80 (ls) (.inr (.inl (gR h a 2)) :: st) (h) Q) := (WP_at c_Market_add_77 _ _ _ _).trans (congrArg (fun o => ndX Gm (WP Gm) j_Market_add 77 o Q) (if_pos hk))
theorem c_Market_add_80 : mCode j_Market_add 80 = oIld 7 82 := rfl
theorem e_Market_add_80 (a0 a1 a2 a3 a4 a5 a6 : Option MV) (x : Int32) : (WP Gm j_Market_add 80 (a0 :: a1 :: a2 :: a3 :: a4 :: a5 :: a6 :: some (.inl x) :: ls) (st) h Q) = (WP Gm j_Market_add 82 (a0 :: a1 :: a2 :: a3 :: a4 :: a5 :: a6 :: some (.inl x) :: ls) (.inl x :: st) (h) Q) := (WP_at c_Market_add_80 _ _ _ _)
theorem c_Market_add_82 : mCode j_Market_add 82 = oIal 0 83 := rfl
theorem e_Market_add_82 (a : Nat) (i : Int32) (hk : isK h a 100 = true) (hi : inL h a i = true) : (WP Gm j_Market_add 82 (ls) (.inl i :: .inr (.inl (some a)) :: st) h Q) = (WP Gm j_Market_add 83 (ls) (.inl (gI h a i.toNatClampNeg) :: st) (h) Q) := (WP_at c_Market_add_82 _ _ _ _).trans (congrArg (fun o => ndX Gm (WP Gm) j_Market_add 82 o Q) (if_pos (by rw [hk, hi]; rfl)))
theorem c_Market_add_83 : mCode j_Market_add 83 = oIld 5 85 := rfl
theorem e_Market_add_83 (a0 a1 a2 a3 a4 : Option MV) (x : Int32) : (WP Gm j_Market_add 83 (a0 :: a1 :: a2 :: a3 :: a4 :: some (.inl x) :: ls) (st) h Q) = (WP Gm j_Market_add 85 (a0 :: a1 :: a2 :: a3 :: a4 :: some (.inl x) :: ls) (.inl x :: st) (h) Q) := (WP_at c_Market_add_83 _ _ _ _)
theorem c_Market_add_85 : mCode j_Market_add 85 = oII (fun x y => x &&& y) 86 := rfl
theorem e_Market_add_85 (x : Int32) (y : Int32) : (WP Gm j_Market_add 85 (ls) (.inl y :: .inl x :: st) h Q) = (WP Gm j_Market_add 86 (ls) (.inl (x &&& y) :: st) (h) Q) := (WP_at c_Market_add_85 _ _ _ _)
theorem c_Market_add_86 : mCode j_Market_add 86 = oIf (fun x => decide (x = 0)) 100 89 := rfl
theorem e_Market_add_86 (x : Int32) : (WP Gm j_Market_add 86 (ls) (.inl x :: st) h Q) = (if x = 0 then WP Gm j_Market_add 100 (ls) (st) (h) Q else WP Gm j_Market_add 89 (ls) (st) (h) Q) := (WP_at c_Market_add_86 _ _ _ _).trans (nd_if rfl _ _ _ _)
theorem c_Market_add_89 : mCode j_Market_add 89 = oAld 0 90 := rfl
theorem e_Market_add_89 (x : Option Nat) : (WP Gm j_Market_add 89 (some (.inr (.inl x)) :: ls) (st) h Q) = (WP Gm j_Market_add 90 (some (.inr (.inl x)) :: ls) (.inr (.inl x) :: st) (h) Q) := (WP_at c_Market_add_89 _ _ _ _)
theorem c_Market_add_90 : mCode j_Market_add 90 = oGetR kc_Market 3 93 := rfl
theorem e_Market_add_90 (a : Nat) (hk : isK h a kc_Market = true) : (WP Gm j_Market_add 90 (ls) (.inr (.inl (some a)) :: st) h Q) = (WP Gm j_Market_add 93 (ls) (.inr (.inl (gR h a 3)) :: st) (h) Q) := (WP_at c_Market_add_90 _ _ _ _).trans (congrArg (fun o => ndX Gm (WP Gm) j_Market_add 90 o Q) (if_pos hk))
theorem c_Market_add_93 : mCode j_Market_add 93 = oIld 8 95 := rfl
theorem e_Market_add_93 (a0 a1 a2 a3 a4 a5 a6 a7 : Option MV) (x : Int32) : (WP Gm j_Market_add 93 (a0 :: a1 :: a2 :: a3 :: a4 :: a5 :: a6 :: a7 :: some (.inl x) :: ls) (st) h Q) = (WP Gm j_Market_add 95 (a0 :: a1 :: a2 :: a3 :: a4 :: a5 :: a6 :: a7 :: some (.inl x) :: ls) (.inl x :: st) (h) Q) := (WP_at c_Market_add_93 _ _ _ _)
theorem c_Market_add_95 : mCode j_Market_add 95 = oI (-1) 96 := rfl
theorem e_Market_add_95  : (WP Gm j_Market_add 95 (ls) (st) h Q) = (WP Gm j_Market_add 96 (ls) (.inl (-1) :: st) (h) Q) := (WP_at c_Market_add_95 _ _ _ _)
theorem c_Market_add_96 : mCode j_Market_add 96 = oIas 0 97 := rfl
theorem e_Market_add_96 (a : Nat) (i : Int32) (x : Int32) (hk : isK h a 100 = true) (hi : inL h a i = true) (h0 : ¬ a = 0) : (WP Gm j_Market_add 96 (ls) (.inl x :: .inl i :: .inr (.inl (some a)) :: st) h Q) = (WP Gm j_Market_add 97 (ls) (st) (sI h a i.toNatClampNeg x) Q) := (WP_at c_Market_add_96 _ _ _ _).trans (congrArg (fun o => ndX Gm (WP Gm) j_Market_add 96 o Q) (if_pos (by rw [hk, hi]; simp [h0])))
theorem c_Market_add_97 : mCode j_Market_add 97 = oGo 139 := rfl
theorem e_Market_add_97  : (WP Gm j_Market_add 97 (ls) (st) h Q) = (WP Gm j_Market_add 139 (ls) (st) (h) Q) := (WP_at c_Market_add_97 _ _ _ _)
theorem c_Market_add_100 : mCode j_Market_add 100 = oAld 0 101 := rfl
theorem e_Market_add_100 (x : Option Nat) : (WP Gm j_Market_add 100 (some (.inr (.inl x)) :: ls) (st) h Q) = (WP Gm j_Market_add 101 (some (.inr (.inl x)) :: ls) (.inr (.inl x) :: st) (h) Q) := (WP_at c_Market_add_100 _ _ _ _)
theorem c_Market_add_101 : mCode j_Market_add 101 = oGetR kc_Market 3 104 := rfl
theorem e_Market_add_101 (a : Nat) (hk : isK h a kc_Market = true) : (WP Gm j_Market_add 101 (ls) (.inr (.inl (some a)) :: st) h Q) = (WP Gm j_Market_add 104 (ls) (.inr (.inl (gR h a 3)) :: st) (h) Q) := (WP_at c_Market_add_101 _ _ _ _).trans (congrArg (fun o => ndX Gm (WP Gm) j_Market_add 101 o Q) (if_pos hk))
theorem c_Market_add_104 : mCode j_Market_add 104 = oIld 8 106 := rfl
theorem e_Market_add_104 (a0 a1 a2 a3 a4 a5 a6 a7 : Option MV) (x : Int32) : (WP Gm j_Market_add 104 (a0 :: a1 :: a2 :: a3 :: a4 :: a5 :: a6 :: a7 :: some (.inl x) :: ls) (st) h Q) = (WP Gm j_Market_add 106 (a0 :: a1 :: a2 :: a3 :: a4 :: a5 :: a6 :: a7 :: some (.inl x) :: ls) (.inl x :: st) (h) Q) := (WP_at c_Market_add_104 _ _ _ _)
theorem c_Market_add_106 : mCode j_Market_add 106 = oAld 0 107 := rfl
theorem e_Market_add_106 (x : Option Nat) : (WP Gm j_Market_add 106 (some (.inr (.inl x)) :: ls) (st) h Q) = (WP Gm j_Market_add 107 (some (.inr (.inl x)) :: ls) (.inr (.inl x) :: st) (h) Q) := (WP_at c_Market_add_106 _ _ _ _)
theorem c_Market_add_107 : mCode j_Market_add 107 = oGetR kc_Market 3 110 := rfl
theorem e_Market_add_107 (a : Nat) (hk : isK h a kc_Market = true) : (WP Gm j_Market_add 107 (ls) (.inr (.inl (some a)) :: st) h Q) = (WP Gm j_Market_add 110 (ls) (.inr (.inl (gR h a 3)) :: st) (h) Q) := (WP_at c_Market_add_107 _ _ _ _).trans (congrArg (fun o => ndX Gm (WP Gm) j_Market_add 107 o Q) (if_pos hk))
theorem c_Market_add_110 : mCode j_Market_add 110 = oIld 7 112 := rfl
theorem e_Market_add_110 (a0 a1 a2 a3 a4 a5 a6 : Option MV) (x : Int32) : (WP Gm j_Market_add 110 (a0 :: a1 :: a2 :: a3 :: a4 :: a5 :: a6 :: some (.inl x) :: ls) (st) h Q) = (WP Gm j_Market_add 112 (a0 :: a1 :: a2 :: a3 :: a4 :: a5 :: a6 :: some (.inl x) :: ls) (.inl x :: st) (h) Q) := (WP_at c_Market_add_110 _ _ _ _)
theorem c_Market_add_112 : mCode j_Market_add 112 = oIal 0 113 := rfl
theorem e_Market_add_112 (a : Nat) (i : Int32) (hk : isK h a 100 = true) (hi : inL h a i = true) : (WP Gm j_Market_add 112 (ls) (.inl i :: .inr (.inl (some a)) :: st) h Q) = (WP Gm j_Market_add 113 (ls) (.inl (gI h a i.toNatClampNeg) :: st) (h) Q) := (WP_at c_Market_add_112 _ _ _ _).trans (congrArg (fun o => ndX Gm (WP Gm) j_Market_add 112 o Q) (if_pos (by rw [hk, hi]; rfl)))
theorem c_Market_add_113 : mCode j_Market_add 113 = oIld 3 114 := rfl
theorem e_Market_add_113 (a0 a1 a2 : Option MV) (x : Int32) : (WP Gm j_Market_add 113 (a0 :: a1 :: a2 :: some (.inl x) :: ls) (st) h Q) = (WP Gm j_Market_add 114 (a0 :: a1 :: a2 :: some (.inl x) :: ls) (.inl x :: st) (h) Q) := (WP_at c_Market_add_113 _ _ _ _)
theorem c_Market_add_114 : mCode j_Market_add 114 = oII (fun x y => x + y) 115 := rfl
theorem e_Market_add_114 (x : Int32) (y : Int32) : (WP Gm j_Market_add 114 (ls) (.inl y :: .inl x :: st) h Q) = (WP Gm j_Market_add 115 (ls) (.inl (x + y) :: st) (h) Q) := (WP_at c_Market_add_114 _ _ _ _)
theorem c_Market_add_115 : mCode j_Market_add 115 = oIas 0 116 := rfl
theorem e_Market_add_115 (a : Nat) (i : Int32) (x : Int32) (hk : isK h a 100 = true) (hi : inL h a i = true) (h0 : ¬ a = 0) : (WP Gm j_Market_add 115 (ls) (.inl x :: .inl i :: .inr (.inl (some a)) :: st) h Q) = (WP Gm j_Market_add 116 (ls) (st) (sI h a i.toNatClampNeg x) Q) := (WP_at c_Market_add_115 _ _ _ _).trans (congrArg (fun o => ndX Gm (WP Gm) j_Market_add 115 o Q) (if_pos (by rw [hk, hi]; simp [h0])))
theorem c_Market_add_116 : mCode j_Market_add 116 = oAld 0 117 := rfl
theorem e_Market_add_116 (x : Option Nat) : (WP Gm j_Market_add 116 (some (.inr (.inl x)) :: ls) (st) h Q) = (WP Gm j_Market_add 117 (some (.inr (.inl x)) :: ls) (.inr (.inl x) :: st) (h) Q) := (WP_at c_Market_add_116 _ _ _ _)
theorem c_Market_add_117 : mCode j_Market_add 117 = oGetR kc_Market 2 120 := rfl
theorem e_Market_add_117 (a : Nat) (hk : isK h a kc_Market = true) : (WP Gm j_Market_add 117 (ls) (.inr (.inl (some a)) :: st) h Q) = (WP Gm j_Market_add 120 (ls) (.inr (.inl (gR h a 2)) :: st) (h) Q) := (WP_at c_Market_add_117 _ _ _ _).trans (congrArg (fun o => ndX Gm (WP Gm) j_Market_add 117 o Q) (if_pos hk))
theorem c_Market_add_120 : mCode j_Market_add 120 = oIld 8 122 := rfl
theorem e_Market_add_120 (a0 a1 a2 a3 a4 a5 a6 a7 : Option MV) (x : Int32) : (WP Gm j_Market_add 120 (a0 :: a1 :: a2 :: a3 :: a4 :: a5 :: a6 :: a7 :: some (.inl x) :: ls) (st) h Q) = (WP Gm j_Market_add 122 (a0 :: a1 :: a2 :: a3 :: a4 :: a5 :: a6 :: a7 :: some (.inl x) :: ls) (.inl x :: st) (h) Q) := (WP_at c_Market_add_120 _ _ _ _)
theorem c_Market_add_122 : mCode j_Market_add 122 = oAld 0 123 := rfl
theorem e_Market_add_122 (x : Option Nat) : (WP Gm j_Market_add 122 (some (.inr (.inl x)) :: ls) (st) h Q) = (WP Gm j_Market_add 123 (some (.inr (.inl x)) :: ls) (.inr (.inl x) :: st) (h) Q) := (WP_at c_Market_add_122 _ _ _ _)
theorem c_Market_add_123 : mCode j_Market_add 123 = oGetR kc_Market 2 126 := rfl
theorem e_Market_add_123 (a : Nat) (hk : isK h a kc_Market = true) : (WP Gm j_Market_add 123 (ls) (.inr (.inl (some a)) :: st) h Q) = (WP Gm j_Market_add 126 (ls) (.inr (.inl (gR h a 2)) :: st) (h) Q) := (WP_at c_Market_add_123 _ _ _ _).trans (congrArg (fun o => ndX Gm (WP Gm) j_Market_add 123 o Q) (if_pos hk))
theorem c_Market_add_126 : mCode j_Market_add 126 = oIld 7 128 := rfl
theorem e_Market_add_126 (a0 a1 a2 a3 a4 a5 a6 : Option MV) (x : Int32) : (WP Gm j_Market_add 126 (a0 :: a1 :: a2 :: a3 :: a4 :: a5 :: a6 :: some (.inl x) :: ls) (st) h Q) = (WP Gm j_Market_add 128 (a0 :: a1 :: a2 :: a3 :: a4 :: a5 :: a6 :: some (.inl x) :: ls) (.inl x :: st) (h) Q) := (WP_at c_Market_add_126 _ _ _ _)
theorem c_Market_add_128 : mCode j_Market_add 128 = oIal 0 129 := rfl
theorem e_Market_add_128 (a : Nat) (i : Int32) (hk : isK h a 100 = true) (hi : inL h a i = true) : (WP Gm j_Market_add 128 (ls) (.inl i :: .inr (.inl (some a)) :: st) h Q) = (WP Gm j_Market_add 129 (ls) (.inl (gI h a i.toNatClampNeg) :: st) (h) Q) := (WP_at c_Market_add_128 _ _ _ _).trans (congrArg (fun o => ndX Gm (WP Gm) j_Market_add 128 o Q) (if_pos (by rw [hk, hi]; rfl)))
theorem c_Market_add_129 : mCode j_Market_add 129 = oIld 5 131 := rfl
theorem e_Market_add_129 (a0 a1 a2 a3 a4 : Option MV) (x : Int32) : (WP Gm j_Market_add 129 (a0 :: a1 :: a2 :: a3 :: a4 :: some (.inl x) :: ls) (st) h Q) = (WP Gm j_Market_add 131 (a0 :: a1 :: a2 :: a3 :: a4 :: some (.inl x) :: ls) (.inl x :: st) (h) Q) := (WP_at c_Market_add_129 _ _ _ _)
theorem c_Market_add_131 : mCode j_Market_add 131 = oII (fun x y => x ||| y) 132 := rfl
theorem e_Market_add_131 (x : Int32) (y : Int32) : (WP Gm j_Market_add 131 (ls) (.inl y :: .inl x :: st) h Q) = (WP Gm j_Market_add 132 (ls) (.inl (x ||| y) :: st) (h) Q) := (WP_at c_Market_add_131 _ _ _ _)
theorem c_Market_add_132 : mCode j_Market_add 132 = oIas 0 133 := rfl
theorem e_Market_add_132 (a : Nat) (i : Int32) (x : Int32) (hk : isK h a 100 = true) (hi : inL h a i = true) (h0 : ¬ a = 0) : (WP Gm j_Market_add 132 (ls) (.inl x :: .inl i :: .inr (.inl (some a)) :: st) h Q) = (WP Gm j_Market_add 133 (ls) (st) (sI h a i.toNatClampNeg x) Q) := (WP_at c_Market_add_132 _ _ _ _).trans (congrArg (fun o => ndX Gm (WP Gm) j_Market_add 132 o Q) (if_pos (by rw [hk, hi]; simp [h0])))
theorem c_Market_add_133 : mCode j_Market_add 133 = oAld 0 134 := rfl
theorem e_Market_add_133 (x : Option Nat) : (WP Gm j_Market_add 133 (some (.inr (.inl x)) :: ls) (st) h Q) = (WP Gm j_Market_add 134 (some (.inr (.inl x)) :: ls) (.inr (.inl x) :: st) (h) Q) := (WP_at c_Market_add_133 _ _ _ _)
theorem c_Market_add_134 : mCode j_Market_add 134 = oIld 8 136 := rfl
theorem e_Market_add_134 (a0 a1 a2 a3 a4 a5 a6 a7 : Option MV) (x : Int32) : (WP Gm j_Market_add 134 (a0 :: a1 :: a2 :: a3 :: a4 :: a5 :: a6 :: a7 :: some (.inl x) :: ls) (st) h Q) = (WP Gm j_Market_add 136 (a0 :: a1 :: a2 :: a3 :: a4 :: a5 :: a6 :: a7 :: some (.inl x) :: ls) (.inl x :: st) (h) Q) := (WP_at c_Market_add_134 _ _ _ _)
theorem c_Market_add_136 : mCode j_Market_add 136 = oCallV kc_Market j_Market_weigh 1 (mL j_Market_weigh) 139 := rfl
theorem e_Market_add_136 (a : Nat) (x0 : Int32) (hk : isK h a kc_Market = true) (hc : c8 st = true) : (WP Gm j_Market_add 136 (ls) (.inl x0 :: .inr (.inl (some a)) :: st) h Q) = (WP Gm j_Market_weigh 0 [some (.inr (.inl (some a))), some (.inl x0), none] [] h (kC (fun v h2 => WP Gm j_Market_add 139 ls (v.toList ++ st) h2 Q) (fun E h2 => Q (.inr E) h2))) := (WP_at c_Market_add_136 _ _ _ _).trans (congrArg (fun o => ndX Gm (WP Gm) j_Market_add 136 o Q) (if_pos (by rw [hk, show decide (catS st ≤ 8) = true from hc]; rfl)))
theorem c_Market_add_139 : mCode j_Market_add 139 = oInc 7 1 142 := rfl
theorem e_Market_add_139 (a0 a1 a2 a3 a4 a5 a6 : Option MV) (x : Int32) : (WP Gm j_Market_add 139 (a0 :: a1 :: a2 :: a3 :: a4 :: a5 :: a6 :: some (.inl x) :: ls) (st) h Q) = (WP Gm j_Market_add 142 (lSet1 (a0 :: a1 :: a2 :: a3 :: a4 :: a5 :: a6 :: some (.inl x) :: ls) 7 (some (.inl (x + 1)))) (st) (h) Q) := (WP_at c_Market_add_139 _ _ _ _)
theorem c_Market_add_142 : mCode j_Market_add 142 = oGo 51 := rfl
theorem e_Market_add_142  : (WP Gm j_Market_add 142 (ls) (st) h Q) = (WP Gm j_Market_add 51 (ls) (st) (h) Q) := (WP_at c_Market_add_142 _ _ _ _)
theorem c_Market_add_145 : mCode j_Market_add 145 = oIld 4 147 := rfl
theorem e_Market_add_145 (a0 a1 a2 a3 : Option MV) (x : Int32) : (WP Gm j_Market_add 145 (a0 :: a1 :: a2 :: a3 :: some (.inl x) :: ls) (st) h Q) = (WP Gm j_Market_add 147 (a0 :: a1 :: a2 :: a3 :: some (.inl x) :: ls) (.inl x :: st) (h) Q) := (WP_at c_Market_add_145 _ _ _ _)
theorem c_Market_add_147 : mCode j_Market_add 147 = oRetI := rfl
theorem e_Market_add_147 (x : Int32) : (WP Gm j_Market_add 147 (ls) ([.inl x]) h Q) = (Q (.inl (some (.inl x))) h) := (WP_at c_Market_add_147 _ _ _ _)
theorem c_Market_weigh_0 : mCode j_Market_weigh 0 = oAld 0 1 := rfl
theorem e_Market_weigh_0 (x : Option Nat) : (WP Gm j_Market_weigh 0 (some (.inr (.inl x)) :: ls) (st) h Q) = (WP Gm j_Market_weigh 1 (some (.inr (.inl x)) :: ls) (.inr (.inl x) :: st) (h) Q) := (WP_at c_Market_weigh_0 _ _ _ _)
theorem c_Market_weigh_1 : mCode j_Market_weigh 1 = oGetR kc_Market 3 4 := rfl
theorem e_Market_weigh_1 (a : Nat) (hk : isK h a kc_Market = true) : (WP Gm j_Market_weigh 1 (ls) (.inr (.inl (some a)) :: st) h Q) = (WP Gm j_Market_weigh 4 (ls) (.inr (.inl (gR h a 3)) :: st) (h) Q) := (WP_at c_Market_weigh_1 _ _ _ _).trans (congrArg (fun o => ndX Gm (WP Gm) j_Market_weigh 1 o Q) (if_pos hk))
theorem c_Market_weigh_4 : mCode j_Market_weigh 4 = oIld 1 5 := rfl
theorem e_Market_weigh_4 (a0 : Option MV) (x : Int32) : (WP Gm j_Market_weigh 4 (a0 :: some (.inl x) :: ls) (st) h Q) = (WP Gm j_Market_weigh 5 (a0 :: some (.inl x) :: ls) (.inl x :: st) (h) Q) := (WP_at c_Market_weigh_4 _ _ _ _)
theorem c_Market_weigh_5 : mCode j_Market_weigh 5 = oIal 0 6 := rfl
theorem e_Market_weigh_5 (a : Nat) (i : Int32) (hk : isK h a 100 = true) (hi : inL h a i = true) : (WP Gm j_Market_weigh 5 (ls) (.inl i :: .inr (.inl (some a)) :: st) h Q) = (WP Gm j_Market_weigh 6 (ls) (.inl (gI h a i.toNatClampNeg) :: st) (h) Q) := (WP_at c_Market_weigh_5 _ _ _ _).trans (congrArg (fun o => ndX Gm (WP Gm) j_Market_weigh 5 o Q) (if_pos (by rw [hk, hi]; rfl)))
theorem c_Market_weigh_6 : mCode j_Market_weigh 6 = oAld 0 7 := rfl
theorem e_Market_weigh_6 (x : Option Nat) : (WP Gm j_Market_weigh 6 (some (.inr (.inl x)) :: ls) (st) h Q) = (WP Gm j_Market_weigh 7 (some (.inr (.inl x)) :: ls) (.inr (.inl x) :: st) (h) Q) := (WP_at c_Market_weigh_6 _ _ _ _)
theorem c_Market_weigh_7 : mCode j_Market_weigh 7 = oGetI kc_Market 7 10 := rfl
theorem e_Market_weigh_7 (a : Nat) (hk : isK h a kc_Market = true) : (WP Gm j_Market_weigh 7 (ls) (.inr (.inl (some a)) :: st) h Q) = (WP Gm j_Market_weigh 10 (ls) (.inl (gI h a 7) :: st) (h) Q) := (WP_at c_Market_weigh_7 _ _ _ _).trans (congrArg (fun o => ndX Gm (WP Gm) j_Market_weigh 7 o Q) (if_pos hk))
theorem c_Market_weigh_10 : mCode j_Market_weigh 10 = oIC (fun x y => decide (x ≤ y)) 28 13 := rfl
theorem e_Market_weigh_10 (x y : Int32) : (WP Gm j_Market_weigh 10 (ls) (.inl y :: .inl x :: st) h Q) = (if x ≤ y then WP Gm j_Market_weigh 28 (ls) (st) (h) Q else WP Gm j_Market_weigh 13 (ls) (st) (h) Q) := (WP_at c_Market_weigh_10 _ _ _ _).trans (nd_ic rfl _ _ _ _)
theorem c_Market_weigh_13 : mCode j_Market_weigh 13 = oAld 0 14 := rfl
theorem e_Market_weigh_13 (x : Option Nat) : (WP Gm j_Market_weigh 13 (some (.inr (.inl x)) :: ls) (st) h Q) = (WP Gm j_Market_weigh 14 (some (.inr (.inl x)) :: ls) (.inr (.inl x) :: st) (h) Q) := (WP_at c_Market_weigh_13 _ _ _ _)
theorem c_Market_weigh_14 : mCode j_Market_weigh 14 = oAld 0 15 := rfl
theorem e_Market_weigh_14 (x : Option Nat) : (WP Gm j_Market_weigh 14 (some (.inr (.inl x)) :: ls) (st) h Q) = (WP Gm j_Market_weigh 15 (some (.inr (.inl x)) :: ls) (.inr (.inl x) :: st) (h) Q) := (WP_at c_Market_weigh_14 _ _ _ _)
theorem c_Market_weigh_15 : mCode j_Market_weigh 15 = oGetR kc_Market 3 18 := rfl
theorem e_Market_weigh_15 (a : Nat) (hk : isK h a kc_Market = true) : (WP Gm j_Market_weigh 15 (ls) (.inr (.inl (some a)) :: st) h Q) = (WP Gm j_Market_weigh 18 (ls) (.inr (.inl (gR h a 3)) :: st) (h) Q) := (WP_at c_Market_weigh_15 _ _ _ _).trans (congrArg (fun o => ndX Gm (WP Gm) j_Market_weigh 15 o Q) (if_pos hk))
theorem c_Market_weigh_18 : mCode j_Market_weigh 18 = oIld 1 19 := rfl
theorem e_Market_weigh_18 (a0 : Option MV) (x : Int32) : (WP Gm j_Market_weigh 18 (a0 :: some (.inl x) :: ls) (st) h Q) = (WP Gm j_Market_weigh 19 (a0 :: some (.inl x) :: ls) (.inl x :: st) (h) Q) := (WP_at c_Market_weigh_18 _ _ _ _)
theorem c_Market_weigh_19 : mCode j_Market_weigh 19 = oIal 0 20 := rfl
theorem e_Market_weigh_19 (a : Nat) (i : Int32) (hk : isK h a 100 = true) (hi : inL h a i = true) : (WP Gm j_Market_weigh 19 (ls) (.inl i :: .inr (.inl (some a)) :: st) h Q) = (WP Gm j_Market_weigh 20 (ls) (.inl (gI h a i.toNatClampNeg) :: st) (h) Q) := (WP_at c_Market_weigh_19 _ _ _ _).trans (congrArg (fun o => ndX Gm (WP Gm) j_Market_weigh 19 o Q) (if_pos (by rw [hk, hi]; rfl)))
theorem c_Market_weigh_20 : mCode j_Market_weigh 20 = oPutI kc_Market 7 23 := rfl
theorem e_Market_weigh_20 (a : Nat) (x : Int32) (hk : isK h a kc_Market = true) : (WP Gm j_Market_weigh 20 (ls) (.inl x :: .inr (.inl (some a)) :: st) h Q) = (WP Gm j_Market_weigh 23 (ls) (st) (sI h a 7 x) Q) := (WP_at c_Market_weigh_20 _ _ _ _).trans (congrArg (fun o => ndX Gm (WP Gm) j_Market_weigh 20 o Q) (if_pos hk))
theorem c_Market_weigh_23 : mCode j_Market_weigh 23 = oAld 0 24 := rfl
theorem e_Market_weigh_23 (x : Option Nat) : (WP Gm j_Market_weigh 23 (some (.inr (.inl x)) :: ls) (st) h Q) = (WP Gm j_Market_weigh 24 (some (.inr (.inl x)) :: ls) (.inr (.inl x) :: st) (h) Q) := (WP_at c_Market_weigh_23 _ _ _ _)
theorem c_Market_weigh_24 : mCode j_Market_weigh 24 = oIld 1 25 := rfl
theorem e_Market_weigh_24 (a0 : Option MV) (x : Int32) : (WP Gm j_Market_weigh 24 (a0 :: some (.inl x) :: ls) (st) h Q) = (WP Gm j_Market_weigh 25 (a0 :: some (.inl x) :: ls) (.inl x :: st) (h) Q) := (WP_at c_Market_weigh_24 _ _ _ _)
theorem c_Market_weigh_25 : mCode j_Market_weigh 25 = oPutI kc_Market 6 28 := rfl
theorem e_Market_weigh_25 (a : Nat) (x : Int32) (hk : isK h a kc_Market = true) : (WP Gm j_Market_weigh 25 (ls) (.inl x :: .inr (.inl (some a)) :: st) h Q) = (WP Gm j_Market_weigh 28 (ls) (st) (sI h a 6 x) Q) := (WP_at c_Market_weigh_25 _ _ _ _).trans (congrArg (fun o => ndX Gm (WP Gm) j_Market_weigh 25 o Q) (if_pos hk))
theorem c_Market_weigh_28 : mCode j_Market_weigh 28 = oI 0 29 := rfl
theorem e_Market_weigh_28  : (WP Gm j_Market_weigh 28 (ls) (st) h Q) = (WP Gm j_Market_weigh 29 (ls) (.inl 0 :: st) (h) Q) := (WP_at c_Market_weigh_28 _ _ _ _)
theorem c_Market_weigh_29 : mCode j_Market_weigh 29 = oIst 2 30 := rfl
theorem e_Market_weigh_29 (x : Int32) : (WP Gm j_Market_weigh 29 (ls) (.inl x :: st) h Q) = (WP Gm j_Market_weigh 30 (lSet1 ls 2 (some (.inl x))) (st) (h) Q) := (WP_at c_Market_weigh_29 _ _ _ _)
theorem c_Market_weigh_30 : mCode j_Market_weigh 30 = oIld 2 31 := rfl
theorem e_Market_weigh_30 (a0 a1 : Option MV) (x : Int32) : (WP Gm j_Market_weigh 30 (a0 :: a1 :: some (.inl x) :: ls) (st) h Q) = (WP Gm j_Market_weigh 31 (a0 :: a1 :: some (.inl x) :: ls) (.inl x :: st) (h) Q) := (WP_at c_Market_weigh_30 _ _ _ _)
theorem c_Market_weigh_31 : mCode j_Market_weigh 31 = oI 5 32 := rfl
theorem e_Market_weigh_31  : (WP Gm j_Market_weigh 31 (ls) (st) h Q) = (WP Gm j_Market_weigh 32 (ls) (.inl 5 :: st) (h) Q) := (WP_at c_Market_weigh_31 _ _ _ _)
theorem c_Market_weigh_32 : mCode j_Market_weigh 32 = oIC (fun x y => decide (y ≤ x)) 84 35 := rfl
theorem e_Market_weigh_32 (x y : Int32) : (WP Gm j_Market_weigh 32 (ls) (.inl y :: .inl x :: st) h Q) = (if y ≤ x then WP Gm j_Market_weigh 84 (ls) (st) (h) Q else WP Gm j_Market_weigh 35 (ls) (st) (h) Q) := (WP_at c_Market_weigh_32 _ _ _ _).trans (nd_ic rfl _ _ _ _)
theorem c_Market_weigh_35 : mCode j_Market_weigh 35 = oAld 0 36 := rfl
theorem e_Market_weigh_35 (x : Option Nat) : (WP Gm j_Market_weigh 35 (some (.inr (.inl x)) :: ls) (st) h Q) = (WP Gm j_Market_weigh 36 (some (.inr (.inl x)) :: ls) (.inr (.inl x) :: st) (h) Q) := (WP_at c_Market_weigh_35 _ _ _ _)
theorem c_Market_weigh_36 : mCode j_Market_weigh 36 = oGetR kc_Market 2 39 := rfl
theorem e_Market_weigh_36 (a : Nat) (hk : isK h a kc_Market = true) : (WP Gm j_Market_weigh 36 (ls) (.inr (.inl (some a)) :: st) h Q) = (WP Gm j_Market_weigh 39 (ls) (.inr (.inl (gR h a 2)) :: st) (h) Q) := (WP_at c_Market_weigh_36 _ _ _ _).trans (congrArg (fun o => ndX Gm (WP Gm) j_Market_weigh 36 o Q) (if_pos hk))
theorem c_Market_weigh_39 : mCode j_Market_weigh 39 = oIld 1 40 := rfl
theorem e_Market_weigh_39 (a0 : Option MV) (x : Int32) : (WP Gm j_Market_weigh 39 (a0 :: some (.inl x) :: ls) (st) h Q) = (WP Gm j_Market_weigh 40 (a0 :: some (.inl x) :: ls) (.inl x :: st) (h) Q) := (WP_at c_Market_weigh_39 _ _ _ _)
theorem c_Market_weigh_40 : mCode j_Market_weigh 40 = oIal 0 41 := rfl
theorem e_Market_weigh_40 (a : Nat) (i : Int32) (hk : isK h a 100 = true) (hi : inL h a i = true) : (WP Gm j_Market_weigh 40 (ls) (.inl i :: .inr (.inl (some a)) :: st) h Q) = (WP Gm j_Market_weigh 41 (ls) (.inl (gI h a i.toNatClampNeg) :: st) (h) Q) := (WP_at c_Market_weigh_40 _ _ _ _).trans (congrArg (fun o => ndX Gm (WP Gm) j_Market_weigh 40 o Q) (if_pos (by rw [hk, hi]; rfl)))
theorem c_Market_weigh_41 : mCode j_Market_weigh 41 = oI 6 43 := rfl
theorem e_Market_weigh_41  : (WP Gm j_Market_weigh 41 (ls) (st) h Q) = (WP Gm j_Market_weigh 43 (ls) (.inl 6 :: st) (h) Q) := (WP_at c_Market_weigh_41 _ _ _ _)
theorem c_Market_weigh_43 : mCode j_Market_weigh 43 = oIld 2 44 := rfl
theorem e_Market_weigh_43 (a0 a1 : Option MV) (x : Int32) : (WP Gm j_Market_weigh 43 (a0 :: a1 :: some (.inl x) :: ls) (st) h Q) = (WP Gm j_Market_weigh 44 (a0 :: a1 :: some (.inl x) :: ls) (.inl x :: st) (h) Q) := (WP_at c_Market_weigh_43 _ _ _ _)
theorem c_Market_weigh_44 : mCode j_Market_weigh 44 = oII (fun x y => x + y) 45 := rfl
theorem e_Market_weigh_44 (x : Int32) (y : Int32) : (WP Gm j_Market_weigh 44 (ls) (.inl y :: .inl x :: st) h Q) = (WP Gm j_Market_weigh 45 (ls) (.inl (x + y) :: st) (h) Q) := (WP_at c_Market_weigh_44 _ _ _ _)
theorem c_Market_weigh_45 : mCode j_Market_weigh 45 = oCallS j_S_isIn 2 (mL j_S_isIn) 48 := rfl
theorem e_Market_weigh_45 (x0 : Int32) (x1 : Int32) (hc : c8 st = true) : (WP Gm j_Market_weigh 45 (ls) (.inl x1 :: .inl x0 :: st) h Q) = (WP Gm j_S_isIn 0 [some (.inl x0), some (.inl x1)] [] h (kC (fun v h2 => WP Gm j_Market_weigh 48 ls (v.toList ++ st) h2 Q) (fun E h2 => Q (.inr E) h2))) := (WP_at c_Market_weigh_45 _ _ _ _).trans (congrArg (fun o => ndX Gm (WP Gm) j_Market_weigh 45 o Q) (if_pos (by rw [show decide (catS st ≤ 8) = true from hc]; rfl)))
theorem c_Market_weigh_48 : mCode j_Market_weigh 48 = oIf (fun x => decide (¬ x = 0)) 78 51 := rfl
theorem e_Market_weigh_48 (x : Int32) : (WP Gm j_Market_weigh 48 (ls) (.inl x :: st) h Q) = (if ¬ x = 0 then WP Gm j_Market_weigh 78 (ls) (st) (h) Q else WP Gm j_Market_weigh 51 (ls) (st) (h) Q) := (WP_at c_Market_weigh_48 _ _ _ _).trans (nd_if rfl _ _ _ _)
theorem c_Market_weigh_51 : mCode j_Market_weigh 51 = oAld 0 52 := rfl
theorem e_Market_weigh_51 (x : Option Nat) : (WP Gm j_Market_weigh 51 (some (.inr (.inl x)) :: ls) (st) h Q) = (WP Gm j_Market_weigh 52 (some (.inr (.inl x)) :: ls) (.inr (.inl x) :: st) (h) Q) := (WP_at c_Market_weigh_51 _ _ _ _)
theorem c_Market_weigh_52 : mCode j_Market_weigh 52 = oGetR kc_Market 3 55 := rfl
theorem e_Market_weigh_52 (a : Nat) (hk : isK h a kc_Market = true) : (WP Gm j_Market_weigh 52 (ls) (.inr (.inl (some a)) :: st) h Q) = (WP Gm j_Market_weigh 55 (ls) (.inr (.inl (gR h a 3)) :: st) (h) Q) := (WP_at c_Market_weigh_52 _ _ _ _).trans (congrArg (fun o => ndX Gm (WP Gm) j_Market_weigh 52 o Q) (if_pos hk))
theorem c_Market_weigh_55 : mCode j_Market_weigh 55 = oIld 1 56 := rfl
theorem e_Market_weigh_55 (a0 : Option MV) (x : Int32) : (WP Gm j_Market_weigh 55 (a0 :: some (.inl x) :: ls) (st) h Q) = (WP Gm j_Market_weigh 56 (a0 :: some (.inl x) :: ls) (.inl x :: st) (h) Q) := (WP_at c_Market_weigh_55 _ _ _ _)
theorem c_Market_weigh_56 : mCode j_Market_weigh 56 = oIal 0 57 := rfl
theorem e_Market_weigh_56 (a : Nat) (i : Int32) (hk : isK h a 100 = true) (hi : inL h a i = true) : (WP Gm j_Market_weigh 56 (ls) (.inl i :: .inr (.inl (some a)) :: st) h Q) = (WP Gm j_Market_weigh 57 (ls) (.inl (gI h a i.toNatClampNeg) :: st) (h) Q) := (WP_at c_Market_weigh_56 _ _ _ _).trans (congrArg (fun o => ndX Gm (WP Gm) j_Market_weigh 56 o Q) (if_pos (by rw [hk, hi]; rfl)))
theorem c_Market_weigh_57 : mCode j_Market_weigh 57 = oAld 0 58 := rfl
theorem e_Market_weigh_57 (x : Option Nat) : (WP Gm j_Market_weigh 57 (some (.inr (.inl x)) :: ls) (st) h Q) = (WP Gm j_Market_weigh 58 (some (.inr (.inl x)) :: ls) (.inr (.inl x) :: st) (h) Q) := (WP_at c_Market_weigh_57 _ _ _ _)
theorem c_Market_weigh_58 : mCode j_Market_weigh 58 = oGetR kc_Market 4 61 := rfl
theorem e_Market_weigh_58 (a : Nat) (hk : isK h a kc_Market = true) : (WP Gm j_Market_weigh 58 (ls) (.inr (.inl (some a)) :: st) h Q) = (WP Gm j_Market_weigh 61 (ls) (.inr (.inl (gR h a 4)) :: st) (h) Q) := (WP_at c_Market_weigh_58 _ _ _ _).trans (congrArg (fun o => ndX Gm (WP Gm) j_Market_weigh 58 o Q) (if_pos hk))
theorem c_Market_weigh_61 : mCode j_Market_weigh 61 = oIld 2 62 := rfl
theorem e_Market_weigh_61 (a0 a1 : Option MV) (x : Int32) : (WP Gm j_Market_weigh 61 (a0 :: a1 :: some (.inl x) :: ls) (st) h Q) = (WP Gm j_Market_weigh 62 (a0 :: a1 :: some (.inl x) :: ls) (.inl x :: st) (h) Q) := (WP_at c_Market_weigh_61 _ _ _ _)
theorem c_Market_weigh_62 : mCode j_Market_weigh 62 = oIal 0 63 := rfl
theorem e_Market_weigh_62 (a : Nat) (i : Int32) (hk : isK h a 100 = true) (hi : inL h a i = true) : (WP Gm j_Market_weigh 62 (ls) (.inl i :: .inr (.inl (some a)) :: st) h Q) = (WP Gm j_Market_weigh 63 (ls) (.inl (gI h a i.toNatClampNeg) :: st) (h) Q) := (WP_at c_Market_weigh_62 _ _ _ _).trans (congrArg (fun o => ndX Gm (WP Gm) j_Market_weigh 62 o Q) (if_pos (by rw [hk, hi]; rfl)))
theorem c_Market_weigh_63 : mCode j_Market_weigh 63 = oIC (fun x y => decide (x ≤ y)) 78 66 := rfl
theorem e_Market_weigh_63 (x y : Int32) : (WP Gm j_Market_weigh 63 (ls) (.inl y :: .inl x :: st) h Q) = (if x ≤ y then WP Gm j_Market_weigh 78 (ls) (st) (h) Q else WP Gm j_Market_weigh 66 (ls) (st) (h) Q) := (WP_at c_Market_weigh_63 _ _ _ _).trans (nd_ic rfl _ _ _ _)
theorem c_Market_weigh_66 : mCode j_Market_weigh 66 = oAld 0 67 := rfl
theorem e_Market_weigh_66 (x : Option Nat) : (WP Gm j_Market_weigh 66 (some (.inr (.inl x)) :: ls) (st) h Q) = (WP Gm j_Market_weigh 67 (some (.inr (.inl x)) :: ls) (.inr (.inl x) :: st) (h) Q) := (WP_at c_Market_weigh_66 _ _ _ _)
theorem c_Market_weigh_67 : mCode j_Market_weigh 67 = oGetR kc_Market 4 70 := rfl
theorem e_Market_weigh_67 (a : Nat) (hk : isK h a kc_Market = true) : (WP Gm j_Market_weigh 67 (ls) (.inr (.inl (some a)) :: st) h Q) = (WP Gm j_Market_weigh 70 (ls) (.inr (.inl (gR h a 4)) :: st) (h) Q) := (WP_at c_Market_weigh_67 _ _ _ _).trans (congrArg (fun o => ndX Gm (WP Gm) j_Market_weigh 67 o Q) (if_pos hk))
theorem c_Market_weigh_70 : mCode j_Market_weigh 70 = oIld 2 71 := rfl
theorem e_Market_weigh_70 (a0 a1 : Option MV) (x : Int32) : (WP Gm j_Market_weigh 70 (a0 :: a1 :: some (.inl x) :: ls) (st) h Q) = (WP Gm j_Market_weigh 71 (a0 :: a1 :: some (.inl x) :: ls) (.inl x :: st) (h) Q) := (WP_at c_Market_weigh_70 _ _ _ _)
theorem c_Market_weigh_71 : mCode j_Market_weigh 71 = oAld 0 72 := rfl
theorem e_Market_weigh_71 (x : Option Nat) : (WP Gm j_Market_weigh 71 (some (.inr (.inl x)) :: ls) (st) h Q) = (WP Gm j_Market_weigh 72 (some (.inr (.inl x)) :: ls) (.inr (.inl x) :: st) (h) Q) := (WP_at c_Market_weigh_71 _ _ _ _)
theorem c_Market_weigh_72 : mCode j_Market_weigh 72 = oGetR kc_Market 3 75 := rfl
theorem e_Market_weigh_72 (a : Nat) (hk : isK h a kc_Market = true) : (WP Gm j_Market_weigh 72 (ls) (.inr (.inl (some a)) :: st) h Q) = (WP Gm j_Market_weigh 75 (ls) (.inr (.inl (gR h a 3)) :: st) (h) Q) := (WP_at c_Market_weigh_72 _ _ _ _).trans (congrArg (fun o => ndX Gm (WP Gm) j_Market_weigh 72 o Q) (if_pos hk))
theorem c_Market_weigh_75 : mCode j_Market_weigh 75 = oIld 1 76 := rfl
theorem e_Market_weigh_75 (a0 : Option MV) (x : Int32) : (WP Gm j_Market_weigh 75 (a0 :: some (.inl x) :: ls) (st) h Q) = (WP Gm j_Market_weigh 76 (a0 :: some (.inl x) :: ls) (.inl x :: st) (h) Q) := (WP_at c_Market_weigh_75 _ _ _ _)
theorem c_Market_weigh_76 : mCode j_Market_weigh 76 = oIal 0 77 := rfl
theorem e_Market_weigh_76 (a : Nat) (i : Int32) (hk : isK h a 100 = true) (hi : inL h a i = true) : (WP Gm j_Market_weigh 76 (ls) (.inl i :: .inr (.inl (some a)) :: st) h Q) = (WP Gm j_Market_weigh 77 (ls) (.inl (gI h a i.toNatClampNeg) :: st) (h) Q) := (WP_at c_Market_weigh_76 _ _ _ _).trans (congrArg (fun o => ndX Gm (WP Gm) j_Market_weigh 76 o Q) (if_pos (by rw [hk, hi]; rfl)))
theorem c_Market_weigh_77 : mCode j_Market_weigh 77 = oIas 0 78 := rfl
theorem e_Market_weigh_77 (a : Nat) (i : Int32) (x : Int32) (hk : isK h a 100 = true) (hi : inL h a i = true) (h0 : ¬ a = 0) : (WP Gm j_Market_weigh 77 (ls) (.inl x :: .inl i :: .inr (.inl (some a)) :: st) h Q) = (WP Gm j_Market_weigh 78 (ls) (st) (sI h a i.toNatClampNeg x) Q) := (WP_at c_Market_weigh_77 _ _ _ _).trans (congrArg (fun o => ndX Gm (WP Gm) j_Market_weigh 77 o Q) (if_pos (by rw [hk, hi]; simp [h0])))
theorem c_Market_weigh_78 : mCode j_Market_weigh 78 = oInc 2 1 81 := rfl
theorem e_Market_weigh_78 (a0 a1 : Option MV) (x : Int32) : (WP Gm j_Market_weigh 78 (a0 :: a1 :: some (.inl x) :: ls) (st) h Q) = (WP Gm j_Market_weigh 81 (lSet1 (a0 :: a1 :: some (.inl x) :: ls) 2 (some (.inl (x + 1)))) (st) (h) Q) := (WP_at c_Market_weigh_78 _ _ _ _)
theorem c_Market_weigh_81 : mCode j_Market_weigh 81 = oGo 30 := rfl
theorem e_Market_weigh_81  : (WP Gm j_Market_weigh 81 (ls) (st) h Q) = (WP Gm j_Market_weigh 30 (ls) (st) (h) Q) := (WP_at c_Market_weigh_81 _ _ _ _)
theorem c_Market_weigh_84 : mCode j_Market_weigh 84 = oRet := rfl
theorem e_Market_weigh_84  : (WP Gm j_Market_weigh 84 (ls) ([]) h Q) = (Q (.inl none) h) := (WP_at c_Market_weigh_84 _ _ _ _)
theorem c_Market_winningPrice_0 : mCode j_Market_winningPrice 0 = oI 0 1 := rfl
theorem e_Market_winningPrice_0  : (WP Gm j_Market_winningPrice 0 (ls) (st) h Q) = (WP Gm j_Market_winningPrice 1 (ls) (.inl 0 :: st) (h) Q) := (WP_at c_Market_winningPrice_0 _ _ _ _)
theorem c_Market_winningPrice_1 : mCode j_Market_winningPrice 1 = oIst 2 2 := rfl
theorem e_Market_winningPrice_1 (x : Int32) : (WP Gm j_Market_winningPrice 1 (ls) (.inl x :: st) h Q) = (WP Gm j_Market_winningPrice 2 (lSet1 ls 2 (some (.inl x))) (st) (h) Q) := (WP_at c_Market_winningPrice_1 _ _ _ _)
theorem c_Market_winningPrice_2 : mCode j_Market_winningPrice 2 = oIld 2 3 := rfl
theorem e_Market_winningPrice_2 (a0 a1 : Option MV) (x : Int32) : (WP Gm j_Market_winningPrice 2 (a0 :: a1 :: some (.inl x) :: ls) (st) h Q) = (WP Gm j_Market_winningPrice 3 (a0 :: a1 :: some (.inl x) :: ls) (.inl x :: st) (h) Q) := (WP_at c_Market_winningPrice_2 _ _ _ _)
theorem c_Market_winningPrice_3 : mCode j_Market_winningPrice 3 = oAld 0 4 := rfl
theorem e_Market_winningPrice_3 (x : Option Nat) : (WP Gm j_Market_winningPrice 3 (some (.inr (.inl x)) :: ls) (st) h Q) = (WP Gm j_Market_winningPrice 4 (some (.inr (.inl x)) :: ls) (.inr (.inl x) :: st) (h) Q) := (WP_at c_Market_winningPrice_3 _ _ _ _)
theorem c_Market_winningPrice_4 : mCode j_Market_winningPrice 4 = oGetI kc_Market 5 7 := rfl
theorem e_Market_winningPrice_4 (a : Nat) (hk : isK h a kc_Market = true) : (WP Gm j_Market_winningPrice 4 (ls) (.inr (.inl (some a)) :: st) h Q) = (WP Gm j_Market_winningPrice 7 (ls) (.inl (gI h a 5) :: st) (h) Q) := (WP_at c_Market_winningPrice_4 _ _ _ _).trans (congrArg (fun o => ndX Gm (WP Gm) j_Market_winningPrice 4 o Q) (if_pos hk))
theorem c_Market_winningPrice_7 : mCode j_Market_winningPrice 7 = oIC (fun x y => decide (y ≤ x)) 44 10 := rfl
theorem e_Market_winningPrice_7 (x y : Int32) : (WP Gm j_Market_winningPrice 7 (ls) (.inl y :: .inl x :: st) h Q) = (if y ≤ x then WP Gm j_Market_winningPrice 44 (ls) (st) (h) Q else WP Gm j_Market_winningPrice 10 (ls) (st) (h) Q) := (WP_at c_Market_winningPrice_7 _ _ _ _).trans (nd_ic rfl _ _ _ _)
theorem c_Market_winningPrice_10 : mCode j_Market_winningPrice 10 = oAld 0 11 := rfl
theorem e_Market_winningPrice_10 (x : Option Nat) : (WP Gm j_Market_winningPrice 10 (some (.inr (.inl x)) :: ls) (st) h Q) = (WP Gm j_Market_winningPrice 11 (some (.inr (.inl x)) :: ls) (.inr (.inl x) :: st) (h) Q) := (WP_at c_Market_winningPrice_10 _ _ _ _)
theorem c_Market_winningPrice_11 : mCode j_Market_winningPrice 11 = oGetI kc_Market 6 14 := rfl
theorem e_Market_winningPrice_11 (a : Nat) (hk : isK h a kc_Market = true) : (WP Gm j_Market_winningPrice 11 (ls) (.inr (.inl (some a)) :: st) h Q) = (WP Gm j_Market_winningPrice 14 (ls) (.inl (gI h a 6) :: st) (h) Q) := (WP_at c_Market_winningPrice_11 _ _ _ _).trans (congrArg (fun o => ndX Gm (WP Gm) j_Market_winningPrice 11 o Q) (if_pos hk))
theorem c_Market_winningPrice_14 : mCode j_Market_winningPrice 14 = oIld 2 15 := rfl
theorem e_Market_winningPrice_14 (a0 a1 : Option MV) (x : Int32) : (WP Gm j_Market_winningPrice 14 (a0 :: a1 :: some (.inl x) :: ls) (st) h Q) = (WP Gm j_Market_winningPrice 15 (a0 :: a1 :: some (.inl x) :: ls) (.inl x :: st) (h) Q) := (WP_at c_Market_winningPrice_14 _ _ _ _)
theorem c_Market_winningPrice_15 : mCode j_Market_winningPrice 15 = oCallS j_S_isIn 2 (mL j_S_isIn) 18 := rfl
theorem e_Market_winningPrice_15 (x0 : Int32) (x1 : Int32) (hc : c8 st = true) : (WP Gm j_Market_winningPrice 15 (ls) (.inl x1 :: .inl x0 :: st) h Q) = (WP Gm j_S_isIn 0 [some (.inl x0), some (.inl x1)] [] h (kC (fun v h2 => WP Gm j_Market_winningPrice 18 ls (v.toList ++ st) h2 Q) (fun E h2 => Q (.inr E) h2))) := (WP_at c_Market_winningPrice_15 _ _ _ _).trans (congrArg (fun o => ndX Gm (WP Gm) j_Market_winningPrice 15 o Q) (if_pos (by rw [show decide (catS st ≤ 8) = true from hc]; rfl)))
theorem c_Market_winningPrice_18 : mCode j_Market_winningPrice 18 = oIf (fun x => decide (x = 0)) 38 21 := rfl
theorem e_Market_winningPrice_18 (x : Int32) : (WP Gm j_Market_winningPrice 18 (ls) (.inl x :: st) h Q) = (if x = 0 then WP Gm j_Market_winningPrice 38 (ls) (st) (h) Q else WP Gm j_Market_winningPrice 21 (ls) (st) (h) Q) := (WP_at c_Market_winningPrice_18 _ _ _ _).trans (nd_if rfl _ _ _ _)
theorem c_Market_winningPrice_21 : mCode j_Market_winningPrice 21 = oAld 0 22 := rfl
theorem e_Market_winningPrice_21 (x : Option Nat) : (WP Gm j_Market_winningPrice 21 (some (.inr (.inl x)) :: ls) (st) h Q) = (WP Gm j_Market_winningPrice 22 (some (.inr (.inl x)) :: ls) (.inr (.inl x) :: st) (h) Q) := (WP_at c_Market_winningPrice_21 _ _ _ _)
theorem c_Market_winningPrice_22 : mCode j_Market_winningPrice 22 = oGetR kc_Market 0 25 := rfl
theorem e_Market_winningPrice_22 (a : Nat) (hk : isK h a kc_Market = true) : (WP Gm j_Market_winningPrice 22 (ls) (.inr (.inl (some a)) :: st) h Q) = (WP Gm j_Market_winningPrice 25 (ls) (.inr (.inl (gR h a 0)) :: st) (h) Q) := (WP_at c_Market_winningPrice_22 _ _ _ _).trans (congrArg (fun o => ndX Gm (WP Gm) j_Market_winningPrice 22 o Q) (if_pos hk))
theorem c_Market_winningPrice_25 : mCode j_Market_winningPrice 25 = oIld 2 26 := rfl
theorem e_Market_winningPrice_25 (a0 a1 : Option MV) (x : Int32) : (WP Gm j_Market_winningPrice 25 (a0 :: a1 :: some (.inl x) :: ls) (st) h Q) = (WP Gm j_Market_winningPrice 26 (a0 :: a1 :: some (.inl x) :: ls) (.inl x :: st) (h) Q) := (WP_at c_Market_winningPrice_25 _ _ _ _)
theorem c_Market_winningPrice_26 : mCode j_Market_winningPrice 26 = oIal 0 27 := rfl
theorem e_Market_winningPrice_26 (a : Nat) (i : Int32) (hk : isK h a 100 = true) (hi : inL h a i = true) : (WP Gm j_Market_winningPrice 26 (ls) (.inl i :: .inr (.inl (some a)) :: st) h Q) = (WP Gm j_Market_winningPrice 27 (ls) (.inl (gI h a i.toNatClampNeg) :: st) (h) Q) := (WP_at c_Market_winningPrice_26 _ _ _ _).trans (congrArg (fun o => ndX Gm (WP Gm) j_Market_winningPrice 26 o Q) (if_pos (by rw [hk, hi]; rfl)))
theorem c_Market_winningPrice_27 : mCode j_Market_winningPrice 27 = oIld 1 28 := rfl
theorem e_Market_winningPrice_27 (a0 : Option MV) (x : Int32) : (WP Gm j_Market_winningPrice 27 (a0 :: some (.inl x) :: ls) (st) h Q) = (WP Gm j_Market_winningPrice 28 (a0 :: some (.inl x) :: ls) (.inl x :: st) (h) Q) := (WP_at c_Market_winningPrice_27 _ _ _ _)
theorem c_Market_winningPrice_28 : mCode j_Market_winningPrice 28 = oIC (fun x y => decide (¬ x = y)) 38 31 := rfl
theorem e_Market_winningPrice_28 (x y : Int32) : (WP Gm j_Market_winningPrice 28 (ls) (.inl y :: .inl x :: st) h Q) = (if ¬ x = y then WP Gm j_Market_winningPrice 38 (ls) (st) (h) Q else WP Gm j_Market_winningPrice 31 (ls) (st) (h) Q) := (WP_at c_Market_winningPrice_28 _ _ _ _).trans (nd_ic rfl _ _ _ _)
theorem c_Market_winningPrice_31 : mCode j_Market_winningPrice 31 = oAld 0 32 := rfl
theorem e_Market_winningPrice_31 (x : Option Nat) : (WP Gm j_Market_winningPrice 31 (some (.inr (.inl x)) :: ls) (st) h Q) = (WP Gm j_Market_winningPrice 32 (some (.inr (.inl x)) :: ls) (.inr (.inl x) :: st) (h) Q) := (WP_at c_Market_winningPrice_31 _ _ _ _)
theorem c_Market_winningPrice_32 : mCode j_Market_winningPrice 32 = oGetR kc_Market 1 35 := rfl
theorem e_Market_winningPrice_32 (a : Nat) (hk : isK h a kc_Market = true) : (WP Gm j_Market_winningPrice 32 (ls) (.inr (.inl (some a)) :: st) h Q) = (WP Gm j_Market_winningPrice 35 (ls) (.inr (.inl (gR h a 1)) :: st) (h) Q) := (WP_at c_Market_winningPrice_32 _ _ _ _).trans (congrArg (fun o => ndX Gm (WP Gm) j_Market_winningPrice 32 o Q) (if_pos hk))
theorem c_Market_winningPrice_35 : mCode j_Market_winningPrice 35 = oIld 2 36 := rfl
theorem e_Market_winningPrice_35 (a0 a1 : Option MV) (x : Int32) : (WP Gm j_Market_winningPrice 35 (a0 :: a1 :: some (.inl x) :: ls) (st) h Q) = (WP Gm j_Market_winningPrice 36 (a0 :: a1 :: some (.inl x) :: ls) (.inl x :: st) (h) Q) := (WP_at c_Market_winningPrice_35 _ _ _ _)
theorem c_Market_winningPrice_36 : mCode j_Market_winningPrice 36 = oIal 0 37 := rfl
theorem e_Market_winningPrice_36 (a : Nat) (i : Int32) (hk : isK h a 100 = true) (hi : inL h a i = true) : (WP Gm j_Market_winningPrice 36 (ls) (.inl i :: .inr (.inl (some a)) :: st) h Q) = (WP Gm j_Market_winningPrice 37 (ls) (.inl (gI h a i.toNatClampNeg) :: st) (h) Q) := (WP_at c_Market_winningPrice_36 _ _ _ _).trans (congrArg (fun o => ndX Gm (WP Gm) j_Market_winningPrice 36 o Q) (if_pos (by rw [hk, hi]; rfl)))
theorem c_Market_winningPrice_37 : mCode j_Market_winningPrice 37 = oRetI := rfl
theorem e_Market_winningPrice_37 (x : Int32) : (WP Gm j_Market_winningPrice 37 (ls) ([.inl x]) h Q) = (Q (.inl (some (.inl x))) h) := (WP_at c_Market_winningPrice_37 _ _ _ _)
theorem c_Market_winningPrice_38 : mCode j_Market_winningPrice 38 = oInc 2 1 41 := rfl
theorem e_Market_winningPrice_38 (a0 a1 : Option MV) (x : Int32) : (WP Gm j_Market_winningPrice 38 (a0 :: a1 :: some (.inl x) :: ls) (st) h Q) = (WP Gm j_Market_winningPrice 41 (lSet1 (a0 :: a1 :: some (.inl x) :: ls) 2 (some (.inl (x + 1)))) (st) (h) Q) := (WP_at c_Market_winningPrice_38 _ _ _ _)
theorem c_Market_winningPrice_41 : mCode j_Market_winningPrice 41 = oGo 2 := rfl
theorem e_Market_winningPrice_41  : (WP Gm j_Market_winningPrice 41 (ls) (st) h Q) = (WP Gm j_Market_winningPrice 2 (ls) (st) (h) Q) := (WP_at c_Market_winningPrice_41 _ _ _ _)
theorem c_Market_winningPrice_44 : mCode j_Market_winningPrice 44 = oI 0 45 := rfl
theorem e_Market_winningPrice_44  : (WP Gm j_Market_winningPrice 44 (ls) (st) h Q) = (WP Gm j_Market_winningPrice 45 (ls) (.inl 0 :: st) (h) Q) := (WP_at c_Market_winningPrice_44 _ _ _ _)
theorem c_Market_winningPrice_45 : mCode j_Market_winningPrice 45 = oRetI := rfl
theorem e_Market_winningPrice_45 (x : Int32) : (WP Gm j_Market_winningPrice 45 (ls) ([.inl x]) h Q) = (Q (.inl (some (.inl x))) h) := (WP_at c_Market_winningPrice_45 _ _ _ _)
theorem c_Market_paidBy_0 : mCode j_Market_paidBy 0 = oAld 0 1 := rfl
theorem e_Market_paidBy_0 (x : Option Nat) : (WP Gm j_Market_paidBy 0 (some (.inr (.inl x)) :: ls) (st) h Q) = (WP Gm j_Market_paidBy 1 (some (.inr (.inl x)) :: ls) (.inr (.inl x) :: st) (h) Q) := (WP_at c_Market_paidBy_0 _ _ _ _)
theorem c_Market_paidBy_1 : mCode j_Market_paidBy 1 = oIld 1 2 := rfl
theorem e_Market_paidBy_1 (a0 : Option MV) (x : Int32) : (WP Gm j_Market_paidBy 1 (a0 :: some (.inl x) :: ls) (st) h Q) = (WP Gm j_Market_paidBy 2 (a0 :: some (.inl x) :: ls) (.inl x :: st) (h) Q) := (WP_at c_Market_paidBy_1 _ _ _ _)
theorem c_Market_paidBy_2 : mCode j_Market_paidBy 2 = oCallV kc_Market j_Market_winningPrice 1 (mL j_Market_winningPrice) 5 := rfl
theorem e_Market_paidBy_2 (a : Nat) (x0 : Int32) (hk : isK h a kc_Market = true) (hc : c8 st = true) : (WP Gm j_Market_paidBy 2 (ls) (.inl x0 :: .inr (.inl (some a)) :: st) h Q) = (WP Gm j_Market_winningPrice 0 [some (.inr (.inl (some a))), some (.inl x0), none] [] h (kC (fun v h2 => WP Gm j_Market_paidBy 5 ls (v.toList ++ st) h2 Q) (fun E h2 => Q (.inr E) h2))) := (WP_at c_Market_paidBy_2 _ _ _ _).trans (congrArg (fun o => ndX Gm (WP Gm) j_Market_paidBy 2 o Q) (if_pos (by rw [hk, show decide (catS st ≤ 8) = true from hc]; rfl)))
theorem c_Market_paidBy_5 : mCode j_Market_paidBy 5 = oIst 2 6 := rfl
theorem e_Market_paidBy_5 (x : Int32) : (WP Gm j_Market_paidBy 5 (ls) (.inl x :: st) h Q) = (WP Gm j_Market_paidBy 6 (lSet1 ls 2 (some (.inl x))) (st) (h) Q) := (WP_at c_Market_paidBy_5 _ _ _ _)
theorem c_Market_paidBy_6 : mCode j_Market_paidBy 6 = oIld 2 7 := rfl
theorem e_Market_paidBy_6 (a0 a1 : Option MV) (x : Int32) : (WP Gm j_Market_paidBy 6 (a0 :: a1 :: some (.inl x) :: ls) (st) h Q) = (WP Gm j_Market_paidBy 7 (a0 :: a1 :: some (.inl x) :: ls) (.inl x :: st) (h) Q) := (WP_at c_Market_paidBy_6 _ _ _ _)
theorem c_Market_paidBy_7 : mCode j_Market_paidBy 7 = oIf (fun x => decide (¬ x = 0)) 14 10 := rfl
theorem e_Market_paidBy_7 (x : Int32) : (WP Gm j_Market_paidBy 7 (ls) (.inl x :: st) h Q) = (if ¬ x = 0 then WP Gm j_Market_paidBy 14 (ls) (st) (h) Q else WP Gm j_Market_paidBy 10 (ls) (st) (h) Q) := (WP_at c_Market_paidBy_7 _ _ _ _).trans (nd_if rfl _ _ _ _)
theorem c_Market_paidBy_10 : mCode j_Market_paidBy 10 = oI 0 11 := rfl
theorem e_Market_paidBy_10  : (WP Gm j_Market_paidBy 10 (ls) (st) h Q) = (WP Gm j_Market_paidBy 11 (ls) (.inl 0 :: st) (h) Q) := (WP_at c_Market_paidBy_10 _ _ _ _)
theorem c_Market_paidBy_11 : mCode j_Market_paidBy 11 = oGo 27 := rfl
theorem e_Market_paidBy_11  : (WP Gm j_Market_paidBy 11 (ls) (st) h Q) = (WP Gm j_Market_paidBy 27 (ls) (st) (h) Q) := (WP_at c_Market_paidBy_11 _ _ _ _)
theorem c_Market_paidBy_14 : mCode j_Market_paidBy 14 = oAld 0 15 := rfl
theorem e_Market_paidBy_14 (x : Option Nat) : (WP Gm j_Market_paidBy 14 (some (.inr (.inl x)) :: ls) (st) h Q) = (WP Gm j_Market_paidBy 15 (some (.inr (.inl x)) :: ls) (.inr (.inl x) :: st) (h) Q) := (WP_at c_Market_paidBy_14 _ _ _ _)
theorem c_Market_paidBy_15 : mCode j_Market_paidBy 15 = oGetR kc_Market 4 18 := rfl
theorem e_Market_paidBy_15 (a : Nat) (hk : isK h a kc_Market = true) : (WP Gm j_Market_paidBy 15 (ls) (.inr (.inl (some a)) :: st) h Q) = (WP Gm j_Market_paidBy 18 (ls) (.inr (.inl (gR h a 4)) :: st) (h) Q) := (WP_at c_Market_paidBy_15 _ _ _ _).trans (congrArg (fun o => ndX Gm (WP Gm) j_Market_paidBy 15 o Q) (if_pos hk))
theorem c_Market_paidBy_18 : mCode j_Market_paidBy 18 = oIld 1 19 := rfl
theorem e_Market_paidBy_18 (a0 : Option MV) (x : Int32) : (WP Gm j_Market_paidBy 18 (a0 :: some (.inl x) :: ls) (st) h Q) = (WP Gm j_Market_paidBy 19 (a0 :: some (.inl x) :: ls) (.inl x :: st) (h) Q) := (WP_at c_Market_paidBy_18 _ _ _ _)
theorem c_Market_paidBy_19 : mCode j_Market_paidBy 19 = oIal 0 20 := rfl
theorem e_Market_paidBy_19 (a : Nat) (i : Int32) (hk : isK h a 100 = true) (hi : inL h a i = true) : (WP Gm j_Market_paidBy 19 (ls) (.inl i :: .inr (.inl (some a)) :: st) h Q) = (WP Gm j_Market_paidBy 20 (ls) (.inl (gI h a i.toNatClampNeg) :: st) (h) Q) := (WP_at c_Market_paidBy_19 _ _ _ _).trans (congrArg (fun o => ndX Gm (WP Gm) j_Market_paidBy 19 o Q) (if_pos (by rw [hk, hi]; rfl)))
theorem c_Market_paidBy_20 : mCode j_Market_paidBy 20 = oAld 0 21 := rfl
theorem e_Market_paidBy_20 (x : Option Nat) : (WP Gm j_Market_paidBy 20 (some (.inr (.inl x)) :: ls) (st) h Q) = (WP Gm j_Market_paidBy 21 (some (.inr (.inl x)) :: ls) (.inr (.inl x) :: st) (h) Q) := (WP_at c_Market_paidBy_20 _ _ _ _)
theorem c_Market_paidBy_21 : mCode j_Market_paidBy 21 = oGetI kc_Market 7 24 := rfl
theorem e_Market_paidBy_21 (a : Nat) (hk : isK h a kc_Market = true) : (WP Gm j_Market_paidBy 21 (ls) (.inr (.inl (some a)) :: st) h Q) = (WP Gm j_Market_paidBy 24 (ls) (.inl (gI h a 7) :: st) (h) Q) := (WP_at c_Market_paidBy_21 _ _ _ _).trans (congrArg (fun o => ndX Gm (WP Gm) j_Market_paidBy 21 o Q) (if_pos hk))
theorem c_Market_paidBy_24 : mCode j_Market_paidBy 24 = oIld 2 25 := rfl
theorem e_Market_paidBy_24 (a0 a1 : Option MV) (x : Int32) : (WP Gm j_Market_paidBy 24 (a0 :: a1 :: some (.inl x) :: ls) (st) h Q) = (WP Gm j_Market_paidBy 25 (a0 :: a1 :: some (.inl x) :: ls) (.inl x :: st) (h) Q) := (WP_at c_Market_paidBy_24 _ _ _ _)
theorem c_Market_paidBy_25 : mCode j_Market_paidBy 25 = oII (fun x y => x - y) 26 := rfl
theorem e_Market_paidBy_25 (x : Int32) (y : Int32) : (WP Gm j_Market_paidBy 25 (ls) (.inl y :: .inl x :: st) h Q) = (WP Gm j_Market_paidBy 26 (ls) (.inl (x - y) :: st) (h) Q) := (WP_at c_Market_paidBy_25 _ _ _ _)
theorem c_Market_paidBy_26 : mCode j_Market_paidBy 26 = oII (fun x y => x - y) 27 := rfl
theorem e_Market_paidBy_26 (x : Int32) (y : Int32) : (WP Gm j_Market_paidBy 26 (ls) (.inl y :: .inl x :: st) h Q) = (WP Gm j_Market_paidBy 27 (ls) (.inl (x - y) :: st) (h) Q) := (WP_at c_Market_paidBy_26 _ _ _ _)
theorem c_Market_paidBy_27 : mCode j_Market_paidBy 27 = oRetI := rfl
theorem e_Market_paidBy_27 (x : Int32) : (WP Gm j_Market_paidBy 27 (ls) ([.inl x]) h Q) = (Q (.inl (some (.inl x))) h) := (WP_at c_Market_paidBy_27 _ _ _ _)
theorem c_Market_nobodyOverpays_0 : mCode j_Market_nobodyOverpays 0 = oI 0 1 := rfl
theorem e_Market_nobodyOverpays_0  : (WP Gm j_Market_nobodyOverpays 0 (ls) (st) h Q) = (WP Gm j_Market_nobodyOverpays 1 (ls) (.inl 0 :: st) (h) Q) := (WP_at c_Market_nobodyOverpays_0 _ _ _ _)
theorem c_Market_nobodyOverpays_1 : mCode j_Market_nobodyOverpays 1 = oIst 1 2 := rfl
theorem e_Market_nobodyOverpays_1 (x : Int32) : (WP Gm j_Market_nobodyOverpays 1 (ls) (.inl x :: st) h Q) = (WP Gm j_Market_nobodyOverpays 2 (lSet1 ls 1 (some (.inl x))) (st) (h) Q) := (WP_at c_Market_nobodyOverpays_1 _ _ _ _)
theorem c_Market_nobodyOverpays_2 : mCode j_Market_nobodyOverpays 2 = oIld 1 3 := rfl
theorem e_Market_nobodyOverpays_2 (a0 : Option MV) (x : Int32) : (WP Gm j_Market_nobodyOverpays 2 (a0 :: some (.inl x) :: ls) (st) h Q) = (WP Gm j_Market_nobodyOverpays 3 (a0 :: some (.inl x) :: ls) (.inl x :: st) (h) Q) := (WP_at c_Market_nobodyOverpays_2 _ _ _ _)
theorem c_Market_nobodyOverpays_3 : mCode j_Market_nobodyOverpays 3 = oI 5 4 := rfl
theorem e_Market_nobodyOverpays_3  : (WP Gm j_Market_nobodyOverpays 3 (ls) (st) h Q) = (WP Gm j_Market_nobodyOverpays 4 (ls) (.inl 5 :: st) (h) Q) := (WP_at c_Market_nobodyOverpays_3 _ _ _ _)
theorem c_Market_nobodyOverpays_4 : mCode j_Market_nobodyOverpays 4 = oIC (fun x y => decide (y ≤ x)) 28 7 := rfl
theorem e_Market_nobodyOverpays_4 (x y : Int32) : (WP Gm j_Market_nobodyOverpays 4 (ls) (.inl y :: .inl x :: st) h Q) = (if y ≤ x then WP Gm j_Market_nobodyOverpays 28 (ls) (st) (h) Q else WP Gm j_Market_nobodyOverpays 7 (ls) (st) (h) Q) := (WP_at c_Market_nobodyOverpays_4 _ _ _ _).trans (nd_ic rfl _ _ _ _)
theorem c_Market_nobodyOverpays_7 : mCode j_Market_nobodyOverpays 7 = oAld 0 8 := rfl
theorem e_Market_nobodyOverpays_7 (x : Option Nat) : (WP Gm j_Market_nobodyOverpays 7 (some (.inr (.inl x)) :: ls) (st) h Q) = (WP Gm j_Market_nobodyOverpays 8 (some (.inr (.inl x)) :: ls) (.inr (.inl x) :: st) (h) Q) := (WP_at c_Market_nobodyOverpays_7 _ _ _ _)
theorem c_Market_nobodyOverpays_8 : mCode j_Market_nobodyOverpays 8 = oIld 1 9 := rfl
theorem e_Market_nobodyOverpays_8 (a0 : Option MV) (x : Int32) : (WP Gm j_Market_nobodyOverpays 8 (a0 :: some (.inl x) :: ls) (st) h Q) = (WP Gm j_Market_nobodyOverpays 9 (a0 :: some (.inl x) :: ls) (.inl x :: st) (h) Q) := (WP_at c_Market_nobodyOverpays_8 _ _ _ _)
theorem c_Market_nobodyOverpays_9 : mCode j_Market_nobodyOverpays 9 = oCallV kc_Market j_Market_paidBy 1 (mL j_Market_paidBy) 12 := rfl
theorem e_Market_nobodyOverpays_9 (a : Nat) (x0 : Int32) (hk : isK h a kc_Market = true) (hc : c8 st = true) : (WP Gm j_Market_nobodyOverpays 9 (ls) (.inl x0 :: .inr (.inl (some a)) :: st) h Q) = (WP Gm j_Market_paidBy 0 [some (.inr (.inl (some a))), some (.inl x0), none] [] h (kC (fun v h2 => WP Gm j_Market_nobodyOverpays 12 ls (v.toList ++ st) h2 Q) (fun E h2 => Q (.inr E) h2))) := (WP_at c_Market_nobodyOverpays_9 _ _ _ _).trans (congrArg (fun o => ndX Gm (WP Gm) j_Market_nobodyOverpays 9 o Q) (if_pos (by rw [hk, show decide (catS st ≤ 8) = true from hc]; rfl)))
theorem c_Market_nobodyOverpays_12 : mCode j_Market_nobodyOverpays 12 = oAld 0 13 := rfl
theorem e_Market_nobodyOverpays_12 (x : Option Nat) : (WP Gm j_Market_nobodyOverpays 12 (some (.inr (.inl x)) :: ls) (st) h Q) = (WP Gm j_Market_nobodyOverpays 13 (some (.inr (.inl x)) :: ls) (.inr (.inl x) :: st) (h) Q) := (WP_at c_Market_nobodyOverpays_12 _ _ _ _)
theorem c_Market_nobodyOverpays_13 : mCode j_Market_nobodyOverpays 13 = oIld 1 14 := rfl
theorem e_Market_nobodyOverpays_13 (a0 : Option MV) (x : Int32) : (WP Gm j_Market_nobodyOverpays 13 (a0 :: some (.inl x) :: ls) (st) h Q) = (WP Gm j_Market_nobodyOverpays 14 (a0 :: some (.inl x) :: ls) (.inl x :: st) (h) Q) := (WP_at c_Market_nobodyOverpays_13 _ _ _ _)
theorem c_Market_nobodyOverpays_14 : mCode j_Market_nobodyOverpays 14 = oCallV kc_Market j_Market_winningPrice 1 (mL j_Market_winningPrice) 17 := rfl
theorem e_Market_nobodyOverpays_14 (a : Nat) (x0 : Int32) (hk : isK h a kc_Market = true) (hc : c8 st = true) : (WP Gm j_Market_nobodyOverpays 14 (ls) (.inl x0 :: .inr (.inl (some a)) :: st) h Q) = (WP Gm j_Market_winningPrice 0 [some (.inr (.inl (some a))), some (.inl x0), none] [] h (kC (fun v h2 => WP Gm j_Market_nobodyOverpays 17 ls (v.toList ++ st) h2 Q) (fun E h2 => Q (.inr E) h2))) := (WP_at c_Market_nobodyOverpays_14 _ _ _ _).trans (congrArg (fun o => ndX Gm (WP Gm) j_Market_nobodyOverpays 14 o Q) (if_pos (by rw [hk, show decide (catS st ≤ 8) = true from hc]; rfl)))
theorem c_Market_nobodyOverpays_17 : mCode j_Market_nobodyOverpays 17 = oIC (fun x y => decide (x ≤ y)) 22 20 := rfl
theorem e_Market_nobodyOverpays_17 (x y : Int32) : (WP Gm j_Market_nobodyOverpays 17 (ls) (.inl y :: .inl x :: st) h Q) = (if x ≤ y then WP Gm j_Market_nobodyOverpays 22 (ls) (st) (h) Q else WP Gm j_Market_nobodyOverpays 20 (ls) (st) (h) Q) := (WP_at c_Market_nobodyOverpays_17 _ _ _ _).trans (nd_ic rfl _ _ _ _)
theorem c_Market_nobodyOverpays_20 : mCode j_Market_nobodyOverpays 20 = oI 0 21 := rfl
theorem e_Market_nobodyOverpays_20  : (WP Gm j_Market_nobodyOverpays 20 (ls) (st) h Q) = (WP Gm j_Market_nobodyOverpays 21 (ls) (.inl 0 :: st) (h) Q) := (WP_at c_Market_nobodyOverpays_20 _ _ _ _)
theorem c_Market_nobodyOverpays_21 : mCode j_Market_nobodyOverpays 21 = oRetZ := rfl
theorem e_Market_nobodyOverpays_21 (x : Int32) (hx : x = 0 ∨ x = 1) : (WP Gm j_Market_nobodyOverpays 21 (ls) ([.inl x]) h Q) = (Q (.inl (some (.inl x))) h) := (WP_at c_Market_nobodyOverpays_21 _ _ _ _).trans (congrArg (fun o => ndX Gm (WP Gm) j_Market_nobodyOverpays 21 o Q) (if_pos (by rcases hx with rfl | rfl <;> rfl)))
theorem c_Market_nobodyOverpays_22 : mCode j_Market_nobodyOverpays 22 = oInc 1 1 25 := rfl
theorem e_Market_nobodyOverpays_22 (a0 : Option MV) (x : Int32) : (WP Gm j_Market_nobodyOverpays 22 (a0 :: some (.inl x) :: ls) (st) h Q) = (WP Gm j_Market_nobodyOverpays 25 (lSet1 (a0 :: some (.inl x) :: ls) 1 (some (.inl (x + 1)))) (st) (h) Q) := (WP_at c_Market_nobodyOverpays_22 _ _ _ _)
theorem c_Market_nobodyOverpays_25 : mCode j_Market_nobodyOverpays 25 = oGo 2 := rfl
theorem e_Market_nobodyOverpays_25  : (WP Gm j_Market_nobodyOverpays 25 (ls) (st) h Q) = (WP Gm j_Market_nobodyOverpays 2 (ls) (st) (h) Q) := (WP_at c_Market_nobodyOverpays_25 _ _ _ _)
theorem c_Market_nobodyOverpays_28 : mCode j_Market_nobodyOverpays 28 = oI 1 29 := rfl
theorem e_Market_nobodyOverpays_28  : (WP Gm j_Market_nobodyOverpays 28 (ls) (st) h Q) = (WP Gm j_Market_nobodyOverpays 29 (ls) (.inl 1 :: st) (h) Q) := (WP_at c_Market_nobodyOverpays_28 _ _ _ _)
theorem c_Market_nobodyOverpays_29 : mCode j_Market_nobodyOverpays 29 = oRetZ := rfl
theorem e_Market_nobodyOverpays_29 (x : Int32) (hx : x = 0 ∨ x = 1) : (WP Gm j_Market_nobodyOverpays 29 (ls) ([.inl x]) h Q) = (Q (.inl (some (.inl x))) h) := (WP_at c_Market_nobodyOverpays_29 _ _ _ _).trans (congrArg (fun o => ndX Gm (WP Gm) j_Market_nobodyOverpays 29 o Q) (if_pos (by rcases hx with rfl | rfl <;> rfl)))
theorem c_Market_sellAll_0 : mCode j_Market_sellAll 0 = oI 0 1 := rfl
theorem e_Market_sellAll_0  : (WP Gm j_Market_sellAll 0 (ls) (st) h Q) = (WP Gm j_Market_sellAll 1 (ls) (.inl 0 :: st) (h) Q) := (WP_at c_Market_sellAll_0 _ _ _ _)
theorem c_Market_sellAll_1 : mCode j_Market_sellAll 1 = oIst 1 2 := rfl
theorem e_Market_sellAll_1 (x : Int32) : (WP Gm j_Market_sellAll 1 (ls) (.inl x :: st) h Q) = (WP Gm j_Market_sellAll 2 (lSet1 ls 1 (some (.inl x))) (st) (h) Q) := (WP_at c_Market_sellAll_1 _ _ _ _)
theorem c_Market_sellAll_2 : mCode j_Market_sellAll 2 = oI 0 3 := rfl
theorem e_Market_sellAll_2  : (WP Gm j_Market_sellAll 2 (ls) (st) h Q) = (WP Gm j_Market_sellAll 3 (ls) (.inl 0 :: st) (h) Q) := (WP_at c_Market_sellAll_2 _ _ _ _)
theorem c_Market_sellAll_3 : mCode j_Market_sellAll 3 = oIst 2 4 := rfl
theorem e_Market_sellAll_3 (x : Int32) : (WP Gm j_Market_sellAll 3 (ls) (.inl x :: st) h Q) = (WP Gm j_Market_sellAll 4 (lSet1 ls 2 (some (.inl x))) (st) (h) Q) := (WP_at c_Market_sellAll_3 _ _ _ _)
theorem c_Market_sellAll_4 : mCode j_Market_sellAll 4 = oIld 2 5 := rfl
theorem e_Market_sellAll_4 (a0 a1 : Option MV) (x : Int32) : (WP Gm j_Market_sellAll 4 (a0 :: a1 :: some (.inl x) :: ls) (st) h Q) = (WP Gm j_Market_sellAll 5 (a0 :: a1 :: some (.inl x) :: ls) (.inl x :: st) (h) Q) := (WP_at c_Market_sellAll_4 _ _ _ _)
theorem c_Market_sellAll_5 : mCode j_Market_sellAll 5 = oI 5 6 := rfl
theorem e_Market_sellAll_5  : (WP Gm j_Market_sellAll 5 (ls) (st) h Q) = (WP Gm j_Market_sellAll 6 (ls) (.inl 5 :: st) (h) Q) := (WP_at c_Market_sellAll_5 _ _ _ _)
theorem c_Market_sellAll_6 : mCode j_Market_sellAll 6 = oIC (fun x y => decide (y ≤ x)) 23 9 := rfl
theorem e_Market_sellAll_6 (x y : Int32) : (WP Gm j_Market_sellAll 6 (ls) (.inl y :: .inl x :: st) h Q) = (if y ≤ x then WP Gm j_Market_sellAll 23 (ls) (st) (h) Q else WP Gm j_Market_sellAll 9 (ls) (st) (h) Q) := (WP_at c_Market_sellAll_6 _ _ _ _).trans (nd_ic rfl _ _ _ _)
theorem c_Market_sellAll_9 : mCode j_Market_sellAll 9 = oIld 1 10 := rfl
theorem e_Market_sellAll_9 (a0 : Option MV) (x : Int32) : (WP Gm j_Market_sellAll 9 (a0 :: some (.inl x) :: ls) (st) h Q) = (WP Gm j_Market_sellAll 10 (a0 :: some (.inl x) :: ls) (.inl x :: st) (h) Q) := (WP_at c_Market_sellAll_9 _ _ _ _)
theorem c_Market_sellAll_10 : mCode j_Market_sellAll 10 = oAld 0 11 := rfl
theorem e_Market_sellAll_10 (x : Option Nat) : (WP Gm j_Market_sellAll 10 (some (.inr (.inl x)) :: ls) (st) h Q) = (WP Gm j_Market_sellAll 11 (some (.inr (.inl x)) :: ls) (.inr (.inl x) :: st) (h) Q) := (WP_at c_Market_sellAll_10 _ _ _ _)
theorem c_Market_sellAll_11 : mCode j_Market_sellAll 11 = oIld 2 12 := rfl
theorem e_Market_sellAll_11 (a0 a1 : Option MV) (x : Int32) : (WP Gm j_Market_sellAll 11 (a0 :: a1 :: some (.inl x) :: ls) (st) h Q) = (WP Gm j_Market_sellAll 12 (a0 :: a1 :: some (.inl x) :: ls) (.inl x :: st) (h) Q) := (WP_at c_Market_sellAll_11 _ _ _ _)
theorem c_Market_sellAll_12 : mCode j_Market_sellAll 12 = oCallV kc_Market j_Market_paidBy 1 (mL j_Market_paidBy) 15 := rfl
theorem e_Market_sellAll_12 (a : Nat) (x0 : Int32) (hk : isK h a kc_Market = true) (hc : c8 st = true) : (WP Gm j_Market_sellAll 12 (ls) (.inl x0 :: .inr (.inl (some a)) :: st) h Q) = (WP Gm j_Market_paidBy 0 [some (.inr (.inl (some a))), some (.inl x0), none] [] h (kC (fun v h2 => WP Gm j_Market_sellAll 15 ls (v.toList ++ st) h2 Q) (fun E h2 => Q (.inr E) h2))) := (WP_at c_Market_sellAll_12 _ _ _ _).trans (congrArg (fun o => ndX Gm (WP Gm) j_Market_sellAll 12 o Q) (if_pos (by rw [hk, show decide (catS st ≤ 8) = true from hc]; rfl)))
theorem c_Market_sellAll_15 : mCode j_Market_sellAll 15 = oII (fun x y => x + y) 16 := rfl
theorem e_Market_sellAll_15 (x : Int32) (y : Int32) : (WP Gm j_Market_sellAll 15 (ls) (.inl y :: .inl x :: st) h Q) = (WP Gm j_Market_sellAll 16 (ls) (.inl (x + y) :: st) (h) Q) := (WP_at c_Market_sellAll_15 _ _ _ _)
theorem c_Market_sellAll_16 : mCode j_Market_sellAll 16 = oIst 1 17 := rfl
theorem e_Market_sellAll_16 (x : Int32) : (WP Gm j_Market_sellAll 16 (ls) (.inl x :: st) h Q) = (WP Gm j_Market_sellAll 17 (lSet1 ls 1 (some (.inl x))) (st) (h) Q) := (WP_at c_Market_sellAll_16 _ _ _ _)
theorem c_Market_sellAll_17 : mCode j_Market_sellAll 17 = oInc 2 1 20 := rfl
theorem e_Market_sellAll_17 (a0 a1 : Option MV) (x : Int32) : (WP Gm j_Market_sellAll 17 (a0 :: a1 :: some (.inl x) :: ls) (st) h Q) = (WP Gm j_Market_sellAll 20 (lSet1 (a0 :: a1 :: some (.inl x) :: ls) 2 (some (.inl (x + 1)))) (st) (h) Q) := (WP_at c_Market_sellAll_17 _ _ _ _)
theorem c_Market_sellAll_20 : mCode j_Market_sellAll 20 = oGo 4 := rfl
theorem e_Market_sellAll_20  : (WP Gm j_Market_sellAll 20 (ls) (st) h Q) = (WP Gm j_Market_sellAll 4 (ls) (st) (h) Q) := (WP_at c_Market_sellAll_20 _ _ _ _)
theorem c_Market_sellAll_23 : mCode j_Market_sellAll 23 = oAld 0 24 := rfl
theorem e_Market_sellAll_23 (x : Option Nat) : (WP Gm j_Market_sellAll 23 (some (.inr (.inl x)) :: ls) (st) h Q) = (WP Gm j_Market_sellAll 24 (some (.inr (.inl x)) :: ls) (.inr (.inl x) :: st) (h) Q) := (WP_at c_Market_sellAll_23 _ _ _ _)
theorem c_Market_sellAll_24 : mCode j_Market_sellAll 24 = oDup 25 := rfl
theorem e_Market_sellAll_24 (x : Option Nat) : (WP Gm j_Market_sellAll 24 (ls) (.inr (.inl x) :: st) h Q) = (WP Gm j_Market_sellAll 25 (ls) (.inr (.inl x) :: .inr (.inl x) :: st) (h) Q) := (WP_at c_Market_sellAll_24 _ _ _ _)
theorem c_Market_sellAll_25 : mCode j_Market_sellAll 25 = oGetI kc_Market 8 28 := rfl
theorem e_Market_sellAll_25 (a : Nat) (hk : isK h a kc_Market = true) : (WP Gm j_Market_sellAll 25 (ls) (.inr (.inl (some a)) :: st) h Q) = (WP Gm j_Market_sellAll 28 (ls) (.inl (gI h a 8) :: st) (h) Q) := (WP_at c_Market_sellAll_25 _ _ _ _).trans (congrArg (fun o => ndX Gm (WP Gm) j_Market_sellAll 25 o Q) (if_pos hk))
theorem c_Market_sellAll_28 : mCode j_Market_sellAll 28 = oIld 1 29 := rfl
theorem e_Market_sellAll_28 (a0 : Option MV) (x : Int32) : (WP Gm j_Market_sellAll 28 (a0 :: some (.inl x) :: ls) (st) h Q) = (WP Gm j_Market_sellAll 29 (a0 :: some (.inl x) :: ls) (.inl x :: st) (h) Q) := (WP_at c_Market_sellAll_28 _ _ _ _)
theorem c_Market_sellAll_29 : mCode j_Market_sellAll 29 = oII (fun x y => x + y) 30 := rfl
theorem e_Market_sellAll_29 (x : Int32) (y : Int32) : (WP Gm j_Market_sellAll 29 (ls) (.inl y :: .inl x :: st) h Q) = (WP Gm j_Market_sellAll 30 (ls) (.inl (x + y) :: st) (h) Q) := (WP_at c_Market_sellAll_29 _ _ _ _)
theorem c_Market_sellAll_30 : mCode j_Market_sellAll 30 = oPutI kc_Market 8 33 := rfl
theorem e_Market_sellAll_30 (a : Nat) (x : Int32) (hk : isK h a kc_Market = true) : (WP Gm j_Market_sellAll 30 (ls) (.inl x :: .inr (.inl (some a)) :: st) h Q) = (WP Gm j_Market_sellAll 33 (ls) (st) (sI h a 8 x) Q) := (WP_at c_Market_sellAll_30 _ _ _ _).trans (congrArg (fun o => ndX Gm (WP Gm) j_Market_sellAll 30 o Q) (if_pos hk))
theorem c_Market_sellAll_33 : mCode j_Market_sellAll 33 = oAld 0 34 := rfl
theorem e_Market_sellAll_33 (x : Option Nat) : (WP Gm j_Market_sellAll 33 (some (.inr (.inl x)) :: ls) (st) h Q) = (WP Gm j_Market_sellAll 34 (some (.inr (.inl x)) :: ls) (.inr (.inl x) :: st) (h) Q) := (WP_at c_Market_sellAll_33 _ _ _ _)
theorem c_Market_sellAll_34 : mCode j_Market_sellAll 34 = oCallV kc_Market j_Market_forgetBids 0 (mL j_Market_forgetBids) 37 := rfl
theorem e_Market_sellAll_34 (a : Nat) (hk : isK h a kc_Market = true) (hc : c8 st = true) : (WP Gm j_Market_sellAll 34 (ls) (.inr (.inl (some a)) :: st) h Q) = (WP Gm j_Market_forgetBids 0 [some (.inr (.inl (some a))), none] [] h (kC (fun v h2 => WP Gm j_Market_sellAll 37 ls (v.toList ++ st) h2 Q) (fun E h2 => Q (.inr E) h2))) := (WP_at c_Market_sellAll_34 _ _ _ _).trans (congrArg (fun o => ndX Gm (WP Gm) j_Market_sellAll 34 o Q) (if_pos (by rw [hk, show decide (catS st ≤ 8) = true from hc]; rfl)))
theorem c_Market_sellAll_37 : mCode j_Market_sellAll 37 = oIld 1 38 := rfl
theorem e_Market_sellAll_37 (a0 : Option MV) (x : Int32) : (WP Gm j_Market_sellAll 37 (a0 :: some (.inl x) :: ls) (st) h Q) = (WP Gm j_Market_sellAll 38 (a0 :: some (.inl x) :: ls) (.inl x :: st) (h) Q) := (WP_at c_Market_sellAll_37 _ _ _ _)
theorem c_Market_sellAll_38 : mCode j_Market_sellAll 38 = oRetI := rfl
theorem e_Market_sellAll_38 (x : Int32) : (WP Gm j_Market_sellAll 38 (ls) ([.inl x]) h Q) = (Q (.inl (some (.inl x))) h) := (WP_at c_Market_sellAll_38 _ _ _ _)
theorem c_Market_forgetBids_0 : mCode j_Market_forgetBids 0 = oI 0 1 := rfl
theorem e_Market_forgetBids_0  : (WP Gm j_Market_forgetBids 0 (ls) (st) h Q) = (WP Gm j_Market_forgetBids 1 (ls) (.inl 0 :: st) (h) Q) := (WP_at c_Market_forgetBids_0 _ _ _ _)
theorem c_Market_forgetBids_1 : mCode j_Market_forgetBids 1 = oIst 1 2 := rfl
theorem e_Market_forgetBids_1 (x : Int32) : (WP Gm j_Market_forgetBids 1 (ls) (.inl x :: st) h Q) = (WP Gm j_Market_forgetBids 2 (lSet1 ls 1 (some (.inl x))) (st) (h) Q) := (WP_at c_Market_forgetBids_1 _ _ _ _)
theorem c_Market_forgetBids_2 : mCode j_Market_forgetBids 2 = oIld 1 3 := rfl
theorem e_Market_forgetBids_2 (a0 : Option MV) (x : Int32) : (WP Gm j_Market_forgetBids 2 (a0 :: some (.inl x) :: ls) (st) h Q) = (WP Gm j_Market_forgetBids 3 (a0 :: some (.inl x) :: ls) (.inl x :: st) (h) Q) := (WP_at c_Market_forgetBids_2 _ _ _ _)
theorem c_Market_forgetBids_3 : mCode j_Market_forgetBids 3 = oI 5 4 := rfl
theorem e_Market_forgetBids_3  : (WP Gm j_Market_forgetBids 3 (ls) (st) h Q) = (WP Gm j_Market_forgetBids 4 (ls) (.inl 5 :: st) (h) Q) := (WP_at c_Market_forgetBids_3 _ _ _ _)
theorem c_Market_forgetBids_4 : mCode j_Market_forgetBids 4 = oIC (fun x y => decide (y ≤ x)) 20 7 := rfl
theorem e_Market_forgetBids_4 (x y : Int32) : (WP Gm j_Market_forgetBids 4 (ls) (.inl y :: .inl x :: st) h Q) = (if y ≤ x then WP Gm j_Market_forgetBids 20 (ls) (st) (h) Q else WP Gm j_Market_forgetBids 7 (ls) (st) (h) Q) := (WP_at c_Market_forgetBids_4 _ _ _ _).trans (nd_ic rfl _ _ _ _)
theorem c_Market_forgetBids_7 : mCode j_Market_forgetBids 7 = oAld 0 8 := rfl
theorem e_Market_forgetBids_7 (x : Option Nat) : (WP Gm j_Market_forgetBids 7 (some (.inr (.inl x)) :: ls) (st) h Q) = (WP Gm j_Market_forgetBids 8 (some (.inr (.inl x)) :: ls) (.inr (.inl x) :: st) (h) Q) := (WP_at c_Market_forgetBids_7 _ _ _ _)
theorem c_Market_forgetBids_8 : mCode j_Market_forgetBids 8 = oGetR kc_Market 4 11 := rfl
theorem e_Market_forgetBids_8 (a : Nat) (hk : isK h a kc_Market = true) : (WP Gm j_Market_forgetBids 8 (ls) (.inr (.inl (some a)) :: st) h Q) = (WP Gm j_Market_forgetBids 11 (ls) (.inr (.inl (gR h a 4)) :: st) (h) Q) := (WP_at c_Market_forgetBids_8 _ _ _ _).trans (congrArg (fun o => ndX Gm (WP Gm) j_Market_forgetBids 8 o Q) (if_pos hk))
theorem c_Market_forgetBids_11 : mCode j_Market_forgetBids 11 = oIld 1 12 := rfl
theorem e_Market_forgetBids_11 (a0 : Option MV) (x : Int32) : (WP Gm j_Market_forgetBids 11 (a0 :: some (.inl x) :: ls) (st) h Q) = (WP Gm j_Market_forgetBids 12 (a0 :: some (.inl x) :: ls) (.inl x :: st) (h) Q) := (WP_at c_Market_forgetBids_11 _ _ _ _)
theorem c_Market_forgetBids_12 : mCode j_Market_forgetBids 12 = oI 0 13 := rfl
theorem e_Market_forgetBids_12  : (WP Gm j_Market_forgetBids 12 (ls) (st) h Q) = (WP Gm j_Market_forgetBids 13 (ls) (.inl 0 :: st) (h) Q) := (WP_at c_Market_forgetBids_12 _ _ _ _)
theorem c_Market_forgetBids_13 : mCode j_Market_forgetBids 13 = oIas 0 14 := rfl
theorem e_Market_forgetBids_13 (a : Nat) (i : Int32) (x : Int32) (hk : isK h a 100 = true) (hi : inL h a i = true) (h0 : ¬ a = 0) : (WP Gm j_Market_forgetBids 13 (ls) (.inl x :: .inl i :: .inr (.inl (some a)) :: st) h Q) = (WP Gm j_Market_forgetBids 14 (ls) (st) (sI h a i.toNatClampNeg x) Q) := (WP_at c_Market_forgetBids_13 _ _ _ _).trans (congrArg (fun o => ndX Gm (WP Gm) j_Market_forgetBids 13 o Q) (if_pos (by rw [hk, hi]; simp [h0])))
theorem c_Market_forgetBids_14 : mCode j_Market_forgetBids 14 = oInc 1 1 17 := rfl
theorem e_Market_forgetBids_14 (a0 : Option MV) (x : Int32) : (WP Gm j_Market_forgetBids 14 (a0 :: some (.inl x) :: ls) (st) h Q) = (WP Gm j_Market_forgetBids 17 (lSet1 (a0 :: some (.inl x) :: ls) 1 (some (.inl (x + 1)))) (st) (h) Q) := (WP_at c_Market_forgetBids_14 _ _ _ _)
theorem c_Market_forgetBids_17 : mCode j_Market_forgetBids 17 = oGo 2 := rfl
theorem e_Market_forgetBids_17  : (WP Gm j_Market_forgetBids 17 (ls) (st) h Q) = (WP Gm j_Market_forgetBids 2 (ls) (st) (h) Q) := (WP_at c_Market_forgetBids_17 _ _ _ _)
theorem c_Market_forgetBids_20 : mCode j_Market_forgetBids 20 = oAld 0 21 := rfl
theorem e_Market_forgetBids_20 (x : Option Nat) : (WP Gm j_Market_forgetBids 20 (some (.inr (.inl x)) :: ls) (st) h Q) = (WP Gm j_Market_forgetBids 21 (some (.inr (.inl x)) :: ls) (.inr (.inl x) :: st) (h) Q) := (WP_at c_Market_forgetBids_20 _ _ _ _)
theorem c_Market_forgetBids_21 : mCode j_Market_forgetBids 21 = oI 0 22 := rfl
theorem e_Market_forgetBids_21  : (WP Gm j_Market_forgetBids 21 (ls) (st) h Q) = (WP Gm j_Market_forgetBids 22 (ls) (.inl 0 :: st) (h) Q) := (WP_at c_Market_forgetBids_21 _ _ _ _)
theorem c_Market_forgetBids_22 : mCode j_Market_forgetBids 22 = oPutI kc_Market 5 25 := rfl
theorem e_Market_forgetBids_22 (a : Nat) (x : Int32) (hk : isK h a kc_Market = true) : (WP Gm j_Market_forgetBids 22 (ls) (.inl x :: .inr (.inl (some a)) :: st) h Q) = (WP Gm j_Market_forgetBids 25 (ls) (st) (sI h a 5 x) Q) := (WP_at c_Market_forgetBids_22 _ _ _ _).trans (congrArg (fun o => ndX Gm (WP Gm) j_Market_forgetBids 22 o Q) (if_pos hk))
theorem c_Market_forgetBids_25 : mCode j_Market_forgetBids 25 = oAld 0 26 := rfl
theorem e_Market_forgetBids_25 (x : Option Nat) : (WP Gm j_Market_forgetBids 25 (some (.inr (.inl x)) :: ls) (st) h Q) = (WP Gm j_Market_forgetBids 26 (some (.inr (.inl x)) :: ls) (.inr (.inl x) :: st) (h) Q) := (WP_at c_Market_forgetBids_25 _ _ _ _)
theorem c_Market_forgetBids_26 : mCode j_Market_forgetBids 26 = oI 0 27 := rfl
theorem e_Market_forgetBids_26  : (WP Gm j_Market_forgetBids 26 (ls) (st) h Q) = (WP Gm j_Market_forgetBids 27 (ls) (.inl 0 :: st) (h) Q) := (WP_at c_Market_forgetBids_26 _ _ _ _)
theorem c_Market_forgetBids_27 : mCode j_Market_forgetBids 27 = oPutI kc_Market 6 30 := rfl
theorem e_Market_forgetBids_27 (a : Nat) (x : Int32) (hk : isK h a kc_Market = true) : (WP Gm j_Market_forgetBids 27 (ls) (.inl x :: .inr (.inl (some a)) :: st) h Q) = (WP Gm j_Market_forgetBids 30 (ls) (st) (sI h a 6 x) Q) := (WP_at c_Market_forgetBids_27 _ _ _ _).trans (congrArg (fun o => ndX Gm (WP Gm) j_Market_forgetBids 27 o Q) (if_pos hk))
theorem c_Market_forgetBids_30 : mCode j_Market_forgetBids 30 = oAld 0 31 := rfl
theorem e_Market_forgetBids_30 (x : Option Nat) : (WP Gm j_Market_forgetBids 30 (some (.inr (.inl x)) :: ls) (st) h Q) = (WP Gm j_Market_forgetBids 31 (some (.inr (.inl x)) :: ls) (.inr (.inl x) :: st) (h) Q) := (WP_at c_Market_forgetBids_30 _ _ _ _)
theorem c_Market_forgetBids_31 : mCode j_Market_forgetBids 31 = oI 0 32 := rfl
theorem e_Market_forgetBids_31  : (WP Gm j_Market_forgetBids 31 (ls) (st) h Q) = (WP Gm j_Market_forgetBids 32 (ls) (.inl 0 :: st) (h) Q) := (WP_at c_Market_forgetBids_31 _ _ _ _)
theorem c_Market_forgetBids_32 : mCode j_Market_forgetBids 32 = oPutI kc_Market 7 35 := rfl
theorem e_Market_forgetBids_32 (a : Nat) (x : Int32) (hk : isK h a kc_Market = true) : (WP Gm j_Market_forgetBids 32 (ls) (.inl x :: .inr (.inl (some a)) :: st) h Q) = (WP Gm j_Market_forgetBids 35 (ls) (st) (sI h a 7 x) Q) := (WP_at c_Market_forgetBids_32 _ _ _ _).trans (congrArg (fun o => ndX Gm (WP Gm) j_Market_forgetBids 32 o Q) (if_pos hk))
theorem c_Market_forgetBids_35 : mCode j_Market_forgetBids 35 = oRet := rfl
theorem e_Market_forgetBids_35  : (WP Gm j_Market_forgetBids 35 (ls) ([]) h Q) = (Q (.inl none) h) := (WP_at c_Market_forgetBids_35 _ _ _ _)
theorem c_Node_init_0 : mCode j_Node_init 0 = oAld 0 1 := rfl
theorem e_Node_init_0 (x : Option Nat) : (WP Gm j_Node_init 0 (some (.inr (.inl x)) :: ls) (st) h Q) = (WP Gm j_Node_init 1 (some (.inr (.inl x)) :: ls) (.inr (.inl x) :: st) (h) Q) := (WP_at c_Node_init_0 _ _ _ _)
theorem c_Node_init_1 : mCode j_Node_init 1 = oObj 4 := rfl
theorem e_Node_init_1 (a : Nat) (hc : c8 st = true) : (WP Gm j_Node_init 1 (ls) (.inr (.inl (some a)) :: st) h Q) = (WP Gm j_Node_init 4 (ls) (st) (h) Q) := (WP_at c_Node_init_1 _ _ _ _).trans (congrArg (fun o => ndX Gm (WP Gm) j_Node_init 1 o Q) (if_pos (of_decide_eq_true hc)))
theorem c_Node_init_4 : mCode j_Node_init 4 = oAld 0 5 := rfl
theorem e_Node_init_4 (x : Option Nat) : (WP Gm j_Node_init 4 (some (.inr (.inl x)) :: ls) (st) h Q) = (WP Gm j_Node_init 5 (some (.inr (.inl x)) :: ls) (.inr (.inl x) :: st) (h) Q) := (WP_at c_Node_init_4 _ _ _ _)
theorem c_Node_init_5 : mCode j_Node_init 5 = oI 0 6 := rfl
theorem e_Node_init_5  : (WP Gm j_Node_init 5 (ls) (st) h Q) = (WP Gm j_Node_init 6 (ls) (.inl 0 :: st) (h) Q) := (WP_at c_Node_init_5 _ _ _ _)
theorem c_Node_init_6 : mCode j_Node_init 6 = oPutI kc_Node 0 9 := rfl
theorem e_Node_init_6 (a : Nat) (x : Int32) (hk : isK h a kc_Node = true) : (WP Gm j_Node_init 6 (ls) (.inl x :: .inr (.inl (some a)) :: st) h Q) = (WP Gm j_Node_init 9 (ls) (st) (sI h a 0 x) Q) := (WP_at c_Node_init_6 _ _ _ _).trans (congrArg (fun o => ndX Gm (WP Gm) j_Node_init 6 o Q) (if_pos hk))
theorem c_Node_init_9 : mCode j_Node_init 9 = oAld 0 10 := rfl
theorem e_Node_init_9 (x : Option Nat) : (WP Gm j_Node_init 9 (some (.inr (.inl x)) :: ls) (st) h Q) = (WP Gm j_Node_init 10 (some (.inr (.inl x)) :: ls) (.inr (.inl x) :: st) (h) Q) := (WP_at c_Node_init_9 _ _ _ _)
theorem c_Node_init_10 : mCode j_Node_init 10 = oI 0 11 := rfl
theorem e_Node_init_10  : (WP Gm j_Node_init 10 (ls) (st) h Q) = (WP Gm j_Node_init 11 (ls) (.inl 0 :: st) (h) Q) := (WP_at c_Node_init_10 _ _ _ _)
theorem c_Node_init_11 : mCode j_Node_init 11 = oPutI kc_Node 1 14 := rfl
theorem e_Node_init_11 (a : Nat) (x : Int32) (hk : isK h a kc_Node = true) : (WP Gm j_Node_init 11 (ls) (.inl x :: .inr (.inl (some a)) :: st) h Q) = (WP Gm j_Node_init 14 (ls) (st) (sI h a 1 x) Q) := (WP_at c_Node_init_11 _ _ _ _).trans (congrArg (fun o => ndX Gm (WP Gm) j_Node_init 11 o Q) (if_pos hk))
theorem c_Node_init_14 : mCode j_Node_init 14 = oAld 0 15 := rfl
theorem e_Node_init_14 (x : Option Nat) : (WP Gm j_Node_init 14 (some (.inr (.inl x)) :: ls) (st) h Q) = (WP Gm j_Node_init 15 (some (.inr (.inl x)) :: ls) (.inr (.inl x) :: st) (h) Q) := (WP_at c_Node_init_14 _ _ _ _)
theorem c_Node_init_15 : mCode j_Node_init 15 = oI 0 16 := rfl
theorem e_Node_init_15  : (WP Gm j_Node_init 15 (ls) (st) h Q) = (WP Gm j_Node_init 16 (ls) (.inl 0 :: st) (h) Q) := (WP_at c_Node_init_15 _ _ _ _)
theorem c_Node_init_16 : mCode j_Node_init 16 = oPutI kc_Node 2 19 := rfl
theorem e_Node_init_16 (a : Nat) (x : Int32) (hk : isK h a kc_Node = true) : (WP Gm j_Node_init 16 (ls) (.inl x :: .inr (.inl (some a)) :: st) h Q) = (WP Gm j_Node_init 19 (ls) (st) (sI h a 2 x) Q) := (WP_at c_Node_init_16 _ _ _ _).trans (congrArg (fun o => ndX Gm (WP Gm) j_Node_init 16 o Q) (if_pos hk))
theorem c_Node_init_19 : mCode j_Node_init 19 = oAld 0 20 := rfl
theorem e_Node_init_19 (x : Option Nat) : (WP Gm j_Node_init 19 (some (.inr (.inl x)) :: ls) (st) h Q) = (WP Gm j_Node_init 20 (some (.inr (.inl x)) :: ls) (.inr (.inl x) :: st) (h) Q) := (WP_at c_Node_init_19 _ _ _ _)
theorem c_Node_init_20 : mCode j_Node_init 20 = oI 0 21 := rfl
theorem e_Node_init_20  : (WP Gm j_Node_init 20 (ls) (st) h Q) = (WP Gm j_Node_init 21 (ls) (.inl 0 :: st) (h) Q) := (WP_at c_Node_init_20 _ _ _ _)
theorem c_Node_init_21 : mCode j_Node_init 21 = oPutZ kc_Node 3 24 := rfl
theorem e_Node_init_21 (a : Nat) (x : Int32) (hk : isK h a kc_Node = true) (hx : x = 0 ∨ x = 1) : (WP Gm j_Node_init 21 (ls) (.inl x :: .inr (.inl (some a)) :: st) h Q) = (WP Gm j_Node_init 24 (ls) (st) (sI h a 3 x) Q) := (WP_at c_Node_init_21 _ _ _ _).trans (congrArg (fun o => ndX Gm (WP Gm) j_Node_init 21 o Q) (if_pos (by rw [hk]; rcases hx with rfl | rfl <;> rfl)))
theorem c_Node_init_24 : mCode j_Node_init 24 = oAld 0 25 := rfl
theorem e_Node_init_24 (x : Option Nat) : (WP Gm j_Node_init 24 (some (.inr (.inl x)) :: ls) (st) h Q) = (WP Gm j_Node_init 25 (some (.inr (.inl x)) :: ls) (.inr (.inl x) :: st) (h) Q) := (WP_at c_Node_init_24 _ _ _ _)
theorem c_Node_init_25 : mCode j_Node_init 25 = oNew cM sM kc_FrameQueue 2 28 := rfl
theorem e_Node_init_25 (hr : okR cM sM h 1 2 = true) : (WP Gm j_Node_init 25 (ls) (st) h Q) = (WP Gm j_Node_init 28 (ls) (.inr (.inl (some (nx h))) :: st) (hN h kc_FrameQueue 0 2) Q) := (WP_at c_Node_init_25 _ _ _ _).trans (congrArg (fun o => ndX Gm (WP Gm) j_Node_init 25 o Q) (if_pos hr))
theorem c_Node_init_28 : mCode j_Node_init 28 = oDup 29 := rfl
theorem e_Node_init_28 (x : Option Nat) : (WP Gm j_Node_init 28 (ls) (.inr (.inl x) :: st) h Q) = (WP Gm j_Node_init 29 (ls) (.inr (.inl x) :: .inr (.inl x) :: st) (h) Q) := (WP_at c_Node_init_28 _ _ _ _)
theorem c_Node_init_29 : mCode j_Node_init 29 = oCallV kc_FrameQueue j_FrameQueue_init 0 (mL j_FrameQueue_init) 32 := rfl
theorem e_Node_init_29 (a : Nat) (hk : isK h a kc_FrameQueue = true) (hc : c8 st = true) : (WP Gm j_Node_init 29 (ls) (.inr (.inl (some a)) :: st) h Q) = (WP Gm j_FrameQueue_init 0 [some (.inr (.inl (some a))), none] [] h (kC (fun v h2 => WP Gm j_Node_init 32 ls (v.toList ++ st) h2 Q) (fun E h2 => Q (.inr E) h2))) := (WP_at c_Node_init_29 _ _ _ _).trans (congrArg (fun o => ndX Gm (WP Gm) j_Node_init 29 o Q) (if_pos (by rw [hk, show decide (catS st ≤ 8) = true from hc]; rfl)))
theorem c_Node_init_32 : mCode j_Node_init 32 = oPutR kc_Node 4 35 := rfl
theorem e_Node_init_32 (a : Nat) (x : Option Nat) (hk : isK h a kc_Node = true) : (WP Gm j_Node_init 32 (ls) (.inr (.inl x) :: .inr (.inl (some a)) :: st) h Q) = (WP Gm j_Node_init 35 (ls) (st) (sR h a 4 x) Q) := (WP_at c_Node_init_32 _ _ _ _).trans (congrArg (fun o => ndX Gm (WP Gm) j_Node_init 32 o Q) (if_pos hk))
theorem c_Node_init_35 : mCode j_Node_init 35 = oAld 0 36 := rfl
theorem e_Node_init_35 (x : Option Nat) : (WP Gm j_Node_init 35 (some (.inr (.inl x)) :: ls) (st) h Q) = (WP Gm j_Node_init 36 (some (.inr (.inl x)) :: ls) (.inr (.inl x) :: st) (h) Q) := (WP_at c_Node_init_35 _ _ _ _)
theorem c_Node_init_36 : mCode j_Node_init 36 = oI 0 37 := rfl
theorem e_Node_init_36  : (WP Gm j_Node_init 36 (ls) (st) h Q) = (WP Gm j_Node_init 37 (ls) (.inl 0 :: st) (h) Q) := (WP_at c_Node_init_36 _ _ _ _)
theorem c_Node_init_37 : mCode j_Node_init 37 = oPutI kc_Node 5 40 := rfl
theorem e_Node_init_37 (a : Nat) (x : Int32) (hk : isK h a kc_Node = true) : (WP Gm j_Node_init 37 (ls) (.inl x :: .inr (.inl (some a)) :: st) h Q) = (WP Gm j_Node_init 40 (ls) (st) (sI h a 5 x) Q) := (WP_at c_Node_init_37 _ _ _ _).trans (congrArg (fun o => ndX Gm (WP Gm) j_Node_init 37 o Q) (if_pos hk))
theorem c_Node_init_40 : mCode j_Node_init 40 = oAld 0 41 := rfl
theorem e_Node_init_40 (x : Option Nat) : (WP Gm j_Node_init 40 (some (.inr (.inl x)) :: ls) (st) h Q) = (WP Gm j_Node_init 41 (some (.inr (.inl x)) :: ls) (.inr (.inl x) :: st) (h) Q) := (WP_at c_Node_init_40 _ _ _ _)
theorem c_Node_init_41 : mCode j_Node_init 41 = oI 0 42 := rfl
theorem e_Node_init_41  : (WP Gm j_Node_init 41 (ls) (st) h Q) = (WP Gm j_Node_init 42 (ls) (.inl 0 :: st) (h) Q) := (WP_at c_Node_init_41 _ _ _ _)
theorem c_Node_init_42 : mCode j_Node_init 42 = oPutI kc_Node 6 45 := rfl
theorem e_Node_init_42 (a : Nat) (x : Int32) (hk : isK h a kc_Node = true) : (WP Gm j_Node_init 42 (ls) (.inl x :: .inr (.inl (some a)) :: st) h Q) = (WP Gm j_Node_init 45 (ls) (st) (sI h a 6 x) Q) := (WP_at c_Node_init_42 _ _ _ _).trans (congrArg (fun o => ndX Gm (WP Gm) j_Node_init 42 o Q) (if_pos hk))
theorem c_Node_init_45 : mCode j_Node_init 45 = oAld 0 46 := rfl
theorem e_Node_init_45 (x : Option Nat) : (WP Gm j_Node_init 45 (some (.inr (.inl x)) :: ls) (st) h Q) = (WP Gm j_Node_init 46 (some (.inr (.inl x)) :: ls) (.inr (.inl x) :: st) (h) Q) := (WP_at c_Node_init_45 _ _ _ _)
theorem c_Node_init_46 : mCode j_Node_init 46 = oI 0 47 := rfl
theorem e_Node_init_46  : (WP Gm j_Node_init 46 (ls) (st) h Q) = (WP Gm j_Node_init 47 (ls) (.inl 0 :: st) (h) Q) := (WP_at c_Node_init_46 _ _ _ _)
theorem c_Node_init_47 : mCode j_Node_init 47 = oPutI kc_Node 7 50 := rfl
theorem e_Node_init_47 (a : Nat) (x : Int32) (hk : isK h a kc_Node = true) : (WP Gm j_Node_init 47 (ls) (.inl x :: .inr (.inl (some a)) :: st) h Q) = (WP Gm j_Node_init 50 (ls) (st) (sI h a 7 x) Q) := (WP_at c_Node_init_47 _ _ _ _).trans (congrArg (fun o => ndX Gm (WP Gm) j_Node_init 47 o Q) (if_pos hk))
theorem c_Node_init_50 : mCode j_Node_init 50 = oAld 0 51 := rfl
theorem e_Node_init_50 (x : Option Nat) : (WP Gm j_Node_init 50 (some (.inr (.inl x)) :: ls) (st) h Q) = (WP Gm j_Node_init 51 (some (.inr (.inl x)) :: ls) (.inr (.inl x) :: st) (h) Q) := (WP_at c_Node_init_50 _ _ _ _)
theorem c_Node_init_51 : mCode j_Node_init 51 = oI (-1) 52 := rfl
theorem e_Node_init_51  : (WP Gm j_Node_init 51 (ls) (st) h Q) = (WP Gm j_Node_init 52 (ls) (.inl (-1) :: st) (h) Q) := (WP_at c_Node_init_51 _ _ _ _)
theorem c_Node_init_52 : mCode j_Node_init 52 = oPutI kc_Node 8 55 := rfl
theorem e_Node_init_52 (a : Nat) (x : Int32) (hk : isK h a kc_Node = true) : (WP Gm j_Node_init 52 (ls) (.inl x :: .inr (.inl (some a)) :: st) h Q) = (WP Gm j_Node_init 55 (ls) (st) (sI h a 8 x) Q) := (WP_at c_Node_init_52 _ _ _ _).trans (congrArg (fun o => ndX Gm (WP Gm) j_Node_init 52 o Q) (if_pos hk))
theorem c_Node_init_55 : mCode j_Node_init 55 = oAld 0 56 := rfl
theorem e_Node_init_55 (x : Option Nat) : (WP Gm j_Node_init 55 (some (.inr (.inl x)) :: ls) (st) h Q) = (WP Gm j_Node_init 56 (some (.inr (.inl x)) :: ls) (.inr (.inl x) :: st) (h) Q) := (WP_at c_Node_init_55 _ _ _ _)
theorem c_Node_init_56 : mCode j_Node_init 56 = oI 0 57 := rfl
theorem e_Node_init_56  : (WP Gm j_Node_init 56 (ls) (st) h Q) = (WP Gm j_Node_init 57 (ls) (.inl 0 :: st) (h) Q) := (WP_at c_Node_init_56 _ _ _ _)
theorem c_Node_init_57 : mCode j_Node_init 57 = oPutZ kc_Node 9 60 := rfl
theorem e_Node_init_57 (a : Nat) (x : Int32) (hk : isK h a kc_Node = true) (hx : x = 0 ∨ x = 1) : (WP Gm j_Node_init 57 (ls) (.inl x :: .inr (.inl (some a)) :: st) h Q) = (WP Gm j_Node_init 60 (ls) (st) (sI h a 9 x) Q) := (WP_at c_Node_init_57 _ _ _ _).trans (congrArg (fun o => ndX Gm (WP Gm) j_Node_init 57 o Q) (if_pos (by rw [hk]; rcases hx with rfl | rfl <;> rfl)))
theorem c_Node_init_60 : mCode j_Node_init 60 = oAld 0 61 := rfl
theorem e_Node_init_60 (x : Option Nat) : (WP Gm j_Node_init 60 (some (.inr (.inl x)) :: ls) (st) h Q) = (WP Gm j_Node_init 61 (some (.inr (.inl x)) :: ls) (.inr (.inl x) :: st) (h) Q) := (WP_at c_Node_init_60 _ _ _ _)
theorem c_Node_init_61 : mCode j_Node_init 61 = oI 0 62 := rfl
theorem e_Node_init_61  : (WP Gm j_Node_init 61 (ls) (st) h Q) = (WP Gm j_Node_init 62 (ls) (.inl 0 :: st) (h) Q) := (WP_at c_Node_init_61 _ _ _ _)
theorem c_Node_init_62 : mCode j_Node_init 62 = oPutI kc_Node 10 65 := rfl
theorem e_Node_init_62 (a : Nat) (x : Int32) (hk : isK h a kc_Node = true) : (WP Gm j_Node_init 62 (ls) (.inl x :: .inr (.inl (some a)) :: st) h Q) = (WP Gm j_Node_init 65 (ls) (st) (sI h a 10 x) Q) := (WP_at c_Node_init_62 _ _ _ _).trans (congrArg (fun o => ndX Gm (WP Gm) j_Node_init 62 o Q) (if_pos hk))
theorem c_Node_init_65 : mCode j_Node_init 65 = oAld 0 66 := rfl
theorem e_Node_init_65 (x : Option Nat) : (WP Gm j_Node_init 65 (some (.inr (.inl x)) :: ls) (st) h Q) = (WP Gm j_Node_init 66 (some (.inr (.inl x)) :: ls) (.inr (.inl x) :: st) (h) Q) := (WP_at c_Node_init_65 _ _ _ _)
theorem c_Node_init_66 : mCode j_Node_init 66 = oI 0 67 := rfl
theorem e_Node_init_66  : (WP Gm j_Node_init 66 (ls) (st) h Q) = (WP Gm j_Node_init 67 (ls) (.inl 0 :: st) (h) Q) := (WP_at c_Node_init_66 _ _ _ _)
theorem c_Node_init_67 : mCode j_Node_init 67 = oPutI kc_Node 11 70 := rfl
theorem e_Node_init_67 (a : Nat) (x : Int32) (hk : isK h a kc_Node = true) : (WP Gm j_Node_init 67 (ls) (.inl x :: .inr (.inl (some a)) :: st) h Q) = (WP Gm j_Node_init 70 (ls) (st) (sI h a 11 x) Q) := (WP_at c_Node_init_67 _ _ _ _).trans (congrArg (fun o => ndX Gm (WP Gm) j_Node_init 67 o Q) (if_pos hk))
theorem c_Node_init_70 : mCode j_Node_init 70 = oAld 0 71 := rfl
theorem e_Node_init_70 (x : Option Nat) : (WP Gm j_Node_init 70 (some (.inr (.inl x)) :: ls) (st) h Q) = (WP Gm j_Node_init 71 (some (.inr (.inl x)) :: ls) (.inr (.inl x) :: st) (h) Q) := (WP_at c_Node_init_70 _ _ _ _)
theorem c_Node_init_71 : mCode j_Node_init 71 = oI 0 72 := rfl
theorem e_Node_init_71  : (WP Gm j_Node_init 71 (ls) (st) h Q) = (WP Gm j_Node_init 72 (ls) (.inl 0 :: st) (h) Q) := (WP_at c_Node_init_71 _ _ _ _)
theorem c_Node_init_72 : mCode j_Node_init 72 = oPutI kc_Node 12 75 := rfl
theorem e_Node_init_72 (a : Nat) (x : Int32) (hk : isK h a kc_Node = true) : (WP Gm j_Node_init 72 (ls) (.inl x :: .inr (.inl (some a)) :: st) h Q) = (WP Gm j_Node_init 75 (ls) (st) (sI h a 12 x) Q) := (WP_at c_Node_init_72 _ _ _ _).trans (congrArg (fun o => ndX Gm (WP Gm) j_Node_init 72 o Q) (if_pos hk))
theorem c_Node_init_75 : mCode j_Node_init 75 = oAld 0 76 := rfl
theorem e_Node_init_75 (x : Option Nat) : (WP Gm j_Node_init 75 (some (.inr (.inl x)) :: ls) (st) h Q) = (WP Gm j_Node_init 76 (some (.inr (.inl x)) :: ls) (.inr (.inl x) :: st) (h) Q) := (WP_at c_Node_init_75 _ _ _ _)
theorem c_Node_init_76 : mCode j_Node_init 76 = oI 0 77 := rfl
theorem e_Node_init_76  : (WP Gm j_Node_init 76 (ls) (st) h Q) = (WP Gm j_Node_init 77 (ls) (.inl 0 :: st) (h) Q) := (WP_at c_Node_init_76 _ _ _ _)
theorem c_Node_init_77 : mCode j_Node_init 77 = oPutI kc_Node 13 80 := rfl
theorem e_Node_init_77 (a : Nat) (x : Int32) (hk : isK h a kc_Node = true) : (WP Gm j_Node_init 77 (ls) (.inl x :: .inr (.inl (some a)) :: st) h Q) = (WP Gm j_Node_init 80 (ls) (st) (sI h a 13 x) Q) := (WP_at c_Node_init_77 _ _ _ _).trans (congrArg (fun o => ndX Gm (WP Gm) j_Node_init 77 o Q) (if_pos hk))
theorem c_Node_init_80 : mCode j_Node_init 80 = oAld 0 81 := rfl
theorem e_Node_init_80 (x : Option Nat) : (WP Gm j_Node_init 80 (some (.inr (.inl x)) :: ls) (st) h Q) = (WP Gm j_Node_init 81 (some (.inr (.inl x)) :: ls) (.inr (.inl x) :: st) (h) Q) := (WP_at c_Node_init_80 _ _ _ _)
theorem c_Node_init_81 : mCode j_Node_init 81 = oI 0 82 := rfl
theorem e_Node_init_81  : (WP Gm j_Node_init 81 (ls) (st) h Q) = (WP Gm j_Node_init 82 (ls) (.inl 0 :: st) (h) Q) := (WP_at c_Node_init_81 _ _ _ _)
theorem c_Node_init_82 : mCode j_Node_init 82 = oPutI kc_Node 14 85 := rfl
theorem e_Node_init_82 (a : Nat) (x : Int32) (hk : isK h a kc_Node = true) : (WP Gm j_Node_init 82 (ls) (.inl x :: .inr (.inl (some a)) :: st) h Q) = (WP Gm j_Node_init 85 (ls) (st) (sI h a 14 x) Q) := (WP_at c_Node_init_82 _ _ _ _).trans (congrArg (fun o => ndX Gm (WP Gm) j_Node_init 82 o Q) (if_pos hk))
theorem c_Node_init_85 : mCode j_Node_init 85 = oAld 0 86 := rfl
theorem e_Node_init_85 (x : Option Nat) : (WP Gm j_Node_init 85 (some (.inr (.inl x)) :: ls) (st) h Q) = (WP Gm j_Node_init 86 (some (.inr (.inl x)) :: ls) (.inr (.inl x) :: st) (h) Q) := (WP_at c_Node_init_85 _ _ _ _)
theorem c_Node_init_86 : mCode j_Node_init 86 = oNew cM sM kc_NumberSet 1 89 := rfl
theorem e_Node_init_86 (hr : okR cM sM h 1 1 = true) : (WP Gm j_Node_init 86 (ls) (st) h Q) = (WP Gm j_Node_init 89 (ls) (.inr (.inl (some (nx h))) :: st) (hN h kc_NumberSet 0 1) Q) := (WP_at c_Node_init_86 _ _ _ _).trans (congrArg (fun o => ndX Gm (WP Gm) j_Node_init 86 o Q) (if_pos hr))
theorem c_Node_init_89 : mCode j_Node_init 89 = oDup 90 := rfl
theorem e_Node_init_89 (x : Option Nat) : (WP Gm j_Node_init 89 (ls) (.inr (.inl x) :: st) h Q) = (WP Gm j_Node_init 90 (ls) (.inr (.inl x) :: .inr (.inl x) :: st) (h) Q) := (WP_at c_Node_init_89 _ _ _ _)
theorem c_Node_init_90 : mCode j_Node_init 90 = oCallV kc_NumberSet j_NumberSet_init 0 (mL j_NumberSet_init) 93 := rfl
theorem e_Node_init_90 (a : Nat) (hk : isK h a kc_NumberSet = true) (hc : c8 st = true) : (WP Gm j_Node_init 90 (ls) (.inr (.inl (some a)) :: st) h Q) = (WP Gm j_NumberSet_init 0 [some (.inr (.inl (some a)))] [] h (kC (fun v h2 => WP Gm j_Node_init 93 ls (v.toList ++ st) h2 Q) (fun E h2 => Q (.inr E) h2))) := (WP_at c_Node_init_90 _ _ _ _).trans (congrArg (fun o => ndX Gm (WP Gm) j_Node_init 90 o Q) (if_pos (by rw [hk, show decide (catS st ≤ 8) = true from hc]; rfl)))
theorem c_Node_init_93 : mCode j_Node_init 93 = oPutR kc_Node 15 96 := rfl
theorem e_Node_init_93 (a : Nat) (x : Option Nat) (hk : isK h a kc_Node = true) : (WP Gm j_Node_init 93 (ls) (.inr (.inl x) :: .inr (.inl (some a)) :: st) h Q) = (WP Gm j_Node_init 96 (ls) (st) (sR h a 15 x) Q) := (WP_at c_Node_init_93 _ _ _ _).trans (congrArg (fun o => ndX Gm (WP Gm) j_Node_init 93 o Q) (if_pos hk))
theorem c_Node_init_96 : mCode j_Node_init 96 = oRet := rfl
theorem e_Node_init_96  : (WP Gm j_Node_init 96 (ls) ([]) h Q) = (Q (.inl none) h) := (WP_at c_Node_init_96 _ _ _ _)
theorem c_Node_isSending_0 : mCode j_Node_isSending 0 = oAld 0 1 := rfl
theorem e_Node_isSending_0 (x : Option Nat) : (WP Gm j_Node_isSending 0 (some (.inr (.inl x)) :: ls) (st) h Q) = (WP Gm j_Node_isSending 1 (some (.inr (.inl x)) :: ls) (.inr (.inl x) :: st) (h) Q) := (WP_at c_Node_isSending_0 _ _ _ _)
theorem c_Node_isSending_1 : mCode j_Node_isSending 1 = oGetI kc_Node 7 4 := rfl
theorem e_Node_isSending_1 (a : Nat) (hk : isK h a kc_Node = true) : (WP Gm j_Node_isSending 1 (ls) (.inr (.inl (some a)) :: st) h Q) = (WP Gm j_Node_isSending 4 (ls) (.inl (gI h a 7) :: st) (h) Q) := (WP_at c_Node_isSending_1 _ _ _ _).trans (congrArg (fun o => ndX Gm (WP Gm) j_Node_isSending 1 o Q) (if_pos hk))
theorem c_Node_isSending_4 : mCode j_Node_isSending 4 = oIf (fun x => decide (x ≤ 0)) 11 7 := rfl
theorem e_Node_isSending_4 (x : Int32) : (WP Gm j_Node_isSending 4 (ls) (.inl x :: st) h Q) = (if x ≤ 0 then WP Gm j_Node_isSending 11 (ls) (st) (h) Q else WP Gm j_Node_isSending 7 (ls) (st) (h) Q) := (WP_at c_Node_isSending_4 _ _ _ _).trans (nd_if rfl _ _ _ _)
theorem c_Node_isSending_7 : mCode j_Node_isSending 7 = oI 1 8 := rfl
theorem e_Node_isSending_7  : (WP Gm j_Node_isSending 7 (ls) (st) h Q) = (WP Gm j_Node_isSending 8 (ls) (.inl 1 :: st) (h) Q) := (WP_at c_Node_isSending_7 _ _ _ _)
theorem c_Node_isSending_8 : mCode j_Node_isSending 8 = oGo 12 := rfl
theorem e_Node_isSending_8  : (WP Gm j_Node_isSending 8 (ls) (st) h Q) = (WP Gm j_Node_isSending 12 (ls) (st) (h) Q) := (WP_at c_Node_isSending_8 _ _ _ _)
theorem c_Node_isSending_11 : mCode j_Node_isSending 11 = oI 0 12 := rfl
theorem e_Node_isSending_11  : (WP Gm j_Node_isSending 11 (ls) (st) h Q) = (WP Gm j_Node_isSending 12 (ls) (.inl 0 :: st) (h) Q) := (WP_at c_Node_isSending_11 _ _ _ _)
theorem c_Node_isSending_12 : mCode j_Node_isSending 12 = oRetZ := rfl
theorem e_Node_isSending_12 (x : Int32) (hx : x = 0 ∨ x = 1) : (WP Gm j_Node_isSending 12 (ls) ([.inl x]) h Q) = (Q (.inl (some (.inl x))) h) := (WP_at c_Node_isSending_12 _ _ _ _).trans (congrArg (fun o => ndX Gm (WP Gm) j_Node_isSending 12 o Q) (if_pos (by rcases hx with rfl | rfl <;> rfl)))
theorem c_Node_begin_0 : mCode j_Node_begin 0 = oAld 0 1 := rfl
theorem e_Node_begin_0 (x : Option Nat) : (WP Gm j_Node_begin 0 (some (.inr (.inl x)) :: ls) (st) h Q) = (WP Gm j_Node_begin 1 (some (.inr (.inl x)) :: ls) (.inr (.inl x) :: st) (h) Q) := (WP_at c_Node_begin_0 _ _ _ _)
theorem c_Node_begin_1 : mCode j_Node_begin 1 = oDup 2 := rfl
theorem e_Node_begin_1 (x : Option Nat) : (WP Gm j_Node_begin 1 (ls) (.inr (.inl x) :: st) h Q) = (WP Gm j_Node_begin 2 (ls) (.inr (.inl x) :: .inr (.inl x) :: st) (h) Q) := (WP_at c_Node_begin_1 _ _ _ _)
theorem c_Node_begin_2 : mCode j_Node_begin 2 = oGetI kc_Node 11 5 := rfl
theorem e_Node_begin_2 (a : Nat) (hk : isK h a kc_Node = true) : (WP Gm j_Node_begin 2 (ls) (.inr (.inl (some a)) :: st) h Q) = (WP Gm j_Node_begin 5 (ls) (.inl (gI h a 11) :: st) (h) Q) := (WP_at c_Node_begin_2 _ _ _ _).trans (congrArg (fun o => ndX Gm (WP Gm) j_Node_begin 2 o Q) (if_pos hk))
theorem c_Node_begin_5 : mCode j_Node_begin 5 = oI 1 6 := rfl
theorem e_Node_begin_5  : (WP Gm j_Node_begin 5 (ls) (st) h Q) = (WP Gm j_Node_begin 6 (ls) (.inl 1 :: st) (h) Q) := (WP_at c_Node_begin_5 _ _ _ _)
theorem c_Node_begin_6 : mCode j_Node_begin 6 = oII (fun x y => x + y) 7 := rfl
theorem e_Node_begin_6 (x : Int32) (y : Int32) : (WP Gm j_Node_begin 6 (ls) (.inl y :: .inl x :: st) h Q) = (WP Gm j_Node_begin 7 (ls) (.inl (x + y) :: st) (h) Q) := (WP_at c_Node_begin_6 _ _ _ _)
theorem c_Node_begin_7 : mCode j_Node_begin 7 = oPutI kc_Node 11 10 := rfl
theorem e_Node_begin_7 (a : Nat) (x : Int32) (hk : isK h a kc_Node = true) : (WP Gm j_Node_begin 7 (ls) (.inl x :: .inr (.inl (some a)) :: st) h Q) = (WP Gm j_Node_begin 10 (ls) (st) (sI h a 11 x) Q) := (WP_at c_Node_begin_7 _ _ _ _).trans (congrArg (fun o => ndX Gm (WP Gm) j_Node_begin 7 o Q) (if_pos hk))
theorem c_Node_begin_10 : mCode j_Node_begin 10 = oAld 0 11 := rfl
theorem e_Node_begin_10 (x : Option Nat) : (WP Gm j_Node_begin 10 (some (.inr (.inl x)) :: ls) (st) h Q) = (WP Gm j_Node_begin 11 (some (.inr (.inl x)) :: ls) (.inr (.inl x) :: st) (h) Q) := (WP_at c_Node_begin_10 _ _ _ _)
theorem c_Node_begin_11 : mCode j_Node_begin 11 = oIld 1 12 := rfl
theorem e_Node_begin_11 (a0 : Option MV) (x : Int32) : (WP Gm j_Node_begin 11 (a0 :: some (.inl x) :: ls) (st) h Q) = (WP Gm j_Node_begin 12 (a0 :: some (.inl x) :: ls) (.inl x :: st) (h) Q) := (WP_at c_Node_begin_11 _ _ _ _)
theorem c_Node_begin_12 : mCode j_Node_begin 12 = oPutI kc_Node 7 15 := rfl
theorem e_Node_begin_12 (a : Nat) (x : Int32) (hk : isK h a kc_Node = true) : (WP Gm j_Node_begin 12 (ls) (.inl x :: .inr (.inl (some a)) :: st) h Q) = (WP Gm j_Node_begin 15 (ls) (st) (sI h a 7 x) Q) := (WP_at c_Node_begin_12 _ _ _ _).trans (congrArg (fun o => ndX Gm (WP Gm) j_Node_begin 12 o Q) (if_pos hk))
theorem c_Node_begin_15 : mCode j_Node_begin 15 = oAld 0 16 := rfl
theorem e_Node_begin_15 (x : Option Nat) : (WP Gm j_Node_begin 15 (some (.inr (.inl x)) :: ls) (st) h Q) = (WP Gm j_Node_begin 16 (some (.inr (.inl x)) :: ls) (.inr (.inl x) :: st) (h) Q) := (WP_at c_Node_begin_15 _ _ _ _)
theorem c_Node_begin_16 : mCode j_Node_begin 16 = oIld 2 17 := rfl
theorem e_Node_begin_16 (a0 a1 : Option MV) (x : Int32) : (WP Gm j_Node_begin 16 (a0 :: a1 :: some (.inl x) :: ls) (st) h Q) = (WP Gm j_Node_begin 17 (a0 :: a1 :: some (.inl x) :: ls) (.inl x :: st) (h) Q) := (WP_at c_Node_begin_16 _ _ _ _)
theorem c_Node_begin_17 : mCode j_Node_begin 17 = oPutI kc_Node 8 20 := rfl
theorem e_Node_begin_17 (a : Nat) (x : Int32) (hk : isK h a kc_Node = true) : (WP Gm j_Node_begin 17 (ls) (.inl x :: .inr (.inl (some a)) :: st) h Q) = (WP Gm j_Node_begin 20 (ls) (st) (sI h a 8 x) Q) := (WP_at c_Node_begin_17 _ _ _ _).trans (congrArg (fun o => ndX Gm (WP Gm) j_Node_begin 17 o Q) (if_pos hk))
theorem c_Node_begin_20 : mCode j_Node_begin 20 = oAld 0 21 := rfl
theorem e_Node_begin_20 (x : Option Nat) : (WP Gm j_Node_begin 20 (some (.inr (.inl x)) :: ls) (st) h Q) = (WP Gm j_Node_begin 21 (some (.inr (.inl x)) :: ls) (.inr (.inl x) :: st) (h) Q) := (WP_at c_Node_begin_20 _ _ _ _)
theorem c_Node_begin_21 : mCode j_Node_begin 21 = oI 1 22 := rfl
theorem e_Node_begin_21  : (WP Gm j_Node_begin 21 (ls) (st) h Q) = (WP Gm j_Node_begin 22 (ls) (.inl 1 :: st) (h) Q) := (WP_at c_Node_begin_21 _ _ _ _)
theorem c_Node_begin_22 : mCode j_Node_begin 22 = oPutZ kc_Node 9 25 := rfl
theorem e_Node_begin_22 (a : Nat) (x : Int32) (hk : isK h a kc_Node = true) (hx : x = 0 ∨ x = 1) : (WP Gm j_Node_begin 22 (ls) (.inl x :: .inr (.inl (some a)) :: st) h Q) = (WP Gm j_Node_begin 25 (ls) (st) (sI h a 9 x) Q) := (WP_at c_Node_begin_22 _ _ _ _).trans (congrArg (fun o => ndX Gm (WP Gm) j_Node_begin 22 o Q) (if_pos (by rw [hk]; rcases hx with rfl | rfl <;> rfl)))
theorem c_Node_begin_25 : mCode j_Node_begin 25 = oRet := rfl
theorem e_Node_begin_25  : (WP Gm j_Node_begin 25 (ls) ([]) h Q) = (Q (.inl none) h) := (WP_at c_Node_begin_25 _ _ _ _)
theorem c_Node_finishFirst_0 : mCode j_Node_finishFirst 0 = oAld 0 1 := rfl
theorem e_Node_finishFirst_0 (x : Option Nat) : (WP Gm j_Node_finishFirst 0 (some (.inr (.inl x)) :: ls) (st) h Q) = (WP Gm j_Node_finishFirst 1 (some (.inr (.inl x)) :: ls) (.inr (.inl x) :: st) (h) Q) := (WP_at c_Node_finishFirst_0 _ _ _ _)
theorem c_Node_finishFirst_1 : mCode j_Node_finishFirst 1 = oGetR kc_Node 4 4 := rfl
theorem e_Node_finishFirst_1 (a : Nat) (hk : isK h a kc_Node = true) : (WP Gm j_Node_finishFirst 1 (ls) (.inr (.inl (some a)) :: st) h Q) = (WP Gm j_Node_finishFirst 4 (ls) (.inr (.inl (gR h a 4)) :: st) (h) Q) := (WP_at c_Node_finishFirst_1 _ _ _ _).trans (congrArg (fun o => ndX Gm (WP Gm) j_Node_finishFirst 1 o Q) (if_pos hk))
theorem c_Node_finishFirst_4 : mCode j_Node_finishFirst 4 = oCallV kc_FrameQueue j_FrameQueue_removeFirst 0 (mL j_FrameQueue_removeFirst) 7 := rfl
theorem e_Node_finishFirst_4 (a : Nat) (hk : isK h a kc_FrameQueue = true) (hc : c8 st = true) : (WP Gm j_Node_finishFirst 4 (ls) (.inr (.inl (some a)) :: st) h Q) = (WP Gm j_FrameQueue_removeFirst 0 [some (.inr (.inl (some a))), none, none] [] h (kC (fun v h2 => WP Gm j_Node_finishFirst 7 ls (v.toList ++ st) h2 Q) (fun E h2 => Q (.inr E) h2))) := (WP_at c_Node_finishFirst_4 _ _ _ _).trans (congrArg (fun o => ndX Gm (WP Gm) j_Node_finishFirst 4 o Q) (if_pos (by rw [hk, show decide (catS st ≤ 8) = true from hc]; rfl)))
theorem c_Node_finishFirst_7 : mCode j_Node_finishFirst 7 = oAld 0 8 := rfl
theorem e_Node_finishFirst_7 (x : Option Nat) : (WP Gm j_Node_finishFirst 7 (some (.inr (.inl x)) :: ls) (st) h Q) = (WP Gm j_Node_finishFirst 8 (some (.inr (.inl x)) :: ls) (.inr (.inl x) :: st) (h) Q) := (WP_at c_Node_finishFirst_7 _ _ _ _)
theorem c_Node_finishFirst_8 : mCode j_Node_finishFirst 8 = oI 0 9 := rfl
theorem e_Node_finishFirst_8  : (WP Gm j_Node_finishFirst 8 (ls) (st) h Q) = (WP Gm j_Node_finishFirst 9 (ls) (.inl 0 :: st) (h) Q) := (WP_at c_Node_finishFirst_8 _ _ _ _)
theorem c_Node_finishFirst_9 : mCode j_Node_finishFirst 9 = oPutI kc_Node 6 12 := rfl
theorem e_Node_finishFirst_9 (a : Nat) (x : Int32) (hk : isK h a kc_Node = true) : (WP Gm j_Node_finishFirst 9 (ls) (.inl x :: .inr (.inl (some a)) :: st) h Q) = (WP Gm j_Node_finishFirst 12 (ls) (st) (sI h a 6 x) Q) := (WP_at c_Node_finishFirst_9 _ _ _ _).trans (congrArg (fun o => ndX Gm (WP Gm) j_Node_finishFirst 9 o Q) (if_pos hk))
theorem c_Node_finishFirst_12 : mCode j_Node_finishFirst 12 = oRet := rfl
theorem e_Node_finishFirst_12  : (WP Gm j_Node_finishFirst 12 (ls) ([]) h Q) = (Q (.inl none) h) := (WP_at c_Node_finishFirst_12 _ _ _ _)
theorem c_Node_waitAgain_0 : mCode j_Node_waitAgain 0 = oAld 0 1 := rfl
theorem e_Node_waitAgain_0 (x : Option Nat) : (WP Gm j_Node_waitAgain 0 (some (.inr (.inl x)) :: ls) (st) h Q) = (WP Gm j_Node_waitAgain 1 (some (.inr (.inl x)) :: ls) (.inr (.inl x) :: st) (h) Q) := (WP_at c_Node_waitAgain_0 _ _ _ _)
theorem c_Node_waitAgain_1 : mCode j_Node_waitAgain 1 = oIld 1 2 := rfl
theorem e_Node_waitAgain_1 (a0 : Option MV) (x : Int32) : (WP Gm j_Node_waitAgain 1 (a0 :: some (.inl x) :: ls) (st) h Q) = (WP Gm j_Node_waitAgain 2 (a0 :: some (.inl x) :: ls) (.inl x :: st) (h) Q) := (WP_at c_Node_waitAgain_1 _ _ _ _)
theorem c_Node_waitAgain_2 : mCode j_Node_waitAgain 2 = oPutI kc_Node 5 5 := rfl
theorem e_Node_waitAgain_2 (a : Nat) (x : Int32) (hk : isK h a kc_Node = true) : (WP Gm j_Node_waitAgain 2 (ls) (.inl x :: .inr (.inl (some a)) :: st) h Q) = (WP Gm j_Node_waitAgain 5 (ls) (st) (sI h a 5 x) Q) := (WP_at c_Node_waitAgain_2 _ _ _ _).trans (congrArg (fun o => ndX Gm (WP Gm) j_Node_waitAgain 2 o Q) (if_pos hk))
theorem c_Node_waitAgain_5 : mCode j_Node_waitAgain 5 = oAld 0 6 := rfl
theorem e_Node_waitAgain_5 (x : Option Nat) : (WP Gm j_Node_waitAgain 5 (some (.inr (.inl x)) :: ls) (st) h Q) = (WP Gm j_Node_waitAgain 6 (some (.inr (.inl x)) :: ls) (.inr (.inl x) :: st) (h) Q) := (WP_at c_Node_waitAgain_5 _ _ _ _)
theorem c_Node_waitAgain_6 : mCode j_Node_waitAgain 6 = oDup 7 := rfl
theorem e_Node_waitAgain_6 (x : Option Nat) : (WP Gm j_Node_waitAgain 6 (ls) (.inr (.inl x) :: st) h Q) = (WP Gm j_Node_waitAgain 7 (ls) (.inr (.inl x) :: .inr (.inl x) :: st) (h) Q) := (WP_at c_Node_waitAgain_6 _ _ _ _)
theorem c_Node_waitAgain_7 : mCode j_Node_waitAgain 7 = oGetI kc_Node 12 10 := rfl
theorem e_Node_waitAgain_7 (a : Nat) (hk : isK h a kc_Node = true) : (WP Gm j_Node_waitAgain 7 (ls) (.inr (.inl (some a)) :: st) h Q) = (WP Gm j_Node_waitAgain 10 (ls) (.inl (gI h a 12) :: st) (h) Q) := (WP_at c_Node_waitAgain_7 _ _ _ _).trans (congrArg (fun o => ndX Gm (WP Gm) j_Node_waitAgain 7 o Q) (if_pos hk))
theorem c_Node_waitAgain_10 : mCode j_Node_waitAgain 10 = oIld 1 11 := rfl
theorem e_Node_waitAgain_10 (a0 : Option MV) (x : Int32) : (WP Gm j_Node_waitAgain 10 (a0 :: some (.inl x) :: ls) (st) h Q) = (WP Gm j_Node_waitAgain 11 (a0 :: some (.inl x) :: ls) (.inl x :: st) (h) Q) := (WP_at c_Node_waitAgain_10 _ _ _ _)
theorem c_Node_waitAgain_11 : mCode j_Node_waitAgain 11 = oII (fun x y => x + y) 12 := rfl
theorem e_Node_waitAgain_11 (x : Int32) (y : Int32) : (WP Gm j_Node_waitAgain 11 (ls) (.inl y :: .inl x :: st) h Q) = (WP Gm j_Node_waitAgain 12 (ls) (.inl (x + y) :: st) (h) Q) := (WP_at c_Node_waitAgain_11 _ _ _ _)
theorem c_Node_waitAgain_12 : mCode j_Node_waitAgain 12 = oPutI kc_Node 12 15 := rfl
theorem e_Node_waitAgain_12 (a : Nat) (x : Int32) (hk : isK h a kc_Node = true) : (WP Gm j_Node_waitAgain 12 (ls) (.inl x :: .inr (.inl (some a)) :: st) h Q) = (WP Gm j_Node_waitAgain 15 (ls) (st) (sI h a 12 x) Q) := (WP_at c_Node_waitAgain_12 _ _ _ _).trans (congrArg (fun o => ndX Gm (WP Gm) j_Node_waitAgain 12 o Q) (if_pos hk))
theorem c_Node_waitAgain_15 : mCode j_Node_waitAgain 15 = oAld 0 16 := rfl
theorem e_Node_waitAgain_15 (x : Option Nat) : (WP Gm j_Node_waitAgain 15 (some (.inr (.inl x)) :: ls) (st) h Q) = (WP Gm j_Node_waitAgain 16 (some (.inr (.inl x)) :: ls) (.inr (.inl x) :: st) (h) Q) := (WP_at c_Node_waitAgain_15 _ _ _ _)
theorem c_Node_waitAgain_16 : mCode j_Node_waitAgain 16 = oDup 17 := rfl
theorem e_Node_waitAgain_16 (x : Option Nat) : (WP Gm j_Node_waitAgain 16 (ls) (.inr (.inl x) :: st) h Q) = (WP Gm j_Node_waitAgain 17 (ls) (.inr (.inl x) :: .inr (.inl x) :: st) (h) Q) := (WP_at c_Node_waitAgain_16 _ _ _ _)
theorem c_Node_waitAgain_17 : mCode j_Node_waitAgain 17 = oGetI kc_Node 13 20 := rfl
theorem e_Node_waitAgain_17 (a : Nat) (hk : isK h a kc_Node = true) : (WP Gm j_Node_waitAgain 17 (ls) (.inr (.inl (some a)) :: st) h Q) = (WP Gm j_Node_waitAgain 20 (ls) (.inl (gI h a 13) :: st) (h) Q) := (WP_at c_Node_waitAgain_17 _ _ _ _).trans (congrArg (fun o => ndX Gm (WP Gm) j_Node_waitAgain 17 o Q) (if_pos hk))
theorem c_Node_waitAgain_20 : mCode j_Node_waitAgain 20 = oI 1 21 := rfl
theorem e_Node_waitAgain_20  : (WP Gm j_Node_waitAgain 20 (ls) (st) h Q) = (WP Gm j_Node_waitAgain 21 (ls) (.inl 1 :: st) (h) Q) := (WP_at c_Node_waitAgain_20 _ _ _ _)
theorem c_Node_waitAgain_21 : mCode j_Node_waitAgain 21 = oII (fun x y => x + y) 22 := rfl
theorem e_Node_waitAgain_21 (x : Int32) (y : Int32) : (WP Gm j_Node_waitAgain 21 (ls) (.inl y :: .inl x :: st) h Q) = (WP Gm j_Node_waitAgain 22 (ls) (.inl (x + y) :: st) (h) Q) := (WP_at c_Node_waitAgain_21 _ _ _ _)
theorem c_Node_waitAgain_22 : mCode j_Node_waitAgain 22 = oPutI kc_Node 13 25 := rfl
theorem e_Node_waitAgain_22 (a : Nat) (x : Int32) (hk : isK h a kc_Node = true) : (WP Gm j_Node_waitAgain 22 (ls) (.inl x :: .inr (.inl (some a)) :: st) h Q) = (WP Gm j_Node_waitAgain 25 (ls) (st) (sI h a 13 x) Q) := (WP_at c_Node_waitAgain_22 _ _ _ _).trans (congrArg (fun o => ndX Gm (WP Gm) j_Node_waitAgain 22 o Q) (if_pos hk))
theorem c_Node_waitAgain_25 : mCode j_Node_waitAgain 25 = oRet := rfl
theorem e_Node_waitAgain_25  : (WP Gm j_Node_waitAgain 25 (ls) ([]) h Q) = (Q (.inl none) h) := (WP_at c_Node_waitAgain_25 _ _ _ _)
theorem c_Node_sign_0 : mCode j_Node_sign 0 = oAld 0 1 := rfl
theorem e_Node_sign_0 (x : Option Nat) : (WP Gm j_Node_sign 0 (some (.inr (.inl x)) :: ls) (st) h Q) = (WP Gm j_Node_sign 1 (some (.inr (.inl x)) :: ls) (.inr (.inl x) :: st) (h) Q) := (WP_at c_Node_sign_0 _ _ _ _)
theorem c_Node_sign_1 : mCode j_Node_sign 1 = oCallV kc_Node j_Node_isSending 0 (mL j_Node_isSending) 4 := rfl
theorem e_Node_sign_1 (a : Nat) (hk : isK h a kc_Node = true) (hc : c8 st = true) : (WP Gm j_Node_sign 1 (ls) (.inr (.inl (some a)) :: st) h Q) = (WP Gm j_Node_isSending 0 [some (.inr (.inl (some a)))] [] h (kC (fun v h2 => WP Gm j_Node_sign 4 ls (v.toList ++ st) h2 Q) (fun E h2 => Q (.inr E) h2))) := (WP_at c_Node_sign_1 _ _ _ _).trans (congrArg (fun o => ndX Gm (WP Gm) j_Node_sign 1 o Q) (if_pos (by rw [hk, show decide (catS st ≤ 8) = true from hc]; rfl)))
theorem c_Node_sign_4 : mCode j_Node_sign 4 = oIf (fun x => decide (x = 0)) 10 7 := rfl
theorem e_Node_sign_4 (x : Int32) : (WP Gm j_Node_sign 4 (ls) (.inl x :: st) h Q) = (if x = 0 then WP Gm j_Node_sign 10 (ls) (st) (h) Q else WP Gm j_Node_sign 7 (ls) (st) (h) Q) := (WP_at c_Node_sign_4 _ _ _ _).trans (nd_if rfl _ _ _ _)
theorem c_Node_sign_7 : mCode j_Node_sign 7 = oI 84 9 := rfl
theorem e_Node_sign_7  : (WP Gm j_Node_sign 7 (ls) (st) h Q) = (WP Gm j_Node_sign 9 (ls) (.inl 84 :: st) (h) Q) := (WP_at c_Node_sign_7 _ _ _ _)
theorem c_Node_sign_9 : mCode j_Node_sign 9 = oRetC := rfl
theorem e_Node_sign_9 (x : Int32) (hx : x.toUInt32.toUInt16.toUInt32.toInt32 = x) : (WP Gm j_Node_sign 9 (ls) ([.inl x]) h Q) = (Q (.inl (some (.inl x))) h) := (WP_at c_Node_sign_9 _ _ _ _).trans (congrArg (fun o => ndX Gm (WP Gm) j_Node_sign 9 o Q) (if_pos hx))
theorem c_Node_sign_10 : mCode j_Node_sign 10 = oAld 0 11 := rfl
theorem e_Node_sign_10 (x : Option Nat) : (WP Gm j_Node_sign 10 (some (.inr (.inl x)) :: ls) (st) h Q) = (WP Gm j_Node_sign 11 (some (.inr (.inl x)) :: ls) (.inr (.inl x) :: st) (h) Q) := (WP_at c_Node_sign_10 _ _ _ _)
theorem c_Node_sign_11 : mCode j_Node_sign 11 = oGetI kc_Node 5 14 := rfl
theorem e_Node_sign_11 (a : Nat) (hk : isK h a kc_Node = true) : (WP Gm j_Node_sign 11 (ls) (.inr (.inl (some a)) :: st) h Q) = (WP Gm j_Node_sign 14 (ls) (.inl (gI h a 5) :: st) (h) Q) := (WP_at c_Node_sign_11 _ _ _ _).trans (congrArg (fun o => ndX Gm (WP Gm) j_Node_sign 11 o Q) (if_pos hk))
theorem c_Node_sign_14 : mCode j_Node_sign 14 = oIf (fun x => decide (x ≤ 0)) 20 17 := rfl
theorem e_Node_sign_14 (x : Int32) : (WP Gm j_Node_sign 14 (ls) (.inl x :: st) h Q) = (if x ≤ 0 then WP Gm j_Node_sign 20 (ls) (st) (h) Q else WP Gm j_Node_sign 17 (ls) (st) (h) Q) := (WP_at c_Node_sign_14 _ _ _ _).trans (nd_if rfl _ _ _ _)
theorem c_Node_sign_17 : mCode j_Node_sign 17 = oI 119 19 := rfl
theorem e_Node_sign_17  : (WP Gm j_Node_sign 17 (ls) (st) h Q) = (WP Gm j_Node_sign 19 (ls) (.inl 119 :: st) (h) Q) := (WP_at c_Node_sign_17 _ _ _ _)
theorem c_Node_sign_19 : mCode j_Node_sign 19 = oRetC := rfl
theorem e_Node_sign_19 (x : Int32) (hx : x.toUInt32.toUInt16.toUInt32.toInt32 = x) : (WP Gm j_Node_sign 19 (ls) ([.inl x]) h Q) = (Q (.inl (some (.inl x))) h) := (WP_at c_Node_sign_19 _ _ _ _).trans (congrArg (fun o => ndX Gm (WP Gm) j_Node_sign 19 o Q) (if_pos hx))
theorem c_Node_sign_20 : mCode j_Node_sign 20 = oAld 0 21 := rfl
theorem e_Node_sign_20 (x : Option Nat) : (WP Gm j_Node_sign 20 (some (.inr (.inl x)) :: ls) (st) h Q) = (WP Gm j_Node_sign 21 (some (.inr (.inl x)) :: ls) (.inr (.inl x) :: st) (h) Q) := (WP_at c_Node_sign_20 _ _ _ _)
theorem c_Node_sign_21 : mCode j_Node_sign 21 = oGetR kc_Node 4 24 := rfl
theorem e_Node_sign_21 (a : Nat) (hk : isK h a kc_Node = true) : (WP Gm j_Node_sign 21 (ls) (.inr (.inl (some a)) :: st) h Q) = (WP Gm j_Node_sign 24 (ls) (.inr (.inl (gR h a 4)) :: st) (h) Q) := (WP_at c_Node_sign_21 _ _ _ _).trans (congrArg (fun o => ndX Gm (WP Gm) j_Node_sign 21 o Q) (if_pos hk))
theorem c_Node_sign_24 : mCode j_Node_sign 24 = oGetI kc_FrameQueue 1 27 := rfl
theorem e_Node_sign_24 (a : Nat) (hk : isK h a kc_FrameQueue = true) : (WP Gm j_Node_sign 24 (ls) (.inr (.inl (some a)) :: st) h Q) = (WP Gm j_Node_sign 27 (ls) (.inl (gI h a 1) :: st) (h) Q) := (WP_at c_Node_sign_24 _ _ _ _).trans (congrArg (fun o => ndX Gm (WP Gm) j_Node_sign 24 o Q) (if_pos hk))
theorem c_Node_sign_27 : mCode j_Node_sign 27 = oIf (fun x => decide (x ≤ 0)) 35 30 := rfl
theorem e_Node_sign_27 (x : Int32) : (WP Gm j_Node_sign 27 (ls) (.inl x :: st) h Q) = (if x ≤ 0 then WP Gm j_Node_sign 35 (ls) (st) (h) Q else WP Gm j_Node_sign 30 (ls) (st) (h) Q) := (WP_at c_Node_sign_27 _ _ _ _).trans (nd_if rfl _ _ _ _)
theorem c_Node_sign_30 : mCode j_Node_sign 30 = oI 113 32 := rfl
theorem e_Node_sign_30  : (WP Gm j_Node_sign 30 (ls) (st) h Q) = (WP Gm j_Node_sign 32 (ls) (.inl 113 :: st) (h) Q) := (WP_at c_Node_sign_30 _ _ _ _)
theorem c_Node_sign_32 : mCode j_Node_sign 32 = oGo 37 := rfl
theorem e_Node_sign_32  : (WP Gm j_Node_sign 32 (ls) (st) h Q) = (WP Gm j_Node_sign 37 (ls) (st) (h) Q) := (WP_at c_Node_sign_32 _ _ _ _)
theorem c_Node_sign_35 : mCode j_Node_sign 35 = oI 46 37 := rfl
theorem e_Node_sign_35  : (WP Gm j_Node_sign 35 (ls) (st) h Q) = (WP Gm j_Node_sign 37 (ls) (.inl 46 :: st) (h) Q) := (WP_at c_Node_sign_35 _ _ _ _)
theorem c_Node_sign_37 : mCode j_Node_sign 37 = oRetC := rfl
theorem e_Node_sign_37 (x : Int32) (hx : x.toUInt32.toUInt16.toUInt32.toInt32 = x) : (WP Gm j_Node_sign 37 (ls) ([.inl x]) h Q) = (Q (.inl (some (.inl x))) h) := (WP_at c_Node_sign_37 _ _ _ _).trans (congrArg (fun o => ndX Gm (WP Gm) j_Node_sign 37 o Q) (if_pos hx))
theorem c_Node_isInOrder_0 : mCode j_Node_isInOrder 0 = oAld 0 1 := rfl
theorem e_Node_isInOrder_0 (x : Option Nat) : (WP Gm j_Node_isInOrder 0 (some (.inr (.inl x)) :: ls) (st) h Q) = (WP Gm j_Node_isInOrder 1 (some (.inr (.inl x)) :: ls) (.inr (.inl x) :: st) (h) Q) := (WP_at c_Node_isInOrder_0 _ _ _ _)
theorem c_Node_isInOrder_1 : mCode j_Node_isInOrder 1 = oGetI kc_Node 7 4 := rfl
theorem e_Node_isInOrder_1 (a : Nat) (hk : isK h a kc_Node = true) : (WP Gm j_Node_isInOrder 1 (ls) (.inr (.inl (some a)) :: st) h Q) = (WP Gm j_Node_isInOrder 4 (ls) (.inl (gI h a 7) :: st) (h) Q) := (WP_at c_Node_isInOrder_1 _ _ _ _).trans (congrArg (fun o => ndX Gm (WP Gm) j_Node_isInOrder 1 o Q) (if_pos hk))
theorem c_Node_isInOrder_4 : mCode j_Node_isInOrder 4 = oIf (fun x => decide (x = 0)) 29 7 := rfl
theorem e_Node_isInOrder_4 (x : Int32) : (WP Gm j_Node_isInOrder 4 (ls) (.inl x :: st) h Q) = (if x = 0 then WP Gm j_Node_isInOrder 29 (ls) (st) (h) Q else WP Gm j_Node_isInOrder 7 (ls) (st) (h) Q) := (WP_at c_Node_isInOrder_4 _ _ _ _).trans (nd_if rfl _ _ _ _)
theorem c_Node_isInOrder_7 : mCode j_Node_isInOrder 7 = oAld 0 8 := rfl
theorem e_Node_isInOrder_7 (x : Option Nat) : (WP Gm j_Node_isInOrder 7 (some (.inr (.inl x)) :: ls) (st) h Q) = (WP Gm j_Node_isInOrder 8 (some (.inr (.inl x)) :: ls) (.inr (.inl x) :: st) (h) Q) := (WP_at c_Node_isInOrder_7 _ _ _ _)
theorem c_Node_isInOrder_8 : mCode j_Node_isInOrder 8 = oGetR kc_Node 4 11 := rfl
theorem e_Node_isInOrder_8 (a : Nat) (hk : isK h a kc_Node = true) : (WP Gm j_Node_isInOrder 8 (ls) (.inr (.inl (some a)) :: st) h Q) = (WP Gm j_Node_isInOrder 11 (ls) (.inr (.inl (gR h a 4)) :: st) (h) Q) := (WP_at c_Node_isInOrder_8 _ _ _ _).trans (congrArg (fun o => ndX Gm (WP Gm) j_Node_isInOrder 8 o Q) (if_pos hk))
theorem c_Node_isInOrder_11 : mCode j_Node_isInOrder 11 = oGetI kc_FrameQueue 1 14 := rfl
theorem e_Node_isInOrder_11 (a : Nat) (hk : isK h a kc_FrameQueue = true) : (WP Gm j_Node_isInOrder 11 (ls) (.inr (.inl (some a)) :: st) h Q) = (WP Gm j_Node_isInOrder 14 (ls) (.inl (gI h a 1) :: st) (h) Q) := (WP_at c_Node_isInOrder_11 _ _ _ _).trans (congrArg (fun o => ndX Gm (WP Gm) j_Node_isInOrder 11 o Q) (if_pos hk))
theorem c_Node_isInOrder_14 : mCode j_Node_isInOrder 14 = oIf (fun x => decide (x ≤ 0)) 33 17 := rfl
theorem e_Node_isInOrder_14 (x : Int32) : (WP Gm j_Node_isInOrder 14 (ls) (.inl x :: st) h Q) = (if x ≤ 0 then WP Gm j_Node_isInOrder 33 (ls) (st) (h) Q else WP Gm j_Node_isInOrder 17 (ls) (st) (h) Q) := (WP_at c_Node_isInOrder_14 _ _ _ _).trans (nd_if rfl _ _ _ _)
theorem c_Node_isInOrder_17 : mCode j_Node_isInOrder 17 = oAld 0 18 := rfl
theorem e_Node_isInOrder_17 (x : Option Nat) : (WP Gm j_Node_isInOrder 17 (some (.inr (.inl x)) :: ls) (st) h Q) = (WP Gm j_Node_isInOrder 18 (some (.inr (.inl x)) :: ls) (.inr (.inl x) :: st) (h) Q) := (WP_at c_Node_isInOrder_17 _ _ _ _)
theorem c_Node_isInOrder_18 : mCode j_Node_isInOrder 18 = oGetI kc_Node 7 21 := rfl
theorem e_Node_isInOrder_18 (a : Nat) (hk : isK h a kc_Node = true) : (WP Gm j_Node_isInOrder 18 (ls) (.inr (.inl (some a)) :: st) h Q) = (WP Gm j_Node_isInOrder 21 (ls) (.inl (gI h a 7) :: st) (h) Q) := (WP_at c_Node_isInOrder_18 _ _ _ _).trans (congrArg (fun o => ndX Gm (WP Gm) j_Node_isInOrder 18 o Q) (if_pos hk))
theorem c_Node_isInOrder_21 : mCode j_Node_isInOrder 21 = oI 1 22 := rfl
theorem e_Node_isInOrder_21  : (WP Gm j_Node_isInOrder 21 (ls) (st) h Q) = (WP Gm j_Node_isInOrder 22 (ls) (.inl 1 :: st) (h) Q) := (WP_at c_Node_isInOrder_21 _ _ _ _)
theorem c_Node_isInOrder_22 : mCode j_Node_isInOrder 22 = oI 3 23 := rfl
theorem e_Node_isInOrder_22  : (WP Gm j_Node_isInOrder 22 (ls) (st) h Q) = (WP Gm j_Node_isInOrder 23 (ls) (.inl 3 :: st) (h) Q) := (WP_at c_Node_isInOrder_22 _ _ _ _)
theorem c_Node_isInOrder_23 : mCode j_Node_isInOrder 23 = oCallS j_S_isWithin 3 (mL j_S_isWithin) 26 := rfl
theorem e_Node_isInOrder_23 (x0 : Int32) (x1 : Int32) (x2 : Int32) (hc : c8 st = true) : (WP Gm j_Node_isInOrder 23 (ls) (.inl x2 :: .inl x1 :: .inl x0 :: st) h Q) = (WP Gm j_S_isWithin 0 [some (.inl x0), some (.inl x1), some (.inl x2)] [] h (kC (fun v h2 => WP Gm j_Node_isInOrder 26 ls (v.toList ++ st) h2 Q) (fun E h2 => Q (.inr E) h2))) := (WP_at c_Node_isInOrder_23 _ _ _ _).trans (congrArg (fun o => ndX Gm (WP Gm) j_Node_isInOrder 23 o Q) (if_pos (by rw [show decide (catS st ≤ 8) = true from hc]; rfl)))
theorem c_Node_isInOrder_26 : mCode j_Node_isInOrder 26 = oIf (fun x => decide (x = 0)) 33 29 := rfl
theorem e_Node_isInOrder_26 (x : Int32) : (WP Gm j_Node_isInOrder 26 (ls) (.inl x :: st) h Q) = (if x = 0 then WP Gm j_Node_isInOrder 33 (ls) (st) (h) Q else WP Gm j_Node_isInOrder 29 (ls) (st) (h) Q) := (WP_at c_Node_isInOrder_26 _ _ _ _).trans (nd_if rfl _ _ _ _)
theorem c_Node_isInOrder_29 : mCode j_Node_isInOrder 29 = oI 1 30 := rfl
theorem e_Node_isInOrder_29  : (WP Gm j_Node_isInOrder 29 (ls) (st) h Q) = (WP Gm j_Node_isInOrder 30 (ls) (.inl 1 :: st) (h) Q) := (WP_at c_Node_isInOrder_29 _ _ _ _)
theorem c_Node_isInOrder_30 : mCode j_Node_isInOrder 30 = oGo 34 := rfl
theorem e_Node_isInOrder_30  : (WP Gm j_Node_isInOrder 30 (ls) (st) h Q) = (WP Gm j_Node_isInOrder 34 (ls) (st) (h) Q) := (WP_at c_Node_isInOrder_30 _ _ _ _)
theorem c_Node_isInOrder_33 : mCode j_Node_isInOrder 33 = oI 0 34 := rfl
theorem e_Node_isInOrder_33  : (WP Gm j_Node_isInOrder 33 (ls) (st) h Q) = (WP Gm j_Node_isInOrder 34 (ls) (.inl 0 :: st) (h) Q) := (WP_at c_Node_isInOrder_33 _ _ _ _)
theorem c_Node_isInOrder_34 : mCode j_Node_isInOrder 34 = oIst 1 35 := rfl
theorem e_Node_isInOrder_34 (x : Int32) : (WP Gm j_Node_isInOrder 34 (ls) (.inl x :: st) h Q) = (WP Gm j_Node_isInOrder 35 (lSet1 ls 1 (some (.inl x))) (st) (h) Q) := (WP_at c_Node_isInOrder_34 _ _ _ _)
theorem c_Node_isInOrder_35 : mCode j_Node_isInOrder 35 = oIld 1 36 := rfl
theorem e_Node_isInOrder_35 (a0 : Option MV) (x : Int32) : (WP Gm j_Node_isInOrder 35 (a0 :: some (.inl x) :: ls) (st) h Q) = (WP Gm j_Node_isInOrder 36 (a0 :: some (.inl x) :: ls) (.inl x :: st) (h) Q) := (WP_at c_Node_isInOrder_35 _ _ _ _)
theorem c_Node_isInOrder_36 : mCode j_Node_isInOrder 36 = oIf (fun x => decide (x = 0)) 66 39 := rfl
theorem e_Node_isInOrder_36 (x : Int32) : (WP Gm j_Node_isInOrder 36 (ls) (.inl x :: st) h Q) = (if x = 0 then WP Gm j_Node_isInOrder 66 (ls) (st) (h) Q else WP Gm j_Node_isInOrder 39 (ls) (st) (h) Q) := (WP_at c_Node_isInOrder_36 _ _ _ _).trans (nd_if rfl _ _ _ _)
theorem c_Node_isInOrder_39 : mCode j_Node_isInOrder 39 = oAld 0 40 := rfl
theorem e_Node_isInOrder_39 (x : Option Nat) : (WP Gm j_Node_isInOrder 39 (some (.inr (.inl x)) :: ls) (st) h Q) = (WP Gm j_Node_isInOrder 40 (some (.inr (.inl x)) :: ls) (.inr (.inl x) :: st) (h) Q) := (WP_at c_Node_isInOrder_39 _ _ _ _)
theorem c_Node_isInOrder_40 : mCode j_Node_isInOrder 40 = oGetR kc_Node 4 43 := rfl
theorem e_Node_isInOrder_40 (a : Nat) (hk : isK h a kc_Node = true) : (WP Gm j_Node_isInOrder 40 (ls) (.inr (.inl (some a)) :: st) h Q) = (WP Gm j_Node_isInOrder 43 (ls) (.inr (.inl (gR h a 4)) :: st) (h) Q) := (WP_at c_Node_isInOrder_40 _ _ _ _).trans (congrArg (fun o => ndX Gm (WP Gm) j_Node_isInOrder 40 o Q) (if_pos hk))
theorem c_Node_isInOrder_43 : mCode j_Node_isInOrder 43 = oGetI kc_FrameQueue 1 46 := rfl
theorem e_Node_isInOrder_43 (a : Nat) (hk : isK h a kc_FrameQueue = true) : (WP Gm j_Node_isInOrder 43 (ls) (.inr (.inl (some a)) :: st) h Q) = (WP Gm j_Node_isInOrder 46 (ls) (.inl (gI h a 1) :: st) (h) Q) := (WP_at c_Node_isInOrder_43 _ _ _ _).trans (congrArg (fun o => ndX Gm (WP Gm) j_Node_isInOrder 43 o Q) (if_pos hk))
theorem c_Node_isInOrder_46 : mCode j_Node_isInOrder 46 = oI 4 47 := rfl
theorem e_Node_isInOrder_46  : (WP Gm j_Node_isInOrder 46 (ls) (st) h Q) = (WP Gm j_Node_isInOrder 47 (ls) (.inl 4 :: st) (h) Q) := (WP_at c_Node_isInOrder_46 _ _ _ _)
theorem c_Node_isInOrder_47 : mCode j_Node_isInOrder 47 = oIC (fun x y => decide (y < x)) 66 50 := rfl
theorem e_Node_isInOrder_47 (x y : Int32) : (WP Gm j_Node_isInOrder 47 (ls) (.inl y :: .inl x :: st) h Q) = (if y < x then WP Gm j_Node_isInOrder 66 (ls) (st) (h) Q else WP Gm j_Node_isInOrder 50 (ls) (st) (h) Q) := (WP_at c_Node_isInOrder_47 _ _ _ _).trans (nd_ic rfl _ _ _ _)
theorem c_Node_isInOrder_50 : mCode j_Node_isInOrder 50 = oAld 0 51 := rfl
theorem e_Node_isInOrder_50 (x : Option Nat) : (WP Gm j_Node_isInOrder 50 (some (.inr (.inl x)) :: ls) (st) h Q) = (WP Gm j_Node_isInOrder 51 (some (.inr (.inl x)) :: ls) (.inr (.inl x) :: st) (h) Q) := (WP_at c_Node_isInOrder_50 _ _ _ _)
theorem c_Node_isInOrder_51 : mCode j_Node_isInOrder 51 = oGetI kc_Node 6 54 := rfl
theorem e_Node_isInOrder_51 (a : Nat) (hk : isK h a kc_Node = true) : (WP Gm j_Node_isInOrder 51 (ls) (.inr (.inl (some a)) :: st) h Q) = (WP Gm j_Node_isInOrder 54 (ls) (.inl (gI h a 6) :: st) (h) Q) := (WP_at c_Node_isInOrder_51 _ _ _ _).trans (congrArg (fun o => ndX Gm (WP Gm) j_Node_isInOrder 51 o Q) (if_pos hk))
theorem c_Node_isInOrder_54 : mCode j_Node_isInOrder 54 = oI 0 55 := rfl
theorem e_Node_isInOrder_54  : (WP Gm j_Node_isInOrder 54 (ls) (st) h Q) = (WP Gm j_Node_isInOrder 55 (ls) (.inl 0 :: st) (h) Q) := (WP_at c_Node_isInOrder_54 _ _ _ _)
theorem c_Node_isInOrder_55 : mCode j_Node_isInOrder 55 = oI 4 56 := rfl
theorem e_Node_isInOrder_55  : (WP Gm j_Node_isInOrder 55 (ls) (st) h Q) = (WP Gm j_Node_isInOrder 56 (ls) (.inl 4 :: st) (h) Q) := (WP_at c_Node_isInOrder_55 _ _ _ _)
theorem c_Node_isInOrder_56 : mCode j_Node_isInOrder 56 = oCallS j_S_isWithin 3 (mL j_S_isWithin) 59 := rfl
theorem e_Node_isInOrder_56 (x0 : Int32) (x1 : Int32) (x2 : Int32) (hc : c8 st = true) : (WP Gm j_Node_isInOrder 56 (ls) (.inl x2 :: .inl x1 :: .inl x0 :: st) h Q) = (WP Gm j_S_isWithin 0 [some (.inl x0), some (.inl x1), some (.inl x2)] [] h (kC (fun v h2 => WP Gm j_Node_isInOrder 59 ls (v.toList ++ st) h2 Q) (fun E h2 => Q (.inr E) h2))) := (WP_at c_Node_isInOrder_56 _ _ _ _).trans (congrArg (fun o => ndX Gm (WP Gm) j_Node_isInOrder 56 o Q) (if_pos (by rw [show decide (catS st ≤ 8) = true from hc]; rfl)))
theorem c_Node_isInOrder_59 : mCode j_Node_isInOrder 59 = oIf (fun x => decide (x = 0)) 66 62 := rfl
theorem e_Node_isInOrder_59 (x : Int32) : (WP Gm j_Node_isInOrder 59 (ls) (.inl x :: st) h Q) = (if x = 0 then WP Gm j_Node_isInOrder 66 (ls) (st) (h) Q else WP Gm j_Node_isInOrder 62 (ls) (st) (h) Q) := (WP_at c_Node_isInOrder_59 _ _ _ _).trans (nd_if rfl _ _ _ _)
theorem c_Node_isInOrder_62 : mCode j_Node_isInOrder 62 = oI 1 63 := rfl
theorem e_Node_isInOrder_62  : (WP Gm j_Node_isInOrder 62 (ls) (st) h Q) = (WP Gm j_Node_isInOrder 63 (ls) (.inl 1 :: st) (h) Q) := (WP_at c_Node_isInOrder_62 _ _ _ _)
theorem c_Node_isInOrder_63 : mCode j_Node_isInOrder 63 = oGo 67 := rfl
theorem e_Node_isInOrder_63  : (WP Gm j_Node_isInOrder 63 (ls) (st) h Q) = (WP Gm j_Node_isInOrder 67 (ls) (st) (h) Q) := (WP_at c_Node_isInOrder_63 _ _ _ _)
theorem c_Node_isInOrder_66 : mCode j_Node_isInOrder 66 = oI 0 67 := rfl
theorem e_Node_isInOrder_66  : (WP Gm j_Node_isInOrder 66 (ls) (st) h Q) = (WP Gm j_Node_isInOrder 67 (ls) (.inl 0 :: st) (h) Q) := (WP_at c_Node_isInOrder_66 _ _ _ _)
theorem c_Node_isInOrder_67 : mCode j_Node_isInOrder 67 = oRetZ := rfl
theorem e_Node_isInOrder_67 (x : Int32) (hx : x = 0 ∨ x = 1) : (WP Gm j_Node_isInOrder 67 (ls) ([.inl x]) h Q) = (Q (.inl (some (.inl x))) h) := (WP_at c_Node_isInOrder_67 _ _ _ _).trans (congrArg (fun o => ndX Gm (WP Gm) j_Node_isInOrder 67 o Q) (if_pos (by rcases hx with rfl | rfl <;> rfl)))
theorem c_NumberSet_init_0 : mCode j_NumberSet_init 0 = oAld 0 1 := rfl
theorem e_NumberSet_init_0 (x : Option Nat) : (WP Gm j_NumberSet_init 0 (some (.inr (.inl x)) :: ls) (st) h Q) = (WP Gm j_NumberSet_init 1 (some (.inr (.inl x)) :: ls) (.inr (.inl x) :: st) (h) Q) := (WP_at c_NumberSet_init_0 _ _ _ _)
theorem c_NumberSet_init_1 : mCode j_NumberSet_init 1 = oObj 4 := rfl
theorem e_NumberSet_init_1 (a : Nat) (hc : c8 st = true) : (WP Gm j_NumberSet_init 1 (ls) (.inr (.inl (some a)) :: st) h Q) = (WP Gm j_NumberSet_init 4 (ls) (st) (h) Q) := (WP_at c_NumberSet_init_1 _ _ _ _).trans (congrArg (fun o => ndX Gm (WP Gm) j_NumberSet_init 1 o Q) (if_pos (of_decide_eq_true hc)))
theorem c_NumberSet_init_4 : mCode j_NumberSet_init 4 = oAld 0 5 := rfl
theorem e_NumberSet_init_4 (x : Option Nat) : (WP Gm j_NumberSet_init 4 (some (.inr (.inl x)) :: ls) (st) h Q) = (WP Gm j_NumberSet_init 5 (some (.inr (.inl x)) :: ls) (.inr (.inl x) :: st) (h) Q) := (WP_at c_NumberSet_init_4 _ _ _ _)
theorem c_NumberSet_init_5 : mCode j_NumberSet_init 5 = oI 8 7 := rfl
theorem e_NumberSet_init_5  : (WP Gm j_NumberSet_init 5 (ls) (st) h Q) = (WP Gm j_NumberSet_init 7 (ls) (.inl 8 :: st) (h) Q) := (WP_at c_NumberSet_init_5 _ _ _ _)
theorem c_NumberSet_init_7 : mCode j_NumberSet_init 7 = oNewA cM sM 1 9 := rfl
theorem e_NumberSet_init_7 (i : Int32) (hi : 0 ≤ i ∧ i.toNatClampNeg ≤ 1000000) (hr : okR cM sM h 1 i.toNatClampNeg = true) : (WP Gm j_NumberSet_init 7 (ls) (.inl i :: st) h Q) = (WP Gm j_NumberSet_init 9 (ls) (.inr (.inl (some (nx h))) :: st) (hN h (100 + 1) i.toNatClampNeg i.toNatClampNeg) Q) := (WP_at c_NumberSet_init_7 _ _ _ _).trans (congrArg (fun o => ndX Gm (WP Gm) j_NumberSet_init 7 o Q) (if_pos (by rw [hr]; simp [hi.1, hi.2])))
theorem c_NumberSet_init_9 : mCode j_NumberSet_init 9 = oPutR kc_NumberSet 0 12 := rfl
theorem e_NumberSet_init_9 (a : Nat) (x : Option Nat) (hk : isK h a kc_NumberSet = true) : (WP Gm j_NumberSet_init 9 (ls) (.inr (.inl x) :: .inr (.inl (some a)) :: st) h Q) = (WP Gm j_NumberSet_init 12 (ls) (st) (sR h a 0 x) Q) := (WP_at c_NumberSet_init_9 _ _ _ _).trans (congrArg (fun o => ndX Gm (WP Gm) j_NumberSet_init 9 o Q) (if_pos hk))
theorem c_NumberSet_init_12 : mCode j_NumberSet_init 12 = oRet := rfl
theorem e_NumberSet_init_12  : (WP Gm j_NumberSet_init 12 (ls) ([]) h Q) = (Q (.inl none) h) := (WP_at c_NumberSet_init_12 _ _ _ _)
theorem c_NumberSet_has_0 : mCode j_NumberSet_has 0 = oIld 1 1 := rfl
theorem e_NumberSet_has_0 (a0 : Option MV) (x : Int32) : (WP Gm j_NumberSet_has 0 (a0 :: some (.inl x) :: ls) (st) h Q) = (WP Gm j_NumberSet_has 1 (a0 :: some (.inl x) :: ls) (.inl x :: st) (h) Q) := (WP_at c_NumberSet_has_0 _ _ _ _)
theorem c_NumberSet_has_1 : mCode j_NumberSet_has 1 = oIf (fun x => decide (x < 0)) 36 4 := rfl
theorem e_NumberSet_has_1 (x : Int32) : (WP Gm j_NumberSet_has 1 (ls) (.inl x :: st) h Q) = (if x < 0 then WP Gm j_NumberSet_has 36 (ls) (st) (h) Q else WP Gm j_NumberSet_has 4 (ls) (st) (h) Q) := (WP_at c_NumberSet_has_1 _ _ _ _).trans (nd_if rfl _ _ _ _)
theorem c_NumberSet_has_4 : mCode j_NumberSet_has 4 = oIld 1 5 := rfl
theorem e_NumberSet_has_4 (a0 : Option MV) (x : Int32) : (WP Gm j_NumberSet_has 4 (a0 :: some (.inl x) :: ls) (st) h Q) = (WP Gm j_NumberSet_has 5 (a0 :: some (.inl x) :: ls) (.inl x :: st) (h) Q) := (WP_at c_NumberSet_has_4 _ _ _ _)
theorem c_NumberSet_has_5 : mCode j_NumberSet_has 5 = oI 512 8 := rfl
theorem e_NumberSet_has_5  : (WP Gm j_NumberSet_has 5 (ls) (st) h Q) = (WP Gm j_NumberSet_has 8 (ls) (.inl 512 :: st) (h) Q) := (WP_at c_NumberSet_has_5 _ _ _ _)
theorem c_NumberSet_has_8 : mCode j_NumberSet_has 8 = oIC (fun x y => decide (y ≤ x)) 36 11 := rfl
theorem e_NumberSet_has_8 (x y : Int32) : (WP Gm j_NumberSet_has 8 (ls) (.inl y :: .inl x :: st) h Q) = (if y ≤ x then WP Gm j_NumberSet_has 36 (ls) (st) (h) Q else WP Gm j_NumberSet_has 11 (ls) (st) (h) Q) := (WP_at c_NumberSet_has_8 _ _ _ _).trans (nd_ic rfl _ _ _ _)
theorem c_NumberSet_has_11 : mCode j_NumberSet_has 11 = oAld 0 12 := rfl
theorem e_NumberSet_has_11 (x : Option Nat) : (WP Gm j_NumberSet_has 11 (some (.inr (.inl x)) :: ls) (st) h Q) = (WP Gm j_NumberSet_has 12 (some (.inr (.inl x)) :: ls) (.inr (.inl x) :: st) (h) Q) := (WP_at c_NumberSet_has_11 _ _ _ _)
theorem c_NumberSet_has_12 : mCode j_NumberSet_has 12 = oGetR kc_NumberSet 0 15 := rfl
theorem e_NumberSet_has_12 (a : Nat) (hk : isK h a kc_NumberSet = true) : (WP Gm j_NumberSet_has 12 (ls) (.inr (.inl (some a)) :: st) h Q) = (WP Gm j_NumberSet_has 15 (ls) (.inr (.inl (gR h a 0)) :: st) (h) Q) := (WP_at c_NumberSet_has_12 _ _ _ _).trans (congrArg (fun o => ndX Gm (WP Gm) j_NumberSet_has 12 o Q) (if_pos hk))
theorem c_NumberSet_has_15 : mCode j_NumberSet_has 15 = oIld 1 16 := rfl
theorem e_NumberSet_has_15 (a0 : Option MV) (x : Int32) : (WP Gm j_NumberSet_has 15 (a0 :: some (.inl x) :: ls) (st) h Q) = (WP Gm j_NumberSet_has 16 (a0 :: some (.inl x) :: ls) (.inl x :: st) (h) Q) := (WP_at c_NumberSet_has_15 _ _ _ _)
theorem c_NumberSet_has_16 : mCode j_NumberSet_has 16 = oI 64 18 := rfl
theorem e_NumberSet_has_16  : (WP Gm j_NumberSet_has 16 (ls) (st) h Q) = (WP Gm j_NumberSet_has 18 (ls) (.inl 64 :: st) (h) Q) := (WP_at c_NumberSet_has_16 _ _ _ _)
theorem c_NumberSet_has_18 : mCode j_NumberSet_has 18 = oIq (fun x y => x / y) 19 := rfl
theorem e_NumberSet_has_18 (x : Int32) (y : Int32) (hy : ¬ y = 0) : (WP Gm j_NumberSet_has 18 (ls) (.inl y :: .inl x :: st) h Q) = (WP Gm j_NumberSet_has 19 (ls) (.inl (x / y) :: st) (h) Q) := (WP_at c_NumberSet_has_18 _ _ _ _).trans (congrArg (fun o => ndX Gm (WP Gm) j_NumberSet_has 18 o Q) (if_neg hy))
theorem c_NumberSet_has_19 : mCode j_NumberSet_has 19 = oLal 1 20 := rfl
theorem e_NumberSet_has_19 (a : Nat) (i : Int32) (hk : isK h a 101 = true) (hi : inL h a i = true) : (WP Gm j_NumberSet_has 19 (ls) (.inl i :: .inr (.inl (some a)) :: st) h Q) = (WP Gm j_NumberSet_has 20 (ls) (.inr (.inr (.inl (gL h a i.toNatClampNeg))) :: st) (h) Q) := (WP_at c_NumberSet_has_19 _ _ _ _).trans (congrArg (fun o => ndX Gm (WP Gm) j_NumberSet_has 19 o Q) (if_pos (by rw [hk, hi]; rfl)))
theorem c_NumberSet_has_20 : mCode j_NumberSet_has 20 = oIld 1 21 := rfl
theorem e_NumberSet_has_20 (a0 : Option MV) (x : Int32) : (WP Gm j_NumberSet_has 20 (a0 :: some (.inl x) :: ls) (st) h Q) = (WP Gm j_NumberSet_has 21 (a0 :: some (.inl x) :: ls) (.inl x :: st) (h) Q) := (WP_at c_NumberSet_has_20 _ _ _ _)
theorem c_NumberSet_has_21 : mCode j_NumberSet_has 21 = oI 64 23 := rfl
theorem e_NumberSet_has_21  : (WP Gm j_NumberSet_has 21 (ls) (st) h Q) = (WP Gm j_NumberSet_has 23 (ls) (.inl 64 :: st) (h) Q) := (WP_at c_NumberSet_has_21 _ _ _ _)
theorem c_NumberSet_has_23 : mCode j_NumberSet_has 23 = oIq (fun x y => x - x / y * y) 24 := rfl
theorem e_NumberSet_has_23 (x : Int32) (y : Int32) (hy : ¬ y = 0) : (WP Gm j_NumberSet_has 23 (ls) (.inl y :: .inl x :: st) h Q) = (WP Gm j_NumberSet_has 24 (ls) (.inl (x - x / y * y) :: st) (h) Q) := (WP_at c_NumberSet_has_23 _ _ _ _).trans (congrArg (fun o => ndX Gm (WP Gm) j_NumberSet_has 23 o Q) (if_neg hy))
theorem c_NumberSet_has_24 : mCode j_NumberSet_has 24 = oLI (fun x y => x >>> (y.toInt64 &&& 63)) 25 := rfl
theorem e_NumberSet_has_24 (x : Int64) (y : Int32) : (WP Gm j_NumberSet_has 24 (ls) (.inl y :: .inr (.inr (.inl x)) :: st) h Q) = (WP Gm j_NumberSet_has 25 (ls) (.inr (.inr (.inl (x >>> (y.toInt64 &&& 63)))) :: st) (h) Q) := (WP_at c_NumberSet_has_24 _ _ _ _)
theorem c_NumberSet_has_25 : mCode j_NumberSet_has 25 = oJ 1 26 := rfl
theorem e_NumberSet_has_25  : (WP Gm j_NumberSet_has 25 (ls) (st) h Q) = (WP Gm j_NumberSet_has 26 (ls) (.inr (.inr (.inl 1)) :: st) (h) Q) := (WP_at c_NumberSet_has_25 _ _ _ _)
theorem c_NumberSet_has_26 : mCode j_NumberSet_has 26 = oLL (fun x y => x &&& y) 27 := rfl
theorem e_NumberSet_has_26 (x : Int64) (y : Int64) : (WP Gm j_NumberSet_has 26 (ls) (.inr (.inr (.inl y)) :: .inr (.inr (.inl x)) :: st) h Q) = (WP Gm j_NumberSet_has 27 (ls) (.inr (.inr (.inl (x &&& y))) :: st) (h) Q) := (WP_at c_NumberSet_has_26 _ _ _ _)
theorem c_NumberSet_has_27 : mCode j_NumberSet_has 27 = oJ 0 28 := rfl
theorem e_NumberSet_has_27  : (WP Gm j_NumberSet_has 27 (ls) (st) h Q) = (WP Gm j_NumberSet_has 28 (ls) (.inr (.inr (.inl 0)) :: st) (h) Q) := (WP_at c_NumberSet_has_27 _ _ _ _)
theorem c_NumberSet_has_28 : mCode j_NumberSet_has 28 = oLcmp 29 := rfl
theorem e_NumberSet_has_28 (x y : Int64) : (WP Gm j_NumberSet_has 28 (ls) (.inr (.inr (.inl y)) :: .inr (.inr (.inl x)) :: st) h Q) = (WP Gm j_NumberSet_has 29 (ls) (.inl (lg_cmp x y) :: st) (h) Q) := (WP_at c_NumberSet_has_28 _ _ _ _)
theorem c_NumberSet_has_29 : mCode j_NumberSet_has 29 = oIf (fun x => decide (x = 0)) 36 32 := rfl
theorem e_NumberSet_has_29 (x : Int32) : (WP Gm j_NumberSet_has 29 (ls) (.inl x :: st) h Q) = (if x = 0 then WP Gm j_NumberSet_has 36 (ls) (st) (h) Q else WP Gm j_NumberSet_has 32 (ls) (st) (h) Q) := (WP_at c_NumberSet_has_29 _ _ _ _).trans (nd_if rfl _ _ _ _)
theorem c_NumberSet_has_32 : mCode j_NumberSet_has 32 = oI 1 33 := rfl
theorem e_NumberSet_has_32  : (WP Gm j_NumberSet_has 32 (ls) (st) h Q) = (WP Gm j_NumberSet_has 33 (ls) (.inl 1 :: st) (h) Q) := (WP_at c_NumberSet_has_32 _ _ _ _)
theorem c_NumberSet_has_33 : mCode j_NumberSet_has 33 = oGo 37 := rfl
theorem e_NumberSet_has_33  : (WP Gm j_NumberSet_has 33 (ls) (st) h Q) = (WP Gm j_NumberSet_has 37 (ls) (st) (h) Q) := (WP_at c_NumberSet_has_33 _ _ _ _)
theorem c_NumberSet_has_36 : mCode j_NumberSet_has 36 = oI 0 37 := rfl
theorem e_NumberSet_has_36  : (WP Gm j_NumberSet_has 36 (ls) (st) h Q) = (WP Gm j_NumberSet_has 37 (ls) (.inl 0 :: st) (h) Q) := (WP_at c_NumberSet_has_36 _ _ _ _)
theorem c_NumberSet_has_37 : mCode j_NumberSet_has 37 = oRetZ := rfl
theorem e_NumberSet_has_37 (x : Int32) (hx : x = 0 ∨ x = 1) : (WP Gm j_NumberSet_has 37 (ls) ([.inl x]) h Q) = (Q (.inl (some (.inl x))) h) := (WP_at c_NumberSet_has_37 _ _ _ _).trans (congrArg (fun o => ndX Gm (WP Gm) j_NumberSet_has 37 o Q) (if_pos (by rcases hx with rfl | rfl <;> rfl)))
theorem c_NumberSet_put_0 : mCode j_NumberSet_put 0 = oIld 1 1 := rfl
theorem e_NumberSet_put_0 (a0 : Option MV) (x : Int32) : (WP Gm j_NumberSet_put 0 (a0 :: some (.inl x) :: ls) (st) h Q) = (WP Gm j_NumberSet_put 1 (a0 :: some (.inl x) :: ls) (.inl x :: st) (h) Q) := (WP_at c_NumberSet_put_0 _ _ _ _)
theorem c_NumberSet_put_1 : mCode j_NumberSet_put 1 = oIf (fun x => decide (x < 0)) 29 4 := rfl
theorem e_NumberSet_put_1 (x : Int32) : (WP Gm j_NumberSet_put 1 (ls) (.inl x :: st) h Q) = (if x < 0 then WP Gm j_NumberSet_put 29 (ls) (st) (h) Q else WP Gm j_NumberSet_put 4 (ls) (st) (h) Q) := (WP_at c_NumberSet_put_1 _ _ _ _).trans (nd_if rfl _ _ _ _)
theorem c_NumberSet_put_4 : mCode j_NumberSet_put 4 = oIld 1 5 := rfl
theorem e_NumberSet_put_4 (a0 : Option MV) (x : Int32) : (WP Gm j_NumberSet_put 4 (a0 :: some (.inl x) :: ls) (st) h Q) = (WP Gm j_NumberSet_put 5 (a0 :: some (.inl x) :: ls) (.inl x :: st) (h) Q) := (WP_at c_NumberSet_put_4 _ _ _ _)
theorem c_NumberSet_put_5 : mCode j_NumberSet_put 5 = oI 512 8 := rfl
theorem e_NumberSet_put_5  : (WP Gm j_NumberSet_put 5 (ls) (st) h Q) = (WP Gm j_NumberSet_put 8 (ls) (.inl 512 :: st) (h) Q) := (WP_at c_NumberSet_put_5 _ _ _ _)
theorem c_NumberSet_put_8 : mCode j_NumberSet_put 8 = oIC (fun x y => decide (y ≤ x)) 29 11 := rfl
theorem e_NumberSet_put_8 (x y : Int32) : (WP Gm j_NumberSet_put 8 (ls) (.inl y :: .inl x :: st) h Q) = (if y ≤ x then WP Gm j_NumberSet_put 29 (ls) (st) (h) Q else WP Gm j_NumberSet_put 11 (ls) (st) (h) Q) := (WP_at c_NumberSet_put_8 _ _ _ _).trans (nd_ic rfl _ _ _ _)
theorem c_NumberSet_put_11 : mCode j_NumberSet_put 11 = oAld 0 12 := rfl
theorem e_NumberSet_put_11 (x : Option Nat) : (WP Gm j_NumberSet_put 11 (some (.inr (.inl x)) :: ls) (st) h Q) = (WP Gm j_NumberSet_put 12 (some (.inr (.inl x)) :: ls) (.inr (.inl x) :: st) (h) Q) := (WP_at c_NumberSet_put_11 _ _ _ _)
theorem c_NumberSet_put_12 : mCode j_NumberSet_put 12 = oGetR kc_NumberSet 0 15 := rfl
theorem e_NumberSet_put_12 (a : Nat) (hk : isK h a kc_NumberSet = true) : (WP Gm j_NumberSet_put 12 (ls) (.inr (.inl (some a)) :: st) h Q) = (WP Gm j_NumberSet_put 15 (ls) (.inr (.inl (gR h a 0)) :: st) (h) Q) := (WP_at c_NumberSet_put_12 _ _ _ _).trans (congrArg (fun o => ndX Gm (WP Gm) j_NumberSet_put 12 o Q) (if_pos hk))
theorem c_NumberSet_put_15 : mCode j_NumberSet_put 15 = oIld 1 16 := rfl
theorem e_NumberSet_put_15 (a0 : Option MV) (x : Int32) : (WP Gm j_NumberSet_put 15 (a0 :: some (.inl x) :: ls) (st) h Q) = (WP Gm j_NumberSet_put 16 (a0 :: some (.inl x) :: ls) (.inl x :: st) (h) Q) := (WP_at c_NumberSet_put_15 _ _ _ _)
theorem c_NumberSet_put_16 : mCode j_NumberSet_put 16 = oI 64 18 := rfl
theorem e_NumberSet_put_16  : (WP Gm j_NumberSet_put 16 (ls) (st) h Q) = (WP Gm j_NumberSet_put 18 (ls) (.inl 64 :: st) (h) Q) := (WP_at c_NumberSet_put_16 _ _ _ _)
theorem c_NumberSet_put_18 : mCode j_NumberSet_put 18 = oIq (fun x y => x / y) 19 := rfl
theorem e_NumberSet_put_18 (x : Int32) (y : Int32) (hy : ¬ y = 0) : (WP Gm j_NumberSet_put 18 (ls) (.inl y :: .inl x :: st) h Q) = (WP Gm j_NumberSet_put 19 (ls) (.inl (x / y) :: st) (h) Q) := (WP_at c_NumberSet_put_18 _ _ _ _).trans (congrArg (fun o => ndX Gm (WP Gm) j_NumberSet_put 18 o Q) (if_neg hy))
theorem c_NumberSet_put_19 : mCode j_NumberSet_put 19 = oDup2 20 := rfl
theorem e_NumberSet_put_19 (x : Int32) (y : Option Nat) : (WP Gm j_NumberSet_put 19 (ls) (.inl x :: .inr (.inl y) :: st) h Q) = (WP Gm j_NumberSet_put 20 (ls) (.inl x :: .inr (.inl y) :: .inl x :: .inr (.inl y) :: st) (h) Q) := (WP_at c_NumberSet_put_19 _ _ _ _)
theorem c_NumberSet_put_20 : mCode j_NumberSet_put 20 = oLal 1 21 := rfl
theorem e_NumberSet_put_20 (a : Nat) (i : Int32) (hk : isK h a 101 = true) (hi : inL h a i = true) : (WP Gm j_NumberSet_put 20 (ls) (.inl i :: .inr (.inl (some a)) :: st) h Q) = (WP Gm j_NumberSet_put 21 (ls) (.inr (.inr (.inl (gL h a i.toNatClampNeg))) :: st) (h) Q) := (WP_at c_NumberSet_put_20 _ _ _ _).trans (congrArg (fun o => ndX Gm (WP Gm) j_NumberSet_put 20 o Q) (if_pos (by rw [hk, hi]; rfl)))
theorem c_NumberSet_put_21 : mCode j_NumberSet_put 21 = oJ 1 22 := rfl
theorem e_NumberSet_put_21  : (WP Gm j_NumberSet_put 21 (ls) (st) h Q) = (WP Gm j_NumberSet_put 22 (ls) (.inr (.inr (.inl 1)) :: st) (h) Q) := (WP_at c_NumberSet_put_21 _ _ _ _)
theorem c_NumberSet_put_22 : mCode j_NumberSet_put 22 = oIld 1 23 := rfl
theorem e_NumberSet_put_22 (a0 : Option MV) (x : Int32) : (WP Gm j_NumberSet_put 22 (a0 :: some (.inl x) :: ls) (st) h Q) = (WP Gm j_NumberSet_put 23 (a0 :: some (.inl x) :: ls) (.inl x :: st) (h) Q) := (WP_at c_NumberSet_put_22 _ _ _ _)
theorem c_NumberSet_put_23 : mCode j_NumberSet_put 23 = oI 64 25 := rfl
theorem e_NumberSet_put_23  : (WP Gm j_NumberSet_put 23 (ls) (st) h Q) = (WP Gm j_NumberSet_put 25 (ls) (.inl 64 :: st) (h) Q) := (WP_at c_NumberSet_put_23 _ _ _ _)
theorem c_NumberSet_put_25 : mCode j_NumberSet_put 25 = oIq (fun x y => x - x / y * y) 26 := rfl
theorem e_NumberSet_put_25 (x : Int32) (y : Int32) (hy : ¬ y = 0) : (WP Gm j_NumberSet_put 25 (ls) (.inl y :: .inl x :: st) h Q) = (WP Gm j_NumberSet_put 26 (ls) (.inl (x - x / y * y) :: st) (h) Q) := (WP_at c_NumberSet_put_25 _ _ _ _).trans (congrArg (fun o => ndX Gm (WP Gm) j_NumberSet_put 25 o Q) (if_neg hy))
theorem c_NumberSet_put_26 : mCode j_NumberSet_put 26 = oLI (fun x y => x <<< (y.toInt64 &&& 63)) 27 := rfl
theorem e_NumberSet_put_26 (x : Int64) (y : Int32) : (WP Gm j_NumberSet_put 26 (ls) (.inl y :: .inr (.inr (.inl x)) :: st) h Q) = (WP Gm j_NumberSet_put 27 (ls) (.inr (.inr (.inl (x <<< (y.toInt64 &&& 63)))) :: st) (h) Q) := (WP_at c_NumberSet_put_26 _ _ _ _)
theorem c_NumberSet_put_27 : mCode j_NumberSet_put 27 = oLL (fun x y => x ||| y) 28 := rfl
theorem e_NumberSet_put_27 (x : Int64) (y : Int64) : (WP Gm j_NumberSet_put 27 (ls) (.inr (.inr (.inl y)) :: .inr (.inr (.inl x)) :: st) h Q) = (WP Gm j_NumberSet_put 28 (ls) (.inr (.inr (.inl (x ||| y))) :: st) (h) Q) := (WP_at c_NumberSet_put_27 _ _ _ _)
theorem c_NumberSet_put_28 : mCode j_NumberSet_put 28 = oLas 1 29 := rfl
theorem e_NumberSet_put_28 (a : Nat) (i : Int32) (x : Int64) (hk : isK h a 101 = true) (hi : inL h a i = true) : (WP Gm j_NumberSet_put 28 (ls) (.inr (.inr (.inl x)) :: .inl i :: .inr (.inl (some a)) :: st) h Q) = (WP Gm j_NumberSet_put 29 (ls) (st) (sL h a i.toNatClampNeg x) Q) := (WP_at c_NumberSet_put_28 _ _ _ _).trans (congrArg (fun o => ndX Gm (WP Gm) j_NumberSet_put 28 o Q) (if_pos (by rw [hk, hi]; rfl)))
theorem c_NumberSet_put_29 : mCode j_NumberSet_put 29 = oRet := rfl
theorem e_NumberSet_put_29  : (WP Gm j_NumberSet_put 29 (ls) ([]) h Q) = (Q (.inl none) h) := (WP_at c_NumberSet_put_29 _ _ _ _)
theorem c_NumberSet_size_0 : mCode j_NumberSet_size 0 = oI 0 1 := rfl
theorem e_NumberSet_size_0  : (WP Gm j_NumberSet_size 0 (ls) (st) h Q) = (WP Gm j_NumberSet_size 1 (ls) (.inl 0 :: st) (h) Q) := (WP_at c_NumberSet_size_0 _ _ _ _)
theorem c_NumberSet_size_1 : mCode j_NumberSet_size 1 = oIst 1 2 := rfl
theorem e_NumberSet_size_1 (x : Int32) : (WP Gm j_NumberSet_size 1 (ls) (.inl x :: st) h Q) = (WP Gm j_NumberSet_size 2 (lSet1 ls 1 (some (.inl x))) (st) (h) Q) := (WP_at c_NumberSet_size_1 _ _ _ _)
theorem c_NumberSet_size_2 : mCode j_NumberSet_size 2 = oI 0 3 := rfl
theorem e_NumberSet_size_2  : (WP Gm j_NumberSet_size 2 (ls) (st) h Q) = (WP Gm j_NumberSet_size 3 (ls) (.inl 0 :: st) (h) Q) := (WP_at c_NumberSet_size_2 _ _ _ _)
theorem c_NumberSet_size_3 : mCode j_NumberSet_size 3 = oIst 2 4 := rfl
theorem e_NumberSet_size_3 (x : Int32) : (WP Gm j_NumberSet_size 3 (ls) (.inl x :: st) h Q) = (WP Gm j_NumberSet_size 4 (lSet1 ls 2 (some (.inl x))) (st) (h) Q) := (WP_at c_NumberSet_size_3 _ _ _ _)
theorem c_NumberSet_size_4 : mCode j_NumberSet_size 4 = oIld 2 5 := rfl
theorem e_NumberSet_size_4 (a0 a1 : Option MV) (x : Int32) : (WP Gm j_NumberSet_size 4 (a0 :: a1 :: some (.inl x) :: ls) (st) h Q) = (WP Gm j_NumberSet_size 5 (a0 :: a1 :: some (.inl x) :: ls) (.inl x :: st) (h) Q) := (WP_at c_NumberSet_size_4 _ _ _ _)
theorem c_NumberSet_size_5 : mCode j_NumberSet_size 5 = oAld 0 6 := rfl
theorem e_NumberSet_size_5 (x : Option Nat) : (WP Gm j_NumberSet_size 5 (some (.inr (.inl x)) :: ls) (st) h Q) = (WP Gm j_NumberSet_size 6 (some (.inr (.inl x)) :: ls) (.inr (.inl x) :: st) (h) Q) := (WP_at c_NumberSet_size_5 _ _ _ _)
theorem c_NumberSet_size_6 : mCode j_NumberSet_size 6 = oGetR kc_NumberSet 0 9 := rfl
theorem e_NumberSet_size_6 (a : Nat) (hk : isK h a kc_NumberSet = true) : (WP Gm j_NumberSet_size 6 (ls) (.inr (.inl (some a)) :: st) h Q) = (WP Gm j_NumberSet_size 9 (ls) (.inr (.inl (gR h a 0)) :: st) (h) Q) := (WP_at c_NumberSet_size_6 _ _ _ _).trans (congrArg (fun o => ndX Gm (WP Gm) j_NumberSet_size 6 o Q) (if_pos hk))
theorem c_NumberSet_size_9 : mCode j_NumberSet_size 9 = oLen 1 10 := rfl
theorem e_NumberSet_size_9 (a : Nat) (hk : isK h a 101 = true) : (WP Gm j_NumberSet_size 9 (ls) (.inr (.inl (some a)) :: st) h Q) = (WP Gm j_NumberSet_size 10 (ls) (.inl (Int32.ofNat (ln h a)) :: st) (h) Q) := (WP_at c_NumberSet_size_9 _ _ _ _).trans (congrArg (fun o => ndX Gm (WP Gm) j_NumberSet_size 9 o Q) (if_pos hk))
theorem c_NumberSet_size_10 : mCode j_NumberSet_size 10 = oIC (fun x y => decide (y ≤ x)) 31 13 := rfl
theorem e_NumberSet_size_10 (x y : Int32) : (WP Gm j_NumberSet_size 10 (ls) (.inl y :: .inl x :: st) h Q) = (if y ≤ x then WP Gm j_NumberSet_size 31 (ls) (st) (h) Q else WP Gm j_NumberSet_size 13 (ls) (st) (h) Q) := (WP_at c_NumberSet_size_10 _ _ _ _).trans (nd_ic rfl _ _ _ _)
theorem c_NumberSet_size_13 : mCode j_NumberSet_size 13 = oIld 1 14 := rfl
theorem e_NumberSet_size_13 (a0 : Option MV) (x : Int32) : (WP Gm j_NumberSet_size 13 (a0 :: some (.inl x) :: ls) (st) h Q) = (WP Gm j_NumberSet_size 14 (a0 :: some (.inl x) :: ls) (.inl x :: st) (h) Q) := (WP_at c_NumberSet_size_13 _ _ _ _)
theorem c_NumberSet_size_14 : mCode j_NumberSet_size 14 = oAld 0 15 := rfl
theorem e_NumberSet_size_14 (x : Option Nat) : (WP Gm j_NumberSet_size 14 (some (.inr (.inl x)) :: ls) (st) h Q) = (WP Gm j_NumberSet_size 15 (some (.inr (.inl x)) :: ls) (.inr (.inl x) :: st) (h) Q) := (WP_at c_NumberSet_size_14 _ _ _ _)
theorem c_NumberSet_size_15 : mCode j_NumberSet_size 15 = oGetR kc_NumberSet 0 18 := rfl
theorem e_NumberSet_size_15 (a : Nat) (hk : isK h a kc_NumberSet = true) : (WP Gm j_NumberSet_size 15 (ls) (.inr (.inl (some a)) :: st) h Q) = (WP Gm j_NumberSet_size 18 (ls) (.inr (.inl (gR h a 0)) :: st) (h) Q) := (WP_at c_NumberSet_size_15 _ _ _ _).trans (congrArg (fun o => ndX Gm (WP Gm) j_NumberSet_size 15 o Q) (if_pos hk))
theorem c_NumberSet_size_18 : mCode j_NumberSet_size 18 = oIld 2 19 := rfl
theorem e_NumberSet_size_18 (a0 a1 : Option MV) (x : Int32) : (WP Gm j_NumberSet_size 18 (a0 :: a1 :: some (.inl x) :: ls) (st) h Q) = (WP Gm j_NumberSet_size 19 (a0 :: a1 :: some (.inl x) :: ls) (.inl x :: st) (h) Q) := (WP_at c_NumberSet_size_18 _ _ _ _)
theorem c_NumberSet_size_19 : mCode j_NumberSet_size 19 = oLal 1 20 := rfl
theorem e_NumberSet_size_19 (a : Nat) (i : Int32) (hk : isK h a 101 = true) (hi : inL h a i = true) : (WP Gm j_NumberSet_size 19 (ls) (.inl i :: .inr (.inl (some a)) :: st) h Q) = (WP Gm j_NumberSet_size 20 (ls) (.inr (.inr (.inl (gL h a i.toNatClampNeg))) :: st) (h) Q) := (WP_at c_NumberSet_size_19 _ _ _ _).trans (congrArg (fun o => ndX Gm (WP Gm) j_NumberSet_size 19 o Q) (if_pos (by rw [hk, hi]; rfl)))
theorem c_NumberSet_size_20 : mCode j_NumberSet_size 20 = oCallS j_Long_bitCount 1 (mL j_Long_bitCount) 23 := rfl
theorem e_NumberSet_size_20 (x0 : Int64) (hc : c8 st = true) : (WP Gm j_NumberSet_size 20 (ls) (.inr (.inr (.inl x0)) :: st) h Q) = (WP Gm j_Long_bitCount 0 [some (.inr (.inr (.inl x0))), none] [] h (kC (fun v h2 => WP Gm j_NumberSet_size 23 ls (v.toList ++ st) h2 Q) (fun E h2 => Q (.inr E) h2))) := (WP_at c_NumberSet_size_20 _ _ _ _).trans (congrArg (fun o => ndX Gm (WP Gm) j_NumberSet_size 20 o Q) (if_pos (by rw [show decide (catS st ≤ 8) = true from hc]; rfl)))
theorem c_NumberSet_size_23 : mCode j_NumberSet_size 23 = oII (fun x y => x + y) 24 := rfl
theorem e_NumberSet_size_23 (x : Int32) (y : Int32) : (WP Gm j_NumberSet_size 23 (ls) (.inl y :: .inl x :: st) h Q) = (WP Gm j_NumberSet_size 24 (ls) (.inl (x + y) :: st) (h) Q) := (WP_at c_NumberSet_size_23 _ _ _ _)
theorem c_NumberSet_size_24 : mCode j_NumberSet_size 24 = oIst 1 25 := rfl
theorem e_NumberSet_size_24 (x : Int32) : (WP Gm j_NumberSet_size 24 (ls) (.inl x :: st) h Q) = (WP Gm j_NumberSet_size 25 (lSet1 ls 1 (some (.inl x))) (st) (h) Q) := (WP_at c_NumberSet_size_24 _ _ _ _)
theorem c_NumberSet_size_25 : mCode j_NumberSet_size 25 = oInc 2 1 28 := rfl
theorem e_NumberSet_size_25 (a0 a1 : Option MV) (x : Int32) : (WP Gm j_NumberSet_size 25 (a0 :: a1 :: some (.inl x) :: ls) (st) h Q) = (WP Gm j_NumberSet_size 28 (lSet1 (a0 :: a1 :: some (.inl x) :: ls) 2 (some (.inl (x + 1)))) (st) (h) Q) := (WP_at c_NumberSet_size_25 _ _ _ _)
theorem c_NumberSet_size_28 : mCode j_NumberSet_size 28 = oGo 4 := rfl
theorem e_NumberSet_size_28  : (WP Gm j_NumberSet_size 28 (ls) (st) h Q) = (WP Gm j_NumberSet_size 4 (ls) (st) (h) Q) := (WP_at c_NumberSet_size_28 _ _ _ _)
theorem c_NumberSet_size_31 : mCode j_NumberSet_size 31 = oIld 1 32 := rfl
theorem e_NumberSet_size_31 (a0 : Option MV) (x : Int32) : (WP Gm j_NumberSet_size 31 (a0 :: some (.inl x) :: ls) (st) h Q) = (WP Gm j_NumberSet_size 32 (a0 :: some (.inl x) :: ls) (.inl x :: st) (h) Q) := (WP_at c_NumberSet_size_31 _ _ _ _)
theorem c_NumberSet_size_32 : mCode j_NumberSet_size 32 = oRetI := rfl
theorem e_NumberSet_size_32 (x : Int32) : (WP Gm j_NumberSet_size 32 (ls) ([.inl x]) h Q) = (Q (.inl (some (.inl x))) h) := (WP_at c_NumberSet_size_32 _ _ _ _)
theorem c_Routes_init_0 : mCode j_Routes_init 0 = oAld 0 1 := rfl
theorem e_Routes_init_0 (x : Option Nat) : (WP Gm j_Routes_init 0 (some (.inr (.inl x)) :: ls) (st) h Q) = (WP Gm j_Routes_init 1 (some (.inr (.inl x)) :: ls) (.inr (.inl x) :: st) (h) Q) := (WP_at c_Routes_init_0 _ _ _ _)
theorem c_Routes_init_1 : mCode j_Routes_init 1 = oObj 4 := rfl
theorem e_Routes_init_1 (a : Nat) (hc : c8 st = true) : (WP Gm j_Routes_init 1 (ls) (.inr (.inl (some a)) :: st) h Q) = (WP Gm j_Routes_init 4 (ls) (st) (h) Q) := (WP_at c_Routes_init_1 _ _ _ _).trans (congrArg (fun o => ndX Gm (WP Gm) j_Routes_init 1 o Q) (if_pos (of_decide_eq_true hc)))
theorem c_Routes_init_4 : mCode j_Routes_init 4 = oAld 0 5 := rfl
theorem e_Routes_init_4 (x : Option Nat) : (WP Gm j_Routes_init 4 (some (.inr (.inl x)) :: ls) (st) h Q) = (WP Gm j_Routes_init 5 (some (.inr (.inl x)) :: ls) (.inr (.inl x) :: st) (h) Q) := (WP_at c_Routes_init_4 _ _ _ _)
theorem c_Routes_init_5 : mCode j_Routes_init 5 = oI 8 7 := rfl
theorem e_Routes_init_5  : (WP Gm j_Routes_init 5 (ls) (st) h Q) = (WP Gm j_Routes_init 7 (ls) (.inl 8 :: st) (h) Q) := (WP_at c_Routes_init_5 _ _ _ _)
theorem c_Routes_init_7 : mCode j_Routes_init 7 = oI 8 9 := rfl
theorem e_Routes_init_7  : (WP Gm j_Routes_init 7 (ls) (st) h Q) = (WP Gm j_Routes_init 9 (ls) (.inl 8 :: st) (h) Q) := (WP_at c_Routes_init_7 _ _ _ _)
theorem c_Routes_init_9 : mCode j_Routes_init 9 = oMul cM sM 4 0 13 := rfl
theorem e_Routes_init_9 (i k : Int32) (hi : 0 ≤ i ∧ i.toNatClampNeg ≤ 1000) (hj : 0 ≤ k ∧ k.toNatClampNeg ≤ 1000) (hr : okR cM sM h (1 + i.toNatClampNeg) (i.toNatClampNeg + i.toNatClampNeg * k.toNatClampNeg) = true) : (WP Gm j_Routes_init 9 (ls) (.inl k :: .inl i :: st) h Q) = (WP Gm j_Routes_init 13 (ls) (.inr (.inl (some (nx h))) :: st) (hM h 4 0 i.toNatClampNeg k.toNatClampNeg) Q) := (WP_at c_Routes_init_9 _ _ _ _).trans (congrArg (fun o => ndX Gm (WP Gm) j_Routes_init 9 o Q) (if_pos (by rw [hr]; simp [hi.1, hi.2, hj.1, hj.2])))
theorem c_Routes_init_13 : mCode j_Routes_init 13 = oPutR kc_Routes 1 16 := rfl
theorem e_Routes_init_13 (a : Nat) (x : Option Nat) (hk : isK h a kc_Routes = true) : (WP Gm j_Routes_init 13 (ls) (.inr (.inl x) :: .inr (.inl (some a)) :: st) h Q) = (WP Gm j_Routes_init 16 (ls) (st) (sR h a 1 x) Q) := (WP_at c_Routes_init_13 _ _ _ _).trans (congrArg (fun o => ndX Gm (WP Gm) j_Routes_init 13 o Q) (if_pos hk))
theorem c_Routes_init_16 : mCode j_Routes_init 16 = oAld 0 17 := rfl
theorem e_Routes_init_16 (x : Option Nat) : (WP Gm j_Routes_init 16 (some (.inr (.inl x)) :: ls) (st) h Q) = (WP Gm j_Routes_init 17 (some (.inr (.inl x)) :: ls) (.inr (.inl x) :: st) (h) Q) := (WP_at c_Routes_init_16 _ _ _ _)
theorem c_Routes_init_17 : mCode j_Routes_init 17 = oI 8 19 := rfl
theorem e_Routes_init_17  : (WP Gm j_Routes_init 17 (ls) (st) h Q) = (WP Gm j_Routes_init 19 (ls) (.inl 8 :: st) (h) Q) := (WP_at c_Routes_init_17 _ _ _ _)
theorem c_Routes_init_19 : mCode j_Routes_init 19 = oI 8 21 := rfl
theorem e_Routes_init_19  : (WP Gm j_Routes_init 19 (ls) (st) h Q) = (WP Gm j_Routes_init 21 (ls) (.inl 8 :: st) (h) Q) := (WP_at c_Routes_init_19 _ _ _ _)
theorem c_Routes_init_21 : mCode j_Routes_init 21 = oMul cM sM 4 0 25 := rfl
theorem e_Routes_init_21 (i k : Int32) (hi : 0 ≤ i ∧ i.toNatClampNeg ≤ 1000) (hj : 0 ≤ k ∧ k.toNatClampNeg ≤ 1000) (hr : okR cM sM h (1 + i.toNatClampNeg) (i.toNatClampNeg + i.toNatClampNeg * k.toNatClampNeg) = true) : (WP Gm j_Routes_init 21 (ls) (.inl k :: .inl i :: st) h Q) = (WP Gm j_Routes_init 25 (ls) (.inr (.inl (some (nx h))) :: st) (hM h 4 0 i.toNatClampNeg k.toNatClampNeg) Q) := (WP_at c_Routes_init_21 _ _ _ _).trans (congrArg (fun o => ndX Gm (WP Gm) j_Routes_init 21 o Q) (if_pos (by rw [hr]; simp [hi.1, hi.2, hj.1, hj.2])))
theorem c_Routes_init_25 : mCode j_Routes_init 25 = oPutR kc_Routes 2 28 := rfl
theorem e_Routes_init_25 (a : Nat) (x : Option Nat) (hk : isK h a kc_Routes = true) : (WP Gm j_Routes_init 25 (ls) (.inr (.inl x) :: .inr (.inl (some a)) :: st) h Q) = (WP Gm j_Routes_init 28 (ls) (st) (sR h a 2 x) Q) := (WP_at c_Routes_init_25 _ _ _ _).trans (congrArg (fun o => ndX Gm (WP Gm) j_Routes_init 25 o Q) (if_pos hk))
theorem c_Routes_init_28 : mCode j_Routes_init 28 = oAld 0 29 := rfl
theorem e_Routes_init_28 (x : Option Nat) : (WP Gm j_Routes_init 28 (some (.inr (.inl x)) :: ls) (st) h Q) = (WP Gm j_Routes_init 29 (some (.inr (.inl x)) :: ls) (.inr (.inl x) :: st) (h) Q) := (WP_at c_Routes_init_28 _ _ _ _)
theorem c_Routes_init_29 : mCode j_Routes_init 29 = oI 8 31 := rfl
theorem e_Routes_init_29  : (WP Gm j_Routes_init 29 (ls) (st) h Q) = (WP Gm j_Routes_init 31 (ls) (.inl 8 :: st) (h) Q) := (WP_at c_Routes_init_29 _ _ _ _)
theorem c_Routes_init_31 : mCode j_Routes_init 31 = oI 8 33 := rfl
theorem e_Routes_init_31  : (WP Gm j_Routes_init 31 (ls) (st) h Q) = (WP Gm j_Routes_init 33 (ls) (.inl 8 :: st) (h) Q) := (WP_at c_Routes_init_31 _ _ _ _)
theorem c_Routes_init_33 : mCode j_Routes_init 33 = oMul cM sM 4 0 37 := rfl
theorem e_Routes_init_33 (i k : Int32) (hi : 0 ≤ i ∧ i.toNatClampNeg ≤ 1000) (hj : 0 ≤ k ∧ k.toNatClampNeg ≤ 1000) (hr : okR cM sM h (1 + i.toNatClampNeg) (i.toNatClampNeg + i.toNatClampNeg * k.toNatClampNeg) = true) : (WP Gm j_Routes_init 33 (ls) (.inl k :: .inl i :: st) h Q) = (WP Gm j_Routes_init 37 (ls) (.inr (.inl (some (nx h))) :: st) (hM h 4 0 i.toNatClampNeg k.toNatClampNeg) Q) := (WP_at c_Routes_init_33 _ _ _ _).trans (congrArg (fun o => ndX Gm (WP Gm) j_Routes_init 33 o Q) (if_pos (by rw [hr]; simp [hi.1, hi.2, hj.1, hj.2])))
theorem c_Routes_init_37 : mCode j_Routes_init 37 = oPutR kc_Routes 3 40 := rfl
theorem e_Routes_init_37 (a : Nat) (x : Option Nat) (hk : isK h a kc_Routes = true) : (WP Gm j_Routes_init 37 (ls) (.inr (.inl x) :: .inr (.inl (some a)) :: st) h Q) = (WP Gm j_Routes_init 40 (ls) (st) (sR h a 3 x) Q) := (WP_at c_Routes_init_37 _ _ _ _).trans (congrArg (fun o => ndX Gm (WP Gm) j_Routes_init 37 o Q) (if_pos hk))
theorem c_Routes_init_40 : mCode j_Routes_init 40 = oAld 0 41 := rfl
theorem e_Routes_init_40 (x : Option Nat) : (WP Gm j_Routes_init 40 (some (.inr (.inl x)) :: ls) (st) h Q) = (WP Gm j_Routes_init 41 (some (.inr (.inl x)) :: ls) (.inr (.inl x) :: st) (h) Q) := (WP_at c_Routes_init_40 _ _ _ _)
theorem c_Routes_init_41 : mCode j_Routes_init 41 = oI 8 43 := rfl
theorem e_Routes_init_41  : (WP Gm j_Routes_init 41 (ls) (st) h Q) = (WP Gm j_Routes_init 43 (ls) (.inl 8 :: st) (h) Q) := (WP_at c_Routes_init_41 _ _ _ _)
theorem c_Routes_init_43 : mCode j_Routes_init 43 = oI 8 45 := rfl
theorem e_Routes_init_43  : (WP Gm j_Routes_init 43 (ls) (st) h Q) = (WP Gm j_Routes_init 45 (ls) (.inl 8 :: st) (h) Q) := (WP_at c_Routes_init_43 _ _ _ _)
theorem c_Routes_init_45 : mCode j_Routes_init 45 = oMul cM sM 4 0 49 := rfl
theorem e_Routes_init_45 (i k : Int32) (hi : 0 ≤ i ∧ i.toNatClampNeg ≤ 1000) (hj : 0 ≤ k ∧ k.toNatClampNeg ≤ 1000) (hr : okR cM sM h (1 + i.toNatClampNeg) (i.toNatClampNeg + i.toNatClampNeg * k.toNatClampNeg) = true) : (WP Gm j_Routes_init 45 (ls) (.inl k :: .inl i :: st) h Q) = (WP Gm j_Routes_init 49 (ls) (.inr (.inl (some (nx h))) :: st) (hM h 4 0 i.toNatClampNeg k.toNatClampNeg) Q) := (WP_at c_Routes_init_45 _ _ _ _).trans (congrArg (fun o => ndX Gm (WP Gm) j_Routes_init 45 o Q) (if_pos (by rw [hr]; simp [hi.1, hi.2, hj.1, hj.2])))
theorem c_Routes_init_49 : mCode j_Routes_init 49 = oPutR kc_Routes 4 52 := rfl
theorem e_Routes_init_49 (a : Nat) (x : Option Nat) (hk : isK h a kc_Routes = true) : (WP Gm j_Routes_init 49 (ls) (.inr (.inl x) :: .inr (.inl (some a)) :: st) h Q) = (WP Gm j_Routes_init 52 (ls) (st) (sR h a 4 x) Q) := (WP_at c_Routes_init_49 _ _ _ _).trans (congrArg (fun o => ndX Gm (WP Gm) j_Routes_init 49 o Q) (if_pos hk))
theorem c_Routes_init_52 : mCode j_Routes_init 52 = oAld 0 53 := rfl
theorem e_Routes_init_52 (x : Option Nat) : (WP Gm j_Routes_init 52 (some (.inr (.inl x)) :: ls) (st) h Q) = (WP Gm j_Routes_init 53 (some (.inr (.inl x)) :: ls) (.inr (.inl x) :: st) (h) Q) := (WP_at c_Routes_init_52 _ _ _ _)
theorem c_Routes_init_53 : mCode j_Routes_init 53 = oI 0 54 := rfl
theorem e_Routes_init_53  : (WP Gm j_Routes_init 53 (ls) (st) h Q) = (WP Gm j_Routes_init 54 (ls) (.inl 0 :: st) (h) Q) := (WP_at c_Routes_init_53 _ _ _ _)
theorem c_Routes_init_54 : mCode j_Routes_init 54 = oPutI kc_Routes 5 57 := rfl
theorem e_Routes_init_54 (a : Nat) (x : Int32) (hk : isK h a kc_Routes = true) : (WP Gm j_Routes_init 54 (ls) (.inl x :: .inr (.inl (some a)) :: st) h Q) = (WP Gm j_Routes_init 57 (ls) (st) (sI h a 5 x) Q) := (WP_at c_Routes_init_54 _ _ _ _).trans (congrArg (fun o => ndX Gm (WP Gm) j_Routes_init 54 o Q) (if_pos hk))
theorem c_Routes_init_57 : mCode j_Routes_init 57 = oAld 0 58 := rfl
theorem e_Routes_init_57 (x : Option Nat) : (WP Gm j_Routes_init 57 (some (.inr (.inl x)) :: ls) (st) h Q) = (WP Gm j_Routes_init 58 (some (.inr (.inl x)) :: ls) (.inr (.inl x) :: st) (h) Q) := (WP_at c_Routes_init_57 _ _ _ _)
theorem c_Routes_init_58 : mCode j_Routes_init 58 = oAld 1 59 := rfl
theorem e_Routes_init_58 (a0 : Option MV) (x : Option Nat) : (WP Gm j_Routes_init 58 (a0 :: some (.inr (.inl x)) :: ls) (st) h Q) = (WP Gm j_Routes_init 59 (a0 :: some (.inr (.inl x)) :: ls) (.inr (.inl x) :: st) (h) Q) := (WP_at c_Routes_init_58 _ _ _ _)
theorem c_Routes_init_59 : mCode j_Routes_init 59 = oPutR kc_Routes 0 62 := rfl
theorem e_Routes_init_59 (a : Nat) (x : Option Nat) (hk : isK h a kc_Routes = true) : (WP Gm j_Routes_init 59 (ls) (.inr (.inl x) :: .inr (.inl (some a)) :: st) h Q) = (WP Gm j_Routes_init 62 (ls) (st) (sR h a 0 x) Q) := (WP_at c_Routes_init_59 _ _ _ _).trans (congrArg (fun o => ndX Gm (WP Gm) j_Routes_init 59 o Q) (if_pos hk))
theorem c_Routes_init_62 : mCode j_Routes_init 62 = oI 0 63 := rfl
theorem e_Routes_init_62  : (WP Gm j_Routes_init 62 (ls) (st) h Q) = (WP Gm j_Routes_init 63 (ls) (.inl 0 :: st) (h) Q) := (WP_at c_Routes_init_62 _ _ _ _)
theorem c_Routes_init_63 : mCode j_Routes_init 63 = oIst 2 64 := rfl
theorem e_Routes_init_63 (x : Int32) : (WP Gm j_Routes_init 63 (ls) (.inl x :: st) h Q) = (WP Gm j_Routes_init 64 (lSet1 ls 2 (some (.inl x))) (st) (h) Q) := (WP_at c_Routes_init_63 _ _ _ _)
theorem c_Routes_init_64 : mCode j_Routes_init 64 = oIld 2 65 := rfl
theorem e_Routes_init_64 (a0 a1 : Option MV) (x : Int32) : (WP Gm j_Routes_init 64 (a0 :: a1 :: some (.inl x) :: ls) (st) h Q) = (WP Gm j_Routes_init 65 (a0 :: a1 :: some (.inl x) :: ls) (.inl x :: st) (h) Q) := (WP_at c_Routes_init_64 _ _ _ _)
theorem c_Routes_init_65 : mCode j_Routes_init 65 = oI 8 67 := rfl
theorem e_Routes_init_65  : (WP Gm j_Routes_init 65 (ls) (st) h Q) = (WP Gm j_Routes_init 67 (ls) (.inl 8 :: st) (h) Q) := (WP_at c_Routes_init_65 _ _ _ _)
theorem c_Routes_init_67 : mCode j_Routes_init 67 = oIC (fun x y => decide (y ≤ x)) 126 70 := rfl
theorem e_Routes_init_67 (x y : Int32) : (WP Gm j_Routes_init 67 (ls) (.inl y :: .inl x :: st) h Q) = (if y ≤ x then WP Gm j_Routes_init 126 (ls) (st) (h) Q else WP Gm j_Routes_init 70 (ls) (st) (h) Q) := (WP_at c_Routes_init_67 _ _ _ _).trans (nd_ic rfl _ _ _ _)
theorem c_Routes_init_70 : mCode j_Routes_init 70 = oI 0 71 := rfl
theorem e_Routes_init_70  : (WP Gm j_Routes_init 70 (ls) (st) h Q) = (WP Gm j_Routes_init 71 (ls) (.inl 0 :: st) (h) Q) := (WP_at c_Routes_init_70 _ _ _ _)
theorem c_Routes_init_71 : mCode j_Routes_init 71 = oIst 3 72 := rfl
theorem e_Routes_init_71 (x : Int32) : (WP Gm j_Routes_init 71 (ls) (.inl x :: st) h Q) = (WP Gm j_Routes_init 72 (lSet1 ls 3 (some (.inl x))) (st) (h) Q) := (WP_at c_Routes_init_71 _ _ _ _)
theorem c_Routes_init_72 : mCode j_Routes_init 72 = oIld 3 73 := rfl
theorem e_Routes_init_72 (a0 a1 a2 : Option MV) (x : Int32) : (WP Gm j_Routes_init 72 (a0 :: a1 :: a2 :: some (.inl x) :: ls) (st) h Q) = (WP Gm j_Routes_init 73 (a0 :: a1 :: a2 :: some (.inl x) :: ls) (.inl x :: st) (h) Q) := (WP_at c_Routes_init_72 _ _ _ _)
theorem c_Routes_init_73 : mCode j_Routes_init 73 = oI 8 75 := rfl
theorem e_Routes_init_73  : (WP Gm j_Routes_init 73 (ls) (st) h Q) = (WP Gm j_Routes_init 75 (ls) (.inl 8 :: st) (h) Q) := (WP_at c_Routes_init_73 _ _ _ _)
theorem c_Routes_init_75 : mCode j_Routes_init 75 = oIC (fun x y => decide (y ≤ x)) 120 78 := rfl
theorem e_Routes_init_75 (x y : Int32) : (WP Gm j_Routes_init 75 (ls) (.inl y :: .inl x :: st) h Q) = (if y ≤ x then WP Gm j_Routes_init 120 (ls) (st) (h) Q else WP Gm j_Routes_init 78 (ls) (st) (h) Q) := (WP_at c_Routes_init_75 _ _ _ _).trans (nd_ic rfl _ _ _ _)
theorem c_Routes_init_78 : mCode j_Routes_init 78 = oAld 0 79 := rfl
theorem e_Routes_init_78 (x : Option Nat) : (WP Gm j_Routes_init 78 (some (.inr (.inl x)) :: ls) (st) h Q) = (WP Gm j_Routes_init 79 (some (.inr (.inl x)) :: ls) (.inr (.inl x) :: st) (h) Q) := (WP_at c_Routes_init_78 _ _ _ _)
theorem c_Routes_init_79 : mCode j_Routes_init 79 = oGetR kc_Routes 1 82 := rfl
theorem e_Routes_init_79 (a : Nat) (hk : isK h a kc_Routes = true) : (WP Gm j_Routes_init 79 (ls) (.inr (.inl (some a)) :: st) h Q) = (WP Gm j_Routes_init 82 (ls) (.inr (.inl (gR h a 1)) :: st) (h) Q) := (WP_at c_Routes_init_79 _ _ _ _).trans (congrArg (fun o => ndX Gm (WP Gm) j_Routes_init 79 o Q) (if_pos hk))
theorem c_Routes_init_82 : mCode j_Routes_init 82 = oIld 2 83 := rfl
theorem e_Routes_init_82 (a0 a1 : Option MV) (x : Int32) : (WP Gm j_Routes_init 82 (a0 :: a1 :: some (.inl x) :: ls) (st) h Q) = (WP Gm j_Routes_init 83 (a0 :: a1 :: some (.inl x) :: ls) (.inl x :: st) (h) Q) := (WP_at c_Routes_init_82 _ _ _ _)
theorem c_Routes_init_83 : mCode j_Routes_init 83 = oAal 4 84 := rfl
theorem e_Routes_init_83 (a : Nat) (i : Int32) (hk : isK h a 104 = true) (hi : inL h a i = true) : (WP Gm j_Routes_init 83 (ls) (.inl i :: .inr (.inl (some a)) :: st) h Q) = (WP Gm j_Routes_init 84 (ls) (.inr (.inl (gR h a i.toNatClampNeg)) :: st) (h) Q) := (WP_at c_Routes_init_83 _ _ _ _).trans (congrArg (fun o => ndX Gm (WP Gm) j_Routes_init 83 o Q) (if_pos (by rw [hk, hi]; rfl)))
theorem c_Routes_init_84 : mCode j_Routes_init 84 = oIld 3 85 := rfl
theorem e_Routes_init_84 (a0 a1 a2 : Option MV) (x : Int32) : (WP Gm j_Routes_init 84 (a0 :: a1 :: a2 :: some (.inl x) :: ls) (st) h Q) = (WP Gm j_Routes_init 85 (a0 :: a1 :: a2 :: some (.inl x) :: ls) (.inl x :: st) (h) Q) := (WP_at c_Routes_init_84 _ _ _ _)
theorem c_Routes_init_85 : mCode j_Routes_init 85 = oI (-1) 86 := rfl
theorem e_Routes_init_85  : (WP Gm j_Routes_init 85 (ls) (st) h Q) = (WP Gm j_Routes_init 86 (ls) (.inl (-1) :: st) (h) Q) := (WP_at c_Routes_init_85 _ _ _ _)
theorem c_Routes_init_86 : mCode j_Routes_init 86 = oIas 0 87 := rfl
theorem e_Routes_init_86 (a : Nat) (i : Int32) (x : Int32) (hk : isK h a 100 = true) (hi : inL h a i = true) (h0 : ¬ a = 0) : (WP Gm j_Routes_init 86 (ls) (.inl x :: .inl i :: .inr (.inl (some a)) :: st) h Q) = (WP Gm j_Routes_init 87 (ls) (st) (sI h a i.toNatClampNeg x) Q) := (WP_at c_Routes_init_86 _ _ _ _).trans (congrArg (fun o => ndX Gm (WP Gm) j_Routes_init 86 o Q) (if_pos (by rw [hk, hi]; simp [h0])))
theorem c_Routes_init_87 : mCode j_Routes_init 87 = oAld 0 88 := rfl
theorem e_Routes_init_87 (x : Option Nat) : (WP Gm j_Routes_init 87 (some (.inr (.inl x)) :: ls) (st) h Q) = (WP Gm j_Routes_init 88 (some (.inr (.inl x)) :: ls) (.inr (.inl x) :: st) (h) Q) := (WP_at c_Routes_init_87 _ _ _ _)
theorem c_Routes_init_88 : mCode j_Routes_init 88 = oGetR kc_Routes 2 91 := rfl
theorem e_Routes_init_88 (a : Nat) (hk : isK h a kc_Routes = true) : (WP Gm j_Routes_init 88 (ls) (.inr (.inl (some a)) :: st) h Q) = (WP Gm j_Routes_init 91 (ls) (.inr (.inl (gR h a 2)) :: st) (h) Q) := (WP_at c_Routes_init_88 _ _ _ _).trans (congrArg (fun o => ndX Gm (WP Gm) j_Routes_init 88 o Q) (if_pos hk))
theorem c_Routes_init_91 : mCode j_Routes_init 91 = oIld 2 92 := rfl
theorem e_Routes_init_91 (a0 a1 : Option MV) (x : Int32) : (WP Gm j_Routes_init 91 (a0 :: a1 :: some (.inl x) :: ls) (st) h Q) = (WP Gm j_Routes_init 92 (a0 :: a1 :: some (.inl x) :: ls) (.inl x :: st) (h) Q) := (WP_at c_Routes_init_91 _ _ _ _)
theorem c_Routes_init_92 : mCode j_Routes_init 92 = oAal 4 93 := rfl
theorem e_Routes_init_92 (a : Nat) (i : Int32) (hk : isK h a 104 = true) (hi : inL h a i = true) : (WP Gm j_Routes_init 92 (ls) (.inl i :: .inr (.inl (some a)) :: st) h Q) = (WP Gm j_Routes_init 93 (ls) (.inr (.inl (gR h a i.toNatClampNeg)) :: st) (h) Q) := (WP_at c_Routes_init_92 _ _ _ _).trans (congrArg (fun o => ndX Gm (WP Gm) j_Routes_init 92 o Q) (if_pos (by rw [hk, hi]; rfl)))
theorem c_Routes_init_93 : mCode j_Routes_init 93 = oIld 3 94 := rfl
theorem e_Routes_init_93 (a0 a1 a2 : Option MV) (x : Int32) : (WP Gm j_Routes_init 93 (a0 :: a1 :: a2 :: some (.inl x) :: ls) (st) h Q) = (WP Gm j_Routes_init 94 (a0 :: a1 :: a2 :: some (.inl x) :: ls) (.inl x :: st) (h) Q) := (WP_at c_Routes_init_93 _ _ _ _)
theorem c_Routes_init_94 : mCode j_Routes_init 94 = oI (-1) 95 := rfl
theorem e_Routes_init_94  : (WP Gm j_Routes_init 94 (ls) (st) h Q) = (WP Gm j_Routes_init 95 (ls) (.inl (-1) :: st) (h) Q) := (WP_at c_Routes_init_94 _ _ _ _)
theorem c_Routes_init_95 : mCode j_Routes_init 95 = oIas 0 96 := rfl
theorem e_Routes_init_95 (a : Nat) (i : Int32) (x : Int32) (hk : isK h a 100 = true) (hi : inL h a i = true) (h0 : ¬ a = 0) : (WP Gm j_Routes_init 95 (ls) (.inl x :: .inl i :: .inr (.inl (some a)) :: st) h Q) = (WP Gm j_Routes_init 96 (ls) (st) (sI h a i.toNatClampNeg x) Q) := (WP_at c_Routes_init_95 _ _ _ _).trans (congrArg (fun o => ndX Gm (WP Gm) j_Routes_init 95 o Q) (if_pos (by rw [hk, hi]; simp [h0])))
theorem c_Routes_init_96 : mCode j_Routes_init 96 = oAld 0 97 := rfl
theorem e_Routes_init_96 (x : Option Nat) : (WP Gm j_Routes_init 96 (some (.inr (.inl x)) :: ls) (st) h Q) = (WP Gm j_Routes_init 97 (some (.inr (.inl x)) :: ls) (.inr (.inl x) :: st) (h) Q) := (WP_at c_Routes_init_96 _ _ _ _)
theorem c_Routes_init_97 : mCode j_Routes_init 97 = oGetR kc_Routes 3 100 := rfl
theorem e_Routes_init_97 (a : Nat) (hk : isK h a kc_Routes = true) : (WP Gm j_Routes_init 97 (ls) (.inr (.inl (some a)) :: st) h Q) = (WP Gm j_Routes_init 100 (ls) (.inr (.inl (gR h a 3)) :: st) (h) Q) := (WP_at c_Routes_init_97 _ _ _ _).trans (congrArg (fun o => ndX Gm (WP Gm) j_Routes_init 97 o Q) (if_pos hk))
theorem c_Routes_init_100 : mCode j_Routes_init 100 = oIld 2 101 := rfl
theorem e_Routes_init_100 (a0 a1 : Option MV) (x : Int32) : (WP Gm j_Routes_init 100 (a0 :: a1 :: some (.inl x) :: ls) (st) h Q) = (WP Gm j_Routes_init 101 (a0 :: a1 :: some (.inl x) :: ls) (.inl x :: st) (h) Q) := (WP_at c_Routes_init_100 _ _ _ _)
theorem c_Routes_init_101 : mCode j_Routes_init 101 = oAal 4 102 := rfl
theorem e_Routes_init_101 (a : Nat) (i : Int32) (hk : isK h a 104 = true) (hi : inL h a i = true) : (WP Gm j_Routes_init 101 (ls) (.inl i :: .inr (.inl (some a)) :: st) h Q) = (WP Gm j_Routes_init 102 (ls) (.inr (.inl (gR h a i.toNatClampNeg)) :: st) (h) Q) := (WP_at c_Routes_init_101 _ _ _ _).trans (congrArg (fun o => ndX Gm (WP Gm) j_Routes_init 101 o Q) (if_pos (by rw [hk, hi]; rfl)))
theorem c_Routes_init_102 : mCode j_Routes_init 102 = oIld 3 103 := rfl
theorem e_Routes_init_102 (a0 a1 a2 : Option MV) (x : Int32) : (WP Gm j_Routes_init 102 (a0 :: a1 :: a2 :: some (.inl x) :: ls) (st) h Q) = (WP Gm j_Routes_init 103 (a0 :: a1 :: a2 :: some (.inl x) :: ls) (.inl x :: st) (h) Q) := (WP_at c_Routes_init_102 _ _ _ _)
theorem c_Routes_init_103 : mCode j_Routes_init 103 = oI (-1) 104 := rfl
theorem e_Routes_init_103  : (WP Gm j_Routes_init 103 (ls) (st) h Q) = (WP Gm j_Routes_init 104 (ls) (.inl (-1) :: st) (h) Q) := (WP_at c_Routes_init_103 _ _ _ _)
theorem c_Routes_init_104 : mCode j_Routes_init 104 = oIas 0 105 := rfl
theorem e_Routes_init_104 (a : Nat) (i : Int32) (x : Int32) (hk : isK h a 100 = true) (hi : inL h a i = true) (h0 : ¬ a = 0) : (WP Gm j_Routes_init 104 (ls) (.inl x :: .inl i :: .inr (.inl (some a)) :: st) h Q) = (WP Gm j_Routes_init 105 (ls) (st) (sI h a i.toNatClampNeg x) Q) := (WP_at c_Routes_init_104 _ _ _ _).trans (congrArg (fun o => ndX Gm (WP Gm) j_Routes_init 104 o Q) (if_pos (by rw [hk, hi]; simp [h0])))
theorem c_Routes_init_105 : mCode j_Routes_init 105 = oAld 0 106 := rfl
theorem e_Routes_init_105 (x : Option Nat) : (WP Gm j_Routes_init 105 (some (.inr (.inl x)) :: ls) (st) h Q) = (WP Gm j_Routes_init 106 (some (.inr (.inl x)) :: ls) (.inr (.inl x) :: st) (h) Q) := (WP_at c_Routes_init_105 _ _ _ _)
theorem c_Routes_init_106 : mCode j_Routes_init 106 = oGetR kc_Routes 4 109 := rfl
theorem e_Routes_init_106 (a : Nat) (hk : isK h a kc_Routes = true) : (WP Gm j_Routes_init 106 (ls) (.inr (.inl (some a)) :: st) h Q) = (WP Gm j_Routes_init 109 (ls) (.inr (.inl (gR h a 4)) :: st) (h) Q) := (WP_at c_Routes_init_106 _ _ _ _).trans (congrArg (fun o => ndX Gm (WP Gm) j_Routes_init 106 o Q) (if_pos hk))
theorem c_Routes_init_109 : mCode j_Routes_init 109 = oIld 2 110 := rfl
theorem e_Routes_init_109 (a0 a1 : Option MV) (x : Int32) : (WP Gm j_Routes_init 109 (a0 :: a1 :: some (.inl x) :: ls) (st) h Q) = (WP Gm j_Routes_init 110 (a0 :: a1 :: some (.inl x) :: ls) (.inl x :: st) (h) Q) := (WP_at c_Routes_init_109 _ _ _ _)
theorem c_Routes_init_110 : mCode j_Routes_init 110 = oAal 4 111 := rfl
theorem e_Routes_init_110 (a : Nat) (i : Int32) (hk : isK h a 104 = true) (hi : inL h a i = true) : (WP Gm j_Routes_init 110 (ls) (.inl i :: .inr (.inl (some a)) :: st) h Q) = (WP Gm j_Routes_init 111 (ls) (.inr (.inl (gR h a i.toNatClampNeg)) :: st) (h) Q) := (WP_at c_Routes_init_110 _ _ _ _).trans (congrArg (fun o => ndX Gm (WP Gm) j_Routes_init 110 o Q) (if_pos (by rw [hk, hi]; rfl)))
theorem c_Routes_init_111 : mCode j_Routes_init 111 = oIld 3 112 := rfl
theorem e_Routes_init_111 (a0 a1 a2 : Option MV) (x : Int32) : (WP Gm j_Routes_init 111 (a0 :: a1 :: a2 :: some (.inl x) :: ls) (st) h Q) = (WP Gm j_Routes_init 112 (a0 :: a1 :: a2 :: some (.inl x) :: ls) (.inl x :: st) (h) Q) := (WP_at c_Routes_init_111 _ _ _ _)
theorem c_Routes_init_112 : mCode j_Routes_init 112 = oI (-1) 113 := rfl
theorem e_Routes_init_112  : (WP Gm j_Routes_init 112 (ls) (st) h Q) = (WP Gm j_Routes_init 113 (ls) (.inl (-1) :: st) (h) Q) := (WP_at c_Routes_init_112 _ _ _ _)
theorem c_Routes_init_113 : mCode j_Routes_init 113 = oIas 0 114 := rfl
theorem e_Routes_init_113 (a : Nat) (i : Int32) (x : Int32) (hk : isK h a 100 = true) (hi : inL h a i = true) (h0 : ¬ a = 0) : (WP Gm j_Routes_init 113 (ls) (.inl x :: .inl i :: .inr (.inl (some a)) :: st) h Q) = (WP Gm j_Routes_init 114 (ls) (st) (sI h a i.toNatClampNeg x) Q) := (WP_at c_Routes_init_113 _ _ _ _).trans (congrArg (fun o => ndX Gm (WP Gm) j_Routes_init 113 o Q) (if_pos (by rw [hk, hi]; simp [h0])))
theorem c_Routes_init_114 : mCode j_Routes_init 114 = oInc 3 1 117 := rfl
theorem e_Routes_init_114 (a0 a1 a2 : Option MV) (x : Int32) : (WP Gm j_Routes_init 114 (a0 :: a1 :: a2 :: some (.inl x) :: ls) (st) h Q) = (WP Gm j_Routes_init 117 (lSet1 (a0 :: a1 :: a2 :: some (.inl x) :: ls) 3 (some (.inl (x + 1)))) (st) (h) Q) := (WP_at c_Routes_init_114 _ _ _ _)
theorem c_Routes_init_117 : mCode j_Routes_init 117 = oGo 72 := rfl
theorem e_Routes_init_117  : (WP Gm j_Routes_init 117 (ls) (st) h Q) = (WP Gm j_Routes_init 72 (ls) (st) (h) Q) := (WP_at c_Routes_init_117 _ _ _ _)
theorem c_Routes_init_120 : mCode j_Routes_init 120 = oInc 2 1 123 := rfl
theorem e_Routes_init_120 (a0 a1 : Option MV) (x : Int32) : (WP Gm j_Routes_init 120 (a0 :: a1 :: some (.inl x) :: ls) (st) h Q) = (WP Gm j_Routes_init 123 (lSet1 (a0 :: a1 :: some (.inl x) :: ls) 2 (some (.inl (x + 1)))) (st) (h) Q) := (WP_at c_Routes_init_120 _ _ _ _)
theorem c_Routes_init_123 : mCode j_Routes_init 123 = oGo 64 := rfl
theorem e_Routes_init_123  : (WP Gm j_Routes_init 123 (ls) (st) h Q) = (WP Gm j_Routes_init 64 (ls) (st) (h) Q) := (WP_at c_Routes_init_123 _ _ _ _)
theorem c_Routes_init_126 : mCode j_Routes_init 126 = oRet := rfl
theorem e_Routes_init_126  : (WP Gm j_Routes_init 126 (ls) ([]) h Q) = (Q (.inl none) h) := (WP_at c_Routes_init_126 _ _ _ _)
theorem c_Routes_costOf_0 : mCode j_Routes_costOf 0 = oAld 0 1 := rfl
theorem e_Routes_costOf_0 (x : Option Nat) : (WP Gm j_Routes_costOf 0 (some (.inr (.inl x)) :: ls) (st) h Q) = (WP Gm j_Routes_costOf 1 (some (.inr (.inl x)) :: ls) (.inr (.inl x) :: st) (h) Q) := (WP_at c_Routes_costOf_0 _ _ _ _)
theorem c_Routes_costOf_1 : mCode j_Routes_costOf 1 = oGetR kc_Routes 0 4 := rfl
theorem e_Routes_costOf_1 (a : Nat) (hk : isK h a kc_Routes = true) : (WP Gm j_Routes_costOf 1 (ls) (.inr (.inl (some a)) :: st) h Q) = (WP Gm j_Routes_costOf 4 (ls) (.inr (.inl (gR h a 0)) :: st) (h) Q) := (WP_at c_Routes_costOf_1 _ _ _ _).trans (congrArg (fun o => ndX Gm (WP Gm) j_Routes_costOf 1 o Q) (if_pos hk))
theorem c_Routes_costOf_4 : mCode j_Routes_costOf 4 = oIld 1 5 := rfl
theorem e_Routes_costOf_4 (a0 : Option MV) (x : Int32) : (WP Gm j_Routes_costOf 4 (a0 :: some (.inl x) :: ls) (st) h Q) = (WP Gm j_Routes_costOf 5 (a0 :: some (.inl x) :: ls) (.inl x :: st) (h) Q) := (WP_at c_Routes_costOf_4 _ _ _ _)
theorem c_Routes_costOf_5 : mCode j_Routes_costOf 5 = oCallV kc_Land j_Land_isNode 1 (mL j_Land_isNode) 8 := rfl
theorem e_Routes_costOf_5 (a : Nat) (x0 : Int32) (hk : isK h a kc_Land = true) (hc : c8 st = true) : (WP Gm j_Routes_costOf 5 (ls) (.inl x0 :: .inr (.inl (some a)) :: st) h Q) = (WP Gm j_Land_isNode 0 [some (.inr (.inl (some a))), some (.inl x0)] [] h (kC (fun v h2 => WP Gm j_Routes_costOf 8 ls (v.toList ++ st) h2 Q) (fun E h2 => Q (.inr E) h2))) := (WP_at c_Routes_costOf_5 _ _ _ _).trans (congrArg (fun o => ndX Gm (WP Gm) j_Routes_costOf 5 o Q) (if_pos (by rw [hk, show decide (catS st ≤ 8) = true from hc]; rfl)))
theorem c_Routes_costOf_8 : mCode j_Routes_costOf 8 = oIf (fun x => decide (x = 0)) 33 11 := rfl
theorem e_Routes_costOf_8 (x : Int32) : (WP Gm j_Routes_costOf 8 (ls) (.inl x :: st) h Q) = (if x = 0 then WP Gm j_Routes_costOf 33 (ls) (st) (h) Q else WP Gm j_Routes_costOf 11 (ls) (st) (h) Q) := (WP_at c_Routes_costOf_8 _ _ _ _).trans (nd_if rfl _ _ _ _)
theorem c_Routes_costOf_11 : mCode j_Routes_costOf 11 = oAld 0 12 := rfl
theorem e_Routes_costOf_11 (x : Option Nat) : (WP Gm j_Routes_costOf 11 (some (.inr (.inl x)) :: ls) (st) h Q) = (WP Gm j_Routes_costOf 12 (some (.inr (.inl x)) :: ls) (.inr (.inl x) :: st) (h) Q) := (WP_at c_Routes_costOf_11 _ _ _ _)
theorem c_Routes_costOf_12 : mCode j_Routes_costOf 12 = oGetR kc_Routes 0 15 := rfl
theorem e_Routes_costOf_12 (a : Nat) (hk : isK h a kc_Routes = true) : (WP Gm j_Routes_costOf 12 (ls) (.inr (.inl (some a)) :: st) h Q) = (WP Gm j_Routes_costOf 15 (ls) (.inr (.inl (gR h a 0)) :: st) (h) Q) := (WP_at c_Routes_costOf_12 _ _ _ _).trans (congrArg (fun o => ndX Gm (WP Gm) j_Routes_costOf 12 o Q) (if_pos hk))
theorem c_Routes_costOf_15 : mCode j_Routes_costOf 15 = oIld 2 16 := rfl
theorem e_Routes_costOf_15 (a0 a1 : Option MV) (x : Int32) : (WP Gm j_Routes_costOf 15 (a0 :: a1 :: some (.inl x) :: ls) (st) h Q) = (WP Gm j_Routes_costOf 16 (a0 :: a1 :: some (.inl x) :: ls) (.inl x :: st) (h) Q) := (WP_at c_Routes_costOf_15 _ _ _ _)
theorem c_Routes_costOf_16 : mCode j_Routes_costOf 16 = oCallV kc_Land j_Land_isNode 1 (mL j_Land_isNode) 19 := rfl
theorem e_Routes_costOf_16 (a : Nat) (x0 : Int32) (hk : isK h a kc_Land = true) (hc : c8 st = true) : (WP Gm j_Routes_costOf 16 (ls) (.inl x0 :: .inr (.inl (some a)) :: st) h Q) = (WP Gm j_Land_isNode 0 [some (.inr (.inl (some a))), some (.inl x0)] [] h (kC (fun v h2 => WP Gm j_Routes_costOf 19 ls (v.toList ++ st) h2 Q) (fun E h2 => Q (.inr E) h2))) := (WP_at c_Routes_costOf_16 _ _ _ _).trans (congrArg (fun o => ndX Gm (WP Gm) j_Routes_costOf 16 o Q) (if_pos (by rw [hk, show decide (catS st ≤ 8) = true from hc]; rfl)))
theorem c_Routes_costOf_19 : mCode j_Routes_costOf 19 = oIf (fun x => decide (x = 0)) 33 22 := rfl
theorem e_Routes_costOf_19 (x : Int32) : (WP Gm j_Routes_costOf 19 (ls) (.inl x :: st) h Q) = (if x = 0 then WP Gm j_Routes_costOf 33 (ls) (st) (h) Q else WP Gm j_Routes_costOf 22 (ls) (st) (h) Q) := (WP_at c_Routes_costOf_19 _ _ _ _).trans (nd_if rfl _ _ _ _)
theorem c_Routes_costOf_22 : mCode j_Routes_costOf 22 = oAld 0 23 := rfl
theorem e_Routes_costOf_22 (x : Option Nat) : (WP Gm j_Routes_costOf 22 (some (.inr (.inl x)) :: ls) (st) h Q) = (WP Gm j_Routes_costOf 23 (some (.inr (.inl x)) :: ls) (.inr (.inl x) :: st) (h) Q) := (WP_at c_Routes_costOf_22 _ _ _ _)
theorem c_Routes_costOf_23 : mCode j_Routes_costOf 23 = oGetR kc_Routes 1 26 := rfl
theorem e_Routes_costOf_23 (a : Nat) (hk : isK h a kc_Routes = true) : (WP Gm j_Routes_costOf 23 (ls) (.inr (.inl (some a)) :: st) h Q) = (WP Gm j_Routes_costOf 26 (ls) (.inr (.inl (gR h a 1)) :: st) (h) Q) := (WP_at c_Routes_costOf_23 _ _ _ _).trans (congrArg (fun o => ndX Gm (WP Gm) j_Routes_costOf 23 o Q) (if_pos hk))
theorem c_Routes_costOf_26 : mCode j_Routes_costOf 26 = oIld 1 27 := rfl
theorem e_Routes_costOf_26 (a0 : Option MV) (x : Int32) : (WP Gm j_Routes_costOf 26 (a0 :: some (.inl x) :: ls) (st) h Q) = (WP Gm j_Routes_costOf 27 (a0 :: some (.inl x) :: ls) (.inl x :: st) (h) Q) := (WP_at c_Routes_costOf_26 _ _ _ _)
theorem c_Routes_costOf_27 : mCode j_Routes_costOf 27 = oAal 4 28 := rfl
theorem e_Routes_costOf_27 (a : Nat) (i : Int32) (hk : isK h a 104 = true) (hi : inL h a i = true) : (WP Gm j_Routes_costOf 27 (ls) (.inl i :: .inr (.inl (some a)) :: st) h Q) = (WP Gm j_Routes_costOf 28 (ls) (.inr (.inl (gR h a i.toNatClampNeg)) :: st) (h) Q) := (WP_at c_Routes_costOf_27 _ _ _ _).trans (congrArg (fun o => ndX Gm (WP Gm) j_Routes_costOf 27 o Q) (if_pos (by rw [hk, hi]; rfl)))
theorem c_Routes_costOf_28 : mCode j_Routes_costOf 28 = oIld 2 29 := rfl
theorem e_Routes_costOf_28 (a0 a1 : Option MV) (x : Int32) : (WP Gm j_Routes_costOf 28 (a0 :: a1 :: some (.inl x) :: ls) (st) h Q) = (WP Gm j_Routes_costOf 29 (a0 :: a1 :: some (.inl x) :: ls) (.inl x :: st) (h) Q) := (WP_at c_Routes_costOf_28 _ _ _ _)
theorem c_Routes_costOf_29 : mCode j_Routes_costOf 29 = oIal 0 30 := rfl
theorem e_Routes_costOf_29 (a : Nat) (i : Int32) (hk : isK h a 100 = true) (hi : inL h a i = true) : (WP Gm j_Routes_costOf 29 (ls) (.inl i :: .inr (.inl (some a)) :: st) h Q) = (WP Gm j_Routes_costOf 30 (ls) (.inl (gI h a i.toNatClampNeg) :: st) (h) Q) := (WP_at c_Routes_costOf_29 _ _ _ _).trans (congrArg (fun o => ndX Gm (WP Gm) j_Routes_costOf 29 o Q) (if_pos (by rw [hk, hi]; rfl)))
theorem c_Routes_costOf_30 : mCode j_Routes_costOf 30 = oGo 34 := rfl
theorem e_Routes_costOf_30  : (WP Gm j_Routes_costOf 30 (ls) (st) h Q) = (WP Gm j_Routes_costOf 34 (ls) (st) (h) Q) := (WP_at c_Routes_costOf_30 _ _ _ _)
theorem c_Routes_costOf_33 : mCode j_Routes_costOf 33 = oI (-1) 34 := rfl
theorem e_Routes_costOf_33  : (WP Gm j_Routes_costOf 33 (ls) (st) h Q) = (WP Gm j_Routes_costOf 34 (ls) (.inl (-1) :: st) (h) Q) := (WP_at c_Routes_costOf_33 _ _ _ _)
theorem c_Routes_costOf_34 : mCode j_Routes_costOf 34 = oRetI := rfl
theorem e_Routes_costOf_34 (x : Int32) : (WP Gm j_Routes_costOf 34 (ls) ([.inl x]) h Q) = (Q (.inl (some (.inl x))) h) := (WP_at c_Routes_costOf_34 _ _ _ _)
theorem c_Routes_nextOf_0 : mCode j_Routes_nextOf 0 = oAld 0 1 := rfl
theorem e_Routes_nextOf_0 (x : Option Nat) : (WP Gm j_Routes_nextOf 0 (some (.inr (.inl x)) :: ls) (st) h Q) = (WP Gm j_Routes_nextOf 1 (some (.inr (.inl x)) :: ls) (.inr (.inl x) :: st) (h) Q) := (WP_at c_Routes_nextOf_0 _ _ _ _)
theorem c_Routes_nextOf_1 : mCode j_Routes_nextOf 1 = oGetR kc_Routes 0 4 := rfl
theorem e_Routes_nextOf_1 (a : Nat) (hk : isK h a kc_Routes = true) : (WP Gm j_Routes_nextOf 1 (ls) (.inr (.inl (some a)) :: st) h Q) = (WP Gm j_Routes_nextOf 4 (ls) (.inr (.inl (gR h a 0)) :: st) (h) Q) := (WP_at c_Routes_nextOf_1 _ _ _ _).trans (congrArg (fun o => ndX Gm (WP Gm) j_Routes_nextOf 1 o Q) (if_pos hk))
theorem c_Routes_nextOf_4 : mCode j_Routes_nextOf 4 = oIld 1 5 := rfl
theorem e_Routes_nextOf_4 (a0 : Option MV) (x : Int32) : (WP Gm j_Routes_nextOf 4 (a0 :: some (.inl x) :: ls) (st) h Q) = (WP Gm j_Routes_nextOf 5 (a0 :: some (.inl x) :: ls) (.inl x :: st) (h) Q) := (WP_at c_Routes_nextOf_4 _ _ _ _)
theorem c_Routes_nextOf_5 : mCode j_Routes_nextOf 5 = oCallV kc_Land j_Land_isNode 1 (mL j_Land_isNode) 8 := rfl
theorem e_Routes_nextOf_5 (a : Nat) (x0 : Int32) (hk : isK h a kc_Land = true) (hc : c8 st = true) : (WP Gm j_Routes_nextOf 5 (ls) (.inl x0 :: .inr (.inl (some a)) :: st) h Q) = (WP Gm j_Land_isNode 0 [some (.inr (.inl (some a))), some (.inl x0)] [] h (kC (fun v h2 => WP Gm j_Routes_nextOf 8 ls (v.toList ++ st) h2 Q) (fun E h2 => Q (.inr E) h2))) := (WP_at c_Routes_nextOf_5 _ _ _ _).trans (congrArg (fun o => ndX Gm (WP Gm) j_Routes_nextOf 5 o Q) (if_pos (by rw [hk, show decide (catS st ≤ 8) = true from hc]; rfl)))
theorem c_Routes_nextOf_8 : mCode j_Routes_nextOf 8 = oIf (fun x => decide (x = 0)) 33 11 := rfl
theorem e_Routes_nextOf_8 (x : Int32) : (WP Gm j_Routes_nextOf 8 (ls) (.inl x :: st) h Q) = (if x = 0 then WP Gm j_Routes_nextOf 33 (ls) (st) (h) Q else WP Gm j_Routes_nextOf 11 (ls) (st) (h) Q) := (WP_at c_Routes_nextOf_8 _ _ _ _).trans (nd_if rfl _ _ _ _)
theorem c_Routes_nextOf_11 : mCode j_Routes_nextOf 11 = oAld 0 12 := rfl
theorem e_Routes_nextOf_11 (x : Option Nat) : (WP Gm j_Routes_nextOf 11 (some (.inr (.inl x)) :: ls) (st) h Q) = (WP Gm j_Routes_nextOf 12 (some (.inr (.inl x)) :: ls) (.inr (.inl x) :: st) (h) Q) := (WP_at c_Routes_nextOf_11 _ _ _ _)
theorem c_Routes_nextOf_12 : mCode j_Routes_nextOf 12 = oGetR kc_Routes 0 15 := rfl
theorem e_Routes_nextOf_12 (a : Nat) (hk : isK h a kc_Routes = true) : (WP Gm j_Routes_nextOf 12 (ls) (.inr (.inl (some a)) :: st) h Q) = (WP Gm j_Routes_nextOf 15 (ls) (.inr (.inl (gR h a 0)) :: st) (h) Q) := (WP_at c_Routes_nextOf_12 _ _ _ _).trans (congrArg (fun o => ndX Gm (WP Gm) j_Routes_nextOf 12 o Q) (if_pos hk))
theorem c_Routes_nextOf_15 : mCode j_Routes_nextOf 15 = oIld 2 16 := rfl
theorem e_Routes_nextOf_15 (a0 a1 : Option MV) (x : Int32) : (WP Gm j_Routes_nextOf 15 (a0 :: a1 :: some (.inl x) :: ls) (st) h Q) = (WP Gm j_Routes_nextOf 16 (a0 :: a1 :: some (.inl x) :: ls) (.inl x :: st) (h) Q) := (WP_at c_Routes_nextOf_15 _ _ _ _)
theorem c_Routes_nextOf_16 : mCode j_Routes_nextOf 16 = oCallV kc_Land j_Land_isNode 1 (mL j_Land_isNode) 19 := rfl
theorem e_Routes_nextOf_16 (a : Nat) (x0 : Int32) (hk : isK h a kc_Land = true) (hc : c8 st = true) : (WP Gm j_Routes_nextOf 16 (ls) (.inl x0 :: .inr (.inl (some a)) :: st) h Q) = (WP Gm j_Land_isNode 0 [some (.inr (.inl (some a))), some (.inl x0)] [] h (kC (fun v h2 => WP Gm j_Routes_nextOf 19 ls (v.toList ++ st) h2 Q) (fun E h2 => Q (.inr E) h2))) := (WP_at c_Routes_nextOf_16 _ _ _ _).trans (congrArg (fun o => ndX Gm (WP Gm) j_Routes_nextOf 16 o Q) (if_pos (by rw [hk, show decide (catS st ≤ 8) = true from hc]; rfl)))
theorem c_Routes_nextOf_19 : mCode j_Routes_nextOf 19 = oIf (fun x => decide (x = 0)) 33 22 := rfl
theorem e_Routes_nextOf_19 (x : Int32) : (WP Gm j_Routes_nextOf 19 (ls) (.inl x :: st) h Q) = (if x = 0 then WP Gm j_Routes_nextOf 33 (ls) (st) (h) Q else WP Gm j_Routes_nextOf 22 (ls) (st) (h) Q) := (WP_at c_Routes_nextOf_19 _ _ _ _).trans (nd_if rfl _ _ _ _)
theorem c_Routes_nextOf_22 : mCode j_Routes_nextOf 22 = oAld 0 23 := rfl
theorem e_Routes_nextOf_22 (x : Option Nat) : (WP Gm j_Routes_nextOf 22 (some (.inr (.inl x)) :: ls) (st) h Q) = (WP Gm j_Routes_nextOf 23 (some (.inr (.inl x)) :: ls) (.inr (.inl x) :: st) (h) Q) := (WP_at c_Routes_nextOf_22 _ _ _ _)
theorem c_Routes_nextOf_23 : mCode j_Routes_nextOf 23 = oGetR kc_Routes 2 26 := rfl
theorem e_Routes_nextOf_23 (a : Nat) (hk : isK h a kc_Routes = true) : (WP Gm j_Routes_nextOf 23 (ls) (.inr (.inl (some a)) :: st) h Q) = (WP Gm j_Routes_nextOf 26 (ls) (.inr (.inl (gR h a 2)) :: st) (h) Q) := (WP_at c_Routes_nextOf_23 _ _ _ _).trans (congrArg (fun o => ndX Gm (WP Gm) j_Routes_nextOf 23 o Q) (if_pos hk))
theorem c_Routes_nextOf_26 : mCode j_Routes_nextOf 26 = oIld 1 27 := rfl
theorem e_Routes_nextOf_26 (a0 : Option MV) (x : Int32) : (WP Gm j_Routes_nextOf 26 (a0 :: some (.inl x) :: ls) (st) h Q) = (WP Gm j_Routes_nextOf 27 (a0 :: some (.inl x) :: ls) (.inl x :: st) (h) Q) := (WP_at c_Routes_nextOf_26 _ _ _ _)
theorem c_Routes_nextOf_27 : mCode j_Routes_nextOf 27 = oAal 4 28 := rfl
theorem e_Routes_nextOf_27 (a : Nat) (i : Int32) (hk : isK h a 104 = true) (hi : inL h a i = true) : (WP Gm j_Routes_nextOf 27 (ls) (.inl i :: .inr (.inl (some a)) :: st) h Q) = (WP Gm j_Routes_nextOf 28 (ls) (.inr (.inl (gR h a i.toNatClampNeg)) :: st) (h) Q) := (WP_at c_Routes_nextOf_27 _ _ _ _).trans (congrArg (fun o => ndX Gm (WP Gm) j_Routes_nextOf 27 o Q) (if_pos (by rw [hk, hi]; rfl)))
theorem c_Routes_nextOf_28 : mCode j_Routes_nextOf 28 = oIld 2 29 := rfl
theorem e_Routes_nextOf_28 (a0 a1 : Option MV) (x : Int32) : (WP Gm j_Routes_nextOf 28 (a0 :: a1 :: some (.inl x) :: ls) (st) h Q) = (WP Gm j_Routes_nextOf 29 (a0 :: a1 :: some (.inl x) :: ls) (.inl x :: st) (h) Q) := (WP_at c_Routes_nextOf_28 _ _ _ _)
theorem c_Routes_nextOf_29 : mCode j_Routes_nextOf 29 = oIal 0 30 := rfl
theorem e_Routes_nextOf_29 (a : Nat) (i : Int32) (hk : isK h a 100 = true) (hi : inL h a i = true) : (WP Gm j_Routes_nextOf 29 (ls) (.inl i :: .inr (.inl (some a)) :: st) h Q) = (WP Gm j_Routes_nextOf 30 (ls) (.inl (gI h a i.toNatClampNeg) :: st) (h) Q) := (WP_at c_Routes_nextOf_29 _ _ _ _).trans (congrArg (fun o => ndX Gm (WP Gm) j_Routes_nextOf 29 o Q) (if_pos (by rw [hk, hi]; rfl)))
theorem c_Routes_nextOf_30 : mCode j_Routes_nextOf 30 = oGo 34 := rfl
theorem e_Routes_nextOf_30  : (WP Gm j_Routes_nextOf 30 (ls) (st) h Q) = (WP Gm j_Routes_nextOf 34 (ls) (st) (h) Q) := (WP_at c_Routes_nextOf_30 _ _ _ _)
theorem c_Routes_nextOf_33 : mCode j_Routes_nextOf 33 = oI (-1) 34 := rfl
theorem e_Routes_nextOf_33  : (WP Gm j_Routes_nextOf 33 (ls) (st) h Q) = (WP Gm j_Routes_nextOf 34 (ls) (.inl (-1) :: st) (h) Q) := (WP_at c_Routes_nextOf_33 _ _ _ _)
theorem c_Routes_nextOf_34 : mCode j_Routes_nextOf 34 = oRetI := rfl
theorem e_Routes_nextOf_34 (x : Int32) : (WP Gm j_Routes_nextOf 34 (ls) ([.inl x]) h Q) = (Q (.inl (some (.inl x))) h) := (WP_at c_Routes_nextOf_34 _ _ _ _)
theorem c_Routes_renew_0 : mCode j_Routes_renew 0 = oI 0 1 := rfl
theorem e_Routes_renew_0  : (WP Gm j_Routes_renew 0 (ls) (st) h Q) = (WP Gm j_Routes_renew 1 (ls) (.inl 0 :: st) (h) Q) := (WP_at c_Routes_renew_0 _ _ _ _)
theorem c_Routes_renew_1 : mCode j_Routes_renew 1 = oIst 1 2 := rfl
theorem e_Routes_renew_1 (x : Int32) : (WP Gm j_Routes_renew 1 (ls) (.inl x :: st) h Q) = (WP Gm j_Routes_renew 2 (lSet1 ls 1 (some (.inl x))) (st) (h) Q) := (WP_at c_Routes_renew_1 _ _ _ _)
theorem c_Routes_renew_2 : mCode j_Routes_renew 2 = oIld 1 3 := rfl
theorem e_Routes_renew_2 (a0 : Option MV) (x : Int32) : (WP Gm j_Routes_renew 2 (a0 :: some (.inl x) :: ls) (st) h Q) = (WP Gm j_Routes_renew 3 (a0 :: some (.inl x) :: ls) (.inl x :: st) (h) Q) := (WP_at c_Routes_renew_2 _ _ _ _)
theorem c_Routes_renew_3 : mCode j_Routes_renew 3 = oAld 0 4 := rfl
theorem e_Routes_renew_3 (x : Option Nat) : (WP Gm j_Routes_renew 3 (some (.inr (.inl x)) :: ls) (st) h Q) = (WP Gm j_Routes_renew 4 (some (.inr (.inl x)) :: ls) (.inr (.inl x) :: st) (h) Q) := (WP_at c_Routes_renew_3 _ _ _ _)
theorem c_Routes_renew_4 : mCode j_Routes_renew 4 = oGetR kc_Routes 0 7 := rfl
theorem e_Routes_renew_4 (a : Nat) (hk : isK h a kc_Routes = true) : (WP Gm j_Routes_renew 4 (ls) (.inr (.inl (some a)) :: st) h Q) = (WP Gm j_Routes_renew 7 (ls) (.inr (.inl (gR h a 0)) :: st) (h) Q) := (WP_at c_Routes_renew_4 _ _ _ _).trans (congrArg (fun o => ndX Gm (WP Gm) j_Routes_renew 4 o Q) (if_pos hk))
theorem c_Routes_renew_7 : mCode j_Routes_renew 7 = oGetI kc_Land 2 10 := rfl
theorem e_Routes_renew_7 (a : Nat) (hk : isK h a kc_Land = true) : (WP Gm j_Routes_renew 7 (ls) (.inr (.inl (some a)) :: st) h Q) = (WP Gm j_Routes_renew 10 (ls) (.inl (gI h a 2) :: st) (h) Q) := (WP_at c_Routes_renew_7 _ _ _ _).trans (congrArg (fun o => ndX Gm (WP Gm) j_Routes_renew 7 o Q) (if_pos hk))
theorem c_Routes_renew_10 : mCode j_Routes_renew 10 = oIC (fun x y => decide (y ≤ x)) 49 13 := rfl
theorem e_Routes_renew_10 (x y : Int32) : (WP Gm j_Routes_renew 10 (ls) (.inl y :: .inl x :: st) h Q) = (if y ≤ x then WP Gm j_Routes_renew 49 (ls) (st) (h) Q else WP Gm j_Routes_renew 13 (ls) (st) (h) Q) := (WP_at c_Routes_renew_10 _ _ _ _).trans (nd_ic rfl _ _ _ _)
theorem c_Routes_renew_13 : mCode j_Routes_renew 13 = oI 0 14 := rfl
theorem e_Routes_renew_13  : (WP Gm j_Routes_renew 13 (ls) (st) h Q) = (WP Gm j_Routes_renew 14 (ls) (.inl 0 :: st) (h) Q) := (WP_at c_Routes_renew_13 _ _ _ _)
theorem c_Routes_renew_14 : mCode j_Routes_renew 14 = oIst 2 15 := rfl
theorem e_Routes_renew_14 (x : Int32) : (WP Gm j_Routes_renew 14 (ls) (.inl x :: st) h Q) = (WP Gm j_Routes_renew 15 (lSet1 ls 2 (some (.inl x))) (st) (h) Q) := (WP_at c_Routes_renew_14 _ _ _ _)
theorem c_Routes_renew_15 : mCode j_Routes_renew 15 = oIld 2 16 := rfl
theorem e_Routes_renew_15 (a0 a1 : Option MV) (x : Int32) : (WP Gm j_Routes_renew 15 (a0 :: a1 :: some (.inl x) :: ls) (st) h Q) = (WP Gm j_Routes_renew 16 (a0 :: a1 :: some (.inl x) :: ls) (.inl x :: st) (h) Q) := (WP_at c_Routes_renew_15 _ _ _ _)
theorem c_Routes_renew_16 : mCode j_Routes_renew 16 = oAld 0 17 := rfl
theorem e_Routes_renew_16 (x : Option Nat) : (WP Gm j_Routes_renew 16 (some (.inr (.inl x)) :: ls) (st) h Q) = (WP Gm j_Routes_renew 17 (some (.inr (.inl x)) :: ls) (.inr (.inl x) :: st) (h) Q) := (WP_at c_Routes_renew_16 _ _ _ _)
theorem c_Routes_renew_17 : mCode j_Routes_renew 17 = oGetR kc_Routes 0 20 := rfl
theorem e_Routes_renew_17 (a : Nat) (hk : isK h a kc_Routes = true) : (WP Gm j_Routes_renew 17 (ls) (.inr (.inl (some a)) :: st) h Q) = (WP Gm j_Routes_renew 20 (ls) (.inr (.inl (gR h a 0)) :: st) (h) Q) := (WP_at c_Routes_renew_17 _ _ _ _).trans (congrArg (fun o => ndX Gm (WP Gm) j_Routes_renew 17 o Q) (if_pos hk))
theorem c_Routes_renew_20 : mCode j_Routes_renew 20 = oGetI kc_Land 2 23 := rfl
theorem e_Routes_renew_20 (a : Nat) (hk : isK h a kc_Land = true) : (WP Gm j_Routes_renew 20 (ls) (.inr (.inl (some a)) :: st) h Q) = (WP Gm j_Routes_renew 23 (ls) (.inl (gI h a 2) :: st) (h) Q) := (WP_at c_Routes_renew_20 _ _ _ _).trans (congrArg (fun o => ndX Gm (WP Gm) j_Routes_renew 20 o Q) (if_pos hk))
theorem c_Routes_renew_23 : mCode j_Routes_renew 23 = oIC (fun x y => decide (y ≤ x)) 43 26 := rfl
theorem e_Routes_renew_23 (x y : Int32) : (WP Gm j_Routes_renew 23 (ls) (.inl y :: .inl x :: st) h Q) = (if y ≤ x then WP Gm j_Routes_renew 43 (ls) (st) (h) Q else WP Gm j_Routes_renew 26 (ls) (st) (h) Q) := (WP_at c_Routes_renew_23 _ _ _ _).trans (nd_ic rfl _ _ _ _)
theorem c_Routes_renew_26 : mCode j_Routes_renew 26 = oIld 1 27 := rfl
theorem e_Routes_renew_26 (a0 : Option MV) (x : Int32) : (WP Gm j_Routes_renew 26 (a0 :: some (.inl x) :: ls) (st) h Q) = (WP Gm j_Routes_renew 27 (a0 :: some (.inl x) :: ls) (.inl x :: st) (h) Q) := (WP_at c_Routes_renew_26 _ _ _ _)
theorem c_Routes_renew_27 : mCode j_Routes_renew 27 = oIld 2 28 := rfl
theorem e_Routes_renew_27 (a0 a1 : Option MV) (x : Int32) : (WP Gm j_Routes_renew 27 (a0 :: a1 :: some (.inl x) :: ls) (st) h Q) = (WP Gm j_Routes_renew 28 (a0 :: a1 :: some (.inl x) :: ls) (.inl x :: st) (h) Q) := (WP_at c_Routes_renew_27 _ _ _ _)
theorem c_Routes_renew_28 : mCode j_Routes_renew 28 = oIC (fun x y => decide (x = y)) 37 31 := rfl
theorem e_Routes_renew_28 (x y : Int32) : (WP Gm j_Routes_renew 28 (ls) (.inl y :: .inl x :: st) h Q) = (if x = y then WP Gm j_Routes_renew 37 (ls) (st) (h) Q else WP Gm j_Routes_renew 31 (ls) (st) (h) Q) := (WP_at c_Routes_renew_28 _ _ _ _).trans (nd_ic rfl _ _ _ _)
theorem c_Routes_renew_31 : mCode j_Routes_renew 31 = oAld 0 32 := rfl
theorem e_Routes_renew_31 (x : Option Nat) : (WP Gm j_Routes_renew 31 (some (.inr (.inl x)) :: ls) (st) h Q) = (WP Gm j_Routes_renew 32 (some (.inr (.inl x)) :: ls) (.inr (.inl x) :: st) (h) Q) := (WP_at c_Routes_renew_31 _ _ _ _)
theorem c_Routes_renew_32 : mCode j_Routes_renew 32 = oIld 1 33 := rfl
theorem e_Routes_renew_32 (a0 : Option MV) (x : Int32) : (WP Gm j_Routes_renew 32 (a0 :: some (.inl x) :: ls) (st) h Q) = (WP Gm j_Routes_renew 33 (a0 :: some (.inl x) :: ls) (.inl x :: st) (h) Q) := (WP_at c_Routes_renew_32 _ _ _ _)
theorem c_Routes_renew_33 : mCode j_Routes_renew 33 = oIld 2 34 := rfl
theorem e_Routes_renew_33 (a0 a1 : Option MV) (x : Int32) : (WP Gm j_Routes_renew 33 (a0 :: a1 :: some (.inl x) :: ls) (st) h Q) = (WP Gm j_Routes_renew 34 (a0 :: a1 :: some (.inl x) :: ls) (.inl x :: st) (h) Q) := (WP_at c_Routes_renew_33 _ _ _ _)
theorem c_Routes_renew_34 : mCode j_Routes_renew 34 = oCallV kc_Routes j_Routes_renewPair 2 (mL j_Routes_renewPair) 37 := rfl
theorem e_Routes_renew_34 (a : Nat) (x0 : Int32) (x1 : Int32) (hk : isK h a kc_Routes = true) (hc : c8 st = true) : (WP Gm j_Routes_renew 34 (ls) (.inl x1 :: .inl x0 :: .inr (.inl (some a)) :: st) h Q) = (WP Gm j_Routes_renewPair 0 [some (.inr (.inl (some a))), some (.inl x0), some (.inl x1), none, none, none] [] h (kC (fun v h2 => WP Gm j_Routes_renew 37 ls (v.toList ++ st) h2 Q) (fun E h2 => Q (.inr E) h2))) := (WP_at c_Routes_renew_34 _ _ _ _).trans (congrArg (fun o => ndX Gm (WP Gm) j_Routes_renew 34 o Q) (if_pos (by rw [hk, show decide (catS st ≤ 8) = true from hc]; rfl)))
theorem c_Routes_renew_37 : mCode j_Routes_renew 37 = oInc 2 1 40 := rfl
theorem e_Routes_renew_37 (a0 a1 : Option MV) (x : Int32) : (WP Gm j_Routes_renew 37 (a0 :: a1 :: some (.inl x) :: ls) (st) h Q) = (WP Gm j_Routes_renew 40 (lSet1 (a0 :: a1 :: some (.inl x) :: ls) 2 (some (.inl (x + 1)))) (st) (h) Q) := (WP_at c_Routes_renew_37 _ _ _ _)
theorem c_Routes_renew_40 : mCode j_Routes_renew 40 = oGo 15 := rfl
theorem e_Routes_renew_40  : (WP Gm j_Routes_renew 40 (ls) (st) h Q) = (WP Gm j_Routes_renew 15 (ls) (st) (h) Q) := (WP_at c_Routes_renew_40 _ _ _ _)
theorem c_Routes_renew_43 : mCode j_Routes_renew 43 = oInc 1 1 46 := rfl
theorem e_Routes_renew_43 (a0 : Option MV) (x : Int32) : (WP Gm j_Routes_renew 43 (a0 :: some (.inl x) :: ls) (st) h Q) = (WP Gm j_Routes_renew 46 (lSet1 (a0 :: some (.inl x) :: ls) 1 (some (.inl (x + 1)))) (st) (h) Q) := (WP_at c_Routes_renew_43 _ _ _ _)
theorem c_Routes_renew_46 : mCode j_Routes_renew 46 = oGo 2 := rfl
theorem e_Routes_renew_46  : (WP Gm j_Routes_renew 46 (ls) (st) h Q) = (WP Gm j_Routes_renew 2 (ls) (st) (h) Q) := (WP_at c_Routes_renew_46 _ _ _ _)
theorem c_Routes_renew_49 : mCode j_Routes_renew 49 = oAld 0 50 := rfl
theorem e_Routes_renew_49 (x : Option Nat) : (WP Gm j_Routes_renew 49 (some (.inr (.inl x)) :: ls) (st) h Q) = (WP Gm j_Routes_renew 50 (some (.inr (.inl x)) :: ls) (.inr (.inl x) :: st) (h) Q) := (WP_at c_Routes_renew_49 _ _ _ _)
theorem c_Routes_renew_50 : mCode j_Routes_renew 50 = oGetR kc_Routes 1 53 := rfl
theorem e_Routes_renew_50 (a : Nat) (hk : isK h a kc_Routes = true) : (WP Gm j_Routes_renew 50 (ls) (.inr (.inl (some a)) :: st) h Q) = (WP Gm j_Routes_renew 53 (ls) (.inr (.inl (gR h a 1)) :: st) (h) Q) := (WP_at c_Routes_renew_50 _ _ _ _).trans (congrArg (fun o => ndX Gm (WP Gm) j_Routes_renew 50 o Q) (if_pos hk))
theorem c_Routes_renew_53 : mCode j_Routes_renew 53 = oAst 1 54 := rfl
theorem e_Routes_renew_53 (x : Option Nat) : (WP Gm j_Routes_renew 53 (ls) (.inr (.inl x) :: st) h Q) = (WP Gm j_Routes_renew 54 (lSet1 ls 1 (some (.inr (.inl x)))) (st) (h) Q) := (WP_at c_Routes_renew_53 _ _ _ _)
theorem c_Routes_renew_54 : mCode j_Routes_renew 54 = oAld 0 55 := rfl
theorem e_Routes_renew_54 (x : Option Nat) : (WP Gm j_Routes_renew 54 (some (.inr (.inl x)) :: ls) (st) h Q) = (WP Gm j_Routes_renew 55 (some (.inr (.inl x)) :: ls) (.inr (.inl x) :: st) (h) Q) := (WP_at c_Routes_renew_54 _ _ _ _)
theorem c_Routes_renew_55 : mCode j_Routes_renew 55 = oGetR kc_Routes 2 58 := rfl
theorem e_Routes_renew_55 (a : Nat) (hk : isK h a kc_Routes = true) : (WP Gm j_Routes_renew 55 (ls) (.inr (.inl (some a)) :: st) h Q) = (WP Gm j_Routes_renew 58 (ls) (.inr (.inl (gR h a 2)) :: st) (h) Q) := (WP_at c_Routes_renew_55 _ _ _ _).trans (congrArg (fun o => ndX Gm (WP Gm) j_Routes_renew 55 o Q) (if_pos hk))
theorem c_Routes_renew_58 : mCode j_Routes_renew 58 = oAst 2 59 := rfl
theorem e_Routes_renew_58 (x : Option Nat) : (WP Gm j_Routes_renew 58 (ls) (.inr (.inl x) :: st) h Q) = (WP Gm j_Routes_renew 59 (lSet1 ls 2 (some (.inr (.inl x)))) (st) (h) Q) := (WP_at c_Routes_renew_58 _ _ _ _)
theorem c_Routes_renew_59 : mCode j_Routes_renew 59 = oAld 0 60 := rfl
theorem e_Routes_renew_59 (x : Option Nat) : (WP Gm j_Routes_renew 59 (some (.inr (.inl x)) :: ls) (st) h Q) = (WP Gm j_Routes_renew 60 (some (.inr (.inl x)) :: ls) (.inr (.inl x) :: st) (h) Q) := (WP_at c_Routes_renew_59 _ _ _ _)
theorem c_Routes_renew_60 : mCode j_Routes_renew 60 = oAld 0 61 := rfl
theorem e_Routes_renew_60 (x : Option Nat) : (WP Gm j_Routes_renew 60 (some (.inr (.inl x)) :: ls) (st) h Q) = (WP Gm j_Routes_renew 61 (some (.inr (.inl x)) :: ls) (.inr (.inl x) :: st) (h) Q) := (WP_at c_Routes_renew_60 _ _ _ _)
theorem c_Routes_renew_61 : mCode j_Routes_renew 61 = oGetR kc_Routes 3 64 := rfl
theorem e_Routes_renew_61 (a : Nat) (hk : isK h a kc_Routes = true) : (WP Gm j_Routes_renew 61 (ls) (.inr (.inl (some a)) :: st) h Q) = (WP Gm j_Routes_renew 64 (ls) (.inr (.inl (gR h a 3)) :: st) (h) Q) := (WP_at c_Routes_renew_61 _ _ _ _).trans (congrArg (fun o => ndX Gm (WP Gm) j_Routes_renew 61 o Q) (if_pos hk))
theorem c_Routes_renew_64 : mCode j_Routes_renew 64 = oPutR kc_Routes 1 67 := rfl
theorem e_Routes_renew_64 (a : Nat) (x : Option Nat) (hk : isK h a kc_Routes = true) : (WP Gm j_Routes_renew 64 (ls) (.inr (.inl x) :: .inr (.inl (some a)) :: st) h Q) = (WP Gm j_Routes_renew 67 (ls) (st) (sR h a 1 x) Q) := (WP_at c_Routes_renew_64 _ _ _ _).trans (congrArg (fun o => ndX Gm (WP Gm) j_Routes_renew 64 o Q) (if_pos hk))
theorem c_Routes_renew_67 : mCode j_Routes_renew 67 = oAld 0 68 := rfl
theorem e_Routes_renew_67 (x : Option Nat) : (WP Gm j_Routes_renew 67 (some (.inr (.inl x)) :: ls) (st) h Q) = (WP Gm j_Routes_renew 68 (some (.inr (.inl x)) :: ls) (.inr (.inl x) :: st) (h) Q) := (WP_at c_Routes_renew_67 _ _ _ _)
theorem c_Routes_renew_68 : mCode j_Routes_renew 68 = oAld 0 69 := rfl
theorem e_Routes_renew_68 (x : Option Nat) : (WP Gm j_Routes_renew 68 (some (.inr (.inl x)) :: ls) (st) h Q) = (WP Gm j_Routes_renew 69 (some (.inr (.inl x)) :: ls) (.inr (.inl x) :: st) (h) Q) := (WP_at c_Routes_renew_68 _ _ _ _)
theorem c_Routes_renew_69 : mCode j_Routes_renew 69 = oGetR kc_Routes 4 72 := rfl
theorem e_Routes_renew_69 (a : Nat) (hk : isK h a kc_Routes = true) : (WP Gm j_Routes_renew 69 (ls) (.inr (.inl (some a)) :: st) h Q) = (WP Gm j_Routes_renew 72 (ls) (.inr (.inl (gR h a 4)) :: st) (h) Q) := (WP_at c_Routes_renew_69 _ _ _ _).trans (congrArg (fun o => ndX Gm (WP Gm) j_Routes_renew 69 o Q) (if_pos hk))
theorem c_Routes_renew_72 : mCode j_Routes_renew 72 = oPutR kc_Routes 2 75 := rfl
theorem e_Routes_renew_72 (a : Nat) (x : Option Nat) (hk : isK h a kc_Routes = true) : (WP Gm j_Routes_renew 72 (ls) (.inr (.inl x) :: .inr (.inl (some a)) :: st) h Q) = (WP Gm j_Routes_renew 75 (ls) (st) (sR h a 2 x) Q) := (WP_at c_Routes_renew_72 _ _ _ _).trans (congrArg (fun o => ndX Gm (WP Gm) j_Routes_renew 72 o Q) (if_pos hk))
theorem c_Routes_renew_75 : mCode j_Routes_renew 75 = oAld 0 76 := rfl
theorem e_Routes_renew_75 (x : Option Nat) : (WP Gm j_Routes_renew 75 (some (.inr (.inl x)) :: ls) (st) h Q) = (WP Gm j_Routes_renew 76 (some (.inr (.inl x)) :: ls) (.inr (.inl x) :: st) (h) Q) := (WP_at c_Routes_renew_75 _ _ _ _)
theorem c_Routes_renew_76 : mCode j_Routes_renew 76 = oAld 1 77 := rfl
theorem e_Routes_renew_76 (a0 : Option MV) (x : Option Nat) : (WP Gm j_Routes_renew 76 (a0 :: some (.inr (.inl x)) :: ls) (st) h Q) = (WP Gm j_Routes_renew 77 (a0 :: some (.inr (.inl x)) :: ls) (.inr (.inl x) :: st) (h) Q) := (WP_at c_Routes_renew_76 _ _ _ _)
theorem c_Routes_renew_77 : mCode j_Routes_renew 77 = oPutR kc_Routes 3 80 := rfl
theorem e_Routes_renew_77 (a : Nat) (x : Option Nat) (hk : isK h a kc_Routes = true) : (WP Gm j_Routes_renew 77 (ls) (.inr (.inl x) :: .inr (.inl (some a)) :: st) h Q) = (WP Gm j_Routes_renew 80 (ls) (st) (sR h a 3 x) Q) := (WP_at c_Routes_renew_77 _ _ _ _).trans (congrArg (fun o => ndX Gm (WP Gm) j_Routes_renew 77 o Q) (if_pos hk))
theorem c_Routes_renew_80 : mCode j_Routes_renew 80 = oAld 0 81 := rfl
theorem e_Routes_renew_80 (x : Option Nat) : (WP Gm j_Routes_renew 80 (some (.inr (.inl x)) :: ls) (st) h Q) = (WP Gm j_Routes_renew 81 (some (.inr (.inl x)) :: ls) (.inr (.inl x) :: st) (h) Q) := (WP_at c_Routes_renew_80 _ _ _ _)
theorem c_Routes_renew_81 : mCode j_Routes_renew 81 = oAld 2 82 := rfl
theorem e_Routes_renew_81 (a0 a1 : Option MV) (x : Option Nat) : (WP Gm j_Routes_renew 81 (a0 :: a1 :: some (.inr (.inl x)) :: ls) (st) h Q) = (WP Gm j_Routes_renew 82 (a0 :: a1 :: some (.inr (.inl x)) :: ls) (.inr (.inl x) :: st) (h) Q) := (WP_at c_Routes_renew_81 _ _ _ _)
theorem c_Routes_renew_82 : mCode j_Routes_renew 82 = oPutR kc_Routes 4 85 := rfl
theorem e_Routes_renew_82 (a : Nat) (x : Option Nat) (hk : isK h a kc_Routes = true) : (WP Gm j_Routes_renew 82 (ls) (.inr (.inl x) :: .inr (.inl (some a)) :: st) h Q) = (WP Gm j_Routes_renew 85 (ls) (st) (sR h a 4 x) Q) := (WP_at c_Routes_renew_82 _ _ _ _).trans (congrArg (fun o => ndX Gm (WP Gm) j_Routes_renew 82 o Q) (if_pos hk))
theorem c_Routes_renew_85 : mCode j_Routes_renew 85 = oAld 0 86 := rfl
theorem e_Routes_renew_85 (x : Option Nat) : (WP Gm j_Routes_renew 85 (some (.inr (.inl x)) :: ls) (st) h Q) = (WP Gm j_Routes_renew 86 (some (.inr (.inl x)) :: ls) (.inr (.inl x) :: st) (h) Q) := (WP_at c_Routes_renew_85 _ _ _ _)
theorem c_Routes_renew_86 : mCode j_Routes_renew 86 = oDup 87 := rfl
theorem e_Routes_renew_86 (x : Option Nat) : (WP Gm j_Routes_renew 86 (ls) (.inr (.inl x) :: st) h Q) = (WP Gm j_Routes_renew 87 (ls) (.inr (.inl x) :: .inr (.inl x) :: st) (h) Q) := (WP_at c_Routes_renew_86 _ _ _ _)
theorem c_Routes_renew_87 : mCode j_Routes_renew 87 = oGetI kc_Routes 5 90 := rfl
theorem e_Routes_renew_87 (a : Nat) (hk : isK h a kc_Routes = true) : (WP Gm j_Routes_renew 87 (ls) (.inr (.inl (some a)) :: st) h Q) = (WP Gm j_Routes_renew 90 (ls) (.inl (gI h a 5) :: st) (h) Q) := (WP_at c_Routes_renew_87 _ _ _ _).trans (congrArg (fun o => ndX Gm (WP Gm) j_Routes_renew 87 o Q) (if_pos hk))
theorem c_Routes_renew_90 : mCode j_Routes_renew 90 = oI 1 91 := rfl
theorem e_Routes_renew_90  : (WP Gm j_Routes_renew 90 (ls) (st) h Q) = (WP Gm j_Routes_renew 91 (ls) (.inl 1 :: st) (h) Q) := (WP_at c_Routes_renew_90 _ _ _ _)
theorem c_Routes_renew_91 : mCode j_Routes_renew 91 = oII (fun x y => x + y) 92 := rfl
theorem e_Routes_renew_91 (x : Int32) (y : Int32) : (WP Gm j_Routes_renew 91 (ls) (.inl y :: .inl x :: st) h Q) = (WP Gm j_Routes_renew 92 (ls) (.inl (x + y) :: st) (h) Q) := (WP_at c_Routes_renew_91 _ _ _ _)
theorem c_Routes_renew_92 : mCode j_Routes_renew 92 = oPutI kc_Routes 5 95 := rfl
theorem e_Routes_renew_92 (a : Nat) (x : Int32) (hk : isK h a kc_Routes = true) : (WP Gm j_Routes_renew 92 (ls) (.inl x :: .inr (.inl (some a)) :: st) h Q) = (WP Gm j_Routes_renew 95 (ls) (st) (sI h a 5 x) Q) := (WP_at c_Routes_renew_92 _ _ _ _).trans (congrArg (fun o => ndX Gm (WP Gm) j_Routes_renew 92 o Q) (if_pos hk))
theorem c_Routes_renew_95 : mCode j_Routes_renew 95 = oRet := rfl
theorem e_Routes_renew_95  : (WP Gm j_Routes_renew 95 (ls) ([]) h Q) = (Q (.inl none) h) := (WP_at c_Routes_renew_95 _ _ _ _)
theorem c_Routes_renewPair_0 : mCode j_Routes_renewPair 0 = oI (-1) 1 := rfl
theorem e_Routes_renewPair_0  : (WP Gm j_Routes_renewPair 0 (ls) (st) h Q) = (WP Gm j_Routes_renewPair 1 (ls) (.inl (-1) :: st) (h) Q) := (WP_at c_Routes_renewPair_0 _ _ _ _)
theorem c_Routes_renewPair_1 : mCode j_Routes_renewPair 1 = oIst 3 2 := rfl
theorem e_Routes_renewPair_1 (x : Int32) : (WP Gm j_Routes_renewPair 1 (ls) (.inl x :: st) h Q) = (WP Gm j_Routes_renewPair 2 (lSet1 ls 3 (some (.inl x))) (st) (h) Q) := (WP_at c_Routes_renewPair_1 _ _ _ _)
theorem c_Routes_renewPair_2 : mCode j_Routes_renewPair 2 = oI (-1) 3 := rfl
theorem e_Routes_renewPair_2  : (WP Gm j_Routes_renewPair 2 (ls) (st) h Q) = (WP Gm j_Routes_renewPair 3 (ls) (.inl (-1) :: st) (h) Q) := (WP_at c_Routes_renewPair_2 _ _ _ _)
theorem c_Routes_renewPair_3 : mCode j_Routes_renewPair 3 = oIst 4 5 := rfl
theorem e_Routes_renewPair_3 (x : Int32) : (WP Gm j_Routes_renewPair 3 (ls) (.inl x :: st) h Q) = (WP Gm j_Routes_renewPair 5 (lSet1 ls 4 (some (.inl x))) (st) (h) Q) := (WP_at c_Routes_renewPair_3 _ _ _ _)
theorem c_Routes_renewPair_5 : mCode j_Routes_renewPair 5 = oAld 0 6 := rfl
theorem e_Routes_renewPair_5 (x : Option Nat) : (WP Gm j_Routes_renewPair 5 (some (.inr (.inl x)) :: ls) (st) h Q) = (WP Gm j_Routes_renewPair 6 (some (.inr (.inl x)) :: ls) (.inr (.inl x) :: st) (h) Q) := (WP_at c_Routes_renewPair_5 _ _ _ _)
theorem c_Routes_renewPair_6 : mCode j_Routes_renewPair 6 = oGetR kc_Routes 0 9 := rfl
theorem e_Routes_renewPair_6 (a : Nat) (hk : isK h a kc_Routes = true) : (WP Gm j_Routes_renewPair 6 (ls) (.inr (.inl (some a)) :: st) h Q) = (WP Gm j_Routes_renewPair 9 (ls) (.inr (.inl (gR h a 0)) :: st) (h) Q) := (WP_at c_Routes_renewPair_6 _ _ _ _).trans (congrArg (fun o => ndX Gm (WP Gm) j_Routes_renewPair 6 o Q) (if_pos hk))
theorem c_Routes_renewPair_9 : mCode j_Routes_renewPair 9 = oIld 1 10 := rfl
theorem e_Routes_renewPair_9 (a0 : Option MV) (x : Int32) : (WP Gm j_Routes_renewPair 9 (a0 :: some (.inl x) :: ls) (st) h Q) = (WP Gm j_Routes_renewPair 10 (a0 :: some (.inl x) :: ls) (.inl x :: st) (h) Q) := (WP_at c_Routes_renewPair_9 _ _ _ _)
theorem c_Routes_renewPair_10 : mCode j_Routes_renewPair 10 = oIld 2 11 := rfl
theorem e_Routes_renewPair_10 (a0 a1 : Option MV) (x : Int32) : (WP Gm j_Routes_renewPair 10 (a0 :: a1 :: some (.inl x) :: ls) (st) h Q) = (WP Gm j_Routes_renewPair 11 (a0 :: a1 :: some (.inl x) :: ls) (.inl x :: st) (h) Q) := (WP_at c_Routes_renewPair_10 _ _ _ _)
theorem c_Routes_renewPair_11 : mCode j_Routes_renewPair 11 = oCallV kc_Land j_Land_areLinked 2 (mL j_Land_areLinked) 14 := rfl
theorem e_Routes_renewPair_11 (a : Nat) (x0 : Int32) (x1 : Int32) (hk : isK h a kc_Land = true) (hc : c8 st = true) : (WP Gm j_Routes_renewPair 11 (ls) (.inl x1 :: .inl x0 :: .inr (.inl (some a)) :: st) h Q) = (WP Gm j_Land_areLinked 0 [some (.inr (.inl (some a))), some (.inl x0), some (.inl x1)] [] h (kC (fun v h2 => WP Gm j_Routes_renewPair 14 ls (v.toList ++ st) h2 Q) (fun E h2 => Q (.inr E) h2))) := (WP_at c_Routes_renewPair_11 _ _ _ _).trans (congrArg (fun o => ndX Gm (WP Gm) j_Routes_renewPair 11 o Q) (if_pos (by rw [hk, show decide (catS st ≤ 8) = true from hc]; rfl)))
theorem c_Routes_renewPair_14 : mCode j_Routes_renewPair 14 = oIf (fun x => decide (x = 0)) 25 17 := rfl
theorem e_Routes_renewPair_14 (x : Int32) : (WP Gm j_Routes_renewPair 14 (ls) (.inl x :: st) h Q) = (if x = 0 then WP Gm j_Routes_renewPair 25 (ls) (st) (h) Q else WP Gm j_Routes_renewPair 17 (ls) (st) (h) Q) := (WP_at c_Routes_renewPair_14 _ _ _ _).trans (nd_if rfl _ _ _ _)
theorem c_Routes_renewPair_17 : mCode j_Routes_renewPair 17 = oIld 2 18 := rfl
theorem e_Routes_renewPair_17 (a0 a1 : Option MV) (x : Int32) : (WP Gm j_Routes_renewPair 17 (a0 :: a1 :: some (.inl x) :: ls) (st) h Q) = (WP Gm j_Routes_renewPair 18 (a0 :: a1 :: some (.inl x) :: ls) (.inl x :: st) (h) Q) := (WP_at c_Routes_renewPair_17 _ _ _ _)
theorem c_Routes_renewPair_18 : mCode j_Routes_renewPair 18 = oIst 3 19 := rfl
theorem e_Routes_renewPair_18 (x : Int32) : (WP Gm j_Routes_renewPair 18 (ls) (.inl x :: st) h Q) = (WP Gm j_Routes_renewPair 19 (lSet1 ls 3 (some (.inl x))) (st) (h) Q) := (WP_at c_Routes_renewPair_18 _ _ _ _)
theorem c_Routes_renewPair_19 : mCode j_Routes_renewPair 19 = oI 1 20 := rfl
theorem e_Routes_renewPair_19  : (WP Gm j_Routes_renewPair 19 (ls) (st) h Q) = (WP Gm j_Routes_renewPair 20 (ls) (.inl 1 :: st) (h) Q) := (WP_at c_Routes_renewPair_19 _ _ _ _)
theorem c_Routes_renewPair_20 : mCode j_Routes_renewPair 20 = oIst 4 22 := rfl
theorem e_Routes_renewPair_20 (x : Int32) : (WP Gm j_Routes_renewPair 20 (ls) (.inl x :: st) h Q) = (WP Gm j_Routes_renewPair 22 (lSet1 ls 4 (some (.inl x))) (st) (h) Q) := (WP_at c_Routes_renewPair_20 _ _ _ _)
theorem c_Routes_renewPair_22 : mCode j_Routes_renewPair 22 = oGo 71 := rfl
theorem e_Routes_renewPair_22  : (WP Gm j_Routes_renewPair 22 (ls) (st) h Q) = (WP Gm j_Routes_renewPair 71 (ls) (st) (h) Q) := (WP_at c_Routes_renewPair_22 _ _ _ _)
theorem c_Routes_renewPair_25 : mCode j_Routes_renewPair 25 = oAld 0 26 := rfl
theorem e_Routes_renewPair_25 (x : Option Nat) : (WP Gm j_Routes_renewPair 25 (some (.inr (.inl x)) :: ls) (st) h Q) = (WP Gm j_Routes_renewPair 26 (some (.inr (.inl x)) :: ls) (.inr (.inl x) :: st) (h) Q) := (WP_at c_Routes_renewPair_25 _ _ _ _)
theorem c_Routes_renewPair_26 : mCode j_Routes_renewPair 26 = oIld 1 27 := rfl
theorem e_Routes_renewPair_26 (a0 : Option MV) (x : Int32) : (WP Gm j_Routes_renewPair 26 (a0 :: some (.inl x) :: ls) (st) h Q) = (WP Gm j_Routes_renewPair 27 (a0 :: some (.inl x) :: ls) (.inl x :: st) (h) Q) := (WP_at c_Routes_renewPair_26 _ _ _ _)
theorem c_Routes_renewPair_27 : mCode j_Routes_renewPair 27 = oIld 2 28 := rfl
theorem e_Routes_renewPair_27 (a0 a1 : Option MV) (x : Int32) : (WP Gm j_Routes_renewPair 27 (a0 :: a1 :: some (.inl x) :: ls) (st) h Q) = (WP Gm j_Routes_renewPair 28 (a0 :: a1 :: some (.inl x) :: ls) (.inl x :: st) (h) Q) := (WP_at c_Routes_renewPair_27 _ _ _ _)
theorem c_Routes_renewPair_28 : mCode j_Routes_renewPair 28 = oCallV kc_Routes j_Routes_cheapestNeighbour 2 (mL j_Routes_cheapestNeighbour) 31 := rfl
theorem e_Routes_renewPair_28 (a : Nat) (x0 : Int32) (x1 : Int32) (hk : isK h a kc_Routes = true) (hc : c8 st = true) : (WP Gm j_Routes_renewPair 28 (ls) (.inl x1 :: .inl x0 :: .inr (.inl (some a)) :: st) h Q) = (WP Gm j_Routes_cheapestNeighbour 0 [some (.inr (.inl (some a))), some (.inl x0), some (.inl x1), none, none, none] [] h (kC (fun v h2 => WP Gm j_Routes_renewPair 31 ls (v.toList ++ st) h2 Q) (fun E h2 => Q (.inr E) h2))) := (WP_at c_Routes_renewPair_28 _ _ _ _).trans (congrArg (fun o => ndX Gm (WP Gm) j_Routes_renewPair 28 o Q) (if_pos (by rw [hk, show decide (catS st ≤ 8) = true from hc]; rfl)))
theorem c_Routes_renewPair_31 : mCode j_Routes_renewPair 31 = oIst 5 33 := rfl
theorem e_Routes_renewPair_31 (x : Int32) : (WP Gm j_Routes_renewPair 31 (ls) (.inl x :: st) h Q) = (WP Gm j_Routes_renewPair 33 (lSet1 ls 5 (some (.inl x))) (st) (h) Q) := (WP_at c_Routes_renewPair_31 _ _ _ _)
theorem c_Routes_renewPair_33 : mCode j_Routes_renewPair 33 = oIld 5 35 := rfl
theorem e_Routes_renewPair_33 (a0 a1 a2 a3 a4 : Option MV) (x : Int32) : (WP Gm j_Routes_renewPair 33 (a0 :: a1 :: a2 :: a3 :: a4 :: some (.inl x) :: ls) (st) h Q) = (WP Gm j_Routes_renewPair 35 (a0 :: a1 :: a2 :: a3 :: a4 :: some (.inl x) :: ls) (.inl x :: st) (h) Q) := (WP_at c_Routes_renewPair_33 _ _ _ _)
theorem c_Routes_renewPair_35 : mCode j_Routes_renewPair 35 = oI (-1) 36 := rfl
theorem e_Routes_renewPair_35  : (WP Gm j_Routes_renewPair 35 (ls) (st) h Q) = (WP Gm j_Routes_renewPair 36 (ls) (.inl (-1) :: st) (h) Q) := (WP_at c_Routes_renewPair_35 _ _ _ _)
theorem c_Routes_renewPair_36 : mCode j_Routes_renewPair 36 = oIC (fun x y => decide (x = y)) 71 39 := rfl
theorem e_Routes_renewPair_36 (x y : Int32) : (WP Gm j_Routes_renewPair 36 (ls) (.inl y :: .inl x :: st) h Q) = (if x = y then WP Gm j_Routes_renewPair 71 (ls) (st) (h) Q else WP Gm j_Routes_renewPair 39 (ls) (st) (h) Q) := (WP_at c_Routes_renewPair_36 _ _ _ _).trans (nd_ic rfl _ _ _ _)
theorem c_Routes_renewPair_39 : mCode j_Routes_renewPair 39 = oAld 0 40 := rfl
theorem e_Routes_renewPair_39 (x : Option Nat) : (WP Gm j_Routes_renewPair 39 (some (.inr (.inl x)) :: ls) (st) h Q) = (WP Gm j_Routes_renewPair 40 (some (.inr (.inl x)) :: ls) (.inr (.inl x) :: st) (h) Q) := (WP_at c_Routes_renewPair_39 _ _ _ _)
theorem c_Routes_renewPair_40 : mCode j_Routes_renewPair 40 = oGetR kc_Routes 1 43 := rfl
theorem e_Routes_renewPair_40 (a : Nat) (hk : isK h a kc_Routes = true) : (WP Gm j_Routes_renewPair 40 (ls) (.inr (.inl (some a)) :: st) h Q) = (WP Gm j_Routes_renewPair 43 (ls) (.inr (.inl (gR h a 1)) :: st) (h) Q) := (WP_at c_Routes_renewPair_40 _ _ _ _).trans (congrArg (fun o => ndX Gm (WP Gm) j_Routes_renewPair 40 o Q) (if_pos hk))
theorem c_Routes_renewPair_43 : mCode j_Routes_renewPair 43 = oIld 5 45 := rfl
theorem e_Routes_renewPair_43 (a0 a1 a2 a3 a4 : Option MV) (x : Int32) : (WP Gm j_Routes_renewPair 43 (a0 :: a1 :: a2 :: a3 :: a4 :: some (.inl x) :: ls) (st) h Q) = (WP Gm j_Routes_renewPair 45 (a0 :: a1 :: a2 :: a3 :: a4 :: some (.inl x) :: ls) (.inl x :: st) (h) Q) := (WP_at c_Routes_renewPair_43 _ _ _ _)
theorem c_Routes_renewPair_45 : mCode j_Routes_renewPair 45 = oAal 4 46 := rfl
theorem e_Routes_renewPair_45 (a : Nat) (i : Int32) (hk : isK h a 104 = true) (hi : inL h a i = true) : (WP Gm j_Routes_renewPair 45 (ls) (.inl i :: .inr (.inl (some a)) :: st) h Q) = (WP Gm j_Routes_renewPair 46 (ls) (.inr (.inl (gR h a i.toNatClampNeg)) :: st) (h) Q) := (WP_at c_Routes_renewPair_45 _ _ _ _).trans (congrArg (fun o => ndX Gm (WP Gm) j_Routes_renewPair 45 o Q) (if_pos (by rw [hk, hi]; rfl)))
theorem c_Routes_renewPair_46 : mCode j_Routes_renewPair 46 = oIld 2 47 := rfl
theorem e_Routes_renewPair_46 (a0 a1 : Option MV) (x : Int32) : (WP Gm j_Routes_renewPair 46 (a0 :: a1 :: some (.inl x) :: ls) (st) h Q) = (WP Gm j_Routes_renewPair 47 (a0 :: a1 :: some (.inl x) :: ls) (.inl x :: st) (h) Q) := (WP_at c_Routes_renewPair_46 _ _ _ _)
theorem c_Routes_renewPair_47 : mCode j_Routes_renewPair 47 = oIal 0 48 := rfl
theorem e_Routes_renewPair_47 (a : Nat) (i : Int32) (hk : isK h a 100 = true) (hi : inL h a i = true) : (WP Gm j_Routes_renewPair 47 (ls) (.inl i :: .inr (.inl (some a)) :: st) h Q) = (WP Gm j_Routes_renewPair 48 (ls) (.inl (gI h a i.toNatClampNeg) :: st) (h) Q) := (WP_at c_Routes_renewPair_47 _ _ _ _).trans (congrArg (fun o => ndX Gm (WP Gm) j_Routes_renewPair 47 o Q) (if_pos (by rw [hk, hi]; rfl)))
theorem c_Routes_renewPair_48 : mCode j_Routes_renewPair 48 = oI 1 49 := rfl
theorem e_Routes_renewPair_48  : (WP Gm j_Routes_renewPair 48 (ls) (st) h Q) = (WP Gm j_Routes_renewPair 49 (ls) (.inl 1 :: st) (h) Q) := (WP_at c_Routes_renewPair_48 _ _ _ _)
theorem c_Routes_renewPair_49 : mCode j_Routes_renewPair 49 = oII (fun x y => x + y) 50 := rfl
theorem e_Routes_renewPair_49 (x : Int32) (y : Int32) : (WP Gm j_Routes_renewPair 49 (ls) (.inl y :: .inl x :: st) h Q) = (WP Gm j_Routes_renewPair 50 (ls) (.inl (x + y) :: st) (h) Q) := (WP_at c_Routes_renewPair_49 _ _ _ _)
theorem c_Routes_renewPair_50 : mCode j_Routes_renewPair 50 = oI 8 52 := rfl
theorem e_Routes_renewPair_50  : (WP Gm j_Routes_renewPair 50 (ls) (st) h Q) = (WP Gm j_Routes_renewPair 52 (ls) (.inl 8 :: st) (h) Q) := (WP_at c_Routes_renewPair_50 _ _ _ _)
theorem c_Routes_renewPair_52 : mCode j_Routes_renewPair 52 = oIC (fun x y => decide (y < x)) 71 55 := rfl
theorem e_Routes_renewPair_52 (x y : Int32) : (WP Gm j_Routes_renewPair 52 (ls) (.inl y :: .inl x :: st) h Q) = (if y < x then WP Gm j_Routes_renewPair 71 (ls) (st) (h) Q else WP Gm j_Routes_renewPair 55 (ls) (st) (h) Q) := (WP_at c_Routes_renewPair_52 _ _ _ _).trans (nd_ic rfl _ _ _ _)
theorem c_Routes_renewPair_55 : mCode j_Routes_renewPair 55 = oIld 5 57 := rfl
theorem e_Routes_renewPair_55 (a0 a1 a2 a3 a4 : Option MV) (x : Int32) : (WP Gm j_Routes_renewPair 55 (a0 :: a1 :: a2 :: a3 :: a4 :: some (.inl x) :: ls) (st) h Q) = (WP Gm j_Routes_renewPair 57 (a0 :: a1 :: a2 :: a3 :: a4 :: some (.inl x) :: ls) (.inl x :: st) (h) Q) := (WP_at c_Routes_renewPair_55 _ _ _ _)
theorem c_Routes_renewPair_57 : mCode j_Routes_renewPair 57 = oIst 3 58 := rfl
theorem e_Routes_renewPair_57 (x : Int32) : (WP Gm j_Routes_renewPair 57 (ls) (.inl x :: st) h Q) = (WP Gm j_Routes_renewPair 58 (lSet1 ls 3 (some (.inl x))) (st) (h) Q) := (WP_at c_Routes_renewPair_57 _ _ _ _)
theorem c_Routes_renewPair_58 : mCode j_Routes_renewPair 58 = oAld 0 59 := rfl
theorem e_Routes_renewPair_58 (x : Option Nat) : (WP Gm j_Routes_renewPair 58 (some (.inr (.inl x)) :: ls) (st) h Q) = (WP Gm j_Routes_renewPair 59 (some (.inr (.inl x)) :: ls) (.inr (.inl x) :: st) (h) Q) := (WP_at c_Routes_renewPair_58 _ _ _ _)
theorem c_Routes_renewPair_59 : mCode j_Routes_renewPair 59 = oGetR kc_Routes 1 62 := rfl
theorem e_Routes_renewPair_59 (a : Nat) (hk : isK h a kc_Routes = true) : (WP Gm j_Routes_renewPair 59 (ls) (.inr (.inl (some a)) :: st) h Q) = (WP Gm j_Routes_renewPair 62 (ls) (.inr (.inl (gR h a 1)) :: st) (h) Q) := (WP_at c_Routes_renewPair_59 _ _ _ _).trans (congrArg (fun o => ndX Gm (WP Gm) j_Routes_renewPair 59 o Q) (if_pos hk))
theorem c_Routes_renewPair_62 : mCode j_Routes_renewPair 62 = oIld 5 64 := rfl
theorem e_Routes_renewPair_62 (a0 a1 a2 a3 a4 : Option MV) (x : Int32) : (WP Gm j_Routes_renewPair 62 (a0 :: a1 :: a2 :: a3 :: a4 :: some (.inl x) :: ls) (st) h Q) = (WP Gm j_Routes_renewPair 64 (a0 :: a1 :: a2 :: a3 :: a4 :: some (.inl x) :: ls) (.inl x :: st) (h) Q) := (WP_at c_Routes_renewPair_62 _ _ _ _)
theorem c_Routes_renewPair_64 : mCode j_Routes_renewPair 64 = oAal 4 65 := rfl
theorem e_Routes_renewPair_64 (a : Nat) (i : Int32) (hk : isK h a 104 = true) (hi : inL h a i = true) : (WP Gm j_Routes_renewPair 64 (ls) (.inl i :: .inr (.inl (some a)) :: st) h Q) = (WP Gm j_Routes_renewPair 65 (ls) (.inr (.inl (gR h a i.toNatClampNeg)) :: st) (h) Q) := (WP_at c_Routes_renewPair_64 _ _ _ _).trans (congrArg (fun o => ndX Gm (WP Gm) j_Routes_renewPair 64 o Q) (if_pos (by rw [hk, hi]; rfl)))
theorem c_Routes_renewPair_65 : mCode j_Routes_renewPair 65 = oIld 2 66 := rfl
theorem e_Routes_renewPair_65 (a0 a1 : Option MV) (x : Int32) : (WP Gm j_Routes_renewPair 65 (a0 :: a1 :: some (.inl x) :: ls) (st) h Q) = (WP Gm j_Routes_renewPair 66 (a0 :: a1 :: some (.inl x) :: ls) (.inl x :: st) (h) Q) := (WP_at c_Routes_renewPair_65 _ _ _ _)
theorem c_Routes_renewPair_66 : mCode j_Routes_renewPair 66 = oIal 0 67 := rfl
theorem e_Routes_renewPair_66 (a : Nat) (i : Int32) (hk : isK h a 100 = true) (hi : inL h a i = true) : (WP Gm j_Routes_renewPair 66 (ls) (.inl i :: .inr (.inl (some a)) :: st) h Q) = (WP Gm j_Routes_renewPair 67 (ls) (.inl (gI h a i.toNatClampNeg) :: st) (h) Q) := (WP_at c_Routes_renewPair_66 _ _ _ _).trans (congrArg (fun o => ndX Gm (WP Gm) j_Routes_renewPair 66 o Q) (if_pos (by rw [hk, hi]; rfl)))
theorem c_Routes_renewPair_67 : mCode j_Routes_renewPair 67 = oI 1 68 := rfl
theorem e_Routes_renewPair_67  : (WP Gm j_Routes_renewPair 67 (ls) (st) h Q) = (WP Gm j_Routes_renewPair 68 (ls) (.inl 1 :: st) (h) Q) := (WP_at c_Routes_renewPair_67 _ _ _ _)
theorem c_Routes_renewPair_68 : mCode j_Routes_renewPair 68 = oII (fun x y => x + y) 69 := rfl
theorem e_Routes_renewPair_68 (x : Int32) (y : Int32) : (WP Gm j_Routes_renewPair 68 (ls) (.inl y :: .inl x :: st) h Q) = (WP Gm j_Routes_renewPair 69 (ls) (.inl (x + y) :: st) (h) Q) := (WP_at c_Routes_renewPair_68 _ _ _ _)
theorem c_Routes_renewPair_69 : mCode j_Routes_renewPair 69 = oIst 4 71 := rfl
theorem e_Routes_renewPair_69 (x : Int32) : (WP Gm j_Routes_renewPair 69 (ls) (.inl x :: st) h Q) = (WP Gm j_Routes_renewPair 71 (lSet1 ls 4 (some (.inl x))) (st) (h) Q) := (WP_at c_Routes_renewPair_69 _ _ _ _)
theorem c_Routes_renewPair_71 : mCode j_Routes_renewPair 71 = oAld 0 72 := rfl
theorem e_Routes_renewPair_71 (x : Option Nat) : (WP Gm j_Routes_renewPair 71 (some (.inr (.inl x)) :: ls) (st) h Q) = (WP Gm j_Routes_renewPair 72 (some (.inr (.inl x)) :: ls) (.inr (.inl x) :: st) (h) Q) := (WP_at c_Routes_renewPair_71 _ _ _ _)
theorem c_Routes_renewPair_72 : mCode j_Routes_renewPair 72 = oGetR kc_Routes 4 75 := rfl
theorem e_Routes_renewPair_72 (a : Nat) (hk : isK h a kc_Routes = true) : (WP Gm j_Routes_renewPair 72 (ls) (.inr (.inl (some a)) :: st) h Q) = (WP Gm j_Routes_renewPair 75 (ls) (.inr (.inl (gR h a 4)) :: st) (h) Q) := (WP_at c_Routes_renewPair_72 _ _ _ _).trans (congrArg (fun o => ndX Gm (WP Gm) j_Routes_renewPair 72 o Q) (if_pos hk))
theorem c_Routes_renewPair_75 : mCode j_Routes_renewPair 75 = oIld 1 76 := rfl
theorem e_Routes_renewPair_75 (a0 : Option MV) (x : Int32) : (WP Gm j_Routes_renewPair 75 (a0 :: some (.inl x) :: ls) (st) h Q) = (WP Gm j_Routes_renewPair 76 (a0 :: some (.inl x) :: ls) (.inl x :: st) (h) Q) := (WP_at c_Routes_renewPair_75 _ _ _ _)
theorem c_Routes_renewPair_76 : mCode j_Routes_renewPair 76 = oAal 4 77 := rfl
theorem e_Routes_renewPair_76 (a : Nat) (i : Int32) (hk : isK h a 104 = true) (hi : inL h a i = true) : (WP Gm j_Routes_renewPair 76 (ls) (.inl i :: .inr (.inl (some a)) :: st) h Q) = (WP Gm j_Routes_renewPair 77 (ls) (.inr (.inl (gR h a i.toNatClampNeg)) :: st) (h) Q) := (WP_at c_Routes_renewPair_76 _ _ _ _).trans (congrArg (fun o => ndX Gm (WP Gm) j_Routes_renewPair 76 o Q) (if_pos (by rw [hk, hi]; rfl)))
theorem c_Routes_renewPair_77 : mCode j_Routes_renewPair 77 = oIld 2 78 := rfl
theorem e_Routes_renewPair_77 (a0 a1 : Option MV) (x : Int32) : (WP Gm j_Routes_renewPair 77 (a0 :: a1 :: some (.inl x) :: ls) (st) h Q) = (WP Gm j_Routes_renewPair 78 (a0 :: a1 :: some (.inl x) :: ls) (.inl x :: st) (h) Q) := (WP_at c_Routes_renewPair_77 _ _ _ _)
theorem c_Routes_renewPair_78 : mCode j_Routes_renewPair 78 = oIld 3 79 := rfl
theorem e_Routes_renewPair_78 (a0 a1 a2 : Option MV) (x : Int32) : (WP Gm j_Routes_renewPair 78 (a0 :: a1 :: a2 :: some (.inl x) :: ls) (st) h Q) = (WP Gm j_Routes_renewPair 79 (a0 :: a1 :: a2 :: some (.inl x) :: ls) (.inl x :: st) (h) Q) := (WP_at c_Routes_renewPair_78 _ _ _ _)
theorem c_Routes_renewPair_79 : mCode j_Routes_renewPair 79 = oIas 0 80 := rfl
theorem e_Routes_renewPair_79 (a : Nat) (i : Int32) (x : Int32) (hk : isK h a 100 = true) (hi : inL h a i = true) (h0 : ¬ a = 0) : (WP Gm j_Routes_renewPair 79 (ls) (.inl x :: .inl i :: .inr (.inl (some a)) :: st) h Q) = (WP Gm j_Routes_renewPair 80 (ls) (st) (sI h a i.toNatClampNeg x) Q) := (WP_at c_Routes_renewPair_79 _ _ _ _).trans (congrArg (fun o => ndX Gm (WP Gm) j_Routes_renewPair 79 o Q) (if_pos (by rw [hk, hi]; simp [h0])))
theorem c_Routes_renewPair_80 : mCode j_Routes_renewPair 80 = oAld 0 81 := rfl
theorem e_Routes_renewPair_80 (x : Option Nat) : (WP Gm j_Routes_renewPair 80 (some (.inr (.inl x)) :: ls) (st) h Q) = (WP Gm j_Routes_renewPair 81 (some (.inr (.inl x)) :: ls) (.inr (.inl x) :: st) (h) Q) := (WP_at c_Routes_renewPair_80 _ _ _ _)
theorem c_Routes_renewPair_81 : mCode j_Routes_renewPair 81 = oGetR kc_Routes 3 84 := rfl
theorem e_Routes_renewPair_81 (a : Nat) (hk : isK h a kc_Routes = true) : (WP Gm j_Routes_renewPair 81 (ls) (.inr (.inl (some a)) :: st) h Q) = (WP Gm j_Routes_renewPair 84 (ls) (.inr (.inl (gR h a 3)) :: st) (h) Q) := (WP_at c_Routes_renewPair_81 _ _ _ _).trans (congrArg (fun o => ndX Gm (WP Gm) j_Routes_renewPair 81 o Q) (if_pos hk))
theorem c_Routes_renewPair_84 : mCode j_Routes_renewPair 84 = oIld 1 85 := rfl
theorem e_Routes_renewPair_84 (a0 : Option MV) (x : Int32) : (WP Gm j_Routes_renewPair 84 (a0 :: some (.inl x) :: ls) (st) h Q) = (WP Gm j_Routes_renewPair 85 (a0 :: some (.inl x) :: ls) (.inl x :: st) (h) Q) := (WP_at c_Routes_renewPair_84 _ _ _ _)
theorem c_Routes_renewPair_85 : mCode j_Routes_renewPair 85 = oAal 4 86 := rfl
theorem e_Routes_renewPair_85 (a : Nat) (i : Int32) (hk : isK h a 104 = true) (hi : inL h a i = true) : (WP Gm j_Routes_renewPair 85 (ls) (.inl i :: .inr (.inl (some a)) :: st) h Q) = (WP Gm j_Routes_renewPair 86 (ls) (.inr (.inl (gR h a i.toNatClampNeg)) :: st) (h) Q) := (WP_at c_Routes_renewPair_85 _ _ _ _).trans (congrArg (fun o => ndX Gm (WP Gm) j_Routes_renewPair 85 o Q) (if_pos (by rw [hk, hi]; rfl)))
theorem c_Routes_renewPair_86 : mCode j_Routes_renewPair 86 = oIld 2 87 := rfl
theorem e_Routes_renewPair_86 (a0 a1 : Option MV) (x : Int32) : (WP Gm j_Routes_renewPair 86 (a0 :: a1 :: some (.inl x) :: ls) (st) h Q) = (WP Gm j_Routes_renewPair 87 (a0 :: a1 :: some (.inl x) :: ls) (.inl x :: st) (h) Q) := (WP_at c_Routes_renewPair_86 _ _ _ _)
theorem c_Routes_renewPair_87 : mCode j_Routes_renewPair 87 = oIld 4 89 := rfl
theorem e_Routes_renewPair_87 (a0 a1 a2 a3 : Option MV) (x : Int32) : (WP Gm j_Routes_renewPair 87 (a0 :: a1 :: a2 :: a3 :: some (.inl x) :: ls) (st) h Q) = (WP Gm j_Routes_renewPair 89 (a0 :: a1 :: a2 :: a3 :: some (.inl x) :: ls) (.inl x :: st) (h) Q) := (WP_at c_Routes_renewPair_87 _ _ _ _)
theorem c_Routes_renewPair_89 : mCode j_Routes_renewPair 89 = oIas 0 90 := rfl
theorem e_Routes_renewPair_89 (a : Nat) (i : Int32) (x : Int32) (hk : isK h a 100 = true) (hi : inL h a i = true) (h0 : ¬ a = 0) : (WP Gm j_Routes_renewPair 89 (ls) (.inl x :: .inl i :: .inr (.inl (some a)) :: st) h Q) = (WP Gm j_Routes_renewPair 90 (ls) (st) (sI h a i.toNatClampNeg x) Q) := (WP_at c_Routes_renewPair_89 _ _ _ _).trans (congrArg (fun o => ndX Gm (WP Gm) j_Routes_renewPair 89 o Q) (if_pos (by rw [hk, hi]; simp [h0])))
theorem c_Routes_renewPair_90 : mCode j_Routes_renewPair 90 = oRet := rfl
theorem e_Routes_renewPair_90  : (WP Gm j_Routes_renewPair 90 (ls) ([]) h Q) = (Q (.inl none) h) := (WP_at c_Routes_renewPair_90 _ _ _ _)
theorem c_Routes_cheapestNeighbour_0 : mCode j_Routes_cheapestNeighbour 0 = oI (-1) 1 := rfl
theorem e_Routes_cheapestNeighbour_0  : (WP Gm j_Routes_cheapestNeighbour 0 (ls) (st) h Q) = (WP Gm j_Routes_cheapestNeighbour 1 (ls) (.inl (-1) :: st) (h) Q) := (WP_at c_Routes_cheapestNeighbour_0 _ _ _ _)
theorem c_Routes_cheapestNeighbour_1 : mCode j_Routes_cheapestNeighbour 1 = oIst 3 2 := rfl
theorem e_Routes_cheapestNeighbour_1 (x : Int32) : (WP Gm j_Routes_cheapestNeighbour 1 (ls) (.inl x :: st) h Q) = (WP Gm j_Routes_cheapestNeighbour 2 (lSet1 ls 3 (some (.inl x))) (st) (h) Q) := (WP_at c_Routes_cheapestNeighbour_1 _ _ _ _)
theorem c_Routes_cheapestNeighbour_2 : mCode j_Routes_cheapestNeighbour 2 = oI 0 3 := rfl
theorem e_Routes_cheapestNeighbour_2  : (WP Gm j_Routes_cheapestNeighbour 2 (ls) (st) h Q) = (WP Gm j_Routes_cheapestNeighbour 3 (ls) (.inl 0 :: st) (h) Q) := (WP_at c_Routes_cheapestNeighbour_2 _ _ _ _)
theorem c_Routes_cheapestNeighbour_3 : mCode j_Routes_cheapestNeighbour 3 = oIst 4 5 := rfl
theorem e_Routes_cheapestNeighbour_3 (x : Int32) : (WP Gm j_Routes_cheapestNeighbour 3 (ls) (.inl x :: st) h Q) = (WP Gm j_Routes_cheapestNeighbour 5 (lSet1 ls 4 (some (.inl x))) (st) (h) Q) := (WP_at c_Routes_cheapestNeighbour_3 _ _ _ _)
theorem c_Routes_cheapestNeighbour_5 : mCode j_Routes_cheapestNeighbour 5 = oIld 4 7 := rfl
theorem e_Routes_cheapestNeighbour_5 (a0 a1 a2 a3 : Option MV) (x : Int32) : (WP Gm j_Routes_cheapestNeighbour 5 (a0 :: a1 :: a2 :: a3 :: some (.inl x) :: ls) (st) h Q) = (WP Gm j_Routes_cheapestNeighbour 7 (a0 :: a1 :: a2 :: a3 :: some (.inl x) :: ls) (.inl x :: st) (h) Q) := (WP_at c_Routes_cheapestNeighbour_5 _ _ _ _)
theorem c_Routes_cheapestNeighbour_7 : mCode j_Routes_cheapestNeighbour 7 = oAld 0 8 := rfl
theorem e_Routes_cheapestNeighbour_7 (x : Option Nat) : (WP Gm j_Routes_cheapestNeighbour 7 (some (.inr (.inl x)) :: ls) (st) h Q) = (WP Gm j_Routes_cheapestNeighbour 8 (some (.inr (.inl x)) :: ls) (.inr (.inl x) :: st) (h) Q) := (WP_at c_Routes_cheapestNeighbour_7 _ _ _ _)
theorem c_Routes_cheapestNeighbour_8 : mCode j_Routes_cheapestNeighbour 8 = oGetR kc_Routes 0 11 := rfl
theorem e_Routes_cheapestNeighbour_8 (a : Nat) (hk : isK h a kc_Routes = true) : (WP Gm j_Routes_cheapestNeighbour 8 (ls) (.inr (.inl (some a)) :: st) h Q) = (WP Gm j_Routes_cheapestNeighbour 11 (ls) (.inr (.inl (gR h a 0)) :: st) (h) Q) := (WP_at c_Routes_cheapestNeighbour_8 _ _ _ _).trans (congrArg (fun o => ndX Gm (WP Gm) j_Routes_cheapestNeighbour 8 o Q) (if_pos hk))
theorem c_Routes_cheapestNeighbour_11 : mCode j_Routes_cheapestNeighbour 11 = oGetI kc_Land 2 14 := rfl
theorem e_Routes_cheapestNeighbour_11 (a : Nat) (hk : isK h a kc_Land = true) : (WP Gm j_Routes_cheapestNeighbour 11 (ls) (.inr (.inl (some a)) :: st) h Q) = (WP Gm j_Routes_cheapestNeighbour 14 (ls) (.inl (gI h a 2) :: st) (h) Q) := (WP_at c_Routes_cheapestNeighbour_11 _ _ _ _).trans (congrArg (fun o => ndX Gm (WP Gm) j_Routes_cheapestNeighbour 11 o Q) (if_pos hk))
theorem c_Routes_cheapestNeighbour_14 : mCode j_Routes_cheapestNeighbour 14 = oIC (fun x y => decide (y ≤ x)) 102 17 := rfl
theorem e_Routes_cheapestNeighbour_14 (x y : Int32) : (WP Gm j_Routes_cheapestNeighbour 14 (ls) (.inl y :: .inl x :: st) h Q) = (if y ≤ x then WP Gm j_Routes_cheapestNeighbour 102 (ls) (st) (h) Q else WP Gm j_Routes_cheapestNeighbour 17 (ls) (st) (h) Q) := (WP_at c_Routes_cheapestNeighbour_14 _ _ _ _).trans (nd_ic rfl _ _ _ _)
theorem c_Routes_cheapestNeighbour_17 : mCode j_Routes_cheapestNeighbour 17 = oAld 0 18 := rfl
theorem e_Routes_cheapestNeighbour_17 (x : Option Nat) : (WP Gm j_Routes_cheapestNeighbour 17 (some (.inr (.inl x)) :: ls) (st) h Q) = (WP Gm j_Routes_cheapestNeighbour 18 (some (.inr (.inl x)) :: ls) (.inr (.inl x) :: st) (h) Q) := (WP_at c_Routes_cheapestNeighbour_17 _ _ _ _)
theorem c_Routes_cheapestNeighbour_18 : mCode j_Routes_cheapestNeighbour 18 = oGetR kc_Routes 2 21 := rfl
theorem e_Routes_cheapestNeighbour_18 (a : Nat) (hk : isK h a kc_Routes = true) : (WP Gm j_Routes_cheapestNeighbour 18 (ls) (.inr (.inl (some a)) :: st) h Q) = (WP Gm j_Routes_cheapestNeighbour 21 (ls) (.inr (.inl (gR h a 2)) :: st) (h) Q) := (WP_at c_Routes_cheapestNeighbour_18 _ _ _ _).trans (congrArg (fun o => ndX Gm (WP Gm) j_Routes_cheapestNeighbour 18 o Q) (if_pos hk))
theorem c_Routes_cheapestNeighbour_21 : mCode j_Routes_cheapestNeighbour 21 = oIld 4 23 := rfl
theorem e_Routes_cheapestNeighbour_21 (a0 a1 a2 a3 : Option MV) (x : Int32) : (WP Gm j_Routes_cheapestNeighbour 21 (a0 :: a1 :: a2 :: a3 :: some (.inl x) :: ls) (st) h Q) = (WP Gm j_Routes_cheapestNeighbour 23 (a0 :: a1 :: a2 :: a3 :: some (.inl x) :: ls) (.inl x :: st) (h) Q) := (WP_at c_Routes_cheapestNeighbour_21 _ _ _ _)
theorem c_Routes_cheapestNeighbour_23 : mCode j_Routes_cheapestNeighbour 23 = oAal 4 24 := rfl
theorem e_Routes_cheapestNeighbour_23 (a : Nat) (i : Int32) (hk : isK h a 104 = true) (hi : inL h a i = true) : (WP Gm j_Routes_cheapestNeighbour 23 (ls) (.inl i :: .inr (.inl (some a)) :: st) h Q) = (WP Gm j_Routes_cheapestNeighbour 24 (ls) (.inr (.inl (gR h a i.toNatClampNeg)) :: st) (h) Q) := (WP_at c_Routes_cheapestNeighbour_23 _ _ _ _).trans (congrArg (fun o => ndX Gm (WP Gm) j_Routes_cheapestNeighbour 23 o Q) (if_pos (by rw [hk, hi]; rfl)))
theorem c_Routes_cheapestNeighbour_24 : mCode j_Routes_cheapestNeighbour 24 = oIld 2 25 := rfl
theorem e_Routes_cheapestNeighbour_24 (a0 a1 : Option MV) (x : Int32) : (WP Gm j_Routes_cheapestNeighbour 24 (a0 :: a1 :: some (.inl x) :: ls) (st) h Q) = (WP Gm j_Routes_cheapestNeighbour 25 (a0 :: a1 :: some (.inl x) :: ls) (.inl x :: st) (h) Q) := (WP_at c_Routes_cheapestNeighbour_24 _ _ _ _)
theorem c_Routes_cheapestNeighbour_25 : mCode j_Routes_cheapestNeighbour 25 = oIal 0 26 := rfl
theorem e_Routes_cheapestNeighbour_25 (a : Nat) (i : Int32) (hk : isK h a 100 = true) (hi : inL h a i = true) : (WP Gm j_Routes_cheapestNeighbour 25 (ls) (.inl i :: .inr (.inl (some a)) :: st) h Q) = (WP Gm j_Routes_cheapestNeighbour 26 (ls) (.inl (gI h a i.toNatClampNeg) :: st) (h) Q) := (WP_at c_Routes_cheapestNeighbour_25 _ _ _ _).trans (congrArg (fun o => ndX Gm (WP Gm) j_Routes_cheapestNeighbour 25 o Q) (if_pos (by rw [hk, hi]; rfl)))
theorem c_Routes_cheapestNeighbour_26 : mCode j_Routes_cheapestNeighbour 26 = oI (-1) 27 := rfl
theorem e_Routes_cheapestNeighbour_26  : (WP Gm j_Routes_cheapestNeighbour 26 (ls) (st) h Q) = (WP Gm j_Routes_cheapestNeighbour 27 (ls) (.inl (-1) :: st) (h) Q) := (WP_at c_Routes_cheapestNeighbour_26 _ _ _ _)
theorem c_Routes_cheapestNeighbour_27 : mCode j_Routes_cheapestNeighbour 27 = oIC (fun x y => decide (x = y)) 60 30 := rfl
theorem e_Routes_cheapestNeighbour_27 (x y : Int32) : (WP Gm j_Routes_cheapestNeighbour 27 (ls) (.inl y :: .inl x :: st) h Q) = (if x = y then WP Gm j_Routes_cheapestNeighbour 60 (ls) (st) (h) Q else WP Gm j_Routes_cheapestNeighbour 30 (ls) (st) (h) Q) := (WP_at c_Routes_cheapestNeighbour_27 _ _ _ _).trans (nd_ic rfl _ _ _ _)
theorem c_Routes_cheapestNeighbour_30 : mCode j_Routes_cheapestNeighbour 30 = oAld 0 31 := rfl
theorem e_Routes_cheapestNeighbour_30 (x : Option Nat) : (WP Gm j_Routes_cheapestNeighbour 30 (some (.inr (.inl x)) :: ls) (st) h Q) = (WP Gm j_Routes_cheapestNeighbour 31 (some (.inr (.inl x)) :: ls) (.inr (.inl x) :: st) (h) Q) := (WP_at c_Routes_cheapestNeighbour_30 _ _ _ _)
theorem c_Routes_cheapestNeighbour_31 : mCode j_Routes_cheapestNeighbour 31 = oGetR kc_Routes 2 34 := rfl
theorem e_Routes_cheapestNeighbour_31 (a : Nat) (hk : isK h a kc_Routes = true) : (WP Gm j_Routes_cheapestNeighbour 31 (ls) (.inr (.inl (some a)) :: st) h Q) = (WP Gm j_Routes_cheapestNeighbour 34 (ls) (.inr (.inl (gR h a 2)) :: st) (h) Q) := (WP_at c_Routes_cheapestNeighbour_31 _ _ _ _).trans (congrArg (fun o => ndX Gm (WP Gm) j_Routes_cheapestNeighbour 31 o Q) (if_pos hk))
theorem c_Routes_cheapestNeighbour_34 : mCode j_Routes_cheapestNeighbour 34 = oIld 4 36 := rfl
theorem e_Routes_cheapestNeighbour_34 (a0 a1 a2 a3 : Option MV) (x : Int32) : (WP Gm j_Routes_cheapestNeighbour 34 (a0 :: a1 :: a2 :: a3 :: some (.inl x) :: ls) (st) h Q) = (WP Gm j_Routes_cheapestNeighbour 36 (a0 :: a1 :: a2 :: a3 :: some (.inl x) :: ls) (.inl x :: st) (h) Q) := (WP_at c_Routes_cheapestNeighbour_34 _ _ _ _)
theorem c_Routes_cheapestNeighbour_36 : mCode j_Routes_cheapestNeighbour 36 = oAal 4 37 := rfl
theorem e_Routes_cheapestNeighbour_36 (a : Nat) (i : Int32) (hk : isK h a 104 = true) (hi : inL h a i = true) : (WP Gm j_Routes_cheapestNeighbour 36 (ls) (.inl i :: .inr (.inl (some a)) :: st) h Q) = (WP Gm j_Routes_cheapestNeighbour 37 (ls) (.inr (.inl (gR h a i.toNatClampNeg)) :: st) (h) Q) := (WP_at c_Routes_cheapestNeighbour_36 _ _ _ _).trans (congrArg (fun o => ndX Gm (WP Gm) j_Routes_cheapestNeighbour 36 o Q) (if_pos (by rw [hk, hi]; rfl)))
theorem c_Routes_cheapestNeighbour_37 : mCode j_Routes_cheapestNeighbour 37 = oIld 2 38 := rfl
theorem e_Routes_cheapestNeighbour_37 (a0 a1 : Option MV) (x : Int32) : (WP Gm j_Routes_cheapestNeighbour 37 (a0 :: a1 :: some (.inl x) :: ls) (st) h Q) = (WP Gm j_Routes_cheapestNeighbour 38 (a0 :: a1 :: some (.inl x) :: ls) (.inl x :: st) (h) Q) := (WP_at c_Routes_cheapestNeighbour_37 _ _ _ _)
theorem c_Routes_cheapestNeighbour_38 : mCode j_Routes_cheapestNeighbour 38 = oIal 0 39 := rfl
theorem e_Routes_cheapestNeighbour_38 (a : Nat) (i : Int32) (hk : isK h a 100 = true) (hi : inL h a i = true) : (WP Gm j_Routes_cheapestNeighbour 38 (ls) (.inl i :: .inr (.inl (some a)) :: st) h Q) = (WP Gm j_Routes_cheapestNeighbour 39 (ls) (.inl (gI h a i.toNatClampNeg) :: st) (h) Q) := (WP_at c_Routes_cheapestNeighbour_38 _ _ _ _).trans (congrArg (fun o => ndX Gm (WP Gm) j_Routes_cheapestNeighbour 38 o Q) (if_pos (by rw [hk, hi]; rfl)))
theorem c_Routes_cheapestNeighbour_39 : mCode j_Routes_cheapestNeighbour 39 = oIld 1 40 := rfl
theorem e_Routes_cheapestNeighbour_39 (a0 : Option MV) (x : Int32) : (WP Gm j_Routes_cheapestNeighbour 39 (a0 :: some (.inl x) :: ls) (st) h Q) = (WP Gm j_Routes_cheapestNeighbour 40 (a0 :: some (.inl x) :: ls) (.inl x :: st) (h) Q) := (WP_at c_Routes_cheapestNeighbour_39 _ _ _ _)
theorem c_Routes_cheapestNeighbour_40 : mCode j_Routes_cheapestNeighbour 40 = oIC (fun x y => decide (x = y)) 60 43 := rfl
theorem e_Routes_cheapestNeighbour_40 (x y : Int32) : (WP Gm j_Routes_cheapestNeighbour 40 (ls) (.inl y :: .inl x :: st) h Q) = (if x = y then WP Gm j_Routes_cheapestNeighbour 60 (ls) (st) (h) Q else WP Gm j_Routes_cheapestNeighbour 43 (ls) (st) (h) Q) := (WP_at c_Routes_cheapestNeighbour_40 _ _ _ _).trans (nd_ic rfl _ _ _ _)
theorem c_Routes_cheapestNeighbour_43 : mCode j_Routes_cheapestNeighbour 43 = oAld 0 44 := rfl
theorem e_Routes_cheapestNeighbour_43 (x : Option Nat) : (WP Gm j_Routes_cheapestNeighbour 43 (some (.inr (.inl x)) :: ls) (st) h Q) = (WP Gm j_Routes_cheapestNeighbour 44 (some (.inr (.inl x)) :: ls) (.inr (.inl x) :: st) (h) Q) := (WP_at c_Routes_cheapestNeighbour_43 _ _ _ _)
theorem c_Routes_cheapestNeighbour_44 : mCode j_Routes_cheapestNeighbour 44 = oGetR kc_Routes 0 47 := rfl
theorem e_Routes_cheapestNeighbour_44 (a : Nat) (hk : isK h a kc_Routes = true) : (WP Gm j_Routes_cheapestNeighbour 44 (ls) (.inr (.inl (some a)) :: st) h Q) = (WP Gm j_Routes_cheapestNeighbour 47 (ls) (.inr (.inl (gR h a 0)) :: st) (h) Q) := (WP_at c_Routes_cheapestNeighbour_44 _ _ _ _).trans (congrArg (fun o => ndX Gm (WP Gm) j_Routes_cheapestNeighbour 44 o Q) (if_pos hk))
theorem c_Routes_cheapestNeighbour_47 : mCode j_Routes_cheapestNeighbour 47 = oIld 4 49 := rfl
theorem e_Routes_cheapestNeighbour_47 (a0 a1 a2 a3 : Option MV) (x : Int32) : (WP Gm j_Routes_cheapestNeighbour 47 (a0 :: a1 :: a2 :: a3 :: some (.inl x) :: ls) (st) h Q) = (WP Gm j_Routes_cheapestNeighbour 49 (a0 :: a1 :: a2 :: a3 :: some (.inl x) :: ls) (.inl x :: st) (h) Q) := (WP_at c_Routes_cheapestNeighbour_47 _ _ _ _)
theorem c_Routes_cheapestNeighbour_49 : mCode j_Routes_cheapestNeighbour 49 = oIld 1 50 := rfl
theorem e_Routes_cheapestNeighbour_49 (a0 : Option MV) (x : Int32) : (WP Gm j_Routes_cheapestNeighbour 49 (a0 :: some (.inl x) :: ls) (st) h Q) = (WP Gm j_Routes_cheapestNeighbour 50 (a0 :: some (.inl x) :: ls) (.inl x :: st) (h) Q) := (WP_at c_Routes_cheapestNeighbour_49 _ _ _ _)
theorem c_Routes_cheapestNeighbour_50 : mCode j_Routes_cheapestNeighbour 50 = oCallV kc_Land j_Land_areLinked 2 (mL j_Land_areLinked) 53 := rfl
theorem e_Routes_cheapestNeighbour_50 (a : Nat) (x0 : Int32) (x1 : Int32) (hk : isK h a kc_Land = true) (hc : c8 st = true) : (WP Gm j_Routes_cheapestNeighbour 50 (ls) (.inl x1 :: .inl x0 :: .inr (.inl (some a)) :: st) h Q) = (WP Gm j_Land_areLinked 0 [some (.inr (.inl (some a))), some (.inl x0), some (.inl x1)] [] h (kC (fun v h2 => WP Gm j_Routes_cheapestNeighbour 53 ls (v.toList ++ st) h2 Q) (fun E h2 => Q (.inr E) h2))) := (WP_at c_Routes_cheapestNeighbour_50 _ _ _ _).trans (congrArg (fun o => ndX Gm (WP Gm) j_Routes_cheapestNeighbour 50 o Q) (if_pos (by rw [hk, show decide (catS st ≤ 8) = true from hc]; rfl)))
theorem c_Routes_cheapestNeighbour_53 : mCode j_Routes_cheapestNeighbour 53 = oIf (fun x => decide (x = 0)) 60 56 := rfl
theorem e_Routes_cheapestNeighbour_53 (x : Int32) : (WP Gm j_Routes_cheapestNeighbour 53 (ls) (.inl x :: st) h Q) = (if x = 0 then WP Gm j_Routes_cheapestNeighbour 60 (ls) (st) (h) Q else WP Gm j_Routes_cheapestNeighbour 56 (ls) (st) (h) Q) := (WP_at c_Routes_cheapestNeighbour_53 _ _ _ _).trans (nd_if rfl _ _ _ _)
theorem c_Routes_cheapestNeighbour_56 : mCode j_Routes_cheapestNeighbour 56 = oI 1 57 := rfl
theorem e_Routes_cheapestNeighbour_56  : (WP Gm j_Routes_cheapestNeighbour 56 (ls) (st) h Q) = (WP Gm j_Routes_cheapestNeighbour 57 (ls) (.inl 1 :: st) (h) Q) := (WP_at c_Routes_cheapestNeighbour_56 _ _ _ _)
theorem c_Routes_cheapestNeighbour_57 : mCode j_Routes_cheapestNeighbour 57 = oGo 61 := rfl
theorem e_Routes_cheapestNeighbour_57  : (WP Gm j_Routes_cheapestNeighbour 57 (ls) (st) h Q) = (WP Gm j_Routes_cheapestNeighbour 61 (ls) (st) (h) Q) := (WP_at c_Routes_cheapestNeighbour_57 _ _ _ _)
theorem c_Routes_cheapestNeighbour_60 : mCode j_Routes_cheapestNeighbour 60 = oI 0 61 := rfl
theorem e_Routes_cheapestNeighbour_60  : (WP Gm j_Routes_cheapestNeighbour 60 (ls) (st) h Q) = (WP Gm j_Routes_cheapestNeighbour 61 (ls) (.inl 0 :: st) (h) Q) := (WP_at c_Routes_cheapestNeighbour_60 _ _ _ _)
theorem c_Routes_cheapestNeighbour_61 : mCode j_Routes_cheapestNeighbour 61 = oIst 5 63 := rfl
theorem e_Routes_cheapestNeighbour_61 (x : Int32) : (WP Gm j_Routes_cheapestNeighbour 61 (ls) (.inl x :: st) h Q) = (WP Gm j_Routes_cheapestNeighbour 63 (lSet1 ls 5 (some (.inl x))) (st) (h) Q) := (WP_at c_Routes_cheapestNeighbour_61 _ _ _ _)
theorem c_Routes_cheapestNeighbour_63 : mCode j_Routes_cheapestNeighbour 63 = oIld 5 65 := rfl
theorem e_Routes_cheapestNeighbour_63 (a0 a1 a2 a3 a4 : Option MV) (x : Int32) : (WP Gm j_Routes_cheapestNeighbour 63 (a0 :: a1 :: a2 :: a3 :: a4 :: some (.inl x) :: ls) (st) h Q) = (WP Gm j_Routes_cheapestNeighbour 65 (a0 :: a1 :: a2 :: a3 :: a4 :: some (.inl x) :: ls) (.inl x :: st) (h) Q) := (WP_at c_Routes_cheapestNeighbour_63 _ _ _ _)
theorem c_Routes_cheapestNeighbour_65 : mCode j_Routes_cheapestNeighbour 65 = oIf (fun x => decide (x = 0)) 96 68 := rfl
theorem e_Routes_cheapestNeighbour_65 (x : Int32) : (WP Gm j_Routes_cheapestNeighbour 65 (ls) (.inl x :: st) h Q) = (if x = 0 then WP Gm j_Routes_cheapestNeighbour 96 (ls) (st) (h) Q else WP Gm j_Routes_cheapestNeighbour 68 (ls) (st) (h) Q) := (WP_at c_Routes_cheapestNeighbour_65 _ _ _ _).trans (nd_if rfl _ _ _ _)
theorem c_Routes_cheapestNeighbour_68 : mCode j_Routes_cheapestNeighbour 68 = oIld 3 69 := rfl
theorem e_Routes_cheapestNeighbour_68 (a0 a1 a2 : Option MV) (x : Int32) : (WP Gm j_Routes_cheapestNeighbour 68 (a0 :: a1 :: a2 :: some (.inl x) :: ls) (st) h Q) = (WP Gm j_Routes_cheapestNeighbour 69 (a0 :: a1 :: a2 :: some (.inl x) :: ls) (.inl x :: st) (h) Q) := (WP_at c_Routes_cheapestNeighbour_68 _ _ _ _)
theorem c_Routes_cheapestNeighbour_69 : mCode j_Routes_cheapestNeighbour 69 = oI (-1) 70 := rfl
theorem e_Routes_cheapestNeighbour_69  : (WP Gm j_Routes_cheapestNeighbour 69 (ls) (st) h Q) = (WP Gm j_Routes_cheapestNeighbour 70 (ls) (.inl (-1) :: st) (h) Q) := (WP_at c_Routes_cheapestNeighbour_69 _ _ _ _)
theorem c_Routes_cheapestNeighbour_70 : mCode j_Routes_cheapestNeighbour 70 = oIC (fun x y => decide (x = y)) 93 73 := rfl
theorem e_Routes_cheapestNeighbour_70 (x y : Int32) : (WP Gm j_Routes_cheapestNeighbour 70 (ls) (.inl y :: .inl x :: st) h Q) = (if x = y then WP Gm j_Routes_cheapestNeighbour 93 (ls) (st) (h) Q else WP Gm j_Routes_cheapestNeighbour 73 (ls) (st) (h) Q) := (WP_at c_Routes_cheapestNeighbour_70 _ _ _ _).trans (nd_ic rfl _ _ _ _)
theorem c_Routes_cheapestNeighbour_73 : mCode j_Routes_cheapestNeighbour 73 = oAld 0 74 := rfl
theorem e_Routes_cheapestNeighbour_73 (x : Option Nat) : (WP Gm j_Routes_cheapestNeighbour 73 (some (.inr (.inl x)) :: ls) (st) h Q) = (WP Gm j_Routes_cheapestNeighbour 74 (some (.inr (.inl x)) :: ls) (.inr (.inl x) :: st) (h) Q) := (WP_at c_Routes_cheapestNeighbour_73 _ _ _ _)
theorem c_Routes_cheapestNeighbour_74 : mCode j_Routes_cheapestNeighbour 74 = oGetR kc_Routes 1 77 := rfl
theorem e_Routes_cheapestNeighbour_74 (a : Nat) (hk : isK h a kc_Routes = true) : (WP Gm j_Routes_cheapestNeighbour 74 (ls) (.inr (.inl (some a)) :: st) h Q) = (WP Gm j_Routes_cheapestNeighbour 77 (ls) (.inr (.inl (gR h a 1)) :: st) (h) Q) := (WP_at c_Routes_cheapestNeighbour_74 _ _ _ _).trans (congrArg (fun o => ndX Gm (WP Gm) j_Routes_cheapestNeighbour 74 o Q) (if_pos hk))
theorem c_Routes_cheapestNeighbour_77 : mCode j_Routes_cheapestNeighbour 77 = oIld 4 79 := rfl
theorem e_Routes_cheapestNeighbour_77 (a0 a1 a2 a3 : Option MV) (x : Int32) : (WP Gm j_Routes_cheapestNeighbour 77 (a0 :: a1 :: a2 :: a3 :: some (.inl x) :: ls) (st) h Q) = (WP Gm j_Routes_cheapestNeighbour 79 (a0 :: a1 :: a2 :: a3 :: some (.inl x) :: ls) (.inl x :: st) (h) Q) := (WP_at c_Routes_cheapestNeighbour_77 _ _ _ _)
theorem c_Routes_cheapestNeighbour_79 : mCode j_Routes_cheapestNeighbour 79 = oAal 4 80 := rfl
theorem e_Routes_cheapestNeighbour_79 (a : Nat) (i : Int32) (hk : isK h a 104 = true) (hi : inL h a i = true) : (WP Gm j_Routes_cheapestNeighbour 79 (ls) (.inl i :: .inr (.inl (some a)) :: st) h Q) = (WP Gm j_Routes_cheapestNeighbour 80 (ls) (.inr (.inl (gR h a i.toNatClampNeg)) :: st) (h) Q) := (WP_at c_Routes_cheapestNeighbour_79 _ _ _ _).trans (congrArg (fun o => ndX Gm (WP Gm) j_Routes_cheapestNeighbour 79 o Q) (if_pos (by rw [hk, hi]; rfl)))
theorem c_Routes_cheapestNeighbour_80 : mCode j_Routes_cheapestNeighbour 80 = oIld 2 81 := rfl
theorem e_Routes_cheapestNeighbour_80 (a0 a1 : Option MV) (x : Int32) : (WP Gm j_Routes_cheapestNeighbour 80 (a0 :: a1 :: some (.inl x) :: ls) (st) h Q) = (WP Gm j_Routes_cheapestNeighbour 81 (a0 :: a1 :: some (.inl x) :: ls) (.inl x :: st) (h) Q) := (WP_at c_Routes_cheapestNeighbour_80 _ _ _ _)
theorem c_Routes_cheapestNeighbour_81 : mCode j_Routes_cheapestNeighbour 81 = oIal 0 82 := rfl
theorem e_Routes_cheapestNeighbour_81 (a : Nat) (i : Int32) (hk : isK h a 100 = true) (hi : inL h a i = true) : (WP Gm j_Routes_cheapestNeighbour 81 (ls) (.inl i :: .inr (.inl (some a)) :: st) h Q) = (WP Gm j_Routes_cheapestNeighbour 82 (ls) (.inl (gI h a i.toNatClampNeg) :: st) (h) Q) := (WP_at c_Routes_cheapestNeighbour_81 _ _ _ _).trans (congrArg (fun o => ndX Gm (WP Gm) j_Routes_cheapestNeighbour 81 o Q) (if_pos (by rw [hk, hi]; rfl)))
theorem c_Routes_cheapestNeighbour_82 : mCode j_Routes_cheapestNeighbour 82 = oAld 0 83 := rfl
theorem e_Routes_cheapestNeighbour_82 (x : Option Nat) : (WP Gm j_Routes_cheapestNeighbour 82 (some (.inr (.inl x)) :: ls) (st) h Q) = (WP Gm j_Routes_cheapestNeighbour 83 (some (.inr (.inl x)) :: ls) (.inr (.inl x) :: st) (h) Q) := (WP_at c_Routes_cheapestNeighbour_82 _ _ _ _)
theorem c_Routes_cheapestNeighbour_83 : mCode j_Routes_cheapestNeighbour 83 = oGetR kc_Routes 1 86 := rfl
theorem e_Routes_cheapestNeighbour_83 (a : Nat) (hk : isK h a kc_Routes = true) : (WP Gm j_Routes_cheapestNeighbour 83 (ls) (.inr (.inl (some a)) :: st) h Q) = (WP Gm j_Routes_cheapestNeighbour 86 (ls) (.inr (.inl (gR h a 1)) :: st) (h) Q) := (WP_at c_Routes_cheapestNeighbour_83 _ _ _ _).trans (congrArg (fun o => ndX Gm (WP Gm) j_Routes_cheapestNeighbour 83 o Q) (if_pos hk))
theorem c_Routes_cheapestNeighbour_86 : mCode j_Routes_cheapestNeighbour 86 = oIld 3 87 := rfl
theorem e_Routes_cheapestNeighbour_86 (a0 a1 a2 : Option MV) (x : Int32) : (WP Gm j_Routes_cheapestNeighbour 86 (a0 :: a1 :: a2 :: some (.inl x) :: ls) (st) h Q) = (WP Gm j_Routes_cheapestNeighbour 87 (a0 :: a1 :: a2 :: some (.inl x) :: ls) (.inl x :: st) (h) Q) := (WP_at c_Routes_cheapestNeighbour_86 _ _ _ _)
theorem c_Routes_cheapestNeighbour_87 : mCode j_Routes_cheapestNeighbour 87 = oAal 4 88 := rfl
theorem e_Routes_cheapestNeighbour_87 (a : Nat) (i : Int32) (hk : isK h a 104 = true) (hi : inL h a i = true) : (WP Gm j_Routes_cheapestNeighbour 87 (ls) (.inl i :: .inr (.inl (some a)) :: st) h Q) = (WP Gm j_Routes_cheapestNeighbour 88 (ls) (.inr (.inl (gR h a i.toNatClampNeg)) :: st) (h) Q) := (WP_at c_Routes_cheapestNeighbour_87 _ _ _ _).trans (congrArg (fun o => ndX Gm (WP Gm) j_Routes_cheapestNeighbour 87 o Q) (if_pos (by rw [hk, hi]; rfl)))
theorem c_Routes_cheapestNeighbour_88 : mCode j_Routes_cheapestNeighbour 88 = oIld 2 89 := rfl
theorem e_Routes_cheapestNeighbour_88 (a0 a1 : Option MV) (x : Int32) : (WP Gm j_Routes_cheapestNeighbour 88 (a0 :: a1 :: some (.inl x) :: ls) (st) h Q) = (WP Gm j_Routes_cheapestNeighbour 89 (a0 :: a1 :: some (.inl x) :: ls) (.inl x :: st) (h) Q) := (WP_at c_Routes_cheapestNeighbour_88 _ _ _ _)
theorem c_Routes_cheapestNeighbour_89 : mCode j_Routes_cheapestNeighbour 89 = oIal 0 90 := rfl
theorem e_Routes_cheapestNeighbour_89 (a : Nat) (i : Int32) (hk : isK h a 100 = true) (hi : inL h a i = true) : (WP Gm j_Routes_cheapestNeighbour 89 (ls) (.inl i :: .inr (.inl (some a)) :: st) h Q) = (WP Gm j_Routes_cheapestNeighbour 90 (ls) (.inl (gI h a i.toNatClampNeg) :: st) (h) Q) := (WP_at c_Routes_cheapestNeighbour_89 _ _ _ _).trans (congrArg (fun o => ndX Gm (WP Gm) j_Routes_cheapestNeighbour 89 o Q) (if_pos (by rw [hk, hi]; rfl)))
theorem c_Routes_cheapestNeighbour_90 : mCode j_Routes_cheapestNeighbour 90 = oIC (fun x y => decide (y ≤ x)) 96 93 := rfl
theorem e_Routes_cheapestNeighbour_90 (x y : Int32) : (WP Gm j_Routes_cheapestNeighbour 90 (ls) (.inl y :: .inl x :: st) h Q) = (if y ≤ x then WP Gm j_Routes_cheapestNeighbour 96 (ls) (st) (h) Q else WP Gm j_Routes_cheapestNeighbour 93 (ls) (st) (h) Q) := (WP_at c_Routes_cheapestNeighbour_90 _ _ _ _).trans (nd_ic rfl _ _ _ _)
theorem c_Routes_cheapestNeighbour_93 : mCode j_Routes_cheapestNeighbour 93 = oIld 4 95 := rfl
theorem e_Routes_cheapestNeighbour_93 (a0 a1 a2 a3 : Option MV) (x : Int32) : (WP Gm j_Routes_cheapestNeighbour 93 (a0 :: a1 :: a2 :: a3 :: some (.inl x) :: ls) (st) h Q) = (WP Gm j_Routes_cheapestNeighbour 95 (a0 :: a1 :: a2 :: a3 :: some (.inl x) :: ls) (.inl x :: st) (h) Q) := (WP_at c_Routes_cheapestNeighbour_93 _ _ _ _)
theorem c_Routes_cheapestNeighbour_95 : mCode j_Routes_cheapestNeighbour 95 = oIst 3 96 := rfl
theorem e_Routes_cheapestNeighbour_95 (x : Int32) : (WP Gm j_Routes_cheapestNeighbour 95 (ls) (.inl x :: st) h Q) = (WP Gm j_Routes_cheapestNeighbour 96 (lSet1 ls 3 (some (.inl x))) (st) (h) Q) := (WP_at c_Routes_cheapestNeighbour_95 _ _ _ _)
theorem c_Routes_cheapestNeighbour_96 : mCode j_Routes_cheapestNeighbour 96 = oInc 4 1 99 := rfl
theorem e_Routes_cheapestNeighbour_96 (a0 a1 a2 a3 : Option MV) (x : Int32) : (WP Gm j_Routes_cheapestNeighbour 96 (a0 :: a1 :: a2 :: a3 :: some (.inl x) :: ls) (st) h Q) = (WP Gm j_Routes_cheapestNeighbour 99 (lSet1 (a0 :: a1 :: a2 :: a3 :: some (.inl x) :: ls) 4 (some (.inl (x + 1)))) (st) (h) Q) := (WP_at c_Routes_cheapestNeighbour_96 _ _ _ _)
theorem c_Routes_cheapestNeighbour_99 : mCode j_Routes_cheapestNeighbour 99 = oGo 5 := rfl
theorem e_Routes_cheapestNeighbour_99  : (WP Gm j_Routes_cheapestNeighbour 99 (ls) (st) h Q) = (WP Gm j_Routes_cheapestNeighbour 5 (ls) (st) (h) Q) := (WP_at c_Routes_cheapestNeighbour_99 _ _ _ _)
theorem c_Routes_cheapestNeighbour_102 : mCode j_Routes_cheapestNeighbour 102 = oIld 3 103 := rfl
theorem e_Routes_cheapestNeighbour_102 (a0 a1 a2 : Option MV) (x : Int32) : (WP Gm j_Routes_cheapestNeighbour 102 (a0 :: a1 :: a2 :: some (.inl x) :: ls) (st) h Q) = (WP Gm j_Routes_cheapestNeighbour 103 (a0 :: a1 :: a2 :: some (.inl x) :: ls) (.inl x :: st) (h) Q) := (WP_at c_Routes_cheapestNeighbour_102 _ _ _ _)
theorem c_Routes_cheapestNeighbour_103 : mCode j_Routes_cheapestNeighbour 103 = oRetI := rfl
theorem e_Routes_cheapestNeighbour_103 (x : Int32) : (WP Gm j_Routes_cheapestNeighbour 103 (ls) ([.inl x]) h Q) = (Q (.inl (some (.inl x))) h) := (WP_at c_Routes_cheapestNeighbour_103 _ _ _ _)
theorem c_Routes_wayLength_0 : mCode j_Routes_wayLength 0 = oAld 0 1 := rfl
theorem e_Routes_wayLength_0 (x : Option Nat) : (WP Gm j_Routes_wayLength 0 (some (.inr (.inl x)) :: ls) (st) h Q) = (WP Gm j_Routes_wayLength 1 (some (.inr (.inl x)) :: ls) (.inr (.inl x) :: st) (h) Q) := (WP_at c_Routes_wayLength_0 _ _ _ _)
theorem c_Routes_wayLength_1 : mCode j_Routes_wayLength 1 = oIld 1 2 := rfl
theorem e_Routes_wayLength_1 (a0 : Option MV) (x : Int32) : (WP Gm j_Routes_wayLength 1 (a0 :: some (.inl x) :: ls) (st) h Q) = (WP Gm j_Routes_wayLength 2 (a0 :: some (.inl x) :: ls) (.inl x :: st) (h) Q) := (WP_at c_Routes_wayLength_1 _ _ _ _)
theorem c_Routes_wayLength_2 : mCode j_Routes_wayLength 2 = oIld 2 3 := rfl
theorem e_Routes_wayLength_2 (a0 a1 : Option MV) (x : Int32) : (WP Gm j_Routes_wayLength 2 (a0 :: a1 :: some (.inl x) :: ls) (st) h Q) = (WP Gm j_Routes_wayLength 3 (a0 :: a1 :: some (.inl x) :: ls) (.inl x :: st) (h) Q) := (WP_at c_Routes_wayLength_2 _ _ _ _)
theorem c_Routes_wayLength_3 : mCode j_Routes_wayLength 3 = oCallV kc_Routes j_Routes_follow 2 (mL j_Routes_follow) 6 := rfl
theorem e_Routes_wayLength_3 (a : Nat) (x0 : Int32) (x1 : Int32) (hk : isK h a kc_Routes = true) (hc : c8 st = true) : (WP Gm j_Routes_wayLength 3 (ls) (.inl x1 :: .inl x0 :: .inr (.inl (some a)) :: st) h Q) = (WP Gm j_Routes_follow 0 [some (.inr (.inl (some a))), some (.inl x0), some (.inl x1), none, none] [] h (kC (fun v h2 => WP Gm j_Routes_wayLength 6 ls (v.toList ++ st) h2 Q) (fun E h2 => Q (.inr E) h2))) := (WP_at c_Routes_wayLength_3 _ _ _ _).trans (congrArg (fun o => ndX Gm (WP Gm) j_Routes_wayLength 3 o Q) (if_pos (by rw [hk, show decide (catS st ≤ 8) = true from hc]; rfl)))
theorem c_Routes_wayLength_6 : mCode j_Routes_wayLength 6 = oIst 3 7 := rfl
theorem e_Routes_wayLength_6 (x : Int32) : (WP Gm j_Routes_wayLength 6 (ls) (.inl x :: st) h Q) = (WP Gm j_Routes_wayLength 7 (lSet1 ls 3 (some (.inl x))) (st) (h) Q) := (WP_at c_Routes_wayLength_6 _ _ _ _)
theorem c_Routes_wayLength_7 : mCode j_Routes_wayLength 7 = oIld 3 8 := rfl
theorem e_Routes_wayLength_7 (a0 a1 a2 : Option MV) (x : Int32) : (WP Gm j_Routes_wayLength 7 (a0 :: a1 :: a2 :: some (.inl x) :: ls) (st) h Q) = (WP Gm j_Routes_wayLength 8 (a0 :: a1 :: a2 :: some (.inl x) :: ls) (.inl x :: st) (h) Q) := (WP_at c_Routes_wayLength_7 _ _ _ _)
theorem c_Routes_wayLength_8 : mCode j_Routes_wayLength 8 = oI (-2) 10 := rfl
theorem e_Routes_wayLength_8  : (WP Gm j_Routes_wayLength 8 (ls) (st) h Q) = (WP Gm j_Routes_wayLength 10 (ls) (.inl (-2) :: st) (h) Q) := (WP_at c_Routes_wayLength_8 _ _ _ _)
theorem c_Routes_wayLength_10 : mCode j_Routes_wayLength 10 = oIC (fun x y => decide (¬ x = y)) 17 13 := rfl
theorem e_Routes_wayLength_10 (x y : Int32) : (WP Gm j_Routes_wayLength 10 (ls) (.inl y :: .inl x :: st) h Q) = (if ¬ x = y then WP Gm j_Routes_wayLength 17 (ls) (st) (h) Q else WP Gm j_Routes_wayLength 13 (ls) (st) (h) Q) := (WP_at c_Routes_wayLength_10 _ _ _ _).trans (nd_ic rfl _ _ _ _)
theorem c_Routes_wayLength_13 : mCode j_Routes_wayLength 13 = oI (-1) 14 := rfl
theorem e_Routes_wayLength_13  : (WP Gm j_Routes_wayLength 13 (ls) (st) h Q) = (WP Gm j_Routes_wayLength 14 (ls) (.inl (-1) :: st) (h) Q) := (WP_at c_Routes_wayLength_13 _ _ _ _)
theorem c_Routes_wayLength_14 : mCode j_Routes_wayLength 14 = oGo 18 := rfl
theorem e_Routes_wayLength_14  : (WP Gm j_Routes_wayLength 14 (ls) (st) h Q) = (WP Gm j_Routes_wayLength 18 (ls) (st) (h) Q) := (WP_at c_Routes_wayLength_14 _ _ _ _)
theorem c_Routes_wayLength_17 : mCode j_Routes_wayLength 17 = oIld 3 18 := rfl
theorem e_Routes_wayLength_17 (a0 a1 a2 : Option MV) (x : Int32) : (WP Gm j_Routes_wayLength 17 (a0 :: a1 :: a2 :: some (.inl x) :: ls) (st) h Q) = (WP Gm j_Routes_wayLength 18 (a0 :: a1 :: a2 :: some (.inl x) :: ls) (.inl x :: st) (h) Q) := (WP_at c_Routes_wayLength_17 _ _ _ _)
theorem c_Routes_wayLength_18 : mCode j_Routes_wayLength 18 = oRetI := rfl
theorem e_Routes_wayLength_18 (x : Int32) : (WP Gm j_Routes_wayLength 18 (ls) ([.inl x]) h Q) = (Q (.inl (some (.inl x))) h) := (WP_at c_Routes_wayLength_18 _ _ _ _)
theorem c_Routes_hasCircle_0 : mCode j_Routes_hasCircle 0 = oAld 0 1 := rfl
theorem e_Routes_hasCircle_0 (x : Option Nat) : (WP Gm j_Routes_hasCircle 0 (some (.inr (.inl x)) :: ls) (st) h Q) = (WP Gm j_Routes_hasCircle 1 (some (.inr (.inl x)) :: ls) (.inr (.inl x) :: st) (h) Q) := (WP_at c_Routes_hasCircle_0 _ _ _ _)
theorem c_Routes_hasCircle_1 : mCode j_Routes_hasCircle 1 = oIld 1 2 := rfl
theorem e_Routes_hasCircle_1 (a0 : Option MV) (x : Int32) : (WP Gm j_Routes_hasCircle 1 (a0 :: some (.inl x) :: ls) (st) h Q) = (WP Gm j_Routes_hasCircle 2 (a0 :: some (.inl x) :: ls) (.inl x :: st) (h) Q) := (WP_at c_Routes_hasCircle_1 _ _ _ _)
theorem c_Routes_hasCircle_2 : mCode j_Routes_hasCircle 2 = oIld 2 3 := rfl
theorem e_Routes_hasCircle_2 (a0 a1 : Option MV) (x : Int32) : (WP Gm j_Routes_hasCircle 2 (a0 :: a1 :: some (.inl x) :: ls) (st) h Q) = (WP Gm j_Routes_hasCircle 3 (a0 :: a1 :: some (.inl x) :: ls) (.inl x :: st) (h) Q) := (WP_at c_Routes_hasCircle_2 _ _ _ _)
theorem c_Routes_hasCircle_3 : mCode j_Routes_hasCircle 3 = oCallV kc_Routes j_Routes_follow 2 (mL j_Routes_follow) 6 := rfl
theorem e_Routes_hasCircle_3 (a : Nat) (x0 : Int32) (x1 : Int32) (hk : isK h a kc_Routes = true) (hc : c8 st = true) : (WP Gm j_Routes_hasCircle 3 (ls) (.inl x1 :: .inl x0 :: .inr (.inl (some a)) :: st) h Q) = (WP Gm j_Routes_follow 0 [some (.inr (.inl (some a))), some (.inl x0), some (.inl x1), none, none] [] h (kC (fun v h2 => WP Gm j_Routes_hasCircle 6 ls (v.toList ++ st) h2 Q) (fun E h2 => Q (.inr E) h2))) := (WP_at c_Routes_hasCircle_3 _ _ _ _).trans (congrArg (fun o => ndX Gm (WP Gm) j_Routes_hasCircle 3 o Q) (if_pos (by rw [hk, show decide (catS st ≤ 8) = true from hc]; rfl)))
theorem c_Routes_hasCircle_6 : mCode j_Routes_hasCircle 6 = oI (-2) 8 := rfl
theorem e_Routes_hasCircle_6  : (WP Gm j_Routes_hasCircle 6 (ls) (st) h Q) = (WP Gm j_Routes_hasCircle 8 (ls) (.inl (-2) :: st) (h) Q) := (WP_at c_Routes_hasCircle_6 _ _ _ _)
theorem c_Routes_hasCircle_8 : mCode j_Routes_hasCircle 8 = oIC (fun x y => decide (¬ x = y)) 15 11 := rfl
theorem e_Routes_hasCircle_8 (x y : Int32) : (WP Gm j_Routes_hasCircle 8 (ls) (.inl y :: .inl x :: st) h Q) = (if ¬ x = y then WP Gm j_Routes_hasCircle 15 (ls) (st) (h) Q else WP Gm j_Routes_hasCircle 11 (ls) (st) (h) Q) := (WP_at c_Routes_hasCircle_8 _ _ _ _).trans (nd_ic rfl _ _ _ _)
theorem c_Routes_hasCircle_11 : mCode j_Routes_hasCircle 11 = oI 1 12 := rfl
theorem e_Routes_hasCircle_11  : (WP Gm j_Routes_hasCircle 11 (ls) (st) h Q) = (WP Gm j_Routes_hasCircle 12 (ls) (.inl 1 :: st) (h) Q) := (WP_at c_Routes_hasCircle_11 _ _ _ _)
theorem c_Routes_hasCircle_12 : mCode j_Routes_hasCircle 12 = oGo 16 := rfl
theorem e_Routes_hasCircle_12  : (WP Gm j_Routes_hasCircle 12 (ls) (st) h Q) = (WP Gm j_Routes_hasCircle 16 (ls) (st) (h) Q) := (WP_at c_Routes_hasCircle_12 _ _ _ _)
theorem c_Routes_hasCircle_15 : mCode j_Routes_hasCircle 15 = oI 0 16 := rfl
theorem e_Routes_hasCircle_15  : (WP Gm j_Routes_hasCircle 15 (ls) (st) h Q) = (WP Gm j_Routes_hasCircle 16 (ls) (.inl 0 :: st) (h) Q) := (WP_at c_Routes_hasCircle_15 _ _ _ _)
theorem c_Routes_hasCircle_16 : mCode j_Routes_hasCircle 16 = oRetZ := rfl
theorem e_Routes_hasCircle_16 (x : Int32) (hx : x = 0 ∨ x = 1) : (WP Gm j_Routes_hasCircle 16 (ls) ([.inl x]) h Q) = (Q (.inl (some (.inl x))) h) := (WP_at c_Routes_hasCircle_16 _ _ _ _).trans (congrArg (fun o => ndX Gm (WP Gm) j_Routes_hasCircle 16 o Q) (if_pos (by rcases hx with rfl | rfl <;> rfl)))
theorem c_Routes_follow_0 : mCode j_Routes_follow 0 = oIld 1 1 := rfl
theorem e_Routes_follow_0 (a0 : Option MV) (x : Int32) : (WP Gm j_Routes_follow 0 (a0 :: some (.inl x) :: ls) (st) h Q) = (WP Gm j_Routes_follow 1 (a0 :: some (.inl x) :: ls) (.inl x :: st) (h) Q) := (WP_at c_Routes_follow_0 _ _ _ _)
theorem c_Routes_follow_1 : mCode j_Routes_follow 1 = oIst 3 2 := rfl
theorem e_Routes_follow_1 (x : Int32) : (WP Gm j_Routes_follow 1 (ls) (.inl x :: st) h Q) = (WP Gm j_Routes_follow 2 (lSet1 ls 3 (some (.inl x))) (st) (h) Q) := (WP_at c_Routes_follow_1 _ _ _ _)
theorem c_Routes_follow_2 : mCode j_Routes_follow 2 = oI 1 3 := rfl
theorem e_Routes_follow_2  : (WP Gm j_Routes_follow 2 (ls) (st) h Q) = (WP Gm j_Routes_follow 3 (ls) (.inl 1 :: st) (h) Q) := (WP_at c_Routes_follow_2 _ _ _ _)
theorem c_Routes_follow_3 : mCode j_Routes_follow 3 = oIst 4 5 := rfl
theorem e_Routes_follow_3 (x : Int32) : (WP Gm j_Routes_follow 3 (ls) (.inl x :: st) h Q) = (WP Gm j_Routes_follow 5 (lSet1 ls 4 (some (.inl x))) (st) (h) Q) := (WP_at c_Routes_follow_3 _ _ _ _)
theorem c_Routes_follow_5 : mCode j_Routes_follow 5 = oIld 4 7 := rfl
theorem e_Routes_follow_5 (a0 a1 a2 a3 : Option MV) (x : Int32) : (WP Gm j_Routes_follow 5 (a0 :: a1 :: a2 :: a3 :: some (.inl x) :: ls) (st) h Q) = (WP Gm j_Routes_follow 7 (a0 :: a1 :: a2 :: a3 :: some (.inl x) :: ls) (.inl x :: st) (h) Q) := (WP_at c_Routes_follow_5 _ _ _ _)
theorem c_Routes_follow_7 : mCode j_Routes_follow 7 = oI 8 9 := rfl
theorem e_Routes_follow_7  : (WP Gm j_Routes_follow 7 (ls) (st) h Q) = (WP Gm j_Routes_follow 9 (ls) (.inl 8 :: st) (h) Q) := (WP_at c_Routes_follow_7 _ _ _ _)
theorem c_Routes_follow_9 : mCode j_Routes_follow 9 = oIC (fun x y => decide (y < x)) 46 12 := rfl
theorem e_Routes_follow_9 (x y : Int32) : (WP Gm j_Routes_follow 9 (ls) (.inl y :: .inl x :: st) h Q) = (if y < x then WP Gm j_Routes_follow 46 (ls) (st) (h) Q else WP Gm j_Routes_follow 12 (ls) (st) (h) Q) := (WP_at c_Routes_follow_9 _ _ _ _).trans (nd_ic rfl _ _ _ _)
theorem c_Routes_follow_12 : mCode j_Routes_follow 12 = oIld 3 13 := rfl
theorem e_Routes_follow_12 (a0 a1 a2 : Option MV) (x : Int32) : (WP Gm j_Routes_follow 12 (a0 :: a1 :: a2 :: some (.inl x) :: ls) (st) h Q) = (WP Gm j_Routes_follow 13 (a0 :: a1 :: a2 :: some (.inl x) :: ls) (.inl x :: st) (h) Q) := (WP_at c_Routes_follow_12 _ _ _ _)
theorem c_Routes_follow_13 : mCode j_Routes_follow 13 = oIld 2 14 := rfl
theorem e_Routes_follow_13 (a0 a1 : Option MV) (x : Int32) : (WP Gm j_Routes_follow 13 (a0 :: a1 :: some (.inl x) :: ls) (st) h Q) = (WP Gm j_Routes_follow 14 (a0 :: a1 :: some (.inl x) :: ls) (.inl x :: st) (h) Q) := (WP_at c_Routes_follow_13 _ _ _ _)
theorem c_Routes_follow_14 : mCode j_Routes_follow 14 = oIC (fun x y => decide (¬ x = y)) 20 17 := rfl
theorem e_Routes_follow_14 (x y : Int32) : (WP Gm j_Routes_follow 14 (ls) (.inl y :: .inl x :: st) h Q) = (if ¬ x = y then WP Gm j_Routes_follow 20 (ls) (st) (h) Q else WP Gm j_Routes_follow 17 (ls) (st) (h) Q) := (WP_at c_Routes_follow_14 _ _ _ _).trans (nd_ic rfl _ _ _ _)
theorem c_Routes_follow_17 : mCode j_Routes_follow 17 = oIld 4 19 := rfl
theorem e_Routes_follow_17 (a0 a1 a2 a3 : Option MV) (x : Int32) : (WP Gm j_Routes_follow 17 (a0 :: a1 :: a2 :: a3 :: some (.inl x) :: ls) (st) h Q) = (WP Gm j_Routes_follow 19 (a0 :: a1 :: a2 :: a3 :: some (.inl x) :: ls) (.inl x :: st) (h) Q) := (WP_at c_Routes_follow_17 _ _ _ _)
theorem c_Routes_follow_19 : mCode j_Routes_follow 19 = oRetI := rfl
theorem e_Routes_follow_19 (x : Int32) : (WP Gm j_Routes_follow 19 (ls) ([.inl x]) h Q) = (Q (.inl (some (.inl x))) h) := (WP_at c_Routes_follow_19 _ _ _ _)
theorem c_Routes_follow_20 : mCode j_Routes_follow 20 = oAld 0 21 := rfl
theorem e_Routes_follow_20 (x : Option Nat) : (WP Gm j_Routes_follow 20 (some (.inr (.inl x)) :: ls) (st) h Q) = (WP Gm j_Routes_follow 21 (some (.inr (.inl x)) :: ls) (.inr (.inl x) :: st) (h) Q) := (WP_at c_Routes_follow_20 _ _ _ _)
theorem c_Routes_follow_21 : mCode j_Routes_follow 21 = oIld 3 22 := rfl
theorem e_Routes_follow_21 (a0 a1 a2 : Option MV) (x : Int32) : (WP Gm j_Routes_follow 21 (a0 :: a1 :: a2 :: some (.inl x) :: ls) (st) h Q) = (WP Gm j_Routes_follow 22 (a0 :: a1 :: a2 :: some (.inl x) :: ls) (.inl x :: st) (h) Q) := (WP_at c_Routes_follow_21 _ _ _ _)
theorem c_Routes_follow_22 : mCode j_Routes_follow 22 = oIld 2 23 := rfl
theorem e_Routes_follow_22 (a0 a1 : Option MV) (x : Int32) : (WP Gm j_Routes_follow 22 (a0 :: a1 :: some (.inl x) :: ls) (st) h Q) = (WP Gm j_Routes_follow 23 (a0 :: a1 :: some (.inl x) :: ls) (.inl x :: st) (h) Q) := (WP_at c_Routes_follow_22 _ _ _ _)
theorem c_Routes_follow_23 : mCode j_Routes_follow 23 = oCallV kc_Routes j_Routes_nextOf 2 (mL j_Routes_nextOf) 26 := rfl
theorem e_Routes_follow_23 (a : Nat) (x0 : Int32) (x1 : Int32) (hk : isK h a kc_Routes = true) (hc : c8 st = true) : (WP Gm j_Routes_follow 23 (ls) (.inl x1 :: .inl x0 :: .inr (.inl (some a)) :: st) h Q) = (WP Gm j_Routes_nextOf 0 [some (.inr (.inl (some a))), some (.inl x0), some (.inl x1)] [] h (kC (fun v h2 => WP Gm j_Routes_follow 26 ls (v.toList ++ st) h2 Q) (fun E h2 => Q (.inr E) h2))) := (WP_at c_Routes_follow_23 _ _ _ _).trans (congrArg (fun o => ndX Gm (WP Gm) j_Routes_follow 23 o Q) (if_pos (by rw [hk, show decide (catS st ≤ 8) = true from hc]; rfl)))
theorem c_Routes_follow_26 : mCode j_Routes_follow 26 = oIst 3 27 := rfl
theorem e_Routes_follow_26 (x : Int32) : (WP Gm j_Routes_follow 26 (ls) (.inl x :: st) h Q) = (WP Gm j_Routes_follow 27 (lSet1 ls 3 (some (.inl x))) (st) (h) Q) := (WP_at c_Routes_follow_26 _ _ _ _)
theorem c_Routes_follow_27 : mCode j_Routes_follow 27 = oAld 0 28 := rfl
theorem e_Routes_follow_27 (x : Option Nat) : (WP Gm j_Routes_follow 27 (some (.inr (.inl x)) :: ls) (st) h Q) = (WP Gm j_Routes_follow 28 (some (.inr (.inl x)) :: ls) (.inr (.inl x) :: st) (h) Q) := (WP_at c_Routes_follow_27 _ _ _ _)
theorem c_Routes_follow_28 : mCode j_Routes_follow 28 = oGetR kc_Routes 0 31 := rfl
theorem e_Routes_follow_28 (a : Nat) (hk : isK h a kc_Routes = true) : (WP Gm j_Routes_follow 28 (ls) (.inr (.inl (some a)) :: st) h Q) = (WP Gm j_Routes_follow 31 (ls) (.inr (.inl (gR h a 0)) :: st) (h) Q) := (WP_at c_Routes_follow_28 _ _ _ _).trans (congrArg (fun o => ndX Gm (WP Gm) j_Routes_follow 28 o Q) (if_pos hk))
theorem c_Routes_follow_31 : mCode j_Routes_follow 31 = oIld 3 32 := rfl
theorem e_Routes_follow_31 (a0 a1 a2 : Option MV) (x : Int32) : (WP Gm j_Routes_follow 31 (a0 :: a1 :: a2 :: some (.inl x) :: ls) (st) h Q) = (WP Gm j_Routes_follow 32 (a0 :: a1 :: a2 :: some (.inl x) :: ls) (.inl x :: st) (h) Q) := (WP_at c_Routes_follow_31 _ _ _ _)
theorem c_Routes_follow_32 : mCode j_Routes_follow 32 = oCallV kc_Land j_Land_isNode 1 (mL j_Land_isNode) 35 := rfl
theorem e_Routes_follow_32 (a : Nat) (x0 : Int32) (hk : isK h a kc_Land = true) (hc : c8 st = true) : (WP Gm j_Routes_follow 32 (ls) (.inl x0 :: .inr (.inl (some a)) :: st) h Q) = (WP Gm j_Land_isNode 0 [some (.inr (.inl (some a))), some (.inl x0)] [] h (kC (fun v h2 => WP Gm j_Routes_follow 35 ls (v.toList ++ st) h2 Q) (fun E h2 => Q (.inr E) h2))) := (WP_at c_Routes_follow_32 _ _ _ _).trans (congrArg (fun o => ndX Gm (WP Gm) j_Routes_follow 32 o Q) (if_pos (by rw [hk, show decide (catS st ≤ 8) = true from hc]; rfl)))
theorem c_Routes_follow_35 : mCode j_Routes_follow 35 = oIf (fun x => decide (¬ x = 0)) 40 38 := rfl
theorem e_Routes_follow_35 (x : Int32) : (WP Gm j_Routes_follow 35 (ls) (.inl x :: st) h Q) = (if ¬ x = 0 then WP Gm j_Routes_follow 40 (ls) (st) (h) Q else WP Gm j_Routes_follow 38 (ls) (st) (h) Q) := (WP_at c_Routes_follow_35 _ _ _ _).trans (nd_if rfl _ _ _ _)
theorem c_Routes_follow_38 : mCode j_Routes_follow 38 = oI (-1) 39 := rfl
theorem e_Routes_follow_38  : (WP Gm j_Routes_follow 38 (ls) (st) h Q) = (WP Gm j_Routes_follow 39 (ls) (.inl (-1) :: st) (h) Q) := (WP_at c_Routes_follow_38 _ _ _ _)
theorem c_Routes_follow_39 : mCode j_Routes_follow 39 = oRetI := rfl
theorem e_Routes_follow_39 (x : Int32) : (WP Gm j_Routes_follow 39 (ls) ([.inl x]) h Q) = (Q (.inl (some (.inl x))) h) := (WP_at c_Routes_follow_39 _ _ _ _)
theorem c_Routes_follow_40 : mCode j_Routes_follow 40 = oInc 4 1 43 := rfl
theorem e_Routes_follow_40 (a0 a1 a2 a3 : Option MV) (x : Int32) : (WP Gm j_Routes_follow 40 (a0 :: a1 :: a2 :: a3 :: some (.inl x) :: ls) (st) h Q) = (WP Gm j_Routes_follow 43 (lSet1 (a0 :: a1 :: a2 :: a3 :: some (.inl x) :: ls) 4 (some (.inl (x + 1)))) (st) (h) Q) := (WP_at c_Routes_follow_40 _ _ _ _)
theorem c_Routes_follow_43 : mCode j_Routes_follow 43 = oGo 5 := rfl
theorem e_Routes_follow_43  : (WP Gm j_Routes_follow 43 (ls) (st) h Q) = (WP Gm j_Routes_follow 5 (ls) (st) (h) Q) := (WP_at c_Routes_follow_43 _ _ _ _)
theorem c_Routes_follow_46 : mCode j_Routes_follow 46 = oI (-2) 48 := rfl
theorem e_Routes_follow_46  : (WP Gm j_Routes_follow 46 (ls) (st) h Q) = (WP Gm j_Routes_follow 48 (ls) (.inl (-2) :: st) (h) Q) := (WP_at c_Routes_follow_46 _ _ _ _)
theorem c_Routes_follow_48 : mCode j_Routes_follow 48 = oRetI := rfl
theorem e_Routes_follow_48 (x : Int32) : (WP Gm j_Routes_follow 48 (ls) ([.inl x]) h Q) = (Q (.inl (some (.inl x))) h) := (WP_at c_Routes_follow_48 _ _ _ _)
theorem c_Routes_pairsWithRoute_0 : mCode j_Routes_pairsWithRoute 0 = oI 0 1 := rfl
theorem e_Routes_pairsWithRoute_0  : (WP Gm j_Routes_pairsWithRoute 0 (ls) (st) h Q) = (WP Gm j_Routes_pairsWithRoute 1 (ls) (.inl 0 :: st) (h) Q) := (WP_at c_Routes_pairsWithRoute_0 _ _ _ _)
theorem c_Routes_pairsWithRoute_1 : mCode j_Routes_pairsWithRoute 1 = oIst 1 2 := rfl
theorem e_Routes_pairsWithRoute_1 (x : Int32) : (WP Gm j_Routes_pairsWithRoute 1 (ls) (.inl x :: st) h Q) = (WP Gm j_Routes_pairsWithRoute 2 (lSet1 ls 1 (some (.inl x))) (st) (h) Q) := (WP_at c_Routes_pairsWithRoute_1 _ _ _ _)
theorem c_Routes_pairsWithRoute_2 : mCode j_Routes_pairsWithRoute 2 = oI 0 3 := rfl
theorem e_Routes_pairsWithRoute_2  : (WP Gm j_Routes_pairsWithRoute 2 (ls) (st) h Q) = (WP Gm j_Routes_pairsWithRoute 3 (ls) (.inl 0 :: st) (h) Q) := (WP_at c_Routes_pairsWithRoute_2 _ _ _ _)
theorem c_Routes_pairsWithRoute_3 : mCode j_Routes_pairsWithRoute 3 = oIst 2 4 := rfl
theorem e_Routes_pairsWithRoute_3 (x : Int32) : (WP Gm j_Routes_pairsWithRoute 3 (ls) (.inl x :: st) h Q) = (WP Gm j_Routes_pairsWithRoute 4 (lSet1 ls 2 (some (.inl x))) (st) (h) Q) := (WP_at c_Routes_pairsWithRoute_3 _ _ _ _)
theorem c_Routes_pairsWithRoute_4 : mCode j_Routes_pairsWithRoute 4 = oIld 2 5 := rfl
theorem e_Routes_pairsWithRoute_4 (a0 a1 : Option MV) (x : Int32) : (WP Gm j_Routes_pairsWithRoute 4 (a0 :: a1 :: some (.inl x) :: ls) (st) h Q) = (WP Gm j_Routes_pairsWithRoute 5 (a0 :: a1 :: some (.inl x) :: ls) (.inl x :: st) (h) Q) := (WP_at c_Routes_pairsWithRoute_4 _ _ _ _)
theorem c_Routes_pairsWithRoute_5 : mCode j_Routes_pairsWithRoute 5 = oAld 0 6 := rfl
theorem e_Routes_pairsWithRoute_5 (x : Option Nat) : (WP Gm j_Routes_pairsWithRoute 5 (some (.inr (.inl x)) :: ls) (st) h Q) = (WP Gm j_Routes_pairsWithRoute 6 (some (.inr (.inl x)) :: ls) (.inr (.inl x) :: st) (h) Q) := (WP_at c_Routes_pairsWithRoute_5 _ _ _ _)
theorem c_Routes_pairsWithRoute_6 : mCode j_Routes_pairsWithRoute 6 = oGetR kc_Routes 0 9 := rfl
theorem e_Routes_pairsWithRoute_6 (a : Nat) (hk : isK h a kc_Routes = true) : (WP Gm j_Routes_pairsWithRoute 6 (ls) (.inr (.inl (some a)) :: st) h Q) = (WP Gm j_Routes_pairsWithRoute 9 (ls) (.inr (.inl (gR h a 0)) :: st) (h) Q) := (WP_at c_Routes_pairsWithRoute_6 _ _ _ _).trans (congrArg (fun o => ndX Gm (WP Gm) j_Routes_pairsWithRoute 6 o Q) (if_pos hk))
theorem c_Routes_pairsWithRoute_9 : mCode j_Routes_pairsWithRoute 9 = oGetI kc_Land 2 12 := rfl
theorem e_Routes_pairsWithRoute_9 (a : Nat) (hk : isK h a kc_Land = true) : (WP Gm j_Routes_pairsWithRoute 9 (ls) (.inr (.inl (some a)) :: st) h Q) = (WP Gm j_Routes_pairsWithRoute 12 (ls) (.inl (gI h a 2) :: st) (h) Q) := (WP_at c_Routes_pairsWithRoute_9 _ _ _ _).trans (congrArg (fun o => ndX Gm (WP Gm) j_Routes_pairsWithRoute 9 o Q) (if_pos hk))
theorem c_Routes_pairsWithRoute_12 : mCode j_Routes_pairsWithRoute 12 = oIC (fun x y => decide (y ≤ x)) 60 15 := rfl
theorem e_Routes_pairsWithRoute_12 (x y : Int32) : (WP Gm j_Routes_pairsWithRoute 12 (ls) (.inl y :: .inl x :: st) h Q) = (if y ≤ x then WP Gm j_Routes_pairsWithRoute 60 (ls) (st) (h) Q else WP Gm j_Routes_pairsWithRoute 15 (ls) (st) (h) Q) := (WP_at c_Routes_pairsWithRoute_12 _ _ _ _).trans (nd_ic rfl _ _ _ _)
theorem c_Routes_pairsWithRoute_15 : mCode j_Routes_pairsWithRoute 15 = oI 0 16 := rfl
theorem e_Routes_pairsWithRoute_15  : (WP Gm j_Routes_pairsWithRoute 15 (ls) (st) h Q) = (WP Gm j_Routes_pairsWithRoute 16 (ls) (.inl 0 :: st) (h) Q) := (WP_at c_Routes_pairsWithRoute_15 _ _ _ _)
theorem c_Routes_pairsWithRoute_16 : mCode j_Routes_pairsWithRoute 16 = oIst 3 17 := rfl
theorem e_Routes_pairsWithRoute_16 (x : Int32) : (WP Gm j_Routes_pairsWithRoute 16 (ls) (.inl x :: st) h Q) = (WP Gm j_Routes_pairsWithRoute 17 (lSet1 ls 3 (some (.inl x))) (st) (h) Q) := (WP_at c_Routes_pairsWithRoute_16 _ _ _ _)
theorem c_Routes_pairsWithRoute_17 : mCode j_Routes_pairsWithRoute 17 = oIld 3 18 := rfl
theorem e_Routes_pairsWithRoute_17 (a0 a1 a2 : Option MV) (x : Int32) : (WP Gm j_Routes_pairsWithRoute 17 (a0 :: a1 :: a2 :: some (.inl x) :: ls) (st) h Q) = (WP Gm j_Routes_pairsWithRoute 18 (a0 :: a1 :: a2 :: some (.inl x) :: ls) (.inl x :: st) (h) Q) := (WP_at c_Routes_pairsWithRoute_17 _ _ _ _)
theorem c_Routes_pairsWithRoute_18 : mCode j_Routes_pairsWithRoute 18 = oAld 0 19 := rfl
theorem e_Routes_pairsWithRoute_18 (x : Option Nat) : (WP Gm j_Routes_pairsWithRoute 18 (some (.inr (.inl x)) :: ls) (st) h Q) = (WP Gm j_Routes_pairsWithRoute 19 (some (.inr (.inl x)) :: ls) (.inr (.inl x) :: st) (h) Q) := (WP_at c_Routes_pairsWithRoute_18 _ _ _ _)
theorem c_Routes_pairsWithRoute_19 : mCode j_Routes_pairsWithRoute 19 = oGetR kc_Routes 0 22 := rfl
theorem e_Routes_pairsWithRoute_19 (a : Nat) (hk : isK h a kc_Routes = true) : (WP Gm j_Routes_pairsWithRoute 19 (ls) (.inr (.inl (some a)) :: st) h Q) = (WP Gm j_Routes_pairsWithRoute 22 (ls) (.inr (.inl (gR h a 0)) :: st) (h) Q) := (WP_at c_Routes_pairsWithRoute_19 _ _ _ _).trans (congrArg (fun o => ndX Gm (WP Gm) j_Routes_pairsWithRoute 19 o Q) (if_pos hk))
theorem c_Routes_pairsWithRoute_22 : mCode j_Routes_pairsWithRoute 22 = oGetI kc_Land 2 25 := rfl
theorem e_Routes_pairsWithRoute_22 (a : Nat) (hk : isK h a kc_Land = true) : (WP Gm j_Routes_pairsWithRoute 22 (ls) (.inr (.inl (some a)) :: st) h Q) = (WP Gm j_Routes_pairsWithRoute 25 (ls) (.inl (gI h a 2) :: st) (h) Q) := (WP_at c_Routes_pairsWithRoute_22 _ _ _ _).trans (congrArg (fun o => ndX Gm (WP Gm) j_Routes_pairsWithRoute 22 o Q) (if_pos hk))
theorem c_Routes_pairsWithRoute_25 : mCode j_Routes_pairsWithRoute 25 = oIC (fun x y => decide (y ≤ x)) 54 28 := rfl
theorem e_Routes_pairsWithRoute_25 (x y : Int32) : (WP Gm j_Routes_pairsWithRoute 25 (ls) (.inl y :: .inl x :: st) h Q) = (if y ≤ x then WP Gm j_Routes_pairsWithRoute 54 (ls) (st) (h) Q else WP Gm j_Routes_pairsWithRoute 28 (ls) (st) (h) Q) := (WP_at c_Routes_pairsWithRoute_25 _ _ _ _).trans (nd_ic rfl _ _ _ _)
theorem c_Routes_pairsWithRoute_28 : mCode j_Routes_pairsWithRoute 28 = oIld 2 29 := rfl
theorem e_Routes_pairsWithRoute_28 (a0 a1 : Option MV) (x : Int32) : (WP Gm j_Routes_pairsWithRoute 28 (a0 :: a1 :: some (.inl x) :: ls) (st) h Q) = (WP Gm j_Routes_pairsWithRoute 29 (a0 :: a1 :: some (.inl x) :: ls) (.inl x :: st) (h) Q) := (WP_at c_Routes_pairsWithRoute_28 _ _ _ _)
theorem c_Routes_pairsWithRoute_29 : mCode j_Routes_pairsWithRoute 29 = oIld 3 30 := rfl
theorem e_Routes_pairsWithRoute_29 (a0 a1 a2 : Option MV) (x : Int32) : (WP Gm j_Routes_pairsWithRoute 29 (a0 :: a1 :: a2 :: some (.inl x) :: ls) (st) h Q) = (WP Gm j_Routes_pairsWithRoute 30 (a0 :: a1 :: a2 :: some (.inl x) :: ls) (.inl x :: st) (h) Q) := (WP_at c_Routes_pairsWithRoute_29 _ _ _ _)
theorem c_Routes_pairsWithRoute_30 : mCode j_Routes_pairsWithRoute 30 = oIC (fun x y => decide (x = y)) 48 33 := rfl
theorem e_Routes_pairsWithRoute_30 (x y : Int32) : (WP Gm j_Routes_pairsWithRoute 30 (ls) (.inl y :: .inl x :: st) h Q) = (if x = y then WP Gm j_Routes_pairsWithRoute 48 (ls) (st) (h) Q else WP Gm j_Routes_pairsWithRoute 33 (ls) (st) (h) Q) := (WP_at c_Routes_pairsWithRoute_30 _ _ _ _).trans (nd_ic rfl _ _ _ _)
theorem c_Routes_pairsWithRoute_33 : mCode j_Routes_pairsWithRoute 33 = oAld 0 34 := rfl
theorem e_Routes_pairsWithRoute_33 (x : Option Nat) : (WP Gm j_Routes_pairsWithRoute 33 (some (.inr (.inl x)) :: ls) (st) h Q) = (WP Gm j_Routes_pairsWithRoute 34 (some (.inr (.inl x)) :: ls) (.inr (.inl x) :: st) (h) Q) := (WP_at c_Routes_pairsWithRoute_33 _ _ _ _)
theorem c_Routes_pairsWithRoute_34 : mCode j_Routes_pairsWithRoute 34 = oGetR kc_Routes 2 37 := rfl
theorem e_Routes_pairsWithRoute_34 (a : Nat) (hk : isK h a kc_Routes = true) : (WP Gm j_Routes_pairsWithRoute 34 (ls) (.inr (.inl (some a)) :: st) h Q) = (WP Gm j_Routes_pairsWithRoute 37 (ls) (.inr (.inl (gR h a 2)) :: st) (h) Q) := (WP_at c_Routes_pairsWithRoute_34 _ _ _ _).trans (congrArg (fun o => ndX Gm (WP Gm) j_Routes_pairsWithRoute 34 o Q) (if_pos hk))
theorem c_Routes_pairsWithRoute_37 : mCode j_Routes_pairsWithRoute 37 = oIld 2 38 := rfl
theorem e_Routes_pairsWithRoute_37 (a0 a1 : Option MV) (x : Int32) : (WP Gm j_Routes_pairsWithRoute 37 (a0 :: a1 :: some (.inl x) :: ls) (st) h Q) = (WP Gm j_Routes_pairsWithRoute 38 (a0 :: a1 :: some (.inl x) :: ls) (.inl x :: st) (h) Q) := (WP_at c_Routes_pairsWithRoute_37 _ _ _ _)
theorem c_Routes_pairsWithRoute_38 : mCode j_Routes_pairsWithRoute 38 = oAal 4 39 := rfl
theorem e_Routes_pairsWithRoute_38 (a : Nat) (i : Int32) (hk : isK h a 104 = true) (hi : inL h a i = true) : (WP Gm j_Routes_pairsWithRoute 38 (ls) (.inl i :: .inr (.inl (some a)) :: st) h Q) = (WP Gm j_Routes_pairsWithRoute 39 (ls) (.inr (.inl (gR h a i.toNatClampNeg)) :: st) (h) Q) := (WP_at c_Routes_pairsWithRoute_38 _ _ _ _).trans (congrArg (fun o => ndX Gm (WP Gm) j_Routes_pairsWithRoute 38 o Q) (if_pos (by rw [hk, hi]; rfl)))
theorem c_Routes_pairsWithRoute_39 : mCode j_Routes_pairsWithRoute 39 = oIld 3 40 := rfl
theorem e_Routes_pairsWithRoute_39 (a0 a1 a2 : Option MV) (x : Int32) : (WP Gm j_Routes_pairsWithRoute 39 (a0 :: a1 :: a2 :: some (.inl x) :: ls) (st) h Q) = (WP Gm j_Routes_pairsWithRoute 40 (a0 :: a1 :: a2 :: some (.inl x) :: ls) (.inl x :: st) (h) Q) := (WP_at c_Routes_pairsWithRoute_39 _ _ _ _)
theorem c_Routes_pairsWithRoute_40 : mCode j_Routes_pairsWithRoute 40 = oIal 0 41 := rfl
theorem e_Routes_pairsWithRoute_40 (a : Nat) (i : Int32) (hk : isK h a 100 = true) (hi : inL h a i = true) : (WP Gm j_Routes_pairsWithRoute 40 (ls) (.inl i :: .inr (.inl (some a)) :: st) h Q) = (WP Gm j_Routes_pairsWithRoute 41 (ls) (.inl (gI h a i.toNatClampNeg) :: st) (h) Q) := (WP_at c_Routes_pairsWithRoute_40 _ _ _ _).trans (congrArg (fun o => ndX Gm (WP Gm) j_Routes_pairsWithRoute 40 o Q) (if_pos (by rw [hk, hi]; rfl)))
theorem c_Routes_pairsWithRoute_41 : mCode j_Routes_pairsWithRoute 41 = oI (-1) 42 := rfl
theorem e_Routes_pairsWithRoute_41  : (WP Gm j_Routes_pairsWithRoute 41 (ls) (st) h Q) = (WP Gm j_Routes_pairsWithRoute 42 (ls) (.inl (-1) :: st) (h) Q) := (WP_at c_Routes_pairsWithRoute_41 _ _ _ _)
theorem c_Routes_pairsWithRoute_42 : mCode j_Routes_pairsWithRoute 42 = oIC (fun x y => decide (x = y)) 48 45 := rfl
theorem e_Routes_pairsWithRoute_42 (x y : Int32) : (WP Gm j_Routes_pairsWithRoute 42 (ls) (.inl y :: .inl x :: st) h Q) = (if x = y then WP Gm j_Routes_pairsWithRoute 48 (ls) (st) (h) Q else WP Gm j_Routes_pairsWithRoute 45 (ls) (st) (h) Q) := (WP_at c_Routes_pairsWithRoute_42 _ _ _ _).trans (nd_ic rfl _ _ _ _)
theorem c_Routes_pairsWithRoute_45 : mCode j_Routes_pairsWithRoute 45 = oInc 1 1 48 := rfl
theorem e_Routes_pairsWithRoute_45 (a0 : Option MV) (x : Int32) : (WP Gm j_Routes_pairsWithRoute 45 (a0 :: some (.inl x) :: ls) (st) h Q) = (WP Gm j_Routes_pairsWithRoute 48 (lSet1 (a0 :: some (.inl x) :: ls) 1 (some (.inl (x + 1)))) (st) (h) Q) := (WP_at c_Routes_pairsWithRoute_45 _ _ _ _)
theorem c_Routes_pairsWithRoute_48 : mCode j_Routes_pairsWithRoute 48 = oInc 3 1 51 := rfl
theorem e_Routes_pairsWithRoute_48 (a0 a1 a2 : Option MV) (x : Int32) : (WP Gm j_Routes_pairsWithRoute 48 (a0 :: a1 :: a2 :: some (.inl x) :: ls) (st) h Q) = (WP Gm j_Routes_pairsWithRoute 51 (lSet1 (a0 :: a1 :: a2 :: some (.inl x) :: ls) 3 (some (.inl (x + 1)))) (st) (h) Q) := (WP_at c_Routes_pairsWithRoute_48 _ _ _ _)
theorem c_Routes_pairsWithRoute_51 : mCode j_Routes_pairsWithRoute 51 = oGo 17 := rfl
theorem e_Routes_pairsWithRoute_51  : (WP Gm j_Routes_pairsWithRoute 51 (ls) (st) h Q) = (WP Gm j_Routes_pairsWithRoute 17 (ls) (st) (h) Q) := (WP_at c_Routes_pairsWithRoute_51 _ _ _ _)
theorem c_Routes_pairsWithRoute_54 : mCode j_Routes_pairsWithRoute 54 = oInc 2 1 57 := rfl
theorem e_Routes_pairsWithRoute_54 (a0 a1 : Option MV) (x : Int32) : (WP Gm j_Routes_pairsWithRoute 54 (a0 :: a1 :: some (.inl x) :: ls) (st) h Q) = (WP Gm j_Routes_pairsWithRoute 57 (lSet1 (a0 :: a1 :: some (.inl x) :: ls) 2 (some (.inl (x + 1)))) (st) (h) Q) := (WP_at c_Routes_pairsWithRoute_54 _ _ _ _)
theorem c_Routes_pairsWithRoute_57 : mCode j_Routes_pairsWithRoute 57 = oGo 4 := rfl
theorem e_Routes_pairsWithRoute_57  : (WP Gm j_Routes_pairsWithRoute 57 (ls) (st) h Q) = (WP Gm j_Routes_pairsWithRoute 4 (ls) (st) (h) Q) := (WP_at c_Routes_pairsWithRoute_57 _ _ _ _)
theorem c_Routes_pairsWithRoute_60 : mCode j_Routes_pairsWithRoute 60 = oIld 1 61 := rfl
theorem e_Routes_pairsWithRoute_60 (a0 : Option MV) (x : Int32) : (WP Gm j_Routes_pairsWithRoute 60 (a0 :: some (.inl x) :: ls) (st) h Q) = (WP Gm j_Routes_pairsWithRoute 61 (a0 :: some (.inl x) :: ls) (.inl x :: st) (h) Q) := (WP_at c_Routes_pairsWithRoute_60 _ _ _ _)
theorem c_Routes_pairsWithRoute_61 : mCode j_Routes_pairsWithRoute 61 = oRetI := rfl
theorem e_Routes_pairsWithRoute_61 (x : Int32) : (WP Gm j_Routes_pairsWithRoute 61 (ls) ([.inl x]) h Q) = (Q (.inl (some (.inl x))) h) := (WP_at c_Routes_pairsWithRoute_61 _ _ _ _)
theorem c_Routes_pairsWithCircle_0 : mCode j_Routes_pairsWithCircle 0 = oI 0 1 := rfl
theorem e_Routes_pairsWithCircle_0  : (WP Gm j_Routes_pairsWithCircle 0 (ls) (st) h Q) = (WP Gm j_Routes_pairsWithCircle 1 (ls) (.inl 0 :: st) (h) Q) := (WP_at c_Routes_pairsWithCircle_0 _ _ _ _)
theorem c_Routes_pairsWithCircle_1 : mCode j_Routes_pairsWithCircle 1 = oIst 1 2 := rfl
theorem e_Routes_pairsWithCircle_1 (x : Int32) : (WP Gm j_Routes_pairsWithCircle 1 (ls) (.inl x :: st) h Q) = (WP Gm j_Routes_pairsWithCircle 2 (lSet1 ls 1 (some (.inl x))) (st) (h) Q) := (WP_at c_Routes_pairsWithCircle_1 _ _ _ _)
theorem c_Routes_pairsWithCircle_2 : mCode j_Routes_pairsWithCircle 2 = oI 0 3 := rfl
theorem e_Routes_pairsWithCircle_2  : (WP Gm j_Routes_pairsWithCircle 2 (ls) (st) h Q) = (WP Gm j_Routes_pairsWithCircle 3 (ls) (.inl 0 :: st) (h) Q) := (WP_at c_Routes_pairsWithCircle_2 _ _ _ _)
theorem c_Routes_pairsWithCircle_3 : mCode j_Routes_pairsWithCircle 3 = oIst 2 4 := rfl
theorem e_Routes_pairsWithCircle_3 (x : Int32) : (WP Gm j_Routes_pairsWithCircle 3 (ls) (.inl x :: st) h Q) = (WP Gm j_Routes_pairsWithCircle 4 (lSet1 ls 2 (some (.inl x))) (st) (h) Q) := (WP_at c_Routes_pairsWithCircle_3 _ _ _ _)
theorem c_Routes_pairsWithCircle_4 : mCode j_Routes_pairsWithCircle 4 = oIld 2 5 := rfl
theorem e_Routes_pairsWithCircle_4 (a0 a1 : Option MV) (x : Int32) : (WP Gm j_Routes_pairsWithCircle 4 (a0 :: a1 :: some (.inl x) :: ls) (st) h Q) = (WP Gm j_Routes_pairsWithCircle 5 (a0 :: a1 :: some (.inl x) :: ls) (.inl x :: st) (h) Q) := (WP_at c_Routes_pairsWithCircle_4 _ _ _ _)
theorem c_Routes_pairsWithCircle_5 : mCode j_Routes_pairsWithCircle 5 = oAld 0 6 := rfl
theorem e_Routes_pairsWithCircle_5 (x : Option Nat) : (WP Gm j_Routes_pairsWithCircle 5 (some (.inr (.inl x)) :: ls) (st) h Q) = (WP Gm j_Routes_pairsWithCircle 6 (some (.inr (.inl x)) :: ls) (.inr (.inl x) :: st) (h) Q) := (WP_at c_Routes_pairsWithCircle_5 _ _ _ _)
theorem c_Routes_pairsWithCircle_6 : mCode j_Routes_pairsWithCircle 6 = oGetR kc_Routes 0 9 := rfl
theorem e_Routes_pairsWithCircle_6 (a : Nat) (hk : isK h a kc_Routes = true) : (WP Gm j_Routes_pairsWithCircle 6 (ls) (.inr (.inl (some a)) :: st) h Q) = (WP Gm j_Routes_pairsWithCircle 9 (ls) (.inr (.inl (gR h a 0)) :: st) (h) Q) := (WP_at c_Routes_pairsWithCircle_6 _ _ _ _).trans (congrArg (fun o => ndX Gm (WP Gm) j_Routes_pairsWithCircle 6 o Q) (if_pos hk))
theorem c_Routes_pairsWithCircle_9 : mCode j_Routes_pairsWithCircle 9 = oGetI kc_Land 2 12 := rfl
theorem e_Routes_pairsWithCircle_9 (a : Nat) (hk : isK h a kc_Land = true) : (WP Gm j_Routes_pairsWithCircle 9 (ls) (.inr (.inl (some a)) :: st) h Q) = (WP Gm j_Routes_pairsWithCircle 12 (ls) (.inl (gI h a 2) :: st) (h) Q) := (WP_at c_Routes_pairsWithCircle_9 _ _ _ _).trans (congrArg (fun o => ndX Gm (WP Gm) j_Routes_pairsWithCircle 9 o Q) (if_pos hk))
theorem c_Routes_pairsWithCircle_12 : mCode j_Routes_pairsWithCircle 12 = oIC (fun x y => decide (y ≤ x)) 57 15 := rfl
theorem e_Routes_pairsWithCircle_12 (x y : Int32) : (WP Gm j_Routes_pairsWithCircle 12 (ls) (.inl y :: .inl x :: st) h Q) = (if y ≤ x then WP Gm j_Routes_pairsWithCircle 57 (ls) (st) (h) Q else WP Gm j_Routes_pairsWithCircle 15 (ls) (st) (h) Q) := (WP_at c_Routes_pairsWithCircle_12 _ _ _ _).trans (nd_ic rfl _ _ _ _)
theorem c_Routes_pairsWithCircle_15 : mCode j_Routes_pairsWithCircle 15 = oI 0 16 := rfl
theorem e_Routes_pairsWithCircle_15  : (WP Gm j_Routes_pairsWithCircle 15 (ls) (st) h Q) = (WP Gm j_Routes_pairsWithCircle 16 (ls) (.inl 0 :: st) (h) Q) := (WP_at c_Routes_pairsWithCircle_15 _ _ _ _)
theorem c_Routes_pairsWithCircle_16 : mCode j_Routes_pairsWithCircle 16 = oIst 3 17 := rfl
theorem e_Routes_pairsWithCircle_16 (x : Int32) : (WP Gm j_Routes_pairsWithCircle 16 (ls) (.inl x :: st) h Q) = (WP Gm j_Routes_pairsWithCircle 17 (lSet1 ls 3 (some (.inl x))) (st) (h) Q) := (WP_at c_Routes_pairsWithCircle_16 _ _ _ _)
theorem c_Routes_pairsWithCircle_17 : mCode j_Routes_pairsWithCircle 17 = oIld 3 18 := rfl
theorem e_Routes_pairsWithCircle_17 (a0 a1 a2 : Option MV) (x : Int32) : (WP Gm j_Routes_pairsWithCircle 17 (a0 :: a1 :: a2 :: some (.inl x) :: ls) (st) h Q) = (WP Gm j_Routes_pairsWithCircle 18 (a0 :: a1 :: a2 :: some (.inl x) :: ls) (.inl x :: st) (h) Q) := (WP_at c_Routes_pairsWithCircle_17 _ _ _ _)
theorem c_Routes_pairsWithCircle_18 : mCode j_Routes_pairsWithCircle 18 = oAld 0 19 := rfl
theorem e_Routes_pairsWithCircle_18 (x : Option Nat) : (WP Gm j_Routes_pairsWithCircle 18 (some (.inr (.inl x)) :: ls) (st) h Q) = (WP Gm j_Routes_pairsWithCircle 19 (some (.inr (.inl x)) :: ls) (.inr (.inl x) :: st) (h) Q) := (WP_at c_Routes_pairsWithCircle_18 _ _ _ _)
theorem c_Routes_pairsWithCircle_19 : mCode j_Routes_pairsWithCircle 19 = oGetR kc_Routes 0 22 := rfl
theorem e_Routes_pairsWithCircle_19 (a : Nat) (hk : isK h a kc_Routes = true) : (WP Gm j_Routes_pairsWithCircle 19 (ls) (.inr (.inl (some a)) :: st) h Q) = (WP Gm j_Routes_pairsWithCircle 22 (ls) (.inr (.inl (gR h a 0)) :: st) (h) Q) := (WP_at c_Routes_pairsWithCircle_19 _ _ _ _).trans (congrArg (fun o => ndX Gm (WP Gm) j_Routes_pairsWithCircle 19 o Q) (if_pos hk))
theorem c_Routes_pairsWithCircle_22 : mCode j_Routes_pairsWithCircle 22 = oGetI kc_Land 2 25 := rfl
theorem e_Routes_pairsWithCircle_22 (a : Nat) (hk : isK h a kc_Land = true) : (WP Gm j_Routes_pairsWithCircle 22 (ls) (.inr (.inl (some a)) :: st) h Q) = (WP Gm j_Routes_pairsWithCircle 25 (ls) (.inl (gI h a 2) :: st) (h) Q) := (WP_at c_Routes_pairsWithCircle_22 _ _ _ _).trans (congrArg (fun o => ndX Gm (WP Gm) j_Routes_pairsWithCircle 22 o Q) (if_pos hk))
theorem c_Routes_pairsWithCircle_25 : mCode j_Routes_pairsWithCircle 25 = oIC (fun x y => decide (y ≤ x)) 51 28 := rfl
theorem e_Routes_pairsWithCircle_25 (x y : Int32) : (WP Gm j_Routes_pairsWithCircle 25 (ls) (.inl y :: .inl x :: st) h Q) = (if y ≤ x then WP Gm j_Routes_pairsWithCircle 51 (ls) (st) (h) Q else WP Gm j_Routes_pairsWithCircle 28 (ls) (st) (h) Q) := (WP_at c_Routes_pairsWithCircle_25 _ _ _ _).trans (nd_ic rfl _ _ _ _)
theorem c_Routes_pairsWithCircle_28 : mCode j_Routes_pairsWithCircle 28 = oIld 2 29 := rfl
theorem e_Routes_pairsWithCircle_28 (a0 a1 : Option MV) (x : Int32) : (WP Gm j_Routes_pairsWithCircle 28 (a0 :: a1 :: some (.inl x) :: ls) (st) h Q) = (WP Gm j_Routes_pairsWithCircle 29 (a0 :: a1 :: some (.inl x) :: ls) (.inl x :: st) (h) Q) := (WP_at c_Routes_pairsWithCircle_28 _ _ _ _)
theorem c_Routes_pairsWithCircle_29 : mCode j_Routes_pairsWithCircle 29 = oIld 3 30 := rfl
theorem e_Routes_pairsWithCircle_29 (a0 a1 a2 : Option MV) (x : Int32) : (WP Gm j_Routes_pairsWithCircle 29 (a0 :: a1 :: a2 :: some (.inl x) :: ls) (st) h Q) = (WP Gm j_Routes_pairsWithCircle 30 (a0 :: a1 :: a2 :: some (.inl x) :: ls) (.inl x :: st) (h) Q) := (WP_at c_Routes_pairsWithCircle_29 _ _ _ _)
theorem c_Routes_pairsWithCircle_30 : mCode j_Routes_pairsWithCircle 30 = oIC (fun x y => decide (x = y)) 45 33 := rfl
theorem e_Routes_pairsWithCircle_30 (x y : Int32) : (WP Gm j_Routes_pairsWithCircle 30 (ls) (.inl y :: .inl x :: st) h Q) = (if x = y then WP Gm j_Routes_pairsWithCircle 45 (ls) (st) (h) Q else WP Gm j_Routes_pairsWithCircle 33 (ls) (st) (h) Q) := (WP_at c_Routes_pairsWithCircle_30 _ _ _ _).trans (nd_ic rfl _ _ _ _)
theorem c_Routes_pairsWithCircle_33 : mCode j_Routes_pairsWithCircle 33 = oAld 0 34 := rfl
theorem e_Routes_pairsWithCircle_33 (x : Option Nat) : (WP Gm j_Routes_pairsWithCircle 33 (some (.inr (.inl x)) :: ls) (st) h Q) = (WP Gm j_Routes_pairsWithCircle 34 (some (.inr (.inl x)) :: ls) (.inr (.inl x) :: st) (h) Q) := (WP_at c_Routes_pairsWithCircle_33 _ _ _ _)
theorem c_Routes_pairsWithCircle_34 : mCode j_Routes_pairsWithCircle 34 = oIld 2 35 := rfl
theorem e_Routes_pairsWithCircle_34 (a0 a1 : Option MV) (x : Int32) : (WP Gm j_Routes_pairsWithCircle 34 (a0 :: a1 :: some (.inl x) :: ls) (st) h Q) = (WP Gm j_Routes_pairsWithCircle 35 (a0 :: a1 :: some (.inl x) :: ls) (.inl x :: st) (h) Q) := (WP_at c_Routes_pairsWithCircle_34 _ _ _ _)
theorem c_Routes_pairsWithCircle_35 : mCode j_Routes_pairsWithCircle 35 = oIld 3 36 := rfl
theorem e_Routes_pairsWithCircle_35 (a0 a1 a2 : Option MV) (x : Int32) : (WP Gm j_Routes_pairsWithCircle 35 (a0 :: a1 :: a2 :: some (.inl x) :: ls) (st) h Q) = (WP Gm j_Routes_pairsWithCircle 36 (a0 :: a1 :: a2 :: some (.inl x) :: ls) (.inl x :: st) (h) Q) := (WP_at c_Routes_pairsWithCircle_35 _ _ _ _)
theorem c_Routes_pairsWithCircle_36 : mCode j_Routes_pairsWithCircle 36 = oCallV kc_Routes j_Routes_hasCircle 2 (mL j_Routes_hasCircle) 39 := rfl
theorem e_Routes_pairsWithCircle_36 (a : Nat) (x0 : Int32) (x1 : Int32) (hk : isK h a kc_Routes = true) (hc : c8 st = true) : (WP Gm j_Routes_pairsWithCircle 36 (ls) (.inl x1 :: .inl x0 :: .inr (.inl (some a)) :: st) h Q) = (WP Gm j_Routes_hasCircle 0 [some (.inr (.inl (some a))), some (.inl x0), some (.inl x1)] [] h (kC (fun v h2 => WP Gm j_Routes_pairsWithCircle 39 ls (v.toList ++ st) h2 Q) (fun E h2 => Q (.inr E) h2))) := (WP_at c_Routes_pairsWithCircle_36 _ _ _ _).trans (congrArg (fun o => ndX Gm (WP Gm) j_Routes_pairsWithCircle 36 o Q) (if_pos (by rw [hk, show decide (catS st ≤ 8) = true from hc]; rfl)))
theorem c_Routes_pairsWithCircle_39 : mCode j_Routes_pairsWithCircle 39 = oIf (fun x => decide (x = 0)) 45 42 := rfl
theorem e_Routes_pairsWithCircle_39 (x : Int32) : (WP Gm j_Routes_pairsWithCircle 39 (ls) (.inl x :: st) h Q) = (if x = 0 then WP Gm j_Routes_pairsWithCircle 45 (ls) (st) (h) Q else WP Gm j_Routes_pairsWithCircle 42 (ls) (st) (h) Q) := (WP_at c_Routes_pairsWithCircle_39 _ _ _ _).trans (nd_if rfl _ _ _ _)
theorem c_Routes_pairsWithCircle_42 : mCode j_Routes_pairsWithCircle 42 = oInc 1 1 45 := rfl
theorem e_Routes_pairsWithCircle_42 (a0 : Option MV) (x : Int32) : (WP Gm j_Routes_pairsWithCircle 42 (a0 :: some (.inl x) :: ls) (st) h Q) = (WP Gm j_Routes_pairsWithCircle 45 (lSet1 (a0 :: some (.inl x) :: ls) 1 (some (.inl (x + 1)))) (st) (h) Q) := (WP_at c_Routes_pairsWithCircle_42 _ _ _ _)
theorem c_Routes_pairsWithCircle_45 : mCode j_Routes_pairsWithCircle 45 = oInc 3 1 48 := rfl
theorem e_Routes_pairsWithCircle_45 (a0 a1 a2 : Option MV) (x : Int32) : (WP Gm j_Routes_pairsWithCircle 45 (a0 :: a1 :: a2 :: some (.inl x) :: ls) (st) h Q) = (WP Gm j_Routes_pairsWithCircle 48 (lSet1 (a0 :: a1 :: a2 :: some (.inl x) :: ls) 3 (some (.inl (x + 1)))) (st) (h) Q) := (WP_at c_Routes_pairsWithCircle_45 _ _ _ _)
theorem c_Routes_pairsWithCircle_48 : mCode j_Routes_pairsWithCircle 48 = oGo 17 := rfl
theorem e_Routes_pairsWithCircle_48  : (WP Gm j_Routes_pairsWithCircle 48 (ls) (st) h Q) = (WP Gm j_Routes_pairsWithCircle 17 (ls) (st) (h) Q) := (WP_at c_Routes_pairsWithCircle_48 _ _ _ _)
theorem c_Routes_pairsWithCircle_51 : mCode j_Routes_pairsWithCircle 51 = oInc 2 1 54 := rfl
theorem e_Routes_pairsWithCircle_51 (a0 a1 : Option MV) (x : Int32) : (WP Gm j_Routes_pairsWithCircle 51 (a0 :: a1 :: some (.inl x) :: ls) (st) h Q) = (WP Gm j_Routes_pairsWithCircle 54 (lSet1 (a0 :: a1 :: some (.inl x) :: ls) 2 (some (.inl (x + 1)))) (st) (h) Q) := (WP_at c_Routes_pairsWithCircle_51 _ _ _ _)
theorem c_Routes_pairsWithCircle_54 : mCode j_Routes_pairsWithCircle 54 = oGo 4 := rfl
theorem e_Routes_pairsWithCircle_54  : (WP Gm j_Routes_pairsWithCircle 54 (ls) (st) h Q) = (WP Gm j_Routes_pairsWithCircle 4 (ls) (st) (h) Q) := (WP_at c_Routes_pairsWithCircle_54 _ _ _ _)
theorem c_Routes_pairsWithCircle_57 : mCode j_Routes_pairsWithCircle 57 = oIld 1 58 := rfl
theorem e_Routes_pairsWithCircle_57 (a0 : Option MV) (x : Int32) : (WP Gm j_Routes_pairsWithCircle 57 (a0 :: some (.inl x) :: ls) (st) h Q) = (WP Gm j_Routes_pairsWithCircle 58 (a0 :: some (.inl x) :: ls) (.inl x :: st) (h) Q) := (WP_at c_Routes_pairsWithCircle_57 _ _ _ _)
theorem c_Routes_pairsWithCircle_58 : mCode j_Routes_pairsWithCircle 58 = oRetI := rfl
theorem e_Routes_pairsWithCircle_58 (x : Int32) : (WP Gm j_Routes_pairsWithCircle 58 (ls) ([.inl x]) h Q) = (Q (.inl (some (.inl x))) h) := (WP_at c_Routes_pairsWithCircle_58 _ _ _ _)
theorem c_Routes_areInOrder_0 : mCode j_Routes_areInOrder 0 = oI 0 1 := rfl
theorem e_Routes_areInOrder_0  : (WP Gm j_Routes_areInOrder 0 (ls) (st) h Q) = (WP Gm j_Routes_areInOrder 1 (ls) (.inl 0 :: st) (h) Q) := (WP_at c_Routes_areInOrder_0 _ _ _ _)
theorem c_Routes_areInOrder_1 : mCode j_Routes_areInOrder 1 = oIst 2 2 := rfl
theorem e_Routes_areInOrder_1 (x : Int32) : (WP Gm j_Routes_areInOrder 1 (ls) (.inl x :: st) h Q) = (WP Gm j_Routes_areInOrder 2 (lSet1 ls 2 (some (.inl x))) (st) (h) Q) := (WP_at c_Routes_areInOrder_1 _ _ _ _)
theorem c_Routes_areInOrder_2 : mCode j_Routes_areInOrder 2 = oIld 2 3 := rfl
theorem e_Routes_areInOrder_2 (a0 a1 : Option MV) (x : Int32) : (WP Gm j_Routes_areInOrder 2 (a0 :: a1 :: some (.inl x) :: ls) (st) h Q) = (WP Gm j_Routes_areInOrder 3 (a0 :: a1 :: some (.inl x) :: ls) (.inl x :: st) (h) Q) := (WP_at c_Routes_areInOrder_2 _ _ _ _)
theorem c_Routes_areInOrder_3 : mCode j_Routes_areInOrder 3 = oAld 0 4 := rfl
theorem e_Routes_areInOrder_3 (x : Option Nat) : (WP Gm j_Routes_areInOrder 3 (some (.inr (.inl x)) :: ls) (st) h Q) = (WP Gm j_Routes_areInOrder 4 (some (.inr (.inl x)) :: ls) (.inr (.inl x) :: st) (h) Q) := (WP_at c_Routes_areInOrder_3 _ _ _ _)
theorem c_Routes_areInOrder_4 : mCode j_Routes_areInOrder 4 = oGetR kc_Routes 0 7 := rfl
theorem e_Routes_areInOrder_4 (a : Nat) (hk : isK h a kc_Routes = true) : (WP Gm j_Routes_areInOrder 4 (ls) (.inr (.inl (some a)) :: st) h Q) = (WP Gm j_Routes_areInOrder 7 (ls) (.inr (.inl (gR h a 0)) :: st) (h) Q) := (WP_at c_Routes_areInOrder_4 _ _ _ _).trans (congrArg (fun o => ndX Gm (WP Gm) j_Routes_areInOrder 4 o Q) (if_pos hk))
theorem c_Routes_areInOrder_7 : mCode j_Routes_areInOrder 7 = oGetI kc_Land 2 10 := rfl
theorem e_Routes_areInOrder_7 (a : Nat) (hk : isK h a kc_Land = true) : (WP Gm j_Routes_areInOrder 7 (ls) (.inr (.inl (some a)) :: st) h Q) = (WP Gm j_Routes_areInOrder 10 (ls) (.inl (gI h a 2) :: st) (h) Q) := (WP_at c_Routes_areInOrder_7 _ _ _ _).trans (congrArg (fun o => ndX Gm (WP Gm) j_Routes_areInOrder 7 o Q) (if_pos hk))
theorem c_Routes_areInOrder_10 : mCode j_Routes_areInOrder 10 = oIC (fun x y => decide (y ≤ x)) 71 13 := rfl
theorem e_Routes_areInOrder_10 (x y : Int32) : (WP Gm j_Routes_areInOrder 10 (ls) (.inl y :: .inl x :: st) h Q) = (if y ≤ x then WP Gm j_Routes_areInOrder 71 (ls) (st) (h) Q else WP Gm j_Routes_areInOrder 13 (ls) (st) (h) Q) := (WP_at c_Routes_areInOrder_10 _ _ _ _).trans (nd_ic rfl _ _ _ _)
theorem c_Routes_areInOrder_13 : mCode j_Routes_areInOrder 13 = oAld 0 14 := rfl
theorem e_Routes_areInOrder_13 (x : Option Nat) : (WP Gm j_Routes_areInOrder 13 (some (.inr (.inl x)) :: ls) (st) h Q) = (WP Gm j_Routes_areInOrder 14 (some (.inr (.inl x)) :: ls) (.inr (.inl x) :: st) (h) Q) := (WP_at c_Routes_areInOrder_13 _ _ _ _)
theorem c_Routes_areInOrder_14 : mCode j_Routes_areInOrder 14 = oGetR kc_Routes 2 17 := rfl
theorem e_Routes_areInOrder_14 (a : Nat) (hk : isK h a kc_Routes = true) : (WP Gm j_Routes_areInOrder 14 (ls) (.inr (.inl (some a)) :: st) h Q) = (WP Gm j_Routes_areInOrder 17 (ls) (.inr (.inl (gR h a 2)) :: st) (h) Q) := (WP_at c_Routes_areInOrder_14 _ _ _ _).trans (congrArg (fun o => ndX Gm (WP Gm) j_Routes_areInOrder 14 o Q) (if_pos hk))
theorem c_Routes_areInOrder_17 : mCode j_Routes_areInOrder 17 = oIld 1 18 := rfl
theorem e_Routes_areInOrder_17 (a0 : Option MV) (x : Int32) : (WP Gm j_Routes_areInOrder 17 (a0 :: some (.inl x) :: ls) (st) h Q) = (WP Gm j_Routes_areInOrder 18 (a0 :: some (.inl x) :: ls) (.inl x :: st) (h) Q) := (WP_at c_Routes_areInOrder_17 _ _ _ _)
theorem c_Routes_areInOrder_18 : mCode j_Routes_areInOrder 18 = oAal 4 19 := rfl
theorem e_Routes_areInOrder_18 (a : Nat) (i : Int32) (hk : isK h a 104 = true) (hi : inL h a i = true) : (WP Gm j_Routes_areInOrder 18 (ls) (.inl i :: .inr (.inl (some a)) :: st) h Q) = (WP Gm j_Routes_areInOrder 19 (ls) (.inr (.inl (gR h a i.toNatClampNeg)) :: st) (h) Q) := (WP_at c_Routes_areInOrder_18 _ _ _ _).trans (congrArg (fun o => ndX Gm (WP Gm) j_Routes_areInOrder 18 o Q) (if_pos (by rw [hk, hi]; rfl)))
theorem c_Routes_areInOrder_19 : mCode j_Routes_areInOrder 19 = oIld 2 20 := rfl
theorem e_Routes_areInOrder_19 (a0 a1 : Option MV) (x : Int32) : (WP Gm j_Routes_areInOrder 19 (a0 :: a1 :: some (.inl x) :: ls) (st) h Q) = (WP Gm j_Routes_areInOrder 20 (a0 :: a1 :: some (.inl x) :: ls) (.inl x :: st) (h) Q) := (WP_at c_Routes_areInOrder_19 _ _ _ _)
theorem c_Routes_areInOrder_20 : mCode j_Routes_areInOrder 20 = oIal 0 21 := rfl
theorem e_Routes_areInOrder_20 (a : Nat) (i : Int32) (hk : isK h a 100 = true) (hi : inL h a i = true) : (WP Gm j_Routes_areInOrder 20 (ls) (.inl i :: .inr (.inl (some a)) :: st) h Q) = (WP Gm j_Routes_areInOrder 21 (ls) (.inl (gI h a i.toNatClampNeg) :: st) (h) Q) := (WP_at c_Routes_areInOrder_20 _ _ _ _).trans (congrArg (fun o => ndX Gm (WP Gm) j_Routes_areInOrder 20 o Q) (if_pos (by rw [hk, hi]; rfl)))
theorem c_Routes_areInOrder_21 : mCode j_Routes_areInOrder 21 = oIst 3 22 := rfl
theorem e_Routes_areInOrder_21 (x : Int32) : (WP Gm j_Routes_areInOrder 21 (ls) (.inl x :: st) h Q) = (WP Gm j_Routes_areInOrder 22 (lSet1 ls 3 (some (.inl x))) (st) (h) Q) := (WP_at c_Routes_areInOrder_21 _ _ _ _)
theorem c_Routes_areInOrder_22 : mCode j_Routes_areInOrder 22 = oIld 3 23 := rfl
theorem e_Routes_areInOrder_22 (a0 a1 a2 : Option MV) (x : Int32) : (WP Gm j_Routes_areInOrder 22 (a0 :: a1 :: a2 :: some (.inl x) :: ls) (st) h Q) = (WP Gm j_Routes_areInOrder 23 (a0 :: a1 :: a2 :: some (.inl x) :: ls) (.inl x :: st) (h) Q) := (WP_at c_Routes_areInOrder_22 _ _ _ _)
theorem c_Routes_areInOrder_23 : mCode j_Routes_areInOrder 23 = oI (-1) 24 := rfl
theorem e_Routes_areInOrder_23  : (WP Gm j_Routes_areInOrder 23 (ls) (st) h Q) = (WP Gm j_Routes_areInOrder 24 (ls) (.inl (-1) :: st) (h) Q) := (WP_at c_Routes_areInOrder_23 _ _ _ _)
theorem c_Routes_areInOrder_24 : mCode j_Routes_areInOrder 24 = oIC (fun x y => decide (¬ x = y)) 30 27 := rfl
theorem e_Routes_areInOrder_24 (x y : Int32) : (WP Gm j_Routes_areInOrder 24 (ls) (.inl y :: .inl x :: st) h Q) = (if ¬ x = y then WP Gm j_Routes_areInOrder 30 (ls) (st) (h) Q else WP Gm j_Routes_areInOrder 27 (ls) (st) (h) Q) := (WP_at c_Routes_areInOrder_24 _ _ _ _).trans (nd_ic rfl _ _ _ _)
theorem c_Routes_areInOrder_27 : mCode j_Routes_areInOrder 27 = oGo 65 := rfl
theorem e_Routes_areInOrder_27  : (WP Gm j_Routes_areInOrder 27 (ls) (st) h Q) = (WP Gm j_Routes_areInOrder 65 (ls) (st) (h) Q) := (WP_at c_Routes_areInOrder_27 _ _ _ _)
theorem c_Routes_areInOrder_30 : mCode j_Routes_areInOrder 30 = oAld 0 31 := rfl
theorem e_Routes_areInOrder_30 (x : Option Nat) : (WP Gm j_Routes_areInOrder 30 (some (.inr (.inl x)) :: ls) (st) h Q) = (WP Gm j_Routes_areInOrder 31 (some (.inr (.inl x)) :: ls) (.inr (.inl x) :: st) (h) Q) := (WP_at c_Routes_areInOrder_30 _ _ _ _)
theorem c_Routes_areInOrder_31 : mCode j_Routes_areInOrder 31 = oGetR kc_Routes 0 34 := rfl
theorem e_Routes_areInOrder_31 (a : Nat) (hk : isK h a kc_Routes = true) : (WP Gm j_Routes_areInOrder 31 (ls) (.inr (.inl (some a)) :: st) h Q) = (WP Gm j_Routes_areInOrder 34 (ls) (.inr (.inl (gR h a 0)) :: st) (h) Q) := (WP_at c_Routes_areInOrder_31 _ _ _ _).trans (congrArg (fun o => ndX Gm (WP Gm) j_Routes_areInOrder 31 o Q) (if_pos hk))
theorem c_Routes_areInOrder_34 : mCode j_Routes_areInOrder 34 = oIld 3 35 := rfl
theorem e_Routes_areInOrder_34 (a0 a1 a2 : Option MV) (x : Int32) : (WP Gm j_Routes_areInOrder 34 (a0 :: a1 :: a2 :: some (.inl x) :: ls) (st) h Q) = (WP Gm j_Routes_areInOrder 35 (a0 :: a1 :: a2 :: some (.inl x) :: ls) (.inl x :: st) (h) Q) := (WP_at c_Routes_areInOrder_34 _ _ _ _)
theorem c_Routes_areInOrder_35 : mCode j_Routes_areInOrder 35 = oCallV kc_Land j_Land_isNode 1 (mL j_Land_isNode) 38 := rfl
theorem e_Routes_areInOrder_35 (a : Nat) (x0 : Int32) (hk : isK h a kc_Land = true) (hc : c8 st = true) : (WP Gm j_Routes_areInOrder 35 (ls) (.inl x0 :: .inr (.inl (some a)) :: st) h Q) = (WP Gm j_Land_isNode 0 [some (.inr (.inl (some a))), some (.inl x0)] [] h (kC (fun v h2 => WP Gm j_Routes_areInOrder 38 ls (v.toList ++ st) h2 Q) (fun E h2 => Q (.inr E) h2))) := (WP_at c_Routes_areInOrder_35 _ _ _ _).trans (congrArg (fun o => ndX Gm (WP Gm) j_Routes_areInOrder 35 o Q) (if_pos (by rw [hk, show decide (catS st ≤ 8) = true from hc]; rfl)))
theorem c_Routes_areInOrder_38 : mCode j_Routes_areInOrder 38 = oIf (fun x => decide (x = 0)) 63 41 := rfl
theorem e_Routes_areInOrder_38 (x : Int32) : (WP Gm j_Routes_areInOrder 38 (ls) (.inl x :: st) h Q) = (if x = 0 then WP Gm j_Routes_areInOrder 63 (ls) (st) (h) Q else WP Gm j_Routes_areInOrder 41 (ls) (st) (h) Q) := (WP_at c_Routes_areInOrder_38 _ _ _ _).trans (nd_if rfl _ _ _ _)
theorem c_Routes_areInOrder_41 : mCode j_Routes_areInOrder 41 = oIld 3 42 := rfl
theorem e_Routes_areInOrder_41 (a0 a1 a2 : Option MV) (x : Int32) : (WP Gm j_Routes_areInOrder 41 (a0 :: a1 :: a2 :: some (.inl x) :: ls) (st) h Q) = (WP Gm j_Routes_areInOrder 42 (a0 :: a1 :: a2 :: some (.inl x) :: ls) (.inl x :: st) (h) Q) := (WP_at c_Routes_areInOrder_41 _ _ _ _)
theorem c_Routes_areInOrder_42 : mCode j_Routes_areInOrder 42 = oIld 1 43 := rfl
theorem e_Routes_areInOrder_42 (a0 : Option MV) (x : Int32) : (WP Gm j_Routes_areInOrder 42 (a0 :: some (.inl x) :: ls) (st) h Q) = (WP Gm j_Routes_areInOrder 43 (a0 :: some (.inl x) :: ls) (.inl x :: st) (h) Q) := (WP_at c_Routes_areInOrder_42 _ _ _ _)
theorem c_Routes_areInOrder_43 : mCode j_Routes_areInOrder 43 = oIC (fun x y => decide (x = y)) 63 46 := rfl
theorem e_Routes_areInOrder_43 (x y : Int32) : (WP Gm j_Routes_areInOrder 43 (ls) (.inl y :: .inl x :: st) h Q) = (if x = y then WP Gm j_Routes_areInOrder 63 (ls) (st) (h) Q else WP Gm j_Routes_areInOrder 46 (ls) (st) (h) Q) := (WP_at c_Routes_areInOrder_43 _ _ _ _).trans (nd_ic rfl _ _ _ _)
theorem c_Routes_areInOrder_46 : mCode j_Routes_areInOrder 46 = oAld 0 47 := rfl
theorem e_Routes_areInOrder_46 (x : Option Nat) : (WP Gm j_Routes_areInOrder 46 (some (.inr (.inl x)) :: ls) (st) h Q) = (WP Gm j_Routes_areInOrder 47 (some (.inr (.inl x)) :: ls) (.inr (.inl x) :: st) (h) Q) := (WP_at c_Routes_areInOrder_46 _ _ _ _)
theorem c_Routes_areInOrder_47 : mCode j_Routes_areInOrder 47 = oGetR kc_Routes 1 50 := rfl
theorem e_Routes_areInOrder_47 (a : Nat) (hk : isK h a kc_Routes = true) : (WP Gm j_Routes_areInOrder 47 (ls) (.inr (.inl (some a)) :: st) h Q) = (WP Gm j_Routes_areInOrder 50 (ls) (.inr (.inl (gR h a 1)) :: st) (h) Q) := (WP_at c_Routes_areInOrder_47 _ _ _ _).trans (congrArg (fun o => ndX Gm (WP Gm) j_Routes_areInOrder 47 o Q) (if_pos hk))
theorem c_Routes_areInOrder_50 : mCode j_Routes_areInOrder 50 = oIld 1 51 := rfl
theorem e_Routes_areInOrder_50 (a0 : Option MV) (x : Int32) : (WP Gm j_Routes_areInOrder 50 (a0 :: some (.inl x) :: ls) (st) h Q) = (WP Gm j_Routes_areInOrder 51 (a0 :: some (.inl x) :: ls) (.inl x :: st) (h) Q) := (WP_at c_Routes_areInOrder_50 _ _ _ _)
theorem c_Routes_areInOrder_51 : mCode j_Routes_areInOrder 51 = oAal 4 52 := rfl
theorem e_Routes_areInOrder_51 (a : Nat) (i : Int32) (hk : isK h a 104 = true) (hi : inL h a i = true) : (WP Gm j_Routes_areInOrder 51 (ls) (.inl i :: .inr (.inl (some a)) :: st) h Q) = (WP Gm j_Routes_areInOrder 52 (ls) (.inr (.inl (gR h a i.toNatClampNeg)) :: st) (h) Q) := (WP_at c_Routes_areInOrder_51 _ _ _ _).trans (congrArg (fun o => ndX Gm (WP Gm) j_Routes_areInOrder 51 o Q) (if_pos (by rw [hk, hi]; rfl)))
theorem c_Routes_areInOrder_52 : mCode j_Routes_areInOrder 52 = oIld 2 53 := rfl
theorem e_Routes_areInOrder_52 (a0 a1 : Option MV) (x : Int32) : (WP Gm j_Routes_areInOrder 52 (a0 :: a1 :: some (.inl x) :: ls) (st) h Q) = (WP Gm j_Routes_areInOrder 53 (a0 :: a1 :: some (.inl x) :: ls) (.inl x :: st) (h) Q) := (WP_at c_Routes_areInOrder_52 _ _ _ _)
theorem c_Routes_areInOrder_53 : mCode j_Routes_areInOrder 53 = oIal 0 54 := rfl
theorem e_Routes_areInOrder_53 (a : Nat) (i : Int32) (hk : isK h a 100 = true) (hi : inL h a i = true) : (WP Gm j_Routes_areInOrder 53 (ls) (.inl i :: .inr (.inl (some a)) :: st) h Q) = (WP Gm j_Routes_areInOrder 54 (ls) (.inl (gI h a i.toNatClampNeg) :: st) (h) Q) := (WP_at c_Routes_areInOrder_53 _ _ _ _).trans (congrArg (fun o => ndX Gm (WP Gm) j_Routes_areInOrder 53 o Q) (if_pos (by rw [hk, hi]; rfl)))
theorem c_Routes_areInOrder_54 : mCode j_Routes_areInOrder 54 = oI 1 55 := rfl
theorem e_Routes_areInOrder_54  : (WP Gm j_Routes_areInOrder 54 (ls) (st) h Q) = (WP Gm j_Routes_areInOrder 55 (ls) (.inl 1 :: st) (h) Q) := (WP_at c_Routes_areInOrder_54 _ _ _ _)
theorem c_Routes_areInOrder_55 : mCode j_Routes_areInOrder 55 = oI 8 57 := rfl
theorem e_Routes_areInOrder_55  : (WP Gm j_Routes_areInOrder 55 (ls) (st) h Q) = (WP Gm j_Routes_areInOrder 57 (ls) (.inl 8 :: st) (h) Q) := (WP_at c_Routes_areInOrder_55 _ _ _ _)
theorem c_Routes_areInOrder_57 : mCode j_Routes_areInOrder 57 = oCallS j_S_isWithin 3 (mL j_S_isWithin) 60 := rfl
theorem e_Routes_areInOrder_57 (x0 : Int32) (x1 : Int32) (x2 : Int32) (hc : c8 st = true) : (WP Gm j_Routes_areInOrder 57 (ls) (.inl x2 :: .inl x1 :: .inl x0 :: st) h Q) = (WP Gm j_S_isWithin 0 [some (.inl x0), some (.inl x1), some (.inl x2)] [] h (kC (fun v h2 => WP Gm j_Routes_areInOrder 60 ls (v.toList ++ st) h2 Q) (fun E h2 => Q (.inr E) h2))) := (WP_at c_Routes_areInOrder_57 _ _ _ _).trans (congrArg (fun o => ndX Gm (WP Gm) j_Routes_areInOrder 57 o Q) (if_pos (by rw [show decide (catS st ≤ 8) = true from hc]; rfl)))
theorem c_Routes_areInOrder_60 : mCode j_Routes_areInOrder 60 = oIf (fun x => decide (¬ x = 0)) 65 63 := rfl
theorem e_Routes_areInOrder_60 (x : Int32) : (WP Gm j_Routes_areInOrder 60 (ls) (.inl x :: st) h Q) = (if ¬ x = 0 then WP Gm j_Routes_areInOrder 65 (ls) (st) (h) Q else WP Gm j_Routes_areInOrder 63 (ls) (st) (h) Q) := (WP_at c_Routes_areInOrder_60 _ _ _ _).trans (nd_if rfl _ _ _ _)
theorem c_Routes_areInOrder_63 : mCode j_Routes_areInOrder 63 = oI 0 64 := rfl
theorem e_Routes_areInOrder_63  : (WP Gm j_Routes_areInOrder 63 (ls) (st) h Q) = (WP Gm j_Routes_areInOrder 64 (ls) (.inl 0 :: st) (h) Q) := (WP_at c_Routes_areInOrder_63 _ _ _ _)
theorem c_Routes_areInOrder_64 : mCode j_Routes_areInOrder 64 = oRetZ := rfl
theorem e_Routes_areInOrder_64 (x : Int32) (hx : x = 0 ∨ x = 1) : (WP Gm j_Routes_areInOrder 64 (ls) ([.inl x]) h Q) = (Q (.inl (some (.inl x))) h) := (WP_at c_Routes_areInOrder_64 _ _ _ _).trans (congrArg (fun o => ndX Gm (WP Gm) j_Routes_areInOrder 64 o Q) (if_pos (by rcases hx with rfl | rfl <;> rfl)))
theorem c_Routes_areInOrder_65 : mCode j_Routes_areInOrder 65 = oInc 2 1 68 := rfl
theorem e_Routes_areInOrder_65 (a0 a1 : Option MV) (x : Int32) : (WP Gm j_Routes_areInOrder 65 (a0 :: a1 :: some (.inl x) :: ls) (st) h Q) = (WP Gm j_Routes_areInOrder 68 (lSet1 (a0 :: a1 :: some (.inl x) :: ls) 2 (some (.inl (x + 1)))) (st) (h) Q) := (WP_at c_Routes_areInOrder_65 _ _ _ _)
theorem c_Routes_areInOrder_68 : mCode j_Routes_areInOrder 68 = oGo 2 := rfl
theorem e_Routes_areInOrder_68  : (WP Gm j_Routes_areInOrder 68 (ls) (st) h Q) = (WP Gm j_Routes_areInOrder 2 (ls) (st) (h) Q) := (WP_at c_Routes_areInOrder_68 _ _ _ _)
theorem c_Routes_areInOrder_71 : mCode j_Routes_areInOrder 71 = oI 1 72 := rfl
theorem e_Routes_areInOrder_71  : (WP Gm j_Routes_areInOrder 71 (ls) (st) h Q) = (WP Gm j_Routes_areInOrder 72 (ls) (.inl 1 :: st) (h) Q) := (WP_at c_Routes_areInOrder_71 _ _ _ _)
theorem c_Routes_areInOrder_72 : mCode j_Routes_areInOrder 72 = oRetZ := rfl
theorem e_Routes_areInOrder_72 (x : Int32) (hx : x = 0 ∨ x = 1) : (WP Gm j_Routes_areInOrder 72 (ls) ([.inl x]) h Q) = (Q (.inl (some (.inl x))) h) := (WP_at c_Routes_areInOrder_72 _ _ _ _).trans (congrArg (fun o => ndX Gm (WP Gm) j_Routes_areInOrder 72 o Q) (if_pos (by rcases hx with rfl | rfl <;> rfl)))
theorem c_Traffic_init_0 : mCode j_Traffic_init 0 = oAld 0 1 := rfl
theorem e_Traffic_init_0 (x : Option Nat) : (WP Gm j_Traffic_init 0 (some (.inr (.inl x)) :: ls) (st) h Q) = (WP Gm j_Traffic_init 1 (some (.inr (.inl x)) :: ls) (.inr (.inl x) :: st) (h) Q) := (WP_at c_Traffic_init_0 _ _ _ _)
theorem c_Traffic_init_1 : mCode j_Traffic_init 1 = oObj 4 := rfl
theorem e_Traffic_init_1 (a : Nat) (hc : c8 st = true) : (WP Gm j_Traffic_init 1 (ls) (.inr (.inl (some a)) :: st) h Q) = (WP Gm j_Traffic_init 4 (ls) (st) (h) Q) := (WP_at c_Traffic_init_1 _ _ _ _).trans (congrArg (fun o => ndX Gm (WP Gm) j_Traffic_init 1 o Q) (if_pos (of_decide_eq_true hc)))
theorem c_Traffic_init_4 : mCode j_Traffic_init 4 = oAld 0 5 := rfl
theorem e_Traffic_init_4 (x : Option Nat) : (WP Gm j_Traffic_init 4 (some (.inr (.inl x)) :: ls) (st) h Q) = (WP Gm j_Traffic_init 5 (some (.inr (.inl x)) :: ls) (.inr (.inl x) :: st) (h) Q) := (WP_at c_Traffic_init_4 _ _ _ _)
theorem c_Traffic_init_5 : mCode j_Traffic_init 5 = oI 0 6 := rfl
theorem e_Traffic_init_5  : (WP Gm j_Traffic_init 5 (ls) (st) h Q) = (WP Gm j_Traffic_init 6 (ls) (.inl 0 :: st) (h) Q) := (WP_at c_Traffic_init_5 _ _ _ _)
theorem c_Traffic_init_6 : mCode j_Traffic_init 6 = oPutI kc_Traffic 2 9 := rfl
theorem e_Traffic_init_6 (a : Nat) (x : Int32) (hk : isK h a kc_Traffic = true) : (WP Gm j_Traffic_init 6 (ls) (.inl x :: .inr (.inl (some a)) :: st) h Q) = (WP Gm j_Traffic_init 9 (ls) (st) (sI h a 2 x) Q) := (WP_at c_Traffic_init_6 _ _ _ _).trans (congrArg (fun o => ndX Gm (WP Gm) j_Traffic_init 6 o Q) (if_pos hk))
theorem c_Traffic_init_9 : mCode j_Traffic_init 9 = oAld 0 10 := rfl
theorem e_Traffic_init_9 (x : Option Nat) : (WP Gm j_Traffic_init 9 (some (.inr (.inl x)) :: ls) (st) h Q) = (WP Gm j_Traffic_init 10 (some (.inr (.inl x)) :: ls) (.inr (.inl x) :: st) (h) Q) := (WP_at c_Traffic_init_9 _ _ _ _)
theorem c_Traffic_init_10 : mCode j_Traffic_init 10 = oI 41 12 := rfl
theorem e_Traffic_init_10  : (WP Gm j_Traffic_init 10 (ls) (st) h Q) = (WP Gm j_Traffic_init 12 (ls) (.inl 41 :: st) (h) Q) := (WP_at c_Traffic_init_10 _ _ _ _)
theorem c_Traffic_init_12 : mCode j_Traffic_init 12 = oPutI kc_Traffic 3 15 := rfl
theorem e_Traffic_init_12 (a : Nat) (x : Int32) (hk : isK h a kc_Traffic = true) : (WP Gm j_Traffic_init 12 (ls) (.inl x :: .inr (.inl (some a)) :: st) h Q) = (WP Gm j_Traffic_init 15 (ls) (st) (sI h a 3 x) Q) := (WP_at c_Traffic_init_12 _ _ _ _).trans (congrArg (fun o => ndX Gm (WP Gm) j_Traffic_init 12 o Q) (if_pos hk))
theorem c_Traffic_init_15 : mCode j_Traffic_init 15 = oAld 0 16 := rfl
theorem e_Traffic_init_15 (x : Option Nat) : (WP Gm j_Traffic_init 15 (some (.inr (.inl x)) :: ls) (st) h Q) = (WP Gm j_Traffic_init 16 (some (.inr (.inl x)) :: ls) (.inr (.inl x) :: st) (h) Q) := (WP_at c_Traffic_init_15 _ _ _ _)
theorem c_Traffic_init_16 : mCode j_Traffic_init 16 = oI 0 17 := rfl
theorem e_Traffic_init_16  : (WP Gm j_Traffic_init 16 (ls) (st) h Q) = (WP Gm j_Traffic_init 17 (ls) (.inl 0 :: st) (h) Q) := (WP_at c_Traffic_init_16 _ _ _ _)
theorem c_Traffic_init_17 : mCode j_Traffic_init 17 = oPutI kc_Traffic 4 20 := rfl
theorem e_Traffic_init_17 (a : Nat) (x : Int32) (hk : isK h a kc_Traffic = true) : (WP Gm j_Traffic_init 17 (ls) (.inl x :: .inr (.inl (some a)) :: st) h Q) = (WP Gm j_Traffic_init 20 (ls) (st) (sI h a 4 x) Q) := (WP_at c_Traffic_init_17 _ _ _ _).trans (congrArg (fun o => ndX Gm (WP Gm) j_Traffic_init 17 o Q) (if_pos hk))
theorem c_Traffic_init_20 : mCode j_Traffic_init 20 = oAld 0 21 := rfl
theorem e_Traffic_init_20 (x : Option Nat) : (WP Gm j_Traffic_init 20 (some (.inr (.inl x)) :: ls) (st) h Q) = (WP Gm j_Traffic_init 21 (some (.inr (.inl x)) :: ls) (.inr (.inl x) :: st) (h) Q) := (WP_at c_Traffic_init_20 _ _ _ _)
theorem c_Traffic_init_21 : mCode j_Traffic_init 21 = oI 0 22 := rfl
theorem e_Traffic_init_21  : (WP Gm j_Traffic_init 21 (ls) (st) h Q) = (WP Gm j_Traffic_init 22 (ls) (.inl 0 :: st) (h) Q) := (WP_at c_Traffic_init_21 _ _ _ _)
theorem c_Traffic_init_22 : mCode j_Traffic_init 22 = oPutI kc_Traffic 5 25 := rfl
theorem e_Traffic_init_22 (a : Nat) (x : Int32) (hk : isK h a kc_Traffic = true) : (WP Gm j_Traffic_init 22 (ls) (.inl x :: .inr (.inl (some a)) :: st) h Q) = (WP Gm j_Traffic_init 25 (ls) (st) (sI h a 5 x) Q) := (WP_at c_Traffic_init_22 _ _ _ _).trans (congrArg (fun o => ndX Gm (WP Gm) j_Traffic_init 22 o Q) (if_pos hk))
theorem c_Traffic_init_25 : mCode j_Traffic_init 25 = oAld 0 26 := rfl
theorem e_Traffic_init_25 (x : Option Nat) : (WP Gm j_Traffic_init 25 (some (.inr (.inl x)) :: ls) (st) h Q) = (WP Gm j_Traffic_init 26 (some (.inr (.inl x)) :: ls) (.inr (.inl x) :: st) (h) Q) := (WP_at c_Traffic_init_25 _ _ _ _)
theorem c_Traffic_init_26 : mCode j_Traffic_init 26 = oI 0 27 := rfl
theorem e_Traffic_init_26  : (WP Gm j_Traffic_init 26 (ls) (st) h Q) = (WP Gm j_Traffic_init 27 (ls) (.inl 0 :: st) (h) Q) := (WP_at c_Traffic_init_26 _ _ _ _)
theorem c_Traffic_init_27 : mCode j_Traffic_init 27 = oPutI kc_Traffic 6 30 := rfl
theorem e_Traffic_init_27 (a : Nat) (x : Int32) (hk : isK h a kc_Traffic = true) : (WP Gm j_Traffic_init 27 (ls) (.inl x :: .inr (.inl (some a)) :: st) h Q) = (WP Gm j_Traffic_init 30 (ls) (st) (sI h a 6 x) Q) := (WP_at c_Traffic_init_27 _ _ _ _).trans (congrArg (fun o => ndX Gm (WP Gm) j_Traffic_init 27 o Q) (if_pos hk))
theorem c_Traffic_init_30 : mCode j_Traffic_init 30 = oAld 0 31 := rfl
theorem e_Traffic_init_30 (x : Option Nat) : (WP Gm j_Traffic_init 30 (some (.inr (.inl x)) :: ls) (st) h Q) = (WP Gm j_Traffic_init 31 (some (.inr (.inl x)) :: ls) (.inr (.inl x) :: st) (h) Q) := (WP_at c_Traffic_init_30 _ _ _ _)
theorem c_Traffic_init_31 : mCode j_Traffic_init 31 = oAld 1 32 := rfl
theorem e_Traffic_init_31 (a0 : Option MV) (x : Option Nat) : (WP Gm j_Traffic_init 31 (a0 :: some (.inr (.inl x)) :: ls) (st) h Q) = (WP Gm j_Traffic_init 32 (a0 :: some (.inr (.inl x)) :: ls) (.inr (.inl x) :: st) (h) Q) := (WP_at c_Traffic_init_31 _ _ _ _)
theorem c_Traffic_init_32 : mCode j_Traffic_init 32 = oPutR kc_Traffic 0 35 := rfl
theorem e_Traffic_init_32 (a : Nat) (x : Option Nat) (hk : isK h a kc_Traffic = true) : (WP Gm j_Traffic_init 32 (ls) (.inr (.inl x) :: .inr (.inl (some a)) :: st) h Q) = (WP Gm j_Traffic_init 35 (ls) (st) (sR h a 0 x) Q) := (WP_at c_Traffic_init_32 _ _ _ _).trans (congrArg (fun o => ndX Gm (WP Gm) j_Traffic_init 32 o Q) (if_pos hk))
theorem c_Traffic_init_35 : mCode j_Traffic_init 35 = oAld 0 36 := rfl
theorem e_Traffic_init_35 (x : Option Nat) : (WP Gm j_Traffic_init 35 (some (.inr (.inl x)) :: ls) (st) h Q) = (WP Gm j_Traffic_init 36 (some (.inr (.inl x)) :: ls) (.inr (.inl x) :: st) (h) Q) := (WP_at c_Traffic_init_35 _ _ _ _)
theorem c_Traffic_init_36 : mCode j_Traffic_init 36 = oAld 2 37 := rfl
theorem e_Traffic_init_36 (a0 a1 : Option MV) (x : Option Nat) : (WP Gm j_Traffic_init 36 (a0 :: a1 :: some (.inr (.inl x)) :: ls) (st) h Q) = (WP Gm j_Traffic_init 37 (a0 :: a1 :: some (.inr (.inl x)) :: ls) (.inr (.inl x) :: st) (h) Q) := (WP_at c_Traffic_init_36 _ _ _ _)
theorem c_Traffic_init_37 : mCode j_Traffic_init 37 = oPutR kc_Traffic 1 40 := rfl
theorem e_Traffic_init_37 (a : Nat) (x : Option Nat) (hk : isK h a kc_Traffic = true) : (WP Gm j_Traffic_init 37 (ls) (.inr (.inl x) :: .inr (.inl (some a)) :: st) h Q) = (WP Gm j_Traffic_init 40 (ls) (st) (sR h a 1 x) Q) := (WP_at c_Traffic_init_37 _ _ _ _).trans (congrArg (fun o => ndX Gm (WP Gm) j_Traffic_init 37 o Q) (if_pos hk))
theorem c_Traffic_init_40 : mCode j_Traffic_init 40 = oRet := rfl
theorem e_Traffic_init_40  : (WP Gm j_Traffic_init 40 (ls) ([]) h Q) = (Q (.inl none) h) := (WP_at c_Traffic_init_40 _ _ _ _)
theorem c_Traffic_senders_0 : mCode j_Traffic_senders 0 = oI 0 1 := rfl
theorem e_Traffic_senders_0  : (WP Gm j_Traffic_senders 0 (ls) (st) h Q) = (WP Gm j_Traffic_senders 1 (ls) (.inl 0 :: st) (h) Q) := (WP_at c_Traffic_senders_0 _ _ _ _)
theorem c_Traffic_senders_1 : mCode j_Traffic_senders 1 = oIst 1 2 := rfl
theorem e_Traffic_senders_1 (x : Int32) : (WP Gm j_Traffic_senders 1 (ls) (.inl x :: st) h Q) = (WP Gm j_Traffic_senders 2 (lSet1 ls 1 (some (.inl x))) (st) (h) Q) := (WP_at c_Traffic_senders_1 _ _ _ _)
theorem c_Traffic_senders_2 : mCode j_Traffic_senders 2 = oI 0 3 := rfl
theorem e_Traffic_senders_2  : (WP Gm j_Traffic_senders 2 (ls) (st) h Q) = (WP Gm j_Traffic_senders 3 (ls) (.inl 0 :: st) (h) Q) := (WP_at c_Traffic_senders_2 _ _ _ _)
theorem c_Traffic_senders_3 : mCode j_Traffic_senders 3 = oIst 2 4 := rfl
theorem e_Traffic_senders_3 (x : Int32) : (WP Gm j_Traffic_senders 3 (ls) (.inl x :: st) h Q) = (WP Gm j_Traffic_senders 4 (lSet1 ls 2 (some (.inl x))) (st) (h) Q) := (WP_at c_Traffic_senders_3 _ _ _ _)
theorem c_Traffic_senders_4 : mCode j_Traffic_senders 4 = oIld 2 5 := rfl
theorem e_Traffic_senders_4 (a0 a1 : Option MV) (x : Int32) : (WP Gm j_Traffic_senders 4 (a0 :: a1 :: some (.inl x) :: ls) (st) h Q) = (WP Gm j_Traffic_senders 5 (a0 :: a1 :: some (.inl x) :: ls) (.inl x :: st) (h) Q) := (WP_at c_Traffic_senders_4 _ _ _ _)
theorem c_Traffic_senders_5 : mCode j_Traffic_senders 5 = oAld 0 6 := rfl
theorem e_Traffic_senders_5 (x : Option Nat) : (WP Gm j_Traffic_senders 5 (some (.inr (.inl x)) :: ls) (st) h Q) = (WP Gm j_Traffic_senders 6 (some (.inr (.inl x)) :: ls) (.inr (.inl x) :: st) (h) Q) := (WP_at c_Traffic_senders_5 _ _ _ _)
theorem c_Traffic_senders_6 : mCode j_Traffic_senders 6 = oGetR kc_Traffic 0 9 := rfl
theorem e_Traffic_senders_6 (a : Nat) (hk : isK h a kc_Traffic = true) : (WP Gm j_Traffic_senders 6 (ls) (.inr (.inl (some a)) :: st) h Q) = (WP Gm j_Traffic_senders 9 (ls) (.inr (.inl (gR h a 0)) :: st) (h) Q) := (WP_at c_Traffic_senders_6 _ _ _ _).trans (congrArg (fun o => ndX Gm (WP Gm) j_Traffic_senders 6 o Q) (if_pos hk))
theorem c_Traffic_senders_9 : mCode j_Traffic_senders 9 = oGetI kc_Land 2 12 := rfl
theorem e_Traffic_senders_9 (a : Nat) (hk : isK h a kc_Land = true) : (WP Gm j_Traffic_senders 9 (ls) (.inr (.inl (some a)) :: st) h Q) = (WP Gm j_Traffic_senders 12 (ls) (.inl (gI h a 2) :: st) (h) Q) := (WP_at c_Traffic_senders_9 _ _ _ _).trans (congrArg (fun o => ndX Gm (WP Gm) j_Traffic_senders 9 o Q) (if_pos hk))
theorem c_Traffic_senders_12 : mCode j_Traffic_senders 12 = oIC (fun x y => decide (y ≤ x)) 42 15 := rfl
theorem e_Traffic_senders_12 (x y : Int32) : (WP Gm j_Traffic_senders 12 (ls) (.inl y :: .inl x :: st) h Q) = (if y ≤ x then WP Gm j_Traffic_senders 42 (ls) (st) (h) Q else WP Gm j_Traffic_senders 15 (ls) (st) (h) Q) := (WP_at c_Traffic_senders_12 _ _ _ _).trans (nd_ic rfl _ _ _ _)
theorem c_Traffic_senders_15 : mCode j_Traffic_senders 15 = oAld 0 16 := rfl
theorem e_Traffic_senders_15 (x : Option Nat) : (WP Gm j_Traffic_senders 15 (some (.inr (.inl x)) :: ls) (st) h Q) = (WP Gm j_Traffic_senders 16 (some (.inr (.inl x)) :: ls) (.inr (.inl x) :: st) (h) Q) := (WP_at c_Traffic_senders_15 _ _ _ _)
theorem c_Traffic_senders_16 : mCode j_Traffic_senders 16 = oGetR kc_Traffic 0 19 := rfl
theorem e_Traffic_senders_16 (a : Nat) (hk : isK h a kc_Traffic = true) : (WP Gm j_Traffic_senders 16 (ls) (.inr (.inl (some a)) :: st) h Q) = (WP Gm j_Traffic_senders 19 (ls) (.inr (.inl (gR h a 0)) :: st) (h) Q) := (WP_at c_Traffic_senders_16 _ _ _ _).trans (congrArg (fun o => ndX Gm (WP Gm) j_Traffic_senders 16 o Q) (if_pos hk))
theorem c_Traffic_senders_19 : mCode j_Traffic_senders 19 = oGetR kc_Land 0 22 := rfl
theorem e_Traffic_senders_19 (a : Nat) (hk : isK h a kc_Land = true) : (WP Gm j_Traffic_senders 19 (ls) (.inr (.inl (some a)) :: st) h Q) = (WP Gm j_Traffic_senders 22 (ls) (.inr (.inl (gR h a 0)) :: st) (h) Q) := (WP_at c_Traffic_senders_19 _ _ _ _).trans (congrArg (fun o => ndX Gm (WP Gm) j_Traffic_senders 19 o Q) (if_pos hk))
theorem c_Traffic_senders_22 : mCode j_Traffic_senders 22 = oIld 2 23 := rfl
theorem e_Traffic_senders_22 (a0 a1 : Option MV) (x : Int32) : (WP Gm j_Traffic_senders 22 (a0 :: a1 :: some (.inl x) :: ls) (st) h Q) = (WP Gm j_Traffic_senders 23 (a0 :: a1 :: some (.inl x) :: ls) (.inl x :: st) (h) Q) := (WP_at c_Traffic_senders_22 _ _ _ _)
theorem c_Traffic_senders_23 : mCode j_Traffic_senders 23 = oAal 2 24 := rfl
theorem e_Traffic_senders_23 (a : Nat) (i : Int32) (hk : isK h a 102 = true) (hi : inL h a i = true) : (WP Gm j_Traffic_senders 23 (ls) (.inl i :: .inr (.inl (some a)) :: st) h Q) = (WP Gm j_Traffic_senders 24 (ls) (.inr (.inl (gR h a i.toNatClampNeg)) :: st) (h) Q) := (WP_at c_Traffic_senders_23 _ _ _ _).trans (congrArg (fun o => ndX Gm (WP Gm) j_Traffic_senders 23 o Q) (if_pos (by rw [hk, hi]; rfl)))
theorem c_Traffic_senders_24 : mCode j_Traffic_senders 24 = oCallV kc_Node j_Node_isSending 0 (mL j_Node_isSending) 27 := rfl
theorem e_Traffic_senders_24 (a : Nat) (hk : isK h a kc_Node = true) (hc : c8 st = true) : (WP Gm j_Traffic_senders 24 (ls) (.inr (.inl (some a)) :: st) h Q) = (WP Gm j_Node_isSending 0 [some (.inr (.inl (some a)))] [] h (kC (fun v h2 => WP Gm j_Traffic_senders 27 ls (v.toList ++ st) h2 Q) (fun E h2 => Q (.inr E) h2))) := (WP_at c_Traffic_senders_24 _ _ _ _).trans (congrArg (fun o => ndX Gm (WP Gm) j_Traffic_senders 24 o Q) (if_pos (by rw [hk, show decide (catS st ≤ 8) = true from hc]; rfl)))
theorem c_Traffic_senders_27 : mCode j_Traffic_senders 27 = oIf (fun x => decide (x = 0)) 36 30 := rfl
theorem e_Traffic_senders_27 (x : Int32) : (WP Gm j_Traffic_senders 27 (ls) (.inl x :: st) h Q) = (if x = 0 then WP Gm j_Traffic_senders 36 (ls) (st) (h) Q else WP Gm j_Traffic_senders 30 (ls) (st) (h) Q) := (WP_at c_Traffic_senders_27 _ _ _ _).trans (nd_if rfl _ _ _ _)
theorem c_Traffic_senders_30 : mCode j_Traffic_senders 30 = oIld 1 31 := rfl
theorem e_Traffic_senders_30 (a0 : Option MV) (x : Int32) : (WP Gm j_Traffic_senders 30 (a0 :: some (.inl x) :: ls) (st) h Q) = (WP Gm j_Traffic_senders 31 (a0 :: some (.inl x) :: ls) (.inl x :: st) (h) Q) := (WP_at c_Traffic_senders_30 _ _ _ _)
theorem c_Traffic_senders_31 : mCode j_Traffic_senders 31 = oI 1 32 := rfl
theorem e_Traffic_senders_31  : (WP Gm j_Traffic_senders 31 (ls) (st) h Q) = (WP Gm j_Traffic_senders 32 (ls) (.inl 1 :: st) (h) Q) := (WP_at c_Traffic_senders_31 _ _ _ _)
theorem c_Traffic_senders_32 : mCode j_Traffic_senders 32 = oIld 2 33 := rfl
theorem e_Traffic_senders_32 (a0 a1 : Option MV) (x : Int32) : (WP Gm j_Traffic_senders 32 (a0 :: a1 :: some (.inl x) :: ls) (st) h Q) = (WP Gm j_Traffic_senders 33 (a0 :: a1 :: some (.inl x) :: ls) (.inl x :: st) (h) Q) := (WP_at c_Traffic_senders_32 _ _ _ _)
theorem c_Traffic_senders_33 : mCode j_Traffic_senders 33 = oII (fun x y => x <<< (y &&& 31)) 34 := rfl
theorem e_Traffic_senders_33 (x : Int32) (y : Int32) : (WP Gm j_Traffic_senders 33 (ls) (.inl y :: .inl x :: st) h Q) = (WP Gm j_Traffic_senders 34 (ls) (.inl (x <<< (y &&& 31)) :: st) (h) Q) := (WP_at c_Traffic_senders_33 _ _ _ _)
theorem c_Traffic_senders_34 : mCode j_Traffic_senders 34 = oII (fun x y => x ||| y) 35 := rfl
theorem e_Traffic_senders_34 (x : Int32) (y : Int32) : (WP Gm j_Traffic_senders 34 (ls) (.inl y :: .inl x :: st) h Q) = (WP Gm j_Traffic_senders 35 (ls) (.inl (x ||| y) :: st) (h) Q) := (WP_at c_Traffic_senders_34 _ _ _ _)
theorem c_Traffic_senders_35 : mCode j_Traffic_senders 35 = oIst 1 36 := rfl
theorem e_Traffic_senders_35 (x : Int32) : (WP Gm j_Traffic_senders 35 (ls) (.inl x :: st) h Q) = (WP Gm j_Traffic_senders 36 (lSet1 ls 1 (some (.inl x))) (st) (h) Q) := (WP_at c_Traffic_senders_35 _ _ _ _)
theorem c_Traffic_senders_36 : mCode j_Traffic_senders 36 = oInc 2 1 39 := rfl
theorem e_Traffic_senders_36 (a0 a1 : Option MV) (x : Int32) : (WP Gm j_Traffic_senders 36 (a0 :: a1 :: some (.inl x) :: ls) (st) h Q) = (WP Gm j_Traffic_senders 39 (lSet1 (a0 :: a1 :: some (.inl x) :: ls) 2 (some (.inl (x + 1)))) (st) (h) Q) := (WP_at c_Traffic_senders_36 _ _ _ _)
theorem c_Traffic_senders_39 : mCode j_Traffic_senders 39 = oGo 4 := rfl
theorem e_Traffic_senders_39  : (WP Gm j_Traffic_senders 39 (ls) (st) h Q) = (WP Gm j_Traffic_senders 4 (ls) (st) (h) Q) := (WP_at c_Traffic_senders_39 _ _ _ _)
theorem c_Traffic_senders_42 : mCode j_Traffic_senders 42 = oIld 1 43 := rfl
theorem e_Traffic_senders_42 (a0 : Option MV) (x : Int32) : (WP Gm j_Traffic_senders 42 (a0 :: some (.inl x) :: ls) (st) h Q) = (WP Gm j_Traffic_senders 43 (a0 :: some (.inl x) :: ls) (.inl x :: st) (h) Q) := (WP_at c_Traffic_senders_42 _ _ _ _)
theorem c_Traffic_senders_43 : mCode j_Traffic_senders 43 = oRetI := rfl
theorem e_Traffic_senders_43 (x : Int32) : (WP Gm j_Traffic_senders 43 (ls) ([.inl x]) h Q) = (Q (.inl (some (.inl x))) h) := (WP_at c_Traffic_senders_43 _ _ _ _)
theorem c_Traffic_goBy_0 : mCode j_Traffic_goBy 0 = oAld 0 1 := rfl
theorem e_Traffic_goBy_0 (x : Option Nat) : (WP Gm j_Traffic_goBy 0 (some (.inr (.inl x)) :: ls) (st) h Q) = (WP Gm j_Traffic_goBy 1 (some (.inr (.inl x)) :: ls) (.inr (.inl x) :: st) (h) Q) := (WP_at c_Traffic_goBy_0 _ _ _ _)
theorem c_Traffic_goBy_1 : mCode j_Traffic_goBy 1 = oDup 2 := rfl
theorem e_Traffic_goBy_1 (x : Option Nat) : (WP Gm j_Traffic_goBy 1 (ls) (.inr (.inl x) :: st) h Q) = (WP Gm j_Traffic_goBy 2 (ls) (.inr (.inl x) :: .inr (.inl x) :: st) (h) Q) := (WP_at c_Traffic_goBy_1 _ _ _ _)
theorem c_Traffic_goBy_2 : mCode j_Traffic_goBy 2 = oGetI kc_Traffic 2 5 := rfl
theorem e_Traffic_goBy_2 (a : Nat) (hk : isK h a kc_Traffic = true) : (WP Gm j_Traffic_goBy 2 (ls) (.inr (.inl (some a)) :: st) h Q) = (WP Gm j_Traffic_goBy 5 (ls) (.inl (gI h a 2) :: st) (h) Q) := (WP_at c_Traffic_goBy_2 _ _ _ _).trans (congrArg (fun o => ndX Gm (WP Gm) j_Traffic_goBy 2 o Q) (if_pos hk))
theorem c_Traffic_goBy_5 : mCode j_Traffic_goBy 5 = oI 1 6 := rfl
theorem e_Traffic_goBy_5  : (WP Gm j_Traffic_goBy 5 (ls) (st) h Q) = (WP Gm j_Traffic_goBy 6 (ls) (.inl 1 :: st) (h) Q) := (WP_at c_Traffic_goBy_5 _ _ _ _)
theorem c_Traffic_goBy_6 : mCode j_Traffic_goBy 6 = oII (fun x y => x + y) 7 := rfl
theorem e_Traffic_goBy_6 (x : Int32) (y : Int32) : (WP Gm j_Traffic_goBy 6 (ls) (.inl y :: .inl x :: st) h Q) = (WP Gm j_Traffic_goBy 7 (ls) (.inl (x + y) :: st) (h) Q) := (WP_at c_Traffic_goBy_6 _ _ _ _)
theorem c_Traffic_goBy_7 : mCode j_Traffic_goBy 7 = oPutI kc_Traffic 2 10 := rfl
theorem e_Traffic_goBy_7 (a : Nat) (x : Int32) (hk : isK h a kc_Traffic = true) : (WP Gm j_Traffic_goBy 7 (ls) (.inl x :: .inr (.inl (some a)) :: st) h Q) = (WP Gm j_Traffic_goBy 10 (ls) (st) (sI h a 2 x) Q) := (WP_at c_Traffic_goBy_7 _ _ _ _).trans (congrArg (fun o => ndX Gm (WP Gm) j_Traffic_goBy 7 o Q) (if_pos hk))
theorem c_Traffic_goBy_10 : mCode j_Traffic_goBy 10 = oAld 0 11 := rfl
theorem e_Traffic_goBy_10 (x : Option Nat) : (WP Gm j_Traffic_goBy 10 (some (.inr (.inl x)) :: ls) (st) h Q) = (WP Gm j_Traffic_goBy 11 (some (.inr (.inl x)) :: ls) (.inr (.inl x) :: st) (h) Q) := (WP_at c_Traffic_goBy_10 _ _ _ _)
theorem c_Traffic_goBy_11 : mCode j_Traffic_goBy 11 = oCallV kc_Traffic j_Traffic_senders 0 (mL j_Traffic_senders) 14 := rfl
theorem e_Traffic_goBy_11 (a : Nat) (hk : isK h a kc_Traffic = true) (hc : c8 st = true) : (WP Gm j_Traffic_goBy 11 (ls) (.inr (.inl (some a)) :: st) h Q) = (WP Gm j_Traffic_senders 0 [some (.inr (.inl (some a))), none, none] [] h (kC (fun v h2 => WP Gm j_Traffic_goBy 14 ls (v.toList ++ st) h2 Q) (fun E h2 => Q (.inr E) h2))) := (WP_at c_Traffic_goBy_11 _ _ _ _).trans (congrArg (fun o => ndX Gm (WP Gm) j_Traffic_goBy 11 o Q) (if_pos (by rw [hk, show decide (catS st ≤ 8) = true from hc]; rfl)))
theorem c_Traffic_goBy_14 : mCode j_Traffic_goBy 14 = oIst 1 15 := rfl
theorem e_Traffic_goBy_14 (x : Int32) : (WP Gm j_Traffic_goBy 14 (ls) (.inl x :: st) h Q) = (WP Gm j_Traffic_goBy 15 (lSet1 ls 1 (some (.inl x))) (st) (h) Q) := (WP_at c_Traffic_goBy_14 _ _ _ _)
theorem c_Traffic_goBy_15 : mCode j_Traffic_goBy 15 = oI 0 16 := rfl
theorem e_Traffic_goBy_15  : (WP Gm j_Traffic_goBy 15 (ls) (st) h Q) = (WP Gm j_Traffic_goBy 16 (ls) (.inl 0 :: st) (h) Q) := (WP_at c_Traffic_goBy_15 _ _ _ _)
theorem c_Traffic_goBy_16 : mCode j_Traffic_goBy 16 = oIst 2 17 := rfl
theorem e_Traffic_goBy_16 (x : Int32) : (WP Gm j_Traffic_goBy 16 (ls) (.inl x :: st) h Q) = (WP Gm j_Traffic_goBy 17 (lSet1 ls 2 (some (.inl x))) (st) (h) Q) := (WP_at c_Traffic_goBy_16 _ _ _ _)
theorem c_Traffic_goBy_17 : mCode j_Traffic_goBy 17 = oIld 2 18 := rfl
theorem e_Traffic_goBy_17 (a0 a1 : Option MV) (x : Int32) : (WP Gm j_Traffic_goBy 17 (a0 :: a1 :: some (.inl x) :: ls) (st) h Q) = (WP Gm j_Traffic_goBy 18 (a0 :: a1 :: some (.inl x) :: ls) (.inl x :: st) (h) Q) := (WP_at c_Traffic_goBy_17 _ _ _ _)
theorem c_Traffic_goBy_18 : mCode j_Traffic_goBy 18 = oAld 0 19 := rfl
theorem e_Traffic_goBy_18 (x : Option Nat) : (WP Gm j_Traffic_goBy 18 (some (.inr (.inl x)) :: ls) (st) h Q) = (WP Gm j_Traffic_goBy 19 (some (.inr (.inl x)) :: ls) (.inr (.inl x) :: st) (h) Q) := (WP_at c_Traffic_goBy_18 _ _ _ _)
theorem c_Traffic_goBy_19 : mCode j_Traffic_goBy 19 = oGetR kc_Traffic 0 22 := rfl
theorem e_Traffic_goBy_19 (a : Nat) (hk : isK h a kc_Traffic = true) : (WP Gm j_Traffic_goBy 19 (ls) (.inr (.inl (some a)) :: st) h Q) = (WP Gm j_Traffic_goBy 22 (ls) (.inr (.inl (gR h a 0)) :: st) (h) Q) := (WP_at c_Traffic_goBy_19 _ _ _ _).trans (congrArg (fun o => ndX Gm (WP Gm) j_Traffic_goBy 19 o Q) (if_pos hk))
theorem c_Traffic_goBy_22 : mCode j_Traffic_goBy 22 = oGetI kc_Land 2 25 := rfl
theorem e_Traffic_goBy_22 (a : Nat) (hk : isK h a kc_Land = true) : (WP Gm j_Traffic_goBy 22 (ls) (.inr (.inl (some a)) :: st) h Q) = (WP Gm j_Traffic_goBy 25 (ls) (.inl (gI h a 2) :: st) (h) Q) := (WP_at c_Traffic_goBy_22 _ _ _ _).trans (congrArg (fun o => ndX Gm (WP Gm) j_Traffic_goBy 22 o Q) (if_pos hk))
theorem c_Traffic_goBy_25 : mCode j_Traffic_goBy 25 = oIC (fun x y => decide (y ≤ x)) 59 28 := rfl
theorem e_Traffic_goBy_25 (x y : Int32) : (WP Gm j_Traffic_goBy 25 (ls) (.inl y :: .inl x :: st) h Q) = (if y ≤ x then WP Gm j_Traffic_goBy 59 (ls) (st) (h) Q else WP Gm j_Traffic_goBy 28 (ls) (st) (h) Q) := (WP_at c_Traffic_goBy_25 _ _ _ _).trans (nd_ic rfl _ _ _ _)
theorem c_Traffic_goBy_28 : mCode j_Traffic_goBy 28 = oIld 1 29 := rfl
theorem e_Traffic_goBy_28 (a0 : Option MV) (x : Int32) : (WP Gm j_Traffic_goBy 28 (a0 :: some (.inl x) :: ls) (st) h Q) = (WP Gm j_Traffic_goBy 29 (a0 :: some (.inl x) :: ls) (.inl x :: st) (h) Q) := (WP_at c_Traffic_goBy_28 _ _ _ _)
theorem c_Traffic_goBy_29 : mCode j_Traffic_goBy 29 = oIld 2 30 := rfl
theorem e_Traffic_goBy_29 (a0 a1 : Option MV) (x : Int32) : (WP Gm j_Traffic_goBy 29 (a0 :: a1 :: some (.inl x) :: ls) (st) h Q) = (WP Gm j_Traffic_goBy 30 (a0 :: a1 :: some (.inl x) :: ls) (.inl x :: st) (h) Q) := (WP_at c_Traffic_goBy_29 _ _ _ _)
theorem c_Traffic_goBy_30 : mCode j_Traffic_goBy 30 = oCallS j_S_isIn 2 (mL j_S_isIn) 33 := rfl
theorem e_Traffic_goBy_30 (x0 : Int32) (x1 : Int32) (hc : c8 st = true) : (WP Gm j_Traffic_goBy 30 (ls) (.inl x1 :: .inl x0 :: st) h Q) = (WP Gm j_S_isIn 0 [some (.inl x0), some (.inl x1)] [] h (kC (fun v h2 => WP Gm j_Traffic_goBy 33 ls (v.toList ++ st) h2 Q) (fun E h2 => Q (.inr E) h2))) := (WP_at c_Traffic_goBy_30 _ _ _ _).trans (congrArg (fun o => ndX Gm (WP Gm) j_Traffic_goBy 30 o Q) (if_pos (by rw [show decide (catS st ≤ 8) = true from hc]; rfl)))
theorem c_Traffic_goBy_33 : mCode j_Traffic_goBy 33 = oIf (fun x => decide (¬ x = 0)) 53 36 := rfl
theorem e_Traffic_goBy_33 (x : Int32) : (WP Gm j_Traffic_goBy 33 (ls) (.inl x :: st) h Q) = (if ¬ x = 0 then WP Gm j_Traffic_goBy 53 (ls) (st) (h) Q else WP Gm j_Traffic_goBy 36 (ls) (st) (h) Q) := (WP_at c_Traffic_goBy_33 _ _ _ _).trans (nd_if rfl _ _ _ _)
theorem c_Traffic_goBy_36 : mCode j_Traffic_goBy 36 = oAld 0 37 := rfl
theorem e_Traffic_goBy_36 (x : Option Nat) : (WP Gm j_Traffic_goBy 36 (some (.inr (.inl x)) :: ls) (st) h Q) = (WP Gm j_Traffic_goBy 37 (some (.inr (.inl x)) :: ls) (.inr (.inl x) :: st) (h) Q) := (WP_at c_Traffic_goBy_36 _ _ _ _)
theorem c_Traffic_goBy_37 : mCode j_Traffic_goBy 37 = oGetR kc_Traffic 0 40 := rfl
theorem e_Traffic_goBy_37 (a : Nat) (hk : isK h a kc_Traffic = true) : (WP Gm j_Traffic_goBy 37 (ls) (.inr (.inl (some a)) :: st) h Q) = (WP Gm j_Traffic_goBy 40 (ls) (.inr (.inl (gR h a 0)) :: st) (h) Q) := (WP_at c_Traffic_goBy_37 _ _ _ _).trans (congrArg (fun o => ndX Gm (WP Gm) j_Traffic_goBy 37 o Q) (if_pos hk))
theorem c_Traffic_goBy_40 : mCode j_Traffic_goBy 40 = oIld 2 41 := rfl
theorem e_Traffic_goBy_40 (a0 a1 : Option MV) (x : Int32) : (WP Gm j_Traffic_goBy 40 (a0 :: a1 :: some (.inl x) :: ls) (st) h Q) = (WP Gm j_Traffic_goBy 41 (a0 :: a1 :: some (.inl x) :: ls) (.inl x :: st) (h) Q) := (WP_at c_Traffic_goBy_40 _ _ _ _)
theorem c_Traffic_goBy_41 : mCode j_Traffic_goBy 41 = oIld 1 42 := rfl
theorem e_Traffic_goBy_41 (a0 : Option MV) (x : Int32) : (WP Gm j_Traffic_goBy 41 (a0 :: some (.inl x) :: ls) (st) h Q) = (WP Gm j_Traffic_goBy 42 (a0 :: some (.inl x) :: ls) (.inl x :: st) (h) Q) := (WP_at c_Traffic_goBy_41 _ _ _ _)
theorem c_Traffic_goBy_42 : mCode j_Traffic_goBy 42 = oCallV kc_Land j_Land_hearsOneOf 2 (mL j_Land_hearsOneOf) 45 := rfl
theorem e_Traffic_goBy_42 (a : Nat) (x0 : Int32) (x1 : Int32) (hk : isK h a kc_Land = true) (hc : c8 st = true) : (WP Gm j_Traffic_goBy 42 (ls) (.inl x1 :: .inl x0 :: .inr (.inl (some a)) :: st) h Q) = (WP Gm j_Land_hearsOneOf 0 [some (.inr (.inl (some a))), some (.inl x0), some (.inl x1), none] [] h (kC (fun v h2 => WP Gm j_Traffic_goBy 45 ls (v.toList ++ st) h2 Q) (fun E h2 => Q (.inr E) h2))) := (WP_at c_Traffic_goBy_42 _ _ _ _).trans (congrArg (fun o => ndX Gm (WP Gm) j_Traffic_goBy 42 o Q) (if_pos (by rw [hk, show decide (catS st ≤ 8) = true from hc]; rfl)))
theorem c_Traffic_goBy_45 : mCode j_Traffic_goBy 45 = oIf (fun x => decide (¬ x = 0)) 53 48 := rfl
theorem e_Traffic_goBy_45 (x : Int32) : (WP Gm j_Traffic_goBy 45 (ls) (.inl x :: st) h Q) = (if ¬ x = 0 then WP Gm j_Traffic_goBy 53 (ls) (st) (h) Q else WP Gm j_Traffic_goBy 48 (ls) (st) (h) Q) := (WP_at c_Traffic_goBy_45 _ _ _ _).trans (nd_if rfl _ _ _ _)
theorem c_Traffic_goBy_48 : mCode j_Traffic_goBy 48 = oAld 0 49 := rfl
theorem e_Traffic_goBy_48 (x : Option Nat) : (WP Gm j_Traffic_goBy 48 (some (.inr (.inl x)) :: ls) (st) h Q) = (WP Gm j_Traffic_goBy 49 (some (.inr (.inl x)) :: ls) (.inr (.inl x) :: st) (h) Q) := (WP_at c_Traffic_goBy_48 _ _ _ _)
theorem c_Traffic_goBy_49 : mCode j_Traffic_goBy 49 = oIld 2 50 := rfl
theorem e_Traffic_goBy_49 (a0 a1 : Option MV) (x : Int32) : (WP Gm j_Traffic_goBy 49 (a0 :: a1 :: some (.inl x) :: ls) (st) h Q) = (WP Gm j_Traffic_goBy 50 (a0 :: a1 :: some (.inl x) :: ls) (.inl x :: st) (h) Q) := (WP_at c_Traffic_goBy_49 _ _ _ _)
theorem c_Traffic_goBy_50 : mCode j_Traffic_goBy 50 = oCallV kc_Traffic j_Traffic_takeTurn 1 (mL j_Traffic_takeTurn) 53 := rfl
theorem e_Traffic_goBy_50 (a : Nat) (x0 : Int32) (hk : isK h a kc_Traffic = true) (hc : c8 st = true) : (WP Gm j_Traffic_goBy 50 (ls) (.inl x0 :: .inr (.inl (some a)) :: st) h Q) = (WP Gm j_Traffic_takeTurn 0 [some (.inr (.inl (some a))), some (.inl x0), none, none, none] [] h (kC (fun v h2 => WP Gm j_Traffic_goBy 53 ls (v.toList ++ st) h2 Q) (fun E h2 => Q (.inr E) h2))) := (WP_at c_Traffic_goBy_50 _ _ _ _).trans (congrArg (fun o => ndX Gm (WP Gm) j_Traffic_goBy 50 o Q) (if_pos (by rw [hk, show decide (catS st ≤ 8) = true from hc]; rfl)))
theorem c_Traffic_goBy_53 : mCode j_Traffic_goBy 53 = oInc 2 1 56 := rfl
theorem e_Traffic_goBy_53 (a0 a1 : Option MV) (x : Int32) : (WP Gm j_Traffic_goBy 53 (a0 :: a1 :: some (.inl x) :: ls) (st) h Q) = (WP Gm j_Traffic_goBy 56 (lSet1 (a0 :: a1 :: some (.inl x) :: ls) 2 (some (.inl (x + 1)))) (st) (h) Q) := (WP_at c_Traffic_goBy_53 _ _ _ _)
theorem c_Traffic_goBy_56 : mCode j_Traffic_goBy 56 = oGo 17 := rfl
theorem e_Traffic_goBy_56  : (WP Gm j_Traffic_goBy 56 (ls) (st) h Q) = (WP Gm j_Traffic_goBy 17 (ls) (st) (h) Q) := (WP_at c_Traffic_goBy_56 _ _ _ _)
theorem c_Traffic_goBy_59 : mCode j_Traffic_goBy 59 = oAld 0 60 := rfl
theorem e_Traffic_goBy_59 (x : Option Nat) : (WP Gm j_Traffic_goBy 59 (some (.inr (.inl x)) :: ls) (st) h Q) = (WP Gm j_Traffic_goBy 60 (some (.inr (.inl x)) :: ls) (.inr (.inl x) :: st) (h) Q) := (WP_at c_Traffic_goBy_59 _ _ _ _)
theorem c_Traffic_goBy_60 : mCode j_Traffic_goBy 60 = oCallV kc_Traffic j_Traffic_senders 0 (mL j_Traffic_senders) 63 := rfl
theorem e_Traffic_goBy_60 (a : Nat) (hk : isK h a kc_Traffic = true) (hc : c8 st = true) : (WP Gm j_Traffic_goBy 60 (ls) (.inr (.inl (some a)) :: st) h Q) = (WP Gm j_Traffic_senders 0 [some (.inr (.inl (some a))), none, none] [] h (kC (fun v h2 => WP Gm j_Traffic_goBy 63 ls (v.toList ++ st) h2 Q) (fun E h2 => Q (.inr E) h2))) := (WP_at c_Traffic_goBy_60 _ _ _ _).trans (congrArg (fun o => ndX Gm (WP Gm) j_Traffic_goBy 60 o Q) (if_pos (by rw [hk, show decide (catS st ≤ 8) = true from hc]; rfl)))
theorem c_Traffic_goBy_63 : mCode j_Traffic_goBy 63 = oIst 2 64 := rfl
theorem e_Traffic_goBy_63 (x : Int32) : (WP Gm j_Traffic_goBy 63 (ls) (.inl x :: st) h Q) = (WP Gm j_Traffic_goBy 64 (lSet1 ls 2 (some (.inl x))) (st) (h) Q) := (WP_at c_Traffic_goBy_63 _ _ _ _)
theorem c_Traffic_goBy_64 : mCode j_Traffic_goBy 64 = oI 0 65 := rfl
theorem e_Traffic_goBy_64  : (WP Gm j_Traffic_goBy 64 (ls) (st) h Q) = (WP Gm j_Traffic_goBy 65 (ls) (.inl 0 :: st) (h) Q) := (WP_at c_Traffic_goBy_64 _ _ _ _)
theorem c_Traffic_goBy_65 : mCode j_Traffic_goBy 65 = oIst 3 66 := rfl
theorem e_Traffic_goBy_65 (x : Int32) : (WP Gm j_Traffic_goBy 65 (ls) (.inl x :: st) h Q) = (WP Gm j_Traffic_goBy 66 (lSet1 ls 3 (some (.inl x))) (st) (h) Q) := (WP_at c_Traffic_goBy_65 _ _ _ _)
theorem c_Traffic_goBy_66 : mCode j_Traffic_goBy 66 = oIld 3 67 := rfl
theorem e_Traffic_goBy_66 (a0 a1 a2 : Option MV) (x : Int32) : (WP Gm j_Traffic_goBy 66 (a0 :: a1 :: a2 :: some (.inl x) :: ls) (st) h Q) = (WP Gm j_Traffic_goBy 67 (a0 :: a1 :: a2 :: some (.inl x) :: ls) (.inl x :: st) (h) Q) := (WP_at c_Traffic_goBy_66 _ _ _ _)
theorem c_Traffic_goBy_67 : mCode j_Traffic_goBy 67 = oAld 0 68 := rfl
theorem e_Traffic_goBy_67 (x : Option Nat) : (WP Gm j_Traffic_goBy 67 (some (.inr (.inl x)) :: ls) (st) h Q) = (WP Gm j_Traffic_goBy 68 (some (.inr (.inl x)) :: ls) (.inr (.inl x) :: st) (h) Q) := (WP_at c_Traffic_goBy_67 _ _ _ _)
theorem c_Traffic_goBy_68 : mCode j_Traffic_goBy 68 = oGetR kc_Traffic 0 71 := rfl
theorem e_Traffic_goBy_68 (a : Nat) (hk : isK h a kc_Traffic = true) : (WP Gm j_Traffic_goBy 68 (ls) (.inr (.inl (some a)) :: st) h Q) = (WP Gm j_Traffic_goBy 71 (ls) (.inr (.inl (gR h a 0)) :: st) (h) Q) := (WP_at c_Traffic_goBy_68 _ _ _ _).trans (congrArg (fun o => ndX Gm (WP Gm) j_Traffic_goBy 68 o Q) (if_pos hk))
theorem c_Traffic_goBy_71 : mCode j_Traffic_goBy 71 = oGetI kc_Land 2 74 := rfl
theorem e_Traffic_goBy_71 (a : Nat) (hk : isK h a kc_Land = true) : (WP Gm j_Traffic_goBy 71 (ls) (.inr (.inl (some a)) :: st) h Q) = (WP Gm j_Traffic_goBy 74 (ls) (.inl (gI h a 2) :: st) (h) Q) := (WP_at c_Traffic_goBy_71 _ _ _ _).trans (congrArg (fun o => ndX Gm (WP Gm) j_Traffic_goBy 71 o Q) (if_pos hk))
theorem c_Traffic_goBy_74 : mCode j_Traffic_goBy 74 = oIC (fun x y => decide (y ≤ x)) 97 77 := rfl
theorem e_Traffic_goBy_74 (x y : Int32) : (WP Gm j_Traffic_goBy 74 (ls) (.inl y :: .inl x :: st) h Q) = (if y ≤ x then WP Gm j_Traffic_goBy 97 (ls) (st) (h) Q else WP Gm j_Traffic_goBy 77 (ls) (st) (h) Q) := (WP_at c_Traffic_goBy_74 _ _ _ _).trans (nd_ic rfl _ _ _ _)
theorem c_Traffic_goBy_77 : mCode j_Traffic_goBy 77 = oIld 2 78 := rfl
theorem e_Traffic_goBy_77 (a0 a1 : Option MV) (x : Int32) : (WP Gm j_Traffic_goBy 77 (a0 :: a1 :: some (.inl x) :: ls) (st) h Q) = (WP Gm j_Traffic_goBy 78 (a0 :: a1 :: some (.inl x) :: ls) (.inl x :: st) (h) Q) := (WP_at c_Traffic_goBy_77 _ _ _ _)
theorem c_Traffic_goBy_78 : mCode j_Traffic_goBy 78 = oIld 3 79 := rfl
theorem e_Traffic_goBy_78 (a0 a1 a2 : Option MV) (x : Int32) : (WP Gm j_Traffic_goBy 78 (a0 :: a1 :: a2 :: some (.inl x) :: ls) (st) h Q) = (WP Gm j_Traffic_goBy 79 (a0 :: a1 :: a2 :: some (.inl x) :: ls) (.inl x :: st) (h) Q) := (WP_at c_Traffic_goBy_78 _ _ _ _)
theorem c_Traffic_goBy_79 : mCode j_Traffic_goBy 79 = oCallS j_S_isIn 2 (mL j_S_isIn) 82 := rfl
theorem e_Traffic_goBy_79 (x0 : Int32) (x1 : Int32) (hc : c8 st = true) : (WP Gm j_Traffic_goBy 79 (ls) (.inl x1 :: .inl x0 :: st) h Q) = (WP Gm j_S_isIn 0 [some (.inl x0), some (.inl x1)] [] h (kC (fun v h2 => WP Gm j_Traffic_goBy 82 ls (v.toList ++ st) h2 Q) (fun E h2 => Q (.inr E) h2))) := (WP_at c_Traffic_goBy_79 _ _ _ _).trans (congrArg (fun o => ndX Gm (WP Gm) j_Traffic_goBy 79 o Q) (if_pos (by rw [show decide (catS st ≤ 8) = true from hc]; rfl)))
theorem c_Traffic_goBy_82 : mCode j_Traffic_goBy 82 = oIf (fun x => decide (x = 0)) 91 85 := rfl
theorem e_Traffic_goBy_82 (x : Int32) : (WP Gm j_Traffic_goBy 82 (ls) (.inl x :: st) h Q) = (if x = 0 then WP Gm j_Traffic_goBy 91 (ls) (st) (h) Q else WP Gm j_Traffic_goBy 85 (ls) (st) (h) Q) := (WP_at c_Traffic_goBy_82 _ _ _ _).trans (nd_if rfl _ _ _ _)
theorem c_Traffic_goBy_85 : mCode j_Traffic_goBy 85 = oAld 0 86 := rfl
theorem e_Traffic_goBy_85 (x : Option Nat) : (WP Gm j_Traffic_goBy 85 (some (.inr (.inl x)) :: ls) (st) h Q) = (WP Gm j_Traffic_goBy 86 (some (.inr (.inl x)) :: ls) (.inr (.inl x) :: st) (h) Q) := (WP_at c_Traffic_goBy_85 _ _ _ _)
theorem c_Traffic_goBy_86 : mCode j_Traffic_goBy 86 = oIld 3 87 := rfl
theorem e_Traffic_goBy_86 (a0 a1 a2 : Option MV) (x : Int32) : (WP Gm j_Traffic_goBy 86 (a0 :: a1 :: a2 :: some (.inl x) :: ls) (st) h Q) = (WP Gm j_Traffic_goBy 87 (a0 :: a1 :: a2 :: some (.inl x) :: ls) (.inl x :: st) (h) Q) := (WP_at c_Traffic_goBy_86 _ _ _ _)
theorem c_Traffic_goBy_87 : mCode j_Traffic_goBy 87 = oIld 2 88 := rfl
theorem e_Traffic_goBy_87 (a0 a1 : Option MV) (x : Int32) : (WP Gm j_Traffic_goBy 87 (a0 :: a1 :: some (.inl x) :: ls) (st) h Q) = (WP Gm j_Traffic_goBy 88 (a0 :: a1 :: some (.inl x) :: ls) (.inl x :: st) (h) Q) := (WP_at c_Traffic_goBy_87 _ _ _ _)
theorem c_Traffic_goBy_88 : mCode j_Traffic_goBy 88 = oCallV kc_Traffic j_Traffic_goOn 2 (mL j_Traffic_goOn) 91 := rfl
theorem e_Traffic_goBy_88 (a : Nat) (x0 : Int32) (x1 : Int32) (hk : isK h a kc_Traffic = true) (hc : c8 st = true) : (WP Gm j_Traffic_goBy 88 (ls) (.inl x1 :: .inl x0 :: .inr (.inl (some a)) :: st) h Q) = (WP Gm j_Traffic_goOn 0 [some (.inr (.inl (some a))), some (.inl x0), some (.inl x1), none] [] h (kC (fun v h2 => WP Gm j_Traffic_goBy 91 ls (v.toList ++ st) h2 Q) (fun E h2 => Q (.inr E) h2))) := (WP_at c_Traffic_goBy_88 _ _ _ _).trans (congrArg (fun o => ndX Gm (WP Gm) j_Traffic_goBy 88 o Q) (if_pos (by rw [hk, show decide (catS st ≤ 8) = true from hc]; rfl)))
theorem c_Traffic_goBy_91 : mCode j_Traffic_goBy 91 = oInc 3 1 94 := rfl
theorem e_Traffic_goBy_91 (a0 a1 a2 : Option MV) (x : Int32) : (WP Gm j_Traffic_goBy 91 (a0 :: a1 :: a2 :: some (.inl x) :: ls) (st) h Q) = (WP Gm j_Traffic_goBy 94 (lSet1 (a0 :: a1 :: a2 :: some (.inl x) :: ls) 3 (some (.inl (x + 1)))) (st) (h) Q) := (WP_at c_Traffic_goBy_91 _ _ _ _)
theorem c_Traffic_goBy_94 : mCode j_Traffic_goBy 94 = oGo 66 := rfl
theorem e_Traffic_goBy_94  : (WP Gm j_Traffic_goBy 94 (ls) (st) h Q) = (WP Gm j_Traffic_goBy 66 (ls) (st) (h) Q) := (WP_at c_Traffic_goBy_94 _ _ _ _)
theorem c_Traffic_goBy_97 : mCode j_Traffic_goBy 97 = oI 0 98 := rfl
theorem e_Traffic_goBy_97  : (WP Gm j_Traffic_goBy 97 (ls) (st) h Q) = (WP Gm j_Traffic_goBy 98 (ls) (.inl 0 :: st) (h) Q) := (WP_at c_Traffic_goBy_97 _ _ _ _)
theorem c_Traffic_goBy_98 : mCode j_Traffic_goBy 98 = oIst 3 99 := rfl
theorem e_Traffic_goBy_98 (x : Int32) : (WP Gm j_Traffic_goBy 98 (ls) (.inl x :: st) h Q) = (WP Gm j_Traffic_goBy 99 (lSet1 ls 3 (some (.inl x))) (st) (h) Q) := (WP_at c_Traffic_goBy_98 _ _ _ _)
theorem c_Traffic_goBy_99 : mCode j_Traffic_goBy 99 = oIld 3 100 := rfl
theorem e_Traffic_goBy_99 (a0 a1 a2 : Option MV) (x : Int32) : (WP Gm j_Traffic_goBy 99 (a0 :: a1 :: a2 :: some (.inl x) :: ls) (st) h Q) = (WP Gm j_Traffic_goBy 100 (a0 :: a1 :: a2 :: some (.inl x) :: ls) (.inl x :: st) (h) Q) := (WP_at c_Traffic_goBy_99 _ _ _ _)
theorem c_Traffic_goBy_100 : mCode j_Traffic_goBy 100 = oAld 0 101 := rfl
theorem e_Traffic_goBy_100 (x : Option Nat) : (WP Gm j_Traffic_goBy 100 (some (.inr (.inl x)) :: ls) (st) h Q) = (WP Gm j_Traffic_goBy 101 (some (.inr (.inl x)) :: ls) (.inr (.inl x) :: st) (h) Q) := (WP_at c_Traffic_goBy_100 _ _ _ _)
theorem c_Traffic_goBy_101 : mCode j_Traffic_goBy 101 = oGetR kc_Traffic 0 104 := rfl
theorem e_Traffic_goBy_101 (a : Nat) (hk : isK h a kc_Traffic = true) : (WP Gm j_Traffic_goBy 101 (ls) (.inr (.inl (some a)) :: st) h Q) = (WP Gm j_Traffic_goBy 104 (ls) (.inr (.inl (gR h a 0)) :: st) (h) Q) := (WP_at c_Traffic_goBy_101 _ _ _ _).trans (congrArg (fun o => ndX Gm (WP Gm) j_Traffic_goBy 101 o Q) (if_pos hk))
theorem c_Traffic_goBy_104 : mCode j_Traffic_goBy 104 = oGetI kc_Land 2 107 := rfl
theorem e_Traffic_goBy_104 (a : Nat) (hk : isK h a kc_Land = true) : (WP Gm j_Traffic_goBy 104 (ls) (.inr (.inl (some a)) :: st) h Q) = (WP Gm j_Traffic_goBy 107 (ls) (.inl (gI h a 2) :: st) (h) Q) := (WP_at c_Traffic_goBy_104 _ _ _ _).trans (congrArg (fun o => ndX Gm (WP Gm) j_Traffic_goBy 104 o Q) (if_pos hk))
theorem c_Traffic_goBy_107 : mCode j_Traffic_goBy 107 = oIC (fun x y => decide (y ≤ x)) 144 110 := rfl
theorem e_Traffic_goBy_107 (x y : Int32) : (WP Gm j_Traffic_goBy 107 (ls) (.inl y :: .inl x :: st) h Q) = (if y ≤ x then WP Gm j_Traffic_goBy 144 (ls) (st) (h) Q else WP Gm j_Traffic_goBy 110 (ls) (st) (h) Q) := (WP_at c_Traffic_goBy_107 _ _ _ _).trans (nd_ic rfl _ _ _ _)
theorem c_Traffic_goBy_110 : mCode j_Traffic_goBy 110 = oIld 2 111 := rfl
theorem e_Traffic_goBy_110 (a0 a1 : Option MV) (x : Int32) : (WP Gm j_Traffic_goBy 110 (a0 :: a1 :: some (.inl x) :: ls) (st) h Q) = (WP Gm j_Traffic_goBy 111 (a0 :: a1 :: some (.inl x) :: ls) (.inl x :: st) (h) Q) := (WP_at c_Traffic_goBy_110 _ _ _ _)
theorem c_Traffic_goBy_111 : mCode j_Traffic_goBy 111 = oIld 3 112 := rfl
theorem e_Traffic_goBy_111 (a0 a1 a2 : Option MV) (x : Int32) : (WP Gm j_Traffic_goBy 111 (a0 :: a1 :: a2 :: some (.inl x) :: ls) (st) h Q) = (WP Gm j_Traffic_goBy 112 (a0 :: a1 :: a2 :: some (.inl x) :: ls) (.inl x :: st) (h) Q) := (WP_at c_Traffic_goBy_111 _ _ _ _)
theorem c_Traffic_goBy_112 : mCode j_Traffic_goBy 112 = oCallS j_S_isIn 2 (mL j_S_isIn) 115 := rfl
theorem e_Traffic_goBy_112 (x0 : Int32) (x1 : Int32) (hc : c8 st = true) : (WP Gm j_Traffic_goBy 112 (ls) (.inl x1 :: .inl x0 :: st) h Q) = (WP Gm j_S_isIn 0 [some (.inl x0), some (.inl x1)] [] h (kC (fun v h2 => WP Gm j_Traffic_goBy 115 ls (v.toList ++ st) h2 Q) (fun E h2 => Q (.inr E) h2))) := (WP_at c_Traffic_goBy_112 _ _ _ _).trans (congrArg (fun o => ndX Gm (WP Gm) j_Traffic_goBy 112 o Q) (if_pos (by rw [show decide (catS st ≤ 8) = true from hc]; rfl)))
theorem c_Traffic_goBy_115 : mCode j_Traffic_goBy 115 = oIf (fun x => decide (x = 0)) 138 118 := rfl
theorem e_Traffic_goBy_115 (x : Int32) : (WP Gm j_Traffic_goBy 115 (ls) (.inl x :: st) h Q) = (if x = 0 then WP Gm j_Traffic_goBy 138 (ls) (st) (h) Q else WP Gm j_Traffic_goBy 118 (ls) (st) (h) Q) := (WP_at c_Traffic_goBy_115 _ _ _ _).trans (nd_if rfl _ _ _ _)
theorem c_Traffic_goBy_118 : mCode j_Traffic_goBy 118 = oAld 0 119 := rfl
theorem e_Traffic_goBy_118 (x : Option Nat) : (WP Gm j_Traffic_goBy 118 (some (.inr (.inl x)) :: ls) (st) h Q) = (WP Gm j_Traffic_goBy 119 (some (.inr (.inl x)) :: ls) (.inr (.inl x) :: st) (h) Q) := (WP_at c_Traffic_goBy_118 _ _ _ _)
theorem c_Traffic_goBy_119 : mCode j_Traffic_goBy 119 = oGetR kc_Traffic 0 122 := rfl
theorem e_Traffic_goBy_119 (a : Nat) (hk : isK h a kc_Traffic = true) : (WP Gm j_Traffic_goBy 119 (ls) (.inr (.inl (some a)) :: st) h Q) = (WP Gm j_Traffic_goBy 122 (ls) (.inr (.inl (gR h a 0)) :: st) (h) Q) := (WP_at c_Traffic_goBy_119 _ _ _ _).trans (congrArg (fun o => ndX Gm (WP Gm) j_Traffic_goBy 119 o Q) (if_pos hk))
theorem c_Traffic_goBy_122 : mCode j_Traffic_goBy 122 = oGetR kc_Land 0 125 := rfl
theorem e_Traffic_goBy_122 (a : Nat) (hk : isK h a kc_Land = true) : (WP Gm j_Traffic_goBy 122 (ls) (.inr (.inl (some a)) :: st) h Q) = (WP Gm j_Traffic_goBy 125 (ls) (.inr (.inl (gR h a 0)) :: st) (h) Q) := (WP_at c_Traffic_goBy_122 _ _ _ _).trans (congrArg (fun o => ndX Gm (WP Gm) j_Traffic_goBy 122 o Q) (if_pos hk))
theorem c_Traffic_goBy_125 : mCode j_Traffic_goBy 125 = oIld 3 126 := rfl
theorem e_Traffic_goBy_125 (a0 a1 a2 : Option MV) (x : Int32) : (WP Gm j_Traffic_goBy 125 (a0 :: a1 :: a2 :: some (.inl x) :: ls) (st) h Q) = (WP Gm j_Traffic_goBy 126 (a0 :: a1 :: a2 :: some (.inl x) :: ls) (.inl x :: st) (h) Q) := (WP_at c_Traffic_goBy_125 _ _ _ _)
theorem c_Traffic_goBy_126 : mCode j_Traffic_goBy 126 = oAal 2 127 := rfl
theorem e_Traffic_goBy_126 (a : Nat) (i : Int32) (hk : isK h a 102 = true) (hi : inL h a i = true) : (WP Gm j_Traffic_goBy 126 (ls) (.inl i :: .inr (.inl (some a)) :: st) h Q) = (WP Gm j_Traffic_goBy 127 (ls) (.inr (.inl (gR h a i.toNatClampNeg)) :: st) (h) Q) := (WP_at c_Traffic_goBy_126 _ _ _ _).trans (congrArg (fun o => ndX Gm (WP Gm) j_Traffic_goBy 126 o Q) (if_pos (by rw [hk, hi]; rfl)))
theorem c_Traffic_goBy_127 : mCode j_Traffic_goBy 127 = oCallV kc_Node j_Node_isSending 0 (mL j_Node_isSending) 130 := rfl
theorem e_Traffic_goBy_127 (a : Nat) (hk : isK h a kc_Node = true) (hc : c8 st = true) : (WP Gm j_Traffic_goBy 127 (ls) (.inr (.inl (some a)) :: st) h Q) = (WP Gm j_Node_isSending 0 [some (.inr (.inl (some a)))] [] h (kC (fun v h2 => WP Gm j_Traffic_goBy 130 ls (v.toList ++ st) h2 Q) (fun E h2 => Q (.inr E) h2))) := (WP_at c_Traffic_goBy_127 _ _ _ _).trans (congrArg (fun o => ndX Gm (WP Gm) j_Traffic_goBy 127 o Q) (if_pos (by rw [hk, show decide (catS st ≤ 8) = true from hc]; rfl)))
theorem c_Traffic_goBy_130 : mCode j_Traffic_goBy 130 = oIf (fun x => decide (¬ x = 0)) 138 133 := rfl
theorem e_Traffic_goBy_130 (x : Int32) : (WP Gm j_Traffic_goBy 130 (ls) (.inl x :: st) h Q) = (if ¬ x = 0 then WP Gm j_Traffic_goBy 138 (ls) (st) (h) Q else WP Gm j_Traffic_goBy 133 (ls) (st) (h) Q) := (WP_at c_Traffic_goBy_130 _ _ _ _).trans (nd_if rfl _ _ _ _)
theorem c_Traffic_goBy_133 : mCode j_Traffic_goBy 133 = oAld 0 134 := rfl
theorem e_Traffic_goBy_133 (x : Option Nat) : (WP Gm j_Traffic_goBy 133 (some (.inr (.inl x)) :: ls) (st) h Q) = (WP Gm j_Traffic_goBy 134 (some (.inr (.inl x)) :: ls) (.inr (.inl x) :: st) (h) Q) := (WP_at c_Traffic_goBy_133 _ _ _ _)
theorem c_Traffic_goBy_134 : mCode j_Traffic_goBy 134 = oIld 3 135 := rfl
theorem e_Traffic_goBy_134 (a0 a1 a2 : Option MV) (x : Int32) : (WP Gm j_Traffic_goBy 134 (a0 :: a1 :: a2 :: some (.inl x) :: ls) (st) h Q) = (WP Gm j_Traffic_goBy 135 (a0 :: a1 :: a2 :: some (.inl x) :: ls) (.inl x :: st) (h) Q) := (WP_at c_Traffic_goBy_134 _ _ _ _)
theorem c_Traffic_goBy_135 : mCode j_Traffic_goBy 135 = oCallV kc_Traffic j_Traffic_end 1 (mL j_Traffic_end) 138 := rfl
theorem e_Traffic_goBy_135 (a : Nat) (x0 : Int32) (hk : isK h a kc_Traffic = true) (hc : c8 st = true) : (WP Gm j_Traffic_goBy 135 (ls) (.inl x0 :: .inr (.inl (some a)) :: st) h Q) = (WP Gm j_Traffic_end 0 [some (.inr (.inl (some a))), some (.inl x0), none, none, none] [] h (kC (fun v h2 => WP Gm j_Traffic_goBy 138 ls (v.toList ++ st) h2 Q) (fun E h2 => Q (.inr E) h2))) := (WP_at c_Traffic_goBy_135 _ _ _ _).trans (congrArg (fun o => ndX Gm (WP Gm) j_Traffic_goBy 135 o Q) (if_pos (by rw [hk, show decide (catS st ≤ 8) = true from hc]; rfl)))
theorem c_Traffic_goBy_138 : mCode j_Traffic_goBy 138 = oInc 3 1 141 := rfl
theorem e_Traffic_goBy_138 (a0 a1 a2 : Option MV) (x : Int32) : (WP Gm j_Traffic_goBy 138 (a0 :: a1 :: a2 :: some (.inl x) :: ls) (st) h Q) = (WP Gm j_Traffic_goBy 141 (lSet1 (a0 :: a1 :: a2 :: some (.inl x) :: ls) 3 (some (.inl (x + 1)))) (st) (h) Q) := (WP_at c_Traffic_goBy_138 _ _ _ _)
theorem c_Traffic_goBy_141 : mCode j_Traffic_goBy 141 = oGo 99 := rfl
theorem e_Traffic_goBy_141  : (WP Gm j_Traffic_goBy 141 (ls) (st) h Q) = (WP Gm j_Traffic_goBy 99 (ls) (st) (h) Q) := (WP_at c_Traffic_goBy_141 _ _ _ _)
theorem c_Traffic_goBy_144 : mCode j_Traffic_goBy 144 = oRet := rfl
theorem e_Traffic_goBy_144  : (WP Gm j_Traffic_goBy 144 (ls) ([]) h Q) = (Q (.inl none) h) := (WP_at c_Traffic_goBy_144 _ _ _ _)
theorem c_Traffic_takeTurn_0 : mCode j_Traffic_takeTurn 0 = oAld 0 1 := rfl
theorem e_Traffic_takeTurn_0 (x : Option Nat) : (WP Gm j_Traffic_takeTurn 0 (some (.inr (.inl x)) :: ls) (st) h Q) = (WP Gm j_Traffic_takeTurn 1 (some (.inr (.inl x)) :: ls) (.inr (.inl x) :: st) (h) Q) := (WP_at c_Traffic_takeTurn_0 _ _ _ _)
theorem c_Traffic_takeTurn_1 : mCode j_Traffic_takeTurn 1 = oGetR kc_Traffic 0 4 := rfl
theorem e_Traffic_takeTurn_1 (a : Nat) (hk : isK h a kc_Traffic = true) : (WP Gm j_Traffic_takeTurn 1 (ls) (.inr (.inl (some a)) :: st) h Q) = (WP Gm j_Traffic_takeTurn 4 (ls) (.inr (.inl (gR h a 0)) :: st) (h) Q) := (WP_at c_Traffic_takeTurn_1 _ _ _ _).trans (congrArg (fun o => ndX Gm (WP Gm) j_Traffic_takeTurn 1 o Q) (if_pos hk))
theorem c_Traffic_takeTurn_4 : mCode j_Traffic_takeTurn 4 = oGetR kc_Land 0 7 := rfl
theorem e_Traffic_takeTurn_4 (a : Nat) (hk : isK h a kc_Land = true) : (WP Gm j_Traffic_takeTurn 4 (ls) (.inr (.inl (some a)) :: st) h Q) = (WP Gm j_Traffic_takeTurn 7 (ls) (.inr (.inl (gR h a 0)) :: st) (h) Q) := (WP_at c_Traffic_takeTurn_4 _ _ _ _).trans (congrArg (fun o => ndX Gm (WP Gm) j_Traffic_takeTurn 4 o Q) (if_pos hk))
theorem c_Traffic_takeTurn_7 : mCode j_Traffic_takeTurn 7 = oIld 1 8 := rfl
theorem e_Traffic_takeTurn_7 (a0 : Option MV) (x : Int32) : (WP Gm j_Traffic_takeTurn 7 (a0 :: some (.inl x) :: ls) (st) h Q) = (WP Gm j_Traffic_takeTurn 8 (a0 :: some (.inl x) :: ls) (.inl x :: st) (h) Q) := (WP_at c_Traffic_takeTurn_7 _ _ _ _)
theorem c_Traffic_takeTurn_8 : mCode j_Traffic_takeTurn 8 = oAal 2 9 := rfl
theorem e_Traffic_takeTurn_8 (a : Nat) (i : Int32) (hk : isK h a 102 = true) (hi : inL h a i = true) : (WP Gm j_Traffic_takeTurn 8 (ls) (.inl i :: .inr (.inl (some a)) :: st) h Q) = (WP Gm j_Traffic_takeTurn 9 (ls) (.inr (.inl (gR h a i.toNatClampNeg)) :: st) (h) Q) := (WP_at c_Traffic_takeTurn_8 _ _ _ _).trans (congrArg (fun o => ndX Gm (WP Gm) j_Traffic_takeTurn 8 o Q) (if_pos (by rw [hk, hi]; rfl)))
theorem c_Traffic_takeTurn_9 : mCode j_Traffic_takeTurn 9 = oAst 2 10 := rfl
theorem e_Traffic_takeTurn_9 (x : Option Nat) : (WP Gm j_Traffic_takeTurn 9 (ls) (.inr (.inl x) :: st) h Q) = (WP Gm j_Traffic_takeTurn 10 (lSet1 ls 2 (some (.inr (.inl x)))) (st) (h) Q) := (WP_at c_Traffic_takeTurn_9 _ _ _ _)
theorem c_Traffic_takeTurn_10 : mCode j_Traffic_takeTurn 10 = oAld 2 11 := rfl
theorem e_Traffic_takeTurn_10 (a0 a1 : Option MV) (x : Option Nat) : (WP Gm j_Traffic_takeTurn 10 (a0 :: a1 :: some (.inr (.inl x)) :: ls) (st) h Q) = (WP Gm j_Traffic_takeTurn 11 (a0 :: a1 :: some (.inr (.inl x)) :: ls) (.inr (.inl x) :: st) (h) Q) := (WP_at c_Traffic_takeTurn_10 _ _ _ _)
theorem c_Traffic_takeTurn_11 : mCode j_Traffic_takeTurn 11 = oGetR kc_Node 4 14 := rfl
theorem e_Traffic_takeTurn_11 (a : Nat) (hk : isK h a kc_Node = true) : (WP Gm j_Traffic_takeTurn 11 (ls) (.inr (.inl (some a)) :: st) h Q) = (WP Gm j_Traffic_takeTurn 14 (ls) (.inr (.inl (gR h a 4)) :: st) (h) Q) := (WP_at c_Traffic_takeTurn_11 _ _ _ _).trans (congrArg (fun o => ndX Gm (WP Gm) j_Traffic_takeTurn 11 o Q) (if_pos hk))
theorem c_Traffic_takeTurn_14 : mCode j_Traffic_takeTurn 14 = oI 0 15 := rfl
theorem e_Traffic_takeTurn_14  : (WP Gm j_Traffic_takeTurn 14 (ls) (st) h Q) = (WP Gm j_Traffic_takeTurn 15 (ls) (.inl 0 :: st) (h) Q) := (WP_at c_Traffic_takeTurn_14 _ _ _ _)
theorem c_Traffic_takeTurn_15 : mCode j_Traffic_takeTurn 15 = oCallV kc_FrameQueue j_FrameQueue_at 1 (mL j_FrameQueue_at) 18 := rfl
theorem e_Traffic_takeTurn_15 (a : Nat) (x0 : Int32) (hk : isK h a kc_FrameQueue = true) (hc : c8 st = true) : (WP Gm j_Traffic_takeTurn 15 (ls) (.inl x0 :: .inr (.inl (some a)) :: st) h Q) = (WP Gm j_FrameQueue_at 0 [some (.inr (.inl (some a))), some (.inl x0)] [] h (kC (fun v h2 => WP Gm j_Traffic_takeTurn 18 ls (v.toList ++ st) h2 Q) (fun E h2 => Q (.inr E) h2))) := (WP_at c_Traffic_takeTurn_15 _ _ _ _).trans (congrArg (fun o => ndX Gm (WP Gm) j_Traffic_takeTurn 15 o Q) (if_pos (by rw [hk, show decide (catS st ≤ 8) = true from hc]; rfl)))
theorem c_Traffic_takeTurn_18 : mCode j_Traffic_takeTurn 18 = oAst 3 19 := rfl
theorem e_Traffic_takeTurn_18 (x : Option Nat) : (WP Gm j_Traffic_takeTurn 18 (ls) (.inr (.inl x) :: st) h Q) = (WP Gm j_Traffic_takeTurn 19 (lSet1 ls 3 (some (.inr (.inl x)))) (st) (h) Q) := (WP_at c_Traffic_takeTurn_18 _ _ _ _)
theorem c_Traffic_takeTurn_19 : mCode j_Traffic_takeTurn 19 = oAld 3 20 := rfl
theorem e_Traffic_takeTurn_19 (a0 a1 a2 : Option MV) (x : Option Nat) : (WP Gm j_Traffic_takeTurn 19 (a0 :: a1 :: a2 :: some (.inr (.inl x)) :: ls) (st) h Q) = (WP Gm j_Traffic_takeTurn 20 (a0 :: a1 :: a2 :: some (.inr (.inl x)) :: ls) (.inr (.inl x) :: st) (h) Q) := (WP_at c_Traffic_takeTurn_19 _ _ _ _)
theorem c_Traffic_takeTurn_20 : mCode j_Traffic_takeTurn 20 = oIfNN 24 23 := rfl
theorem e_Traffic_takeTurn_20 (x : Option Nat) : (WP Gm j_Traffic_takeTurn 20 (ls) (.inr (.inl x) :: st) h Q) = (if x.isNone = true then WP Gm j_Traffic_takeTurn 23 (ls) (st) (h) Q else WP Gm j_Traffic_takeTurn 24 (ls) (st) (h) Q) := (WP_at c_Traffic_takeTurn_20 _ _ _ _).trans (nd_inn _ _ _ _)
theorem c_Traffic_takeTurn_23 : mCode j_Traffic_takeTurn 23 = oRet := rfl
theorem e_Traffic_takeTurn_23  : (WP Gm j_Traffic_takeTurn 23 (ls) ([]) h Q) = (Q (.inl none) h) := (WP_at c_Traffic_takeTurn_23 _ _ _ _)
theorem c_Traffic_takeTurn_24 : mCode j_Traffic_takeTurn 24 = oAld 2 25 := rfl
theorem e_Traffic_takeTurn_24 (a0 a1 : Option MV) (x : Option Nat) : (WP Gm j_Traffic_takeTurn 24 (a0 :: a1 :: some (.inr (.inl x)) :: ls) (st) h Q) = (WP Gm j_Traffic_takeTurn 25 (a0 :: a1 :: some (.inr (.inl x)) :: ls) (.inr (.inl x) :: st) (h) Q) := (WP_at c_Traffic_takeTurn_24 _ _ _ _)
theorem c_Traffic_takeTurn_25 : mCode j_Traffic_takeTurn 25 = oGetI kc_Node 5 28 := rfl
theorem e_Traffic_takeTurn_25 (a : Nat) (hk : isK h a kc_Node = true) : (WP Gm j_Traffic_takeTurn 25 (ls) (.inr (.inl (some a)) :: st) h Q) = (WP Gm j_Traffic_takeTurn 28 (ls) (.inl (gI h a 5) :: st) (h) Q) := (WP_at c_Traffic_takeTurn_25 _ _ _ _).trans (congrArg (fun o => ndX Gm (WP Gm) j_Traffic_takeTurn 25 o Q) (if_pos hk))
theorem c_Traffic_takeTurn_28 : mCode j_Traffic_takeTurn 28 = oIf (fun x => decide (x ≤ 0)) 42 31 := rfl
theorem e_Traffic_takeTurn_28 (x : Int32) : (WP Gm j_Traffic_takeTurn 28 (ls) (.inl x :: st) h Q) = (if x ≤ 0 then WP Gm j_Traffic_takeTurn 42 (ls) (st) (h) Q else WP Gm j_Traffic_takeTurn 31 (ls) (st) (h) Q) := (WP_at c_Traffic_takeTurn_28 _ _ _ _).trans (nd_if rfl _ _ _ _)
theorem c_Traffic_takeTurn_31 : mCode j_Traffic_takeTurn 31 = oAld 2 32 := rfl
theorem e_Traffic_takeTurn_31 (a0 a1 : Option MV) (x : Option Nat) : (WP Gm j_Traffic_takeTurn 31 (a0 :: a1 :: some (.inr (.inl x)) :: ls) (st) h Q) = (WP Gm j_Traffic_takeTurn 32 (a0 :: a1 :: some (.inr (.inl x)) :: ls) (.inr (.inl x) :: st) (h) Q) := (WP_at c_Traffic_takeTurn_31 _ _ _ _)
theorem c_Traffic_takeTurn_32 : mCode j_Traffic_takeTurn 32 = oDup 33 := rfl
theorem e_Traffic_takeTurn_32 (x : Option Nat) : (WP Gm j_Traffic_takeTurn 32 (ls) (.inr (.inl x) :: st) h Q) = (WP Gm j_Traffic_takeTurn 33 (ls) (.inr (.inl x) :: .inr (.inl x) :: st) (h) Q) := (WP_at c_Traffic_takeTurn_32 _ _ _ _)
theorem c_Traffic_takeTurn_33 : mCode j_Traffic_takeTurn 33 = oGetI kc_Node 5 36 := rfl
theorem e_Traffic_takeTurn_33 (a : Nat) (hk : isK h a kc_Node = true) : (WP Gm j_Traffic_takeTurn 33 (ls) (.inr (.inl (some a)) :: st) h Q) = (WP Gm j_Traffic_takeTurn 36 (ls) (.inl (gI h a 5) :: st) (h) Q) := (WP_at c_Traffic_takeTurn_33 _ _ _ _).trans (congrArg (fun o => ndX Gm (WP Gm) j_Traffic_takeTurn 33 o Q) (if_pos hk))
theorem c_Traffic_takeTurn_36 : mCode j_Traffic_takeTurn 36 = oI 1 37 := rfl
theorem e_Traffic_takeTurn_36  : (WP Gm j_Traffic_takeTurn 36 (ls) (st) h Q) = (WP Gm j_Traffic_takeTurn 37 (ls) (.inl 1 :: st) (h) Q) := (WP_at c_Traffic_takeTurn_36 _ _ _ _)
theorem c_Traffic_takeTurn_37 : mCode j_Traffic_takeTurn 37 = oII (fun x y => x - y) 38 := rfl
theorem e_Traffic_takeTurn_37 (x : Int32) (y : Int32) : (WP Gm j_Traffic_takeTurn 37 (ls) (.inl y :: .inl x :: st) h Q) = (WP Gm j_Traffic_takeTurn 38 (ls) (.inl (x - y) :: st) (h) Q) := (WP_at c_Traffic_takeTurn_37 _ _ _ _)
theorem c_Traffic_takeTurn_38 : mCode j_Traffic_takeTurn 38 = oPutI kc_Node 5 41 := rfl
theorem e_Traffic_takeTurn_38 (a : Nat) (x : Int32) (hk : isK h a kc_Node = true) : (WP Gm j_Traffic_takeTurn 38 (ls) (.inl x :: .inr (.inl (some a)) :: st) h Q) = (WP Gm j_Traffic_takeTurn 41 (ls) (st) (sI h a 5 x) Q) := (WP_at c_Traffic_takeTurn_38 _ _ _ _).trans (congrArg (fun o => ndX Gm (WP Gm) j_Traffic_takeTurn 38 o Q) (if_pos hk))
theorem c_Traffic_takeTurn_41 : mCode j_Traffic_takeTurn 41 = oRet := rfl
theorem e_Traffic_takeTurn_41  : (WP Gm j_Traffic_takeTurn 41 (ls) ([]) h Q) = (Q (.inl none) h) := (WP_at c_Traffic_takeTurn_41 _ _ _ _)
theorem c_Traffic_takeTurn_42 : mCode j_Traffic_takeTurn 42 = oAld 0 43 := rfl
theorem e_Traffic_takeTurn_42 (x : Option Nat) : (WP Gm j_Traffic_takeTurn 42 (some (.inr (.inl x)) :: ls) (st) h Q) = (WP Gm j_Traffic_takeTurn 43 (some (.inr (.inl x)) :: ls) (.inr (.inl x) :: st) (h) Q) := (WP_at c_Traffic_takeTurn_42 _ _ _ _)
theorem c_Traffic_takeTurn_43 : mCode j_Traffic_takeTurn 43 = oGetR kc_Traffic 1 46 := rfl
theorem e_Traffic_takeTurn_43 (a : Nat) (hk : isK h a kc_Traffic = true) : (WP Gm j_Traffic_takeTurn 43 (ls) (.inr (.inl (some a)) :: st) h Q) = (WP Gm j_Traffic_takeTurn 46 (ls) (.inr (.inl (gR h a 1)) :: st) (h) Q) := (WP_at c_Traffic_takeTurn_43 _ _ _ _).trans (congrArg (fun o => ndX Gm (WP Gm) j_Traffic_takeTurn 43 o Q) (if_pos hk))
theorem c_Traffic_takeTurn_46 : mCode j_Traffic_takeTurn 46 = oIld 1 47 := rfl
theorem e_Traffic_takeTurn_46 (a0 : Option MV) (x : Int32) : (WP Gm j_Traffic_takeTurn 46 (a0 :: some (.inl x) :: ls) (st) h Q) = (WP Gm j_Traffic_takeTurn 47 (a0 :: some (.inl x) :: ls) (.inl x :: st) (h) Q) := (WP_at c_Traffic_takeTurn_46 _ _ _ _)
theorem c_Traffic_takeTurn_47 : mCode j_Traffic_takeTurn 47 = oAld 3 48 := rfl
theorem e_Traffic_takeTurn_47 (a0 a1 a2 : Option MV) (x : Option Nat) : (WP Gm j_Traffic_takeTurn 47 (a0 :: a1 :: a2 :: some (.inr (.inl x)) :: ls) (st) h Q) = (WP Gm j_Traffic_takeTurn 48 (a0 :: a1 :: a2 :: some (.inr (.inl x)) :: ls) (.inr (.inl x) :: st) (h) Q) := (WP_at c_Traffic_takeTurn_47 _ _ _ _)
theorem c_Traffic_takeTurn_48 : mCode j_Traffic_takeTurn 48 = oGetI kc_Frame 1 51 := rfl
theorem e_Traffic_takeTurn_48 (a : Nat) (hk : isK h a kc_Frame = true) : (WP Gm j_Traffic_takeTurn 48 (ls) (.inr (.inl (some a)) :: st) h Q) = (WP Gm j_Traffic_takeTurn 51 (ls) (.inl (gI h a 1) :: st) (h) Q) := (WP_at c_Traffic_takeTurn_48 _ _ _ _).trans (congrArg (fun o => ndX Gm (WP Gm) j_Traffic_takeTurn 48 o Q) (if_pos hk))
theorem c_Traffic_takeTurn_51 : mCode j_Traffic_takeTurn 51 = oCallV kc_Routes j_Routes_nextOf 2 (mL j_Routes_nextOf) 54 := rfl
theorem e_Traffic_takeTurn_51 (a : Nat) (x0 : Int32) (x1 : Int32) (hk : isK h a kc_Routes = true) (hc : c8 st = true) : (WP Gm j_Traffic_takeTurn 51 (ls) (.inl x1 :: .inl x0 :: .inr (.inl (some a)) :: st) h Q) = (WP Gm j_Routes_nextOf 0 [some (.inr (.inl (some a))), some (.inl x0), some (.inl x1)] [] h (kC (fun v h2 => WP Gm j_Traffic_takeTurn 54 ls (v.toList ++ st) h2 Q) (fun E h2 => Q (.inr E) h2))) := (WP_at c_Traffic_takeTurn_51 _ _ _ _).trans (congrArg (fun o => ndX Gm (WP Gm) j_Traffic_takeTurn 51 o Q) (if_pos (by rw [hk, show decide (catS st ≤ 8) = true from hc]; rfl)))
theorem c_Traffic_takeTurn_54 : mCode j_Traffic_takeTurn 54 = oIst 4 56 := rfl
theorem e_Traffic_takeTurn_54 (x : Int32) : (WP Gm j_Traffic_takeTurn 54 (ls) (.inl x :: st) h Q) = (WP Gm j_Traffic_takeTurn 56 (lSet1 ls 4 (some (.inl x))) (st) (h) Q) := (WP_at c_Traffic_takeTurn_54 _ _ _ _)
theorem c_Traffic_takeTurn_56 : mCode j_Traffic_takeTurn 56 = oIld 4 58 := rfl
theorem e_Traffic_takeTurn_56 (a0 a1 a2 a3 : Option MV) (x : Int32) : (WP Gm j_Traffic_takeTurn 56 (a0 :: a1 :: a2 :: a3 :: some (.inl x) :: ls) (st) h Q) = (WP Gm j_Traffic_takeTurn 58 (a0 :: a1 :: a2 :: a3 :: some (.inl x) :: ls) (.inl x :: st) (h) Q) := (WP_at c_Traffic_takeTurn_56 _ _ _ _)
theorem c_Traffic_takeTurn_58 : mCode j_Traffic_takeTurn 58 = oI (-1) 59 := rfl
theorem e_Traffic_takeTurn_58  : (WP Gm j_Traffic_takeTurn 58 (ls) (st) h Q) = (WP Gm j_Traffic_takeTurn 59 (ls) (.inl (-1) :: st) (h) Q) := (WP_at c_Traffic_takeTurn_58 _ _ _ _)
theorem c_Traffic_takeTurn_59 : mCode j_Traffic_takeTurn 59 = oIC (fun x y => decide (¬ x = y)) 70 62 := rfl
theorem e_Traffic_takeTurn_59 (x y : Int32) : (WP Gm j_Traffic_takeTurn 59 (ls) (.inl y :: .inl x :: st) h Q) = (if ¬ x = y then WP Gm j_Traffic_takeTurn 70 (ls) (st) (h) Q else WP Gm j_Traffic_takeTurn 62 (ls) (st) (h) Q) := (WP_at c_Traffic_takeTurn_59 _ _ _ _).trans (nd_ic rfl _ _ _ _)
theorem c_Traffic_takeTurn_62 : mCode j_Traffic_takeTurn 62 = oAld 0 63 := rfl
theorem e_Traffic_takeTurn_62 (x : Option Nat) : (WP Gm j_Traffic_takeTurn 62 (some (.inr (.inl x)) :: ls) (st) h Q) = (WP Gm j_Traffic_takeTurn 63 (some (.inr (.inl x)) :: ls) (.inr (.inl x) :: st) (h) Q) := (WP_at c_Traffic_takeTurn_62 _ _ _ _)
theorem c_Traffic_takeTurn_63 : mCode j_Traffic_takeTurn 63 = oAld 2 64 := rfl
theorem e_Traffic_takeTurn_63 (a0 a1 : Option MV) (x : Option Nat) : (WP Gm j_Traffic_takeTurn 63 (a0 :: a1 :: some (.inr (.inl x)) :: ls) (st) h Q) = (WP Gm j_Traffic_takeTurn 64 (a0 :: a1 :: some (.inr (.inl x)) :: ls) (.inr (.inl x) :: st) (h) Q) := (WP_at c_Traffic_takeTurn_63 _ _ _ _)
theorem c_Traffic_takeTurn_64 : mCode j_Traffic_takeTurn 64 = oCallV kc_Traffic j_Traffic_dropFirst 1 (mL j_Traffic_dropFirst) 67 := rfl
theorem e_Traffic_takeTurn_64 (a : Nat) (x0 : Option Nat) (hk : isK h a kc_Traffic = true) (hc : c8 st = true) : (WP Gm j_Traffic_takeTurn 64 (ls) (.inr (.inl x0) :: .inr (.inl (some a)) :: st) h Q) = (WP Gm j_Traffic_dropFirst 0 [some (.inr (.inl (some a))), some (.inr (.inl x0))] [] h (kC (fun v h2 => WP Gm j_Traffic_takeTurn 67 ls (v.toList ++ st) h2 Q) (fun E h2 => Q (.inr E) h2))) := (WP_at c_Traffic_takeTurn_64 _ _ _ _).trans (congrArg (fun o => ndX Gm (WP Gm) j_Traffic_takeTurn 64 o Q) (if_pos (by rw [hk, show decide (catS st ≤ 8) = true from hc]; rfl)))
theorem c_Traffic_takeTurn_67 : mCode j_Traffic_takeTurn 67 = oGo 80 := rfl
theorem e_Traffic_takeTurn_67  : (WP Gm j_Traffic_takeTurn 67 (ls) (st) h Q) = (WP Gm j_Traffic_takeTurn 80 (ls) (st) (h) Q) := (WP_at c_Traffic_takeTurn_67 _ _ _ _)
theorem c_Traffic_takeTurn_70 : mCode j_Traffic_takeTurn 70 = oAld 2 71 := rfl
theorem e_Traffic_takeTurn_70 (a0 a1 : Option MV) (x : Option Nat) : (WP Gm j_Traffic_takeTurn 70 (a0 :: a1 :: some (.inr (.inl x)) :: ls) (st) h Q) = (WP Gm j_Traffic_takeTurn 71 (a0 :: a1 :: some (.inr (.inl x)) :: ls) (.inr (.inl x) :: st) (h) Q) := (WP_at c_Traffic_takeTurn_70 _ _ _ _)
theorem c_Traffic_takeTurn_71 : mCode j_Traffic_takeTurn 71 = oAld 3 72 := rfl
theorem e_Traffic_takeTurn_71 (a0 a1 a2 : Option MV) (x : Option Nat) : (WP Gm j_Traffic_takeTurn 71 (a0 :: a1 :: a2 :: some (.inr (.inl x)) :: ls) (st) h Q) = (WP Gm j_Traffic_takeTurn 72 (a0 :: a1 :: a2 :: some (.inr (.inl x)) :: ls) (.inr (.inl x) :: st) (h) Q) := (WP_at c_Traffic_takeTurn_71 _ _ _ _)
theorem c_Traffic_takeTurn_72 : mCode j_Traffic_takeTurn 72 = oGetI kc_Frame 2 75 := rfl
theorem e_Traffic_takeTurn_72 (a : Nat) (hk : isK h a kc_Frame = true) : (WP Gm j_Traffic_takeTurn 72 (ls) (.inr (.inl (some a)) :: st) h Q) = (WP Gm j_Traffic_takeTurn 75 (ls) (.inl (gI h a 2) :: st) (h) Q) := (WP_at c_Traffic_takeTurn_72 _ _ _ _).trans (congrArg (fun o => ndX Gm (WP Gm) j_Traffic_takeTurn 72 o Q) (if_pos hk))
theorem c_Traffic_takeTurn_75 : mCode j_Traffic_takeTurn 75 = oIld 4 77 := rfl
theorem e_Traffic_takeTurn_75 (a0 a1 a2 a3 : Option MV) (x : Int32) : (WP Gm j_Traffic_takeTurn 75 (a0 :: a1 :: a2 :: a3 :: some (.inl x) :: ls) (st) h Q) = (WP Gm j_Traffic_takeTurn 77 (a0 :: a1 :: a2 :: a3 :: some (.inl x) :: ls) (.inl x :: st) (h) Q) := (WP_at c_Traffic_takeTurn_75 _ _ _ _)
theorem c_Traffic_takeTurn_77 : mCode j_Traffic_takeTurn 77 = oCallV kc_Node j_Node_begin 2 (mL j_Node_begin) 80 := rfl
theorem e_Traffic_takeTurn_77 (a : Nat) (x0 : Int32) (x1 : Int32) (hk : isK h a kc_Node = true) (hc : c8 st = true) : (WP Gm j_Traffic_takeTurn 77 (ls) (.inl x1 :: .inl x0 :: .inr (.inl (some a)) :: st) h Q) = (WP Gm j_Node_begin 0 [some (.inr (.inl (some a))), some (.inl x0), some (.inl x1)] [] h (kC (fun v h2 => WP Gm j_Traffic_takeTurn 80 ls (v.toList ++ st) h2 Q) (fun E h2 => Q (.inr E) h2))) := (WP_at c_Traffic_takeTurn_77 _ _ _ _).trans (congrArg (fun o => ndX Gm (WP Gm) j_Traffic_takeTurn 77 o Q) (if_pos (by rw [hk, show decide (catS st ≤ 8) = true from hc]; rfl)))
theorem c_Traffic_takeTurn_80 : mCode j_Traffic_takeTurn 80 = oRet := rfl
theorem e_Traffic_takeTurn_80  : (WP Gm j_Traffic_takeTurn 80 (ls) ([]) h Q) = (Q (.inl none) h) := (WP_at c_Traffic_takeTurn_80 _ _ _ _)
theorem c_Traffic_goOn_0 : mCode j_Traffic_goOn 0 = oAld 0 1 := rfl
theorem e_Traffic_goOn_0 (x : Option Nat) : (WP Gm j_Traffic_goOn 0 (some (.inr (.inl x)) :: ls) (st) h Q) = (WP Gm j_Traffic_goOn 1 (some (.inr (.inl x)) :: ls) (.inr (.inl x) :: st) (h) Q) := (WP_at c_Traffic_goOn_0 _ _ _ _)
theorem c_Traffic_goOn_1 : mCode j_Traffic_goOn 1 = oGetR kc_Traffic 0 4 := rfl
theorem e_Traffic_goOn_1 (a : Nat) (hk : isK h a kc_Traffic = true) : (WP Gm j_Traffic_goOn 1 (ls) (.inr (.inl (some a)) :: st) h Q) = (WP Gm j_Traffic_goOn 4 (ls) (.inr (.inl (gR h a 0)) :: st) (h) Q) := (WP_at c_Traffic_goOn_1 _ _ _ _).trans (congrArg (fun o => ndX Gm (WP Gm) j_Traffic_goOn 1 o Q) (if_pos hk))
theorem c_Traffic_goOn_4 : mCode j_Traffic_goOn 4 = oGetR kc_Land 0 7 := rfl
theorem e_Traffic_goOn_4 (a : Nat) (hk : isK h a kc_Land = true) : (WP Gm j_Traffic_goOn 4 (ls) (.inr (.inl (some a)) :: st) h Q) = (WP Gm j_Traffic_goOn 7 (ls) (.inr (.inl (gR h a 0)) :: st) (h) Q) := (WP_at c_Traffic_goOn_4 _ _ _ _).trans (congrArg (fun o => ndX Gm (WP Gm) j_Traffic_goOn 4 o Q) (if_pos hk))
theorem c_Traffic_goOn_7 : mCode j_Traffic_goOn 7 = oIld 1 8 := rfl
theorem e_Traffic_goOn_7 (a0 : Option MV) (x : Int32) : (WP Gm j_Traffic_goOn 7 (a0 :: some (.inl x) :: ls) (st) h Q) = (WP Gm j_Traffic_goOn 8 (a0 :: some (.inl x) :: ls) (.inl x :: st) (h) Q) := (WP_at c_Traffic_goOn_7 _ _ _ _)
theorem c_Traffic_goOn_8 : mCode j_Traffic_goOn 8 = oAal 2 9 := rfl
theorem e_Traffic_goOn_8 (a : Nat) (i : Int32) (hk : isK h a 102 = true) (hi : inL h a i = true) : (WP Gm j_Traffic_goOn 8 (ls) (.inl i :: .inr (.inl (some a)) :: st) h Q) = (WP Gm j_Traffic_goOn 9 (ls) (.inr (.inl (gR h a i.toNatClampNeg)) :: st) (h) Q) := (WP_at c_Traffic_goOn_8 _ _ _ _).trans (congrArg (fun o => ndX Gm (WP Gm) j_Traffic_goOn 8 o Q) (if_pos (by rw [hk, hi]; rfl)))
theorem c_Traffic_goOn_9 : mCode j_Traffic_goOn 9 = oAst 3 10 := rfl
theorem e_Traffic_goOn_9 (x : Option Nat) : (WP Gm j_Traffic_goOn 9 (ls) (.inr (.inl x) :: st) h Q) = (WP Gm j_Traffic_goOn 10 (lSet1 ls 3 (some (.inr (.inl x)))) (st) (h) Q) := (WP_at c_Traffic_goOn_9 _ _ _ _)
theorem c_Traffic_goOn_10 : mCode j_Traffic_goOn 10 = oAld 3 11 := rfl
theorem e_Traffic_goOn_10 (a0 a1 a2 : Option MV) (x : Option Nat) : (WP Gm j_Traffic_goOn 10 (a0 :: a1 :: a2 :: some (.inr (.inl x)) :: ls) (st) h Q) = (WP Gm j_Traffic_goOn 11 (a0 :: a1 :: a2 :: some (.inr (.inl x)) :: ls) (.inr (.inl x) :: st) (h) Q) := (WP_at c_Traffic_goOn_10 _ _ _ _)
theorem c_Traffic_goOn_11 : mCode j_Traffic_goOn 11 = oDup 12 := rfl
theorem e_Traffic_goOn_11 (x : Option Nat) : (WP Gm j_Traffic_goOn 11 (ls) (.inr (.inl x) :: st) h Q) = (WP Gm j_Traffic_goOn 12 (ls) (.inr (.inl x) :: .inr (.inl x) :: st) (h) Q) := (WP_at c_Traffic_goOn_11 _ _ _ _)
theorem c_Traffic_goOn_12 : mCode j_Traffic_goOn 12 = oGetI kc_Node 10 15 := rfl
theorem e_Traffic_goOn_12 (a : Nat) (hk : isK h a kc_Node = true) : (WP Gm j_Traffic_goOn 12 (ls) (.inr (.inl (some a)) :: st) h Q) = (WP Gm j_Traffic_goOn 15 (ls) (.inl (gI h a 10) :: st) (h) Q) := (WP_at c_Traffic_goOn_12 _ _ _ _).trans (congrArg (fun o => ndX Gm (WP Gm) j_Traffic_goOn 12 o Q) (if_pos hk))
theorem c_Traffic_goOn_15 : mCode j_Traffic_goOn 15 = oI 1 16 := rfl
theorem e_Traffic_goOn_15  : (WP Gm j_Traffic_goOn 15 (ls) (st) h Q) = (WP Gm j_Traffic_goOn 16 (ls) (.inl 1 :: st) (h) Q) := (WP_at c_Traffic_goOn_15 _ _ _ _)
theorem c_Traffic_goOn_16 : mCode j_Traffic_goOn 16 = oII (fun x y => x + y) 17 := rfl
theorem e_Traffic_goOn_16 (x : Int32) (y : Int32) : (WP Gm j_Traffic_goOn 16 (ls) (.inl y :: .inl x :: st) h Q) = (WP Gm j_Traffic_goOn 17 (ls) (.inl (x + y) :: st) (h) Q) := (WP_at c_Traffic_goOn_16 _ _ _ _)
theorem c_Traffic_goOn_17 : mCode j_Traffic_goOn 17 = oPutI kc_Node 10 20 := rfl
theorem e_Traffic_goOn_17 (a : Nat) (x : Int32) (hk : isK h a kc_Node = true) : (WP Gm j_Traffic_goOn 17 (ls) (.inl x :: .inr (.inl (some a)) :: st) h Q) = (WP Gm j_Traffic_goOn 20 (ls) (st) (sI h a 10 x) Q) := (WP_at c_Traffic_goOn_17 _ _ _ _).trans (congrArg (fun o => ndX Gm (WP Gm) j_Traffic_goOn 17 o Q) (if_pos hk))
theorem c_Traffic_goOn_20 : mCode j_Traffic_goOn 20 = oAld 3 21 := rfl
theorem e_Traffic_goOn_20 (a0 a1 a2 : Option MV) (x : Option Nat) : (WP Gm j_Traffic_goOn 20 (a0 :: a1 :: a2 :: some (.inr (.inl x)) :: ls) (st) h Q) = (WP Gm j_Traffic_goOn 21 (a0 :: a1 :: a2 :: some (.inr (.inl x)) :: ls) (.inr (.inl x) :: st) (h) Q) := (WP_at c_Traffic_goOn_20 _ _ _ _)
theorem c_Traffic_goOn_21 : mCode j_Traffic_goOn 21 = oDup 22 := rfl
theorem e_Traffic_goOn_21 (x : Option Nat) : (WP Gm j_Traffic_goOn 21 (ls) (.inr (.inl x) :: st) h Q) = (WP Gm j_Traffic_goOn 22 (ls) (.inr (.inl x) :: .inr (.inl x) :: st) (h) Q) := (WP_at c_Traffic_goOn_21 _ _ _ _)
theorem c_Traffic_goOn_22 : mCode j_Traffic_goOn 22 = oGetI kc_Node 7 25 := rfl
theorem e_Traffic_goOn_22 (a : Nat) (hk : isK h a kc_Node = true) : (WP Gm j_Traffic_goOn 22 (ls) (.inr (.inl (some a)) :: st) h Q) = (WP Gm j_Traffic_goOn 25 (ls) (.inl (gI h a 7) :: st) (h) Q) := (WP_at c_Traffic_goOn_22 _ _ _ _).trans (congrArg (fun o => ndX Gm (WP Gm) j_Traffic_goOn 22 o Q) (if_pos hk))
theorem c_Traffic_goOn_25 : mCode j_Traffic_goOn 25 = oI 1 26 := rfl
theorem e_Traffic_goOn_25  : (WP Gm j_Traffic_goOn 25 (ls) (st) h Q) = (WP Gm j_Traffic_goOn 26 (ls) (.inl 1 :: st) (h) Q) := (WP_at c_Traffic_goOn_25 _ _ _ _)
theorem c_Traffic_goOn_26 : mCode j_Traffic_goOn 26 = oII (fun x y => x - y) 27 := rfl
theorem e_Traffic_goOn_26 (x : Int32) (y : Int32) : (WP Gm j_Traffic_goOn 26 (ls) (.inl y :: .inl x :: st) h Q) = (WP Gm j_Traffic_goOn 27 (ls) (.inl (x - y) :: st) (h) Q) := (WP_at c_Traffic_goOn_26 _ _ _ _)
theorem c_Traffic_goOn_27 : mCode j_Traffic_goOn 27 = oPutI kc_Node 7 30 := rfl
theorem e_Traffic_goOn_27 (a : Nat) (x : Int32) (hk : isK h a kc_Node = true) : (WP Gm j_Traffic_goOn 27 (ls) (.inl x :: .inr (.inl (some a)) :: st) h Q) = (WP Gm j_Traffic_goOn 30 (ls) (st) (sI h a 7 x) Q) := (WP_at c_Traffic_goOn_27 _ _ _ _).trans (congrArg (fun o => ndX Gm (WP Gm) j_Traffic_goOn 27 o Q) (if_pos hk))
theorem c_Traffic_goOn_30 : mCode j_Traffic_goOn 30 = oAld 0 31 := rfl
theorem e_Traffic_goOn_30 (x : Option Nat) : (WP Gm j_Traffic_goOn 30 (some (.inr (.inl x)) :: ls) (st) h Q) = (WP Gm j_Traffic_goOn 31 (some (.inr (.inl x)) :: ls) (.inr (.inl x) :: st) (h) Q) := (WP_at c_Traffic_goOn_30 _ _ _ _)
theorem c_Traffic_goOn_31 : mCode j_Traffic_goOn 31 = oGetR kc_Traffic 0 34 := rfl
theorem e_Traffic_goOn_31 (a : Nat) (hk : isK h a kc_Traffic = true) : (WP Gm j_Traffic_goOn 31 (ls) (.inr (.inl (some a)) :: st) h Q) = (WP Gm j_Traffic_goOn 34 (ls) (.inr (.inl (gR h a 0)) :: st) (h) Q) := (WP_at c_Traffic_goOn_31 _ _ _ _).trans (congrArg (fun o => ndX Gm (WP Gm) j_Traffic_goOn 31 o Q) (if_pos hk))
theorem c_Traffic_goOn_34 : mCode j_Traffic_goOn 34 = oAld 3 35 := rfl
theorem e_Traffic_goOn_34 (a0 a1 a2 : Option MV) (x : Option Nat) : (WP Gm j_Traffic_goOn 34 (a0 :: a1 :: a2 :: some (.inr (.inl x)) :: ls) (st) h Q) = (WP Gm j_Traffic_goOn 35 (a0 :: a1 :: a2 :: some (.inr (.inl x)) :: ls) (.inr (.inl x) :: st) (h) Q) := (WP_at c_Traffic_goOn_34 _ _ _ _)
theorem c_Traffic_goOn_35 : mCode j_Traffic_goOn 35 = oGetI kc_Node 8 38 := rfl
theorem e_Traffic_goOn_35 (a : Nat) (hk : isK h a kc_Node = true) : (WP Gm j_Traffic_goOn 35 (ls) (.inr (.inl (some a)) :: st) h Q) = (WP Gm j_Traffic_goOn 38 (ls) (.inl (gI h a 8) :: st) (h) Q) := (WP_at c_Traffic_goOn_35 _ _ _ _).trans (congrArg (fun o => ndX Gm (WP Gm) j_Traffic_goOn 35 o Q) (if_pos hk))
theorem c_Traffic_goOn_38 : mCode j_Traffic_goOn 38 = oCallV kc_Land j_Land_isNode 1 (mL j_Land_isNode) 41 := rfl
theorem e_Traffic_goOn_38 (a : Nat) (x0 : Int32) (hk : isK h a kc_Land = true) (hc : c8 st = true) : (WP Gm j_Traffic_goOn 38 (ls) (.inl x0 :: .inr (.inl (some a)) :: st) h Q) = (WP Gm j_Land_isNode 0 [some (.inr (.inl (some a))), some (.inl x0)] [] h (kC (fun v h2 => WP Gm j_Traffic_goOn 41 ls (v.toList ++ st) h2 Q) (fun E h2 => Q (.inr E) h2))) := (WP_at c_Traffic_goOn_38 _ _ _ _).trans (congrArg (fun o => ndX Gm (WP Gm) j_Traffic_goOn 38 o Q) (if_pos (by rw [hk, show decide (catS st ≤ 8) = true from hc]; rfl)))
theorem c_Traffic_goOn_41 : mCode j_Traffic_goOn 41 = oIf (fun x => decide (x = 0)) 60 44 := rfl
theorem e_Traffic_goOn_41 (x : Int32) : (WP Gm j_Traffic_goOn 41 (ls) (.inl x :: st) h Q) = (if x = 0 then WP Gm j_Traffic_goOn 60 (ls) (st) (h) Q else WP Gm j_Traffic_goOn 44 (ls) (st) (h) Q) := (WP_at c_Traffic_goOn_41 _ _ _ _).trans (nd_if rfl _ _ _ _)
theorem c_Traffic_goOn_44 : mCode j_Traffic_goOn 44 = oAld 0 45 := rfl
theorem e_Traffic_goOn_44 (x : Option Nat) : (WP Gm j_Traffic_goOn 44 (some (.inr (.inl x)) :: ls) (st) h Q) = (WP Gm j_Traffic_goOn 45 (some (.inr (.inl x)) :: ls) (.inr (.inl x) :: st) (h) Q) := (WP_at c_Traffic_goOn_44 _ _ _ _)
theorem c_Traffic_goOn_45 : mCode j_Traffic_goOn 45 = oGetR kc_Traffic 0 48 := rfl
theorem e_Traffic_goOn_45 (a : Nat) (hk : isK h a kc_Traffic = true) : (WP Gm j_Traffic_goOn 45 (ls) (.inr (.inl (some a)) :: st) h Q) = (WP Gm j_Traffic_goOn 48 (ls) (.inr (.inl (gR h a 0)) :: st) (h) Q) := (WP_at c_Traffic_goOn_45 _ _ _ _).trans (congrArg (fun o => ndX Gm (WP Gm) j_Traffic_goOn 45 o Q) (if_pos hk))
theorem c_Traffic_goOn_48 : mCode j_Traffic_goOn 48 = oAld 3 49 := rfl
theorem e_Traffic_goOn_48 (a0 a1 a2 : Option MV) (x : Option Nat) : (WP Gm j_Traffic_goOn 48 (a0 :: a1 :: a2 :: some (.inr (.inl x)) :: ls) (st) h Q) = (WP Gm j_Traffic_goOn 49 (a0 :: a1 :: a2 :: some (.inr (.inl x)) :: ls) (.inr (.inl x) :: st) (h) Q) := (WP_at c_Traffic_goOn_48 _ _ _ _)
theorem c_Traffic_goOn_49 : mCode j_Traffic_goOn 49 = oGetI kc_Node 8 52 := rfl
theorem e_Traffic_goOn_49 (a : Nat) (hk : isK h a kc_Node = true) : (WP Gm j_Traffic_goOn 49 (ls) (.inr (.inl (some a)) :: st) h Q) = (WP Gm j_Traffic_goOn 52 (ls) (.inl (gI h a 8) :: st) (h) Q) := (WP_at c_Traffic_goOn_49 _ _ _ _).trans (congrArg (fun o => ndX Gm (WP Gm) j_Traffic_goOn 49 o Q) (if_pos hk))
theorem c_Traffic_goOn_52 : mCode j_Traffic_goOn 52 = oIld 1 53 := rfl
theorem e_Traffic_goOn_52 (a0 : Option MV) (x : Int32) : (WP Gm j_Traffic_goOn 52 (a0 :: some (.inl x) :: ls) (st) h Q) = (WP Gm j_Traffic_goOn 53 (a0 :: some (.inl x) :: ls) (.inl x :: st) (h) Q) := (WP_at c_Traffic_goOn_52 _ _ _ _)
theorem c_Traffic_goOn_53 : mCode j_Traffic_goOn 53 = oIld 2 54 := rfl
theorem e_Traffic_goOn_53 (a0 a1 : Option MV) (x : Int32) : (WP Gm j_Traffic_goOn 53 (a0 :: a1 :: some (.inl x) :: ls) (st) h Q) = (WP Gm j_Traffic_goOn 54 (a0 :: a1 :: some (.inl x) :: ls) (.inl x :: st) (h) Q) := (WP_at c_Traffic_goOn_53 _ _ _ _)
theorem c_Traffic_goOn_54 : mCode j_Traffic_goOn 54 = oCallV kc_Land j_Land_gets 3 (mL j_Land_gets) 57 := rfl
theorem e_Traffic_goOn_54 (a : Nat) (x0 : Int32) (x1 : Int32) (x2 : Int32) (hk : isK h a kc_Land = true) (hc : c8 st = true) : (WP Gm j_Traffic_goOn 54 (ls) (.inl x2 :: .inl x1 :: .inl x0 :: .inr (.inl (some a)) :: st) h Q) = (WP Gm j_Land_gets 0 [some (.inr (.inl (some a))), some (.inl x0), some (.inl x1), some (.inl x2), none, none, none] [] h (kC (fun v h2 => WP Gm j_Traffic_goOn 57 ls (v.toList ++ st) h2 Q) (fun E h2 => Q (.inr E) h2))) := (WP_at c_Traffic_goOn_54 _ _ _ _).trans (congrArg (fun o => ndX Gm (WP Gm) j_Traffic_goOn 54 o Q) (if_pos (by rw [hk, show decide (catS st ≤ 8) = true from hc]; rfl)))
theorem c_Traffic_goOn_57 : mCode j_Traffic_goOn 57 = oIf (fun x => decide (¬ x = 0)) 65 60 := rfl
theorem e_Traffic_goOn_57 (x : Int32) : (WP Gm j_Traffic_goOn 57 (ls) (.inl x :: st) h Q) = (if ¬ x = 0 then WP Gm j_Traffic_goOn 65 (ls) (st) (h) Q else WP Gm j_Traffic_goOn 60 (ls) (st) (h) Q) := (WP_at c_Traffic_goOn_57 _ _ _ _).trans (nd_if rfl _ _ _ _)
theorem c_Traffic_goOn_60 : mCode j_Traffic_goOn 60 = oAld 3 61 := rfl
theorem e_Traffic_goOn_60 (a0 a1 a2 : Option MV) (x : Option Nat) : (WP Gm j_Traffic_goOn 60 (a0 :: a1 :: a2 :: some (.inr (.inl x)) :: ls) (st) h Q) = (WP Gm j_Traffic_goOn 61 (a0 :: a1 :: a2 :: some (.inr (.inl x)) :: ls) (.inr (.inl x) :: st) (h) Q) := (WP_at c_Traffic_goOn_60 _ _ _ _)
theorem c_Traffic_goOn_61 : mCode j_Traffic_goOn 61 = oI 0 62 := rfl
theorem e_Traffic_goOn_61  : (WP Gm j_Traffic_goOn 61 (ls) (st) h Q) = (WP Gm j_Traffic_goOn 62 (ls) (.inl 0 :: st) (h) Q) := (WP_at c_Traffic_goOn_61 _ _ _ _)
theorem c_Traffic_goOn_62 : mCode j_Traffic_goOn 62 = oPutZ kc_Node 9 65 := rfl
theorem e_Traffic_goOn_62 (a : Nat) (x : Int32) (hk : isK h a kc_Node = true) (hx : x = 0 ∨ x = 1) : (WP Gm j_Traffic_goOn 62 (ls) (.inl x :: .inr (.inl (some a)) :: st) h Q) = (WP Gm j_Traffic_goOn 65 (ls) (st) (sI h a 9 x) Q) := (WP_at c_Traffic_goOn_62 _ _ _ _).trans (congrArg (fun o => ndX Gm (WP Gm) j_Traffic_goOn 62 o Q) (if_pos (by rw [hk]; rcases hx with rfl | rfl <;> rfl)))
theorem c_Traffic_goOn_65 : mCode j_Traffic_goOn 65 = oRet := rfl
theorem e_Traffic_goOn_65  : (WP Gm j_Traffic_goOn 65 (ls) ([]) h Q) = (Q (.inl none) h) := (WP_at c_Traffic_goOn_65 _ _ _ _)
theorem c_Traffic_end_0 : mCode j_Traffic_end 0 = oAld 0 1 := rfl
theorem e_Traffic_end_0 (x : Option Nat) : (WP Gm j_Traffic_end 0 (some (.inr (.inl x)) :: ls) (st) h Q) = (WP Gm j_Traffic_end 1 (some (.inr (.inl x)) :: ls) (.inr (.inl x) :: st) (h) Q) := (WP_at c_Traffic_end_0 _ _ _ _)
theorem c_Traffic_end_1 : mCode j_Traffic_end 1 = oGetR kc_Traffic 0 4 := rfl
theorem e_Traffic_end_1 (a : Nat) (hk : isK h a kc_Traffic = true) : (WP Gm j_Traffic_end 1 (ls) (.inr (.inl (some a)) :: st) h Q) = (WP Gm j_Traffic_end 4 (ls) (.inr (.inl (gR h a 0)) :: st) (h) Q) := (WP_at c_Traffic_end_1 _ _ _ _).trans (congrArg (fun o => ndX Gm (WP Gm) j_Traffic_end 1 o Q) (if_pos hk))
theorem c_Traffic_end_4 : mCode j_Traffic_end 4 = oGetR kc_Land 0 7 := rfl
theorem e_Traffic_end_4 (a : Nat) (hk : isK h a kc_Land = true) : (WP Gm j_Traffic_end 4 (ls) (.inr (.inl (some a)) :: st) h Q) = (WP Gm j_Traffic_end 7 (ls) (.inr (.inl (gR h a 0)) :: st) (h) Q) := (WP_at c_Traffic_end_4 _ _ _ _).trans (congrArg (fun o => ndX Gm (WP Gm) j_Traffic_end 4 o Q) (if_pos hk))
theorem c_Traffic_end_7 : mCode j_Traffic_end 7 = oIld 1 8 := rfl
theorem e_Traffic_end_7 (a0 : Option MV) (x : Int32) : (WP Gm j_Traffic_end 7 (a0 :: some (.inl x) :: ls) (st) h Q) = (WP Gm j_Traffic_end 8 (a0 :: some (.inl x) :: ls) (.inl x :: st) (h) Q) := (WP_at c_Traffic_end_7 _ _ _ _)
theorem c_Traffic_end_8 : mCode j_Traffic_end 8 = oAal 2 9 := rfl
theorem e_Traffic_end_8 (a : Nat) (i : Int32) (hk : isK h a 102 = true) (hi : inL h a i = true) : (WP Gm j_Traffic_end 8 (ls) (.inl i :: .inr (.inl (some a)) :: st) h Q) = (WP Gm j_Traffic_end 9 (ls) (.inr (.inl (gR h a i.toNatClampNeg)) :: st) (h) Q) := (WP_at c_Traffic_end_8 _ _ _ _).trans (congrArg (fun o => ndX Gm (WP Gm) j_Traffic_end 8 o Q) (if_pos (by rw [hk, hi]; rfl)))
theorem c_Traffic_end_9 : mCode j_Traffic_end 9 = oAst 2 10 := rfl
theorem e_Traffic_end_9 (x : Option Nat) : (WP Gm j_Traffic_end 9 (ls) (.inr (.inl x) :: st) h Q) = (WP Gm j_Traffic_end 10 (lSet1 ls 2 (some (.inr (.inl x)))) (st) (h) Q) := (WP_at c_Traffic_end_9 _ _ _ _)
theorem c_Traffic_end_10 : mCode j_Traffic_end 10 = oAld 2 11 := rfl
theorem e_Traffic_end_10 (a0 a1 : Option MV) (x : Option Nat) : (WP Gm j_Traffic_end 10 (a0 :: a1 :: some (.inr (.inl x)) :: ls) (st) h Q) = (WP Gm j_Traffic_end 11 (a0 :: a1 :: some (.inr (.inl x)) :: ls) (.inr (.inl x) :: st) (h) Q) := (WP_at c_Traffic_end_10 _ _ _ _)
theorem c_Traffic_end_11 : mCode j_Traffic_end 11 = oGetI kc_Node 8 14 := rfl
theorem e_Traffic_end_11 (a : Nat) (hk : isK h a kc_Node = true) : (WP Gm j_Traffic_end 11 (ls) (.inr (.inl (some a)) :: st) h Q) = (WP Gm j_Traffic_end 14 (ls) (.inl (gI h a 8) :: st) (h) Q) := (WP_at c_Traffic_end_11 _ _ _ _).trans (congrArg (fun o => ndX Gm (WP Gm) j_Traffic_end 11 o Q) (if_pos hk))
theorem c_Traffic_end_14 : mCode j_Traffic_end 14 = oIst 3 15 := rfl
theorem e_Traffic_end_14 (x : Int32) : (WP Gm j_Traffic_end 14 (ls) (.inl x :: st) h Q) = (WP Gm j_Traffic_end 15 (lSet1 ls 3 (some (.inl x))) (st) (h) Q) := (WP_at c_Traffic_end_14 _ _ _ _)
theorem c_Traffic_end_15 : mCode j_Traffic_end 15 = oAld 2 16 := rfl
theorem e_Traffic_end_15 (a0 a1 : Option MV) (x : Option Nat) : (WP Gm j_Traffic_end 15 (a0 :: a1 :: some (.inr (.inl x)) :: ls) (st) h Q) = (WP Gm j_Traffic_end 16 (a0 :: a1 :: some (.inr (.inl x)) :: ls) (.inr (.inl x) :: st) (h) Q) := (WP_at c_Traffic_end_15 _ _ _ _)
theorem c_Traffic_end_16 : mCode j_Traffic_end 16 = oI (-1) 17 := rfl
theorem e_Traffic_end_16  : (WP Gm j_Traffic_end 16 (ls) (st) h Q) = (WP Gm j_Traffic_end 17 (ls) (.inl (-1) :: st) (h) Q) := (WP_at c_Traffic_end_16 _ _ _ _)
theorem c_Traffic_end_17 : mCode j_Traffic_end 17 = oPutI kc_Node 8 20 := rfl
theorem e_Traffic_end_17 (a : Nat) (x : Int32) (hk : isK h a kc_Node = true) : (WP Gm j_Traffic_end 17 (ls) (.inl x :: .inr (.inl (some a)) :: st) h Q) = (WP Gm j_Traffic_end 20 (ls) (st) (sI h a 8 x) Q) := (WP_at c_Traffic_end_17 _ _ _ _).trans (congrArg (fun o => ndX Gm (WP Gm) j_Traffic_end 17 o Q) (if_pos hk))
theorem c_Traffic_end_20 : mCode j_Traffic_end 20 = oAld 2 21 := rfl
theorem e_Traffic_end_20 (a0 a1 : Option MV) (x : Option Nat) : (WP Gm j_Traffic_end 20 (a0 :: a1 :: some (.inr (.inl x)) :: ls) (st) h Q) = (WP Gm j_Traffic_end 21 (a0 :: a1 :: some (.inr (.inl x)) :: ls) (.inr (.inl x) :: st) (h) Q) := (WP_at c_Traffic_end_20 _ _ _ _)
theorem c_Traffic_end_21 : mCode j_Traffic_end 21 = oGetR kc_Node 4 24 := rfl
theorem e_Traffic_end_21 (a : Nat) (hk : isK h a kc_Node = true) : (WP Gm j_Traffic_end 21 (ls) (.inr (.inl (some a)) :: st) h Q) = (WP Gm j_Traffic_end 24 (ls) (.inr (.inl (gR h a 4)) :: st) (h) Q) := (WP_at c_Traffic_end_21 _ _ _ _).trans (congrArg (fun o => ndX Gm (WP Gm) j_Traffic_end 21 o Q) (if_pos hk))
theorem c_Traffic_end_24 : mCode j_Traffic_end 24 = oI 0 25 := rfl
theorem e_Traffic_end_24  : (WP Gm j_Traffic_end 24 (ls) (st) h Q) = (WP Gm j_Traffic_end 25 (ls) (.inl 0 :: st) (h) Q) := (WP_at c_Traffic_end_24 _ _ _ _)
theorem c_Traffic_end_25 : mCode j_Traffic_end 25 = oCallV kc_FrameQueue j_FrameQueue_at 1 (mL j_FrameQueue_at) 28 := rfl
theorem e_Traffic_end_25 (a : Nat) (x0 : Int32) (hk : isK h a kc_FrameQueue = true) (hc : c8 st = true) : (WP Gm j_Traffic_end 25 (ls) (.inl x0 :: .inr (.inl (some a)) :: st) h Q) = (WP Gm j_FrameQueue_at 0 [some (.inr (.inl (some a))), some (.inl x0)] [] h (kC (fun v h2 => WP Gm j_Traffic_end 28 ls (v.toList ++ st) h2 Q) (fun E h2 => Q (.inr E) h2))) := (WP_at c_Traffic_end_25 _ _ _ _).trans (congrArg (fun o => ndX Gm (WP Gm) j_Traffic_end 25 o Q) (if_pos (by rw [hk, show decide (catS st ≤ 8) = true from hc]; rfl)))
theorem c_Traffic_end_28 : mCode j_Traffic_end 28 = oAst 4 30 := rfl
theorem e_Traffic_end_28 (x : Option Nat) : (WP Gm j_Traffic_end 28 (ls) (.inr (.inl x) :: st) h Q) = (WP Gm j_Traffic_end 30 (lSet1 ls 4 (some (.inr (.inl x)))) (st) (h) Q) := (WP_at c_Traffic_end_28 _ _ _ _)
theorem c_Traffic_end_30 : mCode j_Traffic_end 30 = oAld 4 32 := rfl
theorem e_Traffic_end_30 (a0 a1 a2 a3 : Option MV) (x : Option Nat) : (WP Gm j_Traffic_end 30 (a0 :: a1 :: a2 :: a3 :: some (.inr (.inl x)) :: ls) (st) h Q) = (WP Gm j_Traffic_end 32 (a0 :: a1 :: a2 :: a3 :: some (.inr (.inl x)) :: ls) (.inr (.inl x) :: st) (h) Q) := (WP_at c_Traffic_end_30 _ _ _ _)
theorem c_Traffic_end_32 : mCode j_Traffic_end 32 = oIfN 46 35 := rfl
theorem e_Traffic_end_32 (x : Option Nat) : (WP Gm j_Traffic_end 32 (ls) (.inr (.inl x) :: st) h Q) = (if x.isNone = true then WP Gm j_Traffic_end 46 (ls) (st) (h) Q else WP Gm j_Traffic_end 35 (ls) (st) (h) Q) := (WP_at c_Traffic_end_32 _ _ _ _).trans (nd_in _ _ _ _)
theorem c_Traffic_end_35 : mCode j_Traffic_end 35 = oAld 0 36 := rfl
theorem e_Traffic_end_35 (x : Option Nat) : (WP Gm j_Traffic_end 35 (some (.inr (.inl x)) :: ls) (st) h Q) = (WP Gm j_Traffic_end 36 (some (.inr (.inl x)) :: ls) (.inr (.inl x) :: st) (h) Q) := (WP_at c_Traffic_end_35 _ _ _ _)
theorem c_Traffic_end_36 : mCode j_Traffic_end 36 = oGetR kc_Traffic 0 39 := rfl
theorem e_Traffic_end_36 (a : Nat) (hk : isK h a kc_Traffic = true) : (WP Gm j_Traffic_end 36 (ls) (.inr (.inl (some a)) :: st) h Q) = (WP Gm j_Traffic_end 39 (ls) (.inr (.inl (gR h a 0)) :: st) (h) Q) := (WP_at c_Traffic_end_36 _ _ _ _).trans (congrArg (fun o => ndX Gm (WP Gm) j_Traffic_end 36 o Q) (if_pos hk))
theorem c_Traffic_end_39 : mCode j_Traffic_end 39 = oIld 3 40 := rfl
theorem e_Traffic_end_39 (a0 a1 a2 : Option MV) (x : Int32) : (WP Gm j_Traffic_end 39 (a0 :: a1 :: a2 :: some (.inl x) :: ls) (st) h Q) = (WP Gm j_Traffic_end 40 (a0 :: a1 :: a2 :: some (.inl x) :: ls) (.inl x :: st) (h) Q) := (WP_at c_Traffic_end_39 _ _ _ _)
theorem c_Traffic_end_40 : mCode j_Traffic_end 40 = oCallV kc_Land j_Land_isNode 1 (mL j_Land_isNode) 43 := rfl
theorem e_Traffic_end_40 (a : Nat) (x0 : Int32) (hk : isK h a kc_Land = true) (hc : c8 st = true) : (WP Gm j_Traffic_end 40 (ls) (.inl x0 :: .inr (.inl (some a)) :: st) h Q) = (WP Gm j_Land_isNode 0 [some (.inr (.inl (some a))), some (.inl x0)] [] h (kC (fun v h2 => WP Gm j_Traffic_end 43 ls (v.toList ++ st) h2 Q) (fun E h2 => Q (.inr E) h2))) := (WP_at c_Traffic_end_40 _ _ _ _).trans (congrArg (fun o => ndX Gm (WP Gm) j_Traffic_end 40 o Q) (if_pos (by rw [hk, show decide (catS st ≤ 8) = true from hc]; rfl)))
theorem c_Traffic_end_43 : mCode j_Traffic_end 43 = oIf (fun x => decide (¬ x = 0)) 47 46 := rfl
theorem e_Traffic_end_43 (x : Int32) : (WP Gm j_Traffic_end 43 (ls) (.inl x :: st) h Q) = (if ¬ x = 0 then WP Gm j_Traffic_end 47 (ls) (st) (h) Q else WP Gm j_Traffic_end 46 (ls) (st) (h) Q) := (WP_at c_Traffic_end_43 _ _ _ _).trans (nd_if rfl _ _ _ _)
theorem c_Traffic_end_46 : mCode j_Traffic_end 46 = oRet := rfl
theorem e_Traffic_end_46  : (WP Gm j_Traffic_end 46 (ls) ([]) h Q) = (Q (.inl none) h) := (WP_at c_Traffic_end_46 _ _ _ _)
theorem c_Traffic_end_47 : mCode j_Traffic_end 47 = oAld 2 48 := rfl
theorem e_Traffic_end_47 (a0 a1 : Option MV) (x : Option Nat) : (WP Gm j_Traffic_end 47 (a0 :: a1 :: some (.inr (.inl x)) :: ls) (st) h Q) = (WP Gm j_Traffic_end 48 (a0 :: a1 :: some (.inr (.inl x)) :: ls) (.inr (.inl x) :: st) (h) Q) := (WP_at c_Traffic_end_47 _ _ _ _)
theorem c_Traffic_end_48 : mCode j_Traffic_end 48 = oGetI kc_Node 9 51 := rfl
theorem e_Traffic_end_48 (a : Nat) (hk : isK h a kc_Node = true) : (WP Gm j_Traffic_end 48 (ls) (.inr (.inl (some a)) :: st) h Q) = (WP Gm j_Traffic_end 51 (ls) (.inl (gI h a 9) :: st) (h) Q) := (WP_at c_Traffic_end_48 _ _ _ _).trans (congrArg (fun o => ndX Gm (WP Gm) j_Traffic_end 48 o Q) (if_pos hk))
theorem c_Traffic_end_51 : mCode j_Traffic_end 51 = oIf (fun x => decide (x = 0)) 61 54 := rfl
theorem e_Traffic_end_51 (x : Int32) : (WP Gm j_Traffic_end 51 (ls) (.inl x :: st) h Q) = (if x = 0 then WP Gm j_Traffic_end 61 (ls) (st) (h) Q else WP Gm j_Traffic_end 54 (ls) (st) (h) Q) := (WP_at c_Traffic_end_51 _ _ _ _).trans (nd_if rfl _ _ _ _)
theorem c_Traffic_end_54 : mCode j_Traffic_end 54 = oAld 0 55 := rfl
theorem e_Traffic_end_54 (x : Option Nat) : (WP Gm j_Traffic_end 54 (some (.inr (.inl x)) :: ls) (st) h Q) = (WP Gm j_Traffic_end 55 (some (.inr (.inl x)) :: ls) (.inr (.inl x) :: st) (h) Q) := (WP_at c_Traffic_end_54 _ _ _ _)
theorem c_Traffic_end_55 : mCode j_Traffic_end 55 = oIld 3 56 := rfl
theorem e_Traffic_end_55 (a0 a1 a2 : Option MV) (x : Int32) : (WP Gm j_Traffic_end 55 (a0 :: a1 :: a2 :: some (.inl x) :: ls) (st) h Q) = (WP Gm j_Traffic_end 56 (a0 :: a1 :: a2 :: some (.inl x) :: ls) (.inl x :: st) (h) Q) := (WP_at c_Traffic_end_55 _ _ _ _)
theorem c_Traffic_end_56 : mCode j_Traffic_end 56 = oAld 4 58 := rfl
theorem e_Traffic_end_56 (a0 a1 a2 a3 : Option MV) (x : Option Nat) : (WP Gm j_Traffic_end 56 (a0 :: a1 :: a2 :: a3 :: some (.inr (.inl x)) :: ls) (st) h Q) = (WP Gm j_Traffic_end 58 (a0 :: a1 :: a2 :: a3 :: some (.inr (.inl x)) :: ls) (.inr (.inl x) :: st) (h) Q) := (WP_at c_Traffic_end_56 _ _ _ _)
theorem c_Traffic_end_58 : mCode j_Traffic_end 58 = oCallV kc_Traffic j_Traffic_receive 2 (mL j_Traffic_receive) 61 := rfl
theorem e_Traffic_end_58 (a : Nat) (x0 : Int32) (x1 : Option Nat) (hk : isK h a kc_Traffic = true) (hc : c8 st = true) : (WP Gm j_Traffic_end 58 (ls) (.inr (.inl x1) :: .inl x0 :: .inr (.inl (some a)) :: st) h Q) = (WP Gm j_Traffic_receive 0 [some (.inr (.inl (some a))), some (.inl x0), some (.inr (.inl x1))] [] h (kC (fun v h2 => WP Gm j_Traffic_end 61 ls (v.toList ++ st) h2 Q) (fun E h2 => Q (.inr E) h2))) := (WP_at c_Traffic_end_58 _ _ _ _).trans (congrArg (fun o => ndX Gm (WP Gm) j_Traffic_end 58 o Q) (if_pos (by rw [hk, show decide (catS st ≤ 8) = true from hc]; rfl)))
theorem c_Traffic_end_61 : mCode j_Traffic_end 61 = oAld 2 62 := rfl
theorem e_Traffic_end_61 (a0 a1 : Option MV) (x : Option Nat) : (WP Gm j_Traffic_end 61 (a0 :: a1 :: some (.inr (.inl x)) :: ls) (st) h Q) = (WP Gm j_Traffic_end 62 (a0 :: a1 :: some (.inr (.inl x)) :: ls) (.inr (.inl x) :: st) (h) Q) := (WP_at c_Traffic_end_61 _ _ _ _)
theorem c_Traffic_end_62 : mCode j_Traffic_end 62 = oGetI kc_Node 9 65 := rfl
theorem e_Traffic_end_62 (a : Nat) (hk : isK h a kc_Node = true) : (WP Gm j_Traffic_end 62 (ls) (.inr (.inl (some a)) :: st) h Q) = (WP Gm j_Traffic_end 65 (ls) (.inl (gI h a 9) :: st) (h) Q) := (WP_at c_Traffic_end_62 _ _ _ _).trans (congrArg (fun o => ndX Gm (WP Gm) j_Traffic_end 62 o Q) (if_pos hk))
theorem c_Traffic_end_65 : mCode j_Traffic_end 65 = oIf (fun x => decide (x = 0)) 87 68 := rfl
theorem e_Traffic_end_65 (x : Int32) : (WP Gm j_Traffic_end 65 (ls) (.inl x :: st) h Q) = (if x = 0 then WP Gm j_Traffic_end 87 (ls) (st) (h) Q else WP Gm j_Traffic_end 68 (ls) (st) (h) Q) := (WP_at c_Traffic_end_65 _ _ _ _).trans (nd_if rfl _ _ _ _)
theorem c_Traffic_end_68 : mCode j_Traffic_end 68 = oAld 0 69 := rfl
theorem e_Traffic_end_68 (x : Option Nat) : (WP Gm j_Traffic_end 68 (some (.inr (.inl x)) :: ls) (st) h Q) = (WP Gm j_Traffic_end 69 (some (.inr (.inl x)) :: ls) (.inr (.inl x) :: st) (h) Q) := (WP_at c_Traffic_end_68 _ _ _ _)
theorem c_Traffic_end_69 : mCode j_Traffic_end 69 = oGetR kc_Traffic 0 72 := rfl
theorem e_Traffic_end_69 (a : Nat) (hk : isK h a kc_Traffic = true) : (WP Gm j_Traffic_end 69 (ls) (.inr (.inl (some a)) :: st) h Q) = (WP Gm j_Traffic_end 72 (ls) (.inr (.inl (gR h a 0)) :: st) (h) Q) := (WP_at c_Traffic_end_69 _ _ _ _).trans (congrArg (fun o => ndX Gm (WP Gm) j_Traffic_end 69 o Q) (if_pos hk))
theorem c_Traffic_end_72 : mCode j_Traffic_end 72 = oIld 1 73 := rfl
theorem e_Traffic_end_72 (a0 : Option MV) (x : Int32) : (WP Gm j_Traffic_end 72 (a0 :: some (.inl x) :: ls) (st) h Q) = (WP Gm j_Traffic_end 73 (a0 :: some (.inl x) :: ls) (.inl x :: st) (h) Q) := (WP_at c_Traffic_end_72 _ _ _ _)
theorem c_Traffic_end_73 : mCode j_Traffic_end 73 = oIld 3 74 := rfl
theorem e_Traffic_end_73 (a0 a1 a2 : Option MV) (x : Int32) : (WP Gm j_Traffic_end 73 (a0 :: a1 :: a2 :: some (.inl x) :: ls) (st) h Q) = (WP Gm j_Traffic_end 74 (a0 :: a1 :: a2 :: some (.inl x) :: ls) (.inl x :: st) (h) Q) := (WP_at c_Traffic_end_73 _ _ _ _)
theorem c_Traffic_end_74 : mCode j_Traffic_end 74 = oCallV kc_Land j_Land_canHear 2 (mL j_Land_canHear) 77 := rfl
theorem e_Traffic_end_74 (a : Nat) (x0 : Int32) (x1 : Int32) (hk : isK h a kc_Land = true) (hc : c8 st = true) : (WP Gm j_Traffic_end 74 (ls) (.inl x1 :: .inl x0 :: .inr (.inl (some a)) :: st) h Q) = (WP Gm j_Land_canHear 0 [some (.inr (.inl (some a))), some (.inl x0), some (.inl x1)] [] h (kC (fun v h2 => WP Gm j_Traffic_end 77 ls (v.toList ++ st) h2 Q) (fun E h2 => Q (.inr E) h2))) := (WP_at c_Traffic_end_74 _ _ _ _).trans (congrArg (fun o => ndX Gm (WP Gm) j_Traffic_end 74 o Q) (if_pos (by rw [hk, show decide (catS st ≤ 8) = true from hc]; rfl)))
theorem c_Traffic_end_77 : mCode j_Traffic_end 77 = oIf (fun x => decide (x = 0)) 87 80 := rfl
theorem e_Traffic_end_77 (x : Int32) : (WP Gm j_Traffic_end 77 (ls) (.inl x :: st) h Q) = (if x = 0 then WP Gm j_Traffic_end 87 (ls) (st) (h) Q else WP Gm j_Traffic_end 80 (ls) (st) (h) Q) := (WP_at c_Traffic_end_77 _ _ _ _).trans (nd_if rfl _ _ _ _)
theorem c_Traffic_end_80 : mCode j_Traffic_end 80 = oAld 2 81 := rfl
theorem e_Traffic_end_80 (a0 a1 : Option MV) (x : Option Nat) : (WP Gm j_Traffic_end 80 (a0 :: a1 :: some (.inr (.inl x)) :: ls) (st) h Q) = (WP Gm j_Traffic_end 81 (a0 :: a1 :: some (.inr (.inl x)) :: ls) (.inr (.inl x) :: st) (h) Q) := (WP_at c_Traffic_end_80 _ _ _ _)
theorem c_Traffic_end_81 : mCode j_Traffic_end 81 = oCallV kc_Node j_Node_finishFirst 0 (mL j_Node_finishFirst) 84 := rfl
theorem e_Traffic_end_81 (a : Nat) (hk : isK h a kc_Node = true) (hc : c8 st = true) : (WP Gm j_Traffic_end 81 (ls) (.inr (.inl (some a)) :: st) h Q) = (WP Gm j_Node_finishFirst 0 [some (.inr (.inl (some a)))] [] h (kC (fun v h2 => WP Gm j_Traffic_end 84 ls (v.toList ++ st) h2 Q) (fun E h2 => Q (.inr E) h2))) := (WP_at c_Traffic_end_81 _ _ _ _).trans (congrArg (fun o => ndX Gm (WP Gm) j_Traffic_end 81 o Q) (if_pos (by rw [hk, show decide (catS st ≤ 8) = true from hc]; rfl)))
theorem c_Traffic_end_84 : mCode j_Traffic_end 84 = oGo 92 := rfl
theorem e_Traffic_end_84  : (WP Gm j_Traffic_end 84 (ls) (st) h Q) = (WP Gm j_Traffic_end 92 (ls) (st) (h) Q) := (WP_at c_Traffic_end_84 _ _ _ _)
theorem c_Traffic_end_87 : mCode j_Traffic_end 87 = oAld 0 88 := rfl
theorem e_Traffic_end_87 (x : Option Nat) : (WP Gm j_Traffic_end 87 (some (.inr (.inl x)) :: ls) (st) h Q) = (WP Gm j_Traffic_end 88 (some (.inr (.inl x)) :: ls) (.inr (.inl x) :: st) (h) Q) := (WP_at c_Traffic_end_87 _ _ _ _)
theorem c_Traffic_end_88 : mCode j_Traffic_end 88 = oAld 2 89 := rfl
theorem e_Traffic_end_88 (a0 a1 : Option MV) (x : Option Nat) : (WP Gm j_Traffic_end 88 (a0 :: a1 :: some (.inr (.inl x)) :: ls) (st) h Q) = (WP Gm j_Traffic_end 89 (a0 :: a1 :: some (.inr (.inl x)) :: ls) (.inr (.inl x) :: st) (h) Q) := (WP_at c_Traffic_end_88 _ _ _ _)
theorem c_Traffic_end_89 : mCode j_Traffic_end 89 = oCallV kc_Traffic j_Traffic_tryAgain 1 (mL j_Traffic_tryAgain) 92 := rfl
theorem e_Traffic_end_89 (a : Nat) (x0 : Option Nat) (hk : isK h a kc_Traffic = true) (hc : c8 st = true) : (WP Gm j_Traffic_end 89 (ls) (.inr (.inl x0) :: .inr (.inl (some a)) :: st) h Q) = (WP Gm j_Traffic_tryAgain 0 [some (.inr (.inl (some a))), some (.inr (.inl x0))] [] h (kC (fun v h2 => WP Gm j_Traffic_end 92 ls (v.toList ++ st) h2 Q) (fun E h2 => Q (.inr E) h2))) := (WP_at c_Traffic_end_89 _ _ _ _).trans (congrArg (fun o => ndX Gm (WP Gm) j_Traffic_end 89 o Q) (if_pos (by rw [hk, show decide (catS st ≤ 8) = true from hc]; rfl)))
theorem c_Traffic_end_92 : mCode j_Traffic_end 92 = oRet := rfl
theorem e_Traffic_end_92  : (WP Gm j_Traffic_end 92 (ls) ([]) h Q) = (Q (.inl none) h) := (WP_at c_Traffic_end_92 _ _ _ _)
theorem c_Traffic_tryAgain_0 : mCode j_Traffic_tryAgain 0 = oAld 1 1 := rfl
theorem e_Traffic_tryAgain_0 (a0 : Option MV) (x : Option Nat) : (WP Gm j_Traffic_tryAgain 0 (a0 :: some (.inr (.inl x)) :: ls) (st) h Q) = (WP Gm j_Traffic_tryAgain 1 (a0 :: some (.inr (.inl x)) :: ls) (.inr (.inl x) :: st) (h) Q) := (WP_at c_Traffic_tryAgain_0 _ _ _ _)
theorem c_Traffic_tryAgain_1 : mCode j_Traffic_tryAgain 1 = oDup 2 := rfl
theorem e_Traffic_tryAgain_1 (x : Option Nat) : (WP Gm j_Traffic_tryAgain 1 (ls) (.inr (.inl x) :: st) h Q) = (WP Gm j_Traffic_tryAgain 2 (ls) (.inr (.inl x) :: .inr (.inl x) :: st) (h) Q) := (WP_at c_Traffic_tryAgain_1 _ _ _ _)
theorem c_Traffic_tryAgain_2 : mCode j_Traffic_tryAgain 2 = oGetI kc_Node 6 5 := rfl
theorem e_Traffic_tryAgain_2 (a : Nat) (hk : isK h a kc_Node = true) : (WP Gm j_Traffic_tryAgain 2 (ls) (.inr (.inl (some a)) :: st) h Q) = (WP Gm j_Traffic_tryAgain 5 (ls) (.inl (gI h a 6) :: st) (h) Q) := (WP_at c_Traffic_tryAgain_2 _ _ _ _).trans (congrArg (fun o => ndX Gm (WP Gm) j_Traffic_tryAgain 2 o Q) (if_pos hk))
theorem c_Traffic_tryAgain_5 : mCode j_Traffic_tryAgain 5 = oI 1 6 := rfl
theorem e_Traffic_tryAgain_5  : (WP Gm j_Traffic_tryAgain 5 (ls) (st) h Q) = (WP Gm j_Traffic_tryAgain 6 (ls) (.inl 1 :: st) (h) Q) := (WP_at c_Traffic_tryAgain_5 _ _ _ _)
theorem c_Traffic_tryAgain_6 : mCode j_Traffic_tryAgain 6 = oII (fun x y => x + y) 7 := rfl
theorem e_Traffic_tryAgain_6 (x : Int32) (y : Int32) : (WP Gm j_Traffic_tryAgain 6 (ls) (.inl y :: .inl x :: st) h Q) = (WP Gm j_Traffic_tryAgain 7 (ls) (.inl (x + y) :: st) (h) Q) := (WP_at c_Traffic_tryAgain_6 _ _ _ _)
theorem c_Traffic_tryAgain_7 : mCode j_Traffic_tryAgain 7 = oPutI kc_Node 6 10 := rfl
theorem e_Traffic_tryAgain_7 (a : Nat) (x : Int32) (hk : isK h a kc_Node = true) : (WP Gm j_Traffic_tryAgain 7 (ls) (.inl x :: .inr (.inl (some a)) :: st) h Q) = (WP Gm j_Traffic_tryAgain 10 (ls) (st) (sI h a 6 x) Q) := (WP_at c_Traffic_tryAgain_7 _ _ _ _).trans (congrArg (fun o => ndX Gm (WP Gm) j_Traffic_tryAgain 7 o Q) (if_pos hk))
theorem c_Traffic_tryAgain_10 : mCode j_Traffic_tryAgain 10 = oAld 1 11 := rfl
theorem e_Traffic_tryAgain_10 (a0 : Option MV) (x : Option Nat) : (WP Gm j_Traffic_tryAgain 10 (a0 :: some (.inr (.inl x)) :: ls) (st) h Q) = (WP Gm j_Traffic_tryAgain 11 (a0 :: some (.inr (.inl x)) :: ls) (.inr (.inl x) :: st) (h) Q) := (WP_at c_Traffic_tryAgain_10 _ _ _ _)
theorem c_Traffic_tryAgain_11 : mCode j_Traffic_tryAgain 11 = oGetI kc_Node 6 14 := rfl
theorem e_Traffic_tryAgain_11 (a : Nat) (hk : isK h a kc_Node = true) : (WP Gm j_Traffic_tryAgain 11 (ls) (.inr (.inl (some a)) :: st) h Q) = (WP Gm j_Traffic_tryAgain 14 (ls) (.inl (gI h a 6) :: st) (h) Q) := (WP_at c_Traffic_tryAgain_11 _ _ _ _).trans (congrArg (fun o => ndX Gm (WP Gm) j_Traffic_tryAgain 11 o Q) (if_pos hk))
theorem c_Traffic_tryAgain_14 : mCode j_Traffic_tryAgain 14 = oI 5 15 := rfl
theorem e_Traffic_tryAgain_14  : (WP Gm j_Traffic_tryAgain 14 (ls) (st) h Q) = (WP Gm j_Traffic_tryAgain 15 (ls) (.inl 5 :: st) (h) Q) := (WP_at c_Traffic_tryAgain_14 _ _ _ _)
theorem c_Traffic_tryAgain_15 : mCode j_Traffic_tryAgain 15 = oIC (fun x y => decide (x < y)) 26 18 := rfl
theorem e_Traffic_tryAgain_15 (x y : Int32) : (WP Gm j_Traffic_tryAgain 15 (ls) (.inl y :: .inl x :: st) h Q) = (if x < y then WP Gm j_Traffic_tryAgain 26 (ls) (st) (h) Q else WP Gm j_Traffic_tryAgain 18 (ls) (st) (h) Q) := (WP_at c_Traffic_tryAgain_15 _ _ _ _).trans (nd_ic rfl _ _ _ _)
theorem c_Traffic_tryAgain_18 : mCode j_Traffic_tryAgain 18 = oAld 0 19 := rfl
theorem e_Traffic_tryAgain_18 (x : Option Nat) : (WP Gm j_Traffic_tryAgain 18 (some (.inr (.inl x)) :: ls) (st) h Q) = (WP Gm j_Traffic_tryAgain 19 (some (.inr (.inl x)) :: ls) (.inr (.inl x) :: st) (h) Q) := (WP_at c_Traffic_tryAgain_18 _ _ _ _)
theorem c_Traffic_tryAgain_19 : mCode j_Traffic_tryAgain 19 = oAld 1 20 := rfl
theorem e_Traffic_tryAgain_19 (a0 : Option MV) (x : Option Nat) : (WP Gm j_Traffic_tryAgain 19 (a0 :: some (.inr (.inl x)) :: ls) (st) h Q) = (WP Gm j_Traffic_tryAgain 20 (a0 :: some (.inr (.inl x)) :: ls) (.inr (.inl x) :: st) (h) Q) := (WP_at c_Traffic_tryAgain_19 _ _ _ _)
theorem c_Traffic_tryAgain_20 : mCode j_Traffic_tryAgain 20 = oCallV kc_Traffic j_Traffic_dropFirst 1 (mL j_Traffic_dropFirst) 23 := rfl
theorem e_Traffic_tryAgain_20 (a : Nat) (x0 : Option Nat) (hk : isK h a kc_Traffic = true) (hc : c8 st = true) : (WP Gm j_Traffic_tryAgain 20 (ls) (.inr (.inl x0) :: .inr (.inl (some a)) :: st) h Q) = (WP Gm j_Traffic_dropFirst 0 [some (.inr (.inl (some a))), some (.inr (.inl x0))] [] h (kC (fun v h2 => WP Gm j_Traffic_tryAgain 23 ls (v.toList ++ st) h2 Q) (fun E h2 => Q (.inr E) h2))) := (WP_at c_Traffic_tryAgain_20 _ _ _ _).trans (congrArg (fun o => ndX Gm (WP Gm) j_Traffic_tryAgain 20 o Q) (if_pos (by rw [hk, show decide (catS st ≤ 8) = true from hc]; rfl)))
theorem c_Traffic_tryAgain_23 : mCode j_Traffic_tryAgain 23 = oGo 53 := rfl
theorem e_Traffic_tryAgain_23  : (WP Gm j_Traffic_tryAgain 23 (ls) (st) h Q) = (WP Gm j_Traffic_tryAgain 53 (ls) (st) (h) Q) := (WP_at c_Traffic_tryAgain_23 _ _ _ _)
theorem c_Traffic_tryAgain_26 : mCode j_Traffic_tryAgain 26 = oAld 1 27 := rfl
theorem e_Traffic_tryAgain_26 (a0 : Option MV) (x : Option Nat) : (WP Gm j_Traffic_tryAgain 26 (a0 :: some (.inr (.inl x)) :: ls) (st) h Q) = (WP Gm j_Traffic_tryAgain 27 (a0 :: some (.inr (.inl x)) :: ls) (.inr (.inl x) :: st) (h) Q) := (WP_at c_Traffic_tryAgain_26 _ _ _ _)
theorem c_Traffic_tryAgain_27 : mCode j_Traffic_tryAgain 27 = oAld 1 28 := rfl
theorem e_Traffic_tryAgain_27 (a0 : Option MV) (x : Option Nat) : (WP Gm j_Traffic_tryAgain 27 (a0 :: some (.inr (.inl x)) :: ls) (st) h Q) = (WP Gm j_Traffic_tryAgain 28 (a0 :: some (.inr (.inl x)) :: ls) (.inr (.inl x) :: st) (h) Q) := (WP_at c_Traffic_tryAgain_27 _ _ _ _)
theorem c_Traffic_tryAgain_28 : mCode j_Traffic_tryAgain 28 = oGetI kc_Node 3 31 := rfl
theorem e_Traffic_tryAgain_28 (a : Nat) (hk : isK h a kc_Node = true) : (WP Gm j_Traffic_tryAgain 28 (ls) (.inr (.inl (some a)) :: st) h Q) = (WP Gm j_Traffic_tryAgain 31 (ls) (.inl (gI h a 3) :: st) (h) Q) := (WP_at c_Traffic_tryAgain_28 _ _ _ _).trans (congrArg (fun o => ndX Gm (WP Gm) j_Traffic_tryAgain 28 o Q) (if_pos hk))
theorem c_Traffic_tryAgain_31 : mCode j_Traffic_tryAgain 31 = oIf (fun x => decide (x = 0)) 38 34 := rfl
theorem e_Traffic_tryAgain_31 (x : Int32) : (WP Gm j_Traffic_tryAgain 31 (ls) (.inl x :: st) h Q) = (if x = 0 then WP Gm j_Traffic_tryAgain 38 (ls) (st) (h) Q else WP Gm j_Traffic_tryAgain 34 (ls) (st) (h) Q) := (WP_at c_Traffic_tryAgain_31 _ _ _ _).trans (nd_if rfl _ _ _ _)
theorem c_Traffic_tryAgain_34 : mCode j_Traffic_tryAgain 34 = oI 0 35 := rfl
theorem e_Traffic_tryAgain_34  : (WP Gm j_Traffic_tryAgain 34 (ls) (st) h Q) = (WP Gm j_Traffic_tryAgain 35 (ls) (.inl 0 :: st) (h) Q) := (WP_at c_Traffic_tryAgain_34 _ _ _ _)
theorem c_Traffic_tryAgain_35 : mCode j_Traffic_tryAgain 35 = oGo 50 := rfl
theorem e_Traffic_tryAgain_35  : (WP Gm j_Traffic_tryAgain 35 (ls) (st) h Q) = (WP Gm j_Traffic_tryAgain 50 (ls) (st) (h) Q) := (WP_at c_Traffic_tryAgain_35 _ _ _ _)
theorem c_Traffic_tryAgain_38 : mCode j_Traffic_tryAgain 38 = oAld 0 39 := rfl
theorem e_Traffic_tryAgain_38 (x : Option Nat) : (WP Gm j_Traffic_tryAgain 38 (some (.inr (.inl x)) :: ls) (st) h Q) = (WP Gm j_Traffic_tryAgain 39 (some (.inr (.inl x)) :: ls) (.inr (.inl x) :: st) (h) Q) := (WP_at c_Traffic_tryAgain_38 _ _ _ _)
theorem c_Traffic_tryAgain_39 : mCode j_Traffic_tryAgain 39 = oI 1 40 := rfl
theorem e_Traffic_tryAgain_39  : (WP Gm j_Traffic_tryAgain 39 (ls) (st) h Q) = (WP Gm j_Traffic_tryAgain 40 (ls) (.inl 1 :: st) (h) Q) := (WP_at c_Traffic_tryAgain_39 _ _ _ _)
theorem c_Traffic_tryAgain_40 : mCode j_Traffic_tryAgain 40 = oAld 1 41 := rfl
theorem e_Traffic_tryAgain_40 (a0 : Option MV) (x : Option Nat) : (WP Gm j_Traffic_tryAgain 40 (a0 :: some (.inr (.inl x)) :: ls) (st) h Q) = (WP Gm j_Traffic_tryAgain 41 (a0 :: some (.inr (.inl x)) :: ls) (.inr (.inl x) :: st) (h) Q) := (WP_at c_Traffic_tryAgain_40 _ _ _ _)
theorem c_Traffic_tryAgain_41 : mCode j_Traffic_tryAgain 41 = oGetI kc_Node 6 44 := rfl
theorem e_Traffic_tryAgain_41 (a : Nat) (hk : isK h a kc_Node = true) : (WP Gm j_Traffic_tryAgain 41 (ls) (.inr (.inl (some a)) :: st) h Q) = (WP Gm j_Traffic_tryAgain 44 (ls) (.inl (gI h a 6) :: st) (h) Q) := (WP_at c_Traffic_tryAgain_41 _ _ _ _).trans (congrArg (fun o => ndX Gm (WP Gm) j_Traffic_tryAgain 41 o Q) (if_pos hk))
theorem c_Traffic_tryAgain_44 : mCode j_Traffic_tryAgain 44 = oI 1 45 := rfl
theorem e_Traffic_tryAgain_44  : (WP Gm j_Traffic_tryAgain 44 (ls) (st) h Q) = (WP Gm j_Traffic_tryAgain 45 (ls) (.inl 1 :: st) (h) Q) := (WP_at c_Traffic_tryAgain_44 _ _ _ _)
theorem c_Traffic_tryAgain_45 : mCode j_Traffic_tryAgain 45 = oII (fun x y => x + y) 46 := rfl
theorem e_Traffic_tryAgain_45 (x : Int32) (y : Int32) : (WP Gm j_Traffic_tryAgain 45 (ls) (.inl y :: .inl x :: st) h Q) = (WP Gm j_Traffic_tryAgain 46 (ls) (.inl (x + y) :: st) (h) Q) := (WP_at c_Traffic_tryAgain_45 _ _ _ _)
theorem c_Traffic_tryAgain_46 : mCode j_Traffic_tryAgain 46 = oII (fun x y => x <<< (y &&& 31)) 47 := rfl
theorem e_Traffic_tryAgain_46 (x : Int32) (y : Int32) : (WP Gm j_Traffic_tryAgain 46 (ls) (.inl y :: .inl x :: st) h Q) = (WP Gm j_Traffic_tryAgain 47 (ls) (.inl (x <<< (y &&& 31)) :: st) (h) Q) := (WP_at c_Traffic_tryAgain_46 _ _ _ _)
theorem c_Traffic_tryAgain_47 : mCode j_Traffic_tryAgain 47 = oCallV kc_Traffic j_Traffic_draw 1 (mL j_Traffic_draw) 50 := rfl
theorem e_Traffic_tryAgain_47 (a : Nat) (x0 : Int32) (hk : isK h a kc_Traffic = true) (hc : c8 st = true) : (WP Gm j_Traffic_tryAgain 47 (ls) (.inl x0 :: .inr (.inl (some a)) :: st) h Q) = (WP Gm j_Traffic_draw 0 [some (.inr (.inl (some a))), some (.inl x0)] [] h (kC (fun v h2 => WP Gm j_Traffic_tryAgain 50 ls (v.toList ++ st) h2 Q) (fun E h2 => Q (.inr E) h2))) := (WP_at c_Traffic_tryAgain_47 _ _ _ _).trans (congrArg (fun o => ndX Gm (WP Gm) j_Traffic_tryAgain 47 o Q) (if_pos (by rw [hk, show decide (catS st ≤ 8) = true from hc]; rfl)))
theorem c_Traffic_tryAgain_50 : mCode j_Traffic_tryAgain 50 = oCallV kc_Node j_Node_waitAgain 1 (mL j_Node_waitAgain) 53 := rfl
theorem e_Traffic_tryAgain_50 (a : Nat) (x0 : Int32) (hk : isK h a kc_Node = true) (hc : c8 st = true) : (WP Gm j_Traffic_tryAgain 50 (ls) (.inl x0 :: .inr (.inl (some a)) :: st) h Q) = (WP Gm j_Node_waitAgain 0 [some (.inr (.inl (some a))), some (.inl x0)] [] h (kC (fun v h2 => WP Gm j_Traffic_tryAgain 53 ls (v.toList ++ st) h2 Q) (fun E h2 => Q (.inr E) h2))) := (WP_at c_Traffic_tryAgain_50 _ _ _ _).trans (congrArg (fun o => ndX Gm (WP Gm) j_Traffic_tryAgain 50 o Q) (if_pos (by rw [hk, show decide (catS st ≤ 8) = true from hc]; rfl)))
theorem c_Traffic_tryAgain_53 : mCode j_Traffic_tryAgain 53 = oRet := rfl
theorem e_Traffic_tryAgain_53  : (WP Gm j_Traffic_tryAgain 53 (ls) ([]) h Q) = (Q (.inl none) h) := (WP_at c_Traffic_tryAgain_53 _ _ _ _)
theorem c_Traffic_receive_0 : mCode j_Traffic_receive 0 = oAld 2 1 := rfl
theorem e_Traffic_receive_0 (a0 a1 : Option MV) (x : Option Nat) : (WP Gm j_Traffic_receive 0 (a0 :: a1 :: some (.inr (.inl x)) :: ls) (st) h Q) = (WP Gm j_Traffic_receive 1 (a0 :: a1 :: some (.inr (.inl x)) :: ls) (.inr (.inl x) :: st) (h) Q) := (WP_at c_Traffic_receive_0 _ _ _ _)
theorem c_Traffic_receive_1 : mCode j_Traffic_receive 1 = oGetI kc_Frame 1 4 := rfl
theorem e_Traffic_receive_1 (a : Nat) (hk : isK h a kc_Frame = true) : (WP Gm j_Traffic_receive 1 (ls) (.inr (.inl (some a)) :: st) h Q) = (WP Gm j_Traffic_receive 4 (ls) (.inl (gI h a 1) :: st) (h) Q) := (WP_at c_Traffic_receive_1 _ _ _ _).trans (congrArg (fun o => ndX Gm (WP Gm) j_Traffic_receive 1 o Q) (if_pos hk))
theorem c_Traffic_receive_4 : mCode j_Traffic_receive 4 = oIld 1 5 := rfl
theorem e_Traffic_receive_4 (a0 : Option MV) (x : Int32) : (WP Gm j_Traffic_receive 4 (a0 :: some (.inl x) :: ls) (st) h Q) = (WP Gm j_Traffic_receive 5 (a0 :: some (.inl x) :: ls) (.inl x :: st) (h) Q) := (WP_at c_Traffic_receive_4 _ _ _ _)
theorem c_Traffic_receive_5 : mCode j_Traffic_receive 5 = oIC (fun x y => decide (¬ x = y)) 14 8 := rfl
theorem e_Traffic_receive_5 (x y : Int32) : (WP Gm j_Traffic_receive 5 (ls) (.inl y :: .inl x :: st) h Q) = (if ¬ x = y then WP Gm j_Traffic_receive 14 (ls) (st) (h) Q else WP Gm j_Traffic_receive 8 (ls) (st) (h) Q) := (WP_at c_Traffic_receive_5 _ _ _ _).trans (nd_ic rfl _ _ _ _)
theorem c_Traffic_receive_8 : mCode j_Traffic_receive 8 = oAld 0 9 := rfl
theorem e_Traffic_receive_8 (x : Option Nat) : (WP Gm j_Traffic_receive 8 (some (.inr (.inl x)) :: ls) (st) h Q) = (WP Gm j_Traffic_receive 9 (some (.inr (.inl x)) :: ls) (.inr (.inl x) :: st) (h) Q) := (WP_at c_Traffic_receive_8 _ _ _ _)
theorem c_Traffic_receive_9 : mCode j_Traffic_receive 9 = oAld 2 10 := rfl
theorem e_Traffic_receive_9 (a0 a1 : Option MV) (x : Option Nat) : (WP Gm j_Traffic_receive 9 (a0 :: a1 :: some (.inr (.inl x)) :: ls) (st) h Q) = (WP Gm j_Traffic_receive 10 (a0 :: a1 :: some (.inr (.inl x)) :: ls) (.inr (.inl x) :: st) (h) Q) := (WP_at c_Traffic_receive_9 _ _ _ _)
theorem c_Traffic_receive_10 : mCode j_Traffic_receive 10 = oCallV kc_Traffic j_Traffic_arrive 1 (mL j_Traffic_arrive) 13 := rfl
theorem e_Traffic_receive_10 (a : Nat) (x0 : Option Nat) (hk : isK h a kc_Traffic = true) (hc : c8 st = true) : (WP Gm j_Traffic_receive 10 (ls) (.inr (.inl x0) :: .inr (.inl (some a)) :: st) h Q) = (WP Gm j_Traffic_arrive 0 [some (.inr (.inl (some a))), some (.inr (.inl x0)), none] [] h (kC (fun v h2 => WP Gm j_Traffic_receive 13 ls (v.toList ++ st) h2 Q) (fun E h2 => Q (.inr E) h2))) := (WP_at c_Traffic_receive_10 _ _ _ _).trans (congrArg (fun o => ndX Gm (WP Gm) j_Traffic_receive 10 o Q) (if_pos (by rw [hk, show decide (catS st ≤ 8) = true from hc]; rfl)))
theorem c_Traffic_receive_13 : mCode j_Traffic_receive 13 = oRet := rfl
theorem e_Traffic_receive_13  : (WP Gm j_Traffic_receive 13 (ls) ([]) h Q) = (Q (.inl none) h) := (WP_at c_Traffic_receive_13 _ _ _ _)
theorem c_Traffic_receive_14 : mCode j_Traffic_receive 14 = oAld 2 15 := rfl
theorem e_Traffic_receive_14 (a0 a1 : Option MV) (x : Option Nat) : (WP Gm j_Traffic_receive 14 (a0 :: a1 :: some (.inr (.inl x)) :: ls) (st) h Q) = (WP Gm j_Traffic_receive 15 (a0 :: a1 :: some (.inr (.inl x)) :: ls) (.inr (.inl x) :: st) (h) Q) := (WP_at c_Traffic_receive_14 _ _ _ _)
theorem c_Traffic_receive_15 : mCode j_Traffic_receive 15 = oGetI kc_Frame 4 18 := rfl
theorem e_Traffic_receive_15 (a : Nat) (hk : isK h a kc_Frame = true) : (WP Gm j_Traffic_receive 15 (ls) (.inr (.inl (some a)) :: st) h Q) = (WP Gm j_Traffic_receive 18 (ls) (.inl (gI h a 4) :: st) (h) Q) := (WP_at c_Traffic_receive_15 _ _ _ _).trans (congrArg (fun o => ndX Gm (WP Gm) j_Traffic_receive 15 o Q) (if_pos hk))
theorem c_Traffic_receive_18 : mCode j_Traffic_receive 18 = oI 7 20 := rfl
theorem e_Traffic_receive_18  : (WP Gm j_Traffic_receive 18 (ls) (st) h Q) = (WP Gm j_Traffic_receive 20 (ls) (.inl 7 :: st) (h) Q) := (WP_at c_Traffic_receive_18 _ _ _ _)
theorem c_Traffic_receive_20 : mCode j_Traffic_receive 20 = oIC (fun x y => decide (y ≤ x)) 42 23 := rfl
theorem e_Traffic_receive_20 (x y : Int32) : (WP Gm j_Traffic_receive 20 (ls) (.inl y :: .inl x :: st) h Q) = (if y ≤ x then WP Gm j_Traffic_receive 42 (ls) (st) (h) Q else WP Gm j_Traffic_receive 23 (ls) (st) (h) Q) := (WP_at c_Traffic_receive_20 _ _ _ _).trans (nd_ic rfl _ _ _ _)
theorem c_Traffic_receive_23 : mCode j_Traffic_receive 23 = oAld 0 24 := rfl
theorem e_Traffic_receive_23 (x : Option Nat) : (WP Gm j_Traffic_receive 23 (some (.inr (.inl x)) :: ls) (st) h Q) = (WP Gm j_Traffic_receive 24 (some (.inr (.inl x)) :: ls) (.inr (.inl x) :: st) (h) Q) := (WP_at c_Traffic_receive_23 _ _ _ _)
theorem c_Traffic_receive_24 : mCode j_Traffic_receive 24 = oGetR kc_Traffic 0 27 := rfl
theorem e_Traffic_receive_24 (a : Nat) (hk : isK h a kc_Traffic = true) : (WP Gm j_Traffic_receive 24 (ls) (.inr (.inl (some a)) :: st) h Q) = (WP Gm j_Traffic_receive 27 (ls) (.inr (.inl (gR h a 0)) :: st) (h) Q) := (WP_at c_Traffic_receive_24 _ _ _ _).trans (congrArg (fun o => ndX Gm (WP Gm) j_Traffic_receive 24 o Q) (if_pos hk))
theorem c_Traffic_receive_27 : mCode j_Traffic_receive 27 = oGetR kc_Land 0 30 := rfl
theorem e_Traffic_receive_27 (a : Nat) (hk : isK h a kc_Land = true) : (WP Gm j_Traffic_receive 27 (ls) (.inr (.inl (some a)) :: st) h Q) = (WP Gm j_Traffic_receive 30 (ls) (.inr (.inl (gR h a 0)) :: st) (h) Q) := (WP_at c_Traffic_receive_27 _ _ _ _).trans (congrArg (fun o => ndX Gm (WP Gm) j_Traffic_receive 27 o Q) (if_pos hk))
theorem c_Traffic_receive_30 : mCode j_Traffic_receive 30 = oIld 1 31 := rfl
theorem e_Traffic_receive_30 (a0 : Option MV) (x : Int32) : (WP Gm j_Traffic_receive 30 (a0 :: some (.inl x) :: ls) (st) h Q) = (WP Gm j_Traffic_receive 31 (a0 :: some (.inl x) :: ls) (.inl x :: st) (h) Q) := (WP_at c_Traffic_receive_30 _ _ _ _)
theorem c_Traffic_receive_31 : mCode j_Traffic_receive 31 = oAal 2 32 := rfl
theorem e_Traffic_receive_31 (a : Nat) (i : Int32) (hk : isK h a 102 = true) (hi : inL h a i = true) : (WP Gm j_Traffic_receive 31 (ls) (.inl i :: .inr (.inl (some a)) :: st) h Q) = (WP Gm j_Traffic_receive 32 (ls) (.inr (.inl (gR h a i.toNatClampNeg)) :: st) (h) Q) := (WP_at c_Traffic_receive_31 _ _ _ _).trans (congrArg (fun o => ndX Gm (WP Gm) j_Traffic_receive 31 o Q) (if_pos (by rw [hk, hi]; rfl)))
theorem c_Traffic_receive_32 : mCode j_Traffic_receive 32 = oGetR kc_Node 4 35 := rfl
theorem e_Traffic_receive_32 (a : Nat) (hk : isK h a kc_Node = true) : (WP Gm j_Traffic_receive 32 (ls) (.inr (.inl (some a)) :: st) h Q) = (WP Gm j_Traffic_receive 35 (ls) (.inr (.inl (gR h a 4)) :: st) (h) Q) := (WP_at c_Traffic_receive_32 _ _ _ _).trans (congrArg (fun o => ndX Gm (WP Gm) j_Traffic_receive 32 o Q) (if_pos hk))
theorem c_Traffic_receive_35 : mCode j_Traffic_receive 35 = oAld 2 36 := rfl
theorem e_Traffic_receive_35 (a0 a1 : Option MV) (x : Option Nat) : (WP Gm j_Traffic_receive 35 (a0 :: a1 :: some (.inr (.inl x)) :: ls) (st) h Q) = (WP Gm j_Traffic_receive 36 (a0 :: a1 :: some (.inr (.inl x)) :: ls) (.inr (.inl x) :: st) (h) Q) := (WP_at c_Traffic_receive_35 _ _ _ _)
theorem c_Traffic_receive_36 : mCode j_Traffic_receive 36 = oCallS j_Traffic_pushCopy 2 (mL j_Traffic_pushCopy) 39 := rfl
theorem e_Traffic_receive_36 (x0 : Option Nat) (x1 : Option Nat) (hc : c8 st = true) : (WP Gm j_Traffic_receive 36 (ls) (.inr (.inl x1) :: .inr (.inl x0) :: st) h Q) = (WP Gm j_Traffic_pushCopy 0 [some (.inr (.inl x0)), some (.inr (.inl x1))] [] h (kC (fun v h2 => WP Gm j_Traffic_receive 39 ls (v.toList ++ st) h2 Q) (fun E h2 => Q (.inr E) h2))) := (WP_at c_Traffic_receive_36 _ _ _ _).trans (congrArg (fun o => ndX Gm (WP Gm) j_Traffic_receive 36 o Q) (if_pos (by rw [show decide (catS st ≤ 8) = true from hc]; rfl)))
theorem c_Traffic_receive_39 : mCode j_Traffic_receive 39 = oIf (fun x => decide (¬ x = 0)) 52 42 := rfl
theorem e_Traffic_receive_39 (x : Int32) : (WP Gm j_Traffic_receive 39 (ls) (.inl x :: st) h Q) = (if ¬ x = 0 then WP Gm j_Traffic_receive 52 (ls) (st) (h) Q else WP Gm j_Traffic_receive 42 (ls) (st) (h) Q) := (WP_at c_Traffic_receive_39 _ _ _ _).trans (nd_if rfl _ _ _ _)
theorem c_Traffic_receive_42 : mCode j_Traffic_receive 42 = oAld 0 43 := rfl
theorem e_Traffic_receive_42 (x : Option Nat) : (WP Gm j_Traffic_receive 42 (some (.inr (.inl x)) :: ls) (st) h Q) = (WP Gm j_Traffic_receive 43 (some (.inr (.inl x)) :: ls) (.inr (.inl x) :: st) (h) Q) := (WP_at c_Traffic_receive_42 _ _ _ _)
theorem c_Traffic_receive_43 : mCode j_Traffic_receive 43 = oDup 44 := rfl
theorem e_Traffic_receive_43 (x : Option Nat) : (WP Gm j_Traffic_receive 43 (ls) (.inr (.inl x) :: st) h Q) = (WP Gm j_Traffic_receive 44 (ls) (.inr (.inl x) :: .inr (.inl x) :: st) (h) Q) := (WP_at c_Traffic_receive_43 _ _ _ _)
theorem c_Traffic_receive_44 : mCode j_Traffic_receive 44 = oGetI kc_Traffic 6 47 := rfl
theorem e_Traffic_receive_44 (a : Nat) (hk : isK h a kc_Traffic = true) : (WP Gm j_Traffic_receive 44 (ls) (.inr (.inl (some a)) :: st) h Q) = (WP Gm j_Traffic_receive 47 (ls) (.inl (gI h a 6) :: st) (h) Q) := (WP_at c_Traffic_receive_44 _ _ _ _).trans (congrArg (fun o => ndX Gm (WP Gm) j_Traffic_receive 44 o Q) (if_pos hk))
theorem c_Traffic_receive_47 : mCode j_Traffic_receive 47 = oI 1 48 := rfl
theorem e_Traffic_receive_47  : (WP Gm j_Traffic_receive 47 (ls) (st) h Q) = (WP Gm j_Traffic_receive 48 (ls) (.inl 1 :: st) (h) Q) := (WP_at c_Traffic_receive_47 _ _ _ _)
theorem c_Traffic_receive_48 : mCode j_Traffic_receive 48 = oII (fun x y => x + y) 49 := rfl
theorem e_Traffic_receive_48 (x : Int32) (y : Int32) : (WP Gm j_Traffic_receive 48 (ls) (.inl y :: .inl x :: st) h Q) = (WP Gm j_Traffic_receive 49 (ls) (.inl (x + y) :: st) (h) Q) := (WP_at c_Traffic_receive_48 _ _ _ _)
theorem c_Traffic_receive_49 : mCode j_Traffic_receive 49 = oPutI kc_Traffic 6 52 := rfl
theorem e_Traffic_receive_49 (a : Nat) (x : Int32) (hk : isK h a kc_Traffic = true) : (WP Gm j_Traffic_receive 49 (ls) (.inl x :: .inr (.inl (some a)) :: st) h Q) = (WP Gm j_Traffic_receive 52 (ls) (st) (sI h a 6 x) Q) := (WP_at c_Traffic_receive_49 _ _ _ _).trans (congrArg (fun o => ndX Gm (WP Gm) j_Traffic_receive 49 o Q) (if_pos hk))
theorem c_Traffic_receive_52 : mCode j_Traffic_receive 52 = oRet := rfl
theorem e_Traffic_receive_52  : (WP Gm j_Traffic_receive 52 (ls) ([]) h Q) = (Q (.inl none) h) := (WP_at c_Traffic_receive_52 _ _ _ _)
theorem c_Traffic_pushCopy_0 : mCode j_Traffic_pushCopy 0 = oAld 0 1 := rfl
theorem e_Traffic_pushCopy_0 (x : Option Nat) : (WP Gm j_Traffic_pushCopy 0 (some (.inr (.inl x)) :: ls) (st) h Q) = (WP Gm j_Traffic_pushCopy 1 (some (.inr (.inl x)) :: ls) (.inr (.inl x) :: st) (h) Q) := (WP_at c_Traffic_pushCopy_0 _ _ _ _)
theorem c_Traffic_pushCopy_1 : mCode j_Traffic_pushCopy 1 = oAld 1 2 := rfl
theorem e_Traffic_pushCopy_1 (a0 : Option MV) (x : Option Nat) : (WP Gm j_Traffic_pushCopy 1 (a0 :: some (.inr (.inl x)) :: ls) (st) h Q) = (WP Gm j_Traffic_pushCopy 2 (a0 :: some (.inr (.inl x)) :: ls) (.inr (.inl x) :: st) (h) Q) := (WP_at c_Traffic_pushCopy_1 _ _ _ _)
theorem c_Traffic_pushCopy_2 : mCode j_Traffic_pushCopy 2 = oGetI kc_Frame 0 5 := rfl
theorem e_Traffic_pushCopy_2 (a : Nat) (hk : isK h a kc_Frame = true) : (WP Gm j_Traffic_pushCopy 2 (ls) (.inr (.inl (some a)) :: st) h Q) = (WP Gm j_Traffic_pushCopy 5 (ls) (.inl (gI h a 0) :: st) (h) Q) := (WP_at c_Traffic_pushCopy_2 _ _ _ _).trans (congrArg (fun o => ndX Gm (WP Gm) j_Traffic_pushCopy 2 o Q) (if_pos hk))
theorem c_Traffic_pushCopy_5 : mCode j_Traffic_pushCopy 5 = oAld 1 6 := rfl
theorem e_Traffic_pushCopy_5 (a0 : Option MV) (x : Option Nat) : (WP Gm j_Traffic_pushCopy 5 (a0 :: some (.inr (.inl x)) :: ls) (st) h Q) = (WP Gm j_Traffic_pushCopy 6 (a0 :: some (.inr (.inl x)) :: ls) (.inr (.inl x) :: st) (h) Q) := (WP_at c_Traffic_pushCopy_5 _ _ _ _)
theorem c_Traffic_pushCopy_6 : mCode j_Traffic_pushCopy 6 = oGetI kc_Frame 1 9 := rfl
theorem e_Traffic_pushCopy_6 (a : Nat) (hk : isK h a kc_Frame = true) : (WP Gm j_Traffic_pushCopy 6 (ls) (.inr (.inl (some a)) :: st) h Q) = (WP Gm j_Traffic_pushCopy 9 (ls) (.inl (gI h a 1) :: st) (h) Q) := (WP_at c_Traffic_pushCopy_6 _ _ _ _).trans (congrArg (fun o => ndX Gm (WP Gm) j_Traffic_pushCopy 6 o Q) (if_pos hk))
theorem c_Traffic_pushCopy_9 : mCode j_Traffic_pushCopy 9 = oAld 1 10 := rfl
theorem e_Traffic_pushCopy_9 (a0 : Option MV) (x : Option Nat) : (WP Gm j_Traffic_pushCopy 9 (a0 :: some (.inr (.inl x)) :: ls) (st) h Q) = (WP Gm j_Traffic_pushCopy 10 (a0 :: some (.inr (.inl x)) :: ls) (.inr (.inl x) :: st) (h) Q) := (WP_at c_Traffic_pushCopy_9 _ _ _ _)
theorem c_Traffic_pushCopy_10 : mCode j_Traffic_pushCopy 10 = oGetI kc_Frame 2 13 := rfl
theorem e_Traffic_pushCopy_10 (a : Nat) (hk : isK h a kc_Frame = true) : (WP Gm j_Traffic_pushCopy 10 (ls) (.inr (.inl (some a)) :: st) h Q) = (WP Gm j_Traffic_pushCopy 13 (ls) (.inl (gI h a 2) :: st) (h) Q) := (WP_at c_Traffic_pushCopy_10 _ _ _ _).trans (congrArg (fun o => ndX Gm (WP Gm) j_Traffic_pushCopy 10 o Q) (if_pos hk))
theorem c_Traffic_pushCopy_13 : mCode j_Traffic_pushCopy 13 = oAld 1 14 := rfl
theorem e_Traffic_pushCopy_13 (a0 : Option MV) (x : Option Nat) : (WP Gm j_Traffic_pushCopy 13 (a0 :: some (.inr (.inl x)) :: ls) (st) h Q) = (WP Gm j_Traffic_pushCopy 14 (a0 :: some (.inr (.inl x)) :: ls) (.inr (.inl x) :: st) (h) Q) := (WP_at c_Traffic_pushCopy_13 _ _ _ _)
theorem c_Traffic_pushCopy_14 : mCode j_Traffic_pushCopy 14 = oGetI kc_Frame 3 17 := rfl
theorem e_Traffic_pushCopy_14 (a : Nat) (hk : isK h a kc_Frame = true) : (WP Gm j_Traffic_pushCopy 14 (ls) (.inr (.inl (some a)) :: st) h Q) = (WP Gm j_Traffic_pushCopy 17 (ls) (.inl (gI h a 3) :: st) (h) Q) := (WP_at c_Traffic_pushCopy_14 _ _ _ _).trans (congrArg (fun o => ndX Gm (WP Gm) j_Traffic_pushCopy 14 o Q) (if_pos hk))
theorem c_Traffic_pushCopy_17 : mCode j_Traffic_pushCopy 17 = oAld 1 18 := rfl
theorem e_Traffic_pushCopy_17 (a0 : Option MV) (x : Option Nat) : (WP Gm j_Traffic_pushCopy 17 (a0 :: some (.inr (.inl x)) :: ls) (st) h Q) = (WP Gm j_Traffic_pushCopy 18 (a0 :: some (.inr (.inl x)) :: ls) (.inr (.inl x) :: st) (h) Q) := (WP_at c_Traffic_pushCopy_17 _ _ _ _)
theorem c_Traffic_pushCopy_18 : mCode j_Traffic_pushCopy 18 = oGetI kc_Frame 4 21 := rfl
theorem e_Traffic_pushCopy_18 (a : Nat) (hk : isK h a kc_Frame = true) : (WP Gm j_Traffic_pushCopy 18 (ls) (.inr (.inl (some a)) :: st) h Q) = (WP Gm j_Traffic_pushCopy 21 (ls) (.inl (gI h a 4) :: st) (h) Q) := (WP_at c_Traffic_pushCopy_18 _ _ _ _).trans (congrArg (fun o => ndX Gm (WP Gm) j_Traffic_pushCopy 18 o Q) (if_pos hk))
theorem c_Traffic_pushCopy_21 : mCode j_Traffic_pushCopy 21 = oI 1 22 := rfl
theorem e_Traffic_pushCopy_21  : (WP Gm j_Traffic_pushCopy 21 (ls) (st) h Q) = (WP Gm j_Traffic_pushCopy 22 (ls) (.inl 1 :: st) (h) Q) := (WP_at c_Traffic_pushCopy_21 _ _ _ _)
theorem c_Traffic_pushCopy_22 : mCode j_Traffic_pushCopy 22 = oII (fun x y => x + y) 23 := rfl
theorem e_Traffic_pushCopy_22 (x : Int32) (y : Int32) : (WP Gm j_Traffic_pushCopy 22 (ls) (.inl y :: .inl x :: st) h Q) = (WP Gm j_Traffic_pushCopy 23 (ls) (.inl (x + y) :: st) (h) Q) := (WP_at c_Traffic_pushCopy_22 _ _ _ _)
theorem c_Traffic_pushCopy_23 : mCode j_Traffic_pushCopy 23 = oCallV kc_FrameQueue j_FrameQueue_add 5 (mL j_FrameQueue_add) 26 := rfl
theorem e_Traffic_pushCopy_23 (a : Nat) (x0 : Int32) (x1 : Int32) (x2 : Int32) (x3 : Int32) (x4 : Int32) (hk : isK h a kc_FrameQueue = true) (hc : c8 st = true) : (WP Gm j_Traffic_pushCopy 23 (ls) (.inl x4 :: .inl x3 :: .inl x2 :: .inl x1 :: .inl x0 :: .inr (.inl (some a)) :: st) h Q) = (WP Gm j_FrameQueue_add 0 [some (.inr (.inl (some a))), some (.inl x0), some (.inl x1), some (.inl x2), some (.inl x3), some (.inl x4), none] [] h (kC (fun v h2 => WP Gm j_Traffic_pushCopy 26 ls (v.toList ++ st) h2 Q) (fun E h2 => Q (.inr E) h2))) := (WP_at c_Traffic_pushCopy_23 _ _ _ _).trans (congrArg (fun o => ndX Gm (WP Gm) j_Traffic_pushCopy 23 o Q) (if_pos (by rw [hk, show decide (catS st ≤ 8) = true from hc]; rfl)))
theorem c_Traffic_pushCopy_26 : mCode j_Traffic_pushCopy 26 = oRetZ := rfl
theorem e_Traffic_pushCopy_26 (x : Int32) (hx : x = 0 ∨ x = 1) : (WP Gm j_Traffic_pushCopy 26 (ls) ([.inl x]) h Q) = (Q (.inl (some (.inl x))) h) := (WP_at c_Traffic_pushCopy_26 _ _ _ _).trans (congrArg (fun o => ndX Gm (WP Gm) j_Traffic_pushCopy 26 o Q) (if_pos (by rcases hx with rfl | rfl <;> rfl)))
theorem c_Traffic_arrive_0 : mCode j_Traffic_arrive 0 = oAld 0 1 := rfl
theorem e_Traffic_arrive_0 (x : Option Nat) : (WP Gm j_Traffic_arrive 0 (some (.inr (.inl x)) :: ls) (st) h Q) = (WP Gm j_Traffic_arrive 1 (some (.inr (.inl x)) :: ls) (.inr (.inl x) :: st) (h) Q) := (WP_at c_Traffic_arrive_0 _ _ _ _)
theorem c_Traffic_arrive_1 : mCode j_Traffic_arrive 1 = oGetR kc_Traffic 0 4 := rfl
theorem e_Traffic_arrive_1 (a : Nat) (hk : isK h a kc_Traffic = true) : (WP Gm j_Traffic_arrive 1 (ls) (.inr (.inl (some a)) :: st) h Q) = (WP Gm j_Traffic_arrive 4 (ls) (.inr (.inl (gR h a 0)) :: st) (h) Q) := (WP_at c_Traffic_arrive_1 _ _ _ _).trans (congrArg (fun o => ndX Gm (WP Gm) j_Traffic_arrive 1 o Q) (if_pos hk))
theorem c_Traffic_arrive_4 : mCode j_Traffic_arrive 4 = oAld 1 5 := rfl
theorem e_Traffic_arrive_4 (a0 : Option MV) (x : Option Nat) : (WP Gm j_Traffic_arrive 4 (a0 :: some (.inr (.inl x)) :: ls) (st) h Q) = (WP Gm j_Traffic_arrive 5 (a0 :: some (.inr (.inl x)) :: ls) (.inr (.inl x) :: st) (h) Q) := (WP_at c_Traffic_arrive_4 _ _ _ _)
theorem c_Traffic_arrive_5 : mCode j_Traffic_arrive 5 = oGetI kc_Frame 0 8 := rfl
theorem e_Traffic_arrive_5 (a : Nat) (hk : isK h a kc_Frame = true) : (WP Gm j_Traffic_arrive 5 (ls) (.inr (.inl (some a)) :: st) h Q) = (WP Gm j_Traffic_arrive 8 (ls) (.inl (gI h a 0) :: st) (h) Q) := (WP_at c_Traffic_arrive_5 _ _ _ _).trans (congrArg (fun o => ndX Gm (WP Gm) j_Traffic_arrive 5 o Q) (if_pos hk))
theorem c_Traffic_arrive_8 : mCode j_Traffic_arrive 8 = oCallV kc_Land j_Land_isNode 1 (mL j_Land_isNode) 11 := rfl
theorem e_Traffic_arrive_8 (a : Nat) (x0 : Int32) (hk : isK h a kc_Land = true) (hc : c8 st = true) : (WP Gm j_Traffic_arrive 8 (ls) (.inl x0 :: .inr (.inl (some a)) :: st) h Q) = (WP Gm j_Land_isNode 0 [some (.inr (.inl (some a))), some (.inl x0)] [] h (kC (fun v h2 => WP Gm j_Traffic_arrive 11 ls (v.toList ++ st) h2 Q) (fun E h2 => Q (.inr E) h2))) := (WP_at c_Traffic_arrive_8 _ _ _ _).trans (congrArg (fun o => ndX Gm (WP Gm) j_Traffic_arrive 8 o Q) (if_pos (by rw [hk, show decide (catS st ≤ 8) = true from hc]; rfl)))
theorem c_Traffic_arrive_11 : mCode j_Traffic_arrive 11 = oIf (fun x => decide (¬ x = 0)) 15 14 := rfl
theorem e_Traffic_arrive_11 (x : Int32) : (WP Gm j_Traffic_arrive 11 (ls) (.inl x :: st) h Q) = (if ¬ x = 0 then WP Gm j_Traffic_arrive 15 (ls) (st) (h) Q else WP Gm j_Traffic_arrive 14 (ls) (st) (h) Q) := (WP_at c_Traffic_arrive_11 _ _ _ _).trans (nd_if rfl _ _ _ _)
theorem c_Traffic_arrive_14 : mCode j_Traffic_arrive 14 = oRet := rfl
theorem e_Traffic_arrive_14  : (WP Gm j_Traffic_arrive 14 (ls) ([]) h Q) = (Q (.inl none) h) := (WP_at c_Traffic_arrive_14 _ _ _ _)
theorem c_Traffic_arrive_15 : mCode j_Traffic_arrive 15 = oAld 0 16 := rfl
theorem e_Traffic_arrive_15 (x : Option Nat) : (WP Gm j_Traffic_arrive 15 (some (.inr (.inl x)) :: ls) (st) h Q) = (WP Gm j_Traffic_arrive 16 (some (.inr (.inl x)) :: ls) (.inr (.inl x) :: st) (h) Q) := (WP_at c_Traffic_arrive_15 _ _ _ _)
theorem c_Traffic_arrive_16 : mCode j_Traffic_arrive 16 = oGetR kc_Traffic 0 19 := rfl
theorem e_Traffic_arrive_16 (a : Nat) (hk : isK h a kc_Traffic = true) : (WP Gm j_Traffic_arrive 16 (ls) (.inr (.inl (some a)) :: st) h Q) = (WP Gm j_Traffic_arrive 19 (ls) (.inr (.inl (gR h a 0)) :: st) (h) Q) := (WP_at c_Traffic_arrive_16 _ _ _ _).trans (congrArg (fun o => ndX Gm (WP Gm) j_Traffic_arrive 16 o Q) (if_pos hk))
theorem c_Traffic_arrive_19 : mCode j_Traffic_arrive 19 = oGetR kc_Land 0 22 := rfl
theorem e_Traffic_arrive_19 (a : Nat) (hk : isK h a kc_Land = true) : (WP Gm j_Traffic_arrive 19 (ls) (.inr (.inl (some a)) :: st) h Q) = (WP Gm j_Traffic_arrive 22 (ls) (.inr (.inl (gR h a 0)) :: st) (h) Q) := (WP_at c_Traffic_arrive_19 _ _ _ _).trans (congrArg (fun o => ndX Gm (WP Gm) j_Traffic_arrive 19 o Q) (if_pos hk))
theorem c_Traffic_arrive_22 : mCode j_Traffic_arrive 22 = oAld 1 23 := rfl
theorem e_Traffic_arrive_22 (a0 : Option MV) (x : Option Nat) : (WP Gm j_Traffic_arrive 22 (a0 :: some (.inr (.inl x)) :: ls) (st) h Q) = (WP Gm j_Traffic_arrive 23 (a0 :: some (.inr (.inl x)) :: ls) (.inr (.inl x) :: st) (h) Q) := (WP_at c_Traffic_arrive_22 _ _ _ _)
theorem c_Traffic_arrive_23 : mCode j_Traffic_arrive 23 = oGetI kc_Frame 0 26 := rfl
theorem e_Traffic_arrive_23 (a : Nat) (hk : isK h a kc_Frame = true) : (WP Gm j_Traffic_arrive 23 (ls) (.inr (.inl (some a)) :: st) h Q) = (WP Gm j_Traffic_arrive 26 (ls) (.inl (gI h a 0) :: st) (h) Q) := (WP_at c_Traffic_arrive_23 _ _ _ _).trans (congrArg (fun o => ndX Gm (WP Gm) j_Traffic_arrive 23 o Q) (if_pos hk))
theorem c_Traffic_arrive_26 : mCode j_Traffic_arrive 26 = oAal 2 27 := rfl
theorem e_Traffic_arrive_26 (a : Nat) (i : Int32) (hk : isK h a 102 = true) (hi : inL h a i = true) : (WP Gm j_Traffic_arrive 26 (ls) (.inl i :: .inr (.inl (some a)) :: st) h Q) = (WP Gm j_Traffic_arrive 27 (ls) (.inr (.inl (gR h a i.toNatClampNeg)) :: st) (h) Q) := (WP_at c_Traffic_arrive_26 _ _ _ _).trans (congrArg (fun o => ndX Gm (WP Gm) j_Traffic_arrive 26 o Q) (if_pos (by rw [hk, hi]; rfl)))
theorem c_Traffic_arrive_27 : mCode j_Traffic_arrive 27 = oGetR kc_Node 15 30 := rfl
theorem e_Traffic_arrive_27 (a : Nat) (hk : isK h a kc_Node = true) : (WP Gm j_Traffic_arrive 27 (ls) (.inr (.inl (some a)) :: st) h Q) = (WP Gm j_Traffic_arrive 30 (ls) (.inr (.inl (gR h a 15)) :: st) (h) Q) := (WP_at c_Traffic_arrive_27 _ _ _ _).trans (congrArg (fun o => ndX Gm (WP Gm) j_Traffic_arrive 27 o Q) (if_pos hk))
theorem c_Traffic_arrive_30 : mCode j_Traffic_arrive 30 = oAst 2 31 := rfl
theorem e_Traffic_arrive_30 (x : Option Nat) : (WP Gm j_Traffic_arrive 30 (ls) (.inr (.inl x) :: st) h Q) = (WP Gm j_Traffic_arrive 31 (lSet1 ls 2 (some (.inr (.inl x)))) (st) (h) Q) := (WP_at c_Traffic_arrive_30 _ _ _ _)
theorem c_Traffic_arrive_31 : mCode j_Traffic_arrive 31 = oAld 2 32 := rfl
theorem e_Traffic_arrive_31 (a0 a1 : Option MV) (x : Option Nat) : (WP Gm j_Traffic_arrive 31 (a0 :: a1 :: some (.inr (.inl x)) :: ls) (st) h Q) = (WP Gm j_Traffic_arrive 32 (a0 :: a1 :: some (.inr (.inl x)) :: ls) (.inr (.inl x) :: st) (h) Q) := (WP_at c_Traffic_arrive_31 _ _ _ _)
theorem c_Traffic_arrive_32 : mCode j_Traffic_arrive 32 = oAld 1 33 := rfl
theorem e_Traffic_arrive_32 (a0 : Option MV) (x : Option Nat) : (WP Gm j_Traffic_arrive 32 (a0 :: some (.inr (.inl x)) :: ls) (st) h Q) = (WP Gm j_Traffic_arrive 33 (a0 :: some (.inr (.inl x)) :: ls) (.inr (.inl x) :: st) (h) Q) := (WP_at c_Traffic_arrive_32 _ _ _ _)
theorem c_Traffic_arrive_33 : mCode j_Traffic_arrive 33 = oGetI kc_Frame 3 36 := rfl
theorem e_Traffic_arrive_33 (a : Nat) (hk : isK h a kc_Frame = true) : (WP Gm j_Traffic_arrive 33 (ls) (.inr (.inl (some a)) :: st) h Q) = (WP Gm j_Traffic_arrive 36 (ls) (.inl (gI h a 3) :: st) (h) Q) := (WP_at c_Traffic_arrive_33 _ _ _ _).trans (congrArg (fun o => ndX Gm (WP Gm) j_Traffic_arrive 33 o Q) (if_pos hk))
theorem c_Traffic_arrive_36 : mCode j_Traffic_arrive 36 = oCallV kc_NumberSet j_NumberSet_has 1 (mL j_NumberSet_has) 39 := rfl
theorem e_Traffic_arrive_36 (a : Nat) (x0 : Int32) (hk : isK h a kc_NumberSet = true) (hc : c8 st = true) : (WP Gm j_Traffic_arrive 36 (ls) (.inl x0 :: .inr (.inl (some a)) :: st) h Q) = (WP Gm j_NumberSet_has 0 [some (.inr (.inl (some a))), some (.inl x0)] [] h (kC (fun v h2 => WP Gm j_Traffic_arrive 39 ls (v.toList ++ st) h2 Q) (fun E h2 => Q (.inr E) h2))) := (WP_at c_Traffic_arrive_36 _ _ _ _).trans (congrArg (fun o => ndX Gm (WP Gm) j_Traffic_arrive 36 o Q) (if_pos (by rw [hk, show decide (catS st ≤ 8) = true from hc]; rfl)))
theorem c_Traffic_arrive_39 : mCode j_Traffic_arrive 39 = oIf (fun x => decide (x = 0)) 55 42 := rfl
theorem e_Traffic_arrive_39 (x : Int32) : (WP Gm j_Traffic_arrive 39 (ls) (.inl x :: st) h Q) = (if x = 0 then WP Gm j_Traffic_arrive 55 (ls) (st) (h) Q else WP Gm j_Traffic_arrive 42 (ls) (st) (h) Q) := (WP_at c_Traffic_arrive_39 _ _ _ _).trans (nd_if rfl _ _ _ _)
theorem c_Traffic_arrive_42 : mCode j_Traffic_arrive 42 = oAld 0 43 := rfl
theorem e_Traffic_arrive_42 (x : Option Nat) : (WP Gm j_Traffic_arrive 42 (some (.inr (.inl x)) :: ls) (st) h Q) = (WP Gm j_Traffic_arrive 43 (some (.inr (.inl x)) :: ls) (.inr (.inl x) :: st) (h) Q) := (WP_at c_Traffic_arrive_42 _ _ _ _)
theorem c_Traffic_arrive_43 : mCode j_Traffic_arrive 43 = oDup 44 := rfl
theorem e_Traffic_arrive_43 (x : Option Nat) : (WP Gm j_Traffic_arrive 43 (ls) (.inr (.inl x) :: st) h Q) = (WP Gm j_Traffic_arrive 44 (ls) (.inr (.inl x) :: .inr (.inl x) :: st) (h) Q) := (WP_at c_Traffic_arrive_43 _ _ _ _)
theorem c_Traffic_arrive_44 : mCode j_Traffic_arrive 44 = oGetI kc_Traffic 5 47 := rfl
theorem e_Traffic_arrive_44 (a : Nat) (hk : isK h a kc_Traffic = true) : (WP Gm j_Traffic_arrive 44 (ls) (.inr (.inl (some a)) :: st) h Q) = (WP Gm j_Traffic_arrive 47 (ls) (.inl (gI h a 5) :: st) (h) Q) := (WP_at c_Traffic_arrive_44 _ _ _ _).trans (congrArg (fun o => ndX Gm (WP Gm) j_Traffic_arrive 44 o Q) (if_pos hk))
theorem c_Traffic_arrive_47 : mCode j_Traffic_arrive 47 = oI 1 48 := rfl
theorem e_Traffic_arrive_47  : (WP Gm j_Traffic_arrive 47 (ls) (st) h Q) = (WP Gm j_Traffic_arrive 48 (ls) (.inl 1 :: st) (h) Q) := (WP_at c_Traffic_arrive_47 _ _ _ _)
theorem c_Traffic_arrive_48 : mCode j_Traffic_arrive 48 = oII (fun x y => x + y) 49 := rfl
theorem e_Traffic_arrive_48 (x : Int32) (y : Int32) : (WP Gm j_Traffic_arrive 48 (ls) (.inl y :: .inl x :: st) h Q) = (WP Gm j_Traffic_arrive 49 (ls) (.inl (x + y) :: st) (h) Q) := (WP_at c_Traffic_arrive_48 _ _ _ _)
theorem c_Traffic_arrive_49 : mCode j_Traffic_arrive 49 = oPutI kc_Traffic 5 52 := rfl
theorem e_Traffic_arrive_49 (a : Nat) (x : Int32) (hk : isK h a kc_Traffic = true) : (WP Gm j_Traffic_arrive 49 (ls) (.inl x :: .inr (.inl (some a)) :: st) h Q) = (WP Gm j_Traffic_arrive 52 (ls) (st) (sI h a 5 x) Q) := (WP_at c_Traffic_arrive_49 _ _ _ _).trans (congrArg (fun o => ndX Gm (WP Gm) j_Traffic_arrive 49 o Q) (if_pos hk))
theorem c_Traffic_arrive_52 : mCode j_Traffic_arrive 52 = oGo 73 := rfl
theorem e_Traffic_arrive_52  : (WP Gm j_Traffic_arrive 52 (ls) (st) h Q) = (WP Gm j_Traffic_arrive 73 (ls) (st) (h) Q) := (WP_at c_Traffic_arrive_52 _ _ _ _)
theorem c_Traffic_arrive_55 : mCode j_Traffic_arrive 55 = oAld 2 56 := rfl
theorem e_Traffic_arrive_55 (a0 a1 : Option MV) (x : Option Nat) : (WP Gm j_Traffic_arrive 55 (a0 :: a1 :: some (.inr (.inl x)) :: ls) (st) h Q) = (WP Gm j_Traffic_arrive 56 (a0 :: a1 :: some (.inr (.inl x)) :: ls) (.inr (.inl x) :: st) (h) Q) := (WP_at c_Traffic_arrive_55 _ _ _ _)
theorem c_Traffic_arrive_56 : mCode j_Traffic_arrive 56 = oAld 1 57 := rfl
theorem e_Traffic_arrive_56 (a0 : Option MV) (x : Option Nat) : (WP Gm j_Traffic_arrive 56 (a0 :: some (.inr (.inl x)) :: ls) (st) h Q) = (WP Gm j_Traffic_arrive 57 (a0 :: some (.inr (.inl x)) :: ls) (.inr (.inl x) :: st) (h) Q) := (WP_at c_Traffic_arrive_56 _ _ _ _)
theorem c_Traffic_arrive_57 : mCode j_Traffic_arrive 57 = oGetI kc_Frame 3 60 := rfl
theorem e_Traffic_arrive_57 (a : Nat) (hk : isK h a kc_Frame = true) : (WP Gm j_Traffic_arrive 57 (ls) (.inr (.inl (some a)) :: st) h Q) = (WP Gm j_Traffic_arrive 60 (ls) (.inl (gI h a 3) :: st) (h) Q) := (WP_at c_Traffic_arrive_57 _ _ _ _).trans (congrArg (fun o => ndX Gm (WP Gm) j_Traffic_arrive 57 o Q) (if_pos hk))
theorem c_Traffic_arrive_60 : mCode j_Traffic_arrive 60 = oCallV kc_NumberSet j_NumberSet_put 1 (mL j_NumberSet_put) 63 := rfl
theorem e_Traffic_arrive_60 (a : Nat) (x0 : Int32) (hk : isK h a kc_NumberSet = true) (hc : c8 st = true) : (WP Gm j_Traffic_arrive 60 (ls) (.inl x0 :: .inr (.inl (some a)) :: st) h Q) = (WP Gm j_NumberSet_put 0 [some (.inr (.inl (some a))), some (.inl x0)] [] h (kC (fun v h2 => WP Gm j_Traffic_arrive 63 ls (v.toList ++ st) h2 Q) (fun E h2 => Q (.inr E) h2))) := (WP_at c_Traffic_arrive_60 _ _ _ _).trans (congrArg (fun o => ndX Gm (WP Gm) j_Traffic_arrive 60 o Q) (if_pos (by rw [hk, show decide (catS st ≤ 8) = true from hc]; rfl)))
theorem c_Traffic_arrive_63 : mCode j_Traffic_arrive 63 = oAld 0 64 := rfl
theorem e_Traffic_arrive_63 (x : Option Nat) : (WP Gm j_Traffic_arrive 63 (some (.inr (.inl x)) :: ls) (st) h Q) = (WP Gm j_Traffic_arrive 64 (some (.inr (.inl x)) :: ls) (.inr (.inl x) :: st) (h) Q) := (WP_at c_Traffic_arrive_63 _ _ _ _)
theorem c_Traffic_arrive_64 : mCode j_Traffic_arrive 64 = oDup 65 := rfl
theorem e_Traffic_arrive_64 (x : Option Nat) : (WP Gm j_Traffic_arrive 64 (ls) (.inr (.inl x) :: st) h Q) = (WP Gm j_Traffic_arrive 65 (ls) (.inr (.inl x) :: .inr (.inl x) :: st) (h) Q) := (WP_at c_Traffic_arrive_64 _ _ _ _)
theorem c_Traffic_arrive_65 : mCode j_Traffic_arrive 65 = oGetI kc_Traffic 4 68 := rfl
theorem e_Traffic_arrive_65 (a : Nat) (hk : isK h a kc_Traffic = true) : (WP Gm j_Traffic_arrive 65 (ls) (.inr (.inl (some a)) :: st) h Q) = (WP Gm j_Traffic_arrive 68 (ls) (.inl (gI h a 4) :: st) (h) Q) := (WP_at c_Traffic_arrive_65 _ _ _ _).trans (congrArg (fun o => ndX Gm (WP Gm) j_Traffic_arrive 65 o Q) (if_pos hk))
theorem c_Traffic_arrive_68 : mCode j_Traffic_arrive 68 = oI 1 69 := rfl
theorem e_Traffic_arrive_68  : (WP Gm j_Traffic_arrive 68 (ls) (st) h Q) = (WP Gm j_Traffic_arrive 69 (ls) (.inl 1 :: st) (h) Q) := (WP_at c_Traffic_arrive_68 _ _ _ _)
theorem c_Traffic_arrive_69 : mCode j_Traffic_arrive 69 = oII (fun x y => x + y) 70 := rfl
theorem e_Traffic_arrive_69 (x : Int32) (y : Int32) : (WP Gm j_Traffic_arrive 69 (ls) (.inl y :: .inl x :: st) h Q) = (WP Gm j_Traffic_arrive 70 (ls) (.inl (x + y) :: st) (h) Q) := (WP_at c_Traffic_arrive_69 _ _ _ _)
theorem c_Traffic_arrive_70 : mCode j_Traffic_arrive 70 = oPutI kc_Traffic 4 73 := rfl
theorem e_Traffic_arrive_70 (a : Nat) (x : Int32) (hk : isK h a kc_Traffic = true) : (WP Gm j_Traffic_arrive 70 (ls) (.inl x :: .inr (.inl (some a)) :: st) h Q) = (WP Gm j_Traffic_arrive 73 (ls) (st) (sI h a 4 x) Q) := (WP_at c_Traffic_arrive_70 _ _ _ _).trans (congrArg (fun o => ndX Gm (WP Gm) j_Traffic_arrive 70 o Q) (if_pos hk))
theorem c_Traffic_arrive_73 : mCode j_Traffic_arrive 73 = oRet := rfl
theorem e_Traffic_arrive_73  : (WP Gm j_Traffic_arrive 73 (ls) ([]) h Q) = (Q (.inl none) h) := (WP_at c_Traffic_arrive_73 _ _ _ _)
theorem c_Traffic_dropFirst_0 : mCode j_Traffic_dropFirst 0 = oAld 1 1 := rfl
theorem e_Traffic_dropFirst_0 (a0 : Option MV) (x : Option Nat) : (WP Gm j_Traffic_dropFirst 0 (a0 :: some (.inr (.inl x)) :: ls) (st) h Q) = (WP Gm j_Traffic_dropFirst 1 (a0 :: some (.inr (.inl x)) :: ls) (.inr (.inl x) :: st) (h) Q) := (WP_at c_Traffic_dropFirst_0 _ _ _ _)
theorem c_Traffic_dropFirst_1 : mCode j_Traffic_dropFirst 1 = oCallV kc_Node j_Node_finishFirst 0 (mL j_Node_finishFirst) 4 := rfl
theorem e_Traffic_dropFirst_1 (a : Nat) (hk : isK h a kc_Node = true) (hc : c8 st = true) : (WP Gm j_Traffic_dropFirst 1 (ls) (.inr (.inl (some a)) :: st) h Q) = (WP Gm j_Node_finishFirst 0 [some (.inr (.inl (some a)))] [] h (kC (fun v h2 => WP Gm j_Traffic_dropFirst 4 ls (v.toList ++ st) h2 Q) (fun E h2 => Q (.inr E) h2))) := (WP_at c_Traffic_dropFirst_1 _ _ _ _).trans (congrArg (fun o => ndX Gm (WP Gm) j_Traffic_dropFirst 1 o Q) (if_pos (by rw [hk, show decide (catS st ≤ 8) = true from hc]; rfl)))
theorem c_Traffic_dropFirst_4 : mCode j_Traffic_dropFirst 4 = oAld 0 5 := rfl
theorem e_Traffic_dropFirst_4 (x : Option Nat) : (WP Gm j_Traffic_dropFirst 4 (some (.inr (.inl x)) :: ls) (st) h Q) = (WP Gm j_Traffic_dropFirst 5 (some (.inr (.inl x)) :: ls) (.inr (.inl x) :: st) (h) Q) := (WP_at c_Traffic_dropFirst_4 _ _ _ _)
theorem c_Traffic_dropFirst_5 : mCode j_Traffic_dropFirst 5 = oDup 6 := rfl
theorem e_Traffic_dropFirst_5 (x : Option Nat) : (WP Gm j_Traffic_dropFirst 5 (ls) (.inr (.inl x) :: st) h Q) = (WP Gm j_Traffic_dropFirst 6 (ls) (.inr (.inl x) :: .inr (.inl x) :: st) (h) Q) := (WP_at c_Traffic_dropFirst_5 _ _ _ _)
theorem c_Traffic_dropFirst_6 : mCode j_Traffic_dropFirst 6 = oGetI kc_Traffic 6 9 := rfl
theorem e_Traffic_dropFirst_6 (a : Nat) (hk : isK h a kc_Traffic = true) : (WP Gm j_Traffic_dropFirst 6 (ls) (.inr (.inl (some a)) :: st) h Q) = (WP Gm j_Traffic_dropFirst 9 (ls) (.inl (gI h a 6) :: st) (h) Q) := (WP_at c_Traffic_dropFirst_6 _ _ _ _).trans (congrArg (fun o => ndX Gm (WP Gm) j_Traffic_dropFirst 6 o Q) (if_pos hk))
theorem c_Traffic_dropFirst_9 : mCode j_Traffic_dropFirst 9 = oI 1 10 := rfl
theorem e_Traffic_dropFirst_9  : (WP Gm j_Traffic_dropFirst 9 (ls) (st) h Q) = (WP Gm j_Traffic_dropFirst 10 (ls) (.inl 1 :: st) (h) Q) := (WP_at c_Traffic_dropFirst_9 _ _ _ _)
theorem c_Traffic_dropFirst_10 : mCode j_Traffic_dropFirst 10 = oII (fun x y => x + y) 11 := rfl
theorem e_Traffic_dropFirst_10 (x : Int32) (y : Int32) : (WP Gm j_Traffic_dropFirst 10 (ls) (.inl y :: .inl x :: st) h Q) = (WP Gm j_Traffic_dropFirst 11 (ls) (.inl (x + y) :: st) (h) Q) := (WP_at c_Traffic_dropFirst_10 _ _ _ _)
theorem c_Traffic_dropFirst_11 : mCode j_Traffic_dropFirst 11 = oPutI kc_Traffic 6 14 := rfl
theorem e_Traffic_dropFirst_11 (a : Nat) (x : Int32) (hk : isK h a kc_Traffic = true) : (WP Gm j_Traffic_dropFirst 11 (ls) (.inl x :: .inr (.inl (some a)) :: st) h Q) = (WP Gm j_Traffic_dropFirst 14 (ls) (st) (sI h a 6 x) Q) := (WP_at c_Traffic_dropFirst_11 _ _ _ _).trans (congrArg (fun o => ndX Gm (WP Gm) j_Traffic_dropFirst 11 o Q) (if_pos hk))
theorem c_Traffic_dropFirst_14 : mCode j_Traffic_dropFirst 14 = oRet := rfl
theorem e_Traffic_dropFirst_14  : (WP Gm j_Traffic_dropFirst 14 (ls) ([]) h Q) = (Q (.inl none) h) := (WP_at c_Traffic_dropFirst_14 _ _ _ _)
theorem c_Traffic_draw_0 : mCode j_Traffic_draw 0 = oAld 0 1 := rfl
theorem e_Traffic_draw_0 (x : Option Nat) : (WP Gm j_Traffic_draw 0 (some (.inr (.inl x)) :: ls) (st) h Q) = (WP Gm j_Traffic_draw 1 (some (.inr (.inl x)) :: ls) (.inr (.inl x) :: st) (h) Q) := (WP_at c_Traffic_draw_0 _ _ _ _)
theorem c_Traffic_draw_1 : mCode j_Traffic_draw 1 = oI 109 3 := rfl
theorem e_Traffic_draw_1  : (WP Gm j_Traffic_draw 1 (ls) (st) h Q) = (WP Gm j_Traffic_draw 3 (ls) (.inl 109 :: st) (h) Q) := (WP_at c_Traffic_draw_1 _ _ _ _)
theorem c_Traffic_draw_3 : mCode j_Traffic_draw 3 = oAld 0 4 := rfl
theorem e_Traffic_draw_3 (x : Option Nat) : (WP Gm j_Traffic_draw 3 (some (.inr (.inl x)) :: ls) (st) h Q) = (WP Gm j_Traffic_draw 4 (some (.inr (.inl x)) :: ls) (.inr (.inl x) :: st) (h) Q) := (WP_at c_Traffic_draw_3 _ _ _ _)
theorem c_Traffic_draw_4 : mCode j_Traffic_draw 4 = oGetI kc_Traffic 3 7 := rfl
theorem e_Traffic_draw_4 (a : Nat) (hk : isK h a kc_Traffic = true) : (WP Gm j_Traffic_draw 4 (ls) (.inr (.inl (some a)) :: st) h Q) = (WP Gm j_Traffic_draw 7 (ls) (.inl (gI h a 3) :: st) (h) Q) := (WP_at c_Traffic_draw_4 _ _ _ _).trans (congrArg (fun o => ndX Gm (WP Gm) j_Traffic_draw 4 o Q) (if_pos hk))
theorem c_Traffic_draw_7 : mCode j_Traffic_draw 7 = oII (fun x y => x * y) 8 := rfl
theorem e_Traffic_draw_7 (x : Int32) (y : Int32) : (WP Gm j_Traffic_draw 7 (ls) (.inl y :: .inl x :: st) h Q) = (WP Gm j_Traffic_draw 8 (ls) (.inl (x * y) :: st) (h) Q) := (WP_at c_Traffic_draw_7 _ _ _ _)
theorem c_Traffic_draw_8 : mCode j_Traffic_draw 8 = oI 57 10 := rfl
theorem e_Traffic_draw_8  : (WP Gm j_Traffic_draw 8 (ls) (st) h Q) = (WP Gm j_Traffic_draw 10 (ls) (.inl 57 :: st) (h) Q) := (WP_at c_Traffic_draw_8 _ _ _ _)
theorem c_Traffic_draw_10 : mCode j_Traffic_draw 10 = oII (fun x y => x + y) 11 := rfl
theorem e_Traffic_draw_10 (x : Int32) (y : Int32) : (WP Gm j_Traffic_draw 10 (ls) (.inl y :: .inl x :: st) h Q) = (WP Gm j_Traffic_draw 11 (ls) (.inl (x + y) :: st) (h) Q) := (WP_at c_Traffic_draw_10 _ _ _ _)
theorem c_Traffic_draw_11 : mCode j_Traffic_draw 11 = oI 512 14 := rfl
theorem e_Traffic_draw_11  : (WP Gm j_Traffic_draw 11 (ls) (st) h Q) = (WP Gm j_Traffic_draw 14 (ls) (.inl 512 :: st) (h) Q) := (WP_at c_Traffic_draw_11 _ _ _ _)
theorem c_Traffic_draw_14 : mCode j_Traffic_draw 14 = oIq (fun x y => x - x / y * y) 15 := rfl
theorem e_Traffic_draw_14 (x : Int32) (y : Int32) (hy : ¬ y = 0) : (WP Gm j_Traffic_draw 14 (ls) (.inl y :: .inl x :: st) h Q) = (WP Gm j_Traffic_draw 15 (ls) (.inl (x - x / y * y) :: st) (h) Q) := (WP_at c_Traffic_draw_14 _ _ _ _).trans (congrArg (fun o => ndX Gm (WP Gm) j_Traffic_draw 14 o Q) (if_neg hy))
theorem c_Traffic_draw_15 : mCode j_Traffic_draw 15 = oPutI kc_Traffic 3 18 := rfl
theorem e_Traffic_draw_15 (a : Nat) (x : Int32) (hk : isK h a kc_Traffic = true) : (WP Gm j_Traffic_draw 15 (ls) (.inl x :: .inr (.inl (some a)) :: st) h Q) = (WP Gm j_Traffic_draw 18 (ls) (st) (sI h a 3 x) Q) := (WP_at c_Traffic_draw_15 _ _ _ _).trans (congrArg (fun o => ndX Gm (WP Gm) j_Traffic_draw 15 o Q) (if_pos hk))
theorem c_Traffic_draw_18 : mCode j_Traffic_draw 18 = oAld 0 19 := rfl
theorem e_Traffic_draw_18 (x : Option Nat) : (WP Gm j_Traffic_draw 18 (some (.inr (.inl x)) :: ls) (st) h Q) = (WP Gm j_Traffic_draw 19 (some (.inr (.inl x)) :: ls) (.inr (.inl x) :: st) (h) Q) := (WP_at c_Traffic_draw_18 _ _ _ _)
theorem c_Traffic_draw_19 : mCode j_Traffic_draw 19 = oGetI kc_Traffic 3 22 := rfl
theorem e_Traffic_draw_19 (a : Nat) (hk : isK h a kc_Traffic = true) : (WP Gm j_Traffic_draw 19 (ls) (.inr (.inl (some a)) :: st) h Q) = (WP Gm j_Traffic_draw 22 (ls) (.inl (gI h a 3) :: st) (h) Q) := (WP_at c_Traffic_draw_19 _ _ _ _).trans (congrArg (fun o => ndX Gm (WP Gm) j_Traffic_draw 19 o Q) (if_pos hk))
theorem c_Traffic_draw_22 : mCode j_Traffic_draw 22 = oIld 1 23 := rfl
theorem e_Traffic_draw_22 (a0 : Option MV) (x : Int32) : (WP Gm j_Traffic_draw 22 (a0 :: some (.inl x) :: ls) (st) h Q) = (WP Gm j_Traffic_draw 23 (a0 :: some (.inl x) :: ls) (.inl x :: st) (h) Q) := (WP_at c_Traffic_draw_22 _ _ _ _)
theorem c_Traffic_draw_23 : mCode j_Traffic_draw 23 = oII (fun x y => x * y) 24 := rfl
theorem e_Traffic_draw_23 (x : Int32) (y : Int32) : (WP Gm j_Traffic_draw 23 (ls) (.inl y :: .inl x :: st) h Q) = (WP Gm j_Traffic_draw 24 (ls) (.inl (x * y) :: st) (h) Q) := (WP_at c_Traffic_draw_23 _ _ _ _)
theorem c_Traffic_draw_24 : mCode j_Traffic_draw 24 = oI 512 27 := rfl
theorem e_Traffic_draw_24  : (WP Gm j_Traffic_draw 24 (ls) (st) h Q) = (WP Gm j_Traffic_draw 27 (ls) (.inl 512 :: st) (h) Q) := (WP_at c_Traffic_draw_24 _ _ _ _)
theorem c_Traffic_draw_27 : mCode j_Traffic_draw 27 = oIq (fun x y => x / y) 28 := rfl
theorem e_Traffic_draw_27 (x : Int32) (y : Int32) (hy : ¬ y = 0) : (WP Gm j_Traffic_draw 27 (ls) (.inl y :: .inl x :: st) h Q) = (WP Gm j_Traffic_draw 28 (ls) (.inl (x / y) :: st) (h) Q) := (WP_at c_Traffic_draw_27 _ _ _ _).trans (congrArg (fun o => ndX Gm (WP Gm) j_Traffic_draw 27 o Q) (if_neg hy))
theorem c_Traffic_draw_28 : mCode j_Traffic_draw 28 = oRetI := rfl
theorem e_Traffic_draw_28 (x : Int32) : (WP Gm j_Traffic_draw 28 (ls) ([.inl x]) h Q) = (Q (.inl (some (.inl x))) h) := (WP_at c_Traffic_draw_28 _ _ _ _)
theorem c_S_init_0 : mCode j_S_init 0 = oAld 0 1 := rfl
theorem e_S_init_0 (x : Option Nat) : (WP Gm j_S_init 0 (some (.inr (.inl x)) :: ls) (st) h Q) = (WP Gm j_S_init 1 (some (.inr (.inl x)) :: ls) (.inr (.inl x) :: st) (h) Q) := (WP_at c_S_init_0 _ _ _ _)
theorem c_S_init_1 : mCode j_S_init 1 = oObj 4 := rfl
theorem e_S_init_1 (a : Nat) (hc : c8 st = true) : (WP Gm j_S_init 1 (ls) (.inr (.inl (some a)) :: st) h Q) = (WP Gm j_S_init 4 (ls) (st) (h) Q) := (WP_at c_S_init_1 _ _ _ _).trans (congrArg (fun o => ndX Gm (WP Gm) j_S_init 1 o Q) (if_pos (of_decide_eq_true hc)))
theorem c_S_init_4 : mCode j_S_init 4 = oAld 0 5 := rfl
theorem e_S_init_4 (x : Option Nat) : (WP Gm j_S_init 4 (some (.inr (.inl x)) :: ls) (st) h Q) = (WP Gm j_S_init 5 (some (.inr (.inl x)) :: ls) (.inr (.inl x) :: st) (h) Q) := (WP_at c_S_init_4 _ _ _ _)
theorem c_S_init_5 : mCode j_S_init 5 = oNew cM sM kc_Land 3 8 := rfl
theorem e_S_init_5 (hr : okR cM sM h 1 3 = true) : (WP Gm j_S_init 5 (ls) (st) h Q) = (WP Gm j_S_init 8 (ls) (.inr (.inl (some (nx h))) :: st) (hN h kc_Land 0 3) Q) := (WP_at c_S_init_5 _ _ _ _).trans (congrArg (fun o => ndX Gm (WP Gm) j_S_init 5 o Q) (if_pos hr))
theorem c_S_init_8 : mCode j_S_init 8 = oDup 9 := rfl
theorem e_S_init_8 (x : Option Nat) : (WP Gm j_S_init 8 (ls) (.inr (.inl x) :: st) h Q) = (WP Gm j_S_init 9 (ls) (.inr (.inl x) :: .inr (.inl x) :: st) (h) Q) := (WP_at c_S_init_8 _ _ _ _)
theorem c_S_init_9 : mCode j_S_init 9 = oCallV kc_Land j_Land_init 0 (mL j_Land_init) 12 := rfl
theorem e_S_init_9 (a : Nat) (hk : isK h a kc_Land = true) (hc : c8 st = true) : (WP Gm j_S_init 9 (ls) (.inr (.inl (some a)) :: st) h Q) = (WP Gm j_Land_init 0 [some (.inr (.inl (some a))), none] [] h (kC (fun v h2 => WP Gm j_S_init 12 ls (v.toList ++ st) h2 Q) (fun E h2 => Q (.inr E) h2))) := (WP_at c_S_init_9 _ _ _ _).trans (congrArg (fun o => ndX Gm (WP Gm) j_S_init 9 o Q) (if_pos (by rw [hk, show decide (catS st ≤ 8) = true from hc]; rfl)))
theorem c_S_init_12 : mCode j_S_init 12 = oPutR kc_S 0 15 := rfl
theorem e_S_init_12 (a : Nat) (x : Option Nat) (hk : isK h a kc_S = true) : (WP Gm j_S_init 12 (ls) (.inr (.inl x) :: .inr (.inl (some a)) :: st) h Q) = (WP Gm j_S_init 15 (ls) (st) (sR h a 0 x) Q) := (WP_at c_S_init_12 _ _ _ _).trans (congrArg (fun o => ndX Gm (WP Gm) j_S_init 12 o Q) (if_pos hk))
theorem c_S_init_15 : mCode j_S_init 15 = oAld 0 16 := rfl
theorem e_S_init_15 (x : Option Nat) : (WP Gm j_S_init 15 (some (.inr (.inl x)) :: ls) (st) h Q) = (WP Gm j_S_init 16 (some (.inr (.inl x)) :: ls) (.inr (.inl x) :: st) (h) Q) := (WP_at c_S_init_15 _ _ _ _)
theorem c_S_init_16 : mCode j_S_init 16 = oNew cM sM kc_Routes 6 19 := rfl
theorem e_S_init_16 (hr : okR cM sM h 1 6 = true) : (WP Gm j_S_init 16 (ls) (st) h Q) = (WP Gm j_S_init 19 (ls) (.inr (.inl (some (nx h))) :: st) (hN h kc_Routes 0 6) Q) := (WP_at c_S_init_16 _ _ _ _).trans (congrArg (fun o => ndX Gm (WP Gm) j_S_init 16 o Q) (if_pos hr))
theorem c_S_init_19 : mCode j_S_init 19 = oDup 20 := rfl
theorem e_S_init_19 (x : Option Nat) : (WP Gm j_S_init 19 (ls) (.inr (.inl x) :: st) h Q) = (WP Gm j_S_init 20 (ls) (.inr (.inl x) :: .inr (.inl x) :: st) (h) Q) := (WP_at c_S_init_19 _ _ _ _)
theorem c_S_init_20 : mCode j_S_init 20 = oAld 0 21 := rfl
theorem e_S_init_20 (x : Option Nat) : (WP Gm j_S_init 20 (some (.inr (.inl x)) :: ls) (st) h Q) = (WP Gm j_S_init 21 (some (.inr (.inl x)) :: ls) (.inr (.inl x) :: st) (h) Q) := (WP_at c_S_init_20 _ _ _ _)
theorem c_S_init_21 : mCode j_S_init 21 = oGetR kc_S 0 24 := rfl
theorem e_S_init_21 (a : Nat) (hk : isK h a kc_S = true) : (WP Gm j_S_init 21 (ls) (.inr (.inl (some a)) :: st) h Q) = (WP Gm j_S_init 24 (ls) (.inr (.inl (gR h a 0)) :: st) (h) Q) := (WP_at c_S_init_21 _ _ _ _).trans (congrArg (fun o => ndX Gm (WP Gm) j_S_init 21 o Q) (if_pos hk))
theorem c_S_init_24 : mCode j_S_init 24 = oCallV kc_Routes j_Routes_init 1 (mL j_Routes_init) 27 := rfl
theorem e_S_init_24 (a : Nat) (x0 : Option Nat) (hk : isK h a kc_Routes = true) (hc : c8 st = true) : (WP Gm j_S_init 24 (ls) (.inr (.inl x0) :: .inr (.inl (some a)) :: st) h Q) = (WP Gm j_Routes_init 0 [some (.inr (.inl (some a))), some (.inr (.inl x0)), none, none] [] h (kC (fun v h2 => WP Gm j_S_init 27 ls (v.toList ++ st) h2 Q) (fun E h2 => Q (.inr E) h2))) := (WP_at c_S_init_24 _ _ _ _).trans (congrArg (fun o => ndX Gm (WP Gm) j_S_init 24 o Q) (if_pos (by rw [hk, show decide (catS st ≤ 8) = true from hc]; rfl)))
theorem c_S_init_27 : mCode j_S_init 27 = oPutR kc_S 1 30 := rfl
theorem e_S_init_27 (a : Nat) (x : Option Nat) (hk : isK h a kc_S = true) : (WP Gm j_S_init 27 (ls) (.inr (.inl x) :: .inr (.inl (some a)) :: st) h Q) = (WP Gm j_S_init 30 (ls) (st) (sR h a 1 x) Q) := (WP_at c_S_init_27 _ _ _ _).trans (congrArg (fun o => ndX Gm (WP Gm) j_S_init 27 o Q) (if_pos hk))
theorem c_S_init_30 : mCode j_S_init 30 = oAld 0 31 := rfl
theorem e_S_init_30 (x : Option Nat) : (WP Gm j_S_init 30 (some (.inr (.inl x)) :: ls) (st) h Q) = (WP Gm j_S_init 31 (some (.inr (.inl x)) :: ls) (.inr (.inl x) :: st) (h) Q) := (WP_at c_S_init_30 _ _ _ _)
theorem c_S_init_31 : mCode j_S_init 31 = oNew cM sM kc_Traffic 7 34 := rfl
theorem e_S_init_31 (hr : okR cM sM h 1 7 = true) : (WP Gm j_S_init 31 (ls) (st) h Q) = (WP Gm j_S_init 34 (ls) (.inr (.inl (some (nx h))) :: st) (hN h kc_Traffic 0 7) Q) := (WP_at c_S_init_31 _ _ _ _).trans (congrArg (fun o => ndX Gm (WP Gm) j_S_init 31 o Q) (if_pos hr))
theorem c_S_init_34 : mCode j_S_init 34 = oDup 35 := rfl
theorem e_S_init_34 (x : Option Nat) : (WP Gm j_S_init 34 (ls) (.inr (.inl x) :: st) h Q) = (WP Gm j_S_init 35 (ls) (.inr (.inl x) :: .inr (.inl x) :: st) (h) Q) := (WP_at c_S_init_34 _ _ _ _)
theorem c_S_init_35 : mCode j_S_init 35 = oAld 0 36 := rfl
theorem e_S_init_35 (x : Option Nat) : (WP Gm j_S_init 35 (some (.inr (.inl x)) :: ls) (st) h Q) = (WP Gm j_S_init 36 (some (.inr (.inl x)) :: ls) (.inr (.inl x) :: st) (h) Q) := (WP_at c_S_init_35 _ _ _ _)
theorem c_S_init_36 : mCode j_S_init 36 = oGetR kc_S 0 39 := rfl
theorem e_S_init_36 (a : Nat) (hk : isK h a kc_S = true) : (WP Gm j_S_init 36 (ls) (.inr (.inl (some a)) :: st) h Q) = (WP Gm j_S_init 39 (ls) (.inr (.inl (gR h a 0)) :: st) (h) Q) := (WP_at c_S_init_36 _ _ _ _).trans (congrArg (fun o => ndX Gm (WP Gm) j_S_init 36 o Q) (if_pos hk))
theorem c_S_init_39 : mCode j_S_init 39 = oAld 0 40 := rfl
theorem e_S_init_39 (x : Option Nat) : (WP Gm j_S_init 39 (some (.inr (.inl x)) :: ls) (st) h Q) = (WP Gm j_S_init 40 (some (.inr (.inl x)) :: ls) (.inr (.inl x) :: st) (h) Q) := (WP_at c_S_init_39 _ _ _ _)
theorem c_S_init_40 : mCode j_S_init 40 = oGetR kc_S 1 43 := rfl
theorem e_S_init_40 (a : Nat) (hk : isK h a kc_S = true) : (WP Gm j_S_init 40 (ls) (.inr (.inl (some a)) :: st) h Q) = (WP Gm j_S_init 43 (ls) (.inr (.inl (gR h a 1)) :: st) (h) Q) := (WP_at c_S_init_40 _ _ _ _).trans (congrArg (fun o => ndX Gm (WP Gm) j_S_init 40 o Q) (if_pos hk))
theorem c_S_init_43 : mCode j_S_init 43 = oCallV kc_Traffic j_Traffic_init 2 (mL j_Traffic_init) 46 := rfl
theorem e_S_init_43 (a : Nat) (x0 : Option Nat) (x1 : Option Nat) (hk : isK h a kc_Traffic = true) (hc : c8 st = true) : (WP Gm j_S_init 43 (ls) (.inr (.inl x1) :: .inr (.inl x0) :: .inr (.inl (some a)) :: st) h Q) = (WP Gm j_Traffic_init 0 [some (.inr (.inl (some a))), some (.inr (.inl x0)), some (.inr (.inl x1))] [] h (kC (fun v h2 => WP Gm j_S_init 46 ls (v.toList ++ st) h2 Q) (fun E h2 => Q (.inr E) h2))) := (WP_at c_S_init_43 _ _ _ _).trans (congrArg (fun o => ndX Gm (WP Gm) j_S_init 43 o Q) (if_pos (by rw [hk, show decide (catS st ≤ 8) = true from hc]; rfl)))
theorem c_S_init_46 : mCode j_S_init 46 = oPutR kc_S 2 49 := rfl
theorem e_S_init_46 (a : Nat) (x : Option Nat) (hk : isK h a kc_S = true) : (WP Gm j_S_init 46 (ls) (.inr (.inl x) :: .inr (.inl (some a)) :: st) h Q) = (WP Gm j_S_init 49 (ls) (st) (sR h a 2 x) Q) := (WP_at c_S_init_46 _ _ _ _).trans (congrArg (fun o => ndX Gm (WP Gm) j_S_init 46 o Q) (if_pos hk))
theorem c_S_init_49 : mCode j_S_init 49 = oAld 0 50 := rfl
theorem e_S_init_49 (x : Option Nat) : (WP Gm j_S_init 49 (some (.inr (.inl x)) :: ls) (st) h Q) = (WP Gm j_S_init 50 (some (.inr (.inl x)) :: ls) (.inr (.inl x) :: st) (h) Q) := (WP_at c_S_init_49 _ _ _ _)
theorem c_S_init_50 : mCode j_S_init 50 = oNew cM sM kc_Market 9 53 := rfl
theorem e_S_init_50 (hr : okR cM sM h 1 9 = true) : (WP Gm j_S_init 50 (ls) (st) h Q) = (WP Gm j_S_init 53 (ls) (.inr (.inl (some (nx h))) :: st) (hN h kc_Market 0 9) Q) := (WP_at c_S_init_50 _ _ _ _).trans (congrArg (fun o => ndX Gm (WP Gm) j_S_init 50 o Q) (if_pos hr))
theorem c_S_init_53 : mCode j_S_init 53 = oDup 54 := rfl
theorem e_S_init_53 (x : Option Nat) : (WP Gm j_S_init 53 (ls) (.inr (.inl x) :: st) h Q) = (WP Gm j_S_init 54 (ls) (.inr (.inl x) :: .inr (.inl x) :: st) (h) Q) := (WP_at c_S_init_53 _ _ _ _)
theorem c_S_init_54 : mCode j_S_init 54 = oCallV kc_Market j_Market_init 0 (mL j_Market_init) 57 := rfl
theorem e_S_init_54 (a : Nat) (hk : isK h a kc_Market = true) (hc : c8 st = true) : (WP Gm j_S_init 54 (ls) (.inr (.inl (some a)) :: st) h Q) = (WP Gm j_Market_init 0 [some (.inr (.inl (some a)))] [] h (kC (fun v h2 => WP Gm j_S_init 57 ls (v.toList ++ st) h2 Q) (fun E h2 => Q (.inr E) h2))) := (WP_at c_S_init_54 _ _ _ _).trans (congrArg (fun o => ndX Gm (WP Gm) j_S_init 54 o Q) (if_pos (by rw [hk, show decide (catS st ≤ 8) = true from hc]; rfl)))
theorem c_S_init_57 : mCode j_S_init 57 = oPutR kc_S 3 60 := rfl
theorem e_S_init_57 (a : Nat) (x : Option Nat) (hk : isK h a kc_S = true) : (WP Gm j_S_init 57 (ls) (.inr (.inl x) :: .inr (.inl (some a)) :: st) h Q) = (WP Gm j_S_init 60 (ls) (st) (sR h a 3 x) Q) := (WP_at c_S_init_57 _ _ _ _).trans (congrArg (fun o => ndX Gm (WP Gm) j_S_init 57 o Q) (if_pos hk))
theorem c_S_init_60 : mCode j_S_init 60 = oAld 0 61 := rfl
theorem e_S_init_60 (x : Option Nat) : (WP Gm j_S_init 60 (some (.inr (.inl x)) :: ls) (st) h Q) = (WP Gm j_S_init 61 (some (.inr (.inl x)) :: ls) (.inr (.inl x) :: st) (h) Q) := (WP_at c_S_init_60 _ _ _ _)
theorem c_S_init_61 : mCode j_S_init 61 = oI 0 62 := rfl
theorem e_S_init_61  : (WP Gm j_S_init 61 (ls) (st) h Q) = (WP Gm j_S_init 62 (ls) (.inl 0 :: st) (h) Q) := (WP_at c_S_init_61 _ _ _ _)
theorem c_S_init_62 : mCode j_S_init 62 = oPutI kc_S 4 65 := rfl
theorem e_S_init_62 (a : Nat) (x : Int32) (hk : isK h a kc_S = true) : (WP Gm j_S_init 62 (ls) (.inl x :: .inr (.inl (some a)) :: st) h Q) = (WP Gm j_S_init 65 (ls) (st) (sI h a 4 x) Q) := (WP_at c_S_init_62 _ _ _ _).trans (congrArg (fun o => ndX Gm (WP Gm) j_S_init 62 o Q) (if_pos hk))
theorem c_S_init_65 : mCode j_S_init 65 = oRet := rfl
theorem e_S_init_65  : (WP Gm j_S_init 65 (ls) ([]) h Q) = (Q (.inl none) h) := (WP_at c_S_init_65 _ _ _ _)
theorem c_S_node_0 : mCode j_S_node 0 = oIld 1 1 := rfl
theorem e_S_node_0 (a0 : Option MV) (x : Int32) : (WP Gm j_S_node 0 (a0 :: some (.inl x) :: ls) (st) h Q) = (WP Gm j_S_node 1 (a0 :: some (.inl x) :: ls) (.inl x :: st) (h) Q) := (WP_at c_S_node_0 _ _ _ _)
theorem c_S_node_1 : mCode j_S_node 1 = oIld 2 2 := rfl
theorem e_S_node_1 (a0 a1 : Option MV) (x : Int32) : (WP Gm j_S_node 1 (a0 :: a1 :: some (.inl x) :: ls) (st) h Q) = (WP Gm j_S_node 2 (a0 :: a1 :: some (.inl x) :: ls) (.inl x :: st) (h) Q) := (WP_at c_S_node_1 _ _ _ _)
theorem c_S_node_2 : mCode j_S_node 2 = oCallS j_S_isPlace 2 (mL j_S_isPlace) 5 := rfl
theorem e_S_node_2 (x0 : Int32) (x1 : Int32) (hc : c8 st = true) : (WP Gm j_S_node 2 (ls) (.inl x1 :: .inl x0 :: st) h Q) = (WP Gm j_S_isPlace 0 [some (.inl x0), some (.inl x1)] [] h (kC (fun v h2 => WP Gm j_S_node 5 ls (v.toList ++ st) h2 Q) (fun E h2 => Q (.inr E) h2))) := (WP_at c_S_node_2 _ _ _ _).trans (congrArg (fun o => ndX Gm (WP Gm) j_S_node 2 o Q) (if_pos (by rw [show decide (catS st ≤ 8) = true from hc]; rfl)))
theorem c_S_node_5 : mCode j_S_node 5 = oIf (fun x => decide (x = 0)) 15 8 := rfl
theorem e_S_node_5 (x : Int32) : (WP Gm j_S_node 5 (ls) (.inl x :: st) h Q) = (if x = 0 then WP Gm j_S_node 15 (ls) (st) (h) Q else WP Gm j_S_node 8 (ls) (st) (h) Q) := (WP_at c_S_node_5 _ _ _ _).trans (nd_if rfl _ _ _ _)
theorem c_S_node_8 : mCode j_S_node 8 = oIld 3 9 := rfl
theorem e_S_node_8 (a0 a1 a2 : Option MV) (x : Int32) : (WP Gm j_S_node 8 (a0 :: a1 :: a2 :: some (.inl x) :: ls) (st) h Q) = (WP Gm j_S_node 9 (a0 :: a1 :: a2 :: some (.inl x) :: ls) (.inl x :: st) (h) Q) := (WP_at c_S_node_8 _ _ _ _)
theorem c_S_node_9 : mCode j_S_node 9 = oCallS j_S_isReach 1 (mL j_S_isReach) 12 := rfl
theorem e_S_node_9 (x0 : Int32) (hc : c8 st = true) : (WP Gm j_S_node 9 (ls) (.inl x0 :: st) h Q) = (WP Gm j_S_isReach 0 [some (.inl x0)] [] h (kC (fun v h2 => WP Gm j_S_node 12 ls (v.toList ++ st) h2 Q) (fun E h2 => Q (.inr E) h2))) := (WP_at c_S_node_9 _ _ _ _).trans (congrArg (fun o => ndX Gm (WP Gm) j_S_node 9 o Q) (if_pos (by rw [show decide (catS st ≤ 8) = true from hc]; rfl)))
theorem c_S_node_12 : mCode j_S_node 12 = oIf (fun x => decide (¬ x = 0)) 25 15 := rfl
theorem e_S_node_12 (x : Int32) : (WP Gm j_S_node 12 (ls) (.inl x :: st) h Q) = (if ¬ x = 0 then WP Gm j_S_node 25 (ls) (st) (h) Q else WP Gm j_S_node 15 (ls) (st) (h) Q) := (WP_at c_S_node_12 _ _ _ _).trans (nd_if rfl _ _ _ _)
theorem c_S_node_15 : mCode j_S_node 15 = oThr cM sM 0 kc_IllegalArgumentException := rfl
theorem e_S_node_15 (hr : okR cM sM h 1 6 = true) : (WP Gm j_S_node 15 (ls) ([]) h Q) = (Q (.inr 0) (hN h kc_IllegalArgumentException 0 6)) := (WP_at c_S_node_15 _ _ _ _).trans (congrArg (fun o => ndX Gm (WP Gm) j_S_node 15 o Q) (if_pos hr))
theorem c_S_node_25 : mCode j_S_node 25 = oAld 0 26 := rfl
theorem e_S_node_25 (x : Option Nat) : (WP Gm j_S_node 25 (some (.inr (.inl x)) :: ls) (st) h Q) = (WP Gm j_S_node 26 (some (.inr (.inl x)) :: ls) (.inr (.inl x) :: st) (h) Q) := (WP_at c_S_node_25 _ _ _ _)
theorem c_S_node_26 : mCode j_S_node 26 = oGetR kc_S 0 29 := rfl
theorem e_S_node_26 (a : Nat) (hk : isK h a kc_S = true) : (WP Gm j_S_node 26 (ls) (.inr (.inl (some a)) :: st) h Q) = (WP Gm j_S_node 29 (ls) (.inr (.inl (gR h a 0)) :: st) (h) Q) := (WP_at c_S_node_26 _ _ _ _).trans (congrArg (fun o => ndX Gm (WP Gm) j_S_node 26 o Q) (if_pos hk))
theorem c_S_node_29 : mCode j_S_node 29 = oGetI kc_Land 2 32 := rfl
theorem e_S_node_29 (a : Nat) (hk : isK h a kc_Land = true) : (WP Gm j_S_node 29 (ls) (.inr (.inl (some a)) :: st) h Q) = (WP Gm j_S_node 32 (ls) (.inl (gI h a 2) :: st) (h) Q) := (WP_at c_S_node_29 _ _ _ _).trans (congrArg (fun o => ndX Gm (WP Gm) j_S_node 29 o Q) (if_pos hk))
theorem c_S_node_32 : mCode j_S_node 32 = oI 8 34 := rfl
theorem e_S_node_32  : (WP Gm j_S_node 32 (ls) (st) h Q) = (WP Gm j_S_node 34 (ls) (.inl 8 :: st) (h) Q) := (WP_at c_S_node_32 _ _ _ _)
theorem c_S_node_34 : mCode j_S_node 34 = oIC (fun x y => decide (x < y)) 47 37 := rfl
theorem e_S_node_34 (x y : Int32) : (WP Gm j_S_node 34 (ls) (.inl y :: .inl x :: st) h Q) = (if x < y then WP Gm j_S_node 47 (ls) (st) (h) Q else WP Gm j_S_node 37 (ls) (st) (h) Q) := (WP_at c_S_node_34 _ _ _ _).trans (nd_ic rfl _ _ _ _)
theorem c_S_node_37 : mCode j_S_node 37 = oThr cM sM 1 kc_IllegalStateException := rfl
theorem e_S_node_37 (hr : okR cM sM h 1 6 = true) : (WP Gm j_S_node 37 (ls) ([]) h Q) = (Q (.inr 1) (hN h kc_IllegalStateException 0 6)) := (WP_at c_S_node_37 _ _ _ _).trans (congrArg (fun o => ndX Gm (WP Gm) j_S_node 37 o Q) (if_pos hr))
theorem c_S_node_47 : mCode j_S_node 47 = oAld 0 48 := rfl
theorem e_S_node_47 (x : Option Nat) : (WP Gm j_S_node 47 (some (.inr (.inl x)) :: ls) (st) h Q) = (WP Gm j_S_node 48 (some (.inr (.inl x)) :: ls) (.inr (.inl x) :: st) (h) Q) := (WP_at c_S_node_47 _ _ _ _)
theorem c_S_node_48 : mCode j_S_node 48 = oGetR kc_S 0 51 := rfl
theorem e_S_node_48 (a : Nat) (hk : isK h a kc_S = true) : (WP Gm j_S_node 48 (ls) (.inr (.inl (some a)) :: st) h Q) = (WP Gm j_S_node 51 (ls) (.inr (.inl (gR h a 0)) :: st) (h) Q) := (WP_at c_S_node_48 _ _ _ _).trans (congrArg (fun o => ndX Gm (WP Gm) j_S_node 48 o Q) (if_pos hk))
theorem c_S_node_51 : mCode j_S_node 51 = oIld 1 52 := rfl
theorem e_S_node_51 (a0 : Option MV) (x : Int32) : (WP Gm j_S_node 51 (a0 :: some (.inl x) :: ls) (st) h Q) = (WP Gm j_S_node 52 (a0 :: some (.inl x) :: ls) (.inl x :: st) (h) Q) := (WP_at c_S_node_51 _ _ _ _)
theorem c_S_node_52 : mCode j_S_node 52 = oIld 2 53 := rfl
theorem e_S_node_52 (a0 a1 : Option MV) (x : Int32) : (WP Gm j_S_node 52 (a0 :: a1 :: some (.inl x) :: ls) (st) h Q) = (WP Gm j_S_node 53 (a0 :: a1 :: some (.inl x) :: ls) (.inl x :: st) (h) Q) := (WP_at c_S_node_52 _ _ _ _)
theorem c_S_node_53 : mCode j_S_node 53 = oIld 3 54 := rfl
theorem e_S_node_53 (a0 a1 a2 : Option MV) (x : Int32) : (WP Gm j_S_node 53 (a0 :: a1 :: a2 :: some (.inl x) :: ls) (st) h Q) = (WP Gm j_S_node 54 (a0 :: a1 :: a2 :: some (.inl x) :: ls) (.inl x :: st) (h) Q) := (WP_at c_S_node_53 _ _ _ _)
theorem c_S_node_54 : mCode j_S_node 54 = oIld 4 56 := rfl
theorem e_S_node_54 (a0 a1 a2 a3 : Option MV) (x : Int32) : (WP Gm j_S_node 54 (a0 :: a1 :: a2 :: a3 :: some (.inl x) :: ls) (st) h Q) = (WP Gm j_S_node 56 (a0 :: a1 :: a2 :: a3 :: some (.inl x) :: ls) (.inl x :: st) (h) Q) := (WP_at c_S_node_54 _ _ _ _)
theorem c_S_node_56 : mCode j_S_node 56 = oCallV kc_Land j_Land_add 4 (mL j_Land_add) 59 := rfl
theorem e_S_node_56 (a : Nat) (x0 : Int32) (x1 : Int32) (x2 : Int32) (x3 : Int32) (hk : isK h a kc_Land = true) (hc : c8 st = true) : (WP Gm j_S_node 56 (ls) (.inl x3 :: .inl x2 :: .inl x1 :: .inl x0 :: .inr (.inl (some a)) :: st) h Q) = (WP Gm j_Land_add 0 [some (.inr (.inl (some a))), some (.inl x0), some (.inl x1), some (.inl x2), some (.inl x3), none] [] h (kC (fun v h2 => WP Gm j_S_node 59 ls (v.toList ++ st) h2 Q) (fun E h2 => Q (.inr E) h2))) := (WP_at c_S_node_56 _ _ _ _).trans (congrArg (fun o => ndX Gm (WP Gm) j_S_node 56 o Q) (if_pos (by rw [hk, show decide (catS st ≤ 8) = true from hc]; rfl)))
theorem c_S_node_59 : mCode j_S_node 59 = oRetI := rfl
theorem e_S_node_59 (x : Int32) : (WP Gm j_S_node 59 (ls) ([.inl x]) h Q) = (Q (.inl (some (.inl x))) h) := (WP_at c_S_node_59 _ _ _ _)
theorem c_S_move_0 : mCode j_S_move 0 = oAld 0 1 := rfl
theorem e_S_move_0 (x : Option Nat) : (WP Gm j_S_move 0 (some (.inr (.inl x)) :: ls) (st) h Q) = (WP Gm j_S_move 1 (some (.inr (.inl x)) :: ls) (.inr (.inl x) :: st) (h) Q) := (WP_at c_S_move_0 _ _ _ _)
theorem c_S_move_1 : mCode j_S_move 1 = oIld 1 2 := rfl
theorem e_S_move_1 (a0 : Option MV) (x : Int32) : (WP Gm j_S_move 1 (a0 :: some (.inl x) :: ls) (st) h Q) = (WP Gm j_S_move 2 (a0 :: some (.inl x) :: ls) (.inl x :: st) (h) Q) := (WP_at c_S_move_1 _ _ _ _)
theorem c_S_move_2 : mCode j_S_move 2 = oCallV kc_S j_S_checkNode 1 (mL j_S_checkNode) 5 := rfl
theorem e_S_move_2 (a : Nat) (x0 : Int32) (hk : isK h a kc_S = true) (hc : c8 st = true) : (WP Gm j_S_move 2 (ls) (.inl x0 :: .inr (.inl (some a)) :: st) h Q) = (WP Gm j_S_checkNode 0 [some (.inr (.inl (some a))), some (.inl x0)] [] h (kC (fun v h2 => WP Gm j_S_move 5 ls (v.toList ++ st) h2 Q) (fun E h2 => Q (.inr E) h2))) := (WP_at c_S_move_2 _ _ _ _).trans (congrArg (fun o => ndX Gm (WP Gm) j_S_move 2 o Q) (if_pos (by rw [hk, show decide (catS st ≤ 8) = true from hc]; rfl)))
theorem c_S_move_5 : mCode j_S_move 5 = oIld 2 6 := rfl
theorem e_S_move_5 (a0 a1 : Option MV) (x : Int32) : (WP Gm j_S_move 5 (a0 :: a1 :: some (.inl x) :: ls) (st) h Q) = (WP Gm j_S_move 6 (a0 :: a1 :: some (.inl x) :: ls) (.inl x :: st) (h) Q) := (WP_at c_S_move_5 _ _ _ _)
theorem c_S_move_6 : mCode j_S_move 6 = oIld 3 7 := rfl
theorem e_S_move_6 (a0 a1 a2 : Option MV) (x : Int32) : (WP Gm j_S_move 6 (a0 :: a1 :: a2 :: some (.inl x) :: ls) (st) h Q) = (WP Gm j_S_move 7 (a0 :: a1 :: a2 :: some (.inl x) :: ls) (.inl x :: st) (h) Q) := (WP_at c_S_move_6 _ _ _ _)
theorem c_S_move_7 : mCode j_S_move 7 = oCallS j_S_isPlace 2 (mL j_S_isPlace) 10 := rfl
theorem e_S_move_7 (x0 : Int32) (x1 : Int32) (hc : c8 st = true) : (WP Gm j_S_move 7 (ls) (.inl x1 :: .inl x0 :: st) h Q) = (WP Gm j_S_isPlace 0 [some (.inl x0), some (.inl x1)] [] h (kC (fun v h2 => WP Gm j_S_move 10 ls (v.toList ++ st) h2 Q) (fun E h2 => Q (.inr E) h2))) := (WP_at c_S_move_7 _ _ _ _).trans (congrArg (fun o => ndX Gm (WP Gm) j_S_move 7 o Q) (if_pos (by rw [show decide (catS st ≤ 8) = true from hc]; rfl)))
theorem c_S_move_10 : mCode j_S_move 10 = oIf (fun x => decide (¬ x = 0)) 23 13 := rfl
theorem e_S_move_10 (x : Int32) : (WP Gm j_S_move 10 (ls) (.inl x :: st) h Q) = (if ¬ x = 0 then WP Gm j_S_move 23 (ls) (st) (h) Q else WP Gm j_S_move 13 (ls) (st) (h) Q) := (WP_at c_S_move_10 _ _ _ _).trans (nd_if rfl _ _ _ _)
theorem c_S_move_13 : mCode j_S_move 13 = oThr cM sM 0 kc_IllegalArgumentException := rfl
theorem e_S_move_13 (hr : okR cM sM h 1 6 = true) : (WP Gm j_S_move 13 (ls) ([]) h Q) = (Q (.inr 0) (hN h kc_IllegalArgumentException 0 6)) := (WP_at c_S_move_13 _ _ _ _).trans (congrArg (fun o => ndX Gm (WP Gm) j_S_move 13 o Q) (if_pos hr))
theorem c_S_move_23 : mCode j_S_move 23 = oAld 0 24 := rfl
theorem e_S_move_23 (x : Option Nat) : (WP Gm j_S_move 23 (some (.inr (.inl x)) :: ls) (st) h Q) = (WP Gm j_S_move 24 (some (.inr (.inl x)) :: ls) (.inr (.inl x) :: st) (h) Q) := (WP_at c_S_move_23 _ _ _ _)
theorem c_S_move_24 : mCode j_S_move 24 = oIld 1 25 := rfl
theorem e_S_move_24 (a0 : Option MV) (x : Int32) : (WP Gm j_S_move 24 (a0 :: some (.inl x) :: ls) (st) h Q) = (WP Gm j_S_move 25 (a0 :: some (.inl x) :: ls) (.inl x :: st) (h) Q) := (WP_at c_S_move_24 _ _ _ _)
theorem c_S_move_25 : mCode j_S_move 25 = oCallV kc_S j_S_checkSilent 1 (mL j_S_checkSilent) 28 := rfl
theorem e_S_move_25 (a : Nat) (x0 : Int32) (hk : isK h a kc_S = true) (hc : c8 st = true) : (WP Gm j_S_move 25 (ls) (.inl x0 :: .inr (.inl (some a)) :: st) h Q) = (WP Gm j_S_checkSilent 0 [some (.inr (.inl (some a))), some (.inl x0)] [] h (kC (fun v h2 => WP Gm j_S_move 28 ls (v.toList ++ st) h2 Q) (fun E h2 => Q (.inr E) h2))) := (WP_at c_S_move_25 _ _ _ _).trans (congrArg (fun o => ndX Gm (WP Gm) j_S_move 25 o Q) (if_pos (by rw [hk, show decide (catS st ≤ 8) = true from hc]; rfl)))
theorem c_S_move_28 : mCode j_S_move 28 = oAld 0 29 := rfl
theorem e_S_move_28 (x : Option Nat) : (WP Gm j_S_move 28 (some (.inr (.inl x)) :: ls) (st) h Q) = (WP Gm j_S_move 29 (some (.inr (.inl x)) :: ls) (.inr (.inl x) :: st) (h) Q) := (WP_at c_S_move_28 _ _ _ _)
theorem c_S_move_29 : mCode j_S_move 29 = oGetR kc_S 0 32 := rfl
theorem e_S_move_29 (a : Nat) (hk : isK h a kc_S = true) : (WP Gm j_S_move 29 (ls) (.inr (.inl (some a)) :: st) h Q) = (WP Gm j_S_move 32 (ls) (.inr (.inl (gR h a 0)) :: st) (h) Q) := (WP_at c_S_move_29 _ _ _ _).trans (congrArg (fun o => ndX Gm (WP Gm) j_S_move 29 o Q) (if_pos hk))
theorem c_S_move_32 : mCode j_S_move 32 = oIld 1 33 := rfl
theorem e_S_move_32 (a0 : Option MV) (x : Int32) : (WP Gm j_S_move 32 (a0 :: some (.inl x) :: ls) (st) h Q) = (WP Gm j_S_move 33 (a0 :: some (.inl x) :: ls) (.inl x :: st) (h) Q) := (WP_at c_S_move_32 _ _ _ _)
theorem c_S_move_33 : mCode j_S_move 33 = oIld 2 34 := rfl
theorem e_S_move_33 (a0 a1 : Option MV) (x : Int32) : (WP Gm j_S_move 33 (a0 :: a1 :: some (.inl x) :: ls) (st) h Q) = (WP Gm j_S_move 34 (a0 :: a1 :: some (.inl x) :: ls) (.inl x :: st) (h) Q) := (WP_at c_S_move_33 _ _ _ _)
theorem c_S_move_34 : mCode j_S_move 34 = oIld 3 35 := rfl
theorem e_S_move_34 (a0 a1 a2 : Option MV) (x : Int32) : (WP Gm j_S_move 34 (a0 :: a1 :: a2 :: some (.inl x) :: ls) (st) h Q) = (WP Gm j_S_move 35 (a0 :: a1 :: a2 :: some (.inl x) :: ls) (.inl x :: st) (h) Q) := (WP_at c_S_move_34 _ _ _ _)
theorem c_S_move_35 : mCode j_S_move 35 = oCallV kc_Land j_Land_put 3 (mL j_Land_put) 38 := rfl
theorem e_S_move_35 (a : Nat) (x0 : Int32) (x1 : Int32) (x2 : Int32) (hk : isK h a kc_Land = true) (hc : c8 st = true) : (WP Gm j_S_move 35 (ls) (.inl x2 :: .inl x1 :: .inl x0 :: .inr (.inl (some a)) :: st) h Q) = (WP Gm j_Land_put 0 [some (.inr (.inl (some a))), some (.inl x0), some (.inl x1), some (.inl x2)] [] h (kC (fun v h2 => WP Gm j_S_move 38 ls (v.toList ++ st) h2 Q) (fun E h2 => Q (.inr E) h2))) := (WP_at c_S_move_35 _ _ _ _).trans (congrArg (fun o => ndX Gm (WP Gm) j_S_move 35 o Q) (if_pos (by rw [hk, show decide (catS st ≤ 8) = true from hc]; rfl)))
theorem c_S_move_38 : mCode j_S_move 38 = oAld 0 39 := rfl
theorem e_S_move_38 (x : Option Nat) : (WP Gm j_S_move 38 (some (.inr (.inl x)) :: ls) (st) h Q) = (WP Gm j_S_move 39 (some (.inr (.inl x)) :: ls) (.inr (.inl x) :: st) (h) Q) := (WP_at c_S_move_38 _ _ _ _)
theorem c_S_move_39 : mCode j_S_move 39 = oGetR kc_S 0 42 := rfl
theorem e_S_move_39 (a : Nat) (hk : isK h a kc_S = true) : (WP Gm j_S_move 39 (ls) (.inr (.inl (some a)) :: st) h Q) = (WP Gm j_S_move 42 (ls) (.inr (.inl (gR h a 0)) :: st) (h) Q) := (WP_at c_S_move_39 _ _ _ _).trans (congrArg (fun o => ndX Gm (WP Gm) j_S_move 39 o Q) (if_pos hk))
theorem c_S_move_42 : mCode j_S_move 42 = oIld 1 43 := rfl
theorem e_S_move_42 (a0 : Option MV) (x : Int32) : (WP Gm j_S_move 42 (a0 :: some (.inl x) :: ls) (st) h Q) = (WP Gm j_S_move 43 (a0 :: some (.inl x) :: ls) (.inl x :: st) (h) Q) := (WP_at c_S_move_42 _ _ _ _)
theorem c_S_move_43 : mCode j_S_move 43 = oCallV kc_Land j_Land_linkedWith 1 (mL j_Land_linkedWith) 46 := rfl
theorem e_S_move_43 (a : Nat) (x0 : Int32) (hk : isK h a kc_Land = true) (hc : c8 st = true) : (WP Gm j_S_move 43 (ls) (.inl x0 :: .inr (.inl (some a)) :: st) h Q) = (WP Gm j_Land_linkedWith 0 [some (.inr (.inl (some a))), some (.inl x0), none, none] [] h (kC (fun v h2 => WP Gm j_S_move 46 ls (v.toList ++ st) h2 Q) (fun E h2 => Q (.inr E) h2))) := (WP_at c_S_move_43 _ _ _ _).trans (congrArg (fun o => ndX Gm (WP Gm) j_S_move 43 o Q) (if_pos (by rw [hk, show decide (catS st ≤ 8) = true from hc]; rfl)))
theorem c_S_move_46 : mCode j_S_move 46 = oCallS j_Integer_bitCount 1 (mL j_Integer_bitCount) 49 := rfl
theorem e_S_move_46 (x0 : Int32) (hc : c8 st = true) : (WP Gm j_S_move 46 (ls) (.inl x0 :: st) h Q) = (WP Gm j_Integer_bitCount 0 [some (.inl x0)] [] h (kC (fun v h2 => WP Gm j_S_move 49 ls (v.toList ++ st) h2 Q) (fun E h2 => Q (.inr E) h2))) := (WP_at c_S_move_46 _ _ _ _).trans (congrArg (fun o => ndX Gm (WP Gm) j_S_move 46 o Q) (if_pos (by rw [show decide (catS st ≤ 8) = true from hc]; rfl)))
theorem c_S_move_49 : mCode j_S_move 49 = oRetI := rfl
theorem e_S_move_49 (x : Int32) : (WP Gm j_S_move 49 (ls) ([.inl x]) h Q) = (Q (.inl (some (.inl x))) h) := (WP_at c_S_move_49 _ _ _ _)
theorem c_S_tune_0 : mCode j_S_tune 0 = oAld 0 1 := rfl
theorem e_S_tune_0 (x : Option Nat) : (WP Gm j_S_tune 0 (some (.inr (.inl x)) :: ls) (st) h Q) = (WP Gm j_S_tune 1 (some (.inr (.inl x)) :: ls) (.inr (.inl x) :: st) (h) Q) := (WP_at c_S_tune_0 _ _ _ _)
theorem c_S_tune_1 : mCode j_S_tune 1 = oIld 1 2 := rfl
theorem e_S_tune_1 (a0 : Option MV) (x : Int32) : (WP Gm j_S_tune 1 (a0 :: some (.inl x) :: ls) (st) h Q) = (WP Gm j_S_tune 2 (a0 :: some (.inl x) :: ls) (.inl x :: st) (h) Q) := (WP_at c_S_tune_1 _ _ _ _)
theorem c_S_tune_2 : mCode j_S_tune 2 = oCallV kc_S j_S_checkNode 1 (mL j_S_checkNode) 5 := rfl
theorem e_S_tune_2 (a : Nat) (x0 : Int32) (hk : isK h a kc_S = true) (hc : c8 st = true) : (WP Gm j_S_tune 2 (ls) (.inl x0 :: .inr (.inl (some a)) :: st) h Q) = (WP Gm j_S_checkNode 0 [some (.inr (.inl (some a))), some (.inl x0)] [] h (kC (fun v h2 => WP Gm j_S_tune 5 ls (v.toList ++ st) h2 Q) (fun E h2 => Q (.inr E) h2))) := (WP_at c_S_tune_2 _ _ _ _).trans (congrArg (fun o => ndX Gm (WP Gm) j_S_tune 2 o Q) (if_pos (by rw [hk, show decide (catS st ≤ 8) = true from hc]; rfl)))
theorem c_S_tune_5 : mCode j_S_tune 5 = oIld 2 6 := rfl
theorem e_S_tune_5 (a0 a1 : Option MV) (x : Int32) : (WP Gm j_S_tune 5 (a0 :: a1 :: some (.inl x) :: ls) (st) h Q) = (WP Gm j_S_tune 6 (a0 :: a1 :: some (.inl x) :: ls) (.inl x :: st) (h) Q) := (WP_at c_S_tune_5 _ _ _ _)
theorem c_S_tune_6 : mCode j_S_tune 6 = oCallS j_S_isReach 1 (mL j_S_isReach) 9 := rfl
theorem e_S_tune_6 (x0 : Int32) (hc : c8 st = true) : (WP Gm j_S_tune 6 (ls) (.inl x0 :: st) h Q) = (WP Gm j_S_isReach 0 [some (.inl x0)] [] h (kC (fun v h2 => WP Gm j_S_tune 9 ls (v.toList ++ st) h2 Q) (fun E h2 => Q (.inr E) h2))) := (WP_at c_S_tune_6 _ _ _ _).trans (congrArg (fun o => ndX Gm (WP Gm) j_S_tune 6 o Q) (if_pos (by rw [show decide (catS st ≤ 8) = true from hc]; rfl)))
theorem c_S_tune_9 : mCode j_S_tune 9 = oIf (fun x => decide (¬ x = 0)) 22 12 := rfl
theorem e_S_tune_9 (x : Int32) : (WP Gm j_S_tune 9 (ls) (.inl x :: st) h Q) = (if ¬ x = 0 then WP Gm j_S_tune 22 (ls) (st) (h) Q else WP Gm j_S_tune 12 (ls) (st) (h) Q) := (WP_at c_S_tune_9 _ _ _ _).trans (nd_if rfl _ _ _ _)
theorem c_S_tune_12 : mCode j_S_tune 12 = oThr cM sM 0 kc_IllegalArgumentException := rfl
theorem e_S_tune_12 (hr : okR cM sM h 1 6 = true) : (WP Gm j_S_tune 12 (ls) ([]) h Q) = (Q (.inr 0) (hN h kc_IllegalArgumentException 0 6)) := (WP_at c_S_tune_12 _ _ _ _).trans (congrArg (fun o => ndX Gm (WP Gm) j_S_tune 12 o Q) (if_pos hr))
theorem c_S_tune_22 : mCode j_S_tune 22 = oAld 0 23 := rfl
theorem e_S_tune_22 (x : Option Nat) : (WP Gm j_S_tune 22 (some (.inr (.inl x)) :: ls) (st) h Q) = (WP Gm j_S_tune 23 (some (.inr (.inl x)) :: ls) (.inr (.inl x) :: st) (h) Q) := (WP_at c_S_tune_22 _ _ _ _)
theorem c_S_tune_23 : mCode j_S_tune 23 = oIld 1 24 := rfl
theorem e_S_tune_23 (a0 : Option MV) (x : Int32) : (WP Gm j_S_tune 23 (a0 :: some (.inl x) :: ls) (st) h Q) = (WP Gm j_S_tune 24 (a0 :: some (.inl x) :: ls) (.inl x :: st) (h) Q) := (WP_at c_S_tune_23 _ _ _ _)
theorem c_S_tune_24 : mCode j_S_tune 24 = oCallV kc_S j_S_checkSilent 1 (mL j_S_checkSilent) 27 := rfl
theorem e_S_tune_24 (a : Nat) (x0 : Int32) (hk : isK h a kc_S = true) (hc : c8 st = true) : (WP Gm j_S_tune 24 (ls) (.inl x0 :: .inr (.inl (some a)) :: st) h Q) = (WP Gm j_S_checkSilent 0 [some (.inr (.inl (some a))), some (.inl x0)] [] h (kC (fun v h2 => WP Gm j_S_tune 27 ls (v.toList ++ st) h2 Q) (fun E h2 => Q (.inr E) h2))) := (WP_at c_S_tune_24 _ _ _ _).trans (congrArg (fun o => ndX Gm (WP Gm) j_S_tune 24 o Q) (if_pos (by rw [hk, show decide (catS st ≤ 8) = true from hc]; rfl)))
theorem c_S_tune_27 : mCode j_S_tune 27 = oAld 0 28 := rfl
theorem e_S_tune_27 (x : Option Nat) : (WP Gm j_S_tune 27 (some (.inr (.inl x)) :: ls) (st) h Q) = (WP Gm j_S_tune 28 (some (.inr (.inl x)) :: ls) (.inr (.inl x) :: st) (h) Q) := (WP_at c_S_tune_27 _ _ _ _)
theorem c_S_tune_28 : mCode j_S_tune 28 = oGetR kc_S 0 31 := rfl
theorem e_S_tune_28 (a : Nat) (hk : isK h a kc_S = true) : (WP Gm j_S_tune 28 (ls) (.inr (.inl (some a)) :: st) h Q) = (WP Gm j_S_tune 31 (ls) (.inr (.inl (gR h a 0)) :: st) (h) Q) := (WP_at c_S_tune_28 _ _ _ _).trans (congrArg (fun o => ndX Gm (WP Gm) j_S_tune 28 o Q) (if_pos hk))
theorem c_S_tune_31 : mCode j_S_tune 31 = oGetR kc_Land 0 34 := rfl
theorem e_S_tune_31 (a : Nat) (hk : isK h a kc_Land = true) : (WP Gm j_S_tune 31 (ls) (.inr (.inl (some a)) :: st) h Q) = (WP Gm j_S_tune 34 (ls) (.inr (.inl (gR h a 0)) :: st) (h) Q) := (WP_at c_S_tune_31 _ _ _ _).trans (congrArg (fun o => ndX Gm (WP Gm) j_S_tune 31 o Q) (if_pos hk))
theorem c_S_tune_34 : mCode j_S_tune 34 = oIld 1 35 := rfl
theorem e_S_tune_34 (a0 : Option MV) (x : Int32) : (WP Gm j_S_tune 34 (a0 :: some (.inl x) :: ls) (st) h Q) = (WP Gm j_S_tune 35 (a0 :: some (.inl x) :: ls) (.inl x :: st) (h) Q) := (WP_at c_S_tune_34 _ _ _ _)
theorem c_S_tune_35 : mCode j_S_tune 35 = oAal 2 36 := rfl
theorem e_S_tune_35 (a : Nat) (i : Int32) (hk : isK h a 102 = true) (hi : inL h a i = true) : (WP Gm j_S_tune 35 (ls) (.inl i :: .inr (.inl (some a)) :: st) h Q) = (WP Gm j_S_tune 36 (ls) (.inr (.inl (gR h a i.toNatClampNeg)) :: st) (h) Q) := (WP_at c_S_tune_35 _ _ _ _).trans (congrArg (fun o => ndX Gm (WP Gm) j_S_tune 35 o Q) (if_pos (by rw [hk, hi]; rfl)))
theorem c_S_tune_36 : mCode j_S_tune 36 = oGetI kc_Node 2 39 := rfl
theorem e_S_tune_36 (a : Nat) (hk : isK h a kc_Node = true) : (WP Gm j_S_tune 36 (ls) (.inr (.inl (some a)) :: st) h Q) = (WP Gm j_S_tune 39 (ls) (.inl (gI h a 2) :: st) (h) Q) := (WP_at c_S_tune_36 _ _ _ _).trans (congrArg (fun o => ndX Gm (WP Gm) j_S_tune 36 o Q) (if_pos hk))
theorem c_S_tune_39 : mCode j_S_tune 39 = oIst 4 41 := rfl
theorem e_S_tune_39 (x : Int32) : (WP Gm j_S_tune 39 (ls) (.inl x :: st) h Q) = (WP Gm j_S_tune 41 (lSet1 ls 4 (some (.inl x))) (st) (h) Q) := (WP_at c_S_tune_39 _ _ _ _)
theorem c_S_tune_41 : mCode j_S_tune 41 = oAld 0 42 := rfl
theorem e_S_tune_41 (x : Option Nat) : (WP Gm j_S_tune 41 (some (.inr (.inl x)) :: ls) (st) h Q) = (WP Gm j_S_tune 42 (some (.inr (.inl x)) :: ls) (.inr (.inl x) :: st) (h) Q) := (WP_at c_S_tune_41 _ _ _ _)
theorem c_S_tune_42 : mCode j_S_tune 42 = oGetR kc_S 0 45 := rfl
theorem e_S_tune_42 (a : Nat) (hk : isK h a kc_S = true) : (WP Gm j_S_tune 42 (ls) (.inr (.inl (some a)) :: st) h Q) = (WP Gm j_S_tune 45 (ls) (.inr (.inl (gR h a 0)) :: st) (h) Q) := (WP_at c_S_tune_42 _ _ _ _).trans (congrArg (fun o => ndX Gm (WP Gm) j_S_tune 42 o Q) (if_pos hk))
theorem c_S_tune_45 : mCode j_S_tune 45 = oIld 1 46 := rfl
theorem e_S_tune_45 (a0 : Option MV) (x : Int32) : (WP Gm j_S_tune 45 (a0 :: some (.inl x) :: ls) (st) h Q) = (WP Gm j_S_tune 46 (a0 :: some (.inl x) :: ls) (.inl x :: st) (h) Q) := (WP_at c_S_tune_45 _ _ _ _)
theorem c_S_tune_46 : mCode j_S_tune 46 = oIld 2 47 := rfl
theorem e_S_tune_46 (a0 a1 : Option MV) (x : Int32) : (WP Gm j_S_tune 46 (a0 :: a1 :: some (.inl x) :: ls) (st) h Q) = (WP Gm j_S_tune 47 (a0 :: a1 :: some (.inl x) :: ls) (.inl x :: st) (h) Q) := (WP_at c_S_tune_46 _ _ _ _)
theorem c_S_tune_47 : mCode j_S_tune 47 = oIld 3 48 := rfl
theorem e_S_tune_47 (a0 a1 a2 : Option MV) (x : Int32) : (WP Gm j_S_tune 47 (a0 :: a1 :: a2 :: some (.inl x) :: ls) (st) h Q) = (WP Gm j_S_tune 48 (a0 :: a1 :: a2 :: some (.inl x) :: ls) (.inl x :: st) (h) Q) := (WP_at c_S_tune_47 _ _ _ _)
theorem c_S_tune_48 : mCode j_S_tune 48 = oCallV kc_Land j_Land_adjust 3 (mL j_Land_adjust) 51 := rfl
theorem e_S_tune_48 (a : Nat) (x0 : Int32) (x1 : Int32) (x2 : Int32) (hk : isK h a kc_Land = true) (hc : c8 st = true) : (WP Gm j_S_tune 48 (ls) (.inl x2 :: .inl x1 :: .inl x0 :: .inr (.inl (some a)) :: st) h Q) = (WP Gm j_Land_adjust 0 [some (.inr (.inl (some a))), some (.inl x0), some (.inl x1), some (.inl x2)] [] h (kC (fun v h2 => WP Gm j_S_tune 51 ls (v.toList ++ st) h2 Q) (fun E h2 => Q (.inr E) h2))) := (WP_at c_S_tune_48 _ _ _ _).trans (congrArg (fun o => ndX Gm (WP Gm) j_S_tune 48 o Q) (if_pos (by rw [hk, show decide (catS st ≤ 8) = true from hc]; rfl)))
theorem c_S_tune_51 : mCode j_S_tune 51 = oIld 4 53 := rfl
theorem e_S_tune_51 (a0 a1 a2 a3 : Option MV) (x : Int32) : (WP Gm j_S_tune 51 (a0 :: a1 :: a2 :: a3 :: some (.inl x) :: ls) (st) h Q) = (WP Gm j_S_tune 53 (a0 :: a1 :: a2 :: a3 :: some (.inl x) :: ls) (.inl x :: st) (h) Q) := (WP_at c_S_tune_51 _ _ _ _)
theorem c_S_tune_53 : mCode j_S_tune 53 = oRetI := rfl
theorem e_S_tune_53 (x : Int32) : (WP Gm j_S_tune 53 (ls) ([.inl x]) h Q) = (Q (.inl (some (.inl x))) h) := (WP_at c_S_tune_53 _ _ _ _)
theorem c_S_send_0 : mCode j_S_send 0 = oAld 0 1 := rfl
theorem e_S_send_0 (x : Option Nat) : (WP Gm j_S_send 0 (some (.inr (.inl x)) :: ls) (st) h Q) = (WP Gm j_S_send 1 (some (.inr (.inl x)) :: ls) (.inr (.inl x) :: st) (h) Q) := (WP_at c_S_send_0 _ _ _ _)
theorem c_S_send_1 : mCode j_S_send 1 = oIld 1 2 := rfl
theorem e_S_send_1 (a0 : Option MV) (x : Int32) : (WP Gm j_S_send 1 (a0 :: some (.inl x) :: ls) (st) h Q) = (WP Gm j_S_send 2 (a0 :: some (.inl x) :: ls) (.inl x :: st) (h) Q) := (WP_at c_S_send_1 _ _ _ _)
theorem c_S_send_2 : mCode j_S_send 2 = oCallV kc_S j_S_checkNode 1 (mL j_S_checkNode) 5 := rfl
theorem e_S_send_2 (a : Nat) (x0 : Int32) (hk : isK h a kc_S = true) (hc : c8 st = true) : (WP Gm j_S_send 2 (ls) (.inl x0 :: .inr (.inl (some a)) :: st) h Q) = (WP Gm j_S_checkNode 0 [some (.inr (.inl (some a))), some (.inl x0)] [] h (kC (fun v h2 => WP Gm j_S_send 5 ls (v.toList ++ st) h2 Q) (fun E h2 => Q (.inr E) h2))) := (WP_at c_S_send_2 _ _ _ _).trans (congrArg (fun o => ndX Gm (WP Gm) j_S_send 2 o Q) (if_pos (by rw [hk, show decide (catS st ≤ 8) = true from hc]; rfl)))
theorem c_S_send_5 : mCode j_S_send 5 = oAld 0 6 := rfl
theorem e_S_send_5 (x : Option Nat) : (WP Gm j_S_send 5 (some (.inr (.inl x)) :: ls) (st) h Q) = (WP Gm j_S_send 6 (some (.inr (.inl x)) :: ls) (.inr (.inl x) :: st) (h) Q) := (WP_at c_S_send_5 _ _ _ _)
theorem c_S_send_6 : mCode j_S_send 6 = oIld 2 7 := rfl
theorem e_S_send_6 (a0 a1 : Option MV) (x : Int32) : (WP Gm j_S_send 6 (a0 :: a1 :: some (.inl x) :: ls) (st) h Q) = (WP Gm j_S_send 7 (a0 :: a1 :: some (.inl x) :: ls) (.inl x :: st) (h) Q) := (WP_at c_S_send_6 _ _ _ _)
theorem c_S_send_7 : mCode j_S_send 7 = oCallV kc_S j_S_checkNode 1 (mL j_S_checkNode) 10 := rfl
theorem e_S_send_7 (a : Nat) (x0 : Int32) (hk : isK h a kc_S = true) (hc : c8 st = true) : (WP Gm j_S_send 7 (ls) (.inl x0 :: .inr (.inl (some a)) :: st) h Q) = (WP Gm j_S_checkNode 0 [some (.inr (.inl (some a))), some (.inl x0)] [] h (kC (fun v h2 => WP Gm j_S_send 10 ls (v.toList ++ st) h2 Q) (fun E h2 => Q (.inr E) h2))) := (WP_at c_S_send_7 _ _ _ _).trans (congrArg (fun o => ndX Gm (WP Gm) j_S_send 7 o Q) (if_pos (by rw [hk, show decide (catS st ≤ 8) = true from hc]; rfl)))
theorem c_S_send_10 : mCode j_S_send 10 = oIld 1 11 := rfl
theorem e_S_send_10 (a0 : Option MV) (x : Int32) : (WP Gm j_S_send 10 (a0 :: some (.inl x) :: ls) (st) h Q) = (WP Gm j_S_send 11 (a0 :: some (.inl x) :: ls) (.inl x :: st) (h) Q) := (WP_at c_S_send_10 _ _ _ _)
theorem c_S_send_11 : mCode j_S_send 11 = oIld 2 12 := rfl
theorem e_S_send_11 (a0 a1 : Option MV) (x : Int32) : (WP Gm j_S_send 11 (a0 :: a1 :: some (.inl x) :: ls) (st) h Q) = (WP Gm j_S_send 12 (a0 :: a1 :: some (.inl x) :: ls) (.inl x :: st) (h) Q) := (WP_at c_S_send_11 _ _ _ _)
theorem c_S_send_12 : mCode j_S_send 12 = oIC (fun x y => decide (x = y)) 24 15 := rfl
theorem e_S_send_12 (x y : Int32) : (WP Gm j_S_send 12 (ls) (.inl y :: .inl x :: st) h Q) = (if x = y then WP Gm j_S_send 24 (ls) (st) (h) Q else WP Gm j_S_send 15 (ls) (st) (h) Q) := (WP_at c_S_send_12 _ _ _ _).trans (nd_ic rfl _ _ _ _)
theorem c_S_send_15 : mCode j_S_send 15 = oIld 3 16 := rfl
theorem e_S_send_15 (a0 a1 a2 : Option MV) (x : Int32) : (WP Gm j_S_send 15 (a0 :: a1 :: a2 :: some (.inl x) :: ls) (st) h Q) = (WP Gm j_S_send 16 (a0 :: a1 :: a2 :: some (.inl x) :: ls) (.inl x :: st) (h) Q) := (WP_at c_S_send_15 _ _ _ _)
theorem c_S_send_16 : mCode j_S_send 16 = oI 1 17 := rfl
theorem e_S_send_16  : (WP Gm j_S_send 16 (ls) (st) h Q) = (WP Gm j_S_send 17 (ls) (.inl 1 :: st) (h) Q) := (WP_at c_S_send_16 _ _ _ _)
theorem c_S_send_17 : mCode j_S_send 17 = oI 3 18 := rfl
theorem e_S_send_17  : (WP Gm j_S_send 17 (ls) (st) h Q) = (WP Gm j_S_send 18 (ls) (.inl 3 :: st) (h) Q) := (WP_at c_S_send_17 _ _ _ _)
theorem c_S_send_18 : mCode j_S_send 18 = oCallS j_S_isWithin 3 (mL j_S_isWithin) 21 := rfl
theorem e_S_send_18 (x0 : Int32) (x1 : Int32) (x2 : Int32) (hc : c8 st = true) : (WP Gm j_S_send 18 (ls) (.inl x2 :: .inl x1 :: .inl x0 :: st) h Q) = (WP Gm j_S_isWithin 0 [some (.inl x0), some (.inl x1), some (.inl x2)] [] h (kC (fun v h2 => WP Gm j_S_send 21 ls (v.toList ++ st) h2 Q) (fun E h2 => Q (.inr E) h2))) := (WP_at c_S_send_18 _ _ _ _).trans (congrArg (fun o => ndX Gm (WP Gm) j_S_send 18 o Q) (if_pos (by rw [show decide (catS st ≤ 8) = true from hc]; rfl)))
theorem c_S_send_21 : mCode j_S_send 21 = oIf (fun x => decide (¬ x = 0)) 34 24 := rfl
theorem e_S_send_21 (x : Int32) : (WP Gm j_S_send 21 (ls) (.inl x :: st) h Q) = (if ¬ x = 0 then WP Gm j_S_send 34 (ls) (st) (h) Q else WP Gm j_S_send 24 (ls) (st) (h) Q) := (WP_at c_S_send_21 _ _ _ _).trans (nd_if rfl _ _ _ _)
theorem c_S_send_24 : mCode j_S_send 24 = oThr cM sM 0 kc_IllegalArgumentException := rfl
theorem e_S_send_24 (hr : okR cM sM h 1 6 = true) : (WP Gm j_S_send 24 (ls) ([]) h Q) = (Q (.inr 0) (hN h kc_IllegalArgumentException 0 6)) := (WP_at c_S_send_24 _ _ _ _).trans (congrArg (fun o => ndX Gm (WP Gm) j_S_send 24 o Q) (if_pos hr))
theorem c_S_send_34 : mCode j_S_send 34 = oAld 0 35 := rfl
theorem e_S_send_34 (x : Option Nat) : (WP Gm j_S_send 34 (some (.inr (.inl x)) :: ls) (st) h Q) = (WP Gm j_S_send 35 (some (.inr (.inl x)) :: ls) (.inr (.inl x) :: st) (h) Q) := (WP_at c_S_send_34 _ _ _ _)
theorem c_S_send_35 : mCode j_S_send 35 = oGetR kc_S 0 38 := rfl
theorem e_S_send_35 (a : Nat) (hk : isK h a kc_S = true) : (WP Gm j_S_send 35 (ls) (.inr (.inl (some a)) :: st) h Q) = (WP Gm j_S_send 38 (ls) (.inr (.inl (gR h a 0)) :: st) (h) Q) := (WP_at c_S_send_35 _ _ _ _).trans (congrArg (fun o => ndX Gm (WP Gm) j_S_send 35 o Q) (if_pos hk))
theorem c_S_send_38 : mCode j_S_send 38 = oGetR kc_Land 0 41 := rfl
theorem e_S_send_38 (a : Nat) (hk : isK h a kc_Land = true) : (WP Gm j_S_send 38 (ls) (.inr (.inl (some a)) :: st) h Q) = (WP Gm j_S_send 41 (ls) (.inr (.inl (gR h a 0)) :: st) (h) Q) := (WP_at c_S_send_38 _ _ _ _).trans (congrArg (fun o => ndX Gm (WP Gm) j_S_send 38 o Q) (if_pos hk))
theorem c_S_send_41 : mCode j_S_send 41 = oIld 1 42 := rfl
theorem e_S_send_41 (a0 : Option MV) (x : Int32) : (WP Gm j_S_send 41 (a0 :: some (.inl x) :: ls) (st) h Q) = (WP Gm j_S_send 42 (a0 :: some (.inl x) :: ls) (.inl x :: st) (h) Q) := (WP_at c_S_send_41 _ _ _ _)
theorem c_S_send_42 : mCode j_S_send 42 = oAal 2 43 := rfl
theorem e_S_send_42 (a : Nat) (i : Int32) (hk : isK h a 102 = true) (hi : inL h a i = true) : (WP Gm j_S_send 42 (ls) (.inl i :: .inr (.inl (some a)) :: st) h Q) = (WP Gm j_S_send 43 (ls) (.inr (.inl (gR h a i.toNatClampNeg)) :: st) (h) Q) := (WP_at c_S_send_42 _ _ _ _).trans (congrArg (fun o => ndX Gm (WP Gm) j_S_send 42 o Q) (if_pos (by rw [hk, hi]; rfl)))
theorem c_S_send_43 : mCode j_S_send 43 = oAst 4 45 := rfl
theorem e_S_send_43 (x : Option Nat) : (WP Gm j_S_send 43 (ls) (.inr (.inl x) :: st) h Q) = (WP Gm j_S_send 45 (lSet1 ls 4 (some (.inr (.inl x)))) (st) (h) Q) := (WP_at c_S_send_43 _ _ _ _)
theorem c_S_send_45 : mCode j_S_send 45 = oAld 4 47 := rfl
theorem e_S_send_45 (a0 a1 a2 a3 : Option MV) (x : Option Nat) : (WP Gm j_S_send 45 (a0 :: a1 :: a2 :: a3 :: some (.inr (.inl x)) :: ls) (st) h Q) = (WP Gm j_S_send 47 (a0 :: a1 :: a2 :: a3 :: some (.inr (.inl x)) :: ls) (.inr (.inl x) :: st) (h) Q) := (WP_at c_S_send_45 _ _ _ _)
theorem c_S_send_47 : mCode j_S_send 47 = oGetI kc_Node 14 50 := rfl
theorem e_S_send_47 (a : Nat) (hk : isK h a kc_Node = true) : (WP Gm j_S_send 47 (ls) (.inr (.inl (some a)) :: st) h Q) = (WP Gm j_S_send 50 (ls) (.inl (gI h a 14) :: st) (h) Q) := (WP_at c_S_send_47 _ _ _ _).trans (congrArg (fun o => ndX Gm (WP Gm) j_S_send 47 o Q) (if_pos hk))
theorem c_S_send_50 : mCode j_S_send 50 = oIst 5 52 := rfl
theorem e_S_send_50 (x : Int32) : (WP Gm j_S_send 50 (ls) (.inl x :: st) h Q) = (WP Gm j_S_send 52 (lSet1 ls 5 (some (.inl x))) (st) (h) Q) := (WP_at c_S_send_50 _ _ _ _)
theorem c_S_send_52 : mCode j_S_send 52 = oAld 4 54 := rfl
theorem e_S_send_52 (a0 a1 a2 a3 : Option MV) (x : Option Nat) : (WP Gm j_S_send 52 (a0 :: a1 :: a2 :: a3 :: some (.inr (.inl x)) :: ls) (st) h Q) = (WP Gm j_S_send 54 (a0 :: a1 :: a2 :: a3 :: some (.inr (.inl x)) :: ls) (.inr (.inl x) :: st) (h) Q) := (WP_at c_S_send_52 _ _ _ _)
theorem c_S_send_54 : mCode j_S_send 54 = oGetR kc_Node 4 57 := rfl
theorem e_S_send_54 (a : Nat) (hk : isK h a kc_Node = true) : (WP Gm j_S_send 54 (ls) (.inr (.inl (some a)) :: st) h Q) = (WP Gm j_S_send 57 (ls) (.inr (.inl (gR h a 4)) :: st) (h) Q) := (WP_at c_S_send_54 _ _ _ _).trans (congrArg (fun o => ndX Gm (WP Gm) j_S_send 54 o Q) (if_pos hk))
theorem c_S_send_57 : mCode j_S_send 57 = oIld 1 58 := rfl
theorem e_S_send_57 (a0 : Option MV) (x : Int32) : (WP Gm j_S_send 57 (a0 :: some (.inl x) :: ls) (st) h Q) = (WP Gm j_S_send 58 (a0 :: some (.inl x) :: ls) (.inl x :: st) (h) Q) := (WP_at c_S_send_57 _ _ _ _)
theorem c_S_send_58 : mCode j_S_send 58 = oIld 2 59 := rfl
theorem e_S_send_58 (a0 a1 : Option MV) (x : Int32) : (WP Gm j_S_send 58 (a0 :: a1 :: some (.inl x) :: ls) (st) h Q) = (WP Gm j_S_send 59 (a0 :: a1 :: some (.inl x) :: ls) (.inl x :: st) (h) Q) := (WP_at c_S_send_58 _ _ _ _)
theorem c_S_send_59 : mCode j_S_send 59 = oIld 3 60 := rfl
theorem e_S_send_59 (a0 a1 a2 : Option MV) (x : Int32) : (WP Gm j_S_send 59 (a0 :: a1 :: a2 :: some (.inl x) :: ls) (st) h Q) = (WP Gm j_S_send 60 (a0 :: a1 :: a2 :: some (.inl x) :: ls) (.inl x :: st) (h) Q) := (WP_at c_S_send_59 _ _ _ _)
theorem c_S_send_60 : mCode j_S_send 60 = oIld 5 62 := rfl
theorem e_S_send_60 (a0 a1 a2 a3 a4 : Option MV) (x : Int32) : (WP Gm j_S_send 60 (a0 :: a1 :: a2 :: a3 :: a4 :: some (.inl x) :: ls) (st) h Q) = (WP Gm j_S_send 62 (a0 :: a1 :: a2 :: a3 :: a4 :: some (.inl x) :: ls) (.inl x :: st) (h) Q) := (WP_at c_S_send_60 _ _ _ _)
theorem c_S_send_62 : mCode j_S_send 62 = oI 0 63 := rfl
theorem e_S_send_62  : (WP Gm j_S_send 62 (ls) (st) h Q) = (WP Gm j_S_send 63 (ls) (.inl 0 :: st) (h) Q) := (WP_at c_S_send_62 _ _ _ _)
theorem c_S_send_63 : mCode j_S_send 63 = oCallV kc_FrameQueue j_FrameQueue_add 5 (mL j_FrameQueue_add) 66 := rfl
theorem e_S_send_63 (a : Nat) (x0 : Int32) (x1 : Int32) (x2 : Int32) (x3 : Int32) (x4 : Int32) (hk : isK h a kc_FrameQueue = true) (hc : c8 st = true) : (WP Gm j_S_send 63 (ls) (.inl x4 :: .inl x3 :: .inl x2 :: .inl x1 :: .inl x0 :: .inr (.inl (some a)) :: st) h Q) = (WP Gm j_FrameQueue_add 0 [some (.inr (.inl (some a))), some (.inl x0), some (.inl x1), some (.inl x2), some (.inl x3), some (.inl x4), none] [] h (kC (fun v h2 => WP Gm j_S_send 66 ls (v.toList ++ st) h2 Q) (fun E h2 => Q (.inr E) h2))) := (WP_at c_S_send_63 _ _ _ _).trans (congrArg (fun o => ndX Gm (WP Gm) j_S_send 63 o Q) (if_pos (by rw [hk, show decide (catS st ≤ 8) = true from hc]; rfl)))
theorem c_S_send_66 : mCode j_S_send 66 = oIf (fun x => decide (¬ x = 0)) 79 69 := rfl
theorem e_S_send_66 (x : Int32) : (WP Gm j_S_send 66 (ls) (.inl x :: st) h Q) = (if ¬ x = 0 then WP Gm j_S_send 79 (ls) (st) (h) Q else WP Gm j_S_send 69 (ls) (st) (h) Q) := (WP_at c_S_send_66 _ _ _ _).trans (nd_if rfl _ _ _ _)
theorem c_S_send_69 : mCode j_S_send 69 = oThr cM sM 1 kc_IllegalStateException := rfl
theorem e_S_send_69 (hr : okR cM sM h 1 6 = true) : (WP Gm j_S_send 69 (ls) ([]) h Q) = (Q (.inr 1) (hN h kc_IllegalStateException 0 6)) := (WP_at c_S_send_69 _ _ _ _).trans (congrArg (fun o => ndX Gm (WP Gm) j_S_send 69 o Q) (if_pos hr))
theorem c_S_send_79 : mCode j_S_send 79 = oAld 4 81 := rfl
theorem e_S_send_79 (a0 a1 a2 a3 : Option MV) (x : Option Nat) : (WP Gm j_S_send 79 (a0 :: a1 :: a2 :: a3 :: some (.inr (.inl x)) :: ls) (st) h Q) = (WP Gm j_S_send 81 (a0 :: a1 :: a2 :: a3 :: some (.inr (.inl x)) :: ls) (.inr (.inl x) :: st) (h) Q) := (WP_at c_S_send_79 _ _ _ _)
theorem c_S_send_81 : mCode j_S_send 81 = oDup 82 := rfl
theorem e_S_send_81 (x : Option Nat) : (WP Gm j_S_send 81 (ls) (.inr (.inl x) :: st) h Q) = (WP Gm j_S_send 82 (ls) (.inr (.inl x) :: .inr (.inl x) :: st) (h) Q) := (WP_at c_S_send_81 _ _ _ _)
theorem c_S_send_82 : mCode j_S_send 82 = oGetI kc_Node 14 85 := rfl
theorem e_S_send_82 (a : Nat) (hk : isK h a kc_Node = true) : (WP Gm j_S_send 82 (ls) (.inr (.inl (some a)) :: st) h Q) = (WP Gm j_S_send 85 (ls) (.inl (gI h a 14) :: st) (h) Q) := (WP_at c_S_send_82 _ _ _ _).trans (congrArg (fun o => ndX Gm (WP Gm) j_S_send 82 o Q) (if_pos hk))
theorem c_S_send_85 : mCode j_S_send 85 = oI 1 86 := rfl
theorem e_S_send_85  : (WP Gm j_S_send 85 (ls) (st) h Q) = (WP Gm j_S_send 86 (ls) (.inl 1 :: st) (h) Q) := (WP_at c_S_send_85 _ _ _ _)
theorem c_S_send_86 : mCode j_S_send 86 = oII (fun x y => x + y) 87 := rfl
theorem e_S_send_86 (x : Int32) (y : Int32) : (WP Gm j_S_send 86 (ls) (.inl y :: .inl x :: st) h Q) = (WP Gm j_S_send 87 (ls) (.inl (x + y) :: st) (h) Q) := (WP_at c_S_send_86 _ _ _ _)
theorem c_S_send_87 : mCode j_S_send 87 = oPutI kc_Node 14 90 := rfl
theorem e_S_send_87 (a : Nat) (x : Int32) (hk : isK h a kc_Node = true) : (WP Gm j_S_send 87 (ls) (.inl x :: .inr (.inl (some a)) :: st) h Q) = (WP Gm j_S_send 90 (ls) (st) (sI h a 14 x) Q) := (WP_at c_S_send_87 _ _ _ _).trans (congrArg (fun o => ndX Gm (WP Gm) j_S_send 87 o Q) (if_pos hk))
theorem c_S_send_90 : mCode j_S_send 90 = oIld 5 92 := rfl
theorem e_S_send_90 (a0 a1 a2 a3 a4 : Option MV) (x : Int32) : (WP Gm j_S_send 90 (a0 :: a1 :: a2 :: a3 :: a4 :: some (.inl x) :: ls) (st) h Q) = (WP Gm j_S_send 92 (a0 :: a1 :: a2 :: a3 :: a4 :: some (.inl x) :: ls) (.inl x :: st) (h) Q) := (WP_at c_S_send_90 _ _ _ _)
theorem c_S_send_92 : mCode j_S_send 92 = oRetI := rfl
theorem e_S_send_92 (x : Int32) : (WP Gm j_S_send 92 (ls) ([.inl x]) h Q) = (Q (.inl (some (.inl x))) h) := (WP_at c_S_send_92 _ _ _ _)
theorem c_S_pass_0 : mCode j_S_pass 0 = oIld 1 1 := rfl
theorem e_S_pass_0 (a0 : Option MV) (x : Int32) : (WP Gm j_S_pass 0 (a0 :: some (.inl x) :: ls) (st) h Q) = (WP Gm j_S_pass 1 (a0 :: some (.inl x) :: ls) (.inl x :: st) (h) Q) := (WP_at c_S_pass_0 _ _ _ _)
theorem c_S_pass_1 : mCode j_S_pass 1 = oI 1 2 := rfl
theorem e_S_pass_1  : (WP Gm j_S_pass 1 (ls) (st) h Q) = (WP Gm j_S_pass 2 (ls) (.inl 1 :: st) (h) Q) := (WP_at c_S_pass_1 _ _ _ _)
theorem c_S_pass_2 : mCode j_S_pass 2 = oI 200 5 := rfl
theorem e_S_pass_2  : (WP Gm j_S_pass 2 (ls) (st) h Q) = (WP Gm j_S_pass 5 (ls) (.inl 200 :: st) (h) Q) := (WP_at c_S_pass_2 _ _ _ _)
theorem c_S_pass_5 : mCode j_S_pass 5 = oCallS j_S_isWithin 3 (mL j_S_isWithin) 8 := rfl
theorem e_S_pass_5 (x0 : Int32) (x1 : Int32) (x2 : Int32) (hc : c8 st = true) : (WP Gm j_S_pass 5 (ls) (.inl x2 :: .inl x1 :: .inl x0 :: st) h Q) = (WP Gm j_S_isWithin 0 [some (.inl x0), some (.inl x1), some (.inl x2)] [] h (kC (fun v h2 => WP Gm j_S_pass 8 ls (v.toList ++ st) h2 Q) (fun E h2 => Q (.inr E) h2))) := (WP_at c_S_pass_5 _ _ _ _).trans (congrArg (fun o => ndX Gm (WP Gm) j_S_pass 5 o Q) (if_pos (by rw [show decide (catS st ≤ 8) = true from hc]; rfl)))
theorem c_S_pass_8 : mCode j_S_pass 8 = oIf (fun x => decide (¬ x = 0)) 21 11 := rfl
theorem e_S_pass_8 (x : Int32) : (WP Gm j_S_pass 8 (ls) (.inl x :: st) h Q) = (if ¬ x = 0 then WP Gm j_S_pass 21 (ls) (st) (h) Q else WP Gm j_S_pass 11 (ls) (st) (h) Q) := (WP_at c_S_pass_8 _ _ _ _).trans (nd_if rfl _ _ _ _)
theorem c_S_pass_11 : mCode j_S_pass 11 = oThr cM sM 0 kc_IllegalArgumentException := rfl
theorem e_S_pass_11 (hr : okR cM sM h 1 6 = true) : (WP Gm j_S_pass 11 (ls) ([]) h Q) = (Q (.inr 0) (hN h kc_IllegalArgumentException 0 6)) := (WP_at c_S_pass_11 _ _ _ _).trans (congrArg (fun o => ndX Gm (WP Gm) j_S_pass 11 o Q) (if_pos hr))
theorem c_S_pass_21 : mCode j_S_pass 21 = oAld 0 22 := rfl
theorem e_S_pass_21 (x : Option Nat) : (WP Gm j_S_pass 21 (some (.inr (.inl x)) :: ls) (st) h Q) = (WP Gm j_S_pass 22 (some (.inr (.inl x)) :: ls) (.inr (.inl x) :: st) (h) Q) := (WP_at c_S_pass_21 _ _ _ _)
theorem c_S_pass_22 : mCode j_S_pass 22 = oGetR kc_S 2 25 := rfl
theorem e_S_pass_22 (a : Nat) (hk : isK h a kc_S = true) : (WP Gm j_S_pass 22 (ls) (.inr (.inl (some a)) :: st) h Q) = (WP Gm j_S_pass 25 (ls) (.inr (.inl (gR h a 2)) :: st) (h) Q) := (WP_at c_S_pass_22 _ _ _ _).trans (congrArg (fun o => ndX Gm (WP Gm) j_S_pass 22 o Q) (if_pos hk))
theorem c_S_pass_25 : mCode j_S_pass 25 = oGetI kc_Traffic 2 28 := rfl
theorem e_S_pass_25 (a : Nat) (hk : isK h a kc_Traffic = true) : (WP Gm j_S_pass 25 (ls) (.inr (.inl (some a)) :: st) h Q) = (WP Gm j_S_pass 28 (ls) (.inl (gI h a 2) :: st) (h) Q) := (WP_at c_S_pass_25 _ _ _ _).trans (congrArg (fun o => ndX Gm (WP Gm) j_S_pass 25 o Q) (if_pos hk))
theorem c_S_pass_28 : mCode j_S_pass 28 = oIld 1 29 := rfl
theorem e_S_pass_28 (a0 : Option MV) (x : Int32) : (WP Gm j_S_pass 28 (a0 :: some (.inl x) :: ls) (st) h Q) = (WP Gm j_S_pass 29 (a0 :: some (.inl x) :: ls) (.inl x :: st) (h) Q) := (WP_at c_S_pass_28 _ _ _ _)
theorem c_S_pass_29 : mCode j_S_pass 29 = oII (fun x y => x + y) 30 := rfl
theorem e_S_pass_29 (x : Int32) (y : Int32) : (WP Gm j_S_pass 29 (ls) (.inl y :: .inl x :: st) h Q) = (WP Gm j_S_pass 30 (ls) (.inl (x + y) :: st) (h) Q) := (WP_at c_S_pass_29 _ _ _ _)
theorem c_S_pass_30 : mCode j_S_pass 30 = oI 2000 33 := rfl
theorem e_S_pass_30  : (WP Gm j_S_pass 30 (ls) (st) h Q) = (WP Gm j_S_pass 33 (ls) (.inl 2000 :: st) (h) Q) := (WP_at c_S_pass_30 _ _ _ _)
theorem c_S_pass_33 : mCode j_S_pass 33 = oIC (fun x y => decide (x ≤ y)) 46 36 := rfl
theorem e_S_pass_33 (x y : Int32) : (WP Gm j_S_pass 33 (ls) (.inl y :: .inl x :: st) h Q) = (if x ≤ y then WP Gm j_S_pass 46 (ls) (st) (h) Q else WP Gm j_S_pass 36 (ls) (st) (h) Q) := (WP_at c_S_pass_33 _ _ _ _).trans (nd_ic rfl _ _ _ _)
theorem c_S_pass_36 : mCode j_S_pass 36 = oThr cM sM 1 kc_IllegalStateException := rfl
theorem e_S_pass_36 (hr : okR cM sM h 1 6 = true) : (WP Gm j_S_pass 36 (ls) ([]) h Q) = (Q (.inr 1) (hN h kc_IllegalStateException 0 6)) := (WP_at c_S_pass_36 _ _ _ _).trans (congrArg (fun o => ndX Gm (WP Gm) j_S_pass 36 o Q) (if_pos hr))
theorem c_S_pass_46 : mCode j_S_pass 46 = oI 0 47 := rfl
theorem e_S_pass_46  : (WP Gm j_S_pass 46 (ls) (st) h Q) = (WP Gm j_S_pass 47 (ls) (.inl 0 :: st) (h) Q) := (WP_at c_S_pass_46 _ _ _ _)
theorem c_S_pass_47 : mCode j_S_pass 47 = oIst 2 48 := rfl
theorem e_S_pass_47 (x : Int32) : (WP Gm j_S_pass 47 (ls) (.inl x :: st) h Q) = (WP Gm j_S_pass 48 (lSet1 ls 2 (some (.inl x))) (st) (h) Q) := (WP_at c_S_pass_47 _ _ _ _)
theorem c_S_pass_48 : mCode j_S_pass 48 = oIld 2 49 := rfl
theorem e_S_pass_48 (a0 a1 : Option MV) (x : Int32) : (WP Gm j_S_pass 48 (a0 :: a1 :: some (.inl x) :: ls) (st) h Q) = (WP Gm j_S_pass 49 (a0 :: a1 :: some (.inl x) :: ls) (.inl x :: st) (h) Q) := (WP_at c_S_pass_48 _ _ _ _)
theorem c_S_pass_49 : mCode j_S_pass 49 = oIld 1 50 := rfl
theorem e_S_pass_49 (a0 : Option MV) (x : Int32) : (WP Gm j_S_pass 49 (a0 :: some (.inl x) :: ls) (st) h Q) = (WP Gm j_S_pass 50 (a0 :: some (.inl x) :: ls) (.inl x :: st) (h) Q) := (WP_at c_S_pass_49 _ _ _ _)
theorem c_S_pass_50 : mCode j_S_pass 50 = oIC (fun x y => decide (y ≤ x)) 66 53 := rfl
theorem e_S_pass_50 (x y : Int32) : (WP Gm j_S_pass 50 (ls) (.inl y :: .inl x :: st) h Q) = (if y ≤ x then WP Gm j_S_pass 66 (ls) (st) (h) Q else WP Gm j_S_pass 53 (ls) (st) (h) Q) := (WP_at c_S_pass_50 _ _ _ _).trans (nd_ic rfl _ _ _ _)
theorem c_S_pass_53 : mCode j_S_pass 53 = oAld 0 54 := rfl
theorem e_S_pass_53 (x : Option Nat) : (WP Gm j_S_pass 53 (some (.inr (.inl x)) :: ls) (st) h Q) = (WP Gm j_S_pass 54 (some (.inr (.inl x)) :: ls) (.inr (.inl x) :: st) (h) Q) := (WP_at c_S_pass_53 _ _ _ _)
theorem c_S_pass_54 : mCode j_S_pass 54 = oGetR kc_S 2 57 := rfl
theorem e_S_pass_54 (a : Nat) (hk : isK h a kc_S = true) : (WP Gm j_S_pass 54 (ls) (.inr (.inl (some a)) :: st) h Q) = (WP Gm j_S_pass 57 (ls) (.inr (.inl (gR h a 2)) :: st) (h) Q) := (WP_at c_S_pass_54 _ _ _ _).trans (congrArg (fun o => ndX Gm (WP Gm) j_S_pass 54 o Q) (if_pos hk))
theorem c_S_pass_57 : mCode j_S_pass 57 = oCallV kc_Traffic j_Traffic_goBy 0 (mL j_Traffic_goBy) 60 := rfl
theorem e_S_pass_57 (a : Nat) (hk : isK h a kc_Traffic = true) (hc : c8 st = true) : (WP Gm j_S_pass 57 (ls) (.inr (.inl (some a)) :: st) h Q) = (WP Gm j_Traffic_goBy 0 [some (.inr (.inl (some a))), none, none, none] [] h (kC (fun v h2 => WP Gm j_S_pass 60 ls (v.toList ++ st) h2 Q) (fun E h2 => Q (.inr E) h2))) := (WP_at c_S_pass_57 _ _ _ _).trans (congrArg (fun o => ndX Gm (WP Gm) j_S_pass 57 o Q) (if_pos (by rw [hk, show decide (catS st ≤ 8) = true from hc]; rfl)))
theorem c_S_pass_60 : mCode j_S_pass 60 = oInc 2 1 63 := rfl
theorem e_S_pass_60 (a0 a1 : Option MV) (x : Int32) : (WP Gm j_S_pass 60 (a0 :: a1 :: some (.inl x) :: ls) (st) h Q) = (WP Gm j_S_pass 63 (lSet1 (a0 :: a1 :: some (.inl x) :: ls) 2 (some (.inl (x + 1)))) (st) (h) Q) := (WP_at c_S_pass_60 _ _ _ _)
theorem c_S_pass_63 : mCode j_S_pass 63 = oGo 48 := rfl
theorem e_S_pass_63  : (WP Gm j_S_pass 63 (ls) (st) h Q) = (WP Gm j_S_pass 48 (ls) (st) (h) Q) := (WP_at c_S_pass_63 _ _ _ _)
theorem c_S_pass_66 : mCode j_S_pass 66 = oAld 0 67 := rfl
theorem e_S_pass_66 (x : Option Nat) : (WP Gm j_S_pass 66 (some (.inr (.inl x)) :: ls) (st) h Q) = (WP Gm j_S_pass 67 (some (.inr (.inl x)) :: ls) (.inr (.inl x) :: st) (h) Q) := (WP_at c_S_pass_66 _ _ _ _)
theorem c_S_pass_67 : mCode j_S_pass 67 = oGetR kc_S 2 70 := rfl
theorem e_S_pass_67 (a : Nat) (hk : isK h a kc_S = true) : (WP Gm j_S_pass 67 (ls) (.inr (.inl (some a)) :: st) h Q) = (WP Gm j_S_pass 70 (ls) (.inr (.inl (gR h a 2)) :: st) (h) Q) := (WP_at c_S_pass_67 _ _ _ _).trans (congrArg (fun o => ndX Gm (WP Gm) j_S_pass 67 o Q) (if_pos hk))
theorem c_S_pass_70 : mCode j_S_pass 70 = oGetI kc_Traffic 2 73 := rfl
theorem e_S_pass_70 (a : Nat) (hk : isK h a kc_Traffic = true) : (WP Gm j_S_pass 70 (ls) (.inr (.inl (some a)) :: st) h Q) = (WP Gm j_S_pass 73 (ls) (.inl (gI h a 2) :: st) (h) Q) := (WP_at c_S_pass_70 _ _ _ _).trans (congrArg (fun o => ndX Gm (WP Gm) j_S_pass 70 o Q) (if_pos hk))
theorem c_S_pass_73 : mCode j_S_pass 73 = oRetI := rfl
theorem e_S_pass_73 (x : Int32) : (WP Gm j_S_pass 73 (ls) ([.inl x]) h Q) = (Q (.inl (some (.inl x))) h) := (WP_at c_S_pass_73 _ _ _ _)
theorem c_S_exchange_0 : mCode j_S_exchange 0 = oIld 1 1 := rfl
theorem e_S_exchange_0 (a0 : Option MV) (x : Int32) : (WP Gm j_S_exchange 0 (a0 :: some (.inl x) :: ls) (st) h Q) = (WP Gm j_S_exchange 1 (a0 :: some (.inl x) :: ls) (.inl x :: st) (h) Q) := (WP_at c_S_exchange_0 _ _ _ _)
theorem c_S_exchange_1 : mCode j_S_exchange 1 = oI 1 2 := rfl
theorem e_S_exchange_1  : (WP Gm j_S_exchange 1 (ls) (st) h Q) = (WP Gm j_S_exchange 2 (ls) (.inl 1 :: st) (h) Q) := (WP_at c_S_exchange_1 _ _ _ _)
theorem c_S_exchange_2 : mCode j_S_exchange 2 = oI 10 4 := rfl
theorem e_S_exchange_2  : (WP Gm j_S_exchange 2 (ls) (st) h Q) = (WP Gm j_S_exchange 4 (ls) (.inl 10 :: st) (h) Q) := (WP_at c_S_exchange_2 _ _ _ _)
theorem c_S_exchange_4 : mCode j_S_exchange 4 = oCallS j_S_isWithin 3 (mL j_S_isWithin) 7 := rfl
theorem e_S_exchange_4 (x0 : Int32) (x1 : Int32) (x2 : Int32) (hc : c8 st = true) : (WP Gm j_S_exchange 4 (ls) (.inl x2 :: .inl x1 :: .inl x0 :: st) h Q) = (WP Gm j_S_isWithin 0 [some (.inl x0), some (.inl x1), some (.inl x2)] [] h (kC (fun v h2 => WP Gm j_S_exchange 7 ls (v.toList ++ st) h2 Q) (fun E h2 => Q (.inr E) h2))) := (WP_at c_S_exchange_4 _ _ _ _).trans (congrArg (fun o => ndX Gm (WP Gm) j_S_exchange 4 o Q) (if_pos (by rw [show decide (catS st ≤ 8) = true from hc]; rfl)))
theorem c_S_exchange_7 : mCode j_S_exchange 7 = oIf (fun x => decide (¬ x = 0)) 20 10 := rfl
theorem e_S_exchange_7 (x : Int32) : (WP Gm j_S_exchange 7 (ls) (.inl x :: st) h Q) = (if ¬ x = 0 then WP Gm j_S_exchange 20 (ls) (st) (h) Q else WP Gm j_S_exchange 10 (ls) (st) (h) Q) := (WP_at c_S_exchange_7 _ _ _ _).trans (nd_if rfl _ _ _ _)
theorem c_S_exchange_10 : mCode j_S_exchange 10 = oThr cM sM 0 kc_IllegalArgumentException := rfl
theorem e_S_exchange_10 (hr : okR cM sM h 1 6 = true) : (WP Gm j_S_exchange 10 (ls) ([]) h Q) = (Q (.inr 0) (hN h kc_IllegalArgumentException 0 6)) := (WP_at c_S_exchange_10 _ _ _ _).trans (congrArg (fun o => ndX Gm (WP Gm) j_S_exchange 10 o Q) (if_pos hr))
theorem c_S_exchange_20 : mCode j_S_exchange 20 = oI 0 21 := rfl
theorem e_S_exchange_20  : (WP Gm j_S_exchange 20 (ls) (st) h Q) = (WP Gm j_S_exchange 21 (ls) (.inl 0 :: st) (h) Q) := (WP_at c_S_exchange_20 _ _ _ _)
theorem c_S_exchange_21 : mCode j_S_exchange 21 = oIst 2 22 := rfl
theorem e_S_exchange_21 (x : Int32) : (WP Gm j_S_exchange 21 (ls) (.inl x :: st) h Q) = (WP Gm j_S_exchange 22 (lSet1 ls 2 (some (.inl x))) (st) (h) Q) := (WP_at c_S_exchange_21 _ _ _ _)
theorem c_S_exchange_22 : mCode j_S_exchange 22 = oIld 2 23 := rfl
theorem e_S_exchange_22 (a0 a1 : Option MV) (x : Int32) : (WP Gm j_S_exchange 22 (a0 :: a1 :: some (.inl x) :: ls) (st) h Q) = (WP Gm j_S_exchange 23 (a0 :: a1 :: some (.inl x) :: ls) (.inl x :: st) (h) Q) := (WP_at c_S_exchange_22 _ _ _ _)
theorem c_S_exchange_23 : mCode j_S_exchange 23 = oIld 1 24 := rfl
theorem e_S_exchange_23 (a0 : Option MV) (x : Int32) : (WP Gm j_S_exchange 23 (a0 :: some (.inl x) :: ls) (st) h Q) = (WP Gm j_S_exchange 24 (a0 :: some (.inl x) :: ls) (.inl x :: st) (h) Q) := (WP_at c_S_exchange_23 _ _ _ _)
theorem c_S_exchange_24 : mCode j_S_exchange 24 = oIC (fun x y => decide (y ≤ x)) 40 27 := rfl
theorem e_S_exchange_24 (x y : Int32) : (WP Gm j_S_exchange 24 (ls) (.inl y :: .inl x :: st) h Q) = (if y ≤ x then WP Gm j_S_exchange 40 (ls) (st) (h) Q else WP Gm j_S_exchange 27 (ls) (st) (h) Q) := (WP_at c_S_exchange_24 _ _ _ _).trans (nd_ic rfl _ _ _ _)
theorem c_S_exchange_27 : mCode j_S_exchange 27 = oAld 0 28 := rfl
theorem e_S_exchange_27 (x : Option Nat) : (WP Gm j_S_exchange 27 (some (.inr (.inl x)) :: ls) (st) h Q) = (WP Gm j_S_exchange 28 (some (.inr (.inl x)) :: ls) (.inr (.inl x) :: st) (h) Q) := (WP_at c_S_exchange_27 _ _ _ _)
theorem c_S_exchange_28 : mCode j_S_exchange 28 = oGetR kc_S 1 31 := rfl
theorem e_S_exchange_28 (a : Nat) (hk : isK h a kc_S = true) : (WP Gm j_S_exchange 28 (ls) (.inr (.inl (some a)) :: st) h Q) = (WP Gm j_S_exchange 31 (ls) (.inr (.inl (gR h a 1)) :: st) (h) Q) := (WP_at c_S_exchange_28 _ _ _ _).trans (congrArg (fun o => ndX Gm (WP Gm) j_S_exchange 28 o Q) (if_pos hk))
theorem c_S_exchange_31 : mCode j_S_exchange 31 = oCallV kc_Routes j_Routes_renew 0 (mL j_Routes_renew) 34 := rfl
theorem e_S_exchange_31 (a : Nat) (hk : isK h a kc_Routes = true) (hc : c8 st = true) : (WP Gm j_S_exchange 31 (ls) (.inr (.inl (some a)) :: st) h Q) = (WP Gm j_Routes_renew 0 [some (.inr (.inl (some a))), none, none] [] h (kC (fun v h2 => WP Gm j_S_exchange 34 ls (v.toList ++ st) h2 Q) (fun E h2 => Q (.inr E) h2))) := (WP_at c_S_exchange_31 _ _ _ _).trans (congrArg (fun o => ndX Gm (WP Gm) j_S_exchange 31 o Q) (if_pos (by rw [hk, show decide (catS st ≤ 8) = true from hc]; rfl)))
theorem c_S_exchange_34 : mCode j_S_exchange 34 = oInc 2 1 37 := rfl
theorem e_S_exchange_34 (a0 a1 : Option MV) (x : Int32) : (WP Gm j_S_exchange 34 (a0 :: a1 :: some (.inl x) :: ls) (st) h Q) = (WP Gm j_S_exchange 37 (lSet1 (a0 :: a1 :: some (.inl x) :: ls) 2 (some (.inl (x + 1)))) (st) (h) Q) := (WP_at c_S_exchange_34 _ _ _ _)
theorem c_S_exchange_37 : mCode j_S_exchange 37 = oGo 22 := rfl
theorem e_S_exchange_37  : (WP Gm j_S_exchange 37 (ls) (st) h Q) = (WP Gm j_S_exchange 22 (ls) (st) (h) Q) := (WP_at c_S_exchange_37 _ _ _ _)
theorem c_S_exchange_40 : mCode j_S_exchange 40 = oAld 0 41 := rfl
theorem e_S_exchange_40 (x : Option Nat) : (WP Gm j_S_exchange 40 (some (.inr (.inl x)) :: ls) (st) h Q) = (WP Gm j_S_exchange 41 (some (.inr (.inl x)) :: ls) (.inr (.inl x) :: st) (h) Q) := (WP_at c_S_exchange_40 _ _ _ _)
theorem c_S_exchange_41 : mCode j_S_exchange 41 = oGetR kc_S 1 44 := rfl
theorem e_S_exchange_41 (a : Nat) (hk : isK h a kc_S = true) : (WP Gm j_S_exchange 41 (ls) (.inr (.inl (some a)) :: st) h Q) = (WP Gm j_S_exchange 44 (ls) (.inr (.inl (gR h a 1)) :: st) (h) Q) := (WP_at c_S_exchange_41 _ _ _ _).trans (congrArg (fun o => ndX Gm (WP Gm) j_S_exchange 41 o Q) (if_pos hk))
theorem c_S_exchange_44 : mCode j_S_exchange 44 = oCallV kc_Routes j_Routes_pairsWithRoute 0 (mL j_Routes_pairsWithRoute) 47 := rfl
theorem e_S_exchange_44 (a : Nat) (hk : isK h a kc_Routes = true) (hc : c8 st = true) : (WP Gm j_S_exchange 44 (ls) (.inr (.inl (some a)) :: st) h Q) = (WP Gm j_Routes_pairsWithRoute 0 [some (.inr (.inl (some a))), none, none, none] [] h (kC (fun v h2 => WP Gm j_S_exchange 47 ls (v.toList ++ st) h2 Q) (fun E h2 => Q (.inr E) h2))) := (WP_at c_S_exchange_44 _ _ _ _).trans (congrArg (fun o => ndX Gm (WP Gm) j_S_exchange 44 o Q) (if_pos (by rw [hk, show decide (catS st ≤ 8) = true from hc]; rfl)))
theorem c_S_exchange_47 : mCode j_S_exchange 47 = oRetI := rfl
theorem e_S_exchange_47 (x : Int32) : (WP Gm j_S_exchange 47 (ls) ([.inl x]) h Q) = (Q (.inl (some (.inl x))) h) := (WP_at c_S_exchange_47 _ _ _ _)
theorem c_S_bid_0 : mCode j_S_bid 0 = oIld 1 1 := rfl
theorem e_S_bid_0 (a0 : Option MV) (x : Int32) : (WP Gm j_S_bid 0 (a0 :: some (.inl x) :: ls) (st) h Q) = (WP Gm j_S_bid 1 (a0 :: some (.inl x) :: ls) (.inl x :: st) (h) Q) := (WP_at c_S_bid_0 _ _ _ _)
theorem c_S_bid_1 : mCode j_S_bid 1 = oI 0 2 := rfl
theorem e_S_bid_1  : (WP Gm j_S_bid 1 (ls) (st) h Q) = (WP Gm j_S_bid 2 (ls) (.inl 0 :: st) (h) Q) := (WP_at c_S_bid_1 _ _ _ _)
theorem c_S_bid_2 : mCode j_S_bid 2 = oI 4 3 := rfl
theorem e_S_bid_2  : (WP Gm j_S_bid 2 (ls) (st) h Q) = (WP Gm j_S_bid 3 (ls) (.inl 4 :: st) (h) Q) := (WP_at c_S_bid_2 _ _ _ _)
theorem c_S_bid_3 : mCode j_S_bid 3 = oCallS j_S_isWithin 3 (mL j_S_isWithin) 6 := rfl
theorem e_S_bid_3 (x0 : Int32) (x1 : Int32) (x2 : Int32) (hc : c8 st = true) : (WP Gm j_S_bid 3 (ls) (.inl x2 :: .inl x1 :: .inl x0 :: st) h Q) = (WP Gm j_S_isWithin 0 [some (.inl x0), some (.inl x1), some (.inl x2)] [] h (kC (fun v h2 => WP Gm j_S_bid 6 ls (v.toList ++ st) h2 Q) (fun E h2 => Q (.inr E) h2))) := (WP_at c_S_bid_3 _ _ _ _).trans (congrArg (fun o => ndX Gm (WP Gm) j_S_bid 3 o Q) (if_pos (by rw [show decide (catS st ≤ 8) = true from hc]; rfl)))
theorem c_S_bid_6 : mCode j_S_bid 6 = oIf (fun x => decide (x = 0)) 30 9 := rfl
theorem e_S_bid_6 (x : Int32) : (WP Gm j_S_bid 6 (ls) (.inl x :: st) h Q) = (if x = 0 then WP Gm j_S_bid 30 (ls) (st) (h) Q else WP Gm j_S_bid 9 (ls) (st) (h) Q) := (WP_at c_S_bid_6 _ _ _ _).trans (nd_if rfl _ _ _ _)
theorem c_S_bid_9 : mCode j_S_bid 9 = oIld 2 10 := rfl
theorem e_S_bid_9 (a0 a1 : Option MV) (x : Int32) : (WP Gm j_S_bid 9 (a0 :: a1 :: some (.inl x) :: ls) (st) h Q) = (WP Gm j_S_bid 10 (a0 :: a1 :: some (.inl x) :: ls) (.inl x :: st) (h) Q) := (WP_at c_S_bid_9 _ _ _ _)
theorem c_S_bid_10 : mCode j_S_bid 10 = oI 1 11 := rfl
theorem e_S_bid_10  : (WP Gm j_S_bid 10 (ls) (st) h Q) = (WP Gm j_S_bid 11 (ls) (.inl 1 :: st) (h) Q) := (WP_at c_S_bid_10 _ _ _ _)
theorem c_S_bid_11 : mCode j_S_bid 11 = oI 63 13 := rfl
theorem e_S_bid_11  : (WP Gm j_S_bid 11 (ls) (st) h Q) = (WP Gm j_S_bid 13 (ls) (.inl 63 :: st) (h) Q) := (WP_at c_S_bid_11 _ _ _ _)
theorem c_S_bid_13 : mCode j_S_bid 13 = oCallS j_S_isWithin 3 (mL j_S_isWithin) 16 := rfl
theorem e_S_bid_13 (x0 : Int32) (x1 : Int32) (x2 : Int32) (hc : c8 st = true) : (WP Gm j_S_bid 13 (ls) (.inl x2 :: .inl x1 :: .inl x0 :: st) h Q) = (WP Gm j_S_isWithin 0 [some (.inl x0), some (.inl x1), some (.inl x2)] [] h (kC (fun v h2 => WP Gm j_S_bid 16 ls (v.toList ++ st) h2 Q) (fun E h2 => Q (.inr E) h2))) := (WP_at c_S_bid_13 _ _ _ _).trans (congrArg (fun o => ndX Gm (WP Gm) j_S_bid 13 o Q) (if_pos (by rw [show decide (catS st ≤ 8) = true from hc]; rfl)))
theorem c_S_bid_16 : mCode j_S_bid 16 = oIf (fun x => decide (x = 0)) 30 19 := rfl
theorem e_S_bid_16 (x : Int32) : (WP Gm j_S_bid 16 (ls) (.inl x :: st) h Q) = (if x = 0 then WP Gm j_S_bid 30 (ls) (st) (h) Q else WP Gm j_S_bid 19 (ls) (st) (h) Q) := (WP_at c_S_bid_16 _ _ _ _).trans (nd_if rfl _ _ _ _)
theorem c_S_bid_19 : mCode j_S_bid 19 = oIld 3 20 := rfl
theorem e_S_bid_19 (a0 a1 a2 : Option MV) (x : Int32) : (WP Gm j_S_bid 19 (a0 :: a1 :: a2 :: some (.inl x) :: ls) (st) h Q) = (WP Gm j_S_bid 20 (a0 :: a1 :: a2 :: some (.inl x) :: ls) (.inl x :: st) (h) Q) := (WP_at c_S_bid_19 _ _ _ _)
theorem c_S_bid_20 : mCode j_S_bid 20 = oI 1 21 := rfl
theorem e_S_bid_20  : (WP Gm j_S_bid 20 (ls) (st) h Q) = (WP Gm j_S_bid 21 (ls) (.inl 1 :: st) (h) Q) := (WP_at c_S_bid_20 _ _ _ _)
theorem c_S_bid_21 : mCode j_S_bid 21 = oI 999 24 := rfl
theorem e_S_bid_21  : (WP Gm j_S_bid 21 (ls) (st) h Q) = (WP Gm j_S_bid 24 (ls) (.inl 999 :: st) (h) Q) := (WP_at c_S_bid_21 _ _ _ _)
theorem c_S_bid_24 : mCode j_S_bid 24 = oCallS j_S_isWithin 3 (mL j_S_isWithin) 27 := rfl
theorem e_S_bid_24 (x0 : Int32) (x1 : Int32) (x2 : Int32) (hc : c8 st = true) : (WP Gm j_S_bid 24 (ls) (.inl x2 :: .inl x1 :: .inl x0 :: st) h Q) = (WP Gm j_S_isWithin 0 [some (.inl x0), some (.inl x1), some (.inl x2)] [] h (kC (fun v h2 => WP Gm j_S_bid 27 ls (v.toList ++ st) h2 Q) (fun E h2 => Q (.inr E) h2))) := (WP_at c_S_bid_24 _ _ _ _).trans (congrArg (fun o => ndX Gm (WP Gm) j_S_bid 24 o Q) (if_pos (by rw [show decide (catS st ≤ 8) = true from hc]; rfl)))
theorem c_S_bid_27 : mCode j_S_bid 27 = oIf (fun x => decide (¬ x = 0)) 40 30 := rfl
theorem e_S_bid_27 (x : Int32) : (WP Gm j_S_bid 27 (ls) (.inl x :: st) h Q) = (if ¬ x = 0 then WP Gm j_S_bid 40 (ls) (st) (h) Q else WP Gm j_S_bid 30 (ls) (st) (h) Q) := (WP_at c_S_bid_27 _ _ _ _).trans (nd_if rfl _ _ _ _)
theorem c_S_bid_30 : mCode j_S_bid 30 = oThr cM sM 0 kc_IllegalArgumentException := rfl
theorem e_S_bid_30 (hr : okR cM sM h 1 6 = true) : (WP Gm j_S_bid 30 (ls) ([]) h Q) = (Q (.inr 0) (hN h kc_IllegalArgumentException 0 6)) := (WP_at c_S_bid_30 _ _ _ _).trans (congrArg (fun o => ndX Gm (WP Gm) j_S_bid 30 o Q) (if_pos hr))
theorem c_S_bid_40 : mCode j_S_bid 40 = oAld 0 41 := rfl
theorem e_S_bid_40 (x : Option Nat) : (WP Gm j_S_bid 40 (some (.inr (.inl x)) :: ls) (st) h Q) = (WP Gm j_S_bid 41 (some (.inr (.inl x)) :: ls) (.inr (.inl x) :: st) (h) Q) := (WP_at c_S_bid_40 _ _ _ _)
theorem c_S_bid_41 : mCode j_S_bid 41 = oGetR kc_S 3 44 := rfl
theorem e_S_bid_41 (a : Nat) (hk : isK h a kc_S = true) : (WP Gm j_S_bid 41 (ls) (.inr (.inl (some a)) :: st) h Q) = (WP Gm j_S_bid 44 (ls) (.inr (.inl (gR h a 3)) :: st) (h) Q) := (WP_at c_S_bid_41 _ _ _ _).trans (congrArg (fun o => ndX Gm (WP Gm) j_S_bid 41 o Q) (if_pos hk))
theorem c_S_bid_44 : mCode j_S_bid 44 = oGetI kc_Market 5 47 := rfl
theorem e_S_bid_44 (a : Nat) (hk : isK h a kc_Market = true) : (WP Gm j_S_bid 44 (ls) (.inr (.inl (some a)) :: st) h Q) = (WP Gm j_S_bid 47 (ls) (.inl (gI h a 5) :: st) (h) Q) := (WP_at c_S_bid_44 _ _ _ _).trans (congrArg (fun o => ndX Gm (WP Gm) j_S_bid 44 o Q) (if_pos hk))
theorem c_S_bid_47 : mCode j_S_bid 47 = oI 10 49 := rfl
theorem e_S_bid_47  : (WP Gm j_S_bid 47 (ls) (st) h Q) = (WP Gm j_S_bid 49 (ls) (.inl 10 :: st) (h) Q) := (WP_at c_S_bid_47 _ _ _ _)
theorem c_S_bid_49 : mCode j_S_bid 49 = oIC (fun x y => decide (x < y)) 62 52 := rfl
theorem e_S_bid_49 (x y : Int32) : (WP Gm j_S_bid 49 (ls) (.inl y :: .inl x :: st) h Q) = (if x < y then WP Gm j_S_bid 62 (ls) (st) (h) Q else WP Gm j_S_bid 52 (ls) (st) (h) Q) := (WP_at c_S_bid_49 _ _ _ _).trans (nd_ic rfl _ _ _ _)
theorem c_S_bid_52 : mCode j_S_bid 52 = oThr cM sM 1 kc_IllegalStateException := rfl
theorem e_S_bid_52 (hr : okR cM sM h 1 6 = true) : (WP Gm j_S_bid 52 (ls) ([]) h Q) = (Q (.inr 1) (hN h kc_IllegalStateException 0 6)) := (WP_at c_S_bid_52 _ _ _ _).trans (congrArg (fun o => ndX Gm (WP Gm) j_S_bid 52 o Q) (if_pos hr))
theorem c_S_bid_62 : mCode j_S_bid 62 = oAld 0 63 := rfl
theorem e_S_bid_62 (x : Option Nat) : (WP Gm j_S_bid 62 (some (.inr (.inl x)) :: ls) (st) h Q) = (WP Gm j_S_bid 63 (some (.inr (.inl x)) :: ls) (.inr (.inl x) :: st) (h) Q) := (WP_at c_S_bid_62 _ _ _ _)
theorem c_S_bid_63 : mCode j_S_bid 63 = oGetR kc_S 3 66 := rfl
theorem e_S_bid_63 (a : Nat) (hk : isK h a kc_S = true) : (WP Gm j_S_bid 63 (ls) (.inr (.inl (some a)) :: st) h Q) = (WP Gm j_S_bid 66 (ls) (.inr (.inl (gR h a 3)) :: st) (h) Q) := (WP_at c_S_bid_63 _ _ _ _).trans (congrArg (fun o => ndX Gm (WP Gm) j_S_bid 63 o Q) (if_pos hk))
theorem c_S_bid_66 : mCode j_S_bid 66 = oIld 1 67 := rfl
theorem e_S_bid_66 (a0 : Option MV) (x : Int32) : (WP Gm j_S_bid 66 (a0 :: some (.inl x) :: ls) (st) h Q) = (WP Gm j_S_bid 67 (a0 :: some (.inl x) :: ls) (.inl x :: st) (h) Q) := (WP_at c_S_bid_66 _ _ _ _)
theorem c_S_bid_67 : mCode j_S_bid 67 = oIld 2 68 := rfl
theorem e_S_bid_67 (a0 a1 : Option MV) (x : Int32) : (WP Gm j_S_bid 67 (a0 :: a1 :: some (.inl x) :: ls) (st) h Q) = (WP Gm j_S_bid 68 (a0 :: a1 :: some (.inl x) :: ls) (.inl x :: st) (h) Q) := (WP_at c_S_bid_67 _ _ _ _)
theorem c_S_bid_68 : mCode j_S_bid 68 = oIld 3 69 := rfl
theorem e_S_bid_68 (a0 a1 a2 : Option MV) (x : Int32) : (WP Gm j_S_bid 68 (a0 :: a1 :: a2 :: some (.inl x) :: ls) (st) h Q) = (WP Gm j_S_bid 69 (a0 :: a1 :: a2 :: some (.inl x) :: ls) (.inl x :: st) (h) Q) := (WP_at c_S_bid_68 _ _ _ _)
theorem c_S_bid_69 : mCode j_S_bid 69 = oCallV kc_Market j_Market_add 3 (mL j_Market_add) 72 := rfl
theorem e_S_bid_69 (a : Nat) (x0 : Int32) (x1 : Int32) (x2 : Int32) (hk : isK h a kc_Market = true) (hc : c8 st = true) : (WP Gm j_S_bid 69 (ls) (.inl x2 :: .inl x1 :: .inl x0 :: .inr (.inl (some a)) :: st) h Q) = (WP Gm j_Market_add 0 [some (.inr (.inl (some a))), some (.inl x0), some (.inl x1), some (.inl x2), none, none, none, none, none] [] h (kC (fun v h2 => WP Gm j_S_bid 72 ls (v.toList ++ st) h2 Q) (fun E h2 => Q (.inr E) h2))) := (WP_at c_S_bid_69 _ _ _ _).trans (congrArg (fun o => ndX Gm (WP Gm) j_S_bid 69 o Q) (if_pos (by rw [hk, show decide (catS st ≤ 8) = true from hc]; rfl)))
theorem c_S_bid_72 : mCode j_S_bid 72 = oRetI := rfl
theorem e_S_bid_72 (x : Int32) : (WP Gm j_S_bid 72 (ls) ([.inl x]) h Q) = (Q (.inl (some (.inl x))) h) := (WP_at c_S_bid_72 _ _ _ _)
theorem c_S_sell_0 : mCode j_S_sell 0 = oAld 0 1 := rfl
theorem e_S_sell_0 (x : Option Nat) : (WP Gm j_S_sell 0 (some (.inr (.inl x)) :: ls) (st) h Q) = (WP Gm j_S_sell 1 (some (.inr (.inl x)) :: ls) (.inr (.inl x) :: st) (h) Q) := (WP_at c_S_sell_0 _ _ _ _)
theorem c_S_sell_1 : mCode j_S_sell 1 = oGetR kc_S 3 4 := rfl
theorem e_S_sell_1 (a : Nat) (hk : isK h a kc_S = true) : (WP Gm j_S_sell 1 (ls) (.inr (.inl (some a)) :: st) h Q) = (WP Gm j_S_sell 4 (ls) (.inr (.inl (gR h a 3)) :: st) (h) Q) := (WP_at c_S_sell_1 _ _ _ _).trans (congrArg (fun o => ndX Gm (WP Gm) j_S_sell 1 o Q) (if_pos hk))
theorem c_S_sell_4 : mCode j_S_sell 4 = oCallV kc_Market j_Market_sellAll 0 (mL j_Market_sellAll) 7 := rfl
theorem e_S_sell_4 (a : Nat) (hk : isK h a kc_Market = true) (hc : c8 st = true) : (WP Gm j_S_sell 4 (ls) (.inr (.inl (some a)) :: st) h Q) = (WP Gm j_Market_sellAll 0 [some (.inr (.inl (some a))), none, none] [] h (kC (fun v h2 => WP Gm j_S_sell 7 ls (v.toList ++ st) h2 Q) (fun E h2 => Q (.inr E) h2))) := (WP_at c_S_sell_4 _ _ _ _).trans (congrArg (fun o => ndX Gm (WP Gm) j_S_sell 4 o Q) (if_pos (by rw [hk, show decide (catS st ≤ 8) = true from hc]; rfl)))
theorem c_S_sell_7 : mCode j_S_sell 7 = oRetI := rfl
theorem e_S_sell_7 (x : Int32) : (WP Gm j_S_sell 7 (ls) ([.inl x]) h Q) = (Q (.inl (some (.inl x))) h) := (WP_at c_S_sell_7 _ _ _ _)
theorem c_S_knock_0 : mCode j_S_knock 0 = oAld 0 1 := rfl
theorem e_S_knock_0 (x : Option Nat) : (WP Gm j_S_knock 0 (some (.inr (.inl x)) :: ls) (st) h Q) = (WP Gm j_S_knock 1 (some (.inr (.inl x)) :: ls) (.inr (.inl x) :: st) (h) Q) := (WP_at c_S_knock_0 _ _ _ _)
theorem c_S_knock_1 : mCode j_S_knock 1 = oDup 2 := rfl
theorem e_S_knock_1 (x : Option Nat) : (WP Gm j_S_knock 1 (ls) (.inr (.inl x) :: st) h Q) = (WP Gm j_S_knock 2 (ls) (.inr (.inl x) :: .inr (.inl x) :: st) (h) Q) := (WP_at c_S_knock_1 _ _ _ _)
theorem c_S_knock_2 : mCode j_S_knock 2 = oGetI kc_S 4 5 := rfl
theorem e_S_knock_2 (a : Nat) (hk : isK h a kc_S = true) : (WP Gm j_S_knock 2 (ls) (.inr (.inl (some a)) :: st) h Q) = (WP Gm j_S_knock 5 (ls) (.inl (gI h a 4) :: st) (h) Q) := (WP_at c_S_knock_2 _ _ _ _).trans (congrArg (fun o => ndX Gm (WP Gm) j_S_knock 2 o Q) (if_pos hk))
theorem c_S_knock_5 : mCode j_S_knock 5 = oI 1 6 := rfl
theorem e_S_knock_5  : (WP Gm j_S_knock 5 (ls) (st) h Q) = (WP Gm j_S_knock 6 (ls) (.inl 1 :: st) (h) Q) := (WP_at c_S_knock_5 _ _ _ _)
theorem c_S_knock_6 : mCode j_S_knock 6 = oII (fun x y => x + y) 7 := rfl
theorem e_S_knock_6 (x : Int32) (y : Int32) : (WP Gm j_S_knock 6 (ls) (.inl y :: .inl x :: st) h Q) = (WP Gm j_S_knock 7 (ls) (.inl (x + y) :: st) (h) Q) := (WP_at c_S_knock_6 _ _ _ _)
theorem c_S_knock_7 : mCode j_S_knock 7 = oPutI kc_S 4 10 := rfl
theorem e_S_knock_7 (a : Nat) (x : Int32) (hk : isK h a kc_S = true) : (WP Gm j_S_knock 7 (ls) (.inl x :: .inr (.inl (some a)) :: st) h Q) = (WP Gm j_S_knock 10 (ls) (st) (sI h a 4 x) Q) := (WP_at c_S_knock_7 _ _ _ _).trans (congrArg (fun o => ndX Gm (WP Gm) j_S_knock 7 o Q) (if_pos hk))
theorem c_S_knock_10 : mCode j_S_knock 10 = oAld 0 11 := rfl
theorem e_S_knock_10 (x : Option Nat) : (WP Gm j_S_knock 10 (some (.inr (.inl x)) :: ls) (st) h Q) = (WP Gm j_S_knock 11 (some (.inr (.inl x)) :: ls) (.inr (.inl x) :: st) (h) Q) := (WP_at c_S_knock_10 _ _ _ _)
theorem c_S_knock_11 : mCode j_S_knock 11 = oGetI kc_S 4 14 := rfl
theorem e_S_knock_11 (a : Nat) (hk : isK h a kc_S = true) : (WP Gm j_S_knock 11 (ls) (.inr (.inl (some a)) :: st) h Q) = (WP Gm j_S_knock 14 (ls) (.inl (gI h a 4) :: st) (h) Q) := (WP_at c_S_knock_11 _ _ _ _).trans (congrArg (fun o => ndX Gm (WP Gm) j_S_knock 11 o Q) (if_pos hk))
theorem c_S_knock_14 : mCode j_S_knock 14 = oRetI := rfl
theorem e_S_knock_14 (x : Int32) : (WP Gm j_S_knock 14 (ls) ([.inl x]) h Q) = (Q (.inl (some (.inl x))) h) := (WP_at c_S_knock_14 _ _ _ _)
theorem c_S_hears_0 : mCode j_S_hears 0 = oAld 0 1 := rfl
theorem e_S_hears_0 (x : Option Nat) : (WP Gm j_S_hears 0 (some (.inr (.inl x)) :: ls) (st) h Q) = (WP Gm j_S_hears 1 (some (.inr (.inl x)) :: ls) (.inr (.inl x) :: st) (h) Q) := (WP_at c_S_hears_0 _ _ _ _)
theorem c_S_hears_1 : mCode j_S_hears 1 = oIld 1 2 := rfl
theorem e_S_hears_1 (a0 : Option MV) (x : Int32) : (WP Gm j_S_hears 1 (a0 :: some (.inl x) :: ls) (st) h Q) = (WP Gm j_S_hears 2 (a0 :: some (.inl x) :: ls) (.inl x :: st) (h) Q) := (WP_at c_S_hears_1 _ _ _ _)
theorem c_S_hears_2 : mCode j_S_hears 2 = oIld 2 3 := rfl
theorem e_S_hears_2 (a0 a1 : Option MV) (x : Int32) : (WP Gm j_S_hears 2 (a0 :: a1 :: some (.inl x) :: ls) (st) h Q) = (WP Gm j_S_hears 3 (a0 :: a1 :: some (.inl x) :: ls) (.inl x :: st) (h) Q) := (WP_at c_S_hears_2 _ _ _ _)
theorem c_S_hears_3 : mCode j_S_hears 3 = oCallV kc_S j_S_checkPair 2 (mL j_S_checkPair) 6 := rfl
theorem e_S_hears_3 (a : Nat) (x0 : Int32) (x1 : Int32) (hk : isK h a kc_S = true) (hc : c8 st = true) : (WP Gm j_S_hears 3 (ls) (.inl x1 :: .inl x0 :: .inr (.inl (some a)) :: st) h Q) = (WP Gm j_S_checkPair 0 [some (.inr (.inl (some a))), some (.inl x0), some (.inl x1)] [] h (kC (fun v h2 => WP Gm j_S_hears 6 ls (v.toList ++ st) h2 Q) (fun E h2 => Q (.inr E) h2))) := (WP_at c_S_hears_3 _ _ _ _).trans (congrArg (fun o => ndX Gm (WP Gm) j_S_hears 3 o Q) (if_pos (by rw [hk, show decide (catS st ≤ 8) = true from hc]; rfl)))
theorem c_S_hears_6 : mCode j_S_hears 6 = oAld 0 7 := rfl
theorem e_S_hears_6 (x : Option Nat) : (WP Gm j_S_hears 6 (some (.inr (.inl x)) :: ls) (st) h Q) = (WP Gm j_S_hears 7 (some (.inr (.inl x)) :: ls) (.inr (.inl x) :: st) (h) Q) := (WP_at c_S_hears_6 _ _ _ _)
theorem c_S_hears_7 : mCode j_S_hears 7 = oGetR kc_S 0 10 := rfl
theorem e_S_hears_7 (a : Nat) (hk : isK h a kc_S = true) : (WP Gm j_S_hears 7 (ls) (.inr (.inl (some a)) :: st) h Q) = (WP Gm j_S_hears 10 (ls) (.inr (.inl (gR h a 0)) :: st) (h) Q) := (WP_at c_S_hears_7 _ _ _ _).trans (congrArg (fun o => ndX Gm (WP Gm) j_S_hears 7 o Q) (if_pos hk))
theorem c_S_hears_10 : mCode j_S_hears 10 = oIld 1 11 := rfl
theorem e_S_hears_10 (a0 : Option MV) (x : Int32) : (WP Gm j_S_hears 10 (a0 :: some (.inl x) :: ls) (st) h Q) = (WP Gm j_S_hears 11 (a0 :: some (.inl x) :: ls) (.inl x :: st) (h) Q) := (WP_at c_S_hears_10 _ _ _ _)
theorem c_S_hears_11 : mCode j_S_hears 11 = oIld 2 12 := rfl
theorem e_S_hears_11 (a0 a1 : Option MV) (x : Int32) : (WP Gm j_S_hears 11 (a0 :: a1 :: some (.inl x) :: ls) (st) h Q) = (WP Gm j_S_hears 12 (a0 :: a1 :: some (.inl x) :: ls) (.inl x :: st) (h) Q) := (WP_at c_S_hears_11 _ _ _ _)
theorem c_S_hears_12 : mCode j_S_hears 12 = oCallV kc_Land j_Land_canHear 2 (mL j_Land_canHear) 15 := rfl
theorem e_S_hears_12 (a : Nat) (x0 : Int32) (x1 : Int32) (hk : isK h a kc_Land = true) (hc : c8 st = true) : (WP Gm j_S_hears 12 (ls) (.inl x1 :: .inl x0 :: .inr (.inl (some a)) :: st) h Q) = (WP Gm j_Land_canHear 0 [some (.inr (.inl (some a))), some (.inl x0), some (.inl x1)] [] h (kC (fun v h2 => WP Gm j_S_hears 15 ls (v.toList ++ st) h2 Q) (fun E h2 => Q (.inr E) h2))) := (WP_at c_S_hears_12 _ _ _ _).trans (congrArg (fun o => ndX Gm (WP Gm) j_S_hears 12 o Q) (if_pos (by rw [hk, show decide (catS st ≤ 8) = true from hc]; rfl)))
theorem c_S_hears_15 : mCode j_S_hears 15 = oRetZ := rfl
theorem e_S_hears_15 (x : Int32) (hx : x = 0 ∨ x = 1) : (WP Gm j_S_hears 15 (ls) ([.inl x]) h Q) = (Q (.inl (some (.inl x))) h) := (WP_at c_S_hears_15 _ _ _ _).trans (congrArg (fun o => ndX Gm (WP Gm) j_S_hears 15 o Q) (if_pos (by rcases hx with rfl | rfl <;> rfl)))
theorem c_S_ofNode_0 : mCode j_S_ofNode 0 = oAld 0 1 := rfl
theorem e_S_ofNode_0 (x : Option Nat) : (WP Gm j_S_ofNode 0 (some (.inr (.inl x)) :: ls) (st) h Q) = (WP Gm j_S_ofNode 1 (some (.inr (.inl x)) :: ls) (.inr (.inl x) :: st) (h) Q) := (WP_at c_S_ofNode_0 _ _ _ _)
theorem c_S_ofNode_1 : mCode j_S_ofNode 1 = oIld 1 2 := rfl
theorem e_S_ofNode_1 (a0 : Option MV) (x : Int32) : (WP Gm j_S_ofNode 1 (a0 :: some (.inl x) :: ls) (st) h Q) = (WP Gm j_S_ofNode 2 (a0 :: some (.inl x) :: ls) (.inl x :: st) (h) Q) := (WP_at c_S_ofNode_1 _ _ _ _)
theorem c_S_ofNode_2 : mCode j_S_ofNode 2 = oCallV kc_S j_S_checkNode 1 (mL j_S_checkNode) 5 := rfl
theorem e_S_ofNode_2 (a : Nat) (x0 : Int32) (hk : isK h a kc_S = true) (hc : c8 st = true) : (WP Gm j_S_ofNode 2 (ls) (.inl x0 :: .inr (.inl (some a)) :: st) h Q) = (WP Gm j_S_checkNode 0 [some (.inr (.inl (some a))), some (.inl x0)] [] h (kC (fun v h2 => WP Gm j_S_ofNode 5 ls (v.toList ++ st) h2 Q) (fun E h2 => Q (.inr E) h2))) := (WP_at c_S_ofNode_2 _ _ _ _).trans (congrArg (fun o => ndX Gm (WP Gm) j_S_ofNode 2 o Q) (if_pos (by rw [hk, show decide (catS st ≤ 8) = true from hc]; rfl)))
theorem c_S_ofNode_5 : mCode j_S_ofNode 5 = oAld 0 6 := rfl
theorem e_S_ofNode_5 (x : Option Nat) : (WP Gm j_S_ofNode 5 (some (.inr (.inl x)) :: ls) (st) h Q) = (WP Gm j_S_ofNode 6 (some (.inr (.inl x)) :: ls) (.inr (.inl x) :: st) (h) Q) := (WP_at c_S_ofNode_5 _ _ _ _)
theorem c_S_ofNode_6 : mCode j_S_ofNode 6 = oGetR kc_S 0 9 := rfl
theorem e_S_ofNode_6 (a : Nat) (hk : isK h a kc_S = true) : (WP Gm j_S_ofNode 6 (ls) (.inr (.inl (some a)) :: st) h Q) = (WP Gm j_S_ofNode 9 (ls) (.inr (.inl (gR h a 0)) :: st) (h) Q) := (WP_at c_S_ofNode_6 _ _ _ _).trans (congrArg (fun o => ndX Gm (WP Gm) j_S_ofNode 6 o Q) (if_pos hk))
theorem c_S_ofNode_9 : mCode j_S_ofNode 9 = oGetR kc_Land 0 12 := rfl
theorem e_S_ofNode_9 (a : Nat) (hk : isK h a kc_Land = true) : (WP Gm j_S_ofNode 9 (ls) (.inr (.inl (some a)) :: st) h Q) = (WP Gm j_S_ofNode 12 (ls) (.inr (.inl (gR h a 0)) :: st) (h) Q) := (WP_at c_S_ofNode_9 _ _ _ _).trans (congrArg (fun o => ndX Gm (WP Gm) j_S_ofNode 9 o Q) (if_pos hk))
theorem c_S_ofNode_12 : mCode j_S_ofNode 12 = oIld 1 13 := rfl
theorem e_S_ofNode_12 (a0 : Option MV) (x : Int32) : (WP Gm j_S_ofNode 12 (a0 :: some (.inl x) :: ls) (st) h Q) = (WP Gm j_S_ofNode 13 (a0 :: some (.inl x) :: ls) (.inl x :: st) (h) Q) := (WP_at c_S_ofNode_12 _ _ _ _)
theorem c_S_ofNode_13 : mCode j_S_ofNode 13 = oAal 2 14 := rfl
theorem e_S_ofNode_13 (a : Nat) (i : Int32) (hk : isK h a 102 = true) (hi : inL h a i = true) : (WP Gm j_S_ofNode 13 (ls) (.inl i :: .inr (.inl (some a)) :: st) h Q) = (WP Gm j_S_ofNode 14 (ls) (.inr (.inl (gR h a i.toNatClampNeg)) :: st) (h) Q) := (WP_at c_S_ofNode_13 _ _ _ _).trans (congrArg (fun o => ndX Gm (WP Gm) j_S_ofNode 13 o Q) (if_pos (by rw [hk, hi]; rfl)))
theorem c_S_ofNode_14 : mCode j_S_ofNode 14 = oAst 3 15 := rfl
theorem e_S_ofNode_14 (x : Option Nat) : (WP Gm j_S_ofNode 14 (ls) (.inr (.inl x) :: st) h Q) = (WP Gm j_S_ofNode 15 (lSet1 ls 3 (some (.inr (.inl x)))) (st) (h) Q) := (WP_at c_S_ofNode_14 _ _ _ _)
theorem c_S_ofNode_15 : mCode j_S_ofNode 15 = oIld 2 16 := rfl
theorem e_S_ofNode_15 (a0 a1 : Option MV) (x : Int32) : (WP Gm j_S_ofNode 15 (a0 :: a1 :: some (.inl x) :: ls) (st) h Q) = (WP Gm j_S_ofNode 16 (a0 :: a1 :: some (.inl x) :: ls) (.inl x :: st) (h) Q) := (WP_at c_S_ofNode_15 _ _ _ _)
theorem c_S_ofNode_16 : mCode j_S_ofNode 16 = oTsw 0 [96, 101, 106, 111, 124, 132, 137, 142, 147, 152, 157, 162, 167, 172, 189, 198] 203 := rfl
theorem e_S_ofNode_16 (x : Int32) : (WP Gm j_S_ofNode 16 (ls) (.inl x :: st) h Q) = (WP Gm j_S_ofNode (tsw 0 [96, 101, 106, 111, 124, 132, 137, 142, 147, 152, 157, 162, 167, 172, 189, 198] 203 x) (ls) (st) (h) Q) := (WP_at c_S_ofNode_16 _ _ _ _)
theorem e_S_ofNode_16c0 : (WP Gm j_S_ofNode 16 ls (.inl 0 :: st) h Q) = (WP Gm j_S_ofNode 96 ls st h Q) := by
  rw [e_S_ofNode_16]
  exact congrArg (fun k => WP Gm j_S_ofNode k ls st h Q) (by decide)
theorem e_S_ofNode_16c1 : (WP Gm j_S_ofNode 16 ls (.inl 1 :: st) h Q) = (WP Gm j_S_ofNode 101 ls st h Q) := by
  rw [e_S_ofNode_16]
  exact congrArg (fun k => WP Gm j_S_ofNode k ls st h Q) (by decide)
theorem e_S_ofNode_16c2 : (WP Gm j_S_ofNode 16 ls (.inl 2 :: st) h Q) = (WP Gm j_S_ofNode 106 ls st h Q) := by
  rw [e_S_ofNode_16]
  exact congrArg (fun k => WP Gm j_S_ofNode k ls st h Q) (by decide)
theorem e_S_ofNode_16c3 : (WP Gm j_S_ofNode 16 ls (.inl 3 :: st) h Q) = (WP Gm j_S_ofNode 111 ls st h Q) := by
  rw [e_S_ofNode_16]
  exact congrArg (fun k => WP Gm j_S_ofNode k ls st h Q) (by decide)
theorem e_S_ofNode_16c4 : (WP Gm j_S_ofNode 16 ls (.inl 4 :: st) h Q) = (WP Gm j_S_ofNode 124 ls st h Q) := by
  rw [e_S_ofNode_16]
  exact congrArg (fun k => WP Gm j_S_ofNode k ls st h Q) (by decide)
theorem e_S_ofNode_16c5 : (WP Gm j_S_ofNode 16 ls (.inl 5 :: st) h Q) = (WP Gm j_S_ofNode 132 ls st h Q) := by
  rw [e_S_ofNode_16]
  exact congrArg (fun k => WP Gm j_S_ofNode k ls st h Q) (by decide)
theorem e_S_ofNode_16c6 : (WP Gm j_S_ofNode 16 ls (.inl 6 :: st) h Q) = (WP Gm j_S_ofNode 137 ls st h Q) := by
  rw [e_S_ofNode_16]
  exact congrArg (fun k => WP Gm j_S_ofNode k ls st h Q) (by decide)
theorem e_S_ofNode_16c7 : (WP Gm j_S_ofNode 16 ls (.inl 7 :: st) h Q) = (WP Gm j_S_ofNode 142 ls st h Q) := by
  rw [e_S_ofNode_16]
  exact congrArg (fun k => WP Gm j_S_ofNode k ls st h Q) (by decide)
theorem e_S_ofNode_16c8 : (WP Gm j_S_ofNode 16 ls (.inl 8 :: st) h Q) = (WP Gm j_S_ofNode 147 ls st h Q) := by
  rw [e_S_ofNode_16]
  exact congrArg (fun k => WP Gm j_S_ofNode k ls st h Q) (by decide)
theorem e_S_ofNode_16c9 : (WP Gm j_S_ofNode 16 ls (.inl 9 :: st) h Q) = (WP Gm j_S_ofNode 152 ls st h Q) := by
  rw [e_S_ofNode_16]
  exact congrArg (fun k => WP Gm j_S_ofNode k ls st h Q) (by decide)
theorem e_S_ofNode_16c10 : (WP Gm j_S_ofNode 16 ls (.inl 10 :: st) h Q) = (WP Gm j_S_ofNode 157 ls st h Q) := by
  rw [e_S_ofNode_16]
  exact congrArg (fun k => WP Gm j_S_ofNode k ls st h Q) (by decide)
theorem e_S_ofNode_16c11 : (WP Gm j_S_ofNode 16 ls (.inl 11 :: st) h Q) = (WP Gm j_S_ofNode 162 ls st h Q) := by
  rw [e_S_ofNode_16]
  exact congrArg (fun k => WP Gm j_S_ofNode k ls st h Q) (by decide)
theorem e_S_ofNode_16c12 : (WP Gm j_S_ofNode 16 ls (.inl 12 :: st) h Q) = (WP Gm j_S_ofNode 167 ls st h Q) := by
  rw [e_S_ofNode_16]
  exact congrArg (fun k => WP Gm j_S_ofNode k ls st h Q) (by decide)
theorem e_S_ofNode_16c13 : (WP Gm j_S_ofNode 16 ls (.inl 13 :: st) h Q) = (WP Gm j_S_ofNode 172 ls st h Q) := by
  rw [e_S_ofNode_16]
  exact congrArg (fun k => WP Gm j_S_ofNode k ls st h Q) (by decide)
theorem e_S_ofNode_16c14 : (WP Gm j_S_ofNode 16 ls (.inl 14 :: st) h Q) = (WP Gm j_S_ofNode 189 ls st h Q) := by
  rw [e_S_ofNode_16]
  exact congrArg (fun k => WP Gm j_S_ofNode k ls st h Q) (by decide)
theorem e_S_ofNode_16c15 : (WP Gm j_S_ofNode 16 ls (.inl 15 :: st) h Q) = (WP Gm j_S_ofNode 198 ls st h Q) := by
  rw [e_S_ofNode_16]
  exact congrArg (fun k => WP Gm j_S_ofNode k ls st h Q) (by decide)
theorem c_S_ofNode_96 : mCode j_S_ofNode 96 = oAld 3 97 := rfl
theorem e_S_ofNode_96 (a0 a1 a2 : Option MV) (x : Option Nat) : (WP Gm j_S_ofNode 96 (a0 :: a1 :: a2 :: some (.inr (.inl x)) :: ls) (st) h Q) = (WP Gm j_S_ofNode 97 (a0 :: a1 :: a2 :: some (.inr (.inl x)) :: ls) (.inr (.inl x) :: st) (h) Q) := (WP_at c_S_ofNode_96 _ _ _ _)
theorem c_S_ofNode_97 : mCode j_S_ofNode 97 = oGetI kc_Node 0 100 := rfl
theorem e_S_ofNode_97 (a : Nat) (hk : isK h a kc_Node = true) : (WP Gm j_S_ofNode 97 (ls) (.inr (.inl (some a)) :: st) h Q) = (WP Gm j_S_ofNode 100 (ls) (.inl (gI h a 0) :: st) (h) Q) := (WP_at c_S_ofNode_97 _ _ _ _).trans (congrArg (fun o => ndX Gm (WP Gm) j_S_ofNode 97 o Q) (if_pos hk))
theorem c_S_ofNode_100 : mCode j_S_ofNode 100 = oRetI := rfl
theorem e_S_ofNode_100 (x : Int32) : (WP Gm j_S_ofNode 100 (ls) ([.inl x]) h Q) = (Q (.inl (some (.inl x))) h) := (WP_at c_S_ofNode_100 _ _ _ _)
theorem c_S_ofNode_101 : mCode j_S_ofNode 101 = oAld 3 102 := rfl
theorem e_S_ofNode_101 (a0 a1 a2 : Option MV) (x : Option Nat) : (WP Gm j_S_ofNode 101 (a0 :: a1 :: a2 :: some (.inr (.inl x)) :: ls) (st) h Q) = (WP Gm j_S_ofNode 102 (a0 :: a1 :: a2 :: some (.inr (.inl x)) :: ls) (.inr (.inl x) :: st) (h) Q) := (WP_at c_S_ofNode_101 _ _ _ _)
theorem c_S_ofNode_102 : mCode j_S_ofNode 102 = oGetI kc_Node 1 105 := rfl
theorem e_S_ofNode_102 (a : Nat) (hk : isK h a kc_Node = true) : (WP Gm j_S_ofNode 102 (ls) (.inr (.inl (some a)) :: st) h Q) = (WP Gm j_S_ofNode 105 (ls) (.inl (gI h a 1) :: st) (h) Q) := (WP_at c_S_ofNode_102 _ _ _ _).trans (congrArg (fun o => ndX Gm (WP Gm) j_S_ofNode 102 o Q) (if_pos hk))
theorem c_S_ofNode_105 : mCode j_S_ofNode 105 = oRetI := rfl
theorem e_S_ofNode_105 (x : Int32) : (WP Gm j_S_ofNode 105 (ls) ([.inl x]) h Q) = (Q (.inl (some (.inl x))) h) := (WP_at c_S_ofNode_105 _ _ _ _)
theorem c_S_ofNode_106 : mCode j_S_ofNode 106 = oAld 3 107 := rfl
theorem e_S_ofNode_106 (a0 a1 a2 : Option MV) (x : Option Nat) : (WP Gm j_S_ofNode 106 (a0 :: a1 :: a2 :: some (.inr (.inl x)) :: ls) (st) h Q) = (WP Gm j_S_ofNode 107 (a0 :: a1 :: a2 :: some (.inr (.inl x)) :: ls) (.inr (.inl x) :: st) (h) Q) := (WP_at c_S_ofNode_106 _ _ _ _)
theorem c_S_ofNode_107 : mCode j_S_ofNode 107 = oGetI kc_Node 2 110 := rfl
theorem e_S_ofNode_107 (a : Nat) (hk : isK h a kc_Node = true) : (WP Gm j_S_ofNode 107 (ls) (.inr (.inl (some a)) :: st) h Q) = (WP Gm j_S_ofNode 110 (ls) (.inl (gI h a 2) :: st) (h) Q) := (WP_at c_S_ofNode_107 _ _ _ _).trans (congrArg (fun o => ndX Gm (WP Gm) j_S_ofNode 107 o Q) (if_pos hk))
theorem c_S_ofNode_110 : mCode j_S_ofNode 110 = oRetI := rfl
theorem e_S_ofNode_110 (x : Int32) : (WP Gm j_S_ofNode 110 (ls) ([.inl x]) h Q) = (Q (.inl (some (.inl x))) h) := (WP_at c_S_ofNode_110 _ _ _ _)
theorem c_S_ofNode_111 : mCode j_S_ofNode 111 = oAld 3 112 := rfl
theorem e_S_ofNode_111 (a0 a1 a2 : Option MV) (x : Option Nat) : (WP Gm j_S_ofNode 111 (a0 :: a1 :: a2 :: some (.inr (.inl x)) :: ls) (st) h Q) = (WP Gm j_S_ofNode 112 (a0 :: a1 :: a2 :: some (.inr (.inl x)) :: ls) (.inr (.inl x) :: st) (h) Q) := (WP_at c_S_ofNode_111 _ _ _ _)
theorem c_S_ofNode_112 : mCode j_S_ofNode 112 = oGetI kc_Node 3 115 := rfl
theorem e_S_ofNode_112 (a : Nat) (hk : isK h a kc_Node = true) : (WP Gm j_S_ofNode 112 (ls) (.inr (.inl (some a)) :: st) h Q) = (WP Gm j_S_ofNode 115 (ls) (.inl (gI h a 3) :: st) (h) Q) := (WP_at c_S_ofNode_112 _ _ _ _).trans (congrArg (fun o => ndX Gm (WP Gm) j_S_ofNode 112 o Q) (if_pos hk))
theorem c_S_ofNode_115 : mCode j_S_ofNode 115 = oIf (fun x => decide (x = 0)) 122 118 := rfl
theorem e_S_ofNode_115 (x : Int32) : (WP Gm j_S_ofNode 115 (ls) (.inl x :: st) h Q) = (if x = 0 then WP Gm j_S_ofNode 122 (ls) (st) (h) Q else WP Gm j_S_ofNode 118 (ls) (st) (h) Q) := (WP_at c_S_ofNode_115 _ _ _ _).trans (nd_if rfl _ _ _ _)
theorem c_S_ofNode_118 : mCode j_S_ofNode 118 = oI 1 119 := rfl
theorem e_S_ofNode_118  : (WP Gm j_S_ofNode 118 (ls) (st) h Q) = (WP Gm j_S_ofNode 119 (ls) (.inl 1 :: st) (h) Q) := (WP_at c_S_ofNode_118 _ _ _ _)
theorem c_S_ofNode_119 : mCode j_S_ofNode 119 = oGo 123 := rfl
theorem e_S_ofNode_119  : (WP Gm j_S_ofNode 119 (ls) (st) h Q) = (WP Gm j_S_ofNode 123 (ls) (st) (h) Q) := (WP_at c_S_ofNode_119 _ _ _ _)
theorem c_S_ofNode_122 : mCode j_S_ofNode 122 = oI 0 123 := rfl
theorem e_S_ofNode_122  : (WP Gm j_S_ofNode 122 (ls) (st) h Q) = (WP Gm j_S_ofNode 123 (ls) (.inl 0 :: st) (h) Q) := (WP_at c_S_ofNode_122 _ _ _ _)
theorem c_S_ofNode_123 : mCode j_S_ofNode 123 = oRetI := rfl
theorem e_S_ofNode_123 (x : Int32) : (WP Gm j_S_ofNode 123 (ls) ([.inl x]) h Q) = (Q (.inl (some (.inl x))) h) := (WP_at c_S_ofNode_123 _ _ _ _)
theorem c_S_ofNode_124 : mCode j_S_ofNode 124 = oAld 3 125 := rfl
theorem e_S_ofNode_124 (a0 a1 a2 : Option MV) (x : Option Nat) : (WP Gm j_S_ofNode 124 (a0 :: a1 :: a2 :: some (.inr (.inl x)) :: ls) (st) h Q) = (WP Gm j_S_ofNode 125 (a0 :: a1 :: a2 :: some (.inr (.inl x)) :: ls) (.inr (.inl x) :: st) (h) Q) := (WP_at c_S_ofNode_124 _ _ _ _)
theorem c_S_ofNode_125 : mCode j_S_ofNode 125 = oGetR kc_Node 4 128 := rfl
theorem e_S_ofNode_125 (a : Nat) (hk : isK h a kc_Node = true) : (WP Gm j_S_ofNode 125 (ls) (.inr (.inl (some a)) :: st) h Q) = (WP Gm j_S_ofNode 128 (ls) (.inr (.inl (gR h a 4)) :: st) (h) Q) := (WP_at c_S_ofNode_125 _ _ _ _).trans (congrArg (fun o => ndX Gm (WP Gm) j_S_ofNode 125 o Q) (if_pos hk))
theorem c_S_ofNode_128 : mCode j_S_ofNode 128 = oGetI kc_FrameQueue 1 131 := rfl
theorem e_S_ofNode_128 (a : Nat) (hk : isK h a kc_FrameQueue = true) : (WP Gm j_S_ofNode 128 (ls) (.inr (.inl (some a)) :: st) h Q) = (WP Gm j_S_ofNode 131 (ls) (.inl (gI h a 1) :: st) (h) Q) := (WP_at c_S_ofNode_128 _ _ _ _).trans (congrArg (fun o => ndX Gm (WP Gm) j_S_ofNode 128 o Q) (if_pos hk))
theorem c_S_ofNode_131 : mCode j_S_ofNode 131 = oRetI := rfl
theorem e_S_ofNode_131 (x : Int32) : (WP Gm j_S_ofNode 131 (ls) ([.inl x]) h Q) = (Q (.inl (some (.inl x))) h) := (WP_at c_S_ofNode_131 _ _ _ _)
theorem c_S_ofNode_132 : mCode j_S_ofNode 132 = oAld 3 133 := rfl
theorem e_S_ofNode_132 (a0 a1 a2 : Option MV) (x : Option Nat) : (WP Gm j_S_ofNode 132 (a0 :: a1 :: a2 :: some (.inr (.inl x)) :: ls) (st) h Q) = (WP Gm j_S_ofNode 133 (a0 :: a1 :: a2 :: some (.inr (.inl x)) :: ls) (.inr (.inl x) :: st) (h) Q) := (WP_at c_S_ofNode_132 _ _ _ _)
theorem c_S_ofNode_133 : mCode j_S_ofNode 133 = oGetI kc_Node 5 136 := rfl
theorem e_S_ofNode_133 (a : Nat) (hk : isK h a kc_Node = true) : (WP Gm j_S_ofNode 133 (ls) (.inr (.inl (some a)) :: st) h Q) = (WP Gm j_S_ofNode 136 (ls) (.inl (gI h a 5) :: st) (h) Q) := (WP_at c_S_ofNode_133 _ _ _ _).trans (congrArg (fun o => ndX Gm (WP Gm) j_S_ofNode 133 o Q) (if_pos hk))
theorem c_S_ofNode_136 : mCode j_S_ofNode 136 = oRetI := rfl
theorem e_S_ofNode_136 (x : Int32) : (WP Gm j_S_ofNode 136 (ls) ([.inl x]) h Q) = (Q (.inl (some (.inl x))) h) := (WP_at c_S_ofNode_136 _ _ _ _)
theorem c_S_ofNode_137 : mCode j_S_ofNode 137 = oAld 3 138 := rfl
theorem e_S_ofNode_137 (a0 a1 a2 : Option MV) (x : Option Nat) : (WP Gm j_S_ofNode 137 (a0 :: a1 :: a2 :: some (.inr (.inl x)) :: ls) (st) h Q) = (WP Gm j_S_ofNode 138 (a0 :: a1 :: a2 :: some (.inr (.inl x)) :: ls) (.inr (.inl x) :: st) (h) Q) := (WP_at c_S_ofNode_137 _ _ _ _)
theorem c_S_ofNode_138 : mCode j_S_ofNode 138 = oGetI kc_Node 6 141 := rfl
theorem e_S_ofNode_138 (a : Nat) (hk : isK h a kc_Node = true) : (WP Gm j_S_ofNode 138 (ls) (.inr (.inl (some a)) :: st) h Q) = (WP Gm j_S_ofNode 141 (ls) (.inl (gI h a 6) :: st) (h) Q) := (WP_at c_S_ofNode_138 _ _ _ _).trans (congrArg (fun o => ndX Gm (WP Gm) j_S_ofNode 138 o Q) (if_pos hk))
theorem c_S_ofNode_141 : mCode j_S_ofNode 141 = oRetI := rfl
theorem e_S_ofNode_141 (x : Int32) : (WP Gm j_S_ofNode 141 (ls) ([.inl x]) h Q) = (Q (.inl (some (.inl x))) h) := (WP_at c_S_ofNode_141 _ _ _ _)
theorem c_S_ofNode_142 : mCode j_S_ofNode 142 = oAld 3 143 := rfl
theorem e_S_ofNode_142 (a0 a1 a2 : Option MV) (x : Option Nat) : (WP Gm j_S_ofNode 142 (a0 :: a1 :: a2 :: some (.inr (.inl x)) :: ls) (st) h Q) = (WP Gm j_S_ofNode 143 (a0 :: a1 :: a2 :: some (.inr (.inl x)) :: ls) (.inr (.inl x) :: st) (h) Q) := (WP_at c_S_ofNode_142 _ _ _ _)
theorem c_S_ofNode_143 : mCode j_S_ofNode 143 = oGetI kc_Node 7 146 := rfl
theorem e_S_ofNode_143 (a : Nat) (hk : isK h a kc_Node = true) : (WP Gm j_S_ofNode 143 (ls) (.inr (.inl (some a)) :: st) h Q) = (WP Gm j_S_ofNode 146 (ls) (.inl (gI h a 7) :: st) (h) Q) := (WP_at c_S_ofNode_143 _ _ _ _).trans (congrArg (fun o => ndX Gm (WP Gm) j_S_ofNode 143 o Q) (if_pos hk))
theorem c_S_ofNode_146 : mCode j_S_ofNode 146 = oRetI := rfl
theorem e_S_ofNode_146 (x : Int32) : (WP Gm j_S_ofNode 146 (ls) ([.inl x]) h Q) = (Q (.inl (some (.inl x))) h) := (WP_at c_S_ofNode_146 _ _ _ _)
theorem c_S_ofNode_147 : mCode j_S_ofNode 147 = oAld 3 148 := rfl
theorem e_S_ofNode_147 (a0 a1 a2 : Option MV) (x : Option Nat) : (WP Gm j_S_ofNode 147 (a0 :: a1 :: a2 :: some (.inr (.inl x)) :: ls) (st) h Q) = (WP Gm j_S_ofNode 148 (a0 :: a1 :: a2 :: some (.inr (.inl x)) :: ls) (.inr (.inl x) :: st) (h) Q) := (WP_at c_S_ofNode_147 _ _ _ _)
theorem c_S_ofNode_148 : mCode j_S_ofNode 148 = oGetI kc_Node 8 151 := rfl
theorem e_S_ofNode_148 (a : Nat) (hk : isK h a kc_Node = true) : (WP Gm j_S_ofNode 148 (ls) (.inr (.inl (some a)) :: st) h Q) = (WP Gm j_S_ofNode 151 (ls) (.inl (gI h a 8) :: st) (h) Q) := (WP_at c_S_ofNode_148 _ _ _ _).trans (congrArg (fun o => ndX Gm (WP Gm) j_S_ofNode 148 o Q) (if_pos hk))
theorem c_S_ofNode_151 : mCode j_S_ofNode 151 = oRetI := rfl
theorem e_S_ofNode_151 (x : Int32) : (WP Gm j_S_ofNode 151 (ls) ([.inl x]) h Q) = (Q (.inl (some (.inl x))) h) := (WP_at c_S_ofNode_151 _ _ _ _)
theorem c_S_ofNode_152 : mCode j_S_ofNode 152 = oAld 3 153 := rfl
theorem e_S_ofNode_152 (a0 a1 a2 : Option MV) (x : Option Nat) : (WP Gm j_S_ofNode 152 (a0 :: a1 :: a2 :: some (.inr (.inl x)) :: ls) (st) h Q) = (WP Gm j_S_ofNode 153 (a0 :: a1 :: a2 :: some (.inr (.inl x)) :: ls) (.inr (.inl x) :: st) (h) Q) := (WP_at c_S_ofNode_152 _ _ _ _)
theorem c_S_ofNode_153 : mCode j_S_ofNode 153 = oGetI kc_Node 10 156 := rfl
theorem e_S_ofNode_153 (a : Nat) (hk : isK h a kc_Node = true) : (WP Gm j_S_ofNode 153 (ls) (.inr (.inl (some a)) :: st) h Q) = (WP Gm j_S_ofNode 156 (ls) (.inl (gI h a 10) :: st) (h) Q) := (WP_at c_S_ofNode_153 _ _ _ _).trans (congrArg (fun o => ndX Gm (WP Gm) j_S_ofNode 153 o Q) (if_pos hk))
theorem c_S_ofNode_156 : mCode j_S_ofNode 156 = oRetI := rfl
theorem e_S_ofNode_156 (x : Int32) : (WP Gm j_S_ofNode 156 (ls) ([.inl x]) h Q) = (Q (.inl (some (.inl x))) h) := (WP_at c_S_ofNode_156 _ _ _ _)
theorem c_S_ofNode_157 : mCode j_S_ofNode 157 = oAld 3 158 := rfl
theorem e_S_ofNode_157 (a0 a1 a2 : Option MV) (x : Option Nat) : (WP Gm j_S_ofNode 157 (a0 :: a1 :: a2 :: some (.inr (.inl x)) :: ls) (st) h Q) = (WP Gm j_S_ofNode 158 (a0 :: a1 :: a2 :: some (.inr (.inl x)) :: ls) (.inr (.inl x) :: st) (h) Q) := (WP_at c_S_ofNode_157 _ _ _ _)
theorem c_S_ofNode_158 : mCode j_S_ofNode 158 = oGetI kc_Node 11 161 := rfl
theorem e_S_ofNode_158 (a : Nat) (hk : isK h a kc_Node = true) : (WP Gm j_S_ofNode 158 (ls) (.inr (.inl (some a)) :: st) h Q) = (WP Gm j_S_ofNode 161 (ls) (.inl (gI h a 11) :: st) (h) Q) := (WP_at c_S_ofNode_158 _ _ _ _).trans (congrArg (fun o => ndX Gm (WP Gm) j_S_ofNode 158 o Q) (if_pos hk))
theorem c_S_ofNode_161 : mCode j_S_ofNode 161 = oRetI := rfl
theorem e_S_ofNode_161 (x : Int32) : (WP Gm j_S_ofNode 161 (ls) ([.inl x]) h Q) = (Q (.inl (some (.inl x))) h) := (WP_at c_S_ofNode_161 _ _ _ _)
theorem c_S_ofNode_162 : mCode j_S_ofNode 162 = oAld 3 163 := rfl
theorem e_S_ofNode_162 (a0 a1 a2 : Option MV) (x : Option Nat) : (WP Gm j_S_ofNode 162 (a0 :: a1 :: a2 :: some (.inr (.inl x)) :: ls) (st) h Q) = (WP Gm j_S_ofNode 163 (a0 :: a1 :: a2 :: some (.inr (.inl x)) :: ls) (.inr (.inl x) :: st) (h) Q) := (WP_at c_S_ofNode_162 _ _ _ _)
theorem c_S_ofNode_163 : mCode j_S_ofNode 163 = oGetI kc_Node 12 166 := rfl
theorem e_S_ofNode_163 (a : Nat) (hk : isK h a kc_Node = true) : (WP Gm j_S_ofNode 163 (ls) (.inr (.inl (some a)) :: st) h Q) = (WP Gm j_S_ofNode 166 (ls) (.inl (gI h a 12) :: st) (h) Q) := (WP_at c_S_ofNode_163 _ _ _ _).trans (congrArg (fun o => ndX Gm (WP Gm) j_S_ofNode 163 o Q) (if_pos hk))
theorem c_S_ofNode_166 : mCode j_S_ofNode 166 = oRetI := rfl
theorem e_S_ofNode_166 (x : Int32) : (WP Gm j_S_ofNode 166 (ls) ([.inl x]) h Q) = (Q (.inl (some (.inl x))) h) := (WP_at c_S_ofNode_166 _ _ _ _)
theorem c_S_ofNode_167 : mCode j_S_ofNode 167 = oAld 3 168 := rfl
theorem e_S_ofNode_167 (a0 a1 a2 : Option MV) (x : Option Nat) : (WP Gm j_S_ofNode 167 (a0 :: a1 :: a2 :: some (.inr (.inl x)) :: ls) (st) h Q) = (WP Gm j_S_ofNode 168 (a0 :: a1 :: a2 :: some (.inr (.inl x)) :: ls) (.inr (.inl x) :: st) (h) Q) := (WP_at c_S_ofNode_167 _ _ _ _)
theorem c_S_ofNode_168 : mCode j_S_ofNode 168 = oGetI kc_Node 13 171 := rfl
theorem e_S_ofNode_168 (a : Nat) (hk : isK h a kc_Node = true) : (WP Gm j_S_ofNode 168 (ls) (.inr (.inl (some a)) :: st) h Q) = (WP Gm j_S_ofNode 171 (ls) (.inl (gI h a 13) :: st) (h) Q) := (WP_at c_S_ofNode_168 _ _ _ _).trans (congrArg (fun o => ndX Gm (WP Gm) j_S_ofNode 168 o Q) (if_pos hk))
theorem c_S_ofNode_171 : mCode j_S_ofNode 171 = oRetI := rfl
theorem e_S_ofNode_171 (x : Int32) : (WP Gm j_S_ofNode 171 (ls) ([.inl x]) h Q) = (Q (.inl (some (.inl x))) h) := (WP_at c_S_ofNode_171 _ _ _ _)
theorem c_S_ofNode_172 : mCode j_S_ofNode 172 = oAld 0 173 := rfl
theorem e_S_ofNode_172 (x : Option Nat) : (WP Gm j_S_ofNode 172 (some (.inr (.inl x)) :: ls) (st) h Q) = (WP Gm j_S_ofNode 173 (some (.inr (.inl x)) :: ls) (.inr (.inl x) :: st) (h) Q) := (WP_at c_S_ofNode_172 _ _ _ _)
theorem c_S_ofNode_173 : mCode j_S_ofNode 173 = oGetR kc_S 0 176 := rfl
theorem e_S_ofNode_173 (a : Nat) (hk : isK h a kc_S = true) : (WP Gm j_S_ofNode 173 (ls) (.inr (.inl (some a)) :: st) h Q) = (WP Gm j_S_ofNode 176 (ls) (.inr (.inl (gR h a 0)) :: st) (h) Q) := (WP_at c_S_ofNode_173 _ _ _ _).trans (congrArg (fun o => ndX Gm (WP Gm) j_S_ofNode 173 o Q) (if_pos hk))
theorem c_S_ofNode_176 : mCode j_S_ofNode 176 = oIld 1 177 := rfl
theorem e_S_ofNode_176 (a0 : Option MV) (x : Int32) : (WP Gm j_S_ofNode 176 (a0 :: some (.inl x) :: ls) (st) h Q) = (WP Gm j_S_ofNode 177 (a0 :: some (.inl x) :: ls) (.inl x :: st) (h) Q) := (WP_at c_S_ofNode_176 _ _ _ _)
theorem c_S_ofNode_177 : mCode j_S_ofNode 177 = oCallV kc_Land j_Land_isSuspect 1 (mL j_Land_isSuspect) 180 := rfl
theorem e_S_ofNode_177 (a : Nat) (x0 : Int32) (hk : isK h a kc_Land = true) (hc : c8 st = true) : (WP Gm j_S_ofNode 177 (ls) (.inl x0 :: .inr (.inl (some a)) :: st) h Q) = (WP Gm j_Land_isSuspect 0 [some (.inr (.inl (some a))), some (.inl x0), none, none, none, none, none, none, none, none, none] [] h (kC (fun v h2 => WP Gm j_S_ofNode 180 ls (v.toList ++ st) h2 Q) (fun E h2 => Q (.inr E) h2))) := (WP_at c_S_ofNode_177 _ _ _ _).trans (congrArg (fun o => ndX Gm (WP Gm) j_S_ofNode 177 o Q) (if_pos (by rw [hk, show decide (catS st ≤ 8) = true from hc]; rfl)))
theorem c_S_ofNode_180 : mCode j_S_ofNode 180 = oIf (fun x => decide (x = 0)) 187 183 := rfl
theorem e_S_ofNode_180 (x : Int32) : (WP Gm j_S_ofNode 180 (ls) (.inl x :: st) h Q) = (if x = 0 then WP Gm j_S_ofNode 187 (ls) (st) (h) Q else WP Gm j_S_ofNode 183 (ls) (st) (h) Q) := (WP_at c_S_ofNode_180 _ _ _ _).trans (nd_if rfl _ _ _ _)
theorem c_S_ofNode_183 : mCode j_S_ofNode 183 = oI 1 184 := rfl
theorem e_S_ofNode_183  : (WP Gm j_S_ofNode 183 (ls) (st) h Q) = (WP Gm j_S_ofNode 184 (ls) (.inl 1 :: st) (h) Q) := (WP_at c_S_ofNode_183 _ _ _ _)
theorem c_S_ofNode_184 : mCode j_S_ofNode 184 = oGo 188 := rfl
theorem e_S_ofNode_184  : (WP Gm j_S_ofNode 184 (ls) (st) h Q) = (WP Gm j_S_ofNode 188 (ls) (st) (h) Q) := (WP_at c_S_ofNode_184 _ _ _ _)
theorem c_S_ofNode_187 : mCode j_S_ofNode 187 = oI 0 188 := rfl
theorem e_S_ofNode_187  : (WP Gm j_S_ofNode 187 (ls) (st) h Q) = (WP Gm j_S_ofNode 188 (ls) (.inl 0 :: st) (h) Q) := (WP_at c_S_ofNode_187 _ _ _ _)
theorem c_S_ofNode_188 : mCode j_S_ofNode 188 = oRetI := rfl
theorem e_S_ofNode_188 (x : Int32) : (WP Gm j_S_ofNode 188 (ls) ([.inl x]) h Q) = (Q (.inl (some (.inl x))) h) := (WP_at c_S_ofNode_188 _ _ _ _)
theorem c_S_ofNode_189 : mCode j_S_ofNode 189 = oAld 0 190 := rfl
theorem e_S_ofNode_189 (x : Option Nat) : (WP Gm j_S_ofNode 189 (some (.inr (.inl x)) :: ls) (st) h Q) = (WP Gm j_S_ofNode 190 (some (.inr (.inl x)) :: ls) (.inr (.inl x) :: st) (h) Q) := (WP_at c_S_ofNode_189 _ _ _ _)
theorem c_S_ofNode_190 : mCode j_S_ofNode 190 = oGetR kc_S 0 193 := rfl
theorem e_S_ofNode_190 (a : Nat) (hk : isK h a kc_S = true) : (WP Gm j_S_ofNode 190 (ls) (.inr (.inl (some a)) :: st) h Q) = (WP Gm j_S_ofNode 193 (ls) (.inr (.inl (gR h a 0)) :: st) (h) Q) := (WP_at c_S_ofNode_190 _ _ _ _).trans (congrArg (fun o => ndX Gm (WP Gm) j_S_ofNode 190 o Q) (if_pos hk))
theorem c_S_ofNode_193 : mCode j_S_ofNode 193 = oIld 1 194 := rfl
theorem e_S_ofNode_193 (a0 : Option MV) (x : Int32) : (WP Gm j_S_ofNode 193 (a0 :: some (.inl x) :: ls) (st) h Q) = (WP Gm j_S_ofNode 194 (a0 :: some (.inl x) :: ls) (.inl x :: st) (h) Q) := (WP_at c_S_ofNode_193 _ _ _ _)
theorem c_S_ofNode_194 : mCode j_S_ofNode 194 = oCallV kc_Land j_Land_linkedWith 1 (mL j_Land_linkedWith) 197 := rfl
theorem e_S_ofNode_194 (a : Nat) (x0 : Int32) (hk : isK h a kc_Land = true) (hc : c8 st = true) : (WP Gm j_S_ofNode 194 (ls) (.inl x0 :: .inr (.inl (some a)) :: st) h Q) = (WP Gm j_Land_linkedWith 0 [some (.inr (.inl (some a))), some (.inl x0), none, none] [] h (kC (fun v h2 => WP Gm j_S_ofNode 197 ls (v.toList ++ st) h2 Q) (fun E h2 => Q (.inr E) h2))) := (WP_at c_S_ofNode_194 _ _ _ _).trans (congrArg (fun o => ndX Gm (WP Gm) j_S_ofNode 194 o Q) (if_pos (by rw [hk, show decide (catS st ≤ 8) = true from hc]; rfl)))
theorem c_S_ofNode_197 : mCode j_S_ofNode 197 = oRetI := rfl
theorem e_S_ofNode_197 (x : Int32) : (WP Gm j_S_ofNode 197 (ls) ([.inl x]) h Q) = (Q (.inl (some (.inl x))) h) := (WP_at c_S_ofNode_197 _ _ _ _)
theorem c_S_ofNode_198 : mCode j_S_ofNode 198 = oAld 3 199 := rfl
theorem e_S_ofNode_198 (a0 a1 a2 : Option MV) (x : Option Nat) : (WP Gm j_S_ofNode 198 (a0 :: a1 :: a2 :: some (.inr (.inl x)) :: ls) (st) h Q) = (WP Gm j_S_ofNode 199 (a0 :: a1 :: a2 :: some (.inr (.inl x)) :: ls) (.inr (.inl x) :: st) (h) Q) := (WP_at c_S_ofNode_198 _ _ _ _)
theorem c_S_ofNode_199 : mCode j_S_ofNode 199 = oGetI kc_Node 14 202 := rfl
theorem e_S_ofNode_199 (a : Nat) (hk : isK h a kc_Node = true) : (WP Gm j_S_ofNode 199 (ls) (.inr (.inl (some a)) :: st) h Q) = (WP Gm j_S_ofNode 202 (ls) (.inl (gI h a 14) :: st) (h) Q) := (WP_at c_S_ofNode_199 _ _ _ _).trans (congrArg (fun o => ndX Gm (WP Gm) j_S_ofNode 199 o Q) (if_pos hk))
theorem c_S_ofNode_202 : mCode j_S_ofNode 202 = oRetI := rfl
theorem e_S_ofNode_202 (x : Int32) : (WP Gm j_S_ofNode 202 (ls) ([.inl x]) h Q) = (Q (.inl (some (.inl x))) h) := (WP_at c_S_ofNode_202 _ _ _ _)
theorem c_S_ofNode_203 : mCode j_S_ofNode 203 = oThr cM sM 0 kc_IllegalArgumentException := rfl
theorem e_S_ofNode_203 (hr : okR cM sM h 1 6 = true) : (WP Gm j_S_ofNode 203 (ls) ([]) h Q) = (Q (.inr 0) (hN h kc_IllegalArgumentException 0 6)) := (WP_at c_S_ofNode_203 _ _ _ _).trans (congrArg (fun o => ndX Gm (WP Gm) j_S_ofNode 203 o Q) (if_pos hr))
theorem c_S_inQueue_0 : mCode j_S_inQueue 0 = oAld 0 1 := rfl
theorem e_S_inQueue_0 (x : Option Nat) : (WP Gm j_S_inQueue 0 (some (.inr (.inl x)) :: ls) (st) h Q) = (WP Gm j_S_inQueue 1 (some (.inr (.inl x)) :: ls) (.inr (.inl x) :: st) (h) Q) := (WP_at c_S_inQueue_0 _ _ _ _)
theorem c_S_inQueue_1 : mCode j_S_inQueue 1 = oIld 1 2 := rfl
theorem e_S_inQueue_1 (a0 : Option MV) (x : Int32) : (WP Gm j_S_inQueue 1 (a0 :: some (.inl x) :: ls) (st) h Q) = (WP Gm j_S_inQueue 2 (a0 :: some (.inl x) :: ls) (.inl x :: st) (h) Q) := (WP_at c_S_inQueue_1 _ _ _ _)
theorem c_S_inQueue_2 : mCode j_S_inQueue 2 = oCallV kc_S j_S_checkNode 1 (mL j_S_checkNode) 5 := rfl
theorem e_S_inQueue_2 (a : Nat) (x0 : Int32) (hk : isK h a kc_S = true) (hc : c8 st = true) : (WP Gm j_S_inQueue 2 (ls) (.inl x0 :: .inr (.inl (some a)) :: st) h Q) = (WP Gm j_S_checkNode 0 [some (.inr (.inl (some a))), some (.inl x0)] [] h (kC (fun v h2 => WP Gm j_S_inQueue 5 ls (v.toList ++ st) h2 Q) (fun E h2 => Q (.inr E) h2))) := (WP_at c_S_inQueue_2 _ _ _ _).trans (congrArg (fun o => ndX Gm (WP Gm) j_S_inQueue 2 o Q) (if_pos (by rw [hk, show decide (catS st ≤ 8) = true from hc]; rfl)))
theorem c_S_inQueue_5 : mCode j_S_inQueue 5 = oIld 2 6 := rfl
theorem e_S_inQueue_5 (a0 a1 : Option MV) (x : Int32) : (WP Gm j_S_inQueue 5 (a0 :: a1 :: some (.inl x) :: ls) (st) h Q) = (WP Gm j_S_inQueue 6 (a0 :: a1 :: some (.inl x) :: ls) (.inl x :: st) (h) Q) := (WP_at c_S_inQueue_5 _ _ _ _)
theorem c_S_inQueue_6 : mCode j_S_inQueue 6 = oIf (fun x => decide (x < 0)) 18 9 := rfl
theorem e_S_inQueue_6 (x : Int32) : (WP Gm j_S_inQueue 6 (ls) (.inl x :: st) h Q) = (if x < 0 then WP Gm j_S_inQueue 18 (ls) (st) (h) Q else WP Gm j_S_inQueue 9 (ls) (st) (h) Q) := (WP_at c_S_inQueue_6 _ _ _ _).trans (nd_if rfl _ _ _ _)
theorem c_S_inQueue_9 : mCode j_S_inQueue 9 = oIld 3 10 := rfl
theorem e_S_inQueue_9 (a0 a1 a2 : Option MV) (x : Int32) : (WP Gm j_S_inQueue 9 (a0 :: a1 :: a2 :: some (.inl x) :: ls) (st) h Q) = (WP Gm j_S_inQueue 10 (a0 :: a1 :: a2 :: some (.inl x) :: ls) (.inl x :: st) (h) Q) := (WP_at c_S_inQueue_9 _ _ _ _)
theorem c_S_inQueue_10 : mCode j_S_inQueue 10 = oI 0 11 := rfl
theorem e_S_inQueue_10  : (WP Gm j_S_inQueue 10 (ls) (st) h Q) = (WP Gm j_S_inQueue 11 (ls) (.inl 0 :: st) (h) Q) := (WP_at c_S_inQueue_10 _ _ _ _)
theorem c_S_inQueue_11 : mCode j_S_inQueue 11 = oI 4 12 := rfl
theorem e_S_inQueue_11  : (WP Gm j_S_inQueue 11 (ls) (st) h Q) = (WP Gm j_S_inQueue 12 (ls) (.inl 4 :: st) (h) Q) := (WP_at c_S_inQueue_11 _ _ _ _)
theorem c_S_inQueue_12 : mCode j_S_inQueue 12 = oCallS j_S_isWithin 3 (mL j_S_isWithin) 15 := rfl
theorem e_S_inQueue_12 (x0 : Int32) (x1 : Int32) (x2 : Int32) (hc : c8 st = true) : (WP Gm j_S_inQueue 12 (ls) (.inl x2 :: .inl x1 :: .inl x0 :: st) h Q) = (WP Gm j_S_isWithin 0 [some (.inl x0), some (.inl x1), some (.inl x2)] [] h (kC (fun v h2 => WP Gm j_S_inQueue 15 ls (v.toList ++ st) h2 Q) (fun E h2 => Q (.inr E) h2))) := (WP_at c_S_inQueue_12 _ _ _ _).trans (congrArg (fun o => ndX Gm (WP Gm) j_S_inQueue 12 o Q) (if_pos (by rw [show decide (catS st ≤ 8) = true from hc]; rfl)))
theorem c_S_inQueue_15 : mCode j_S_inQueue 15 = oIf (fun x => decide (¬ x = 0)) 28 18 := rfl
theorem e_S_inQueue_15 (x : Int32) : (WP Gm j_S_inQueue 15 (ls) (.inl x :: st) h Q) = (if ¬ x = 0 then WP Gm j_S_inQueue 28 (ls) (st) (h) Q else WP Gm j_S_inQueue 18 (ls) (st) (h) Q) := (WP_at c_S_inQueue_15 _ _ _ _).trans (nd_if rfl _ _ _ _)
theorem c_S_inQueue_18 : mCode j_S_inQueue 18 = oThr cM sM 0 kc_IllegalArgumentException := rfl
theorem e_S_inQueue_18 (hr : okR cM sM h 1 6 = true) : (WP Gm j_S_inQueue 18 (ls) ([]) h Q) = (Q (.inr 0) (hN h kc_IllegalArgumentException 0 6)) := (WP_at c_S_inQueue_18 _ _ _ _).trans (congrArg (fun o => ndX Gm (WP Gm) j_S_inQueue 18 o Q) (if_pos hr))
theorem c_S_inQueue_28 : mCode j_S_inQueue 28 = oAld 0 29 := rfl
theorem e_S_inQueue_28 (x : Option Nat) : (WP Gm j_S_inQueue 28 (some (.inr (.inl x)) :: ls) (st) h Q) = (WP Gm j_S_inQueue 29 (some (.inr (.inl x)) :: ls) (.inr (.inl x) :: st) (h) Q) := (WP_at c_S_inQueue_28 _ _ _ _)
theorem c_S_inQueue_29 : mCode j_S_inQueue 29 = oGetR kc_S 0 32 := rfl
theorem e_S_inQueue_29 (a : Nat) (hk : isK h a kc_S = true) : (WP Gm j_S_inQueue 29 (ls) (.inr (.inl (some a)) :: st) h Q) = (WP Gm j_S_inQueue 32 (ls) (.inr (.inl (gR h a 0)) :: st) (h) Q) := (WP_at c_S_inQueue_29 _ _ _ _).trans (congrArg (fun o => ndX Gm (WP Gm) j_S_inQueue 29 o Q) (if_pos hk))
theorem c_S_inQueue_32 : mCode j_S_inQueue 32 = oGetR kc_Land 0 35 := rfl
theorem e_S_inQueue_32 (a : Nat) (hk : isK h a kc_Land = true) : (WP Gm j_S_inQueue 32 (ls) (.inr (.inl (some a)) :: st) h Q) = (WP Gm j_S_inQueue 35 (ls) (.inr (.inl (gR h a 0)) :: st) (h) Q) := (WP_at c_S_inQueue_32 _ _ _ _).trans (congrArg (fun o => ndX Gm (WP Gm) j_S_inQueue 32 o Q) (if_pos hk))
theorem c_S_inQueue_35 : mCode j_S_inQueue 35 = oIld 1 36 := rfl
theorem e_S_inQueue_35 (a0 : Option MV) (x : Int32) : (WP Gm j_S_inQueue 35 (a0 :: some (.inl x) :: ls) (st) h Q) = (WP Gm j_S_inQueue 36 (a0 :: some (.inl x) :: ls) (.inl x :: st) (h) Q) := (WP_at c_S_inQueue_35 _ _ _ _)
theorem c_S_inQueue_36 : mCode j_S_inQueue 36 = oAal 2 37 := rfl
theorem e_S_inQueue_36 (a : Nat) (i : Int32) (hk : isK h a 102 = true) (hi : inL h a i = true) : (WP Gm j_S_inQueue 36 (ls) (.inl i :: .inr (.inl (some a)) :: st) h Q) = (WP Gm j_S_inQueue 37 (ls) (.inr (.inl (gR h a i.toNatClampNeg)) :: st) (h) Q) := (WP_at c_S_inQueue_36 _ _ _ _).trans (congrArg (fun o => ndX Gm (WP Gm) j_S_inQueue 36 o Q) (if_pos (by rw [hk, hi]; rfl)))
theorem c_S_inQueue_37 : mCode j_S_inQueue 37 = oGetR kc_Node 4 40 := rfl
theorem e_S_inQueue_37 (a : Nat) (hk : isK h a kc_Node = true) : (WP Gm j_S_inQueue 37 (ls) (.inr (.inl (some a)) :: st) h Q) = (WP Gm j_S_inQueue 40 (ls) (.inr (.inl (gR h a 4)) :: st) (h) Q) := (WP_at c_S_inQueue_37 _ _ _ _).trans (congrArg (fun o => ndX Gm (WP Gm) j_S_inQueue 37 o Q) (if_pos hk))
theorem c_S_inQueue_40 : mCode j_S_inQueue 40 = oIld 2 41 := rfl
theorem e_S_inQueue_40 (a0 a1 : Option MV) (x : Int32) : (WP Gm j_S_inQueue 40 (a0 :: a1 :: some (.inl x) :: ls) (st) h Q) = (WP Gm j_S_inQueue 41 (a0 :: a1 :: some (.inl x) :: ls) (.inl x :: st) (h) Q) := (WP_at c_S_inQueue_40 _ _ _ _)
theorem c_S_inQueue_41 : mCode j_S_inQueue 41 = oCallV kc_FrameQueue j_FrameQueue_at 1 (mL j_FrameQueue_at) 44 := rfl
theorem e_S_inQueue_41 (a : Nat) (x0 : Int32) (hk : isK h a kc_FrameQueue = true) (hc : c8 st = true) : (WP Gm j_S_inQueue 41 (ls) (.inl x0 :: .inr (.inl (some a)) :: st) h Q) = (WP Gm j_FrameQueue_at 0 [some (.inr (.inl (some a))), some (.inl x0)] [] h (kC (fun v h2 => WP Gm j_S_inQueue 44 ls (v.toList ++ st) h2 Q) (fun E h2 => Q (.inr E) h2))) := (WP_at c_S_inQueue_41 _ _ _ _).trans (congrArg (fun o => ndX Gm (WP Gm) j_S_inQueue 41 o Q) (if_pos (by rw [hk, show decide (catS st ≤ 8) = true from hc]; rfl)))
theorem c_S_inQueue_44 : mCode j_S_inQueue 44 = oAst 4 46 := rfl
theorem e_S_inQueue_44 (x : Option Nat) : (WP Gm j_S_inQueue 44 (ls) (.inr (.inl x) :: st) h Q) = (WP Gm j_S_inQueue 46 (lSet1 ls 4 (some (.inr (.inl x)))) (st) (h) Q) := (WP_at c_S_inQueue_44 _ _ _ _)
theorem c_S_inQueue_46 : mCode j_S_inQueue 46 = oAld 4 48 := rfl
theorem e_S_inQueue_46 (a0 a1 a2 a3 : Option MV) (x : Option Nat) : (WP Gm j_S_inQueue 46 (a0 :: a1 :: a2 :: a3 :: some (.inr (.inl x)) :: ls) (st) h Q) = (WP Gm j_S_inQueue 48 (a0 :: a1 :: a2 :: a3 :: some (.inr (.inl x)) :: ls) (.inr (.inl x) :: st) (h) Q) := (WP_at c_S_inQueue_46 _ _ _ _)
theorem c_S_inQueue_48 : mCode j_S_inQueue 48 = oIfNN 53 51 := rfl
theorem e_S_inQueue_48 (x : Option Nat) : (WP Gm j_S_inQueue 48 (ls) (.inr (.inl x) :: st) h Q) = (if x.isNone = true then WP Gm j_S_inQueue 51 (ls) (st) (h) Q else WP Gm j_S_inQueue 53 (ls) (st) (h) Q) := (WP_at c_S_inQueue_48 _ _ _ _).trans (nd_inn _ _ _ _)
theorem c_S_inQueue_51 : mCode j_S_inQueue 51 = oI (-1) 52 := rfl
theorem e_S_inQueue_51  : (WP Gm j_S_inQueue 51 (ls) (st) h Q) = (WP Gm j_S_inQueue 52 (ls) (.inl (-1) :: st) (h) Q) := (WP_at c_S_inQueue_51 _ _ _ _)
theorem c_S_inQueue_52 : mCode j_S_inQueue 52 = oRetI := rfl
theorem e_S_inQueue_52 (x : Int32) : (WP Gm j_S_inQueue 52 (ls) ([.inl x]) h Q) = (Q (.inl (some (.inl x))) h) := (WP_at c_S_inQueue_52 _ _ _ _)
theorem c_S_inQueue_53 : mCode j_S_inQueue 53 = oIld 3 54 := rfl
theorem e_S_inQueue_53 (a0 a1 a2 : Option MV) (x : Int32) : (WP Gm j_S_inQueue 53 (a0 :: a1 :: a2 :: some (.inl x) :: ls) (st) h Q) = (WP Gm j_S_inQueue 54 (a0 :: a1 :: a2 :: some (.inl x) :: ls) (.inl x :: st) (h) Q) := (WP_at c_S_inQueue_53 _ _ _ _)
theorem c_S_inQueue_54 : mCode j_S_inQueue 54 = oTsw 0 [84, 90, 96, 102] 108 := rfl
theorem e_S_inQueue_54 (x : Int32) : (WP Gm j_S_inQueue 54 (ls) (.inl x :: st) h Q) = (WP Gm j_S_inQueue (tsw 0 [84, 90, 96, 102] 108 x) (ls) (st) (h) Q) := (WP_at c_S_inQueue_54 _ _ _ _)
theorem e_S_inQueue_54c0 : (WP Gm j_S_inQueue 54 ls (.inl 0 :: st) h Q) = (WP Gm j_S_inQueue 84 ls st h Q) := by
  rw [e_S_inQueue_54]
  exact congrArg (fun k => WP Gm j_S_inQueue k ls st h Q) (by decide)
theorem e_S_inQueue_54c1 : (WP Gm j_S_inQueue 54 ls (.inl 1 :: st) h Q) = (WP Gm j_S_inQueue 90 ls st h Q) := by
  rw [e_S_inQueue_54]
  exact congrArg (fun k => WP Gm j_S_inQueue k ls st h Q) (by decide)
theorem e_S_inQueue_54c2 : (WP Gm j_S_inQueue 54 ls (.inl 2 :: st) h Q) = (WP Gm j_S_inQueue 96 ls st h Q) := by
  rw [e_S_inQueue_54]
  exact congrArg (fun k => WP Gm j_S_inQueue k ls st h Q) (by decide)
theorem e_S_inQueue_54c3 : (WP Gm j_S_inQueue 54 ls (.inl 3 :: st) h Q) = (WP Gm j_S_inQueue 102 ls st h Q) := by
  rw [e_S_inQueue_54]
  exact congrArg (fun k => WP Gm j_S_inQueue k ls st h Q) (by decide)
theorem c_S_inQueue_84 : mCode j_S_inQueue 84 = oAld 4 86 := rfl
theorem e_S_inQueue_84 (a0 a1 a2 a3 : Option MV) (x : Option Nat) : (WP Gm j_S_inQueue 84 (a0 :: a1 :: a2 :: a3 :: some (.inr (.inl x)) :: ls) (st) h Q) = (WP Gm j_S_inQueue 86 (a0 :: a1 :: a2 :: a3 :: some (.inr (.inl x)) :: ls) (.inr (.inl x) :: st) (h) Q) := (WP_at c_S_inQueue_84 _ _ _ _)
theorem c_S_inQueue_86 : mCode j_S_inQueue 86 = oGetI kc_Frame 0 89 := rfl
theorem e_S_inQueue_86 (a : Nat) (hk : isK h a kc_Frame = true) : (WP Gm j_S_inQueue 86 (ls) (.inr (.inl (some a)) :: st) h Q) = (WP Gm j_S_inQueue 89 (ls) (.inl (gI h a 0) :: st) (h) Q) := (WP_at c_S_inQueue_86 _ _ _ _).trans (congrArg (fun o => ndX Gm (WP Gm) j_S_inQueue 86 o Q) (if_pos hk))
theorem c_S_inQueue_89 : mCode j_S_inQueue 89 = oRetI := rfl
theorem e_S_inQueue_89 (x : Int32) : (WP Gm j_S_inQueue 89 (ls) ([.inl x]) h Q) = (Q (.inl (some (.inl x))) h) := (WP_at c_S_inQueue_89 _ _ _ _)
theorem c_S_inQueue_90 : mCode j_S_inQueue 90 = oAld 4 92 := rfl
theorem e_S_inQueue_90 (a0 a1 a2 a3 : Option MV) (x : Option Nat) : (WP Gm j_S_inQueue 90 (a0 :: a1 :: a2 :: a3 :: some (.inr (.inl x)) :: ls) (st) h Q) = (WP Gm j_S_inQueue 92 (a0 :: a1 :: a2 :: a3 :: some (.inr (.inl x)) :: ls) (.inr (.inl x) :: st) (h) Q) := (WP_at c_S_inQueue_90 _ _ _ _)
theorem c_S_inQueue_92 : mCode j_S_inQueue 92 = oGetI kc_Frame 1 95 := rfl
theorem e_S_inQueue_92 (a : Nat) (hk : isK h a kc_Frame = true) : (WP Gm j_S_inQueue 92 (ls) (.inr (.inl (some a)) :: st) h Q) = (WP Gm j_S_inQueue 95 (ls) (.inl (gI h a 1) :: st) (h) Q) := (WP_at c_S_inQueue_92 _ _ _ _).trans (congrArg (fun o => ndX Gm (WP Gm) j_S_inQueue 92 o Q) (if_pos hk))
theorem c_S_inQueue_95 : mCode j_S_inQueue 95 = oRetI := rfl
theorem e_S_inQueue_95 (x : Int32) : (WP Gm j_S_inQueue 95 (ls) ([.inl x]) h Q) = (Q (.inl (some (.inl x))) h) := (WP_at c_S_inQueue_95 _ _ _ _)
theorem c_S_inQueue_96 : mCode j_S_inQueue 96 = oAld 4 98 := rfl
theorem e_S_inQueue_96 (a0 a1 a2 a3 : Option MV) (x : Option Nat) : (WP Gm j_S_inQueue 96 (a0 :: a1 :: a2 :: a3 :: some (.inr (.inl x)) :: ls) (st) h Q) = (WP Gm j_S_inQueue 98 (a0 :: a1 :: a2 :: a3 :: some (.inr (.inl x)) :: ls) (.inr (.inl x) :: st) (h) Q) := (WP_at c_S_inQueue_96 _ _ _ _)
theorem c_S_inQueue_98 : mCode j_S_inQueue 98 = oGetI kc_Frame 2 101 := rfl
theorem e_S_inQueue_98 (a : Nat) (hk : isK h a kc_Frame = true) : (WP Gm j_S_inQueue 98 (ls) (.inr (.inl (some a)) :: st) h Q) = (WP Gm j_S_inQueue 101 (ls) (.inl (gI h a 2) :: st) (h) Q) := (WP_at c_S_inQueue_98 _ _ _ _).trans (congrArg (fun o => ndX Gm (WP Gm) j_S_inQueue 98 o Q) (if_pos hk))
theorem c_S_inQueue_101 : mCode j_S_inQueue 101 = oRetI := rfl
theorem e_S_inQueue_101 (x : Int32) : (WP Gm j_S_inQueue 101 (ls) ([.inl x]) h Q) = (Q (.inl (some (.inl x))) h) := (WP_at c_S_inQueue_101 _ _ _ _)
theorem c_S_inQueue_102 : mCode j_S_inQueue 102 = oAld 4 104 := rfl
theorem e_S_inQueue_102 (a0 a1 a2 a3 : Option MV) (x : Option Nat) : (WP Gm j_S_inQueue 102 (a0 :: a1 :: a2 :: a3 :: some (.inr (.inl x)) :: ls) (st) h Q) = (WP Gm j_S_inQueue 104 (a0 :: a1 :: a2 :: a3 :: some (.inr (.inl x)) :: ls) (.inr (.inl x) :: st) (h) Q) := (WP_at c_S_inQueue_102 _ _ _ _)
theorem c_S_inQueue_104 : mCode j_S_inQueue 104 = oGetI kc_Frame 3 107 := rfl
theorem e_S_inQueue_104 (a : Nat) (hk : isK h a kc_Frame = true) : (WP Gm j_S_inQueue 104 (ls) (.inr (.inl (some a)) :: st) h Q) = (WP Gm j_S_inQueue 107 (ls) (.inl (gI h a 3) :: st) (h) Q) := (WP_at c_S_inQueue_104 _ _ _ _).trans (congrArg (fun o => ndX Gm (WP Gm) j_S_inQueue 104 o Q) (if_pos hk))
theorem c_S_inQueue_107 : mCode j_S_inQueue 107 = oRetI := rfl
theorem e_S_inQueue_107 (x : Int32) : (WP Gm j_S_inQueue 107 (ls) ([.inl x]) h Q) = (Q (.inl (some (.inl x))) h) := (WP_at c_S_inQueue_107 _ _ _ _)
theorem c_S_inQueue_108 : mCode j_S_inQueue 108 = oAld 4 110 := rfl
theorem e_S_inQueue_108 (a0 a1 a2 a3 : Option MV) (x : Option Nat) : (WP Gm j_S_inQueue 108 (a0 :: a1 :: a2 :: a3 :: some (.inr (.inl x)) :: ls) (st) h Q) = (WP Gm j_S_inQueue 110 (a0 :: a1 :: a2 :: a3 :: some (.inr (.inl x)) :: ls) (.inr (.inl x) :: st) (h) Q) := (WP_at c_S_inQueue_108 _ _ _ _)
theorem c_S_inQueue_110 : mCode j_S_inQueue 110 = oGetI kc_Frame 4 113 := rfl
theorem e_S_inQueue_110 (a : Nat) (hk : isK h a kc_Frame = true) : (WP Gm j_S_inQueue 110 (ls) (.inr (.inl (some a)) :: st) h Q) = (WP Gm j_S_inQueue 113 (ls) (.inl (gI h a 4) :: st) (h) Q) := (WP_at c_S_inQueue_110 _ _ _ _).trans (congrArg (fun o => ndX Gm (WP Gm) j_S_inQueue 110 o Q) (if_pos hk))
theorem c_S_inQueue_113 : mCode j_S_inQueue 113 = oRetI := rfl
theorem e_S_inQueue_113 (x : Int32) : (WP Gm j_S_inQueue 113 (ls) ([.inl x]) h Q) = (Q (.inl (some (.inl x))) h) := (WP_at c_S_inQueue_113 _ _ _ _)
theorem c_S_route_0 : mCode j_S_route 0 = oAld 0 1 := rfl
theorem e_S_route_0 (x : Option Nat) : (WP Gm j_S_route 0 (some (.inr (.inl x)) :: ls) (st) h Q) = (WP Gm j_S_route 1 (some (.inr (.inl x)) :: ls) (.inr (.inl x) :: st) (h) Q) := (WP_at c_S_route_0 _ _ _ _)
theorem c_S_route_1 : mCode j_S_route 1 = oIld 1 2 := rfl
theorem e_S_route_1 (a0 : Option MV) (x : Int32) : (WP Gm j_S_route 1 (a0 :: some (.inl x) :: ls) (st) h Q) = (WP Gm j_S_route 2 (a0 :: some (.inl x) :: ls) (.inl x :: st) (h) Q) := (WP_at c_S_route_1 _ _ _ _)
theorem c_S_route_2 : mCode j_S_route 2 = oIld 2 3 := rfl
theorem e_S_route_2 (a0 a1 : Option MV) (x : Int32) : (WP Gm j_S_route 2 (a0 :: a1 :: some (.inl x) :: ls) (st) h Q) = (WP Gm j_S_route 3 (a0 :: a1 :: some (.inl x) :: ls) (.inl x :: st) (h) Q) := (WP_at c_S_route_2 _ _ _ _)
theorem c_S_route_3 : mCode j_S_route 3 = oCallV kc_S j_S_checkPair 2 (mL j_S_checkPair) 6 := rfl
theorem e_S_route_3 (a : Nat) (x0 : Int32) (x1 : Int32) (hk : isK h a kc_S = true) (hc : c8 st = true) : (WP Gm j_S_route 3 (ls) (.inl x1 :: .inl x0 :: .inr (.inl (some a)) :: st) h Q) = (WP Gm j_S_checkPair 0 [some (.inr (.inl (some a))), some (.inl x0), some (.inl x1)] [] h (kC (fun v h2 => WP Gm j_S_route 6 ls (v.toList ++ st) h2 Q) (fun E h2 => Q (.inr E) h2))) := (WP_at c_S_route_3 _ _ _ _).trans (congrArg (fun o => ndX Gm (WP Gm) j_S_route 3 o Q) (if_pos (by rw [hk, show decide (catS st ≤ 8) = true from hc]; rfl)))
theorem c_S_route_6 : mCode j_S_route 6 = oIld 3 7 := rfl
theorem e_S_route_6 (a0 a1 a2 : Option MV) (x : Int32) : (WP Gm j_S_route 6 (a0 :: a1 :: a2 :: some (.inl x) :: ls) (st) h Q) = (WP Gm j_S_route 7 (a0 :: a1 :: a2 :: some (.inl x) :: ls) (.inl x :: st) (h) Q) := (WP_at c_S_route_6 _ _ _ _)
theorem c_S_route_7 : mCode j_S_route 7 = oTsw 0 [36, 46, 56, 66] 84 := rfl
theorem e_S_route_7 (x : Int32) : (WP Gm j_S_route 7 (ls) (.inl x :: st) h Q) = (WP Gm j_S_route (tsw 0 [36, 46, 56, 66] 84 x) (ls) (st) (h) Q) := (WP_at c_S_route_7 _ _ _ _)
theorem e_S_route_7c0 : (WP Gm j_S_route 7 ls (.inl 0 :: st) h Q) = (WP Gm j_S_route 36 ls st h Q) := by
  rw [e_S_route_7]
  exact congrArg (fun k => WP Gm j_S_route k ls st h Q) (by decide)
theorem e_S_route_7c1 : (WP Gm j_S_route 7 ls (.inl 1 :: st) h Q) = (WP Gm j_S_route 46 ls st h Q) := by
  rw [e_S_route_7]
  exact congrArg (fun k => WP Gm j_S_route k ls st h Q) (by decide)
theorem e_S_route_7c2 : (WP Gm j_S_route 7 ls (.inl 2 :: st) h Q) = (WP Gm j_S_route 56 ls st h Q) := by
  rw [e_S_route_7]
  exact congrArg (fun k => WP Gm j_S_route k ls st h Q) (by decide)
theorem e_S_route_7c3 : (WP Gm j_S_route 7 ls (.inl 3 :: st) h Q) = (WP Gm j_S_route 66 ls st h Q) := by
  rw [e_S_route_7]
  exact congrArg (fun k => WP Gm j_S_route k ls st h Q) (by decide)
theorem c_S_route_36 : mCode j_S_route 36 = oAld 0 37 := rfl
theorem e_S_route_36 (x : Option Nat) : (WP Gm j_S_route 36 (some (.inr (.inl x)) :: ls) (st) h Q) = (WP Gm j_S_route 37 (some (.inr (.inl x)) :: ls) (.inr (.inl x) :: st) (h) Q) := (WP_at c_S_route_36 _ _ _ _)
theorem c_S_route_37 : mCode j_S_route 37 = oGetR kc_S 1 40 := rfl
theorem e_S_route_37 (a : Nat) (hk : isK h a kc_S = true) : (WP Gm j_S_route 37 (ls) (.inr (.inl (some a)) :: st) h Q) = (WP Gm j_S_route 40 (ls) (.inr (.inl (gR h a 1)) :: st) (h) Q) := (WP_at c_S_route_37 _ _ _ _).trans (congrArg (fun o => ndX Gm (WP Gm) j_S_route 37 o Q) (if_pos hk))
theorem c_S_route_40 : mCode j_S_route 40 = oIld 1 41 := rfl
theorem e_S_route_40 (a0 : Option MV) (x : Int32) : (WP Gm j_S_route 40 (a0 :: some (.inl x) :: ls) (st) h Q) = (WP Gm j_S_route 41 (a0 :: some (.inl x) :: ls) (.inl x :: st) (h) Q) := (WP_at c_S_route_40 _ _ _ _)
theorem c_S_route_41 : mCode j_S_route 41 = oIld 2 42 := rfl
theorem e_S_route_41 (a0 a1 : Option MV) (x : Int32) : (WP Gm j_S_route 41 (a0 :: a1 :: some (.inl x) :: ls) (st) h Q) = (WP Gm j_S_route 42 (a0 :: a1 :: some (.inl x) :: ls) (.inl x :: st) (h) Q) := (WP_at c_S_route_41 _ _ _ _)
theorem c_S_route_42 : mCode j_S_route 42 = oCallV kc_Routes j_Routes_costOf 2 (mL j_Routes_costOf) 45 := rfl
theorem e_S_route_42 (a : Nat) (x0 : Int32) (x1 : Int32) (hk : isK h a kc_Routes = true) (hc : c8 st = true) : (WP Gm j_S_route 42 (ls) (.inl x1 :: .inl x0 :: .inr (.inl (some a)) :: st) h Q) = (WP Gm j_Routes_costOf 0 [some (.inr (.inl (some a))), some (.inl x0), some (.inl x1)] [] h (kC (fun v h2 => WP Gm j_S_route 45 ls (v.toList ++ st) h2 Q) (fun E h2 => Q (.inr E) h2))) := (WP_at c_S_route_42 _ _ _ _).trans (congrArg (fun o => ndX Gm (WP Gm) j_S_route 42 o Q) (if_pos (by rw [hk, show decide (catS st ≤ 8) = true from hc]; rfl)))
theorem c_S_route_45 : mCode j_S_route 45 = oRetI := rfl
theorem e_S_route_45 (x : Int32) : (WP Gm j_S_route 45 (ls) ([.inl x]) h Q) = (Q (.inl (some (.inl x))) h) := (WP_at c_S_route_45 _ _ _ _)
theorem c_S_route_46 : mCode j_S_route 46 = oAld 0 47 := rfl
theorem e_S_route_46 (x : Option Nat) : (WP Gm j_S_route 46 (some (.inr (.inl x)) :: ls) (st) h Q) = (WP Gm j_S_route 47 (some (.inr (.inl x)) :: ls) (.inr (.inl x) :: st) (h) Q) := (WP_at c_S_route_46 _ _ _ _)
theorem c_S_route_47 : mCode j_S_route 47 = oGetR kc_S 1 50 := rfl
theorem e_S_route_47 (a : Nat) (hk : isK h a kc_S = true) : (WP Gm j_S_route 47 (ls) (.inr (.inl (some a)) :: st) h Q) = (WP Gm j_S_route 50 (ls) (.inr (.inl (gR h a 1)) :: st) (h) Q) := (WP_at c_S_route_47 _ _ _ _).trans (congrArg (fun o => ndX Gm (WP Gm) j_S_route 47 o Q) (if_pos hk))
theorem c_S_route_50 : mCode j_S_route 50 = oIld 1 51 := rfl
theorem e_S_route_50 (a0 : Option MV) (x : Int32) : (WP Gm j_S_route 50 (a0 :: some (.inl x) :: ls) (st) h Q) = (WP Gm j_S_route 51 (a0 :: some (.inl x) :: ls) (.inl x :: st) (h) Q) := (WP_at c_S_route_50 _ _ _ _)
theorem c_S_route_51 : mCode j_S_route 51 = oIld 2 52 := rfl
theorem e_S_route_51 (a0 a1 : Option MV) (x : Int32) : (WP Gm j_S_route 51 (a0 :: a1 :: some (.inl x) :: ls) (st) h Q) = (WP Gm j_S_route 52 (a0 :: a1 :: some (.inl x) :: ls) (.inl x :: st) (h) Q) := (WP_at c_S_route_51 _ _ _ _)
theorem c_S_route_52 : mCode j_S_route 52 = oCallV kc_Routes j_Routes_nextOf 2 (mL j_Routes_nextOf) 55 := rfl
theorem e_S_route_52 (a : Nat) (x0 : Int32) (x1 : Int32) (hk : isK h a kc_Routes = true) (hc : c8 st = true) : (WP Gm j_S_route 52 (ls) (.inl x1 :: .inl x0 :: .inr (.inl (some a)) :: st) h Q) = (WP Gm j_Routes_nextOf 0 [some (.inr (.inl (some a))), some (.inl x0), some (.inl x1)] [] h (kC (fun v h2 => WP Gm j_S_route 55 ls (v.toList ++ st) h2 Q) (fun E h2 => Q (.inr E) h2))) := (WP_at c_S_route_52 _ _ _ _).trans (congrArg (fun o => ndX Gm (WP Gm) j_S_route 52 o Q) (if_pos (by rw [hk, show decide (catS st ≤ 8) = true from hc]; rfl)))
theorem c_S_route_55 : mCode j_S_route 55 = oRetI := rfl
theorem e_S_route_55 (x : Int32) : (WP Gm j_S_route 55 (ls) ([.inl x]) h Q) = (Q (.inl (some (.inl x))) h) := (WP_at c_S_route_55 _ _ _ _)
theorem c_S_route_56 : mCode j_S_route 56 = oAld 0 57 := rfl
theorem e_S_route_56 (x : Option Nat) : (WP Gm j_S_route 56 (some (.inr (.inl x)) :: ls) (st) h Q) = (WP Gm j_S_route 57 (some (.inr (.inl x)) :: ls) (.inr (.inl x) :: st) (h) Q) := (WP_at c_S_route_56 _ _ _ _)
theorem c_S_route_57 : mCode j_S_route 57 = oGetR kc_S 1 60 := rfl
theorem e_S_route_57 (a : Nat) (hk : isK h a kc_S = true) : (WP Gm j_S_route 57 (ls) (.inr (.inl (some a)) :: st) h Q) = (WP Gm j_S_route 60 (ls) (.inr (.inl (gR h a 1)) :: st) (h) Q) := (WP_at c_S_route_57 _ _ _ _).trans (congrArg (fun o => ndX Gm (WP Gm) j_S_route 57 o Q) (if_pos hk))
theorem c_S_route_60 : mCode j_S_route 60 = oIld 1 61 := rfl
theorem e_S_route_60 (a0 : Option MV) (x : Int32) : (WP Gm j_S_route 60 (a0 :: some (.inl x) :: ls) (st) h Q) = (WP Gm j_S_route 61 (a0 :: some (.inl x) :: ls) (.inl x :: st) (h) Q) := (WP_at c_S_route_60 _ _ _ _)
theorem c_S_route_61 : mCode j_S_route 61 = oIld 2 62 := rfl
theorem e_S_route_61 (a0 a1 : Option MV) (x : Int32) : (WP Gm j_S_route 61 (a0 :: a1 :: some (.inl x) :: ls) (st) h Q) = (WP Gm j_S_route 62 (a0 :: a1 :: some (.inl x) :: ls) (.inl x :: st) (h) Q) := (WP_at c_S_route_61 _ _ _ _)
theorem c_S_route_62 : mCode j_S_route 62 = oCallV kc_Routes j_Routes_wayLength 2 (mL j_Routes_wayLength) 65 := rfl
theorem e_S_route_62 (a : Nat) (x0 : Int32) (x1 : Int32) (hk : isK h a kc_Routes = true) (hc : c8 st = true) : (WP Gm j_S_route 62 (ls) (.inl x1 :: .inl x0 :: .inr (.inl (some a)) :: st) h Q) = (WP Gm j_Routes_wayLength 0 [some (.inr (.inl (some a))), some (.inl x0), some (.inl x1), none] [] h (kC (fun v h2 => WP Gm j_S_route 65 ls (v.toList ++ st) h2 Q) (fun E h2 => Q (.inr E) h2))) := (WP_at c_S_route_62 _ _ _ _).trans (congrArg (fun o => ndX Gm (WP Gm) j_S_route 62 o Q) (if_pos (by rw [hk, show decide (catS st ≤ 8) = true from hc]; rfl)))
theorem c_S_route_65 : mCode j_S_route 65 = oRetI := rfl
theorem e_S_route_65 (x : Int32) : (WP Gm j_S_route 65 (ls) ([.inl x]) h Q) = (Q (.inl (some (.inl x))) h) := (WP_at c_S_route_65 _ _ _ _)
theorem c_S_route_66 : mCode j_S_route 66 = oAld 0 67 := rfl
theorem e_S_route_66 (x : Option Nat) : (WP Gm j_S_route 66 (some (.inr (.inl x)) :: ls) (st) h Q) = (WP Gm j_S_route 67 (some (.inr (.inl x)) :: ls) (.inr (.inl x) :: st) (h) Q) := (WP_at c_S_route_66 _ _ _ _)
theorem c_S_route_67 : mCode j_S_route 67 = oGetR kc_S 1 70 := rfl
theorem e_S_route_67 (a : Nat) (hk : isK h a kc_S = true) : (WP Gm j_S_route 67 (ls) (.inr (.inl (some a)) :: st) h Q) = (WP Gm j_S_route 70 (ls) (.inr (.inl (gR h a 1)) :: st) (h) Q) := (WP_at c_S_route_67 _ _ _ _).trans (congrArg (fun o => ndX Gm (WP Gm) j_S_route 67 o Q) (if_pos hk))
theorem c_S_route_70 : mCode j_S_route 70 = oIld 1 71 := rfl
theorem e_S_route_70 (a0 : Option MV) (x : Int32) : (WP Gm j_S_route 70 (a0 :: some (.inl x) :: ls) (st) h Q) = (WP Gm j_S_route 71 (a0 :: some (.inl x) :: ls) (.inl x :: st) (h) Q) := (WP_at c_S_route_70 _ _ _ _)
theorem c_S_route_71 : mCode j_S_route 71 = oIld 2 72 := rfl
theorem e_S_route_71 (a0 a1 : Option MV) (x : Int32) : (WP Gm j_S_route 71 (a0 :: a1 :: some (.inl x) :: ls) (st) h Q) = (WP Gm j_S_route 72 (a0 :: a1 :: some (.inl x) :: ls) (.inl x :: st) (h) Q) := (WP_at c_S_route_71 _ _ _ _)
theorem c_S_route_72 : mCode j_S_route 72 = oCallV kc_Routes j_Routes_hasCircle 2 (mL j_Routes_hasCircle) 75 := rfl
theorem e_S_route_72 (a : Nat) (x0 : Int32) (x1 : Int32) (hk : isK h a kc_Routes = true) (hc : c8 st = true) : (WP Gm j_S_route 72 (ls) (.inl x1 :: .inl x0 :: .inr (.inl (some a)) :: st) h Q) = (WP Gm j_Routes_hasCircle 0 [some (.inr (.inl (some a))), some (.inl x0), some (.inl x1)] [] h (kC (fun v h2 => WP Gm j_S_route 75 ls (v.toList ++ st) h2 Q) (fun E h2 => Q (.inr E) h2))) := (WP_at c_S_route_72 _ _ _ _).trans (congrArg (fun o => ndX Gm (WP Gm) j_S_route 72 o Q) (if_pos (by rw [hk, show decide (catS st ≤ 8) = true from hc]; rfl)))
theorem c_S_route_75 : mCode j_S_route 75 = oIf (fun x => decide (x = 0)) 82 78 := rfl
theorem e_S_route_75 (x : Int32) : (WP Gm j_S_route 75 (ls) (.inl x :: st) h Q) = (if x = 0 then WP Gm j_S_route 82 (ls) (st) (h) Q else WP Gm j_S_route 78 (ls) (st) (h) Q) := (WP_at c_S_route_75 _ _ _ _).trans (nd_if rfl _ _ _ _)
theorem c_S_route_78 : mCode j_S_route 78 = oI 1 79 := rfl
theorem e_S_route_78  : (WP Gm j_S_route 78 (ls) (st) h Q) = (WP Gm j_S_route 79 (ls) (.inl 1 :: st) (h) Q) := (WP_at c_S_route_78 _ _ _ _)
theorem c_S_route_79 : mCode j_S_route 79 = oGo 83 := rfl
theorem e_S_route_79  : (WP Gm j_S_route 79 (ls) (st) h Q) = (WP Gm j_S_route 83 (ls) (st) (h) Q) := (WP_at c_S_route_79 _ _ _ _)
theorem c_S_route_82 : mCode j_S_route 82 = oI 0 83 := rfl
theorem e_S_route_82  : (WP Gm j_S_route 82 (ls) (st) h Q) = (WP Gm j_S_route 83 (ls) (.inl 0 :: st) (h) Q) := (WP_at c_S_route_82 _ _ _ _)
theorem c_S_route_83 : mCode j_S_route 83 = oRetI := rfl
theorem e_S_route_83 (x : Int32) : (WP Gm j_S_route 83 (ls) ([.inl x]) h Q) = (Q (.inl (some (.inl x))) h) := (WP_at c_S_route_83 _ _ _ _)
theorem c_S_route_84 : mCode j_S_route 84 = oThr cM sM 0 kc_IllegalArgumentException := rfl
theorem e_S_route_84 (hr : okR cM sM h 1 6 = true) : (WP Gm j_S_route 84 (ls) ([]) h Q) = (Q (.inr 0) (hN h kc_IllegalArgumentException 0 6)) := (WP_at c_S_route_84 _ _ _ _).trans (congrArg (fun o => ndX Gm (WP Gm) j_S_route 84 o Q) (if_pos hr))
theorem c_S_air_0 : mCode j_S_air 0 = oIld 1 1 := rfl
theorem e_S_air_0 (a0 : Option MV) (x : Int32) : (WP Gm j_S_air 0 (a0 :: some (.inl x) :: ls) (st) h Q) = (WP Gm j_S_air 1 (a0 :: some (.inl x) :: ls) (.inl x :: st) (h) Q) := (WP_at c_S_air_0 _ _ _ _)
theorem c_S_air_1 : mCode j_S_air 1 = oTsw 0 [68, 76, 84, 92, 103, 111, 119, 127, 135, 143, 151, 159, 164] 172 := rfl
theorem e_S_air_1 (x : Int32) : (WP Gm j_S_air 1 (ls) (.inl x :: st) h Q) = (WP Gm j_S_air (tsw 0 [68, 76, 84, 92, 103, 111, 119, 127, 135, 143, 151, 159, 164] 172 x) (ls) (st) (h) Q) := (WP_at c_S_air_1 _ _ _ _)
theorem e_S_air_1c0 : (WP Gm j_S_air 1 ls (.inl 0 :: st) h Q) = (WP Gm j_S_air 68 ls st h Q) := by
  rw [e_S_air_1]
  exact congrArg (fun k => WP Gm j_S_air k ls st h Q) (by decide)
theorem e_S_air_1c1 : (WP Gm j_S_air 1 ls (.inl 1 :: st) h Q) = (WP Gm j_S_air 76 ls st h Q) := by
  rw [e_S_air_1]
  exact congrArg (fun k => WP Gm j_S_air k ls st h Q) (by decide)
theorem e_S_air_1c2 : (WP Gm j_S_air 1 ls (.inl 2 :: st) h Q) = (WP Gm j_S_air 84 ls st h Q) := by
  rw [e_S_air_1]
  exact congrArg (fun k => WP Gm j_S_air k ls st h Q) (by decide)
theorem e_S_air_1c3 : (WP Gm j_S_air 1 ls (.inl 3 :: st) h Q) = (WP Gm j_S_air 92 ls st h Q) := by
  rw [e_S_air_1]
  exact congrArg (fun k => WP Gm j_S_air k ls st h Q) (by decide)
theorem e_S_air_1c4 : (WP Gm j_S_air 1 ls (.inl 4 :: st) h Q) = (WP Gm j_S_air 103 ls st h Q) := by
  rw [e_S_air_1]
  exact congrArg (fun k => WP Gm j_S_air k ls st h Q) (by decide)
theorem e_S_air_1c5 : (WP Gm j_S_air 1 ls (.inl 5 :: st) h Q) = (WP Gm j_S_air 111 ls st h Q) := by
  rw [e_S_air_1]
  exact congrArg (fun k => WP Gm j_S_air k ls st h Q) (by decide)
theorem e_S_air_1c6 : (WP Gm j_S_air 1 ls (.inl 6 :: st) h Q) = (WP Gm j_S_air 119 ls st h Q) := by
  rw [e_S_air_1]
  exact congrArg (fun k => WP Gm j_S_air k ls st h Q) (by decide)
theorem e_S_air_1c7 : (WP Gm j_S_air 1 ls (.inl 7 :: st) h Q) = (WP Gm j_S_air 127 ls st h Q) := by
  rw [e_S_air_1]
  exact congrArg (fun k => WP Gm j_S_air k ls st h Q) (by decide)
theorem e_S_air_1c8 : (WP Gm j_S_air 1 ls (.inl 8 :: st) h Q) = (WP Gm j_S_air 135 ls st h Q) := by
  rw [e_S_air_1]
  exact congrArg (fun k => WP Gm j_S_air k ls st h Q) (by decide)
theorem e_S_air_1c9 : (WP Gm j_S_air 1 ls (.inl 9 :: st) h Q) = (WP Gm j_S_air 143 ls st h Q) := by
  rw [e_S_air_1]
  exact congrArg (fun k => WP Gm j_S_air k ls st h Q) (by decide)
theorem e_S_air_1c10 : (WP Gm j_S_air 1 ls (.inl 10 :: st) h Q) = (WP Gm j_S_air 151 ls st h Q) := by
  rw [e_S_air_1]
  exact congrArg (fun k => WP Gm j_S_air k ls st h Q) (by decide)
theorem e_S_air_1c11 : (WP Gm j_S_air 1 ls (.inl 11 :: st) h Q) = (WP Gm j_S_air 159 ls st h Q) := by
  rw [e_S_air_1]
  exact congrArg (fun k => WP Gm j_S_air k ls st h Q) (by decide)
theorem e_S_air_1c12 : (WP Gm j_S_air 1 ls (.inl 12 :: st) h Q) = (WP Gm j_S_air 164 ls st h Q) := by
  rw [e_S_air_1]
  exact congrArg (fun k => WP Gm j_S_air k ls st h Q) (by decide)
theorem c_S_air_68 : mCode j_S_air 68 = oAld 0 69 := rfl
theorem e_S_air_68 (x : Option Nat) : (WP Gm j_S_air 68 (some (.inr (.inl x)) :: ls) (st) h Q) = (WP Gm j_S_air 69 (some (.inr (.inl x)) :: ls) (.inr (.inl x) :: st) (h) Q) := (WP_at c_S_air_68 _ _ _ _)
theorem c_S_air_69 : mCode j_S_air 69 = oGetR kc_S 2 72 := rfl
theorem e_S_air_69 (a : Nat) (hk : isK h a kc_S = true) : (WP Gm j_S_air 69 (ls) (.inr (.inl (some a)) :: st) h Q) = (WP Gm j_S_air 72 (ls) (.inr (.inl (gR h a 2)) :: st) (h) Q) := (WP_at c_S_air_69 _ _ _ _).trans (congrArg (fun o => ndX Gm (WP Gm) j_S_air 69 o Q) (if_pos hk))
theorem c_S_air_72 : mCode j_S_air 72 = oGetI kc_Traffic 2 75 := rfl
theorem e_S_air_72 (a : Nat) (hk : isK h a kc_Traffic = true) : (WP Gm j_S_air 72 (ls) (.inr (.inl (some a)) :: st) h Q) = (WP Gm j_S_air 75 (ls) (.inl (gI h a 2) :: st) (h) Q) := (WP_at c_S_air_72 _ _ _ _).trans (congrArg (fun o => ndX Gm (WP Gm) j_S_air 72 o Q) (if_pos hk))
theorem c_S_air_75 : mCode j_S_air 75 = oRetI := rfl
theorem e_S_air_75 (x : Int32) : (WP Gm j_S_air 75 (ls) ([.inl x]) h Q) = (Q (.inl (some (.inl x))) h) := (WP_at c_S_air_75 _ _ _ _)
theorem c_S_air_76 : mCode j_S_air 76 = oAld 0 77 := rfl
theorem e_S_air_76 (x : Option Nat) : (WP Gm j_S_air 76 (some (.inr (.inl x)) :: ls) (st) h Q) = (WP Gm j_S_air 77 (some (.inr (.inl x)) :: ls) (.inr (.inl x) :: st) (h) Q) := (WP_at c_S_air_76 _ _ _ _)
theorem c_S_air_77 : mCode j_S_air 77 = oGetR kc_S 0 80 := rfl
theorem e_S_air_77 (a : Nat) (hk : isK h a kc_S = true) : (WP Gm j_S_air 77 (ls) (.inr (.inl (some a)) :: st) h Q) = (WP Gm j_S_air 80 (ls) (.inr (.inl (gR h a 0)) :: st) (h) Q) := (WP_at c_S_air_77 _ _ _ _).trans (congrArg (fun o => ndX Gm (WP Gm) j_S_air 77 o Q) (if_pos hk))
theorem c_S_air_80 : mCode j_S_air 80 = oGetI kc_Land 2 83 := rfl
theorem e_S_air_80 (a : Nat) (hk : isK h a kc_Land = true) : (WP Gm j_S_air 80 (ls) (.inr (.inl (some a)) :: st) h Q) = (WP Gm j_S_air 83 (ls) (.inl (gI h a 2) :: st) (h) Q) := (WP_at c_S_air_80 _ _ _ _).trans (congrArg (fun o => ndX Gm (WP Gm) j_S_air 80 o Q) (if_pos hk))
theorem c_S_air_83 : mCode j_S_air 83 = oRetI := rfl
theorem e_S_air_83 (x : Int32) : (WP Gm j_S_air 83 (ls) ([.inl x]) h Q) = (Q (.inl (some (.inl x))) h) := (WP_at c_S_air_83 _ _ _ _)
theorem c_S_air_84 : mCode j_S_air 84 = oAld 0 85 := rfl
theorem e_S_air_84 (x : Option Nat) : (WP Gm j_S_air 84 (some (.inr (.inl x)) :: ls) (st) h Q) = (WP Gm j_S_air 85 (some (.inr (.inl x)) :: ls) (.inr (.inl x) :: st) (h) Q) := (WP_at c_S_air_84 _ _ _ _)
theorem c_S_air_85 : mCode j_S_air 85 = oGetR kc_S 2 88 := rfl
theorem e_S_air_85 (a : Nat) (hk : isK h a kc_S = true) : (WP Gm j_S_air 85 (ls) (.inr (.inl (some a)) :: st) h Q) = (WP Gm j_S_air 88 (ls) (.inr (.inl (gR h a 2)) :: st) (h) Q) := (WP_at c_S_air_85 _ _ _ _).trans (congrArg (fun o => ndX Gm (WP Gm) j_S_air 85 o Q) (if_pos hk))
theorem c_S_air_88 : mCode j_S_air 88 = oGetI kc_Traffic 3 91 := rfl
theorem e_S_air_88 (a : Nat) (hk : isK h a kc_Traffic = true) : (WP Gm j_S_air 88 (ls) (.inr (.inl (some a)) :: st) h Q) = (WP Gm j_S_air 91 (ls) (.inl (gI h a 3) :: st) (h) Q) := (WP_at c_S_air_88 _ _ _ _).trans (congrArg (fun o => ndX Gm (WP Gm) j_S_air 88 o Q) (if_pos hk))
theorem c_S_air_91 : mCode j_S_air 91 = oRetI := rfl
theorem e_S_air_91 (x : Int32) : (WP Gm j_S_air 91 (ls) ([.inl x]) h Q) = (Q (.inl (some (.inl x))) h) := (WP_at c_S_air_91 _ _ _ _)
theorem c_S_air_92 : mCode j_S_air 92 = oAld 0 93 := rfl
theorem e_S_air_92 (x : Option Nat) : (WP Gm j_S_air 92 (some (.inr (.inl x)) :: ls) (st) h Q) = (WP Gm j_S_air 93 (some (.inr (.inl x)) :: ls) (.inr (.inl x) :: st) (h) Q) := (WP_at c_S_air_92 _ _ _ _)
theorem c_S_air_93 : mCode j_S_air 93 = oGetR kc_S 2 96 := rfl
theorem e_S_air_93 (a : Nat) (hk : isK h a kc_S = true) : (WP Gm j_S_air 93 (ls) (.inr (.inl (some a)) :: st) h Q) = (WP Gm j_S_air 96 (ls) (.inr (.inl (gR h a 2)) :: st) (h) Q) := (WP_at c_S_air_93 _ _ _ _).trans (congrArg (fun o => ndX Gm (WP Gm) j_S_air 93 o Q) (if_pos hk))
theorem c_S_air_96 : mCode j_S_air 96 = oCallV kc_Traffic j_Traffic_senders 0 (mL j_Traffic_senders) 99 := rfl
theorem e_S_air_96 (a : Nat) (hk : isK h a kc_Traffic = true) (hc : c8 st = true) : (WP Gm j_S_air 96 (ls) (.inr (.inl (some a)) :: st) h Q) = (WP Gm j_Traffic_senders 0 [some (.inr (.inl (some a))), none, none] [] h (kC (fun v h2 => WP Gm j_S_air 99 ls (v.toList ++ st) h2 Q) (fun E h2 => Q (.inr E) h2))) := (WP_at c_S_air_96 _ _ _ _).trans (congrArg (fun o => ndX Gm (WP Gm) j_S_air 96 o Q) (if_pos (by rw [hk, show decide (catS st ≤ 8) = true from hc]; rfl)))
theorem c_S_air_99 : mCode j_S_air 99 = oCallS j_Integer_bitCount 1 (mL j_Integer_bitCount) 102 := rfl
theorem e_S_air_99 (x0 : Int32) (hc : c8 st = true) : (WP Gm j_S_air 99 (ls) (.inl x0 :: st) h Q) = (WP Gm j_Integer_bitCount 0 [some (.inl x0)] [] h (kC (fun v h2 => WP Gm j_S_air 102 ls (v.toList ++ st) h2 Q) (fun E h2 => Q (.inr E) h2))) := (WP_at c_S_air_99 _ _ _ _).trans (congrArg (fun o => ndX Gm (WP Gm) j_S_air 99 o Q) (if_pos (by rw [show decide (catS st ≤ 8) = true from hc]; rfl)))
theorem c_S_air_102 : mCode j_S_air 102 = oRetI := rfl
theorem e_S_air_102 (x : Int32) : (WP Gm j_S_air 102 (ls) ([.inl x]) h Q) = (Q (.inl (some (.inl x))) h) := (WP_at c_S_air_102 _ _ _ _)
theorem c_S_air_103 : mCode j_S_air 103 = oAld 0 104 := rfl
theorem e_S_air_103 (x : Option Nat) : (WP Gm j_S_air 103 (some (.inr (.inl x)) :: ls) (st) h Q) = (WP Gm j_S_air 104 (some (.inr (.inl x)) :: ls) (.inr (.inl x) :: st) (h) Q) := (WP_at c_S_air_103 _ _ _ _)
theorem c_S_air_104 : mCode j_S_air 104 = oGetR kc_S 2 107 := rfl
theorem e_S_air_104 (a : Nat) (hk : isK h a kc_S = true) : (WP Gm j_S_air 104 (ls) (.inr (.inl (some a)) :: st) h Q) = (WP Gm j_S_air 107 (ls) (.inr (.inl (gR h a 2)) :: st) (h) Q) := (WP_at c_S_air_104 _ _ _ _).trans (congrArg (fun o => ndX Gm (WP Gm) j_S_air 104 o Q) (if_pos hk))
theorem c_S_air_107 : mCode j_S_air 107 = oGetI kc_Traffic 4 110 := rfl
theorem e_S_air_107 (a : Nat) (hk : isK h a kc_Traffic = true) : (WP Gm j_S_air 107 (ls) (.inr (.inl (some a)) :: st) h Q) = (WP Gm j_S_air 110 (ls) (.inl (gI h a 4) :: st) (h) Q) := (WP_at c_S_air_107 _ _ _ _).trans (congrArg (fun o => ndX Gm (WP Gm) j_S_air 107 o Q) (if_pos hk))
theorem c_S_air_110 : mCode j_S_air 110 = oRetI := rfl
theorem e_S_air_110 (x : Int32) : (WP Gm j_S_air 110 (ls) ([.inl x]) h Q) = (Q (.inl (some (.inl x))) h) := (WP_at c_S_air_110 _ _ _ _)
theorem c_S_air_111 : mCode j_S_air 111 = oAld 0 112 := rfl
theorem e_S_air_111 (x : Option Nat) : (WP Gm j_S_air 111 (some (.inr (.inl x)) :: ls) (st) h Q) = (WP Gm j_S_air 112 (some (.inr (.inl x)) :: ls) (.inr (.inl x) :: st) (h) Q) := (WP_at c_S_air_111 _ _ _ _)
theorem c_S_air_112 : mCode j_S_air 112 = oGetR kc_S 2 115 := rfl
theorem e_S_air_112 (a : Nat) (hk : isK h a kc_S = true) : (WP Gm j_S_air 112 (ls) (.inr (.inl (some a)) :: st) h Q) = (WP Gm j_S_air 115 (ls) (.inr (.inl (gR h a 2)) :: st) (h) Q) := (WP_at c_S_air_112 _ _ _ _).trans (congrArg (fun o => ndX Gm (WP Gm) j_S_air 112 o Q) (if_pos hk))
theorem c_S_air_115 : mCode j_S_air 115 = oGetI kc_Traffic 5 118 := rfl
theorem e_S_air_115 (a : Nat) (hk : isK h a kc_Traffic = true) : (WP Gm j_S_air 115 (ls) (.inr (.inl (some a)) :: st) h Q) = (WP Gm j_S_air 118 (ls) (.inl (gI h a 5) :: st) (h) Q) := (WP_at c_S_air_115 _ _ _ _).trans (congrArg (fun o => ndX Gm (WP Gm) j_S_air 115 o Q) (if_pos hk))
theorem c_S_air_118 : mCode j_S_air 118 = oRetI := rfl
theorem e_S_air_118 (x : Int32) : (WP Gm j_S_air 118 (ls) ([.inl x]) h Q) = (Q (.inl (some (.inl x))) h) := (WP_at c_S_air_118 _ _ _ _)
theorem c_S_air_119 : mCode j_S_air 119 = oAld 0 120 := rfl
theorem e_S_air_119 (x : Option Nat) : (WP Gm j_S_air 119 (some (.inr (.inl x)) :: ls) (st) h Q) = (WP Gm j_S_air 120 (some (.inr (.inl x)) :: ls) (.inr (.inl x) :: st) (h) Q) := (WP_at c_S_air_119 _ _ _ _)
theorem c_S_air_120 : mCode j_S_air 120 = oGetR kc_S 2 123 := rfl
theorem e_S_air_120 (a : Nat) (hk : isK h a kc_S = true) : (WP Gm j_S_air 120 (ls) (.inr (.inl (some a)) :: st) h Q) = (WP Gm j_S_air 123 (ls) (.inr (.inl (gR h a 2)) :: st) (h) Q) := (WP_at c_S_air_120 _ _ _ _).trans (congrArg (fun o => ndX Gm (WP Gm) j_S_air 120 o Q) (if_pos hk))
theorem c_S_air_123 : mCode j_S_air 123 = oGetI kc_Traffic 6 126 := rfl
theorem e_S_air_123 (a : Nat) (hk : isK h a kc_Traffic = true) : (WP Gm j_S_air 123 (ls) (.inr (.inl (some a)) :: st) h Q) = (WP Gm j_S_air 126 (ls) (.inl (gI h a 6) :: st) (h) Q) := (WP_at c_S_air_123 _ _ _ _).trans (congrArg (fun o => ndX Gm (WP Gm) j_S_air 123 o Q) (if_pos hk))
theorem c_S_air_126 : mCode j_S_air 126 = oRetI := rfl
theorem e_S_air_126 (x : Int32) : (WP Gm j_S_air 126 (ls) ([.inl x]) h Q) = (Q (.inl (some (.inl x))) h) := (WP_at c_S_air_126 _ _ _ _)
theorem c_S_air_127 : mCode j_S_air 127 = oAld 0 128 := rfl
theorem e_S_air_127 (x : Option Nat) : (WP Gm j_S_air 127 (some (.inr (.inl x)) :: ls) (st) h Q) = (WP Gm j_S_air 128 (some (.inr (.inl x)) :: ls) (.inr (.inl x) :: st) (h) Q) := (WP_at c_S_air_127 _ _ _ _)
theorem c_S_air_128 : mCode j_S_air 128 = oGetR kc_S 0 131 := rfl
theorem e_S_air_128 (a : Nat) (hk : isK h a kc_S = true) : (WP Gm j_S_air 128 (ls) (.inr (.inl (some a)) :: st) h Q) = (WP Gm j_S_air 131 (ls) (.inr (.inl (gR h a 0)) :: st) (h) Q) := (WP_at c_S_air_128 _ _ _ _).trans (congrArg (fun o => ndX Gm (WP Gm) j_S_air 128 o Q) (if_pos hk))
theorem c_S_air_131 : mCode j_S_air 131 = oCallV kc_Land j_Land_framesInQueues 0 (mL j_Land_framesInQueues) 134 := rfl
theorem e_S_air_131 (a : Nat) (hk : isK h a kc_Land = true) (hc : c8 st = true) : (WP Gm j_S_air 131 (ls) (.inr (.inl (some a)) :: st) h Q) = (WP Gm j_Land_framesInQueues 0 [some (.inr (.inl (some a))), none, none] [] h (kC (fun v h2 => WP Gm j_S_air 134 ls (v.toList ++ st) h2 Q) (fun E h2 => Q (.inr E) h2))) := (WP_at c_S_air_131 _ _ _ _).trans (congrArg (fun o => ndX Gm (WP Gm) j_S_air 131 o Q) (if_pos (by rw [hk, show decide (catS st ≤ 8) = true from hc]; rfl)))
theorem c_S_air_134 : mCode j_S_air 134 = oRetI := rfl
theorem e_S_air_134 (x : Int32) : (WP Gm j_S_air 134 (ls) ([.inl x]) h Q) = (Q (.inl (some (.inl x))) h) := (WP_at c_S_air_134 _ _ _ _)
theorem c_S_air_135 : mCode j_S_air 135 = oAld 0 136 := rfl
theorem e_S_air_135 (x : Option Nat) : (WP Gm j_S_air 135 (some (.inr (.inl x)) :: ls) (st) h Q) = (WP Gm j_S_air 136 (some (.inr (.inl x)) :: ls) (.inr (.inl x) :: st) (h) Q) := (WP_at c_S_air_135 _ _ _ _)
theorem c_S_air_136 : mCode j_S_air 136 = oGetR kc_S 1 139 := rfl
theorem e_S_air_136 (a : Nat) (hk : isK h a kc_S = true) : (WP Gm j_S_air 136 (ls) (.inr (.inl (some a)) :: st) h Q) = (WP Gm j_S_air 139 (ls) (.inr (.inl (gR h a 1)) :: st) (h) Q) := (WP_at c_S_air_136 _ _ _ _).trans (congrArg (fun o => ndX Gm (WP Gm) j_S_air 136 o Q) (if_pos hk))
theorem c_S_air_139 : mCode j_S_air 139 = oGetI kc_Routes 5 142 := rfl
theorem e_S_air_139 (a : Nat) (hk : isK h a kc_Routes = true) : (WP Gm j_S_air 139 (ls) (.inr (.inl (some a)) :: st) h Q) = (WP Gm j_S_air 142 (ls) (.inl (gI h a 5) :: st) (h) Q) := (WP_at c_S_air_139 _ _ _ _).trans (congrArg (fun o => ndX Gm (WP Gm) j_S_air 139 o Q) (if_pos hk))
theorem c_S_air_142 : mCode j_S_air 142 = oRetI := rfl
theorem e_S_air_142 (x : Int32) : (WP Gm j_S_air 142 (ls) ([.inl x]) h Q) = (Q (.inl (some (.inl x))) h) := (WP_at c_S_air_142 _ _ _ _)
theorem c_S_air_143 : mCode j_S_air 143 = oAld 0 144 := rfl
theorem e_S_air_143 (x : Option Nat) : (WP Gm j_S_air 143 (some (.inr (.inl x)) :: ls) (st) h Q) = (WP Gm j_S_air 144 (some (.inr (.inl x)) :: ls) (.inr (.inl x) :: st) (h) Q) := (WP_at c_S_air_143 _ _ _ _)
theorem c_S_air_144 : mCode j_S_air 144 = oGetR kc_S 3 147 := rfl
theorem e_S_air_144 (a : Nat) (hk : isK h a kc_S = true) : (WP Gm j_S_air 144 (ls) (.inr (.inl (some a)) :: st) h Q) = (WP Gm j_S_air 147 (ls) (.inr (.inl (gR h a 3)) :: st) (h) Q) := (WP_at c_S_air_144 _ _ _ _).trans (congrArg (fun o => ndX Gm (WP Gm) j_S_air 144 o Q) (if_pos hk))
theorem c_S_air_147 : mCode j_S_air 147 = oGetI kc_Market 5 150 := rfl
theorem e_S_air_147 (a : Nat) (hk : isK h a kc_Market = true) : (WP Gm j_S_air 147 (ls) (.inr (.inl (some a)) :: st) h Q) = (WP Gm j_S_air 150 (ls) (.inl (gI h a 5) :: st) (h) Q) := (WP_at c_S_air_147 _ _ _ _).trans (congrArg (fun o => ndX Gm (WP Gm) j_S_air 147 o Q) (if_pos hk))
theorem c_S_air_150 : mCode j_S_air 150 = oRetI := rfl
theorem e_S_air_150 (x : Int32) : (WP Gm j_S_air 150 (ls) ([.inl x]) h Q) = (Q (.inl (some (.inl x))) h) := (WP_at c_S_air_150 _ _ _ _)
theorem c_S_air_151 : mCode j_S_air 151 = oAld 0 152 := rfl
theorem e_S_air_151 (x : Option Nat) : (WP Gm j_S_air 151 (some (.inr (.inl x)) :: ls) (st) h Q) = (WP Gm j_S_air 152 (some (.inr (.inl x)) :: ls) (.inr (.inl x) :: st) (h) Q) := (WP_at c_S_air_151 _ _ _ _)
theorem c_S_air_152 : mCode j_S_air 152 = oGetR kc_S 3 155 := rfl
theorem e_S_air_152 (a : Nat) (hk : isK h a kc_S = true) : (WP Gm j_S_air 152 (ls) (.inr (.inl (some a)) :: st) h Q) = (WP Gm j_S_air 155 (ls) (.inr (.inl (gR h a 3)) :: st) (h) Q) := (WP_at c_S_air_152 _ _ _ _).trans (congrArg (fun o => ndX Gm (WP Gm) j_S_air 152 o Q) (if_pos hk))
theorem c_S_air_155 : mCode j_S_air 155 = oGetI kc_Market 8 158 := rfl
theorem e_S_air_155 (a : Nat) (hk : isK h a kc_Market = true) : (WP Gm j_S_air 155 (ls) (.inr (.inl (some a)) :: st) h Q) = (WP Gm j_S_air 158 (ls) (.inl (gI h a 8) :: st) (h) Q) := (WP_at c_S_air_155 _ _ _ _).trans (congrArg (fun o => ndX Gm (WP Gm) j_S_air 155 o Q) (if_pos hk))
theorem c_S_air_158 : mCode j_S_air 158 = oRetI := rfl
theorem e_S_air_158 (x : Int32) : (WP Gm j_S_air 158 (ls) ([.inl x]) h Q) = (Q (.inl (some (.inl x))) h) := (WP_at c_S_air_158 _ _ _ _)
theorem c_S_air_159 : mCode j_S_air 159 = oAld 0 160 := rfl
theorem e_S_air_159 (x : Option Nat) : (WP Gm j_S_air 159 (some (.inr (.inl x)) :: ls) (st) h Q) = (WP Gm j_S_air 160 (some (.inr (.inl x)) :: ls) (.inr (.inl x) :: st) (h) Q) := (WP_at c_S_air_159 _ _ _ _)
theorem c_S_air_160 : mCode j_S_air 160 = oGetI kc_S 4 163 := rfl
theorem e_S_air_160 (a : Nat) (hk : isK h a kc_S = true) : (WP Gm j_S_air 160 (ls) (.inr (.inl (some a)) :: st) h Q) = (WP Gm j_S_air 163 (ls) (.inl (gI h a 4) :: st) (h) Q) := (WP_at c_S_air_160 _ _ _ _).trans (congrArg (fun o => ndX Gm (WP Gm) j_S_air 160 o Q) (if_pos hk))
theorem c_S_air_163 : mCode j_S_air 163 = oRetI := rfl
theorem e_S_air_163 (x : Int32) : (WP Gm j_S_air 163 (ls) ([.inl x]) h Q) = (Q (.inl (some (.inl x))) h) := (WP_at c_S_air_163 _ _ _ _)
theorem c_S_air_164 : mCode j_S_air 164 = oAld 0 165 := rfl
theorem e_S_air_164 (x : Option Nat) : (WP Gm j_S_air 164 (some (.inr (.inl x)) :: ls) (st) h Q) = (WP Gm j_S_air 165 (some (.inr (.inl x)) :: ls) (.inr (.inl x) :: st) (h) Q) := (WP_at c_S_air_164 _ _ _ _)
theorem c_S_air_165 : mCode j_S_air 165 = oGetR kc_S 1 168 := rfl
theorem e_S_air_165 (a : Nat) (hk : isK h a kc_S = true) : (WP Gm j_S_air 165 (ls) (.inr (.inl (some a)) :: st) h Q) = (WP Gm j_S_air 168 (ls) (.inr (.inl (gR h a 1)) :: st) (h) Q) := (WP_at c_S_air_165 _ _ _ _).trans (congrArg (fun o => ndX Gm (WP Gm) j_S_air 165 o Q) (if_pos hk))
theorem c_S_air_168 : mCode j_S_air 168 = oCallV kc_Routes j_Routes_pairsWithCircle 0 (mL j_Routes_pairsWithCircle) 171 := rfl
theorem e_S_air_168 (a : Nat) (hk : isK h a kc_Routes = true) (hc : c8 st = true) : (WP Gm j_S_air 168 (ls) (.inr (.inl (some a)) :: st) h Q) = (WP Gm j_Routes_pairsWithCircle 0 [some (.inr (.inl (some a))), none, none, none] [] h (kC (fun v h2 => WP Gm j_S_air 171 ls (v.toList ++ st) h2 Q) (fun E h2 => Q (.inr E) h2))) := (WP_at c_S_air_168 _ _ _ _).trans (congrArg (fun o => ndX Gm (WP Gm) j_S_air 168 o Q) (if_pos (by rw [hk, show decide (catS st ≤ 8) = true from hc]; rfl)))
theorem c_S_air_171 : mCode j_S_air 171 = oRetI := rfl
theorem e_S_air_171 (x : Int32) : (WP Gm j_S_air 171 (ls) ([.inl x]) h Q) = (Q (.inl (some (.inl x))) h) := (WP_at c_S_air_171 _ _ _ _)
theorem c_S_air_172 : mCode j_S_air 172 = oThr cM sM 0 kc_IllegalArgumentException := rfl
theorem e_S_air_172 (hr : okR cM sM h 1 6 = true) : (WP Gm j_S_air 172 (ls) ([]) h Q) = (Q (.inr 0) (hN h kc_IllegalArgumentException 0 6)) := (WP_at c_S_air_172 _ _ _ _).trans (congrArg (fun o => ndX Gm (WP Gm) j_S_air 172 o Q) (if_pos hr))
theorem c_S_delivered_0 : mCode j_S_delivered 0 = oAld 0 1 := rfl
theorem e_S_delivered_0 (x : Option Nat) : (WP Gm j_S_delivered 0 (some (.inr (.inl x)) :: ls) (st) h Q) = (WP Gm j_S_delivered 1 (some (.inr (.inl x)) :: ls) (.inr (.inl x) :: st) (h) Q) := (WP_at c_S_delivered_0 _ _ _ _)
theorem c_S_delivered_1 : mCode j_S_delivered 1 = oIld 1 2 := rfl
theorem e_S_delivered_1 (a0 : Option MV) (x : Int32) : (WP Gm j_S_delivered 1 (a0 :: some (.inl x) :: ls) (st) h Q) = (WP Gm j_S_delivered 2 (a0 :: some (.inl x) :: ls) (.inl x :: st) (h) Q) := (WP_at c_S_delivered_1 _ _ _ _)
theorem c_S_delivered_2 : mCode j_S_delivered 2 = oCallV kc_S j_S_checkNode 1 (mL j_S_checkNode) 5 := rfl
theorem e_S_delivered_2 (a : Nat) (x0 : Int32) (hk : isK h a kc_S = true) (hc : c8 st = true) : (WP Gm j_S_delivered 2 (ls) (.inl x0 :: .inr (.inl (some a)) :: st) h Q) = (WP Gm j_S_checkNode 0 [some (.inr (.inl (some a))), some (.inl x0)] [] h (kC (fun v h2 => WP Gm j_S_delivered 5 ls (v.toList ++ st) h2 Q) (fun E h2 => Q (.inr E) h2))) := (WP_at c_S_delivered_2 _ _ _ _).trans (congrArg (fun o => ndX Gm (WP Gm) j_S_delivered 2 o Q) (if_pos (by rw [hk, show decide (catS st ≤ 8) = true from hc]; rfl)))
theorem c_S_delivered_5 : mCode j_S_delivered 5 = oAld 0 6 := rfl
theorem e_S_delivered_5 (x : Option Nat) : (WP Gm j_S_delivered 5 (some (.inr (.inl x)) :: ls) (st) h Q) = (WP Gm j_S_delivered 6 (some (.inr (.inl x)) :: ls) (.inr (.inl x) :: st) (h) Q) := (WP_at c_S_delivered_5 _ _ _ _)
theorem c_S_delivered_6 : mCode j_S_delivered 6 = oGetR kc_S 0 9 := rfl
theorem e_S_delivered_6 (a : Nat) (hk : isK h a kc_S = true) : (WP Gm j_S_delivered 6 (ls) (.inr (.inl (some a)) :: st) h Q) = (WP Gm j_S_delivered 9 (ls) (.inr (.inl (gR h a 0)) :: st) (h) Q) := (WP_at c_S_delivered_6 _ _ _ _).trans (congrArg (fun o => ndX Gm (WP Gm) j_S_delivered 6 o Q) (if_pos hk))
theorem c_S_delivered_9 : mCode j_S_delivered 9 = oGetR kc_Land 0 12 := rfl
theorem e_S_delivered_9 (a : Nat) (hk : isK h a kc_Land = true) : (WP Gm j_S_delivered 9 (ls) (.inr (.inl (some a)) :: st) h Q) = (WP Gm j_S_delivered 12 (ls) (.inr (.inl (gR h a 0)) :: st) (h) Q) := (WP_at c_S_delivered_9 _ _ _ _).trans (congrArg (fun o => ndX Gm (WP Gm) j_S_delivered 9 o Q) (if_pos hk))
theorem c_S_delivered_12 : mCode j_S_delivered 12 = oIld 1 13 := rfl
theorem e_S_delivered_12 (a0 : Option MV) (x : Int32) : (WP Gm j_S_delivered 12 (a0 :: some (.inl x) :: ls) (st) h Q) = (WP Gm j_S_delivered 13 (a0 :: some (.inl x) :: ls) (.inl x :: st) (h) Q) := (WP_at c_S_delivered_12 _ _ _ _)
theorem c_S_delivered_13 : mCode j_S_delivered 13 = oAal 2 14 := rfl
theorem e_S_delivered_13 (a : Nat) (i : Int32) (hk : isK h a 102 = true) (hi : inL h a i = true) : (WP Gm j_S_delivered 13 (ls) (.inl i :: .inr (.inl (some a)) :: st) h Q) = (WP Gm j_S_delivered 14 (ls) (.inr (.inl (gR h a i.toNatClampNeg)) :: st) (h) Q) := (WP_at c_S_delivered_13 _ _ _ _).trans (congrArg (fun o => ndX Gm (WP Gm) j_S_delivered 13 o Q) (if_pos (by rw [hk, hi]; rfl)))
theorem c_S_delivered_14 : mCode j_S_delivered 14 = oAst 3 15 := rfl
theorem e_S_delivered_14 (x : Option Nat) : (WP Gm j_S_delivered 14 (ls) (.inr (.inl x) :: st) h Q) = (WP Gm j_S_delivered 15 (lSet1 ls 3 (some (.inr (.inl x)))) (st) (h) Q) := (WP_at c_S_delivered_14 _ _ _ _)
theorem c_S_delivered_15 : mCode j_S_delivered 15 = oIld 2 16 := rfl
theorem e_S_delivered_15 (a0 a1 : Option MV) (x : Int32) : (WP Gm j_S_delivered 15 (a0 :: a1 :: some (.inl x) :: ls) (st) h Q) = (WP Gm j_S_delivered 16 (a0 :: a1 :: some (.inl x) :: ls) (.inl x :: st) (h) Q) := (WP_at c_S_delivered_15 _ _ _ _)
theorem c_S_delivered_16 : mCode j_S_delivered 16 = oIf (fun x => decide (x < 0)) 27 19 := rfl
theorem e_S_delivered_16 (x : Int32) : (WP Gm j_S_delivered 16 (ls) (.inl x :: st) h Q) = (if x < 0 then WP Gm j_S_delivered 27 (ls) (st) (h) Q else WP Gm j_S_delivered 19 (ls) (st) (h) Q) := (WP_at c_S_delivered_16 _ _ _ _).trans (nd_if rfl _ _ _ _)
theorem c_S_delivered_19 : mCode j_S_delivered 19 = oIld 2 20 := rfl
theorem e_S_delivered_19 (a0 a1 : Option MV) (x : Int32) : (WP Gm j_S_delivered 19 (a0 :: a1 :: some (.inl x) :: ls) (st) h Q) = (WP Gm j_S_delivered 20 (a0 :: a1 :: some (.inl x) :: ls) (.inl x :: st) (h) Q) := (WP_at c_S_delivered_19 _ _ _ _)
theorem c_S_delivered_20 : mCode j_S_delivered 20 = oAld 3 21 := rfl
theorem e_S_delivered_20 (a0 a1 a2 : Option MV) (x : Option Nat) : (WP Gm j_S_delivered 20 (a0 :: a1 :: a2 :: some (.inr (.inl x)) :: ls) (st) h Q) = (WP Gm j_S_delivered 21 (a0 :: a1 :: a2 :: some (.inr (.inl x)) :: ls) (.inr (.inl x) :: st) (h) Q) := (WP_at c_S_delivered_20 _ _ _ _)
theorem c_S_delivered_21 : mCode j_S_delivered 21 = oGetI kc_Node 14 24 := rfl
theorem e_S_delivered_21 (a : Nat) (hk : isK h a kc_Node = true) : (WP Gm j_S_delivered 21 (ls) (.inr (.inl (some a)) :: st) h Q) = (WP Gm j_S_delivered 24 (ls) (.inl (gI h a 14) :: st) (h) Q) := (WP_at c_S_delivered_21 _ _ _ _).trans (congrArg (fun o => ndX Gm (WP Gm) j_S_delivered 21 o Q) (if_pos hk))
theorem c_S_delivered_24 : mCode j_S_delivered 24 = oIC (fun x y => decide (x < y)) 38 27 := rfl
theorem e_S_delivered_24 (x y : Int32) : (WP Gm j_S_delivered 24 (ls) (.inl y :: .inl x :: st) h Q) = (if x < y then WP Gm j_S_delivered 38 (ls) (st) (h) Q else WP Gm j_S_delivered 27 (ls) (st) (h) Q) := (WP_at c_S_delivered_24 _ _ _ _).trans (nd_ic rfl _ _ _ _)
theorem c_S_delivered_27 : mCode j_S_delivered 27 = oThr cM sM 2 kc_IndexOutOfBoundsException := rfl
theorem e_S_delivered_27 (hr : okR cM sM h 1 6 = true) : (WP Gm j_S_delivered 27 (ls) ([]) h Q) = (Q (.inr 2) (hN h kc_IndexOutOfBoundsException 0 6)) := (WP_at c_S_delivered_27 _ _ _ _).trans (congrArg (fun o => ndX Gm (WP Gm) j_S_delivered 27 o Q) (if_pos hr))
theorem c_S_delivered_38 : mCode j_S_delivered 38 = oAld 3 39 := rfl
theorem e_S_delivered_38 (a0 a1 a2 : Option MV) (x : Option Nat) : (WP Gm j_S_delivered 38 (a0 :: a1 :: a2 :: some (.inr (.inl x)) :: ls) (st) h Q) = (WP Gm j_S_delivered 39 (a0 :: a1 :: a2 :: some (.inr (.inl x)) :: ls) (.inr (.inl x) :: st) (h) Q) := (WP_at c_S_delivered_38 _ _ _ _)
theorem c_S_delivered_39 : mCode j_S_delivered 39 = oGetR kc_Node 15 42 := rfl
theorem e_S_delivered_39 (a : Nat) (hk : isK h a kc_Node = true) : (WP Gm j_S_delivered 39 (ls) (.inr (.inl (some a)) :: st) h Q) = (WP Gm j_S_delivered 42 (ls) (.inr (.inl (gR h a 15)) :: st) (h) Q) := (WP_at c_S_delivered_39 _ _ _ _).trans (congrArg (fun o => ndX Gm (WP Gm) j_S_delivered 39 o Q) (if_pos hk))
theorem c_S_delivered_42 : mCode j_S_delivered 42 = oIld 2 43 := rfl
theorem e_S_delivered_42 (a0 a1 : Option MV) (x : Int32) : (WP Gm j_S_delivered 42 (a0 :: a1 :: some (.inl x) :: ls) (st) h Q) = (WP Gm j_S_delivered 43 (a0 :: a1 :: some (.inl x) :: ls) (.inl x :: st) (h) Q) := (WP_at c_S_delivered_42 _ _ _ _)
theorem c_S_delivered_43 : mCode j_S_delivered 43 = oCallV kc_NumberSet j_NumberSet_has 1 (mL j_NumberSet_has) 46 := rfl
theorem e_S_delivered_43 (a : Nat) (x0 : Int32) (hk : isK h a kc_NumberSet = true) (hc : c8 st = true) : (WP Gm j_S_delivered 43 (ls) (.inl x0 :: .inr (.inl (some a)) :: st) h Q) = (WP Gm j_NumberSet_has 0 [some (.inr (.inl (some a))), some (.inl x0)] [] h (kC (fun v h2 => WP Gm j_S_delivered 46 ls (v.toList ++ st) h2 Q) (fun E h2 => Q (.inr E) h2))) := (WP_at c_S_delivered_43 _ _ _ _).trans (congrArg (fun o => ndX Gm (WP Gm) j_S_delivered 43 o Q) (if_pos (by rw [hk, show decide (catS st ≤ 8) = true from hc]; rfl)))
theorem c_S_delivered_46 : mCode j_S_delivered 46 = oRetZ := rfl
theorem e_S_delivered_46 (x : Int32) (hx : x = 0 ∨ x = 1) : (WP Gm j_S_delivered 46 (ls) ([.inl x]) h Q) = (Q (.inl (some (.inl x))) h) := (WP_at c_S_delivered_46 _ _ _ _).trans (congrArg (fun o => ndX Gm (WP Gm) j_S_delivered 46 o Q) (if_pos (by rcases hx with rfl | rfl <;> rfl)))
theorem c_S_fairness_0 : mCode j_S_fairness 0 = oJ 0 1 := rfl
theorem e_S_fairness_0  : (WP Gm j_S_fairness 0 (ls) (st) h Q) = (WP Gm j_S_fairness 1 (ls) (.inr (.inr (.inl 0)) :: st) (h) Q) := (WP_at c_S_fairness_0 _ _ _ _)
theorem c_S_fairness_1 : mCode j_S_fairness 1 = oLst 1 2 := rfl
theorem e_S_fairness_1 (x : Int64) : (WP Gm j_S_fairness 1 (ls) (.inr (.inr (.inl x)) :: st) h Q) = (WP Gm j_S_fairness 2 (lSet2 ls 1 (.inr (.inr (.inl x)))) (st) (h) Q) := (WP_at c_S_fairness_1 _ _ _ _)
theorem c_S_fairness_2 : mCode j_S_fairness 2 = oJ 0 3 := rfl
theorem e_S_fairness_2  : (WP Gm j_S_fairness 2 (ls) (st) h Q) = (WP Gm j_S_fairness 3 (ls) (.inr (.inr (.inl 0)) :: st) (h) Q) := (WP_at c_S_fairness_2 _ _ _ _)
theorem c_S_fairness_3 : mCode j_S_fairness 3 = oLst 3 4 := rfl
theorem e_S_fairness_3 (x : Int64) : (WP Gm j_S_fairness 3 (ls) (.inr (.inr (.inl x)) :: st) h Q) = (WP Gm j_S_fairness 4 (lSet2 ls 3 (.inr (.inr (.inl x)))) (st) (h) Q) := (WP_at c_S_fairness_3 _ _ _ _)
theorem c_S_fairness_4 : mCode j_S_fairness 4 = oI 0 5 := rfl
theorem e_S_fairness_4  : (WP Gm j_S_fairness 4 (ls) (st) h Q) = (WP Gm j_S_fairness 5 (ls) (.inl 0 :: st) (h) Q) := (WP_at c_S_fairness_4 _ _ _ _)
theorem c_S_fairness_5 : mCode j_S_fairness 5 = oIst 5 7 := rfl
theorem e_S_fairness_5 (x : Int32) : (WP Gm j_S_fairness 5 (ls) (.inl x :: st) h Q) = (WP Gm j_S_fairness 7 (lSet1 ls 5 (some (.inl x))) (st) (h) Q) := (WP_at c_S_fairness_5 _ _ _ _)
theorem c_S_fairness_7 : mCode j_S_fairness 7 = oIld 5 9 := rfl
theorem e_S_fairness_7 (a0 a1 a2 a3 a4 : Option MV) (x : Int32) : (WP Gm j_S_fairness 7 (a0 :: a1 :: a2 :: a3 :: a4 :: some (.inl x) :: ls) (st) h Q) = (WP Gm j_S_fairness 9 (a0 :: a1 :: a2 :: a3 :: a4 :: some (.inl x) :: ls) (.inl x :: st) (h) Q) := (WP_at c_S_fairness_7 _ _ _ _)
theorem c_S_fairness_9 : mCode j_S_fairness 9 = oAld 0 10 := rfl
theorem e_S_fairness_9 (x : Option Nat) : (WP Gm j_S_fairness 9 (some (.inr (.inl x)) :: ls) (st) h Q) = (WP Gm j_S_fairness 10 (some (.inr (.inl x)) :: ls) (.inr (.inl x) :: st) (h) Q) := (WP_at c_S_fairness_9 _ _ _ _)
theorem c_S_fairness_10 : mCode j_S_fairness 10 = oGetR kc_S 0 13 := rfl
theorem e_S_fairness_10 (a : Nat) (hk : isK h a kc_S = true) : (WP Gm j_S_fairness 10 (ls) (.inr (.inl (some a)) :: st) h Q) = (WP Gm j_S_fairness 13 (ls) (.inr (.inl (gR h a 0)) :: st) (h) Q) := (WP_at c_S_fairness_10 _ _ _ _).trans (congrArg (fun o => ndX Gm (WP Gm) j_S_fairness 10 o Q) (if_pos hk))
theorem c_S_fairness_13 : mCode j_S_fairness 13 = oGetI kc_Land 2 16 := rfl
theorem e_S_fairness_13 (a : Nat) (hk : isK h a kc_Land = true) : (WP Gm j_S_fairness 13 (ls) (.inr (.inl (some a)) :: st) h Q) = (WP Gm j_S_fairness 16 (ls) (.inl (gI h a 2) :: st) (h) Q) := (WP_at c_S_fairness_13 _ _ _ _).trans (congrArg (fun o => ndX Gm (WP Gm) j_S_fairness 13 o Q) (if_pos hk))
theorem c_S_fairness_16 : mCode j_S_fairness 16 = oIC (fun x y => decide (y ≤ x)) 54 19 := rfl
theorem e_S_fairness_16 (x y : Int32) : (WP Gm j_S_fairness 16 (ls) (.inl y :: .inl x :: st) h Q) = (if y ≤ x then WP Gm j_S_fairness 54 (ls) (st) (h) Q else WP Gm j_S_fairness 19 (ls) (st) (h) Q) := (WP_at c_S_fairness_16 _ _ _ _).trans (nd_ic rfl _ _ _ _)
theorem c_S_fairness_19 : mCode j_S_fairness 19 = oAld 0 20 := rfl
theorem e_S_fairness_19 (x : Option Nat) : (WP Gm j_S_fairness 19 (some (.inr (.inl x)) :: ls) (st) h Q) = (WP Gm j_S_fairness 20 (some (.inr (.inl x)) :: ls) (.inr (.inl x) :: st) (h) Q) := (WP_at c_S_fairness_19 _ _ _ _)
theorem c_S_fairness_20 : mCode j_S_fairness 20 = oGetR kc_S 0 23 := rfl
theorem e_S_fairness_20 (a : Nat) (hk : isK h a kc_S = true) : (WP Gm j_S_fairness 20 (ls) (.inr (.inl (some a)) :: st) h Q) = (WP Gm j_S_fairness 23 (ls) (.inr (.inl (gR h a 0)) :: st) (h) Q) := (WP_at c_S_fairness_20 _ _ _ _).trans (congrArg (fun o => ndX Gm (WP Gm) j_S_fairness 20 o Q) (if_pos hk))
theorem c_S_fairness_23 : mCode j_S_fairness 23 = oGetR kc_Land 0 26 := rfl
theorem e_S_fairness_23 (a : Nat) (hk : isK h a kc_Land = true) : (WP Gm j_S_fairness 23 (ls) (.inr (.inl (some a)) :: st) h Q) = (WP Gm j_S_fairness 26 (ls) (.inr (.inl (gR h a 0)) :: st) (h) Q) := (WP_at c_S_fairness_23 _ _ _ _).trans (congrArg (fun o => ndX Gm (WP Gm) j_S_fairness 23 o Q) (if_pos hk))
theorem c_S_fairness_26 : mCode j_S_fairness 26 = oIld 5 28 := rfl
theorem e_S_fairness_26 (a0 a1 a2 a3 a4 : Option MV) (x : Int32) : (WP Gm j_S_fairness 26 (a0 :: a1 :: a2 :: a3 :: a4 :: some (.inl x) :: ls) (st) h Q) = (WP Gm j_S_fairness 28 (a0 :: a1 :: a2 :: a3 :: a4 :: some (.inl x) :: ls) (.inl x :: st) (h) Q) := (WP_at c_S_fairness_26 _ _ _ _)
theorem c_S_fairness_28 : mCode j_S_fairness 28 = oAal 2 29 := rfl
theorem e_S_fairness_28 (a : Nat) (i : Int32) (hk : isK h a 102 = true) (hi : inL h a i = true) : (WP Gm j_S_fairness 28 (ls) (.inl i :: .inr (.inl (some a)) :: st) h Q) = (WP Gm j_S_fairness 29 (ls) (.inr (.inl (gR h a i.toNatClampNeg)) :: st) (h) Q) := (WP_at c_S_fairness_28 _ _ _ _).trans (congrArg (fun o => ndX Gm (WP Gm) j_S_fairness 28 o Q) (if_pos (by rw [hk, hi]; rfl)))
theorem c_S_fairness_29 : mCode j_S_fairness 29 = oGetI kc_Node 10 32 := rfl
theorem e_S_fairness_29 (a : Nat) (hk : isK h a kc_Node = true) : (WP Gm j_S_fairness 29 (ls) (.inr (.inl (some a)) :: st) h Q) = (WP Gm j_S_fairness 32 (ls) (.inl (gI h a 10) :: st) (h) Q) := (WP_at c_S_fairness_29 _ _ _ _).trans (congrArg (fun o => ndX Gm (WP Gm) j_S_fairness 29 o Q) (if_pos hk))
theorem c_S_fairness_32 : mCode j_S_fairness 32 = oI2L 33 := rfl
theorem e_S_fairness_32 (x : Int32) : (WP Gm j_S_fairness 32 (ls) (.inl x :: st) h Q) = (WP Gm j_S_fairness 33 (ls) (.inr (.inr (.inl x.toInt64)) :: st) (h) Q) := (WP_at c_S_fairness_32 _ _ _ _)
theorem c_S_fairness_33 : mCode j_S_fairness 33 = oLst 6 35 := rfl
theorem e_S_fairness_33 (x : Int64) : (WP Gm j_S_fairness 33 (ls) (.inr (.inr (.inl x)) :: st) h Q) = (WP Gm j_S_fairness 35 (lSet2 ls 6 (.inr (.inr (.inl x)))) (st) (h) Q) := (WP_at c_S_fairness_33 _ _ _ _)
theorem c_S_fairness_35 : mCode j_S_fairness 35 = oLld 1 36 := rfl
theorem e_S_fairness_35 (a0 : Option MV) (x : Int64) : (WP Gm j_S_fairness 35 (a0 :: some (.inr (.inr (.inl x))) :: ls) (st) h Q) = (WP Gm j_S_fairness 36 (a0 :: some (.inr (.inr (.inl x))) :: ls) (.inr (.inr (.inl x)) :: st) (h) Q) := (WP_at c_S_fairness_35 _ _ _ _)
theorem c_S_fairness_36 : mCode j_S_fairness 36 = oLld 6 38 := rfl
theorem e_S_fairness_36 (a0 a1 a2 a3 a4 a5 : Option MV) (x : Int64) : (WP Gm j_S_fairness 36 (a0 :: a1 :: a2 :: a3 :: a4 :: a5 :: some (.inr (.inr (.inl x))) :: ls) (st) h Q) = (WP Gm j_S_fairness 38 (a0 :: a1 :: a2 :: a3 :: a4 :: a5 :: some (.inr (.inr (.inl x))) :: ls) (.inr (.inr (.inl x)) :: st) (h) Q) := (WP_at c_S_fairness_36 _ _ _ _)
theorem c_S_fairness_38 : mCode j_S_fairness 38 = oLL (fun x y => x + y) 39 := rfl
theorem e_S_fairness_38 (x : Int64) (y : Int64) : (WP Gm j_S_fairness 38 (ls) (.inr (.inr (.inl y)) :: .inr (.inr (.inl x)) :: st) h Q) = (WP Gm j_S_fairness 39 (ls) (.inr (.inr (.inl (x + y))) :: st) (h) Q) := (WP_at c_S_fairness_38 _ _ _ _)
theorem c_S_fairness_39 : mCode j_S_fairness 39 = oLst 1 40 := rfl
theorem e_S_fairness_39 (x : Int64) : (WP Gm j_S_fairness 39 (ls) (.inr (.inr (.inl x)) :: st) h Q) = (WP Gm j_S_fairness 40 (lSet2 ls 1 (.inr (.inr (.inl x)))) (st) (h) Q) := (WP_at c_S_fairness_39 _ _ _ _)
theorem c_S_fairness_40 : mCode j_S_fairness 40 = oLld 3 41 := rfl
theorem e_S_fairness_40 (a0 a1 a2 : Option MV) (x : Int64) : (WP Gm j_S_fairness 40 (a0 :: a1 :: a2 :: some (.inr (.inr (.inl x))) :: ls) (st) h Q) = (WP Gm j_S_fairness 41 (a0 :: a1 :: a2 :: some (.inr (.inr (.inl x))) :: ls) (.inr (.inr (.inl x)) :: st) (h) Q) := (WP_at c_S_fairness_40 _ _ _ _)
theorem c_S_fairness_41 : mCode j_S_fairness 41 = oLld 6 43 := rfl
theorem e_S_fairness_41 (a0 a1 a2 a3 a4 a5 : Option MV) (x : Int64) : (WP Gm j_S_fairness 41 (a0 :: a1 :: a2 :: a3 :: a4 :: a5 :: some (.inr (.inr (.inl x))) :: ls) (st) h Q) = (WP Gm j_S_fairness 43 (a0 :: a1 :: a2 :: a3 :: a4 :: a5 :: some (.inr (.inr (.inl x))) :: ls) (.inr (.inr (.inl x)) :: st) (h) Q) := (WP_at c_S_fairness_41 _ _ _ _)
theorem c_S_fairness_43 : mCode j_S_fairness 43 = oLld 6 45 := rfl
theorem e_S_fairness_43 (a0 a1 a2 a3 a4 a5 : Option MV) (x : Int64) : (WP Gm j_S_fairness 43 (a0 :: a1 :: a2 :: a3 :: a4 :: a5 :: some (.inr (.inr (.inl x))) :: ls) (st) h Q) = (WP Gm j_S_fairness 45 (a0 :: a1 :: a2 :: a3 :: a4 :: a5 :: some (.inr (.inr (.inl x))) :: ls) (.inr (.inr (.inl x)) :: st) (h) Q) := (WP_at c_S_fairness_43 _ _ _ _)
theorem c_S_fairness_45 : mCode j_S_fairness 45 = oLL (fun x y => x * y) 46 := rfl
theorem e_S_fairness_45 (x : Int64) (y : Int64) : (WP Gm j_S_fairness 45 (ls) (.inr (.inr (.inl y)) :: .inr (.inr (.inl x)) :: st) h Q) = (WP Gm j_S_fairness 46 (ls) (.inr (.inr (.inl (x * y))) :: st) (h) Q) := (WP_at c_S_fairness_45 _ _ _ _)
theorem c_S_fairness_46 : mCode j_S_fairness 46 = oLL (fun x y => x + y) 47 := rfl
theorem e_S_fairness_46 (x : Int64) (y : Int64) : (WP Gm j_S_fairness 46 (ls) (.inr (.inr (.inl y)) :: .inr (.inr (.inl x)) :: st) h Q) = (WP Gm j_S_fairness 47 (ls) (.inr (.inr (.inl (x + y))) :: st) (h) Q) := (WP_at c_S_fairness_46 _ _ _ _)
theorem c_S_fairness_47 : mCode j_S_fairness 47 = oLst 3 48 := rfl
theorem e_S_fairness_47 (x : Int64) : (WP Gm j_S_fairness 47 (ls) (.inr (.inr (.inl x)) :: st) h Q) = (WP Gm j_S_fairness 48 (lSet2 ls 3 (.inr (.inr (.inl x)))) (st) (h) Q) := (WP_at c_S_fairness_47 _ _ _ _)
theorem c_S_fairness_48 : mCode j_S_fairness 48 = oInc 5 1 51 := rfl
theorem e_S_fairness_48 (a0 a1 a2 a3 a4 : Option MV) (x : Int32) : (WP Gm j_S_fairness 48 (a0 :: a1 :: a2 :: a3 :: a4 :: some (.inl x) :: ls) (st) h Q) = (WP Gm j_S_fairness 51 (lSet1 (a0 :: a1 :: a2 :: a3 :: a4 :: some (.inl x) :: ls) 5 (some (.inl (x + 1)))) (st) (h) Q) := (WP_at c_S_fairness_48 _ _ _ _)
theorem c_S_fairness_51 : mCode j_S_fairness 51 = oGo 7 := rfl
theorem e_S_fairness_51  : (WP Gm j_S_fairness 51 (ls) (st) h Q) = (WP Gm j_S_fairness 7 (ls) (st) (h) Q) := (WP_at c_S_fairness_51 _ _ _ _)
theorem c_S_fairness_54 : mCode j_S_fairness 54 = oLld 3 55 := rfl
theorem e_S_fairness_54 (a0 a1 a2 : Option MV) (x : Int64) : (WP Gm j_S_fairness 54 (a0 :: a1 :: a2 :: some (.inr (.inr (.inl x))) :: ls) (st) h Q) = (WP Gm j_S_fairness 55 (a0 :: a1 :: a2 :: some (.inr (.inr (.inl x))) :: ls) (.inr (.inr (.inl x)) :: st) (h) Q) := (WP_at c_S_fairness_54 _ _ _ _)
theorem c_S_fairness_55 : mCode j_S_fairness 55 = oJ 0 56 := rfl
theorem e_S_fairness_55  : (WP Gm j_S_fairness 55 (ls) (st) h Q) = (WP Gm j_S_fairness 56 (ls) (.inr (.inr (.inl 0)) :: st) (h) Q) := (WP_at c_S_fairness_55 _ _ _ _)
theorem c_S_fairness_56 : mCode j_S_fairness 56 = oLcmp 57 := rfl
theorem e_S_fairness_56 (x y : Int64) : (WP Gm j_S_fairness 56 (ls) (.inr (.inr (.inl y)) :: .inr (.inr (.inl x)) :: st) h Q) = (WP Gm j_S_fairness 57 (ls) (.inl (lg_cmp x y) :: st) (h) Q) := (WP_at c_S_fairness_56 _ _ _ _)
theorem c_S_fairness_57 : mCode j_S_fairness 57 = oIf (fun x => decide (0 < x)) 62 60 := rfl
theorem e_S_fairness_57 (x : Int32) : (WP Gm j_S_fairness 57 (ls) (.inl x :: st) h Q) = (if 0 < x then WP Gm j_S_fairness 62 (ls) (st) (h) Q else WP Gm j_S_fairness 60 (ls) (st) (h) Q) := (WP_at c_S_fairness_57 _ _ _ _).trans (nd_if rfl _ _ _ _)
theorem c_S_fairness_60 : mCode j_S_fairness 60 = oF FP.dconst1 61 := rfl
theorem e_S_fairness_60  : (WP Gm j_S_fairness 60 (ls) (st) h Q) = (WP Gm j_S_fairness 61 (ls) (.inr (.inr (.inr FP.dconst1)) :: st) (h) Q) := (WP_at c_S_fairness_60 _ _ _ _)
theorem c_S_fairness_61 : mCode j_S_fairness 61 = oRetD := rfl
theorem e_S_fairness_61 (x : UInt64) : (WP Gm j_S_fairness 61 (ls) ([.inr (.inr (.inr x))]) h Q) = (Q (.inl (some (.inr (.inr (.inr x))))) h) := (WP_at c_S_fairness_61 _ _ _ _)
theorem c_S_fairness_62 : mCode j_S_fairness 62 = oLld 1 63 := rfl
theorem e_S_fairness_62 (a0 : Option MV) (x : Int64) : (WP Gm j_S_fairness 62 (a0 :: some (.inr (.inr (.inl x))) :: ls) (st) h Q) = (WP Gm j_S_fairness 63 (a0 :: some (.inr (.inr (.inl x))) :: ls) (.inr (.inr (.inl x)) :: st) (h) Q) := (WP_at c_S_fairness_62 _ _ _ _)
theorem c_S_fairness_63 : mCode j_S_fairness 63 = oLld 1 64 := rfl
theorem e_S_fairness_63 (a0 : Option MV) (x : Int64) : (WP Gm j_S_fairness 63 (a0 :: some (.inr (.inr (.inl x))) :: ls) (st) h Q) = (WP Gm j_S_fairness 64 (a0 :: some (.inr (.inr (.inl x))) :: ls) (.inr (.inr (.inl x)) :: st) (h) Q) := (WP_at c_S_fairness_63 _ _ _ _)
theorem c_S_fairness_64 : mCode j_S_fairness 64 = oLL (fun x y => x * y) 65 := rfl
theorem e_S_fairness_64 (x : Int64) (y : Int64) : (WP Gm j_S_fairness 64 (ls) (.inr (.inr (.inl y)) :: .inr (.inr (.inl x)) :: st) h Q) = (WP Gm j_S_fairness 65 (ls) (.inr (.inr (.inl (x * y))) :: st) (h) Q) := (WP_at c_S_fairness_64 _ _ _ _)
theorem c_S_fairness_65 : mCode j_S_fairness 65 = oL2D 66 := rfl
theorem e_S_fairness_65 (x : Int64) : (WP Gm j_S_fairness 65 (ls) (.inr (.inr (.inl x)) :: st) h Q) = (WP Gm j_S_fairness 66 (ls) (.inr (.inr (.inr (FP.l2d x))) :: st) (h) Q) := (WP_at c_S_fairness_65 _ _ _ _)
theorem c_S_fairness_66 : mCode j_S_fairness 66 = oAld 0 67 := rfl
theorem e_S_fairness_66 (x : Option Nat) : (WP Gm j_S_fairness 66 (some (.inr (.inl x)) :: ls) (st) h Q) = (WP Gm j_S_fairness 67 (some (.inr (.inl x)) :: ls) (.inr (.inl x) :: st) (h) Q) := (WP_at c_S_fairness_66 _ _ _ _)
theorem c_S_fairness_67 : mCode j_S_fairness 67 = oGetR kc_S 0 70 := rfl
theorem e_S_fairness_67 (a : Nat) (hk : isK h a kc_S = true) : (WP Gm j_S_fairness 67 (ls) (.inr (.inl (some a)) :: st) h Q) = (WP Gm j_S_fairness 70 (ls) (.inr (.inl (gR h a 0)) :: st) (h) Q) := (WP_at c_S_fairness_67 _ _ _ _).trans (congrArg (fun o => ndX Gm (WP Gm) j_S_fairness 67 o Q) (if_pos hk))
theorem c_S_fairness_70 : mCode j_S_fairness 70 = oGetI kc_Land 2 73 := rfl
theorem e_S_fairness_70 (a : Nat) (hk : isK h a kc_Land = true) : (WP Gm j_S_fairness 70 (ls) (.inr (.inl (some a)) :: st) h Q) = (WP Gm j_S_fairness 73 (ls) (.inl (gI h a 2) :: st) (h) Q) := (WP_at c_S_fairness_70 _ _ _ _).trans (congrArg (fun o => ndX Gm (WP Gm) j_S_fairness 70 o Q) (if_pos hk))
theorem c_S_fairness_73 : mCode j_S_fairness 73 = oI2L 74 := rfl
theorem e_S_fairness_73 (x : Int32) : (WP Gm j_S_fairness 73 (ls) (.inl x :: st) h Q) = (WP Gm j_S_fairness 74 (ls) (.inr (.inr (.inl x.toInt64)) :: st) (h) Q) := (WP_at c_S_fairness_73 _ _ _ _)
theorem c_S_fairness_74 : mCode j_S_fairness 74 = oLld 3 75 := rfl
theorem e_S_fairness_74 (a0 a1 a2 : Option MV) (x : Int64) : (WP Gm j_S_fairness 74 (a0 :: a1 :: a2 :: some (.inr (.inr (.inl x))) :: ls) (st) h Q) = (WP Gm j_S_fairness 75 (a0 :: a1 :: a2 :: some (.inr (.inr (.inl x))) :: ls) (.inr (.inr (.inl x)) :: st) (h) Q) := (WP_at c_S_fairness_74 _ _ _ _)
theorem c_S_fairness_75 : mCode j_S_fairness 75 = oLL (fun x y => x * y) 76 := rfl
theorem e_S_fairness_75 (x : Int64) (y : Int64) : (WP Gm j_S_fairness 75 (ls) (.inr (.inr (.inl y)) :: .inr (.inr (.inl x)) :: st) h Q) = (WP Gm j_S_fairness 76 (ls) (.inr (.inr (.inl (x * y))) :: st) (h) Q) := (WP_at c_S_fairness_75 _ _ _ _)
theorem c_S_fairness_76 : mCode j_S_fairness 76 = oL2D 77 := rfl
theorem e_S_fairness_76 (x : Int64) : (WP Gm j_S_fairness 76 (ls) (.inr (.inr (.inl x)) :: st) h Q) = (WP Gm j_S_fairness 77 (ls) (.inr (.inr (.inr (FP.l2d x))) :: st) (h) Q) := (WP_at c_S_fairness_76 _ _ _ _)
theorem c_S_fairness_77 : mCode j_S_fairness 77 = oDD FP.ddiv 78 := rfl
theorem e_S_fairness_77 (x : UInt64) (y : UInt64) (hy : okD (FP.ddiv x y) = true) : (WP Gm j_S_fairness 77 (ls) (.inr (.inr (.inr y)) :: .inr (.inr (.inr x)) :: st) h Q) = (WP Gm j_S_fairness 78 (ls) (.inr (.inr (.inr (FP.ddiv x y))) :: st) (h) Q) := (WP_at c_S_fairness_77 _ _ _ _).trans (congrArg (fun o => ndX Gm (WP Gm) j_S_fairness 77 o Q) (if_pos hy))
theorem c_S_fairness_78 : mCode j_S_fairness 78 = oRetD := rfl
theorem e_S_fairness_78 (x : UInt64) : (WP Gm j_S_fairness 78 (ls) ([.inr (.inr (.inr x))]) h Q) = (Q (.inl (some (.inr (.inr (.inr x))))) h) := (WP_at c_S_fairness_78 _ _ _ _)
theorem c_S_row_0 : mCode j_S_row 0 = oNew cM sM kc_StringBuilder 4 3 := rfl
theorem e_S_row_0 (hr : okR cM sM h 1 4 = true) : (WP Gm j_S_row 0 (ls) (st) h Q) = (WP Gm j_S_row 3 (ls) (.inr (.inl (some (nx h))) :: st) (hN h kc_StringBuilder 0 4) Q) := (WP_at c_S_row_0 _ _ _ _).trans (congrArg (fun o => ndX Gm (WP Gm) j_S_row 0 o Q) (if_pos hr))
theorem c_S_row_3 : mCode j_S_row 3 = oDup 4 := rfl
theorem e_S_row_3 (x : Option Nat) : (WP Gm j_S_row 3 (ls) (.inr (.inl x) :: st) h Q) = (WP Gm j_S_row 4 (ls) (.inr (.inl x) :: .inr (.inl x) :: st) (h) Q) := (WP_at c_S_row_3 _ _ _ _)
theorem c_S_row_4 : mCode j_S_row 4 = oCallV kc_StringBuilder j_StringBuilder_init 0 (mL j_StringBuilder_init) 7 := rfl
theorem e_S_row_4 (a : Nat) (hk : isK h a kc_StringBuilder = true) (hc : c8 st = true) : (WP Gm j_S_row 4 (ls) (.inr (.inl (some a)) :: st) h Q) = (WP Gm j_StringBuilder_init 0 [some (.inr (.inl (some a)))] [] h (kC (fun v h2 => WP Gm j_S_row 7 ls (v.toList ++ st) h2 Q) (fun E h2 => Q (.inr E) h2))) := (WP_at c_S_row_4 _ _ _ _).trans (congrArg (fun o => ndX Gm (WP Gm) j_S_row 4 o Q) (if_pos (by rw [hk, show decide (catS st ≤ 8) = true from hc]; rfl)))
theorem c_S_row_7 : mCode j_S_row 7 = oAst 1 8 := rfl
theorem e_S_row_7 (x : Option Nat) : (WP Gm j_S_row 7 (ls) (.inr (.inl x) :: st) h Q) = (WP Gm j_S_row 8 (lSet1 ls 1 (some (.inr (.inl x)))) (st) (h) Q) := (WP_at c_S_row_7 _ _ _ _)
theorem c_S_row_8 : mCode j_S_row 8 = oI 0 9 := rfl
theorem e_S_row_8  : (WP Gm j_S_row 8 (ls) (st) h Q) = (WP Gm j_S_row 9 (ls) (.inl 0 :: st) (h) Q) := (WP_at c_S_row_8 _ _ _ _)
theorem c_S_row_9 : mCode j_S_row 9 = oIst 2 10 := rfl
theorem e_S_row_9 (x : Int32) : (WP Gm j_S_row 9 (ls) (.inl x :: st) h Q) = (WP Gm j_S_row 10 (lSet1 ls 2 (some (.inl x))) (st) (h) Q) := (WP_at c_S_row_9 _ _ _ _)
theorem c_S_row_10 : mCode j_S_row 10 = oIld 2 11 := rfl
theorem e_S_row_10 (a0 a1 : Option MV) (x : Int32) : (WP Gm j_S_row 10 (a0 :: a1 :: some (.inl x) :: ls) (st) h Q) = (WP Gm j_S_row 11 (a0 :: a1 :: some (.inl x) :: ls) (.inl x :: st) (h) Q) := (WP_at c_S_row_10 _ _ _ _)
theorem c_S_row_11 : mCode j_S_row 11 = oAld 0 12 := rfl
theorem e_S_row_11 (x : Option Nat) : (WP Gm j_S_row 11 (some (.inr (.inl x)) :: ls) (st) h Q) = (WP Gm j_S_row 12 (some (.inr (.inl x)) :: ls) (.inr (.inl x) :: st) (h) Q) := (WP_at c_S_row_11 _ _ _ _)
theorem c_S_row_12 : mCode j_S_row 12 = oGetR kc_S 0 15 := rfl
theorem e_S_row_12 (a : Nat) (hk : isK h a kc_S = true) : (WP Gm j_S_row 12 (ls) (.inr (.inl (some a)) :: st) h Q) = (WP Gm j_S_row 15 (ls) (.inr (.inl (gR h a 0)) :: st) (h) Q) := (WP_at c_S_row_12 _ _ _ _).trans (congrArg (fun o => ndX Gm (WP Gm) j_S_row 12 o Q) (if_pos hk))
theorem c_S_row_15 : mCode j_S_row 15 = oGetI kc_Land 2 18 := rfl
theorem e_S_row_15 (a : Nat) (hk : isK h a kc_Land = true) : (WP Gm j_S_row 15 (ls) (.inr (.inl (some a)) :: st) h Q) = (WP Gm j_S_row 18 (ls) (.inl (gI h a 2) :: st) (h) Q) := (WP_at c_S_row_15 _ _ _ _).trans (congrArg (fun o => ndX Gm (WP Gm) j_S_row 15 o Q) (if_pos hk))
theorem c_S_row_18 : mCode j_S_row 18 = oIC (fun x y => decide (y ≤ x)) 44 21 := rfl
theorem e_S_row_18 (x y : Int32) : (WP Gm j_S_row 18 (ls) (.inl y :: .inl x :: st) h Q) = (if y ≤ x then WP Gm j_S_row 44 (ls) (st) (h) Q else WP Gm j_S_row 21 (ls) (st) (h) Q) := (WP_at c_S_row_18 _ _ _ _).trans (nd_ic rfl _ _ _ _)
theorem c_S_row_21 : mCode j_S_row 21 = oAld 1 22 := rfl
theorem e_S_row_21 (a0 : Option MV) (x : Option Nat) : (WP Gm j_S_row 21 (a0 :: some (.inr (.inl x)) :: ls) (st) h Q) = (WP Gm j_S_row 22 (a0 :: some (.inr (.inl x)) :: ls) (.inr (.inl x) :: st) (h) Q) := (WP_at c_S_row_21 _ _ _ _)
theorem c_S_row_22 : mCode j_S_row 22 = oAld 0 23 := rfl
theorem e_S_row_22 (x : Option Nat) : (WP Gm j_S_row 22 (some (.inr (.inl x)) :: ls) (st) h Q) = (WP Gm j_S_row 23 (some (.inr (.inl x)) :: ls) (.inr (.inl x) :: st) (h) Q) := (WP_at c_S_row_22 _ _ _ _)
theorem c_S_row_23 : mCode j_S_row 23 = oGetR kc_S 0 26 := rfl
theorem e_S_row_23 (a : Nat) (hk : isK h a kc_S = true) : (WP Gm j_S_row 23 (ls) (.inr (.inl (some a)) :: st) h Q) = (WP Gm j_S_row 26 (ls) (.inr (.inl (gR h a 0)) :: st) (h) Q) := (WP_at c_S_row_23 _ _ _ _).trans (congrArg (fun o => ndX Gm (WP Gm) j_S_row 23 o Q) (if_pos hk))
theorem c_S_row_26 : mCode j_S_row 26 = oGetR kc_Land 0 29 := rfl
theorem e_S_row_26 (a : Nat) (hk : isK h a kc_Land = true) : (WP Gm j_S_row 26 (ls) (.inr (.inl (some a)) :: st) h Q) = (WP Gm j_S_row 29 (ls) (.inr (.inl (gR h a 0)) :: st) (h) Q) := (WP_at c_S_row_26 _ _ _ _).trans (congrArg (fun o => ndX Gm (WP Gm) j_S_row 26 o Q) (if_pos hk))
theorem c_S_row_29 : mCode j_S_row 29 = oIld 2 30 := rfl
theorem e_S_row_29 (a0 a1 : Option MV) (x : Int32) : (WP Gm j_S_row 29 (a0 :: a1 :: some (.inl x) :: ls) (st) h Q) = (WP Gm j_S_row 30 (a0 :: a1 :: some (.inl x) :: ls) (.inl x :: st) (h) Q) := (WP_at c_S_row_29 _ _ _ _)
theorem c_S_row_30 : mCode j_S_row 30 = oAal 2 31 := rfl
theorem e_S_row_30 (a : Nat) (i : Int32) (hk : isK h a 102 = true) (hi : inL h a i = true) : (WP Gm j_S_row 30 (ls) (.inl i :: .inr (.inl (some a)) :: st) h Q) = (WP Gm j_S_row 31 (ls) (.inr (.inl (gR h a i.toNatClampNeg)) :: st) (h) Q) := (WP_at c_S_row_30 _ _ _ _).trans (congrArg (fun o => ndX Gm (WP Gm) j_S_row 30 o Q) (if_pos (by rw [hk, hi]; rfl)))
theorem c_S_row_31 : mCode j_S_row 31 = oCallV kc_Node j_Node_sign 0 (mL j_Node_sign) 34 := rfl
theorem e_S_row_31 (a : Nat) (hk : isK h a kc_Node = true) (hc : c8 st = true) : (WP Gm j_S_row 31 (ls) (.inr (.inl (some a)) :: st) h Q) = (WP Gm j_Node_sign 0 [some (.inr (.inl (some a)))] [] h (kC (fun v h2 => WP Gm j_S_row 34 ls (v.toList ++ st) h2 Q) (fun E h2 => Q (.inr E) h2))) := (WP_at c_S_row_31 _ _ _ _).trans (congrArg (fun o => ndX Gm (WP Gm) j_S_row 31 o Q) (if_pos (by rw [hk, show decide (catS st ≤ 8) = true from hc]; rfl)))
theorem c_S_row_34 : mCode j_S_row 34 = oCallV kc_StringBuilder j_StringBuilder_append 1 (mL j_StringBuilder_append) 37 := rfl
theorem e_S_row_34 (a : Nat) (x0 : Option Nat) (hk : isK h a kc_StringBuilder = true) (hc : c8 st = true) : (WP Gm j_S_row 34 (ls) (.inr (.inl x0) :: .inr (.inl (some a)) :: st) h Q) = (WP Gm j_StringBuilder_append 0 [some (.inr (.inl (some a))), some (.inr (.inl x0))] [] h (kC (fun v h2 => WP Gm j_S_row 37 ls (v.toList ++ st) h2 Q) (fun E h2 => Q (.inr E) h2))) := (WP_at c_S_row_34 _ _ _ _).trans (congrArg (fun o => ndX Gm (WP Gm) j_S_row 34 o Q) (if_pos (by rw [hk, show decide (catS st ≤ 8) = true from hc]; rfl)))
theorem c_S_row_37 : mCode j_S_row 37 = oPop 38 := rfl
theorem e_S_row_37 (x : Option Nat) : (WP Gm j_S_row 37 (ls) (.inr (.inl x) :: st) h Q) = (WP Gm j_S_row 38 (ls) (st) (h) Q) := (WP_at c_S_row_37 _ _ _ _)
theorem c_S_row_38 : mCode j_S_row 38 = oInc 2 1 41 := rfl
theorem e_S_row_38 (a0 a1 : Option MV) (x : Int32) : (WP Gm j_S_row 38 (a0 :: a1 :: some (.inl x) :: ls) (st) h Q) = (WP Gm j_S_row 41 (lSet1 (a0 :: a1 :: some (.inl x) :: ls) 2 (some (.inl (x + 1)))) (st) (h) Q) := (WP_at c_S_row_38 _ _ _ _)
theorem c_S_row_41 : mCode j_S_row 41 = oGo 10 := rfl
theorem e_S_row_41  : (WP Gm j_S_row 41 (ls) (st) h Q) = (WP Gm j_S_row 10 (ls) (st) (h) Q) := (WP_at c_S_row_41 _ _ _ _)
theorem c_S_row_44 : mCode j_S_row 44 = oAld 1 45 := rfl
theorem e_S_row_44 (a0 : Option MV) (x : Option Nat) : (WP Gm j_S_row 44 (a0 :: some (.inr (.inl x)) :: ls) (st) h Q) = (WP Gm j_S_row 45 (a0 :: some (.inr (.inl x)) :: ls) (.inr (.inl x) :: st) (h) Q) := (WP_at c_S_row_44 _ _ _ _)
theorem c_S_row_45 : mCode j_S_row 45 = oCallV kc_StringBuilder j_StringBuilder_toString 0 (mL j_StringBuilder_toString) 48 := rfl
theorem e_S_row_45 (a : Nat) (hk : isK h a kc_StringBuilder = true) (hc : c8 st = true) : (WP Gm j_S_row 45 (ls) (.inr (.inl (some a)) :: st) h Q) = (WP Gm j_StringBuilder_toString 0 [some (.inr (.inl (some a)))] [] h (kC (fun v h2 => WP Gm j_S_row 48 ls (v.toList ++ st) h2 Q) (fun E h2 => Q (.inr E) h2))) := (WP_at c_S_row_45 _ _ _ _).trans (congrArg (fun o => ndX Gm (WP Gm) j_S_row 45 o Q) (if_pos (by rw [hk, show decide (catS st ≤ 8) = true from hc]; rfl)))
theorem c_S_row_48 : mCode j_S_row 48 = oRetA := rfl
theorem e_S_row_48 (x : Option Nat) : (WP Gm j_S_row 48 (ls) ([.inr (.inl x)]) h Q) = (Q (.inl (some (.inr (.inl x)))) h) := (WP_at c_S_row_48 _ _ _ _)
theorem c_S_would_0 : mCode j_S_would 0 = oAld 0 1 := rfl
theorem e_S_would_0 (x : Option Nat) : (WP Gm j_S_would 0 (some (.inr (.inl x)) :: ls) (st) h Q) = (WP Gm j_S_would 1 (some (.inr (.inl x)) :: ls) (.inr (.inl x) :: st) (h) Q) := (WP_at c_S_would_0 _ _ _ _)
theorem c_S_would_1 : mCode j_S_would 1 = oIld 2 2 := rfl
theorem e_S_would_1 (a0 a1 : Option MV) (x : Int32) : (WP Gm j_S_would 1 (a0 :: a1 :: some (.inl x) :: ls) (st) h Q) = (WP Gm j_S_would 2 (a0 :: a1 :: some (.inl x) :: ls) (.inl x :: st) (h) Q) := (WP_at c_S_would_1 _ _ _ _)
theorem c_S_would_2 : mCode j_S_would 2 = oCallV kc_S j_S_checkNode 1 (mL j_S_checkNode) 5 := rfl
theorem e_S_would_2 (a : Nat) (x0 : Int32) (hk : isK h a kc_S = true) (hc : c8 st = true) : (WP Gm j_S_would 2 (ls) (.inl x0 :: .inr (.inl (some a)) :: st) h Q) = (WP Gm j_S_checkNode 0 [some (.inr (.inl (some a))), some (.inl x0)] [] h (kC (fun v h2 => WP Gm j_S_would 5 ls (v.toList ++ st) h2 Q) (fun E h2 => Q (.inr E) h2))) := (WP_at c_S_would_2 _ _ _ _).trans (congrArg (fun o => ndX Gm (WP Gm) j_S_would 2 o Q) (if_pos (by rw [hk, show decide (catS st ≤ 8) = true from hc]; rfl)))
theorem c_S_would_5 : mCode j_S_would 5 = oIld 1 6 := rfl
theorem e_S_would_5 (a0 : Option MV) (x : Int32) : (WP Gm j_S_would 5 (a0 :: some (.inl x) :: ls) (st) h Q) = (WP Gm j_S_would 6 (a0 :: some (.inl x) :: ls) (.inl x :: st) (h) Q) := (WP_at c_S_would_5 _ _ _ _)
theorem c_S_would_6 : mCode j_S_would 6 = oI 0 7 := rfl
theorem e_S_would_6  : (WP Gm j_S_would 6 (ls) (st) h Q) = (WP Gm j_S_would 7 (ls) (.inl 0 :: st) (h) Q) := (WP_at c_S_would_6 _ _ _ _)
theorem c_S_would_7 : mCode j_S_would 7 = oAld 0 8 := rfl
theorem e_S_would_7 (x : Option Nat) : (WP Gm j_S_would 7 (some (.inr (.inl x)) :: ls) (st) h Q) = (WP Gm j_S_would 8 (some (.inr (.inl x)) :: ls) (.inr (.inl x) :: st) (h) Q) := (WP_at c_S_would_7 _ _ _ _)
theorem c_S_would_8 : mCode j_S_would 8 = oGetR kc_S 0 11 := rfl
theorem e_S_would_8 (a : Nat) (hk : isK h a kc_S = true) : (WP Gm j_S_would 8 (ls) (.inr (.inl (some a)) :: st) h Q) = (WP Gm j_S_would 11 (ls) (.inr (.inl (gR h a 0)) :: st) (h) Q) := (WP_at c_S_would_8 _ _ _ _).trans (congrArg (fun o => ndX Gm (WP Gm) j_S_would 8 o Q) (if_pos hk))
theorem c_S_would_11 : mCode j_S_would 11 = oCallV kc_Land j_Land_everyone 0 (mL j_Land_everyone) 14 := rfl
theorem e_S_would_11 (a : Nat) (hk : isK h a kc_Land = true) (hc : c8 st = true) : (WP Gm j_S_would 11 (ls) (.inr (.inl (some a)) :: st) h Q) = (WP Gm j_Land_everyone 0 [some (.inr (.inl (some a)))] [] h (kC (fun v h2 => WP Gm j_S_would 14 ls (v.toList ++ st) h2 Q) (fun E h2 => Q (.inr E) h2))) := (WP_at c_S_would_11 _ _ _ _).trans (congrArg (fun o => ndX Gm (WP Gm) j_S_would 11 o Q) (if_pos (by rw [hk, show decide (catS st ≤ 8) = true from hc]; rfl)))
theorem c_S_would_14 : mCode j_S_would 14 = oCallS j_S_isWithin 3 (mL j_S_isWithin) 17 := rfl
theorem e_S_would_14 (x0 : Int32) (x1 : Int32) (x2 : Int32) (hc : c8 st = true) : (WP Gm j_S_would 14 (ls) (.inl x2 :: .inl x1 :: .inl x0 :: st) h Q) = (WP Gm j_S_isWithin 0 [some (.inl x0), some (.inl x1), some (.inl x2)] [] h (kC (fun v h2 => WP Gm j_S_would 17 ls (v.toList ++ st) h2 Q) (fun E h2 => Q (.inr E) h2))) := (WP_at c_S_would_14 _ _ _ _).trans (congrArg (fun o => ndX Gm (WP Gm) j_S_would 14 o Q) (if_pos (by rw [show decide (catS st ≤ 8) = true from hc]; rfl)))
theorem c_S_would_17 : mCode j_S_would 17 = oIf (fun x => decide (x = 0)) 28 20 := rfl
theorem e_S_would_17 (x : Int32) : (WP Gm j_S_would 17 (ls) (.inl x :: st) h Q) = (if x = 0 then WP Gm j_S_would 28 (ls) (st) (h) Q else WP Gm j_S_would 20 (ls) (st) (h) Q) := (WP_at c_S_would_17 _ _ _ _).trans (nd_if rfl _ _ _ _)
theorem c_S_would_20 : mCode j_S_would 20 = oIld 1 21 := rfl
theorem e_S_would_20 (a0 : Option MV) (x : Int32) : (WP Gm j_S_would 20 (a0 :: some (.inl x) :: ls) (st) h Q) = (WP Gm j_S_would 21 (a0 :: some (.inl x) :: ls) (.inl x :: st) (h) Q) := (WP_at c_S_would_20 _ _ _ _)
theorem c_S_would_21 : mCode j_S_would 21 = oIld 2 22 := rfl
theorem e_S_would_21 (a0 a1 : Option MV) (x : Int32) : (WP Gm j_S_would 21 (a0 :: a1 :: some (.inl x) :: ls) (st) h Q) = (WP Gm j_S_would 22 (a0 :: a1 :: some (.inl x) :: ls) (.inl x :: st) (h) Q) := (WP_at c_S_would_21 _ _ _ _)
theorem c_S_would_22 : mCode j_S_would 22 = oCallS j_S_isIn 2 (mL j_S_isIn) 25 := rfl
theorem e_S_would_22 (x0 : Int32) (x1 : Int32) (hc : c8 st = true) : (WP Gm j_S_would 22 (ls) (.inl x1 :: .inl x0 :: st) h Q) = (WP Gm j_S_isIn 0 [some (.inl x0), some (.inl x1)] [] h (kC (fun v h2 => WP Gm j_S_would 25 ls (v.toList ++ st) h2 Q) (fun E h2 => Q (.inr E) h2))) := (WP_at c_S_would_22 _ _ _ _).trans (congrArg (fun o => ndX Gm (WP Gm) j_S_would 22 o Q) (if_pos (by rw [show decide (catS st ≤ 8) = true from hc]; rfl)))
theorem c_S_would_25 : mCode j_S_would 25 = oIf (fun x => decide (x = 0)) 39 28 := rfl
theorem e_S_would_25 (x : Int32) : (WP Gm j_S_would 25 (ls) (.inl x :: st) h Q) = (if x = 0 then WP Gm j_S_would 39 (ls) (st) (h) Q else WP Gm j_S_would 28 (ls) (st) (h) Q) := (WP_at c_S_would_25 _ _ _ _).trans (nd_if rfl _ _ _ _)
theorem c_S_would_28 : mCode j_S_would 28 = oThr cM sM 0 kc_IllegalArgumentException := rfl
theorem e_S_would_28 (hr : okR cM sM h 1 6 = true) : (WP Gm j_S_would 28 (ls) ([]) h Q) = (Q (.inr 0) (hN h kc_IllegalArgumentException 0 6)) := (WP_at c_S_would_28 _ _ _ _).trans (congrArg (fun o => ndX Gm (WP Gm) j_S_would 28 o Q) (if_pos hr))
theorem c_S_would_39 : mCode j_S_would 39 = oI 0 40 := rfl
theorem e_S_would_39  : (WP Gm j_S_would 39 (ls) (st) h Q) = (WP Gm j_S_would 40 (ls) (.inl 0 :: st) (h) Q) := (WP_at c_S_would_39 _ _ _ _)
theorem c_S_would_40 : mCode j_S_would 40 = oIst 3 41 := rfl
theorem e_S_would_40 (x : Int32) : (WP Gm j_S_would 40 (ls) (.inl x :: st) h Q) = (WP Gm j_S_would 41 (lSet1 ls 3 (some (.inl x))) (st) (h) Q) := (WP_at c_S_would_40 _ _ _ _)
theorem c_S_would_41 : mCode j_S_would 41 = oIld 3 42 := rfl
theorem e_S_would_41 (a0 a1 a2 : Option MV) (x : Int32) : (WP Gm j_S_would 41 (a0 :: a1 :: a2 :: some (.inl x) :: ls) (st) h Q) = (WP Gm j_S_would 42 (a0 :: a1 :: a2 :: some (.inl x) :: ls) (.inl x :: st) (h) Q) := (WP_at c_S_would_41 _ _ _ _)
theorem c_S_would_42 : mCode j_S_would 42 = oAld 0 43 := rfl
theorem e_S_would_42 (x : Option Nat) : (WP Gm j_S_would 42 (some (.inr (.inl x)) :: ls) (st) h Q) = (WP Gm j_S_would 43 (some (.inr (.inl x)) :: ls) (.inr (.inl x) :: st) (h) Q) := (WP_at c_S_would_42 _ _ _ _)
theorem c_S_would_43 : mCode j_S_would 43 = oGetR kc_S 0 46 := rfl
theorem e_S_would_43 (a : Nat) (hk : isK h a kc_S = true) : (WP Gm j_S_would 43 (ls) (.inr (.inl (some a)) :: st) h Q) = (WP Gm j_S_would 46 (ls) (.inr (.inl (gR h a 0)) :: st) (h) Q) := (WP_at c_S_would_43 _ _ _ _).trans (congrArg (fun o => ndX Gm (WP Gm) j_S_would 43 o Q) (if_pos hk))
theorem c_S_would_46 : mCode j_S_would 46 = oGetI kc_Land 2 49 := rfl
theorem e_S_would_46 (a : Nat) (hk : isK h a kc_Land = true) : (WP Gm j_S_would 46 (ls) (.inr (.inl (some a)) :: st) h Q) = (WP Gm j_S_would 49 (ls) (.inl (gI h a 2) :: st) (h) Q) := (WP_at c_S_would_46 _ _ _ _).trans (congrArg (fun o => ndX Gm (WP Gm) j_S_would 46 o Q) (if_pos hk))
theorem c_S_would_49 : mCode j_S_would 49 = oIC (fun x y => decide (y ≤ x)) 81 52 := rfl
theorem e_S_would_49 (x y : Int32) : (WP Gm j_S_would 49 (ls) (.inl y :: .inl x :: st) h Q) = (if y ≤ x then WP Gm j_S_would 81 (ls) (st) (h) Q else WP Gm j_S_would 52 (ls) (st) (h) Q) := (WP_at c_S_would_49 _ _ _ _).trans (nd_ic rfl _ _ _ _)
theorem c_S_would_52 : mCode j_S_would 52 = oIld 1 53 := rfl
theorem e_S_would_52 (a0 : Option MV) (x : Int32) : (WP Gm j_S_would 52 (a0 :: some (.inl x) :: ls) (st) h Q) = (WP Gm j_S_would 53 (a0 :: some (.inl x) :: ls) (.inl x :: st) (h) Q) := (WP_at c_S_would_52 _ _ _ _)
theorem c_S_would_53 : mCode j_S_would 53 = oIld 3 54 := rfl
theorem e_S_would_53 (a0 a1 a2 : Option MV) (x : Int32) : (WP Gm j_S_would 53 (a0 :: a1 :: a2 :: some (.inl x) :: ls) (st) h Q) = (WP Gm j_S_would 54 (a0 :: a1 :: a2 :: some (.inl x) :: ls) (.inl x :: st) (h) Q) := (WP_at c_S_would_53 _ _ _ _)
theorem c_S_would_54 : mCode j_S_would 54 = oCallS j_S_isIn 2 (mL j_S_isIn) 57 := rfl
theorem e_S_would_54 (x0 : Int32) (x1 : Int32) (hc : c8 st = true) : (WP Gm j_S_would 54 (ls) (.inl x1 :: .inl x0 :: st) h Q) = (WP Gm j_S_isIn 0 [some (.inl x0), some (.inl x1)] [] h (kC (fun v h2 => WP Gm j_S_would 57 ls (v.toList ++ st) h2 Q) (fun E h2 => Q (.inr E) h2))) := (WP_at c_S_would_54 _ _ _ _).trans (congrArg (fun o => ndX Gm (WP Gm) j_S_would 54 o Q) (if_pos (by rw [show decide (catS st ≤ 8) = true from hc]; rfl)))
theorem c_S_would_57 : mCode j_S_would 57 = oIf (fun x => decide (x = 0)) 75 60 := rfl
theorem e_S_would_57 (x : Int32) : (WP Gm j_S_would 57 (ls) (.inl x :: st) h Q) = (if x = 0 then WP Gm j_S_would 75 (ls) (st) (h) Q else WP Gm j_S_would 60 (ls) (st) (h) Q) := (WP_at c_S_would_57 _ _ _ _).trans (nd_if rfl _ _ _ _)
theorem c_S_would_60 : mCode j_S_would 60 = oAld 0 61 := rfl
theorem e_S_would_60 (x : Option Nat) : (WP Gm j_S_would 60 (some (.inr (.inl x)) :: ls) (st) h Q) = (WP Gm j_S_would 61 (some (.inr (.inl x)) :: ls) (.inr (.inl x) :: st) (h) Q) := (WP_at c_S_would_60 _ _ _ _)
theorem c_S_would_61 : mCode j_S_would 61 = oGetR kc_S 0 64 := rfl
theorem e_S_would_61 (a : Nat) (hk : isK h a kc_S = true) : (WP Gm j_S_would 61 (ls) (.inr (.inl (some a)) :: st) h Q) = (WP Gm j_S_would 64 (ls) (.inr (.inl (gR h a 0)) :: st) (h) Q) := (WP_at c_S_would_61 _ _ _ _).trans (congrArg (fun o => ndX Gm (WP Gm) j_S_would 61 o Q) (if_pos hk))
theorem c_S_would_64 : mCode j_S_would 64 = oIld 2 65 := rfl
theorem e_S_would_64 (a0 a1 : Option MV) (x : Int32) : (WP Gm j_S_would 64 (a0 :: a1 :: some (.inl x) :: ls) (st) h Q) = (WP Gm j_S_would 65 (a0 :: a1 :: some (.inl x) :: ls) (.inl x :: st) (h) Q) := (WP_at c_S_would_64 _ _ _ _)
theorem c_S_would_65 : mCode j_S_would 65 = oIld 3 66 := rfl
theorem e_S_would_65 (a0 a1 a2 : Option MV) (x : Int32) : (WP Gm j_S_would 65 (a0 :: a1 :: a2 :: some (.inl x) :: ls) (st) h Q) = (WP Gm j_S_would 66 (a0 :: a1 :: a2 :: some (.inl x) :: ls) (.inl x :: st) (h) Q) := (WP_at c_S_would_65 _ _ _ _)
theorem c_S_would_66 : mCode j_S_would 66 = oIld 1 67 := rfl
theorem e_S_would_66 (a0 : Option MV) (x : Int32) : (WP Gm j_S_would 66 (a0 :: some (.inl x) :: ls) (st) h Q) = (WP Gm j_S_would 67 (a0 :: some (.inl x) :: ls) (.inl x :: st) (h) Q) := (WP_at c_S_would_66 _ _ _ _)
theorem c_S_would_67 : mCode j_S_would 67 = oCallV kc_Land j_Land_gets 3 (mL j_Land_gets) 70 := rfl
theorem e_S_would_67 (a : Nat) (x0 : Int32) (x1 : Int32) (x2 : Int32) (hk : isK h a kc_Land = true) (hc : c8 st = true) : (WP Gm j_S_would 67 (ls) (.inl x2 :: .inl x1 :: .inl x0 :: .inr (.inl (some a)) :: st) h Q) = (WP Gm j_Land_gets 0 [some (.inr (.inl (some a))), some (.inl x0), some (.inl x1), some (.inl x2), none, none, none] [] h (kC (fun v h2 => WP Gm j_S_would 70 ls (v.toList ++ st) h2 Q) (fun E h2 => Q (.inr E) h2))) := (WP_at c_S_would_67 _ _ _ _).trans (congrArg (fun o => ndX Gm (WP Gm) j_S_would 67 o Q) (if_pos (by rw [hk, show decide (catS st ≤ 8) = true from hc]; rfl)))
theorem c_S_would_70 : mCode j_S_would 70 = oIf (fun x => decide (x = 0)) 75 73 := rfl
theorem e_S_would_70 (x : Int32) : (WP Gm j_S_would 70 (ls) (.inl x :: st) h Q) = (if x = 0 then WP Gm j_S_would 75 (ls) (st) (h) Q else WP Gm j_S_would 73 (ls) (st) (h) Q) := (WP_at c_S_would_70 _ _ _ _).trans (nd_if rfl _ _ _ _)
theorem c_S_would_73 : mCode j_S_would 73 = oIld 3 74 := rfl
theorem e_S_would_73 (a0 a1 a2 : Option MV) (x : Int32) : (WP Gm j_S_would 73 (a0 :: a1 :: a2 :: some (.inl x) :: ls) (st) h Q) = (WP Gm j_S_would 74 (a0 :: a1 :: a2 :: some (.inl x) :: ls) (.inl x :: st) (h) Q) := (WP_at c_S_would_73 _ _ _ _)
theorem c_S_would_74 : mCode j_S_would 74 = oRetI := rfl
theorem e_S_would_74 (x : Int32) : (WP Gm j_S_would 74 (ls) ([.inl x]) h Q) = (Q (.inl (some (.inl x))) h) := (WP_at c_S_would_74 _ _ _ _)
theorem c_S_would_75 : mCode j_S_would 75 = oInc 3 1 78 := rfl
theorem e_S_would_75 (a0 a1 a2 : Option MV) (x : Int32) : (WP Gm j_S_would 75 (a0 :: a1 :: a2 :: some (.inl x) :: ls) (st) h Q) = (WP Gm j_S_would 78 (lSet1 (a0 :: a1 :: a2 :: some (.inl x) :: ls) 3 (some (.inl (x + 1)))) (st) (h) Q) := (WP_at c_S_would_75 _ _ _ _)
theorem c_S_would_78 : mCode j_S_would 78 = oGo 41 := rfl
theorem e_S_would_78  : (WP Gm j_S_would 78 (ls) (st) h Q) = (WP Gm j_S_would 41 (ls) (st) (h) Q) := (WP_at c_S_would_78 _ _ _ _)
theorem c_S_would_81 : mCode j_S_would 81 = oI (-1) 82 := rfl
theorem e_S_would_81  : (WP Gm j_S_would 81 (ls) (st) h Q) = (WP Gm j_S_would 82 (ls) (.inl (-1) :: st) (h) Q) := (WP_at c_S_would_81 _ _ _ _)
theorem c_S_would_82 : mCode j_S_would 82 = oRetI := rfl
theorem e_S_would_82 (x : Int32) : (WP Gm j_S_would 82 (ls) ([.inl x]) h Q) = (Q (.inl (some (.inl x))) h) := (WP_at c_S_would_82 _ _ _ _)
theorem c_S_throughput_0 : mCode j_S_throughput 0 = oIld 1 1 := rfl
theorem e_S_throughput_0 (a0 : Option MV) (x : Int32) : (WP Gm j_S_throughput 0 (a0 :: some (.inl x) :: ls) (st) h Q) = (WP Gm j_S_throughput 1 (a0 :: some (.inl x) :: ls) (.inl x :: st) (h) Q) := (WP_at c_S_throughput_0 _ _ _ _)
theorem c_S_throughput_1 : mCode j_S_throughput 1 = oI 1 2 := rfl
theorem e_S_throughput_1  : (WP Gm j_S_throughput 1 (ls) (st) h Q) = (WP Gm j_S_throughput 2 (ls) (.inl 1 :: st) (h) Q) := (WP_at c_S_throughput_1 _ _ _ _)
theorem c_S_throughput_2 : mCode j_S_throughput 2 = oI 20 4 := rfl
theorem e_S_throughput_2  : (WP Gm j_S_throughput 2 (ls) (st) h Q) = (WP Gm j_S_throughput 4 (ls) (.inl 20 :: st) (h) Q) := (WP_at c_S_throughput_2 _ _ _ _)
theorem c_S_throughput_4 : mCode j_S_throughput 4 = oCallS j_S_isWithin 3 (mL j_S_isWithin) 7 := rfl
theorem e_S_throughput_4 (x0 : Int32) (x1 : Int32) (x2 : Int32) (hc : c8 st = true) : (WP Gm j_S_throughput 4 (ls) (.inl x2 :: .inl x1 :: .inl x0 :: st) h Q) = (WP Gm j_S_isWithin 0 [some (.inl x0), some (.inl x1), some (.inl x2)] [] h (kC (fun v h2 => WP Gm j_S_throughput 7 ls (v.toList ++ st) h2 Q) (fun E h2 => Q (.inr E) h2))) := (WP_at c_S_throughput_4 _ _ _ _).trans (congrArg (fun o => ndX Gm (WP Gm) j_S_throughput 4 o Q) (if_pos (by rw [show decide (catS st ≤ 8) = true from hc]; rfl)))
theorem c_S_throughput_7 : mCode j_S_throughput 7 = oIf (fun x => decide (x = 0)) 20 10 := rfl
theorem e_S_throughput_7 (x : Int32) : (WP Gm j_S_throughput 7 (ls) (.inl x :: st) h Q) = (if x = 0 then WP Gm j_S_throughput 20 (ls) (st) (h) Q else WP Gm j_S_throughput 10 (ls) (st) (h) Q) := (WP_at c_S_throughput_7 _ _ _ _).trans (nd_if rfl _ _ _ _)
theorem c_S_throughput_10 : mCode j_S_throughput 10 = oIld 2 11 := rfl
theorem e_S_throughput_10 (a0 a1 : Option MV) (x : Int32) : (WP Gm j_S_throughput 10 (a0 :: a1 :: some (.inl x) :: ls) (st) h Q) = (WP Gm j_S_throughput 11 (a0 :: a1 :: some (.inl x) :: ls) (.inl x :: st) (h) Q) := (WP_at c_S_throughput_10 _ _ _ _)
theorem c_S_throughput_11 : mCode j_S_throughput 11 = oI 0 12 := rfl
theorem e_S_throughput_11  : (WP Gm j_S_throughput 11 (ls) (st) h Q) = (WP Gm j_S_throughput 12 (ls) (.inl 0 :: st) (h) Q) := (WP_at c_S_throughput_11 _ _ _ _)
theorem c_S_throughput_12 : mCode j_S_throughput 12 = oI 100 14 := rfl
theorem e_S_throughput_12  : (WP Gm j_S_throughput 12 (ls) (st) h Q) = (WP Gm j_S_throughput 14 (ls) (.inl 100 :: st) (h) Q) := (WP_at c_S_throughput_12 _ _ _ _)
theorem c_S_throughput_14 : mCode j_S_throughput 14 = oCallS j_S_isWithin 3 (mL j_S_isWithin) 17 := rfl
theorem e_S_throughput_14 (x0 : Int32) (x1 : Int32) (x2 : Int32) (hc : c8 st = true) : (WP Gm j_S_throughput 14 (ls) (.inl x2 :: .inl x1 :: .inl x0 :: st) h Q) = (WP Gm j_S_isWithin 0 [some (.inl x0), some (.inl x1), some (.inl x2)] [] h (kC (fun v h2 => WP Gm j_S_throughput 17 ls (v.toList ++ st) h2 Q) (fun E h2 => Q (.inr E) h2))) := (WP_at c_S_throughput_14 _ _ _ _).trans (congrArg (fun o => ndX Gm (WP Gm) j_S_throughput 14 o Q) (if_pos (by rw [show decide (catS st ≤ 8) = true from hc]; rfl)))
theorem c_S_throughput_17 : mCode j_S_throughput 17 = oIf (fun x => decide (¬ x = 0)) 31 20 := rfl
theorem e_S_throughput_17 (x : Int32) : (WP Gm j_S_throughput 17 (ls) (.inl x :: st) h Q) = (if ¬ x = 0 then WP Gm j_S_throughput 31 (ls) (st) (h) Q else WP Gm j_S_throughput 20 (ls) (st) (h) Q) := (WP_at c_S_throughput_17 _ _ _ _).trans (nd_if rfl _ _ _ _)
theorem c_S_throughput_20 : mCode j_S_throughput 20 = oThr cM sM 0 kc_IllegalArgumentException := rfl
theorem e_S_throughput_20 (hr : okR cM sM h 1 6 = true) : (WP Gm j_S_throughput 20 (ls) ([]) h Q) = (Q (.inr 0) (hN h kc_IllegalArgumentException 0 6)) := (WP_at c_S_throughput_20 _ _ _ _).trans (congrArg (fun o => ndX Gm (WP Gm) j_S_throughput 20 o Q) (if_pos hr))
theorem c_S_throughput_31 : mCode j_S_throughput 31 = oIld 1 32 := rfl
theorem e_S_throughput_31 (a0 : Option MV) (x : Int32) : (WP Gm j_S_throughput 31 (a0 :: some (.inl x) :: ls) (st) h Q) = (WP Gm j_S_throughput 32 (a0 :: some (.inl x) :: ls) (.inl x :: st) (h) Q) := (WP_at c_S_throughput_31 _ _ _ _)
theorem c_S_throughput_32 : mCode j_S_throughput 32 = oIld 2 33 := rfl
theorem e_S_throughput_32 (a0 a1 : Option MV) (x : Int32) : (WP Gm j_S_throughput 32 (a0 :: a1 :: some (.inl x) :: ls) (st) h Q) = (WP Gm j_S_throughput 33 (a0 :: a1 :: some (.inl x) :: ls) (.inl x :: st) (h) Q) := (WP_at c_S_throughput_32 _ _ _ _)
theorem c_S_throughput_33 : mCode j_S_throughput 33 = oCallS j_S_chanceOfOne 2 (mL j_S_chanceOfOne) 36 := rfl
theorem e_S_throughput_33 (x0 : Int32) (x1 : Int32) (hc : c8 st = true) : (WP Gm j_S_throughput 33 (ls) (.inl x1 :: .inl x0 :: st) h Q) = (WP Gm j_S_chanceOfOne 0 [some (.inl x0), some (.inl x1), none, none, none, none, none] [] h (kC (fun v h2 => WP Gm j_S_throughput 36 ls (v.toList ++ st) h2 Q) (fun E h2 => Q (.inr E) h2))) := (WP_at c_S_throughput_33 _ _ _ _).trans (congrArg (fun o => ndX Gm (WP Gm) j_S_throughput 33 o Q) (if_pos (by rw [show decide (catS st ≤ 8) = true from hc]; rfl)))
theorem c_S_throughput_36 : mCode j_S_throughput 36 = oRetD := rfl
theorem e_S_throughput_36 (x : UInt64) : (WP Gm j_S_throughput 36 (ls) ([.inr (.inr (.inr x))]) h Q) = (Q (.inl (some (.inr (.inr (.inr x))))) h) := (WP_at c_S_throughput_36 _ _ _ _)
theorem c_S_bestChance_0 : mCode j_S_bestChance 0 = oIld 1 1 := rfl
theorem e_S_bestChance_0 (a0 : Option MV) (x : Int32) : (WP Gm j_S_bestChance 0 (a0 :: some (.inl x) :: ls) (st) h Q) = (WP Gm j_S_bestChance 1 (a0 :: some (.inl x) :: ls) (.inl x :: st) (h) Q) := (WP_at c_S_bestChance_0 _ _ _ _)
theorem c_S_bestChance_1 : mCode j_S_bestChance 1 = oI 1 2 := rfl
theorem e_S_bestChance_1  : (WP Gm j_S_bestChance 1 (ls) (st) h Q) = (WP Gm j_S_bestChance 2 (ls) (.inl 1 :: st) (h) Q) := (WP_at c_S_bestChance_1 _ _ _ _)
theorem c_S_bestChance_2 : mCode j_S_bestChance 2 = oI 20 4 := rfl
theorem e_S_bestChance_2  : (WP Gm j_S_bestChance 2 (ls) (st) h Q) = (WP Gm j_S_bestChance 4 (ls) (.inl 20 :: st) (h) Q) := (WP_at c_S_bestChance_2 _ _ _ _)
theorem c_S_bestChance_4 : mCode j_S_bestChance 4 = oCallS j_S_isWithin 3 (mL j_S_isWithin) 7 := rfl
theorem e_S_bestChance_4 (x0 : Int32) (x1 : Int32) (x2 : Int32) (hc : c8 st = true) : (WP Gm j_S_bestChance 4 (ls) (.inl x2 :: .inl x1 :: .inl x0 :: st) h Q) = (WP Gm j_S_isWithin 0 [some (.inl x0), some (.inl x1), some (.inl x2)] [] h (kC (fun v h2 => WP Gm j_S_bestChance 7 ls (v.toList ++ st) h2 Q) (fun E h2 => Q (.inr E) h2))) := (WP_at c_S_bestChance_4 _ _ _ _).trans (congrArg (fun o => ndX Gm (WP Gm) j_S_bestChance 4 o Q) (if_pos (by rw [show decide (catS st ≤ 8) = true from hc]; rfl)))
theorem c_S_bestChance_7 : mCode j_S_bestChance 7 = oIf (fun x => decide (¬ x = 0)) 21 10 := rfl
theorem e_S_bestChance_7 (x : Int32) : (WP Gm j_S_bestChance 7 (ls) (.inl x :: st) h Q) = (if ¬ x = 0 then WP Gm j_S_bestChance 21 (ls) (st) (h) Q else WP Gm j_S_bestChance 10 (ls) (st) (h) Q) := (WP_at c_S_bestChance_7 _ _ _ _).trans (nd_if rfl _ _ _ _)
theorem c_S_bestChance_10 : mCode j_S_bestChance 10 = oThr cM sM 0 kc_IllegalArgumentException := rfl
theorem e_S_bestChance_10 (hr : okR cM sM h 1 6 = true) : (WP Gm j_S_bestChance 10 (ls) ([]) h Q) = (Q (.inr 0) (hN h kc_IllegalArgumentException 0 6)) := (WP_at c_S_bestChance_10 _ _ _ _).trans (congrArg (fun o => ndX Gm (WP Gm) j_S_bestChance 10 o Q) (if_pos hr))
theorem c_S_bestChance_21 : mCode j_S_bestChance 21 = oI 0 22 := rfl
theorem e_S_bestChance_21  : (WP Gm j_S_bestChance 21 (ls) (st) h Q) = (WP Gm j_S_bestChance 22 (ls) (.inl 0 :: st) (h) Q) := (WP_at c_S_bestChance_21 _ _ _ _)
theorem c_S_bestChance_22 : mCode j_S_bestChance 22 = oIst 2 23 := rfl
theorem e_S_bestChance_22 (x : Int32) : (WP Gm j_S_bestChance 22 (ls) (.inl x :: st) h Q) = (WP Gm j_S_bestChance 23 (lSet1 ls 2 (some (.inl x))) (st) (h) Q) := (WP_at c_S_bestChance_22 _ _ _ _)
theorem c_S_bestChance_23 : mCode j_S_bestChance 23 = oIld 1 24 := rfl
theorem e_S_bestChance_23 (a0 : Option MV) (x : Int32) : (WP Gm j_S_bestChance 23 (a0 :: some (.inl x) :: ls) (st) h Q) = (WP Gm j_S_bestChance 24 (a0 :: some (.inl x) :: ls) (.inl x :: st) (h) Q) := (WP_at c_S_bestChance_23 _ _ _ _)
theorem c_S_bestChance_24 : mCode j_S_bestChance 24 = oI 0 25 := rfl
theorem e_S_bestChance_24  : (WP Gm j_S_bestChance 24 (ls) (st) h Q) = (WP Gm j_S_bestChance 25 (ls) (.inl 0 :: st) (h) Q) := (WP_at c_S_bestChance_24 _ _ _ _)
theorem c_S_bestChance_25 : mCode j_S_bestChance 25 = oCallS j_S_chanceOfOne 2 (mL j_S_chanceOfOne) 28 := rfl
theorem e_S_bestChance_25 (x0 : Int32) (x1 : Int32) (hc : c8 st = true) : (WP Gm j_S_bestChance 25 (ls) (.inl x1 :: .inl x0 :: st) h Q) = (WP Gm j_S_chanceOfOne 0 [some (.inl x0), some (.inl x1), none, none, none, none, none] [] h (kC (fun v h2 => WP Gm j_S_bestChance 28 ls (v.toList ++ st) h2 Q) (fun E h2 => Q (.inr E) h2))) := (WP_at c_S_bestChance_25 _ _ _ _).trans (congrArg (fun o => ndX Gm (WP Gm) j_S_bestChance 25 o Q) (if_pos (by rw [show decide (catS st ≤ 8) = true from hc]; rfl)))
theorem c_S_bestChance_28 : mCode j_S_bestChance 28 = oDst 3 29 := rfl
theorem e_S_bestChance_28 (x : UInt64) : (WP Gm j_S_bestChance 28 (ls) (.inr (.inr (.inr x)) :: st) h Q) = (WP Gm j_S_bestChance 29 (lSet2 ls 3 (.inr (.inr (.inr x)))) (st) (h) Q) := (WP_at c_S_bestChance_28 _ _ _ _)
theorem c_S_bestChance_29 : mCode j_S_bestChance 29 = oI 1 30 := rfl
theorem e_S_bestChance_29  : (WP Gm j_S_bestChance 29 (ls) (st) h Q) = (WP Gm j_S_bestChance 30 (ls) (.inl 1 :: st) (h) Q) := (WP_at c_S_bestChance_29 _ _ _ _)
theorem c_S_bestChance_30 : mCode j_S_bestChance 30 = oIst 5 32 := rfl
theorem e_S_bestChance_30 (x : Int32) : (WP Gm j_S_bestChance 30 (ls) (.inl x :: st) h Q) = (WP Gm j_S_bestChance 32 (lSet1 ls 5 (some (.inl x))) (st) (h) Q) := (WP_at c_S_bestChance_30 _ _ _ _)
theorem c_S_bestChance_32 : mCode j_S_bestChance 32 = oIld 5 34 := rfl
theorem e_S_bestChance_32 (a0 a1 a2 a3 a4 : Option MV) (x : Int32) : (WP Gm j_S_bestChance 32 (a0 :: a1 :: a2 :: a3 :: a4 :: some (.inl x) :: ls) (st) h Q) = (WP Gm j_S_bestChance 34 (a0 :: a1 :: a2 :: a3 :: a4 :: some (.inl x) :: ls) (.inl x :: st) (h) Q) := (WP_at c_S_bestChance_32 _ _ _ _)
theorem c_S_bestChance_34 : mCode j_S_bestChance 34 = oI 100 36 := rfl
theorem e_S_bestChance_34  : (WP Gm j_S_bestChance 34 (ls) (st) h Q) = (WP Gm j_S_bestChance 36 (ls) (.inl 100 :: st) (h) Q) := (WP_at c_S_bestChance_34 _ _ _ _)
theorem c_S_bestChance_36 : mCode j_S_bestChance 36 = oIC (fun x y => decide (y < x)) 66 39 := rfl
theorem e_S_bestChance_36 (x y : Int32) : (WP Gm j_S_bestChance 36 (ls) (.inl y :: .inl x :: st) h Q) = (if y < x then WP Gm j_S_bestChance 66 (ls) (st) (h) Q else WP Gm j_S_bestChance 39 (ls) (st) (h) Q) := (WP_at c_S_bestChance_36 _ _ _ _).trans (nd_ic rfl _ _ _ _)
theorem c_S_bestChance_39 : mCode j_S_bestChance 39 = oIld 1 40 := rfl
theorem e_S_bestChance_39 (a0 : Option MV) (x : Int32) : (WP Gm j_S_bestChance 39 (a0 :: some (.inl x) :: ls) (st) h Q) = (WP Gm j_S_bestChance 40 (a0 :: some (.inl x) :: ls) (.inl x :: st) (h) Q) := (WP_at c_S_bestChance_39 _ _ _ _)
theorem c_S_bestChance_40 : mCode j_S_bestChance 40 = oIld 5 42 := rfl
theorem e_S_bestChance_40 (a0 a1 a2 a3 a4 : Option MV) (x : Int32) : (WP Gm j_S_bestChance 40 (a0 :: a1 :: a2 :: a3 :: a4 :: some (.inl x) :: ls) (st) h Q) = (WP Gm j_S_bestChance 42 (a0 :: a1 :: a2 :: a3 :: a4 :: some (.inl x) :: ls) (.inl x :: st) (h) Q) := (WP_at c_S_bestChance_40 _ _ _ _)
theorem c_S_bestChance_42 : mCode j_S_bestChance 42 = oCallS j_S_chanceOfOne 2 (mL j_S_chanceOfOne) 45 := rfl
theorem e_S_bestChance_42 (x0 : Int32) (x1 : Int32) (hc : c8 st = true) : (WP Gm j_S_bestChance 42 (ls) (.inl x1 :: .inl x0 :: st) h Q) = (WP Gm j_S_chanceOfOne 0 [some (.inl x0), some (.inl x1), none, none, none, none, none] [] h (kC (fun v h2 => WP Gm j_S_bestChance 45 ls (v.toList ++ st) h2 Q) (fun E h2 => Q (.inr E) h2))) := (WP_at c_S_bestChance_42 _ _ _ _).trans (congrArg (fun o => ndX Gm (WP Gm) j_S_bestChance 42 o Q) (if_pos (by rw [show decide (catS st ≤ 8) = true from hc]; rfl)))
theorem c_S_bestChance_45 : mCode j_S_bestChance 45 = oDst 6 47 := rfl
theorem e_S_bestChance_45 (x : UInt64) : (WP Gm j_S_bestChance 45 (ls) (.inr (.inr (.inr x)) :: st) h Q) = (WP Gm j_S_bestChance 47 (lSet2 ls 6 (.inr (.inr (.inr x)))) (st) (h) Q) := (WP_at c_S_bestChance_45 _ _ _ _)
theorem c_S_bestChance_47 : mCode j_S_bestChance 47 = oDld 6 49 := rfl
theorem e_S_bestChance_47 (a0 a1 a2 a3 a4 a5 : Option MV) (x : UInt64) : (WP Gm j_S_bestChance 47 (a0 :: a1 :: a2 :: a3 :: a4 :: a5 :: some (.inr (.inr (.inr x))) :: ls) (st) h Q) = (WP Gm j_S_bestChance 49 (a0 :: a1 :: a2 :: a3 :: a4 :: a5 :: some (.inr (.inr (.inr x))) :: ls) (.inr (.inr (.inr x)) :: st) (h) Q) := (WP_at c_S_bestChance_47 _ _ _ _)
theorem c_S_bestChance_49 : mCode j_S_bestChance 49 = oDld 3 50 := rfl
theorem e_S_bestChance_49 (a0 a1 a2 : Option MV) (x : UInt64) : (WP Gm j_S_bestChance 49 (a0 :: a1 :: a2 :: some (.inr (.inr (.inr x))) :: ls) (st) h Q) = (WP Gm j_S_bestChance 50 (a0 :: a1 :: a2 :: some (.inr (.inr (.inr x))) :: ls) (.inr (.inr (.inr x)) :: st) (h) Q) := (WP_at c_S_bestChance_49 _ _ _ _)
theorem c_S_bestChance_50 : mCode j_S_bestChance 50 = oDcmp .l 51 := rfl
theorem e_S_bestChance_50 (x y : UInt64) : (WP Gm j_S_bestChance 50 (ls) (.inr (.inr (.inr y)) :: .inr (.inr (.inr x)) :: st) h Q) = (WP Gm j_S_bestChance 51 (ls) (.inl (Op.cmpValue (FP.dcmp x y) .l) :: st) (h) Q) := (WP_at c_S_bestChance_50 _ _ _ _)
theorem c_S_bestChance_51 : mCode j_S_bestChance 51 = oIf (fun x => decide (x ≤ 0)) 60 54 := rfl
theorem e_S_bestChance_51 (x : Int32) : (WP Gm j_S_bestChance 51 (ls) (.inl x :: st) h Q) = (if x ≤ 0 then WP Gm j_S_bestChance 60 (ls) (st) (h) Q else WP Gm j_S_bestChance 54 (ls) (st) (h) Q) := (WP_at c_S_bestChance_51 _ _ _ _).trans (nd_if rfl _ _ _ _)
theorem c_S_bestChance_54 : mCode j_S_bestChance 54 = oIld 5 56 := rfl
theorem e_S_bestChance_54 (a0 a1 a2 a3 a4 : Option MV) (x : Int32) : (WP Gm j_S_bestChance 54 (a0 :: a1 :: a2 :: a3 :: a4 :: some (.inl x) :: ls) (st) h Q) = (WP Gm j_S_bestChance 56 (a0 :: a1 :: a2 :: a3 :: a4 :: some (.inl x) :: ls) (.inl x :: st) (h) Q) := (WP_at c_S_bestChance_54 _ _ _ _)
theorem c_S_bestChance_56 : mCode j_S_bestChance 56 = oIst 2 57 := rfl
theorem e_S_bestChance_56 (x : Int32) : (WP Gm j_S_bestChance 56 (ls) (.inl x :: st) h Q) = (WP Gm j_S_bestChance 57 (lSet1 ls 2 (some (.inl x))) (st) (h) Q) := (WP_at c_S_bestChance_56 _ _ _ _)
theorem c_S_bestChance_57 : mCode j_S_bestChance 57 = oDld 6 59 := rfl
theorem e_S_bestChance_57 (a0 a1 a2 a3 a4 a5 : Option MV) (x : UInt64) : (WP Gm j_S_bestChance 57 (a0 :: a1 :: a2 :: a3 :: a4 :: a5 :: some (.inr (.inr (.inr x))) :: ls) (st) h Q) = (WP Gm j_S_bestChance 59 (a0 :: a1 :: a2 :: a3 :: a4 :: a5 :: some (.inr (.inr (.inr x))) :: ls) (.inr (.inr (.inr x)) :: st) (h) Q) := (WP_at c_S_bestChance_57 _ _ _ _)
theorem c_S_bestChance_59 : mCode j_S_bestChance 59 = oDst 3 60 := rfl
theorem e_S_bestChance_59 (x : UInt64) : (WP Gm j_S_bestChance 59 (ls) (.inr (.inr (.inr x)) :: st) h Q) = (WP Gm j_S_bestChance 60 (lSet2 ls 3 (.inr (.inr (.inr x)))) (st) (h) Q) := (WP_at c_S_bestChance_59 _ _ _ _)
theorem c_S_bestChance_60 : mCode j_S_bestChance 60 = oInc 5 1 63 := rfl
theorem e_S_bestChance_60 (a0 a1 a2 a3 a4 : Option MV) (x : Int32) : (WP Gm j_S_bestChance 60 (a0 :: a1 :: a2 :: a3 :: a4 :: some (.inl x) :: ls) (st) h Q) = (WP Gm j_S_bestChance 63 (lSet1 (a0 :: a1 :: a2 :: a3 :: a4 :: some (.inl x) :: ls) 5 (some (.inl (x + 1)))) (st) (h) Q) := (WP_at c_S_bestChance_60 _ _ _ _)
theorem c_S_bestChance_63 : mCode j_S_bestChance 63 = oGo 32 := rfl
theorem e_S_bestChance_63  : (WP Gm j_S_bestChance 63 (ls) (st) h Q) = (WP Gm j_S_bestChance 32 (ls) (st) (h) Q) := (WP_at c_S_bestChance_63 _ _ _ _)
theorem c_S_bestChance_66 : mCode j_S_bestChance 66 = oIld 2 67 := rfl
theorem e_S_bestChance_66 (a0 a1 : Option MV) (x : Int32) : (WP Gm j_S_bestChance 66 (a0 :: a1 :: some (.inl x) :: ls) (st) h Q) = (WP Gm j_S_bestChance 67 (a0 :: a1 :: some (.inl x) :: ls) (.inl x :: st) (h) Q) := (WP_at c_S_bestChance_66 _ _ _ _)
theorem c_S_bestChance_67 : mCode j_S_bestChance 67 = oRetI := rfl
theorem e_S_bestChance_67 (x : Int32) : (WP Gm j_S_bestChance 67 (ls) ([.inl x]) h Q) = (Q (.inl (some (.inl x))) h) := (WP_at c_S_bestChance_67 _ _ _ _)
theorem c_S_auction_0 : mCode j_S_auction 0 = oIld 1 1 := rfl
theorem e_S_auction_0 (a0 : Option MV) (x : Int32) : (WP Gm j_S_auction 0 (a0 :: some (.inl x) :: ls) (st) h Q) = (WP Gm j_S_auction 1 (a0 :: some (.inl x) :: ls) (.inl x :: st) (h) Q) := (WP_at c_S_auction_0 _ _ _ _)
theorem c_S_auction_1 : mCode j_S_auction 1 = oI 0 2 := rfl
theorem e_S_auction_1  : (WP Gm j_S_auction 1 (ls) (st) h Q) = (WP Gm j_S_auction 2 (ls) (.inl 0 :: st) (h) Q) := (WP_at c_S_auction_1 _ _ _ _)
theorem c_S_auction_2 : mCode j_S_auction 2 = oI 6 4 := rfl
theorem e_S_auction_2  : (WP Gm j_S_auction 2 (ls) (st) h Q) = (WP Gm j_S_auction 4 (ls) (.inl 6 :: st) (h) Q) := (WP_at c_S_auction_2 _ _ _ _)
theorem c_S_auction_4 : mCode j_S_auction 4 = oCallS j_S_isWithin 3 (mL j_S_isWithin) 7 := rfl
theorem e_S_auction_4 (x0 : Int32) (x1 : Int32) (x2 : Int32) (hc : c8 st = true) : (WP Gm j_S_auction 4 (ls) (.inl x2 :: .inl x1 :: .inl x0 :: st) h Q) = (WP Gm j_S_isWithin 0 [some (.inl x0), some (.inl x1), some (.inl x2)] [] h (kC (fun v h2 => WP Gm j_S_auction 7 ls (v.toList ++ st) h2 Q) (fun E h2 => Q (.inr E) h2))) := (WP_at c_S_auction_4 _ _ _ _).trans (congrArg (fun o => ndX Gm (WP Gm) j_S_auction 4 o Q) (if_pos (by rw [show decide (catS st ≤ 8) = true from hc]; rfl)))
theorem c_S_auction_7 : mCode j_S_auction 7 = oIf (fun x => decide (¬ x = 0)) 21 10 := rfl
theorem e_S_auction_7 (x : Int32) : (WP Gm j_S_auction 7 (ls) (.inl x :: st) h Q) = (if ¬ x = 0 then WP Gm j_S_auction 21 (ls) (st) (h) Q else WP Gm j_S_auction 10 (ls) (st) (h) Q) := (WP_at c_S_auction_7 _ _ _ _).trans (nd_if rfl _ _ _ _)
theorem c_S_auction_10 : mCode j_S_auction 10 = oThr cM sM 0 kc_IllegalArgumentException := rfl
theorem e_S_auction_10 (hr : okR cM sM h 1 6 = true) : (WP Gm j_S_auction 10 (ls) ([]) h Q) = (Q (.inr 0) (hN h kc_IllegalArgumentException 0 6)) := (WP_at c_S_auction_10 _ _ _ _).trans (congrArg (fun o => ndX Gm (WP Gm) j_S_auction 10 o Q) (if_pos hr))
theorem c_S_auction_21 : mCode j_S_auction 21 = oIld 1 22 := rfl
theorem e_S_auction_21 (a0 : Option MV) (x : Int32) : (WP Gm j_S_auction 21 (a0 :: some (.inl x) :: ls) (st) h Q) = (WP Gm j_S_auction 22 (a0 :: some (.inl x) :: ls) (.inl x :: st) (h) Q) := (WP_at c_S_auction_21 _ _ _ _)
theorem c_S_auction_22 : mCode j_S_auction 22 = oLsw [(0, 48), (1, 56)] 64 := rfl
theorem e_S_auction_22 (x : Int32) : (WP Gm j_S_auction 22 (ls) (.inl x :: st) h Q) = (WP Gm j_S_auction (lsw [(0, 48), (1, 56)] 64 x) (ls) (st) (h) Q) := (WP_at c_S_auction_22 _ _ _ _)
theorem e_S_auction_22c0 : (WP Gm j_S_auction 22 ls (.inl 0 :: st) h Q) = (WP Gm j_S_auction 48 ls st h Q) := by
  rw [e_S_auction_22]
  exact congrArg (fun k => WP Gm j_S_auction k ls st h Q) (by decide)
theorem e_S_auction_22c1 : (WP Gm j_S_auction 22 ls (.inl 1 :: st) h Q) = (WP Gm j_S_auction 56 ls st h Q) := by
  rw [e_S_auction_22]
  exact congrArg (fun k => WP Gm j_S_auction k ls st h Q) (by decide)
theorem c_S_auction_48 : mCode j_S_auction 48 = oAld 0 49 := rfl
theorem e_S_auction_48 (x : Option Nat) : (WP Gm j_S_auction 48 (some (.inr (.inl x)) :: ls) (st) h Q) = (WP Gm j_S_auction 49 (some (.inr (.inl x)) :: ls) (.inr (.inl x) :: st) (h) Q) := (WP_at c_S_auction_48 _ _ _ _)
theorem c_S_auction_49 : mCode j_S_auction 49 = oGetR kc_S 3 52 := rfl
theorem e_S_auction_49 (a : Nat) (hk : isK h a kc_S = true) : (WP Gm j_S_auction 49 (ls) (.inr (.inl (some a)) :: st) h Q) = (WP Gm j_S_auction 52 (ls) (.inr (.inl (gR h a 3)) :: st) (h) Q) := (WP_at c_S_auction_49 _ _ _ _).trans (congrArg (fun o => ndX Gm (WP Gm) j_S_auction 49 o Q) (if_pos hk))
theorem c_S_auction_52 : mCode j_S_auction 52 = oGetI kc_Market 6 55 := rfl
theorem e_S_auction_52 (a : Nat) (hk : isK h a kc_Market = true) : (WP Gm j_S_auction 52 (ls) (.inr (.inl (some a)) :: st) h Q) = (WP Gm j_S_auction 55 (ls) (.inl (gI h a 6) :: st) (h) Q) := (WP_at c_S_auction_52 _ _ _ _).trans (congrArg (fun o => ndX Gm (WP Gm) j_S_auction 52 o Q) (if_pos hk))
theorem c_S_auction_55 : mCode j_S_auction 55 = oRetI := rfl
theorem e_S_auction_55 (x : Int32) : (WP Gm j_S_auction 55 (ls) ([.inl x]) h Q) = (Q (.inl (some (.inl x))) h) := (WP_at c_S_auction_55 _ _ _ _)
theorem c_S_auction_56 : mCode j_S_auction 56 = oAld 0 57 := rfl
theorem e_S_auction_56 (x : Option Nat) : (WP Gm j_S_auction 56 (some (.inr (.inl x)) :: ls) (st) h Q) = (WP Gm j_S_auction 57 (some (.inr (.inl x)) :: ls) (.inr (.inl x) :: st) (h) Q) := (WP_at c_S_auction_56 _ _ _ _)
theorem c_S_auction_57 : mCode j_S_auction 57 = oGetR kc_S 3 60 := rfl
theorem e_S_auction_57 (a : Nat) (hk : isK h a kc_S = true) : (WP Gm j_S_auction 57 (ls) (.inr (.inl (some a)) :: st) h Q) = (WP Gm j_S_auction 60 (ls) (.inr (.inl (gR h a 3)) :: st) (h) Q) := (WP_at c_S_auction_57 _ _ _ _).trans (congrArg (fun o => ndX Gm (WP Gm) j_S_auction 57 o Q) (if_pos hk))
theorem c_S_auction_60 : mCode j_S_auction 60 = oGetI kc_Market 7 63 := rfl
theorem e_S_auction_60 (a : Nat) (hk : isK h a kc_Market = true) : (WP Gm j_S_auction 60 (ls) (.inr (.inl (some a)) :: st) h Q) = (WP Gm j_S_auction 63 (ls) (.inl (gI h a 7) :: st) (h) Q) := (WP_at c_S_auction_60 _ _ _ _).trans (congrArg (fun o => ndX Gm (WP Gm) j_S_auction 60 o Q) (if_pos hk))
theorem c_S_auction_63 : mCode j_S_auction 63 = oRetI := rfl
theorem e_S_auction_63 (x : Int32) : (WP Gm j_S_auction 63 (ls) ([.inl x]) h Q) = (Q (.inl (some (.inl x))) h) := (WP_at c_S_auction_63 _ _ _ _)
theorem c_S_auction_64 : mCode j_S_auction 64 = oAld 0 65 := rfl
theorem e_S_auction_64 (x : Option Nat) : (WP Gm j_S_auction 64 (some (.inr (.inl x)) :: ls) (st) h Q) = (WP Gm j_S_auction 65 (some (.inr (.inl x)) :: ls) (.inr (.inl x) :: st) (h) Q) := (WP_at c_S_auction_64 _ _ _ _)
theorem c_S_auction_65 : mCode j_S_auction 65 = oGetR kc_S 3 68 := rfl
theorem e_S_auction_65 (a : Nat) (hk : isK h a kc_S = true) : (WP Gm j_S_auction 65 (ls) (.inr (.inl (some a)) :: st) h Q) = (WP Gm j_S_auction 68 (ls) (.inr (.inl (gR h a 3)) :: st) (h) Q) := (WP_at c_S_auction_65 _ _ _ _).trans (congrArg (fun o => ndX Gm (WP Gm) j_S_auction 65 o Q) (if_pos hk))
theorem c_S_auction_68 : mCode j_S_auction 68 = oIld 1 69 := rfl
theorem e_S_auction_68 (a0 : Option MV) (x : Int32) : (WP Gm j_S_auction 68 (a0 :: some (.inl x) :: ls) (st) h Q) = (WP Gm j_S_auction 69 (a0 :: some (.inl x) :: ls) (.inl x :: st) (h) Q) := (WP_at c_S_auction_68 _ _ _ _)
theorem c_S_auction_69 : mCode j_S_auction 69 = oI 2 70 := rfl
theorem e_S_auction_69  : (WP Gm j_S_auction 69 (ls) (st) h Q) = (WP Gm j_S_auction 70 (ls) (.inl 2 :: st) (h) Q) := (WP_at c_S_auction_69 _ _ _ _)
theorem c_S_auction_70 : mCode j_S_auction 70 = oII (fun x y => x - y) 71 := rfl
theorem e_S_auction_70 (x : Int32) (y : Int32) : (WP Gm j_S_auction 70 (ls) (.inl y :: .inl x :: st) h Q) = (WP Gm j_S_auction 71 (ls) (.inl (x - y) :: st) (h) Q) := (WP_at c_S_auction_70 _ _ _ _)
theorem c_S_auction_71 : mCode j_S_auction 71 = oCallV kc_Market j_Market_paidBy 1 (mL j_Market_paidBy) 74 := rfl
theorem e_S_auction_71 (a : Nat) (x0 : Int32) (hk : isK h a kc_Market = true) (hc : c8 st = true) : (WP Gm j_S_auction 71 (ls) (.inl x0 :: .inr (.inl (some a)) :: st) h Q) = (WP Gm j_Market_paidBy 0 [some (.inr (.inl (some a))), some (.inl x0), none] [] h (kC (fun v h2 => WP Gm j_S_auction 74 ls (v.toList ++ st) h2 Q) (fun E h2 => Q (.inr E) h2))) := (WP_at c_S_auction_71 _ _ _ _).trans (congrArg (fun o => ndX Gm (WP Gm) j_S_auction 71 o Q) (if_pos (by rw [hk, show decide (catS st ≤ 8) = true from hc]; rfl)))
theorem c_S_auction_74 : mCode j_S_auction 74 = oRetI := rfl
theorem e_S_auction_74 (x : Int32) : (WP Gm j_S_auction 74 (ls) ([.inl x]) h Q) = (Q (.inl (some (.inl x))) h) := (WP_at c_S_auction_74 _ _ _ _)
theorem c_S_cover_0 : mCode j_S_cover 0 = oAld 0 1 := rfl
theorem e_S_cover_0 (x : Option Nat) : (WP Gm j_S_cover 0 (some (.inr (.inl x)) :: ls) (st) h Q) = (WP Gm j_S_cover 1 (some (.inr (.inl x)) :: ls) (.inr (.inl x) :: st) (h) Q) := (WP_at c_S_cover_0 _ _ _ _)
theorem c_S_cover_1 : mCode j_S_cover 1 = oGetR kc_S 0 4 := rfl
theorem e_S_cover_1 (a : Nat) (hk : isK h a kc_S = true) : (WP Gm j_S_cover 1 (ls) (.inr (.inl (some a)) :: st) h Q) = (WP Gm j_S_cover 4 (ls) (.inr (.inl (gR h a 0)) :: st) (h) Q) := (WP_at c_S_cover_1 _ _ _ _).trans (congrArg (fun o => ndX Gm (WP Gm) j_S_cover 1 o Q) (if_pos hk))
theorem c_S_cover_4 : mCode j_S_cover 4 = oCallV kc_Land j_Land_fewestCovering 0 (mL j_Land_fewestCovering) 7 := rfl
theorem e_S_cover_4 (a : Nat) (hk : isK h a kc_Land = true) (hc : c8 st = true) : (WP Gm j_S_cover 4 (ls) (.inr (.inl (some a)) :: st) h Q) = (WP Gm j_Land_fewestCovering 0 [some (.inr (.inl (some a))), none, none] [] h (kC (fun v h2 => WP Gm j_S_cover 7 ls (v.toList ++ st) h2 Q) (fun E h2 => Q (.inr E) h2))) := (WP_at c_S_cover_4 _ _ _ _).trans (congrArg (fun o => ndX Gm (WP Gm) j_S_cover 4 o Q) (if_pos (by rw [hk, show decide (catS st ≤ 8) = true from hc]; rfl)))
theorem c_S_cover_7 : mCode j_S_cover 7 = oRetI := rfl
theorem e_S_cover_7 (x : Int32) : (WP Gm j_S_cover 7 (ls) ([.inl x]) h Q) = (Q (.inl (some (.inl x))) h) := (WP_at c_S_cover_7 _ _ _ _)
theorem c_S_isSound_0 : mCode j_S_isSound 0 = oI 0 1 := rfl
theorem e_S_isSound_0  : (WP Gm j_S_isSound 0 (ls) (st) h Q) = (WP Gm j_S_isSound 1 (ls) (.inl 0 :: st) (h) Q) := (WP_at c_S_isSound_0 _ _ _ _)
theorem c_S_isSound_1 : mCode j_S_isSound 1 = oIst 1 2 := rfl
theorem e_S_isSound_1 (x : Int32) : (WP Gm j_S_isSound 1 (ls) (.inl x :: st) h Q) = (WP Gm j_S_isSound 2 (lSet1 ls 1 (some (.inl x))) (st) (h) Q) := (WP_at c_S_isSound_1 _ _ _ _)
theorem c_S_isSound_2 : mCode j_S_isSound 2 = oI 0 3 := rfl
theorem e_S_isSound_2  : (WP Gm j_S_isSound 2 (ls) (st) h Q) = (WP Gm j_S_isSound 3 (ls) (.inl 0 :: st) (h) Q) := (WP_at c_S_isSound_2 _ _ _ _)
theorem c_S_isSound_3 : mCode j_S_isSound 3 = oIst 2 4 := rfl
theorem e_S_isSound_3 (x : Int32) : (WP Gm j_S_isSound 3 (ls) (.inl x :: st) h Q) = (WP Gm j_S_isSound 4 (lSet1 ls 2 (some (.inl x))) (st) (h) Q) := (WP_at c_S_isSound_3 _ _ _ _)
theorem c_S_isSound_4 : mCode j_S_isSound 4 = oIld 2 5 := rfl
theorem e_S_isSound_4 (a0 a1 : Option MV) (x : Int32) : (WP Gm j_S_isSound 4 (a0 :: a1 :: some (.inl x) :: ls) (st) h Q) = (WP Gm j_S_isSound 5 (a0 :: a1 :: some (.inl x) :: ls) (.inl x :: st) (h) Q) := (WP_at c_S_isSound_4 _ _ _ _)
theorem c_S_isSound_5 : mCode j_S_isSound 5 = oAld 0 6 := rfl
theorem e_S_isSound_5 (x : Option Nat) : (WP Gm j_S_isSound 5 (some (.inr (.inl x)) :: ls) (st) h Q) = (WP Gm j_S_isSound 6 (some (.inr (.inl x)) :: ls) (.inr (.inl x) :: st) (h) Q) := (WP_at c_S_isSound_5 _ _ _ _)
theorem c_S_isSound_6 : mCode j_S_isSound 6 = oGetR kc_S 0 9 := rfl
theorem e_S_isSound_6 (a : Nat) (hk : isK h a kc_S = true) : (WP Gm j_S_isSound 6 (ls) (.inr (.inl (some a)) :: st) h Q) = (WP Gm j_S_isSound 9 (ls) (.inr (.inl (gR h a 0)) :: st) (h) Q) := (WP_at c_S_isSound_6 _ _ _ _).trans (congrArg (fun o => ndX Gm (WP Gm) j_S_isSound 6 o Q) (if_pos hk))
theorem c_S_isSound_9 : mCode j_S_isSound 9 = oGetI kc_Land 2 12 := rfl
theorem e_S_isSound_9 (a : Nat) (hk : isK h a kc_Land = true) : (WP Gm j_S_isSound 9 (ls) (.inr (.inl (some a)) :: st) h Q) = (WP Gm j_S_isSound 12 (ls) (.inl (gI h a 2) :: st) (h) Q) := (WP_at c_S_isSound_9 _ _ _ _).trans (congrArg (fun o => ndX Gm (WP Gm) j_S_isSound 9 o Q) (if_pos hk))
theorem c_S_isSound_12 : mCode j_S_isSound 12 = oIC (fun x y => decide (y ≤ x)) 67 15 := rfl
theorem e_S_isSound_12 (x y : Int32) : (WP Gm j_S_isSound 12 (ls) (.inl y :: .inl x :: st) h Q) = (if y ≤ x then WP Gm j_S_isSound 67 (ls) (st) (h) Q else WP Gm j_S_isSound 15 (ls) (st) (h) Q) := (WP_at c_S_isSound_12 _ _ _ _).trans (nd_ic rfl _ _ _ _)
theorem c_S_isSound_15 : mCode j_S_isSound 15 = oAld 0 16 := rfl
theorem e_S_isSound_15 (x : Option Nat) : (WP Gm j_S_isSound 15 (some (.inr (.inl x)) :: ls) (st) h Q) = (WP Gm j_S_isSound 16 (some (.inr (.inl x)) :: ls) (.inr (.inl x) :: st) (h) Q) := (WP_at c_S_isSound_15 _ _ _ _)
theorem c_S_isSound_16 : mCode j_S_isSound 16 = oGetR kc_S 0 19 := rfl
theorem e_S_isSound_16 (a : Nat) (hk : isK h a kc_S = true) : (WP Gm j_S_isSound 16 (ls) (.inr (.inl (some a)) :: st) h Q) = (WP Gm j_S_isSound 19 (ls) (.inr (.inl (gR h a 0)) :: st) (h) Q) := (WP_at c_S_isSound_16 _ _ _ _).trans (congrArg (fun o => ndX Gm (WP Gm) j_S_isSound 16 o Q) (if_pos hk))
theorem c_S_isSound_19 : mCode j_S_isSound 19 = oGetR kc_Land 0 22 := rfl
theorem e_S_isSound_19 (a : Nat) (hk : isK h a kc_Land = true) : (WP Gm j_S_isSound 19 (ls) (.inr (.inl (some a)) :: st) h Q) = (WP Gm j_S_isSound 22 (ls) (.inr (.inl (gR h a 0)) :: st) (h) Q) := (WP_at c_S_isSound_19 _ _ _ _).trans (congrArg (fun o => ndX Gm (WP Gm) j_S_isSound 19 o Q) (if_pos hk))
theorem c_S_isSound_22 : mCode j_S_isSound 22 = oIld 2 23 := rfl
theorem e_S_isSound_22 (a0 a1 : Option MV) (x : Int32) : (WP Gm j_S_isSound 22 (a0 :: a1 :: some (.inl x) :: ls) (st) h Q) = (WP Gm j_S_isSound 23 (a0 :: a1 :: some (.inl x) :: ls) (.inl x :: st) (h) Q) := (WP_at c_S_isSound_22 _ _ _ _)
theorem c_S_isSound_23 : mCode j_S_isSound 23 = oAal 2 24 := rfl
theorem e_S_isSound_23 (a : Nat) (i : Int32) (hk : isK h a 102 = true) (hi : inL h a i = true) : (WP Gm j_S_isSound 23 (ls) (.inl i :: .inr (.inl (some a)) :: st) h Q) = (WP Gm j_S_isSound 24 (ls) (.inr (.inl (gR h a i.toNatClampNeg)) :: st) (h) Q) := (WP_at c_S_isSound_23 _ _ _ _).trans (congrArg (fun o => ndX Gm (WP Gm) j_S_isSound 23 o Q) (if_pos (by rw [hk, hi]; rfl)))
theorem c_S_isSound_24 : mCode j_S_isSound 24 = oCallV kc_Node j_Node_isInOrder 0 (mL j_Node_isInOrder) 27 := rfl
theorem e_S_isSound_24 (a : Nat) (hk : isK h a kc_Node = true) (hc : c8 st = true) : (WP Gm j_S_isSound 24 (ls) (.inr (.inl (some a)) :: st) h Q) = (WP Gm j_Node_isInOrder 0 [some (.inr (.inl (some a))), none] [] h (kC (fun v h2 => WP Gm j_S_isSound 27 ls (v.toList ++ st) h2 Q) (fun E h2 => Q (.inr E) h2))) := (WP_at c_S_isSound_24 _ _ _ _).trans (congrArg (fun o => ndX Gm (WP Gm) j_S_isSound 24 o Q) (if_pos (by rw [hk, show decide (catS st ≤ 8) = true from hc]; rfl)))
theorem c_S_isSound_27 : mCode j_S_isSound 27 = oIf (fun x => decide (x = 0)) 41 30 := rfl
theorem e_S_isSound_27 (x : Int32) : (WP Gm j_S_isSound 27 (ls) (.inl x :: st) h Q) = (if x = 0 then WP Gm j_S_isSound 41 (ls) (st) (h) Q else WP Gm j_S_isSound 30 (ls) (st) (h) Q) := (WP_at c_S_isSound_27 _ _ _ _).trans (nd_if rfl _ _ _ _)
theorem c_S_isSound_30 : mCode j_S_isSound 30 = oAld 0 31 := rfl
theorem e_S_isSound_30 (x : Option Nat) : (WP Gm j_S_isSound 30 (some (.inr (.inl x)) :: ls) (st) h Q) = (WP Gm j_S_isSound 31 (some (.inr (.inl x)) :: ls) (.inr (.inl x) :: st) (h) Q) := (WP_at c_S_isSound_30 _ _ _ _)
theorem c_S_isSound_31 : mCode j_S_isSound 31 = oGetR kc_S 1 34 := rfl
theorem e_S_isSound_31 (a : Nat) (hk : isK h a kc_S = true) : (WP Gm j_S_isSound 31 (ls) (.inr (.inl (some a)) :: st) h Q) = (WP Gm j_S_isSound 34 (ls) (.inr (.inl (gR h a 1)) :: st) (h) Q) := (WP_at c_S_isSound_31 _ _ _ _).trans (congrArg (fun o => ndX Gm (WP Gm) j_S_isSound 31 o Q) (if_pos hk))
theorem c_S_isSound_34 : mCode j_S_isSound 34 = oIld 2 35 := rfl
theorem e_S_isSound_34 (a0 a1 : Option MV) (x : Int32) : (WP Gm j_S_isSound 34 (a0 :: a1 :: some (.inl x) :: ls) (st) h Q) = (WP Gm j_S_isSound 35 (a0 :: a1 :: some (.inl x) :: ls) (.inl x :: st) (h) Q) := (WP_at c_S_isSound_34 _ _ _ _)
theorem c_S_isSound_35 : mCode j_S_isSound 35 = oCallV kc_Routes j_Routes_areInOrder 1 (mL j_Routes_areInOrder) 38 := rfl
theorem e_S_isSound_35 (a : Nat) (x0 : Int32) (hk : isK h a kc_Routes = true) (hc : c8 st = true) : (WP Gm j_S_isSound 35 (ls) (.inl x0 :: .inr (.inl (some a)) :: st) h Q) = (WP Gm j_Routes_areInOrder 0 [some (.inr (.inl (some a))), some (.inl x0), none, none] [] h (kC (fun v h2 => WP Gm j_S_isSound 38 ls (v.toList ++ st) h2 Q) (fun E h2 => Q (.inr E) h2))) := (WP_at c_S_isSound_35 _ _ _ _).trans (congrArg (fun o => ndX Gm (WP Gm) j_S_isSound 35 o Q) (if_pos (by rw [hk, show decide (catS st ≤ 8) = true from hc]; rfl)))
theorem c_S_isSound_38 : mCode j_S_isSound 38 = oIf (fun x => decide (¬ x = 0)) 43 41 := rfl
theorem e_S_isSound_38 (x : Int32) : (WP Gm j_S_isSound 38 (ls) (.inl x :: st) h Q) = (if ¬ x = 0 then WP Gm j_S_isSound 43 (ls) (st) (h) Q else WP Gm j_S_isSound 41 (ls) (st) (h) Q) := (WP_at c_S_isSound_38 _ _ _ _).trans (nd_if rfl _ _ _ _)
theorem c_S_isSound_41 : mCode j_S_isSound 41 = oI 0 42 := rfl
theorem e_S_isSound_41  : (WP Gm j_S_isSound 41 (ls) (st) h Q) = (WP Gm j_S_isSound 42 (ls) (.inl 0 :: st) (h) Q) := (WP_at c_S_isSound_41 _ _ _ _)
theorem c_S_isSound_42 : mCode j_S_isSound 42 = oRetZ := rfl
theorem e_S_isSound_42 (x : Int32) (hx : x = 0 ∨ x = 1) : (WP Gm j_S_isSound 42 (ls) ([.inl x]) h Q) = (Q (.inl (some (.inl x))) h) := (WP_at c_S_isSound_42 _ _ _ _).trans (congrArg (fun o => ndX Gm (WP Gm) j_S_isSound 42 o Q) (if_pos (by rcases hx with rfl | rfl <;> rfl)))
theorem c_S_isSound_43 : mCode j_S_isSound 43 = oIld 1 44 := rfl
theorem e_S_isSound_43 (a0 : Option MV) (x : Int32) : (WP Gm j_S_isSound 43 (a0 :: some (.inl x) :: ls) (st) h Q) = (WP Gm j_S_isSound 44 (a0 :: some (.inl x) :: ls) (.inl x :: st) (h) Q) := (WP_at c_S_isSound_43 _ _ _ _)
theorem c_S_isSound_44 : mCode j_S_isSound 44 = oAld 0 45 := rfl
theorem e_S_isSound_44 (x : Option Nat) : (WP Gm j_S_isSound 44 (some (.inr (.inl x)) :: ls) (st) h Q) = (WP Gm j_S_isSound 45 (some (.inr (.inl x)) :: ls) (.inr (.inl x) :: st) (h) Q) := (WP_at c_S_isSound_44 _ _ _ _)
theorem c_S_isSound_45 : mCode j_S_isSound 45 = oGetR kc_S 0 48 := rfl
theorem e_S_isSound_45 (a : Nat) (hk : isK h a kc_S = true) : (WP Gm j_S_isSound 45 (ls) (.inr (.inl (some a)) :: st) h Q) = (WP Gm j_S_isSound 48 (ls) (.inr (.inl (gR h a 0)) :: st) (h) Q) := (WP_at c_S_isSound_45 _ _ _ _).trans (congrArg (fun o => ndX Gm (WP Gm) j_S_isSound 45 o Q) (if_pos hk))
theorem c_S_isSound_48 : mCode j_S_isSound 48 = oGetR kc_Land 0 51 := rfl
theorem e_S_isSound_48 (a : Nat) (hk : isK h a kc_Land = true) : (WP Gm j_S_isSound 48 (ls) (.inr (.inl (some a)) :: st) h Q) = (WP Gm j_S_isSound 51 (ls) (.inr (.inl (gR h a 0)) :: st) (h) Q) := (WP_at c_S_isSound_48 _ _ _ _).trans (congrArg (fun o => ndX Gm (WP Gm) j_S_isSound 48 o Q) (if_pos hk))
theorem c_S_isSound_51 : mCode j_S_isSound 51 = oIld 2 52 := rfl
theorem e_S_isSound_51 (a0 a1 : Option MV) (x : Int32) : (WP Gm j_S_isSound 51 (a0 :: a1 :: some (.inl x) :: ls) (st) h Q) = (WP Gm j_S_isSound 52 (a0 :: a1 :: some (.inl x) :: ls) (.inl x :: st) (h) Q) := (WP_at c_S_isSound_51 _ _ _ _)
theorem c_S_isSound_52 : mCode j_S_isSound 52 = oAal 2 53 := rfl
theorem e_S_isSound_52 (a : Nat) (i : Int32) (hk : isK h a 102 = true) (hi : inL h a i = true) : (WP Gm j_S_isSound 52 (ls) (.inl i :: .inr (.inl (some a)) :: st) h Q) = (WP Gm j_S_isSound 53 (ls) (.inr (.inl (gR h a i.toNatClampNeg)) :: st) (h) Q) := (WP_at c_S_isSound_52 _ _ _ _).trans (congrArg (fun o => ndX Gm (WP Gm) j_S_isSound 52 o Q) (if_pos (by rw [hk, hi]; rfl)))
theorem c_S_isSound_53 : mCode j_S_isSound 53 = oGetR kc_Node 15 56 := rfl
theorem e_S_isSound_53 (a : Nat) (hk : isK h a kc_Node = true) : (WP Gm j_S_isSound 53 (ls) (.inr (.inl (some a)) :: st) h Q) = (WP Gm j_S_isSound 56 (ls) (.inr (.inl (gR h a 15)) :: st) (h) Q) := (WP_at c_S_isSound_53 _ _ _ _).trans (congrArg (fun o => ndX Gm (WP Gm) j_S_isSound 53 o Q) (if_pos hk))
theorem c_S_isSound_56 : mCode j_S_isSound 56 = oCallV kc_NumberSet j_NumberSet_size 0 (mL j_NumberSet_size) 59 := rfl
theorem e_S_isSound_56 (a : Nat) (hk : isK h a kc_NumberSet = true) (hc : c8 st = true) : (WP Gm j_S_isSound 56 (ls) (.inr (.inl (some a)) :: st) h Q) = (WP Gm j_NumberSet_size 0 [some (.inr (.inl (some a))), none, none] [] h (kC (fun v h2 => WP Gm j_S_isSound 59 ls (v.toList ++ st) h2 Q) (fun E h2 => Q (.inr E) h2))) := (WP_at c_S_isSound_56 _ _ _ _).trans (congrArg (fun o => ndX Gm (WP Gm) j_S_isSound 56 o Q) (if_pos (by rw [hk, show decide (catS st ≤ 8) = true from hc]; rfl)))
theorem c_S_isSound_59 : mCode j_S_isSound 59 = oII (fun x y => x + y) 60 := rfl
theorem e_S_isSound_59 (x : Int32) (y : Int32) : (WP Gm j_S_isSound 59 (ls) (.inl y :: .inl x :: st) h Q) = (WP Gm j_S_isSound 60 (ls) (.inl (x + y) :: st) (h) Q) := (WP_at c_S_isSound_59 _ _ _ _)
theorem c_S_isSound_60 : mCode j_S_isSound 60 = oIst 1 61 := rfl
theorem e_S_isSound_60 (x : Int32) : (WP Gm j_S_isSound 60 (ls) (.inl x :: st) h Q) = (WP Gm j_S_isSound 61 (lSet1 ls 1 (some (.inl x))) (st) (h) Q) := (WP_at c_S_isSound_60 _ _ _ _)
theorem c_S_isSound_61 : mCode j_S_isSound 61 = oInc 2 1 64 := rfl
theorem e_S_isSound_61 (a0 a1 : Option MV) (x : Int32) : (WP Gm j_S_isSound 61 (a0 :: a1 :: some (.inl x) :: ls) (st) h Q) = (WP Gm j_S_isSound 64 (lSet1 (a0 :: a1 :: some (.inl x) :: ls) 2 (some (.inl (x + 1)))) (st) (h) Q) := (WP_at c_S_isSound_61 _ _ _ _)
theorem c_S_isSound_64 : mCode j_S_isSound 64 = oGo 4 := rfl
theorem e_S_isSound_64  : (WP Gm j_S_isSound 64 (ls) (st) h Q) = (WP Gm j_S_isSound 4 (ls) (st) (h) Q) := (WP_at c_S_isSound_64 _ _ _ _)
theorem c_S_isSound_67 : mCode j_S_isSound 67 = oAld 0 68 := rfl
theorem e_S_isSound_67 (x : Option Nat) : (WP Gm j_S_isSound 67 (some (.inr (.inl x)) :: ls) (st) h Q) = (WP Gm j_S_isSound 68 (some (.inr (.inl x)) :: ls) (.inr (.inl x) :: st) (h) Q) := (WP_at c_S_isSound_67 _ _ _ _)
theorem c_S_isSound_68 : mCode j_S_isSound 68 = oGetR kc_S 2 71 := rfl
theorem e_S_isSound_68 (a : Nat) (hk : isK h a kc_S = true) : (WP Gm j_S_isSound 68 (ls) (.inr (.inl (some a)) :: st) h Q) = (WP Gm j_S_isSound 71 (ls) (.inr (.inl (gR h a 2)) :: st) (h) Q) := (WP_at c_S_isSound_68 _ _ _ _).trans (congrArg (fun o => ndX Gm (WP Gm) j_S_isSound 68 o Q) (if_pos hk))
theorem c_S_isSound_71 : mCode j_S_isSound 71 = oGetI kc_Traffic 4 74 := rfl
theorem e_S_isSound_71 (a : Nat) (hk : isK h a kc_Traffic = true) : (WP Gm j_S_isSound 71 (ls) (.inr (.inl (some a)) :: st) h Q) = (WP Gm j_S_isSound 74 (ls) (.inl (gI h a 4) :: st) (h) Q) := (WP_at c_S_isSound_71 _ _ _ _).trans (congrArg (fun o => ndX Gm (WP Gm) j_S_isSound 71 o Q) (if_pos hk))
theorem c_S_isSound_74 : mCode j_S_isSound 74 = oIld 1 75 := rfl
theorem e_S_isSound_74 (a0 : Option MV) (x : Int32) : (WP Gm j_S_isSound 74 (a0 :: some (.inl x) :: ls) (st) h Q) = (WP Gm j_S_isSound 75 (a0 :: some (.inl x) :: ls) (.inl x :: st) (h) Q) := (WP_at c_S_isSound_74 _ _ _ _)
theorem c_S_isSound_75 : mCode j_S_isSound 75 = oIC (fun x y => decide (¬ x = y)) 101 78 := rfl
theorem e_S_isSound_75 (x y : Int32) : (WP Gm j_S_isSound 75 (ls) (.inl y :: .inl x :: st) h Q) = (if ¬ x = y then WP Gm j_S_isSound 101 (ls) (st) (h) Q else WP Gm j_S_isSound 78 (ls) (st) (h) Q) := (WP_at c_S_isSound_75 _ _ _ _).trans (nd_ic rfl _ _ _ _)
theorem c_S_isSound_78 : mCode j_S_isSound 78 = oAld 0 79 := rfl
theorem e_S_isSound_78 (x : Option Nat) : (WP Gm j_S_isSound 78 (some (.inr (.inl x)) :: ls) (st) h Q) = (WP Gm j_S_isSound 79 (some (.inr (.inl x)) :: ls) (.inr (.inl x) :: st) (h) Q) := (WP_at c_S_isSound_78 _ _ _ _)
theorem c_S_isSound_79 : mCode j_S_isSound 79 = oCallV kc_S j_S_fairness 0 (mL j_S_fairness) 82 := rfl
theorem e_S_isSound_79 (a : Nat) (hk : isK h a kc_S = true) (hc : c8 st = true) : (WP Gm j_S_isSound 79 (ls) (.inr (.inl (some a)) :: st) h Q) = (WP Gm j_S_fairness 0 [some (.inr (.inl (some a))), none, none, none, none, none, none, none] [] h (kC (fun v h2 => WP Gm j_S_isSound 82 ls (v.toList ++ st) h2 Q) (fun E h2 => Q (.inr E) h2))) := (WP_at c_S_isSound_79 _ _ _ _).trans (congrArg (fun o => ndX Gm (WP Gm) j_S_isSound 79 o Q) (if_pos (by rw [hk, show decide (catS st ≤ 8) = true from hc]; rfl)))
theorem c_S_isSound_82 : mCode j_S_isSound 82 = oF FP.dconst1 83 := rfl
theorem e_S_isSound_82  : (WP Gm j_S_isSound 82 (ls) (st) h Q) = (WP Gm j_S_isSound 83 (ls) (.inr (.inr (.inr FP.dconst1)) :: st) (h) Q) := (WP_at c_S_isSound_82 _ _ _ _)
theorem c_S_isSound_83 : mCode j_S_isSound 83 = oDcmp .g 84 := rfl
theorem e_S_isSound_83 (x y : UInt64) : (WP Gm j_S_isSound 83 (ls) (.inr (.inr (.inr y)) :: .inr (.inr (.inr x)) :: st) h Q) = (WP Gm j_S_isSound 84 (ls) (.inl (Op.cmpValue (FP.dcmp x y) .g) :: st) (h) Q) := (WP_at c_S_isSound_83 _ _ _ _)
theorem c_S_isSound_84 : mCode j_S_isSound 84 = oIf (fun x => decide (0 < x)) 101 87 := rfl
theorem e_S_isSound_84 (x : Int32) : (WP Gm j_S_isSound 84 (ls) (.inl x :: st) h Q) = (if 0 < x then WP Gm j_S_isSound 101 (ls) (st) (h) Q else WP Gm j_S_isSound 87 (ls) (st) (h) Q) := (WP_at c_S_isSound_84 _ _ _ _).trans (nd_if rfl _ _ _ _)
theorem c_S_isSound_87 : mCode j_S_isSound 87 = oAld 0 88 := rfl
theorem e_S_isSound_87 (x : Option Nat) : (WP Gm j_S_isSound 87 (some (.inr (.inl x)) :: ls) (st) h Q) = (WP Gm j_S_isSound 88 (some (.inr (.inl x)) :: ls) (.inr (.inl x) :: st) (h) Q) := (WP_at c_S_isSound_87 _ _ _ _)
theorem c_S_isSound_88 : mCode j_S_isSound 88 = oGetR kc_S 3 91 := rfl
theorem e_S_isSound_88 (a : Nat) (hk : isK h a kc_S = true) : (WP Gm j_S_isSound 88 (ls) (.inr (.inl (some a)) :: st) h Q) = (WP Gm j_S_isSound 91 (ls) (.inr (.inl (gR h a 3)) :: st) (h) Q) := (WP_at c_S_isSound_88 _ _ _ _).trans (congrArg (fun o => ndX Gm (WP Gm) j_S_isSound 88 o Q) (if_pos hk))
theorem c_S_isSound_91 : mCode j_S_isSound 91 = oCallV kc_Market j_Market_nobodyOverpays 0 (mL j_Market_nobodyOverpays) 94 := rfl
theorem e_S_isSound_91 (a : Nat) (hk : isK h a kc_Market = true) (hc : c8 st = true) : (WP Gm j_S_isSound 91 (ls) (.inr (.inl (some a)) :: st) h Q) = (WP Gm j_Market_nobodyOverpays 0 [some (.inr (.inl (some a))), none] [] h (kC (fun v h2 => WP Gm j_S_isSound 94 ls (v.toList ++ st) h2 Q) (fun E h2 => Q (.inr E) h2))) := (WP_at c_S_isSound_91 _ _ _ _).trans (congrArg (fun o => ndX Gm (WP Gm) j_S_isSound 91 o Q) (if_pos (by rw [hk, show decide (catS st ≤ 8) = true from hc]; rfl)))
theorem c_S_isSound_94 : mCode j_S_isSound 94 = oIf (fun x => decide (x = 0)) 101 97 := rfl
theorem e_S_isSound_94 (x : Int32) : (WP Gm j_S_isSound 94 (ls) (.inl x :: st) h Q) = (if x = 0 then WP Gm j_S_isSound 101 (ls) (st) (h) Q else WP Gm j_S_isSound 97 (ls) (st) (h) Q) := (WP_at c_S_isSound_94 _ _ _ _).trans (nd_if rfl _ _ _ _)
theorem c_S_isSound_97 : mCode j_S_isSound 97 = oI 1 98 := rfl
theorem e_S_isSound_97  : (WP Gm j_S_isSound 97 (ls) (st) h Q) = (WP Gm j_S_isSound 98 (ls) (.inl 1 :: st) (h) Q) := (WP_at c_S_isSound_97 _ _ _ _)
theorem c_S_isSound_98 : mCode j_S_isSound 98 = oGo 102 := rfl
theorem e_S_isSound_98  : (WP Gm j_S_isSound 98 (ls) (st) h Q) = (WP Gm j_S_isSound 102 (ls) (st) (h) Q) := (WP_at c_S_isSound_98 _ _ _ _)
theorem c_S_isSound_101 : mCode j_S_isSound 101 = oI 0 102 := rfl
theorem e_S_isSound_101  : (WP Gm j_S_isSound 101 (ls) (st) h Q) = (WP Gm j_S_isSound 102 (ls) (.inl 0 :: st) (h) Q) := (WP_at c_S_isSound_101 _ _ _ _)
theorem c_S_isSound_102 : mCode j_S_isSound 102 = oRetZ := rfl
theorem e_S_isSound_102 (x : Int32) (hx : x = 0 ∨ x = 1) : (WP Gm j_S_isSound 102 (ls) ([.inl x]) h Q) = (Q (.inl (some (.inl x))) h) := (WP_at c_S_isSound_102 _ _ _ _).trans (congrArg (fun o => ndX Gm (WP Gm) j_S_isSound 102 o Q) (if_pos (by rcases hx with rfl | rfl <;> rfl)))
theorem c_S_digest_0 : mCode j_S_digest 0 = oJ 7603 3 := rfl
theorem e_S_digest_0  : (WP Gm j_S_digest 0 (ls) (st) h Q) = (WP Gm j_S_digest 3 (ls) (.inr (.inr (.inl 7603)) :: st) (h) Q) := (WP_at c_S_digest_0 _ _ _ _)
theorem c_S_digest_3 : mCode j_S_digest 3 = oLst 1 4 := rfl
theorem e_S_digest_3 (x : Int64) : (WP Gm j_S_digest 3 (ls) (.inr (.inr (.inl x)) :: st) h Q) = (WP Gm j_S_digest 4 (lSet2 ls 1 (.inr (.inr (.inl x)))) (st) (h) Q) := (WP_at c_S_digest_3 _ _ _ _)
theorem c_S_digest_4 : mCode j_S_digest 4 = oI 0 5 := rfl
theorem e_S_digest_4  : (WP Gm j_S_digest 4 (ls) (st) h Q) = (WP Gm j_S_digest 5 (ls) (.inl 0 :: st) (h) Q) := (WP_at c_S_digest_4 _ _ _ _)
theorem c_S_digest_5 : mCode j_S_digest 5 = oIst 3 6 := rfl
theorem e_S_digest_5 (x : Int32) : (WP Gm j_S_digest 5 (ls) (.inl x :: st) h Q) = (WP Gm j_S_digest 6 (lSet1 ls 3 (some (.inl x))) (st) (h) Q) := (WP_at c_S_digest_5 _ _ _ _)
theorem c_S_digest_6 : mCode j_S_digest 6 = oIld 3 7 := rfl
theorem e_S_digest_6 (a0 a1 a2 : Option MV) (x : Int32) : (WP Gm j_S_digest 6 (a0 :: a1 :: a2 :: some (.inl x) :: ls) (st) h Q) = (WP Gm j_S_digest 7 (a0 :: a1 :: a2 :: some (.inl x) :: ls) (.inl x :: st) (h) Q) := (WP_at c_S_digest_6 _ _ _ _)
theorem c_S_digest_7 : mCode j_S_digest 7 = oI 12 9 := rfl
theorem e_S_digest_7  : (WP Gm j_S_digest 7 (ls) (st) h Q) = (WP Gm j_S_digest 9 (ls) (.inl 12 :: st) (h) Q) := (WP_at c_S_digest_7 _ _ _ _)
theorem c_S_digest_9 : mCode j_S_digest 9 = oIC (fun x y => decide (y < x)) 29 12 := rfl
theorem e_S_digest_9 (x y : Int32) : (WP Gm j_S_digest 9 (ls) (.inl y :: .inl x :: st) h Q) = (if y < x then WP Gm j_S_digest 29 (ls) (st) (h) Q else WP Gm j_S_digest 12 (ls) (st) (h) Q) := (WP_at c_S_digest_9 _ _ _ _).trans (nd_ic rfl _ _ _ _)
theorem c_S_digest_12 : mCode j_S_digest 12 = oLld 1 13 := rfl
theorem e_S_digest_12 (a0 : Option MV) (x : Int64) : (WP Gm j_S_digest 12 (a0 :: some (.inr (.inr (.inl x))) :: ls) (st) h Q) = (WP Gm j_S_digest 13 (a0 :: some (.inr (.inr (.inl x))) :: ls) (.inr (.inr (.inl x)) :: st) (h) Q) := (WP_at c_S_digest_12 _ _ _ _)
theorem c_S_digest_13 : mCode j_S_digest 13 = oAld 0 14 := rfl
theorem e_S_digest_13 (x : Option Nat) : (WP Gm j_S_digest 13 (some (.inr (.inl x)) :: ls) (st) h Q) = (WP Gm j_S_digest 14 (some (.inr (.inl x)) :: ls) (.inr (.inl x) :: st) (h) Q) := (WP_at c_S_digest_13 _ _ _ _)
theorem c_S_digest_14 : mCode j_S_digest 14 = oIld 3 15 := rfl
theorem e_S_digest_14 (a0 a1 a2 : Option MV) (x : Int32) : (WP Gm j_S_digest 14 (a0 :: a1 :: a2 :: some (.inl x) :: ls) (st) h Q) = (WP Gm j_S_digest 15 (a0 :: a1 :: a2 :: some (.inl x) :: ls) (.inl x :: st) (h) Q) := (WP_at c_S_digest_14 _ _ _ _)
theorem c_S_digest_15 : mCode j_S_digest 15 = oCallV kc_S j_S_air 1 (mL j_S_air) 18 := rfl
theorem e_S_digest_15 (a : Nat) (x0 : Int32) (hk : isK h a kc_S = true) (hc : c8 st = true) : (WP Gm j_S_digest 15 (ls) (.inl x0 :: .inr (.inl (some a)) :: st) h Q) = (WP Gm j_S_air 0 [some (.inr (.inl (some a))), some (.inl x0)] [] h (kC (fun v h2 => WP Gm j_S_digest 18 ls (v.toList ++ st) h2 Q) (fun E h2 => Q (.inr E) h2))) := (WP_at c_S_digest_15 _ _ _ _).trans (congrArg (fun o => ndX Gm (WP Gm) j_S_digest 15 o Q) (if_pos (by rw [hk, show decide (catS st ≤ 8) = true from hc]; rfl)))
theorem c_S_digest_18 : mCode j_S_digest 18 = oI2L 19 := rfl
theorem e_S_digest_18 (x : Int32) : (WP Gm j_S_digest 18 (ls) (.inl x :: st) h Q) = (WP Gm j_S_digest 19 (ls) (.inr (.inr (.inl x.toInt64)) :: st) (h) Q) := (WP_at c_S_digest_18 _ _ _ _)
theorem c_S_digest_19 : mCode j_S_digest 19 = oCallS j_S_mix 2 (mL j_S_mix) 22 := rfl
theorem e_S_digest_19 (x0 : Int64) (x1 : Int64) (hc : c8 st = true) : (WP Gm j_S_digest 19 (ls) (.inr (.inr (.inl x1)) :: .inr (.inr (.inl x0)) :: st) h Q) = (WP Gm j_S_mix 0 [some (.inr (.inr (.inl x0))), none, some (.inr (.inr (.inl x1))), none] [] h (kC (fun v h2 => WP Gm j_S_digest 22 ls (v.toList ++ st) h2 Q) (fun E h2 => Q (.inr E) h2))) := (WP_at c_S_digest_19 _ _ _ _).trans (congrArg (fun o => ndX Gm (WP Gm) j_S_digest 19 o Q) (if_pos (by rw [show decide (catS st ≤ 8) = true from hc]; rfl)))
theorem c_S_digest_22 : mCode j_S_digest 22 = oLst 1 23 := rfl
theorem e_S_digest_22 (x : Int64) : (WP Gm j_S_digest 22 (ls) (.inr (.inr (.inl x)) :: st) h Q) = (WP Gm j_S_digest 23 (lSet2 ls 1 (.inr (.inr (.inl x)))) (st) (h) Q) := (WP_at c_S_digest_22 _ _ _ _)
theorem c_S_digest_23 : mCode j_S_digest 23 = oInc 3 1 26 := rfl
theorem e_S_digest_23 (a0 a1 a2 : Option MV) (x : Int32) : (WP Gm j_S_digest 23 (a0 :: a1 :: a2 :: some (.inl x) :: ls) (st) h Q) = (WP Gm j_S_digest 26 (lSet1 (a0 :: a1 :: a2 :: some (.inl x) :: ls) 3 (some (.inl (x + 1)))) (st) (h) Q) := (WP_at c_S_digest_23 _ _ _ _)
theorem c_S_digest_26 : mCode j_S_digest 26 = oGo 6 := rfl
theorem e_S_digest_26  : (WP Gm j_S_digest 26 (ls) (st) h Q) = (WP Gm j_S_digest 6 (ls) (st) (h) Q) := (WP_at c_S_digest_26 _ _ _ _)
theorem c_S_digest_29 : mCode j_S_digest 29 = oI 0 30 := rfl
theorem e_S_digest_29  : (WP Gm j_S_digest 29 (ls) (st) h Q) = (WP Gm j_S_digest 30 (ls) (.inl 0 :: st) (h) Q) := (WP_at c_S_digest_29 _ _ _ _)
theorem c_S_digest_30 : mCode j_S_digest 30 = oIst 3 31 := rfl
theorem e_S_digest_30 (x : Int32) : (WP Gm j_S_digest 30 (ls) (.inl x :: st) h Q) = (WP Gm j_S_digest 31 (lSet1 ls 3 (some (.inl x))) (st) (h) Q) := (WP_at c_S_digest_30 _ _ _ _)
theorem c_S_digest_31 : mCode j_S_digest 31 = oIld 3 32 := rfl
theorem e_S_digest_31 (a0 a1 a2 : Option MV) (x : Int32) : (WP Gm j_S_digest 31 (a0 :: a1 :: a2 :: some (.inl x) :: ls) (st) h Q) = (WP Gm j_S_digest 32 (a0 :: a1 :: a2 :: some (.inl x) :: ls) (.inl x :: st) (h) Q) := (WP_at c_S_digest_31 _ _ _ _)
theorem c_S_digest_32 : mCode j_S_digest 32 = oAld 0 33 := rfl
theorem e_S_digest_32 (x : Option Nat) : (WP Gm j_S_digest 32 (some (.inr (.inl x)) :: ls) (st) h Q) = (WP Gm j_S_digest 33 (some (.inr (.inl x)) :: ls) (.inr (.inl x) :: st) (h) Q) := (WP_at c_S_digest_32 _ _ _ _)
theorem c_S_digest_33 : mCode j_S_digest 33 = oGetR kc_S 0 36 := rfl
theorem e_S_digest_33 (a : Nat) (hk : isK h a kc_S = true) : (WP Gm j_S_digest 33 (ls) (.inr (.inl (some a)) :: st) h Q) = (WP Gm j_S_digest 36 (ls) (.inr (.inl (gR h a 0)) :: st) (h) Q) := (WP_at c_S_digest_33 _ _ _ _).trans (congrArg (fun o => ndX Gm (WP Gm) j_S_digest 33 o Q) (if_pos hk))
theorem c_S_digest_36 : mCode j_S_digest 36 = oGetI kc_Land 2 39 := rfl
theorem e_S_digest_36 (a : Nat) (hk : isK h a kc_Land = true) : (WP Gm j_S_digest 36 (ls) (.inr (.inl (some a)) :: st) h Q) = (WP Gm j_S_digest 39 (ls) (.inl (gI h a 2) :: st) (h) Q) := (WP_at c_S_digest_36 _ _ _ _).trans (congrArg (fun o => ndX Gm (WP Gm) j_S_digest 36 o Q) (if_pos hk))
theorem c_S_digest_39 : mCode j_S_digest 39 = oIC (fun x y => decide (y ≤ x)) 55 42 := rfl
theorem e_S_digest_39 (x y : Int32) : (WP Gm j_S_digest 39 (ls) (.inl y :: .inl x :: st) h Q) = (if y ≤ x then WP Gm j_S_digest 55 (ls) (st) (h) Q else WP Gm j_S_digest 42 (ls) (st) (h) Q) := (WP_at c_S_digest_39 _ _ _ _).trans (nd_ic rfl _ _ _ _)
theorem c_S_digest_42 : mCode j_S_digest 42 = oAld 0 43 := rfl
theorem e_S_digest_42 (x : Option Nat) : (WP Gm j_S_digest 42 (some (.inr (.inl x)) :: ls) (st) h Q) = (WP Gm j_S_digest 43 (some (.inr (.inl x)) :: ls) (.inr (.inl x) :: st) (h) Q) := (WP_at c_S_digest_42 _ _ _ _)
theorem c_S_digest_43 : mCode j_S_digest 43 = oLld 1 44 := rfl
theorem e_S_digest_43 (a0 : Option MV) (x : Int64) : (WP Gm j_S_digest 43 (a0 :: some (.inr (.inr (.inl x))) :: ls) (st) h Q) = (WP Gm j_S_digest 44 (a0 :: some (.inr (.inr (.inl x))) :: ls) (.inr (.inr (.inl x)) :: st) (h) Q) := (WP_at c_S_digest_43 _ _ _ _)
theorem c_S_digest_44 : mCode j_S_digest 44 = oIld 3 45 := rfl
theorem e_S_digest_44 (a0 a1 a2 : Option MV) (x : Int32) : (WP Gm j_S_digest 44 (a0 :: a1 :: a2 :: some (.inl x) :: ls) (st) h Q) = (WP Gm j_S_digest 45 (a0 :: a1 :: a2 :: some (.inl x) :: ls) (.inl x :: st) (h) Q) := (WP_at c_S_digest_44 _ _ _ _)
theorem c_S_digest_45 : mCode j_S_digest 45 = oCallV kc_S j_S_mixNode 2 (mL j_S_mixNode) 48 := rfl
theorem e_S_digest_45 (a : Nat) (x0 : Int64) (x1 : Int32) (hk : isK h a kc_S = true) (hc : c8 st = true) : (WP Gm j_S_digest 45 (ls) (.inl x1 :: .inr (.inr (.inl x0)) :: .inr (.inl (some a)) :: st) h Q) = (WP Gm j_S_mixNode 0 [some (.inr (.inl (some a))), some (.inr (.inr (.inl x0))), none, some (.inl x1), none, none, none, none] [] h (kC (fun v h2 => WP Gm j_S_digest 48 ls (v.toList ++ st) h2 Q) (fun E h2 => Q (.inr E) h2))) := (WP_at c_S_digest_45 _ _ _ _).trans (congrArg (fun o => ndX Gm (WP Gm) j_S_digest 45 o Q) (if_pos (by rw [hk, show decide (catS st ≤ 8) = true from hc]; rfl)))
theorem c_S_digest_48 : mCode j_S_digest 48 = oLst 1 49 := rfl
theorem e_S_digest_48 (x : Int64) : (WP Gm j_S_digest 48 (ls) (.inr (.inr (.inl x)) :: st) h Q) = (WP Gm j_S_digest 49 (lSet2 ls 1 (.inr (.inr (.inl x)))) (st) (h) Q) := (WP_at c_S_digest_48 _ _ _ _)
theorem c_S_digest_49 : mCode j_S_digest 49 = oInc 3 1 52 := rfl
theorem e_S_digest_49 (a0 a1 a2 : Option MV) (x : Int32) : (WP Gm j_S_digest 49 (a0 :: a1 :: a2 :: some (.inl x) :: ls) (st) h Q) = (WP Gm j_S_digest 52 (lSet1 (a0 :: a1 :: a2 :: some (.inl x) :: ls) 3 (some (.inl (x + 1)))) (st) (h) Q) := (WP_at c_S_digest_49 _ _ _ _)
theorem c_S_digest_52 : mCode j_S_digest 52 = oGo 31 := rfl
theorem e_S_digest_52  : (WP Gm j_S_digest 52 (ls) (st) h Q) = (WP Gm j_S_digest 31 (ls) (st) (h) Q) := (WP_at c_S_digest_52 _ _ _ _)
theorem c_S_digest_55 : mCode j_S_digest 55 = oLld 1 56 := rfl
theorem e_S_digest_55 (a0 : Option MV) (x : Int64) : (WP Gm j_S_digest 55 (a0 :: some (.inr (.inr (.inl x))) :: ls) (st) h Q) = (WP Gm j_S_digest 56 (a0 :: some (.inr (.inr (.inl x))) :: ls) (.inr (.inr (.inl x)) :: st) (h) Q) := (WP_at c_S_digest_55 _ _ _ _)
theorem c_S_digest_56 : mCode j_S_digest 56 = oF 4661225614328463360 59 := rfl
theorem e_S_digest_56  : (WP Gm j_S_digest 56 (ls) (st) h Q) = (WP Gm j_S_digest 59 (ls) (.inr (.inr (.inr 4661225614328463360)) :: st) (h) Q) := (WP_at c_S_digest_56 _ _ _ _)
theorem c_S_digest_59 : mCode j_S_digest 59 = oAld 0 60 := rfl
theorem e_S_digest_59 (x : Option Nat) : (WP Gm j_S_digest 59 (some (.inr (.inl x)) :: ls) (st) h Q) = (WP Gm j_S_digest 60 (some (.inr (.inl x)) :: ls) (.inr (.inl x) :: st) (h) Q) := (WP_at c_S_digest_59 _ _ _ _)
theorem c_S_digest_60 : mCode j_S_digest 60 = oCallV kc_S j_S_fairness 0 (mL j_S_fairness) 63 := rfl
theorem e_S_digest_60 (a : Nat) (hk : isK h a kc_S = true) (hc : c8 st = true) : (WP Gm j_S_digest 60 (ls) (.inr (.inl (some a)) :: st) h Q) = (WP Gm j_S_fairness 0 [some (.inr (.inl (some a))), none, none, none, none, none, none, none] [] h (kC (fun v h2 => WP Gm j_S_digest 63 ls (v.toList ++ st) h2 Q) (fun E h2 => Q (.inr E) h2))) := (WP_at c_S_digest_60 _ _ _ _).trans (congrArg (fun o => ndX Gm (WP Gm) j_S_digest 60 o Q) (if_pos (by rw [hk, show decide (catS st ≤ 8) = true from hc]; rfl)))
theorem c_S_digest_63 : mCode j_S_digest 63 = oDD FP.dmul 64 := rfl
theorem e_S_digest_63 (x : UInt64) (y : UInt64) (hy : okD (FP.dmul x y) = true) : (WP Gm j_S_digest 63 (ls) (.inr (.inr (.inr y)) :: .inr (.inr (.inr x)) :: st) h Q) = (WP Gm j_S_digest 64 (ls) (.inr (.inr (.inr (FP.dmul x y))) :: st) (h) Q) := (WP_at c_S_digest_63 _ _ _ _).trans (congrArg (fun o => ndX Gm (WP Gm) j_S_digest 63 o Q) (if_pos hy))
theorem c_S_digest_64 : mCode j_S_digest 64 = oD2L 65 := rfl
theorem e_S_digest_64 (x : UInt64) : (WP Gm j_S_digest 64 (ls) (.inr (.inr (.inr x)) :: st) h Q) = (WP Gm j_S_digest 65 (ls) (.inr (.inr (.inl (FP.d2l x))) :: st) (h) Q) := (WP_at c_S_digest_64 _ _ _ _)
theorem c_S_digest_65 : mCode j_S_digest 65 = oCallS j_S_mix 2 (mL j_S_mix) 68 := rfl
theorem e_S_digest_65 (x0 : Int64) (x1 : Int64) (hc : c8 st = true) : (WP Gm j_S_digest 65 (ls) (.inr (.inr (.inl x1)) :: .inr (.inr (.inl x0)) :: st) h Q) = (WP Gm j_S_mix 0 [some (.inr (.inr (.inl x0))), none, some (.inr (.inr (.inl x1))), none] [] h (kC (fun v h2 => WP Gm j_S_digest 68 ls (v.toList ++ st) h2 Q) (fun E h2 => Q (.inr E) h2))) := (WP_at c_S_digest_65 _ _ _ _).trans (congrArg (fun o => ndX Gm (WP Gm) j_S_digest 65 o Q) (if_pos (by rw [show decide (catS st ≤ 8) = true from hc]; rfl)))
theorem c_S_digest_68 : mCode j_S_digest 68 = oLst 1 69 := rfl
theorem e_S_digest_68 (x : Int64) : (WP Gm j_S_digest 68 (ls) (.inr (.inr (.inl x)) :: st) h Q) = (WP Gm j_S_digest 69 (lSet2 ls 1 (.inr (.inr (.inl x)))) (st) (h) Q) := (WP_at c_S_digest_68 _ _ _ _)
theorem c_S_digest_69 : mCode j_S_digest 69 = oI 0 70 := rfl
theorem e_S_digest_69  : (WP Gm j_S_digest 69 (ls) (st) h Q) = (WP Gm j_S_digest 70 (ls) (.inl 0 :: st) (h) Q) := (WP_at c_S_digest_69 _ _ _ _)
theorem c_S_digest_70 : mCode j_S_digest 70 = oIst 3 71 := rfl
theorem e_S_digest_70 (x : Int32) : (WP Gm j_S_digest 70 (ls) (.inl x :: st) h Q) = (WP Gm j_S_digest 71 (lSet1 ls 3 (some (.inl x))) (st) (h) Q) := (WP_at c_S_digest_70 _ _ _ _)
theorem c_S_digest_71 : mCode j_S_digest 71 = oIld 3 72 := rfl
theorem e_S_digest_71 (a0 a1 a2 : Option MV) (x : Int32) : (WP Gm j_S_digest 71 (a0 :: a1 :: a2 :: some (.inl x) :: ls) (st) h Q) = (WP Gm j_S_digest 72 (a0 :: a1 :: a2 :: some (.inl x) :: ls) (.inl x :: st) (h) Q) := (WP_at c_S_digest_71 _ _ _ _)
theorem c_S_digest_72 : mCode j_S_digest 72 = oI 6 74 := rfl
theorem e_S_digest_72  : (WP Gm j_S_digest 72 (ls) (st) h Q) = (WP Gm j_S_digest 74 (ls) (.inl 6 :: st) (h) Q) := (WP_at c_S_digest_72 _ _ _ _)
theorem c_S_digest_74 : mCode j_S_digest 74 = oIC (fun x y => decide (y < x)) 94 77 := rfl
theorem e_S_digest_74 (x y : Int32) : (WP Gm j_S_digest 74 (ls) (.inl y :: .inl x :: st) h Q) = (if y < x then WP Gm j_S_digest 94 (ls) (st) (h) Q else WP Gm j_S_digest 77 (ls) (st) (h) Q) := (WP_at c_S_digest_74 _ _ _ _).trans (nd_ic rfl _ _ _ _)
theorem c_S_digest_77 : mCode j_S_digest 77 = oLld 1 78 := rfl
theorem e_S_digest_77 (a0 : Option MV) (x : Int64) : (WP Gm j_S_digest 77 (a0 :: some (.inr (.inr (.inl x))) :: ls) (st) h Q) = (WP Gm j_S_digest 78 (a0 :: some (.inr (.inr (.inl x))) :: ls) (.inr (.inr (.inl x)) :: st) (h) Q) := (WP_at c_S_digest_77 _ _ _ _)
theorem c_S_digest_78 : mCode j_S_digest 78 = oAld 0 79 := rfl
theorem e_S_digest_78 (x : Option Nat) : (WP Gm j_S_digest 78 (some (.inr (.inl x)) :: ls) (st) h Q) = (WP Gm j_S_digest 79 (some (.inr (.inl x)) :: ls) (.inr (.inl x) :: st) (h) Q) := (WP_at c_S_digest_78 _ _ _ _)
theorem c_S_digest_79 : mCode j_S_digest 79 = oIld 3 80 := rfl
theorem e_S_digest_79 (a0 a1 a2 : Option MV) (x : Int32) : (WP Gm j_S_digest 79 (a0 :: a1 :: a2 :: some (.inl x) :: ls) (st) h Q) = (WP Gm j_S_digest 80 (a0 :: a1 :: a2 :: some (.inl x) :: ls) (.inl x :: st) (h) Q) := (WP_at c_S_digest_79 _ _ _ _)
theorem c_S_digest_80 : mCode j_S_digest 80 = oCallV kc_S j_S_auction 1 (mL j_S_auction) 83 := rfl
theorem e_S_digest_80 (a : Nat) (x0 : Int32) (hk : isK h a kc_S = true) (hc : c8 st = true) : (WP Gm j_S_digest 80 (ls) (.inl x0 :: .inr (.inl (some a)) :: st) h Q) = (WP Gm j_S_auction 0 [some (.inr (.inl (some a))), some (.inl x0)] [] h (kC (fun v h2 => WP Gm j_S_digest 83 ls (v.toList ++ st) h2 Q) (fun E h2 => Q (.inr E) h2))) := (WP_at c_S_digest_80 _ _ _ _).trans (congrArg (fun o => ndX Gm (WP Gm) j_S_digest 80 o Q) (if_pos (by rw [hk, show decide (catS st ≤ 8) = true from hc]; rfl)))
theorem c_S_digest_83 : mCode j_S_digest 83 = oI2L 84 := rfl
theorem e_S_digest_83 (x : Int32) : (WP Gm j_S_digest 83 (ls) (.inl x :: st) h Q) = (WP Gm j_S_digest 84 (ls) (.inr (.inr (.inl x.toInt64)) :: st) (h) Q) := (WP_at c_S_digest_83 _ _ _ _)
theorem c_S_digest_84 : mCode j_S_digest 84 = oCallS j_S_mix 2 (mL j_S_mix) 87 := rfl
theorem e_S_digest_84 (x0 : Int64) (x1 : Int64) (hc : c8 st = true) : (WP Gm j_S_digest 84 (ls) (.inr (.inr (.inl x1)) :: .inr (.inr (.inl x0)) :: st) h Q) = (WP Gm j_S_mix 0 [some (.inr (.inr (.inl x0))), none, some (.inr (.inr (.inl x1))), none] [] h (kC (fun v h2 => WP Gm j_S_digest 87 ls (v.toList ++ st) h2 Q) (fun E h2 => Q (.inr E) h2))) := (WP_at c_S_digest_84 _ _ _ _).trans (congrArg (fun o => ndX Gm (WP Gm) j_S_digest 84 o Q) (if_pos (by rw [show decide (catS st ≤ 8) = true from hc]; rfl)))
theorem c_S_digest_87 : mCode j_S_digest 87 = oLst 1 88 := rfl
theorem e_S_digest_87 (x : Int64) : (WP Gm j_S_digest 87 (ls) (.inr (.inr (.inl x)) :: st) h Q) = (WP Gm j_S_digest 88 (lSet2 ls 1 (.inr (.inr (.inl x)))) (st) (h) Q) := (WP_at c_S_digest_87 _ _ _ _)
theorem c_S_digest_88 : mCode j_S_digest 88 = oInc 3 1 91 := rfl
theorem e_S_digest_88 (a0 a1 a2 : Option MV) (x : Int32) : (WP Gm j_S_digest 88 (a0 :: a1 :: a2 :: some (.inl x) :: ls) (st) h Q) = (WP Gm j_S_digest 91 (lSet1 (a0 :: a1 :: a2 :: some (.inl x) :: ls) 3 (some (.inl (x + 1)))) (st) (h) Q) := (WP_at c_S_digest_88 _ _ _ _)
theorem c_S_digest_91 : mCode j_S_digest 91 = oGo 71 := rfl
theorem e_S_digest_91  : (WP Gm j_S_digest 91 (ls) (st) h Q) = (WP Gm j_S_digest 71 (ls) (st) (h) Q) := (WP_at c_S_digest_91 _ _ _ _)
theorem c_S_digest_94 : mCode j_S_digest 94 = oLld 1 95 := rfl
theorem e_S_digest_94 (a0 : Option MV) (x : Int64) : (WP Gm j_S_digest 94 (a0 :: some (.inr (.inr (.inl x))) :: ls) (st) h Q) = (WP Gm j_S_digest 95 (a0 :: some (.inr (.inr (.inl x))) :: ls) (.inr (.inr (.inl x)) :: st) (h) Q) := (WP_at c_S_digest_94 _ _ _ _)
theorem c_S_digest_95 : mCode j_S_digest 95 = oAld 0 96 := rfl
theorem e_S_digest_95 (x : Option Nat) : (WP Gm j_S_digest 95 (some (.inr (.inl x)) :: ls) (st) h Q) = (WP Gm j_S_digest 96 (some (.inr (.inl x)) :: ls) (.inr (.inl x) :: st) (h) Q) := (WP_at c_S_digest_95 _ _ _ _)
theorem c_S_digest_96 : mCode j_S_digest 96 = oCallV kc_S j_S_cover 0 (mL j_S_cover) 99 := rfl
theorem e_S_digest_96 (a : Nat) (hk : isK h a kc_S = true) (hc : c8 st = true) : (WP Gm j_S_digest 96 (ls) (.inr (.inl (some a)) :: st) h Q) = (WP Gm j_S_cover 0 [some (.inr (.inl (some a)))] [] h (kC (fun v h2 => WP Gm j_S_digest 99 ls (v.toList ++ st) h2 Q) (fun E h2 => Q (.inr E) h2))) := (WP_at c_S_digest_96 _ _ _ _).trans (congrArg (fun o => ndX Gm (WP Gm) j_S_digest 96 o Q) (if_pos (by rw [hk, show decide (catS st ≤ 8) = true from hc]; rfl)))
theorem c_S_digest_99 : mCode j_S_digest 99 = oI2L 100 := rfl
theorem e_S_digest_99 (x : Int32) : (WP Gm j_S_digest 99 (ls) (.inl x :: st) h Q) = (WP Gm j_S_digest 100 (ls) (.inr (.inr (.inl x.toInt64)) :: st) (h) Q) := (WP_at c_S_digest_99 _ _ _ _)
theorem c_S_digest_100 : mCode j_S_digest 100 = oCallS j_S_mix 2 (mL j_S_mix) 103 := rfl
theorem e_S_digest_100 (x0 : Int64) (x1 : Int64) (hc : c8 st = true) : (WP Gm j_S_digest 100 (ls) (.inr (.inr (.inl x1)) :: .inr (.inr (.inl x0)) :: st) h Q) = (WP Gm j_S_mix 0 [some (.inr (.inr (.inl x0))), none, some (.inr (.inr (.inl x1))), none] [] h (kC (fun v h2 => WP Gm j_S_digest 103 ls (v.toList ++ st) h2 Q) (fun E h2 => Q (.inr E) h2))) := (WP_at c_S_digest_100 _ _ _ _).trans (congrArg (fun o => ndX Gm (WP Gm) j_S_digest 100 o Q) (if_pos (by rw [show decide (catS st ≤ 8) = true from hc]; rfl)))
theorem c_S_digest_103 : mCode j_S_digest 103 = oLst 1 104 := rfl
theorem e_S_digest_103 (x : Int64) : (WP Gm j_S_digest 103 (ls) (.inr (.inr (.inl x)) :: st) h Q) = (WP Gm j_S_digest 104 (lSet2 ls 1 (.inr (.inr (.inl x)))) (st) (h) Q) := (WP_at c_S_digest_103 _ _ _ _)
theorem c_S_digest_104 : mCode j_S_digest 104 = oLld 1 105 := rfl
theorem e_S_digest_104 (a0 : Option MV) (x : Int64) : (WP Gm j_S_digest 104 (a0 :: some (.inr (.inr (.inl x))) :: ls) (st) h Q) = (WP Gm j_S_digest 105 (a0 :: some (.inr (.inr (.inl x))) :: ls) (.inr (.inr (.inl x)) :: st) (h) Q) := (WP_at c_S_digest_104 _ _ _ _)
theorem c_S_digest_105 : mCode j_S_digest 105 = oAld 0 106 := rfl
theorem e_S_digest_105 (x : Option Nat) : (WP Gm j_S_digest 105 (some (.inr (.inl x)) :: ls) (st) h Q) = (WP Gm j_S_digest 106 (some (.inr (.inl x)) :: ls) (.inr (.inl x) :: st) (h) Q) := (WP_at c_S_digest_105 _ _ _ _)
theorem c_S_digest_106 : mCode j_S_digest 106 = oCallV kc_S j_S_isSound 0 (mL j_S_isSound) 109 := rfl
theorem e_S_digest_106 (a : Nat) (hk : isK h a kc_S = true) (hc : c8 st = true) : (WP Gm j_S_digest 106 (ls) (.inr (.inl (some a)) :: st) h Q) = (WP Gm j_S_isSound 0 [some (.inr (.inl (some a))), none, none] [] h (kC (fun v h2 => WP Gm j_S_digest 109 ls (v.toList ++ st) h2 Q) (fun E h2 => Q (.inr E) h2))) := (WP_at c_S_digest_106 _ _ _ _).trans (congrArg (fun o => ndX Gm (WP Gm) j_S_digest 106 o Q) (if_pos (by rw [hk, show decide (catS st ≤ 8) = true from hc]; rfl)))
theorem c_S_digest_109 : mCode j_S_digest 109 = oIf (fun x => decide (x = 0)) 116 112 := rfl
theorem e_S_digest_109 (x : Int32) : (WP Gm j_S_digest 109 (ls) (.inl x :: st) h Q) = (if x = 0 then WP Gm j_S_digest 116 (ls) (st) (h) Q else WP Gm j_S_digest 112 (ls) (st) (h) Q) := (WP_at c_S_digest_109 _ _ _ _).trans (nd_if rfl _ _ _ _)
theorem c_S_digest_112 : mCode j_S_digest 112 = oJ 1 113 := rfl
theorem e_S_digest_112  : (WP Gm j_S_digest 112 (ls) (st) h Q) = (WP Gm j_S_digest 113 (ls) (.inr (.inr (.inl 1)) :: st) (h) Q) := (WP_at c_S_digest_112 _ _ _ _)
theorem c_S_digest_113 : mCode j_S_digest 113 = oGo 117 := rfl
theorem e_S_digest_113  : (WP Gm j_S_digest 113 (ls) (st) h Q) = (WP Gm j_S_digest 117 (ls) (st) (h) Q) := (WP_at c_S_digest_113 _ _ _ _)
theorem c_S_digest_116 : mCode j_S_digest 116 = oJ 0 117 := rfl
theorem e_S_digest_116  : (WP Gm j_S_digest 116 (ls) (st) h Q) = (WP Gm j_S_digest 117 (ls) (.inr (.inr (.inl 0)) :: st) (h) Q) := (WP_at c_S_digest_116 _ _ _ _)
theorem c_S_digest_117 : mCode j_S_digest 117 = oCallS j_S_mix 2 (mL j_S_mix) 120 := rfl
theorem e_S_digest_117 (x0 : Int64) (x1 : Int64) (hc : c8 st = true) : (WP Gm j_S_digest 117 (ls) (.inr (.inr (.inl x1)) :: .inr (.inr (.inl x0)) :: st) h Q) = (WP Gm j_S_mix 0 [some (.inr (.inr (.inl x0))), none, some (.inr (.inr (.inl x1))), none] [] h (kC (fun v h2 => WP Gm j_S_digest 120 ls (v.toList ++ st) h2 Q) (fun E h2 => Q (.inr E) h2))) := (WP_at c_S_digest_117 _ _ _ _).trans (congrArg (fun o => ndX Gm (WP Gm) j_S_digest 117 o Q) (if_pos (by rw [show decide (catS st ≤ 8) = true from hc]; rfl)))
theorem c_S_digest_120 : mCode j_S_digest 120 = oRetL := rfl
theorem e_S_digest_120 (x : Int64) : (WP Gm j_S_digest 120 (ls) ([.inr (.inr (.inl x))]) h Q) = (Q (.inl (some (.inr (.inr (.inl x))))) h) := (WP_at c_S_digest_120 _ _ _ _)
theorem c_S_mixNode_0 : mCode j_S_mixNode 0 = oLld 1 1 := rfl
theorem e_S_mixNode_0 (a0 : Option MV) (x : Int64) : (WP Gm j_S_mixNode 0 (a0 :: some (.inr (.inr (.inl x))) :: ls) (st) h Q) = (WP Gm j_S_mixNode 1 (a0 :: some (.inr (.inr (.inl x))) :: ls) (.inr (.inr (.inl x)) :: st) (h) Q) := (WP_at c_S_mixNode_0 _ _ _ _)
theorem c_S_mixNode_1 : mCode j_S_mixNode 1 = oLst 4 3 := rfl
theorem e_S_mixNode_1 (x : Int64) : (WP Gm j_S_mixNode 1 (ls) (.inr (.inr (.inl x)) :: st) h Q) = (WP Gm j_S_mixNode 3 (lSet2 ls 4 (.inr (.inr (.inl x)))) (st) (h) Q) := (WP_at c_S_mixNode_1 _ _ _ _)
theorem c_S_mixNode_3 : mCode j_S_mixNode 3 = oI 0 4 := rfl
theorem e_S_mixNode_3  : (WP Gm j_S_mixNode 3 (ls) (st) h Q) = (WP Gm j_S_mixNode 4 (ls) (.inl 0 :: st) (h) Q) := (WP_at c_S_mixNode_3 _ _ _ _)
theorem c_S_mixNode_4 : mCode j_S_mixNode 4 = oIst 6 6 := rfl
theorem e_S_mixNode_4 (x : Int32) : (WP Gm j_S_mixNode 4 (ls) (.inl x :: st) h Q) = (WP Gm j_S_mixNode 6 (lSet1 ls 6 (some (.inl x))) (st) (h) Q) := (WP_at c_S_mixNode_4 _ _ _ _)
theorem c_S_mixNode_6 : mCode j_S_mixNode 6 = oIld 6 8 := rfl
theorem e_S_mixNode_6 (a0 a1 a2 a3 a4 a5 : Option MV) (x : Int32) : (WP Gm j_S_mixNode 6 (a0 :: a1 :: a2 :: a3 :: a4 :: a5 :: some (.inl x) :: ls) (st) h Q) = (WP Gm j_S_mixNode 8 (a0 :: a1 :: a2 :: a3 :: a4 :: a5 :: some (.inl x) :: ls) (.inl x :: st) (h) Q) := (WP_at c_S_mixNode_6 _ _ _ _)
theorem c_S_mixNode_8 : mCode j_S_mixNode 8 = oI 15 10 := rfl
theorem e_S_mixNode_8  : (WP Gm j_S_mixNode 8 (ls) (st) h Q) = (WP Gm j_S_mixNode 10 (ls) (.inl 15 :: st) (h) Q) := (WP_at c_S_mixNode_8 _ _ _ _)
theorem c_S_mixNode_10 : mCode j_S_mixNode 10 = oIC (fun x y => decide (y < x)) 34 13 := rfl
theorem e_S_mixNode_10 (x y : Int32) : (WP Gm j_S_mixNode 10 (ls) (.inl y :: .inl x :: st) h Q) = (if y < x then WP Gm j_S_mixNode 34 (ls) (st) (h) Q else WP Gm j_S_mixNode 13 (ls) (st) (h) Q) := (WP_at c_S_mixNode_10 _ _ _ _).trans (nd_ic rfl _ _ _ _)
theorem c_S_mixNode_13 : mCode j_S_mixNode 13 = oLld 4 15 := rfl
theorem e_S_mixNode_13 (a0 a1 a2 a3 : Option MV) (x : Int64) : (WP Gm j_S_mixNode 13 (a0 :: a1 :: a2 :: a3 :: some (.inr (.inr (.inl x))) :: ls) (st) h Q) = (WP Gm j_S_mixNode 15 (a0 :: a1 :: a2 :: a3 :: some (.inr (.inr (.inl x))) :: ls) (.inr (.inr (.inl x)) :: st) (h) Q) := (WP_at c_S_mixNode_13 _ _ _ _)
theorem c_S_mixNode_15 : mCode j_S_mixNode 15 = oAld 0 16 := rfl
theorem e_S_mixNode_15 (x : Option Nat) : (WP Gm j_S_mixNode 15 (some (.inr (.inl x)) :: ls) (st) h Q) = (WP Gm j_S_mixNode 16 (some (.inr (.inl x)) :: ls) (.inr (.inl x) :: st) (h) Q) := (WP_at c_S_mixNode_15 _ _ _ _)
theorem c_S_mixNode_16 : mCode j_S_mixNode 16 = oIld 3 17 := rfl
theorem e_S_mixNode_16 (a0 a1 a2 : Option MV) (x : Int32) : (WP Gm j_S_mixNode 16 (a0 :: a1 :: a2 :: some (.inl x) :: ls) (st) h Q) = (WP Gm j_S_mixNode 17 (a0 :: a1 :: a2 :: some (.inl x) :: ls) (.inl x :: st) (h) Q) := (WP_at c_S_mixNode_16 _ _ _ _)
theorem c_S_mixNode_17 : mCode j_S_mixNode 17 = oIld 6 19 := rfl
theorem e_S_mixNode_17 (a0 a1 a2 a3 a4 a5 : Option MV) (x : Int32) : (WP Gm j_S_mixNode 17 (a0 :: a1 :: a2 :: a3 :: a4 :: a5 :: some (.inl x) :: ls) (st) h Q) = (WP Gm j_S_mixNode 19 (a0 :: a1 :: a2 :: a3 :: a4 :: a5 :: some (.inl x) :: ls) (.inl x :: st) (h) Q) := (WP_at c_S_mixNode_17 _ _ _ _)
theorem c_S_mixNode_19 : mCode j_S_mixNode 19 = oCallV kc_S j_S_ofNode 2 (mL j_S_ofNode) 22 := rfl
theorem e_S_mixNode_19 (a : Nat) (x0 : Int32) (x1 : Int32) (hk : isK h a kc_S = true) (hc : c8 st = true) : (WP Gm j_S_mixNode 19 (ls) (.inl x1 :: .inl x0 :: .inr (.inl (some a)) :: st) h Q) = (WP Gm j_S_ofNode 0 [some (.inr (.inl (some a))), some (.inl x0), some (.inl x1), none] [] h (kC (fun v h2 => WP Gm j_S_mixNode 22 ls (v.toList ++ st) h2 Q) (fun E h2 => Q (.inr E) h2))) := (WP_at c_S_mixNode_19 _ _ _ _).trans (congrArg (fun o => ndX Gm (WP Gm) j_S_mixNode 19 o Q) (if_pos (by rw [hk, show decide (catS st ≤ 8) = true from hc]; rfl)))
theorem c_S_mixNode_22 : mCode j_S_mixNode 22 = oI2L 23 := rfl
theorem e_S_mixNode_22 (x : Int32) : (WP Gm j_S_mixNode 22 (ls) (.inl x :: st) h Q) = (WP Gm j_S_mixNode 23 (ls) (.inr (.inr (.inl x.toInt64)) :: st) (h) Q) := (WP_at c_S_mixNode_22 _ _ _ _)
theorem c_S_mixNode_23 : mCode j_S_mixNode 23 = oCallS j_S_mix 2 (mL j_S_mix) 26 := rfl
theorem e_S_mixNode_23 (x0 : Int64) (x1 : Int64) (hc : c8 st = true) : (WP Gm j_S_mixNode 23 (ls) (.inr (.inr (.inl x1)) :: .inr (.inr (.inl x0)) :: st) h Q) = (WP Gm j_S_mix 0 [some (.inr (.inr (.inl x0))), none, some (.inr (.inr (.inl x1))), none] [] h (kC (fun v h2 => WP Gm j_S_mixNode 26 ls (v.toList ++ st) h2 Q) (fun E h2 => Q (.inr E) h2))) := (WP_at c_S_mixNode_23 _ _ _ _).trans (congrArg (fun o => ndX Gm (WP Gm) j_S_mixNode 23 o Q) (if_pos (by rw [show decide (catS st ≤ 8) = true from hc]; rfl)))
theorem c_S_mixNode_26 : mCode j_S_mixNode 26 = oLst 4 28 := rfl
theorem e_S_mixNode_26 (x : Int64) : (WP Gm j_S_mixNode 26 (ls) (.inr (.inr (.inl x)) :: st) h Q) = (WP Gm j_S_mixNode 28 (lSet2 ls 4 (.inr (.inr (.inl x)))) (st) (h) Q) := (WP_at c_S_mixNode_26 _ _ _ _)
theorem c_S_mixNode_28 : mCode j_S_mixNode 28 = oInc 6 1 31 := rfl
theorem e_S_mixNode_28 (a0 a1 a2 a3 a4 a5 : Option MV) (x : Int32) : (WP Gm j_S_mixNode 28 (a0 :: a1 :: a2 :: a3 :: a4 :: a5 :: some (.inl x) :: ls) (st) h Q) = (WP Gm j_S_mixNode 31 (lSet1 (a0 :: a1 :: a2 :: a3 :: a4 :: a5 :: some (.inl x) :: ls) 6 (some (.inl (x + 1)))) (st) (h) Q) := (WP_at c_S_mixNode_28 _ _ _ _)
theorem c_S_mixNode_31 : mCode j_S_mixNode 31 = oGo 6 := rfl
theorem e_S_mixNode_31  : (WP Gm j_S_mixNode 31 (ls) (st) h Q) = (WP Gm j_S_mixNode 6 (ls) (st) (h) Q) := (WP_at c_S_mixNode_31 _ _ _ _)
theorem c_S_mixNode_34 : mCode j_S_mixNode 34 = oI 0 35 := rfl
theorem e_S_mixNode_34  : (WP Gm j_S_mixNode 34 (ls) (st) h Q) = (WP Gm j_S_mixNode 35 (ls) (.inl 0 :: st) (h) Q) := (WP_at c_S_mixNode_34 _ _ _ _)
theorem c_S_mixNode_35 : mCode j_S_mixNode 35 = oIst 6 37 := rfl
theorem e_S_mixNode_35 (x : Int32) : (WP Gm j_S_mixNode 35 (ls) (.inl x :: st) h Q) = (WP Gm j_S_mixNode 37 (lSet1 ls 6 (some (.inl x))) (st) (h) Q) := (WP_at c_S_mixNode_35 _ _ _ _)
theorem c_S_mixNode_37 : mCode j_S_mixNode 37 = oIld 6 39 := rfl
theorem e_S_mixNode_37 (a0 a1 a2 a3 a4 a5 : Option MV) (x : Int32) : (WP Gm j_S_mixNode 37 (a0 :: a1 :: a2 :: a3 :: a4 :: a5 :: some (.inl x) :: ls) (st) h Q) = (WP Gm j_S_mixNode 39 (a0 :: a1 :: a2 :: a3 :: a4 :: a5 :: some (.inl x) :: ls) (.inl x :: st) (h) Q) := (WP_at c_S_mixNode_37 _ _ _ _)
theorem c_S_mixNode_39 : mCode j_S_mixNode 39 = oI 4 40 := rfl
theorem e_S_mixNode_39  : (WP Gm j_S_mixNode 39 (ls) (st) h Q) = (WP Gm j_S_mixNode 40 (ls) (.inl 4 :: st) (h) Q) := (WP_at c_S_mixNode_39 _ _ _ _)
theorem c_S_mixNode_40 : mCode j_S_mixNode 40 = oIC (fun x y => decide (y < x)) 65 43 := rfl
theorem e_S_mixNode_40 (x y : Int32) : (WP Gm j_S_mixNode 40 (ls) (.inl y :: .inl x :: st) h Q) = (if y < x then WP Gm j_S_mixNode 65 (ls) (st) (h) Q else WP Gm j_S_mixNode 43 (ls) (st) (h) Q) := (WP_at c_S_mixNode_40 _ _ _ _).trans (nd_ic rfl _ _ _ _)
theorem c_S_mixNode_43 : mCode j_S_mixNode 43 = oLld 4 45 := rfl
theorem e_S_mixNode_43 (a0 a1 a2 a3 : Option MV) (x : Int64) : (WP Gm j_S_mixNode 43 (a0 :: a1 :: a2 :: a3 :: some (.inr (.inr (.inl x))) :: ls) (st) h Q) = (WP Gm j_S_mixNode 45 (a0 :: a1 :: a2 :: a3 :: some (.inr (.inr (.inl x))) :: ls) (.inr (.inr (.inl x)) :: st) (h) Q) := (WP_at c_S_mixNode_43 _ _ _ _)
theorem c_S_mixNode_45 : mCode j_S_mixNode 45 = oAld 0 46 := rfl
theorem e_S_mixNode_45 (x : Option Nat) : (WP Gm j_S_mixNode 45 (some (.inr (.inl x)) :: ls) (st) h Q) = (WP Gm j_S_mixNode 46 (some (.inr (.inl x)) :: ls) (.inr (.inl x) :: st) (h) Q) := (WP_at c_S_mixNode_45 _ _ _ _)
theorem c_S_mixNode_46 : mCode j_S_mixNode 46 = oIld 3 47 := rfl
theorem e_S_mixNode_46 (a0 a1 a2 : Option MV) (x : Int32) : (WP Gm j_S_mixNode 46 (a0 :: a1 :: a2 :: some (.inl x) :: ls) (st) h Q) = (WP Gm j_S_mixNode 47 (a0 :: a1 :: a2 :: some (.inl x) :: ls) (.inl x :: st) (h) Q) := (WP_at c_S_mixNode_46 _ _ _ _)
theorem c_S_mixNode_47 : mCode j_S_mixNode 47 = oI 0 48 := rfl
theorem e_S_mixNode_47  : (WP Gm j_S_mixNode 47 (ls) (st) h Q) = (WP Gm j_S_mixNode 48 (ls) (.inl 0 :: st) (h) Q) := (WP_at c_S_mixNode_47 _ _ _ _)
theorem c_S_mixNode_48 : mCode j_S_mixNode 48 = oIld 6 50 := rfl
theorem e_S_mixNode_48 (a0 a1 a2 a3 a4 a5 : Option MV) (x : Int32) : (WP Gm j_S_mixNode 48 (a0 :: a1 :: a2 :: a3 :: a4 :: a5 :: some (.inl x) :: ls) (st) h Q) = (WP Gm j_S_mixNode 50 (a0 :: a1 :: a2 :: a3 :: a4 :: a5 :: some (.inl x) :: ls) (.inl x :: st) (h) Q) := (WP_at c_S_mixNode_48 _ _ _ _)
theorem c_S_mixNode_50 : mCode j_S_mixNode 50 = oCallV kc_S j_S_inQueue 3 (mL j_S_inQueue) 53 := rfl
theorem e_S_mixNode_50 (a : Nat) (x0 : Int32) (x1 : Int32) (x2 : Int32) (hk : isK h a kc_S = true) (hc : c8 st = true) : (WP Gm j_S_mixNode 50 (ls) (.inl x2 :: .inl x1 :: .inl x0 :: .inr (.inl (some a)) :: st) h Q) = (WP Gm j_S_inQueue 0 [some (.inr (.inl (some a))), some (.inl x0), some (.inl x1), some (.inl x2), none] [] h (kC (fun v h2 => WP Gm j_S_mixNode 53 ls (v.toList ++ st) h2 Q) (fun E h2 => Q (.inr E) h2))) := (WP_at c_S_mixNode_50 _ _ _ _).trans (congrArg (fun o => ndX Gm (WP Gm) j_S_mixNode 50 o Q) (if_pos (by rw [hk, show decide (catS st ≤ 8) = true from hc]; rfl)))
theorem c_S_mixNode_53 : mCode j_S_mixNode 53 = oI2L 54 := rfl
theorem e_S_mixNode_53 (x : Int32) : (WP Gm j_S_mixNode 53 (ls) (.inl x :: st) h Q) = (WP Gm j_S_mixNode 54 (ls) (.inr (.inr (.inl x.toInt64)) :: st) (h) Q) := (WP_at c_S_mixNode_53 _ _ _ _)
theorem c_S_mixNode_54 : mCode j_S_mixNode 54 = oCallS j_S_mix 2 (mL j_S_mix) 57 := rfl
theorem e_S_mixNode_54 (x0 : Int64) (x1 : Int64) (hc : c8 st = true) : (WP Gm j_S_mixNode 54 (ls) (.inr (.inr (.inl x1)) :: .inr (.inr (.inl x0)) :: st) h Q) = (WP Gm j_S_mix 0 [some (.inr (.inr (.inl x0))), none, some (.inr (.inr (.inl x1))), none] [] h (kC (fun v h2 => WP Gm j_S_mixNode 57 ls (v.toList ++ st) h2 Q) (fun E h2 => Q (.inr E) h2))) := (WP_at c_S_mixNode_54 _ _ _ _).trans (congrArg (fun o => ndX Gm (WP Gm) j_S_mixNode 54 o Q) (if_pos (by rw [show decide (catS st ≤ 8) = true from hc]; rfl)))
theorem c_S_mixNode_57 : mCode j_S_mixNode 57 = oLst 4 59 := rfl
theorem e_S_mixNode_57 (x : Int64) : (WP Gm j_S_mixNode 57 (ls) (.inr (.inr (.inl x)) :: st) h Q) = (WP Gm j_S_mixNode 59 (lSet2 ls 4 (.inr (.inr (.inl x)))) (st) (h) Q) := (WP_at c_S_mixNode_57 _ _ _ _)
theorem c_S_mixNode_59 : mCode j_S_mixNode 59 = oInc 6 1 62 := rfl
theorem e_S_mixNode_59 (a0 a1 a2 a3 a4 a5 : Option MV) (x : Int32) : (WP Gm j_S_mixNode 59 (a0 :: a1 :: a2 :: a3 :: a4 :: a5 :: some (.inl x) :: ls) (st) h Q) = (WP Gm j_S_mixNode 62 (lSet1 (a0 :: a1 :: a2 :: a3 :: a4 :: a5 :: some (.inl x) :: ls) 6 (some (.inl (x + 1)))) (st) (h) Q) := (WP_at c_S_mixNode_59 _ _ _ _)
theorem c_S_mixNode_62 : mCode j_S_mixNode 62 = oGo 37 := rfl
theorem e_S_mixNode_62  : (WP Gm j_S_mixNode 62 (ls) (st) h Q) = (WP Gm j_S_mixNode 37 (ls) (st) (h) Q) := (WP_at c_S_mixNode_62 _ _ _ _)
theorem c_S_mixNode_65 : mCode j_S_mixNode 65 = oI 0 66 := rfl
theorem e_S_mixNode_65  : (WP Gm j_S_mixNode 65 (ls) (st) h Q) = (WP Gm j_S_mixNode 66 (ls) (.inl 0 :: st) (h) Q) := (WP_at c_S_mixNode_65 _ _ _ _)
theorem c_S_mixNode_66 : mCode j_S_mixNode 66 = oIst 6 68 := rfl
theorem e_S_mixNode_66 (x : Int32) : (WP Gm j_S_mixNode 66 (ls) (.inl x :: st) h Q) = (WP Gm j_S_mixNode 68 (lSet1 ls 6 (some (.inl x))) (st) (h) Q) := (WP_at c_S_mixNode_66 _ _ _ _)
theorem c_S_mixNode_68 : mCode j_S_mixNode 68 = oIld 6 70 := rfl
theorem e_S_mixNode_68 (a0 a1 a2 a3 a4 a5 : Option MV) (x : Int32) : (WP Gm j_S_mixNode 68 (a0 :: a1 :: a2 :: a3 :: a4 :: a5 :: some (.inl x) :: ls) (st) h Q) = (WP Gm j_S_mixNode 70 (a0 :: a1 :: a2 :: a3 :: a4 :: a5 :: some (.inl x) :: ls) (.inl x :: st) (h) Q) := (WP_at c_S_mixNode_68 _ _ _ _)
theorem c_S_mixNode_70 : mCode j_S_mixNode 70 = oAld 0 71 := rfl
theorem e_S_mixNode_70 (x : Option Nat) : (WP Gm j_S_mixNode 70 (some (.inr (.inl x)) :: ls) (st) h Q) = (WP Gm j_S_mixNode 71 (some (.inr (.inl x)) :: ls) (.inr (.inl x) :: st) (h) Q) := (WP_at c_S_mixNode_70 _ _ _ _)
theorem c_S_mixNode_71 : mCode j_S_mixNode 71 = oGetR kc_S 0 74 := rfl
theorem e_S_mixNode_71 (a : Nat) (hk : isK h a kc_S = true) : (WP Gm j_S_mixNode 71 (ls) (.inr (.inl (some a)) :: st) h Q) = (WP Gm j_S_mixNode 74 (ls) (.inr (.inl (gR h a 0)) :: st) (h) Q) := (WP_at c_S_mixNode_71 _ _ _ _).trans (congrArg (fun o => ndX Gm (WP Gm) j_S_mixNode 71 o Q) (if_pos hk))
theorem c_S_mixNode_74 : mCode j_S_mixNode 74 = oGetI kc_Land 2 77 := rfl
theorem e_S_mixNode_74 (a : Nat) (hk : isK h a kc_Land = true) : (WP Gm j_S_mixNode 74 (ls) (.inr (.inl (some a)) :: st) h Q) = (WP Gm j_S_mixNode 77 (ls) (.inl (gI h a 2) :: st) (h) Q) := (WP_at c_S_mixNode_74 _ _ _ _).trans (congrArg (fun o => ndX Gm (WP Gm) j_S_mixNode 74 o Q) (if_pos hk))
theorem c_S_mixNode_77 : mCode j_S_mixNode 77 = oIC (fun x y => decide (y ≤ x)) 124 80 := rfl
theorem e_S_mixNode_77 (x y : Int32) : (WP Gm j_S_mixNode 77 (ls) (.inl y :: .inl x :: st) h Q) = (if y ≤ x then WP Gm j_S_mixNode 124 (ls) (st) (h) Q else WP Gm j_S_mixNode 80 (ls) (st) (h) Q) := (WP_at c_S_mixNode_77 _ _ _ _).trans (nd_ic rfl _ _ _ _)
theorem c_S_mixNode_80 : mCode j_S_mixNode 80 = oI 0 81 := rfl
theorem e_S_mixNode_80  : (WP Gm j_S_mixNode 80 (ls) (st) h Q) = (WP Gm j_S_mixNode 81 (ls) (.inl 0 :: st) (h) Q) := (WP_at c_S_mixNode_80 _ _ _ _)
theorem c_S_mixNode_81 : mCode j_S_mixNode 81 = oIst 7 83 := rfl
theorem e_S_mixNode_81 (x : Int32) : (WP Gm j_S_mixNode 81 (ls) (.inl x :: st) h Q) = (WP Gm j_S_mixNode 83 (lSet1 ls 7 (some (.inl x))) (st) (h) Q) := (WP_at c_S_mixNode_81 _ _ _ _)
theorem c_S_mixNode_83 : mCode j_S_mixNode 83 = oIld 7 85 := rfl
theorem e_S_mixNode_83 (a0 a1 a2 a3 a4 a5 a6 : Option MV) (x : Int32) : (WP Gm j_S_mixNode 83 (a0 :: a1 :: a2 :: a3 :: a4 :: a5 :: a6 :: some (.inl x) :: ls) (st) h Q) = (WP Gm j_S_mixNode 85 (a0 :: a1 :: a2 :: a3 :: a4 :: a5 :: a6 :: some (.inl x) :: ls) (.inl x :: st) (h) Q) := (WP_at c_S_mixNode_83 _ _ _ _)
theorem c_S_mixNode_85 : mCode j_S_mixNode 85 = oI 3 86 := rfl
theorem e_S_mixNode_85  : (WP Gm j_S_mixNode 85 (ls) (st) h Q) = (WP Gm j_S_mixNode 86 (ls) (.inl 3 :: st) (h) Q) := (WP_at c_S_mixNode_85 _ _ _ _)
theorem c_S_mixNode_86 : mCode j_S_mixNode 86 = oIC (fun x y => decide (y < x)) 118 89 := rfl
theorem e_S_mixNode_86 (x y : Int32) : (WP Gm j_S_mixNode 86 (ls) (.inl y :: .inl x :: st) h Q) = (if y < x then WP Gm j_S_mixNode 118 (ls) (st) (h) Q else WP Gm j_S_mixNode 89 (ls) (st) (h) Q) := (WP_at c_S_mixNode_86 _ _ _ _).trans (nd_ic rfl _ _ _ _)
theorem c_S_mixNode_89 : mCode j_S_mixNode 89 = oIld 6 91 := rfl
theorem e_S_mixNode_89 (a0 a1 a2 a3 a4 a5 : Option MV) (x : Int32) : (WP Gm j_S_mixNode 89 (a0 :: a1 :: a2 :: a3 :: a4 :: a5 :: some (.inl x) :: ls) (st) h Q) = (WP Gm j_S_mixNode 91 (a0 :: a1 :: a2 :: a3 :: a4 :: a5 :: some (.inl x) :: ls) (.inl x :: st) (h) Q) := (WP_at c_S_mixNode_89 _ _ _ _)
theorem c_S_mixNode_91 : mCode j_S_mixNode 91 = oIld 3 92 := rfl
theorem e_S_mixNode_91 (a0 a1 a2 : Option MV) (x : Int32) : (WP Gm j_S_mixNode 91 (a0 :: a1 :: a2 :: some (.inl x) :: ls) (st) h Q) = (WP Gm j_S_mixNode 92 (a0 :: a1 :: a2 :: some (.inl x) :: ls) (.inl x :: st) (h) Q) := (WP_at c_S_mixNode_91 _ _ _ _)
theorem c_S_mixNode_92 : mCode j_S_mixNode 92 = oIC (fun x y => decide (x = y)) 118 95 := rfl
theorem e_S_mixNode_92 (x y : Int32) : (WP Gm j_S_mixNode 92 (ls) (.inl y :: .inl x :: st) h Q) = (if x = y then WP Gm j_S_mixNode 118 (ls) (st) (h) Q else WP Gm j_S_mixNode 95 (ls) (st) (h) Q) := (WP_at c_S_mixNode_92 _ _ _ _).trans (nd_ic rfl _ _ _ _)
theorem c_S_mixNode_95 : mCode j_S_mixNode 95 = oLld 4 97 := rfl
theorem e_S_mixNode_95 (a0 a1 a2 a3 : Option MV) (x : Int64) : (WP Gm j_S_mixNode 95 (a0 :: a1 :: a2 :: a3 :: some (.inr (.inr (.inl x))) :: ls) (st) h Q) = (WP Gm j_S_mixNode 97 (a0 :: a1 :: a2 :: a3 :: some (.inr (.inr (.inl x))) :: ls) (.inr (.inr (.inl x)) :: st) (h) Q) := (WP_at c_S_mixNode_95 _ _ _ _)
theorem c_S_mixNode_97 : mCode j_S_mixNode 97 = oAld 0 98 := rfl
theorem e_S_mixNode_97 (x : Option Nat) : (WP Gm j_S_mixNode 97 (some (.inr (.inl x)) :: ls) (st) h Q) = (WP Gm j_S_mixNode 98 (some (.inr (.inl x)) :: ls) (.inr (.inl x) :: st) (h) Q) := (WP_at c_S_mixNode_97 _ _ _ _)
theorem c_S_mixNode_98 : mCode j_S_mixNode 98 = oIld 3 99 := rfl
theorem e_S_mixNode_98 (a0 a1 a2 : Option MV) (x : Int32) : (WP Gm j_S_mixNode 98 (a0 :: a1 :: a2 :: some (.inl x) :: ls) (st) h Q) = (WP Gm j_S_mixNode 99 (a0 :: a1 :: a2 :: some (.inl x) :: ls) (.inl x :: st) (h) Q) := (WP_at c_S_mixNode_98 _ _ _ _)
theorem c_S_mixNode_99 : mCode j_S_mixNode 99 = oIld 6 101 := rfl
theorem e_S_mixNode_99 (a0 a1 a2 a3 a4 a5 : Option MV) (x : Int32) : (WP Gm j_S_mixNode 99 (a0 :: a1 :: a2 :: a3 :: a4 :: a5 :: some (.inl x) :: ls) (st) h Q) = (WP Gm j_S_mixNode 101 (a0 :: a1 :: a2 :: a3 :: a4 :: a5 :: some (.inl x) :: ls) (.inl x :: st) (h) Q) := (WP_at c_S_mixNode_99 _ _ _ _)
theorem c_S_mixNode_101 : mCode j_S_mixNode 101 = oIld 7 103 := rfl
theorem e_S_mixNode_101 (a0 a1 a2 a3 a4 a5 a6 : Option MV) (x : Int32) : (WP Gm j_S_mixNode 101 (a0 :: a1 :: a2 :: a3 :: a4 :: a5 :: a6 :: some (.inl x) :: ls) (st) h Q) = (WP Gm j_S_mixNode 103 (a0 :: a1 :: a2 :: a3 :: a4 :: a5 :: a6 :: some (.inl x) :: ls) (.inl x :: st) (h) Q) := (WP_at c_S_mixNode_101 _ _ _ _)
theorem c_S_mixNode_103 : mCode j_S_mixNode 103 = oCallV kc_S j_S_route 3 (mL j_S_route) 106 := rfl
theorem e_S_mixNode_103 (a : Nat) (x0 : Int32) (x1 : Int32) (x2 : Int32) (hk : isK h a kc_S = true) (hc : c8 st = true) : (WP Gm j_S_mixNode 103 (ls) (.inl x2 :: .inl x1 :: .inl x0 :: .inr (.inl (some a)) :: st) h Q) = (WP Gm j_S_route 0 [some (.inr (.inl (some a))), some (.inl x0), some (.inl x1), some (.inl x2)] [] h (kC (fun v h2 => WP Gm j_S_mixNode 106 ls (v.toList ++ st) h2 Q) (fun E h2 => Q (.inr E) h2))) := (WP_at c_S_mixNode_103 _ _ _ _).trans (congrArg (fun o => ndX Gm (WP Gm) j_S_mixNode 103 o Q) (if_pos (by rw [hk, show decide (catS st ≤ 8) = true from hc]; rfl)))
theorem c_S_mixNode_106 : mCode j_S_mixNode 106 = oI2L 107 := rfl
theorem e_S_mixNode_106 (x : Int32) : (WP Gm j_S_mixNode 106 (ls) (.inl x :: st) h Q) = (WP Gm j_S_mixNode 107 (ls) (.inr (.inr (.inl x.toInt64)) :: st) (h) Q) := (WP_at c_S_mixNode_106 _ _ _ _)
theorem c_S_mixNode_107 : mCode j_S_mixNode 107 = oCallS j_S_mix 2 (mL j_S_mix) 110 := rfl
theorem e_S_mixNode_107 (x0 : Int64) (x1 : Int64) (hc : c8 st = true) : (WP Gm j_S_mixNode 107 (ls) (.inr (.inr (.inl x1)) :: .inr (.inr (.inl x0)) :: st) h Q) = (WP Gm j_S_mix 0 [some (.inr (.inr (.inl x0))), none, some (.inr (.inr (.inl x1))), none] [] h (kC (fun v h2 => WP Gm j_S_mixNode 110 ls (v.toList ++ st) h2 Q) (fun E h2 => Q (.inr E) h2))) := (WP_at c_S_mixNode_107 _ _ _ _).trans (congrArg (fun o => ndX Gm (WP Gm) j_S_mixNode 107 o Q) (if_pos (by rw [show decide (catS st ≤ 8) = true from hc]; rfl)))
theorem c_S_mixNode_110 : mCode j_S_mixNode 110 = oLst 4 112 := rfl
theorem e_S_mixNode_110 (x : Int64) : (WP Gm j_S_mixNode 110 (ls) (.inr (.inr (.inl x)) :: st) h Q) = (WP Gm j_S_mixNode 112 (lSet2 ls 4 (.inr (.inr (.inl x)))) (st) (h) Q) := (WP_at c_S_mixNode_110 _ _ _ _)
theorem c_S_mixNode_112 : mCode j_S_mixNode 112 = oInc 7 1 115 := rfl
theorem e_S_mixNode_112 (a0 a1 a2 a3 a4 a5 a6 : Option MV) (x : Int32) : (WP Gm j_S_mixNode 112 (a0 :: a1 :: a2 :: a3 :: a4 :: a5 :: a6 :: some (.inl x) :: ls) (st) h Q) = (WP Gm j_S_mixNode 115 (lSet1 (a0 :: a1 :: a2 :: a3 :: a4 :: a5 :: a6 :: some (.inl x) :: ls) 7 (some (.inl (x + 1)))) (st) (h) Q) := (WP_at c_S_mixNode_112 _ _ _ _)
theorem c_S_mixNode_115 : mCode j_S_mixNode 115 = oGo 83 := rfl
theorem e_S_mixNode_115  : (WP Gm j_S_mixNode 115 (ls) (st) h Q) = (WP Gm j_S_mixNode 83 (ls) (st) (h) Q) := (WP_at c_S_mixNode_115 _ _ _ _)
theorem c_S_mixNode_118 : mCode j_S_mixNode 118 = oInc 6 1 121 := rfl
theorem e_S_mixNode_118 (a0 a1 a2 a3 a4 a5 : Option MV) (x : Int32) : (WP Gm j_S_mixNode 118 (a0 :: a1 :: a2 :: a3 :: a4 :: a5 :: some (.inl x) :: ls) (st) h Q) = (WP Gm j_S_mixNode 121 (lSet1 (a0 :: a1 :: a2 :: a3 :: a4 :: a5 :: some (.inl x) :: ls) 6 (some (.inl (x + 1)))) (st) (h) Q) := (WP_at c_S_mixNode_118 _ _ _ _)
theorem c_S_mixNode_121 : mCode j_S_mixNode 121 = oGo 68 := rfl
theorem e_S_mixNode_121  : (WP Gm j_S_mixNode 121 (ls) (st) h Q) = (WP Gm j_S_mixNode 68 (ls) (st) (h) Q) := (WP_at c_S_mixNode_121 _ _ _ _)
theorem c_S_mixNode_124 : mCode j_S_mixNode 124 = oLld 4 126 := rfl
theorem e_S_mixNode_124 (a0 a1 a2 a3 : Option MV) (x : Int64) : (WP Gm j_S_mixNode 124 (a0 :: a1 :: a2 :: a3 :: some (.inr (.inr (.inl x))) :: ls) (st) h Q) = (WP Gm j_S_mixNode 126 (a0 :: a1 :: a2 :: a3 :: some (.inr (.inr (.inl x))) :: ls) (.inr (.inr (.inl x)) :: st) (h) Q) := (WP_at c_S_mixNode_124 _ _ _ _)
theorem c_S_mixNode_126 : mCode j_S_mixNode 126 = oRetL := rfl
theorem e_S_mixNode_126 (x : Int64) : (WP Gm j_S_mixNode 126 (ls) ([.inr (.inr (.inl x))]) h Q) = (Q (.inl (some (.inr (.inr (.inl x))))) h) := (WP_at c_S_mixNode_126 _ _ _ _)
theorem c_S_mix_0 : mCode j_S_mix 0 = oLld 0 1 := rfl
theorem e_S_mix_0 (x : Int64) : (WP Gm j_S_mix 0 (some (.inr (.inr (.inl x))) :: ls) (st) h Q) = (WP Gm j_S_mix 1 (some (.inr (.inr (.inl x))) :: ls) (.inr (.inr (.inl x)) :: st) (h) Q) := (WP_at c_S_mix_0 _ _ _ _)
theorem c_S_mix_1 : mCode j_S_mix 1 = oJ 31 4 := rfl
theorem e_S_mix_1  : (WP Gm j_S_mix 1 (ls) (st) h Q) = (WP Gm j_S_mix 4 (ls) (.inr (.inr (.inl 31)) :: st) (h) Q) := (WP_at c_S_mix_1 _ _ _ _)
theorem c_S_mix_4 : mCode j_S_mix 4 = oLL (fun x y => x * y) 5 := rfl
theorem e_S_mix_4 (x : Int64) (y : Int64) : (WP Gm j_S_mix 4 (ls) (.inr (.inr (.inl y)) :: .inr (.inr (.inl x)) :: st) h Q) = (WP Gm j_S_mix 5 (ls) (.inr (.inr (.inl (x * y))) :: st) (h) Q) := (WP_at c_S_mix_4 _ _ _ _)
theorem c_S_mix_5 : mCode j_S_mix 5 = oLld 2 6 := rfl
theorem e_S_mix_5 (a0 a1 : Option MV) (x : Int64) : (WP Gm j_S_mix 5 (a0 :: a1 :: some (.inr (.inr (.inl x))) :: ls) (st) h Q) = (WP Gm j_S_mix 6 (a0 :: a1 :: some (.inr (.inr (.inl x))) :: ls) (.inr (.inr (.inl x)) :: st) (h) Q) := (WP_at c_S_mix_5 _ _ _ _)
theorem c_S_mix_6 : mCode j_S_mix 6 = oLL (fun x y => x + y) 7 := rfl
theorem e_S_mix_6 (x : Int64) (y : Int64) : (WP Gm j_S_mix 6 (ls) (.inr (.inr (.inl y)) :: .inr (.inr (.inl x)) :: st) h Q) = (WP Gm j_S_mix 7 (ls) (.inr (.inr (.inl (x + y))) :: st) (h) Q) := (WP_at c_S_mix_6 _ _ _ _)
theorem c_S_mix_7 : mCode j_S_mix 7 = oRetL := rfl
theorem e_S_mix_7 (x : Int64) : (WP Gm j_S_mix 7 (ls) ([.inr (.inr (.inl x))]) h Q) = (Q (.inl (some (.inr (.inr (.inl x))))) h) := (WP_at c_S_mix_7 _ _ _ _)
theorem c_S_checkNode_0 : mCode j_S_checkNode 0 = oAld 0 1 := rfl
theorem e_S_checkNode_0 (x : Option Nat) : (WP Gm j_S_checkNode 0 (some (.inr (.inl x)) :: ls) (st) h Q) = (WP Gm j_S_checkNode 1 (some (.inr (.inl x)) :: ls) (.inr (.inl x) :: st) (h) Q) := (WP_at c_S_checkNode_0 _ _ _ _)
theorem c_S_checkNode_1 : mCode j_S_checkNode 1 = oGetR kc_S 0 4 := rfl
theorem e_S_checkNode_1 (a : Nat) (hk : isK h a kc_S = true) : (WP Gm j_S_checkNode 1 (ls) (.inr (.inl (some a)) :: st) h Q) = (WP Gm j_S_checkNode 4 (ls) (.inr (.inl (gR h a 0)) :: st) (h) Q) := (WP_at c_S_checkNode_1 _ _ _ _).trans (congrArg (fun o => ndX Gm (WP Gm) j_S_checkNode 1 o Q) (if_pos hk))
theorem c_S_checkNode_4 : mCode j_S_checkNode 4 = oIld 1 5 := rfl
theorem e_S_checkNode_4 (a0 : Option MV) (x : Int32) : (WP Gm j_S_checkNode 4 (a0 :: some (.inl x) :: ls) (st) h Q) = (WP Gm j_S_checkNode 5 (a0 :: some (.inl x) :: ls) (.inl x :: st) (h) Q) := (WP_at c_S_checkNode_4 _ _ _ _)
theorem c_S_checkNode_5 : mCode j_S_checkNode 5 = oCallV kc_Land j_Land_isNode 1 (mL j_Land_isNode) 8 := rfl
theorem e_S_checkNode_5 (a : Nat) (x0 : Int32) (hk : isK h a kc_Land = true) (hc : c8 st = true) : (WP Gm j_S_checkNode 5 (ls) (.inl x0 :: .inr (.inl (some a)) :: st) h Q) = (WP Gm j_Land_isNode 0 [some (.inr (.inl (some a))), some (.inl x0)] [] h (kC (fun v h2 => WP Gm j_S_checkNode 8 ls (v.toList ++ st) h2 Q) (fun E h2 => Q (.inr E) h2))) := (WP_at c_S_checkNode_5 _ _ _ _).trans (congrArg (fun o => ndX Gm (WP Gm) j_S_checkNode 5 o Q) (if_pos (by rw [hk, show decide (catS st ≤ 8) = true from hc]; rfl)))
theorem c_S_checkNode_8 : mCode j_S_checkNode 8 = oIf (fun x => decide (¬ x = 0)) 22 11 := rfl
theorem e_S_checkNode_8 (x : Int32) : (WP Gm j_S_checkNode 8 (ls) (.inl x :: st) h Q) = (if ¬ x = 0 then WP Gm j_S_checkNode 22 (ls) (st) (h) Q else WP Gm j_S_checkNode 11 (ls) (st) (h) Q) := (WP_at c_S_checkNode_8 _ _ _ _).trans (nd_if rfl _ _ _ _)
theorem c_S_checkNode_11 : mCode j_S_checkNode 11 = oThr cM sM 2 kc_IndexOutOfBoundsException := rfl
theorem e_S_checkNode_11 (hr : okR cM sM h 1 6 = true) : (WP Gm j_S_checkNode 11 (ls) ([]) h Q) = (Q (.inr 2) (hN h kc_IndexOutOfBoundsException 0 6)) := (WP_at c_S_checkNode_11 _ _ _ _).trans (congrArg (fun o => ndX Gm (WP Gm) j_S_checkNode 11 o Q) (if_pos hr))
theorem c_S_checkNode_22 : mCode j_S_checkNode 22 = oRet := rfl
theorem e_S_checkNode_22  : (WP Gm j_S_checkNode 22 (ls) ([]) h Q) = (Q (.inl none) h) := (WP_at c_S_checkNode_22 _ _ _ _)
theorem c_S_checkPair_0 : mCode j_S_checkPair 0 = oAld 0 1 := rfl
theorem e_S_checkPair_0 (x : Option Nat) : (WP Gm j_S_checkPair 0 (some (.inr (.inl x)) :: ls) (st) h Q) = (WP Gm j_S_checkPair 1 (some (.inr (.inl x)) :: ls) (.inr (.inl x) :: st) (h) Q) := (WP_at c_S_checkPair_0 _ _ _ _)
theorem c_S_checkPair_1 : mCode j_S_checkPair 1 = oIld 1 2 := rfl
theorem e_S_checkPair_1 (a0 : Option MV) (x : Int32) : (WP Gm j_S_checkPair 1 (a0 :: some (.inl x) :: ls) (st) h Q) = (WP Gm j_S_checkPair 2 (a0 :: some (.inl x) :: ls) (.inl x :: st) (h) Q) := (WP_at c_S_checkPair_1 _ _ _ _)
theorem c_S_checkPair_2 : mCode j_S_checkPair 2 = oCallV kc_S j_S_checkNode 1 (mL j_S_checkNode) 5 := rfl
theorem e_S_checkPair_2 (a : Nat) (x0 : Int32) (hk : isK h a kc_S = true) (hc : c8 st = true) : (WP Gm j_S_checkPair 2 (ls) (.inl x0 :: .inr (.inl (some a)) :: st) h Q) = (WP Gm j_S_checkNode 0 [some (.inr (.inl (some a))), some (.inl x0)] [] h (kC (fun v h2 => WP Gm j_S_checkPair 5 ls (v.toList ++ st) h2 Q) (fun E h2 => Q (.inr E) h2))) := (WP_at c_S_checkPair_2 _ _ _ _).trans (congrArg (fun o => ndX Gm (WP Gm) j_S_checkPair 2 o Q) (if_pos (by rw [hk, show decide (catS st ≤ 8) = true from hc]; rfl)))
theorem c_S_checkPair_5 : mCode j_S_checkPair 5 = oAld 0 6 := rfl
theorem e_S_checkPair_5 (x : Option Nat) : (WP Gm j_S_checkPair 5 (some (.inr (.inl x)) :: ls) (st) h Q) = (WP Gm j_S_checkPair 6 (some (.inr (.inl x)) :: ls) (.inr (.inl x) :: st) (h) Q) := (WP_at c_S_checkPair_5 _ _ _ _)
theorem c_S_checkPair_6 : mCode j_S_checkPair 6 = oIld 2 7 := rfl
theorem e_S_checkPair_6 (a0 a1 : Option MV) (x : Int32) : (WP Gm j_S_checkPair 6 (a0 :: a1 :: some (.inl x) :: ls) (st) h Q) = (WP Gm j_S_checkPair 7 (a0 :: a1 :: some (.inl x) :: ls) (.inl x :: st) (h) Q) := (WP_at c_S_checkPair_6 _ _ _ _)
theorem c_S_checkPair_7 : mCode j_S_checkPair 7 = oCallV kc_S j_S_checkNode 1 (mL j_S_checkNode) 10 := rfl
theorem e_S_checkPair_7 (a : Nat) (x0 : Int32) (hk : isK h a kc_S = true) (hc : c8 st = true) : (WP Gm j_S_checkPair 7 (ls) (.inl x0 :: .inr (.inl (some a)) :: st) h Q) = (WP Gm j_S_checkNode 0 [some (.inr (.inl (some a))), some (.inl x0)] [] h (kC (fun v h2 => WP Gm j_S_checkPair 10 ls (v.toList ++ st) h2 Q) (fun E h2 => Q (.inr E) h2))) := (WP_at c_S_checkPair_7 _ _ _ _).trans (congrArg (fun o => ndX Gm (WP Gm) j_S_checkPair 7 o Q) (if_pos (by rw [hk, show decide (catS st ≤ 8) = true from hc]; rfl)))
theorem c_S_checkPair_10 : mCode j_S_checkPair 10 = oIld 1 11 := rfl
theorem e_S_checkPair_10 (a0 : Option MV) (x : Int32) : (WP Gm j_S_checkPair 10 (a0 :: some (.inl x) :: ls) (st) h Q) = (WP Gm j_S_checkPair 11 (a0 :: some (.inl x) :: ls) (.inl x :: st) (h) Q) := (WP_at c_S_checkPair_10 _ _ _ _)
theorem c_S_checkPair_11 : mCode j_S_checkPair 11 = oIld 2 12 := rfl
theorem e_S_checkPair_11 (a0 a1 : Option MV) (x : Int32) : (WP Gm j_S_checkPair 11 (a0 :: a1 :: some (.inl x) :: ls) (st) h Q) = (WP Gm j_S_checkPair 12 (a0 :: a1 :: some (.inl x) :: ls) (.inl x :: st) (h) Q) := (WP_at c_S_checkPair_11 _ _ _ _)
theorem c_S_checkPair_12 : mCode j_S_checkPair 12 = oIC (fun x y => decide (¬ x = y)) 26 15 := rfl
theorem e_S_checkPair_12 (x y : Int32) : (WP Gm j_S_checkPair 12 (ls) (.inl y :: .inl x :: st) h Q) = (if ¬ x = y then WP Gm j_S_checkPair 26 (ls) (st) (h) Q else WP Gm j_S_checkPair 15 (ls) (st) (h) Q) := (WP_at c_S_checkPair_12 _ _ _ _).trans (nd_ic rfl _ _ _ _)
theorem c_S_checkPair_15 : mCode j_S_checkPair 15 = oThr cM sM 0 kc_IllegalArgumentException := rfl
theorem e_S_checkPair_15 (hr : okR cM sM h 1 6 = true) : (WP Gm j_S_checkPair 15 (ls) ([]) h Q) = (Q (.inr 0) (hN h kc_IllegalArgumentException 0 6)) := (WP_at c_S_checkPair_15 _ _ _ _).trans (congrArg (fun o => ndX Gm (WP Gm) j_S_checkPair 15 o Q) (if_pos hr))
theorem c_S_checkPair_26 : mCode j_S_checkPair 26 = oRet := rfl
theorem e_S_checkPair_26  : (WP Gm j_S_checkPair 26 (ls) ([]) h Q) = (Q (.inl none) h) := (WP_at c_S_checkPair_26 _ _ _ _)
theorem c_S_checkSilent_0 : mCode j_S_checkSilent 0 = oAld 0 1 := rfl
theorem e_S_checkSilent_0 (x : Option Nat) : (WP Gm j_S_checkSilent 0 (some (.inr (.inl x)) :: ls) (st) h Q) = (WP Gm j_S_checkSilent 1 (some (.inr (.inl x)) :: ls) (.inr (.inl x) :: st) (h) Q) := (WP_at c_S_checkSilent_0 _ _ _ _)
theorem c_S_checkSilent_1 : mCode j_S_checkSilent 1 = oGetR kc_S 0 4 := rfl
theorem e_S_checkSilent_1 (a : Nat) (hk : isK h a kc_S = true) : (WP Gm j_S_checkSilent 1 (ls) (.inr (.inl (some a)) :: st) h Q) = (WP Gm j_S_checkSilent 4 (ls) (.inr (.inl (gR h a 0)) :: st) (h) Q) := (WP_at c_S_checkSilent_1 _ _ _ _).trans (congrArg (fun o => ndX Gm (WP Gm) j_S_checkSilent 1 o Q) (if_pos hk))
theorem c_S_checkSilent_4 : mCode j_S_checkSilent 4 = oGetR kc_Land 0 7 := rfl
theorem e_S_checkSilent_4 (a : Nat) (hk : isK h a kc_Land = true) : (WP Gm j_S_checkSilent 4 (ls) (.inr (.inl (some a)) :: st) h Q) = (WP Gm j_S_checkSilent 7 (ls) (.inr (.inl (gR h a 0)) :: st) (h) Q) := (WP_at c_S_checkSilent_4 _ _ _ _).trans (congrArg (fun o => ndX Gm (WP Gm) j_S_checkSilent 4 o Q) (if_pos hk))
theorem c_S_checkSilent_7 : mCode j_S_checkSilent 7 = oIld 1 8 := rfl
theorem e_S_checkSilent_7 (a0 : Option MV) (x : Int32) : (WP Gm j_S_checkSilent 7 (a0 :: some (.inl x) :: ls) (st) h Q) = (WP Gm j_S_checkSilent 8 (a0 :: some (.inl x) :: ls) (.inl x :: st) (h) Q) := (WP_at c_S_checkSilent_7 _ _ _ _)
theorem c_S_checkSilent_8 : mCode j_S_checkSilent 8 = oAal 2 9 := rfl
theorem e_S_checkSilent_8 (a : Nat) (i : Int32) (hk : isK h a 102 = true) (hi : inL h a i = true) : (WP Gm j_S_checkSilent 8 (ls) (.inl i :: .inr (.inl (some a)) :: st) h Q) = (WP Gm j_S_checkSilent 9 (ls) (.inr (.inl (gR h a i.toNatClampNeg)) :: st) (h) Q) := (WP_at c_S_checkSilent_8 _ _ _ _).trans (congrArg (fun o => ndX Gm (WP Gm) j_S_checkSilent 8 o Q) (if_pos (by rw [hk, hi]; rfl)))
theorem c_S_checkSilent_9 : mCode j_S_checkSilent 9 = oCallV kc_Node j_Node_isSending 0 (mL j_Node_isSending) 12 := rfl
theorem e_S_checkSilent_9 (a : Nat) (hk : isK h a kc_Node = true) (hc : c8 st = true) : (WP Gm j_S_checkSilent 9 (ls) (.inr (.inl (some a)) :: st) h Q) = (WP Gm j_Node_isSending 0 [some (.inr (.inl (some a)))] [] h (kC (fun v h2 => WP Gm j_S_checkSilent 12 ls (v.toList ++ st) h2 Q) (fun E h2 => Q (.inr E) h2))) := (WP_at c_S_checkSilent_9 _ _ _ _).trans (congrArg (fun o => ndX Gm (WP Gm) j_S_checkSilent 9 o Q) (if_pos (by rw [hk, show decide (catS st ≤ 8) = true from hc]; rfl)))
theorem c_S_checkSilent_12 : mCode j_S_checkSilent 12 = oIf (fun x => decide (x = 0)) 26 15 := rfl
theorem e_S_checkSilent_12 (x : Int32) : (WP Gm j_S_checkSilent 12 (ls) (.inl x :: st) h Q) = (if x = 0 then WP Gm j_S_checkSilent 26 (ls) (st) (h) Q else WP Gm j_S_checkSilent 15 (ls) (st) (h) Q) := (WP_at c_S_checkSilent_12 _ _ _ _).trans (nd_if rfl _ _ _ _)
theorem c_S_checkSilent_15 : mCode j_S_checkSilent 15 = oThr cM sM 1 kc_IllegalStateException := rfl
theorem e_S_checkSilent_15 (hr : okR cM sM h 1 6 = true) : (WP Gm j_S_checkSilent 15 (ls) ([]) h Q) = (Q (.inr 1) (hN h kc_IllegalStateException 0 6)) := (WP_at c_S_checkSilent_15 _ _ _ _).trans (congrArg (fun o => ndX Gm (WP Gm) j_S_checkSilent 15 o Q) (if_pos hr))
theorem c_S_checkSilent_26 : mCode j_S_checkSilent 26 = oRet := rfl
theorem e_S_checkSilent_26  : (WP Gm j_S_checkSilent 26 (ls) ([]) h Q) = (Q (.inl none) h) := (WP_at c_S_checkSilent_26 _ _ _ _)
theorem c_S_isWithin_0 : mCode j_S_isWithin 0 = oIld 0 1 := rfl
theorem e_S_isWithin_0 (x : Int32) : (WP Gm j_S_isWithin 0 (some (.inl x) :: ls) (st) h Q) = (WP Gm j_S_isWithin 1 (some (.inl x) :: ls) (.inl x :: st) (h) Q) := (WP_at c_S_isWithin_0 _ _ _ _)
theorem c_S_isWithin_1 : mCode j_S_isWithin 1 = oIld 1 2 := rfl
theorem e_S_isWithin_1 (a0 : Option MV) (x : Int32) : (WP Gm j_S_isWithin 1 (a0 :: some (.inl x) :: ls) (st) h Q) = (WP Gm j_S_isWithin 2 (a0 :: some (.inl x) :: ls) (.inl x :: st) (h) Q) := (WP_at c_S_isWithin_1 _ _ _ _)
theorem c_S_isWithin_2 : mCode j_S_isWithin 2 = oIC (fun x y => decide (x < y)) 14 5 := rfl
theorem e_S_isWithin_2 (x y : Int32) : (WP Gm j_S_isWithin 2 (ls) (.inl y :: .inl x :: st) h Q) = (if x < y then WP Gm j_S_isWithin 14 (ls) (st) (h) Q else WP Gm j_S_isWithin 5 (ls) (st) (h) Q) := (WP_at c_S_isWithin_2 _ _ _ _).trans (nd_ic rfl _ _ _ _)
theorem c_S_isWithin_5 : mCode j_S_isWithin 5 = oIld 0 6 := rfl
theorem e_S_isWithin_5 (x : Int32) : (WP Gm j_S_isWithin 5 (some (.inl x) :: ls) (st) h Q) = (WP Gm j_S_isWithin 6 (some (.inl x) :: ls) (.inl x :: st) (h) Q) := (WP_at c_S_isWithin_5 _ _ _ _)
theorem c_S_isWithin_6 : mCode j_S_isWithin 6 = oIld 2 7 := rfl
theorem e_S_isWithin_6 (a0 a1 : Option MV) (x : Int32) : (WP Gm j_S_isWithin 6 (a0 :: a1 :: some (.inl x) :: ls) (st) h Q) = (WP Gm j_S_isWithin 7 (a0 :: a1 :: some (.inl x) :: ls) (.inl x :: st) (h) Q) := (WP_at c_S_isWithin_6 _ _ _ _)
theorem c_S_isWithin_7 : mCode j_S_isWithin 7 = oIC (fun x y => decide (y < x)) 14 10 := rfl
theorem e_S_isWithin_7 (x y : Int32) : (WP Gm j_S_isWithin 7 (ls) (.inl y :: .inl x :: st) h Q) = (if y < x then WP Gm j_S_isWithin 14 (ls) (st) (h) Q else WP Gm j_S_isWithin 10 (ls) (st) (h) Q) := (WP_at c_S_isWithin_7 _ _ _ _).trans (nd_ic rfl _ _ _ _)
theorem c_S_isWithin_10 : mCode j_S_isWithin 10 = oI 1 11 := rfl
theorem e_S_isWithin_10  : (WP Gm j_S_isWithin 10 (ls) (st) h Q) = (WP Gm j_S_isWithin 11 (ls) (.inl 1 :: st) (h) Q) := (WP_at c_S_isWithin_10 _ _ _ _)
theorem c_S_isWithin_11 : mCode j_S_isWithin 11 = oGo 15 := rfl
theorem e_S_isWithin_11  : (WP Gm j_S_isWithin 11 (ls) (st) h Q) = (WP Gm j_S_isWithin 15 (ls) (st) (h) Q) := (WP_at c_S_isWithin_11 _ _ _ _)
theorem c_S_isWithin_14 : mCode j_S_isWithin 14 = oI 0 15 := rfl
theorem e_S_isWithin_14  : (WP Gm j_S_isWithin 14 (ls) (st) h Q) = (WP Gm j_S_isWithin 15 (ls) (.inl 0 :: st) (h) Q) := (WP_at c_S_isWithin_14 _ _ _ _)
theorem c_S_isWithin_15 : mCode j_S_isWithin 15 = oRetZ := rfl
theorem e_S_isWithin_15 (x : Int32) (hx : x = 0 ∨ x = 1) : (WP Gm j_S_isWithin 15 (ls) ([.inl x]) h Q) = (Q (.inl (some (.inl x))) h) := (WP_at c_S_isWithin_15 _ _ _ _).trans (congrArg (fun o => ndX Gm (WP Gm) j_S_isWithin 15 o Q) (if_pos (by rcases hx with rfl | rfl <;> rfl)))
theorem c_S_isPlace_0 : mCode j_S_isPlace 0 = oIld 0 1 := rfl
theorem e_S_isPlace_0 (x : Int32) : (WP Gm j_S_isPlace 0 (some (.inl x) :: ls) (st) h Q) = (WP Gm j_S_isPlace 1 (some (.inl x) :: ls) (.inl x :: st) (h) Q) := (WP_at c_S_isPlace_0 _ _ _ _)
theorem c_S_isPlace_1 : mCode j_S_isPlace 1 = oI 0 2 := rfl
theorem e_S_isPlace_1  : (WP Gm j_S_isPlace 1 (ls) (st) h Q) = (WP Gm j_S_isPlace 2 (ls) (.inl 0 :: st) (h) Q) := (WP_at c_S_isPlace_1 _ _ _ _)
theorem c_S_isPlace_2 : mCode j_S_isPlace 2 = oI 29 4 := rfl
theorem e_S_isPlace_2  : (WP Gm j_S_isPlace 2 (ls) (st) h Q) = (WP Gm j_S_isPlace 4 (ls) (.inl 29 :: st) (h) Q) := (WP_at c_S_isPlace_2 _ _ _ _)
theorem c_S_isPlace_4 : mCode j_S_isPlace 4 = oCallS j_S_isWithin 3 (mL j_S_isWithin) 7 := rfl
theorem e_S_isPlace_4 (x0 : Int32) (x1 : Int32) (x2 : Int32) (hc : c8 st = true) : (WP Gm j_S_isPlace 4 (ls) (.inl x2 :: .inl x1 :: .inl x0 :: st) h Q) = (WP Gm j_S_isWithin 0 [some (.inl x0), some (.inl x1), some (.inl x2)] [] h (kC (fun v h2 => WP Gm j_S_isPlace 7 ls (v.toList ++ st) h2 Q) (fun E h2 => Q (.inr E) h2))) := (WP_at c_S_isPlace_4 _ _ _ _).trans (congrArg (fun o => ndX Gm (WP Gm) j_S_isPlace 4 o Q) (if_pos (by rw [show decide (catS st ≤ 8) = true from hc]; rfl)))
theorem c_S_isPlace_7 : mCode j_S_isPlace 7 = oIf (fun x => decide (x = 0)) 24 10 := rfl
theorem e_S_isPlace_7 (x : Int32) : (WP Gm j_S_isPlace 7 (ls) (.inl x :: st) h Q) = (if x = 0 then WP Gm j_S_isPlace 24 (ls) (st) (h) Q else WP Gm j_S_isPlace 10 (ls) (st) (h) Q) := (WP_at c_S_isPlace_7 _ _ _ _).trans (nd_if rfl _ _ _ _)
theorem c_S_isPlace_10 : mCode j_S_isPlace 10 = oIld 1 11 := rfl
theorem e_S_isPlace_10 (a0 : Option MV) (x : Int32) : (WP Gm j_S_isPlace 10 (a0 :: some (.inl x) :: ls) (st) h Q) = (WP Gm j_S_isPlace 11 (a0 :: some (.inl x) :: ls) (.inl x :: st) (h) Q) := (WP_at c_S_isPlace_10 _ _ _ _)
theorem c_S_isPlace_11 : mCode j_S_isPlace 11 = oI 0 12 := rfl
theorem e_S_isPlace_11  : (WP Gm j_S_isPlace 11 (ls) (st) h Q) = (WP Gm j_S_isPlace 12 (ls) (.inl 0 :: st) (h) Q) := (WP_at c_S_isPlace_11 _ _ _ _)
theorem c_S_isPlace_12 : mCode j_S_isPlace 12 = oI 29 14 := rfl
theorem e_S_isPlace_12  : (WP Gm j_S_isPlace 12 (ls) (st) h Q) = (WP Gm j_S_isPlace 14 (ls) (.inl 29 :: st) (h) Q) := (WP_at c_S_isPlace_12 _ _ _ _)
theorem c_S_isPlace_14 : mCode j_S_isPlace 14 = oCallS j_S_isWithin 3 (mL j_S_isWithin) 17 := rfl
theorem e_S_isPlace_14 (x0 : Int32) (x1 : Int32) (x2 : Int32) (hc : c8 st = true) : (WP Gm j_S_isPlace 14 (ls) (.inl x2 :: .inl x1 :: .inl x0 :: st) h Q) = (WP Gm j_S_isWithin 0 [some (.inl x0), some (.inl x1), some (.inl x2)] [] h (kC (fun v h2 => WP Gm j_S_isPlace 17 ls (v.toList ++ st) h2 Q) (fun E h2 => Q (.inr E) h2))) := (WP_at c_S_isPlace_14 _ _ _ _).trans (congrArg (fun o => ndX Gm (WP Gm) j_S_isPlace 14 o Q) (if_pos (by rw [show decide (catS st ≤ 8) = true from hc]; rfl)))
theorem c_S_isPlace_17 : mCode j_S_isPlace 17 = oIf (fun x => decide (x = 0)) 24 20 := rfl
theorem e_S_isPlace_17 (x : Int32) : (WP Gm j_S_isPlace 17 (ls) (.inl x :: st) h Q) = (if x = 0 then WP Gm j_S_isPlace 24 (ls) (st) (h) Q else WP Gm j_S_isPlace 20 (ls) (st) (h) Q) := (WP_at c_S_isPlace_17 _ _ _ _).trans (nd_if rfl _ _ _ _)
theorem c_S_isPlace_20 : mCode j_S_isPlace 20 = oI 1 21 := rfl
theorem e_S_isPlace_20  : (WP Gm j_S_isPlace 20 (ls) (st) h Q) = (WP Gm j_S_isPlace 21 (ls) (.inl 1 :: st) (h) Q) := (WP_at c_S_isPlace_20 _ _ _ _)
theorem c_S_isPlace_21 : mCode j_S_isPlace 21 = oGo 25 := rfl
theorem e_S_isPlace_21  : (WP Gm j_S_isPlace 21 (ls) (st) h Q) = (WP Gm j_S_isPlace 25 (ls) (st) (h) Q) := (WP_at c_S_isPlace_21 _ _ _ _)
theorem c_S_isPlace_24 : mCode j_S_isPlace 24 = oI 0 25 := rfl
theorem e_S_isPlace_24  : (WP Gm j_S_isPlace 24 (ls) (st) h Q) = (WP Gm j_S_isPlace 25 (ls) (.inl 0 :: st) (h) Q) := (WP_at c_S_isPlace_24 _ _ _ _)
theorem c_S_isPlace_25 : mCode j_S_isPlace 25 = oRetZ := rfl
theorem e_S_isPlace_25 (x : Int32) (hx : x = 0 ∨ x = 1) : (WP Gm j_S_isPlace 25 (ls) ([.inl x]) h Q) = (Q (.inl (some (.inl x))) h) := (WP_at c_S_isPlace_25 _ _ _ _).trans (congrArg (fun o => ndX Gm (WP Gm) j_S_isPlace 25 o Q) (if_pos (by rcases hx with rfl | rfl <;> rfl)))
theorem c_S_isReach_0 : mCode j_S_isReach 0 = oIld 0 1 := rfl
theorem e_S_isReach_0 (x : Int32) : (WP Gm j_S_isReach 0 (some (.inl x) :: ls) (st) h Q) = (WP Gm j_S_isReach 1 (some (.inl x) :: ls) (.inl x :: st) (h) Q) := (WP_at c_S_isReach_0 _ _ _ _)
theorem c_S_isReach_1 : mCode j_S_isReach 1 = oI 1 2 := rfl
theorem e_S_isReach_1  : (WP Gm j_S_isReach 1 (ls) (st) h Q) = (WP Gm j_S_isReach 2 (ls) (.inl 1 :: st) (h) Q) := (WP_at c_S_isReach_1 _ _ _ _)
theorem c_S_isReach_2 : mCode j_S_isReach 2 = oI 42 4 := rfl
theorem e_S_isReach_2  : (WP Gm j_S_isReach 2 (ls) (st) h Q) = (WP Gm j_S_isReach 4 (ls) (.inl 42 :: st) (h) Q) := (WP_at c_S_isReach_2 _ _ _ _)
theorem c_S_isReach_4 : mCode j_S_isReach 4 = oCallS j_S_isWithin 3 (mL j_S_isWithin) 7 := rfl
theorem e_S_isReach_4 (x0 : Int32) (x1 : Int32) (x2 : Int32) (hc : c8 st = true) : (WP Gm j_S_isReach 4 (ls) (.inl x2 :: .inl x1 :: .inl x0 :: st) h Q) = (WP Gm j_S_isWithin 0 [some (.inl x0), some (.inl x1), some (.inl x2)] [] h (kC (fun v h2 => WP Gm j_S_isReach 7 ls (v.toList ++ st) h2 Q) (fun E h2 => Q (.inr E) h2))) := (WP_at c_S_isReach_4 _ _ _ _).trans (congrArg (fun o => ndX Gm (WP Gm) j_S_isReach 4 o Q) (if_pos (by rw [show decide (catS st ≤ 8) = true from hc]; rfl)))
theorem c_S_isReach_7 : mCode j_S_isReach 7 = oRetZ := rfl
theorem e_S_isReach_7 (x : Int32) (hx : x = 0 ∨ x = 1) : (WP Gm j_S_isReach 7 (ls) ([.inl x]) h Q) = (Q (.inl (some (.inl x))) h) := (WP_at c_S_isReach_7 _ _ _ _).trans (congrArg (fun o => ndX Gm (WP Gm) j_S_isReach 7 o Q) (if_pos (by rcases hx with rfl | rfl <;> rfl)))
theorem c_S_isIn_0 : mCode j_S_isIn 0 = oIld 0 1 := rfl
theorem e_S_isIn_0 (x : Int32) : (WP Gm j_S_isIn 0 (some (.inl x) :: ls) (st) h Q) = (WP Gm j_S_isIn 1 (some (.inl x) :: ls) (.inl x :: st) (h) Q) := (WP_at c_S_isIn_0 _ _ _ _)
theorem c_S_isIn_1 : mCode j_S_isIn 1 = oIld 1 2 := rfl
theorem e_S_isIn_1 (a0 : Option MV) (x : Int32) : (WP Gm j_S_isIn 1 (a0 :: some (.inl x) :: ls) (st) h Q) = (WP Gm j_S_isIn 2 (a0 :: some (.inl x) :: ls) (.inl x :: st) (h) Q) := (WP_at c_S_isIn_1 _ _ _ _)
theorem c_S_isIn_2 : mCode j_S_isIn 2 = oII (fun x y => x >>> (y &&& 31)) 3 := rfl
theorem e_S_isIn_2 (x : Int32) (y : Int32) : (WP Gm j_S_isIn 2 (ls) (.inl y :: .inl x :: st) h Q) = (WP Gm j_S_isIn 3 (ls) (.inl (x >>> (y &&& 31)) :: st) (h) Q) := (WP_at c_S_isIn_2 _ _ _ _)
theorem c_S_isIn_3 : mCode j_S_isIn 3 = oI 1 4 := rfl
theorem e_S_isIn_3  : (WP Gm j_S_isIn 3 (ls) (st) h Q) = (WP Gm j_S_isIn 4 (ls) (.inl 1 :: st) (h) Q) := (WP_at c_S_isIn_3 _ _ _ _)
theorem c_S_isIn_4 : mCode j_S_isIn 4 = oII (fun x y => x &&& y) 5 := rfl
theorem e_S_isIn_4 (x : Int32) (y : Int32) : (WP Gm j_S_isIn 4 (ls) (.inl y :: .inl x :: st) h Q) = (WP Gm j_S_isIn 5 (ls) (.inl (x &&& y) :: st) (h) Q) := (WP_at c_S_isIn_4 _ _ _ _)
theorem c_S_isIn_5 : mCode j_S_isIn 5 = oIf (fun x => decide (x = 0)) 12 8 := rfl
theorem e_S_isIn_5 (x : Int32) : (WP Gm j_S_isIn 5 (ls) (.inl x :: st) h Q) = (if x = 0 then WP Gm j_S_isIn 12 (ls) (st) (h) Q else WP Gm j_S_isIn 8 (ls) (st) (h) Q) := (WP_at c_S_isIn_5 _ _ _ _).trans (nd_if rfl _ _ _ _)
theorem c_S_isIn_8 : mCode j_S_isIn 8 = oI 1 9 := rfl
theorem e_S_isIn_8  : (WP Gm j_S_isIn 8 (ls) (st) h Q) = (WP Gm j_S_isIn 9 (ls) (.inl 1 :: st) (h) Q) := (WP_at c_S_isIn_8 _ _ _ _)
theorem c_S_isIn_9 : mCode j_S_isIn 9 = oGo 13 := rfl
theorem e_S_isIn_9  : (WP Gm j_S_isIn 9 (ls) (st) h Q) = (WP Gm j_S_isIn 13 (ls) (st) (h) Q) := (WP_at c_S_isIn_9 _ _ _ _)
theorem c_S_isIn_12 : mCode j_S_isIn 12 = oI 0 13 := rfl
theorem e_S_isIn_12  : (WP Gm j_S_isIn 12 (ls) (st) h Q) = (WP Gm j_S_isIn 13 (ls) (.inl 0 :: st) (h) Q) := (WP_at c_S_isIn_12 _ _ _ _)
theorem c_S_isIn_13 : mCode j_S_isIn 13 = oRetZ := rfl
theorem e_S_isIn_13 (x : Int32) (hx : x = 0 ∨ x = 1) : (WP Gm j_S_isIn 13 (ls) ([.inl x]) h Q) = (Q (.inl (some (.inl x))) h) := (WP_at c_S_isIn_13 _ _ _ _).trans (congrArg (fun o => ndX Gm (WP Gm) j_S_isIn 13 o Q) (if_pos (by rcases hx with rfl | rfl <;> rfl)))
theorem c_S_chanceOfOne_0 : mCode j_S_chanceOfOne 0 = oIld 0 1 := rfl
theorem e_S_chanceOfOne_0 (x : Int32) : (WP Gm j_S_chanceOfOne 0 (some (.inl x) :: ls) (st) h Q) = (WP Gm j_S_chanceOfOne 1 (some (.inl x) :: ls) (.inl x :: st) (h) Q) := (WP_at c_S_chanceOfOne_0 _ _ _ _)
theorem c_S_chanceOfOne_1 : mCode j_S_chanceOfOne 1 = oIld 1 2 := rfl
theorem e_S_chanceOfOne_1 (a0 : Option MV) (x : Int32) : (WP Gm j_S_chanceOfOne 1 (a0 :: some (.inl x) :: ls) (st) h Q) = (WP Gm j_S_chanceOfOne 2 (a0 :: some (.inl x) :: ls) (.inl x :: st) (h) Q) := (WP_at c_S_chanceOfOne_1 _ _ _ _)
theorem c_S_chanceOfOne_2 : mCode j_S_chanceOfOne 2 = oII (fun x y => x * y) 3 := rfl
theorem e_S_chanceOfOne_2 (x : Int32) (y : Int32) : (WP Gm j_S_chanceOfOne 2 (ls) (.inl y :: .inl x :: st) h Q) = (WP Gm j_S_chanceOfOne 3 (ls) (.inl (x * y) :: st) (h) Q) := (WP_at c_S_chanceOfOne_2 _ _ _ _)
theorem c_S_chanceOfOne_3 : mCode j_S_chanceOfOne 3 = oI2D 4 := rfl
theorem e_S_chanceOfOne_3 (x : Int32) : (WP Gm j_S_chanceOfOne 3 (ls) (.inl x :: st) h Q) = (WP Gm j_S_chanceOfOne 4 (ls) (.inr (.inr (.inr (FP.i2d x))) :: st) (h) Q) := (WP_at c_S_chanceOfOne_3 _ _ _ _)
theorem c_S_chanceOfOne_4 : mCode j_S_chanceOfOne 4 = oF 4636737291354636288 7 := rfl
theorem e_S_chanceOfOne_4  : (WP Gm j_S_chanceOfOne 4 (ls) (st) h Q) = (WP Gm j_S_chanceOfOne 7 (ls) (.inr (.inr (.inr 4636737291354636288)) :: st) (h) Q) := (WP_at c_S_chanceOfOne_4 _ _ _ _)
theorem c_S_chanceOfOne_7 : mCode j_S_chanceOfOne 7 = oDD FP.ddiv 8 := rfl
theorem e_S_chanceOfOne_7 (x : UInt64) (y : UInt64) (hy : okD (FP.ddiv x y) = true) : (WP Gm j_S_chanceOfOne 7 (ls) (.inr (.inr (.inr y)) :: .inr (.inr (.inr x)) :: st) h Q) = (WP Gm j_S_chanceOfOne 8 (ls) (.inr (.inr (.inr (FP.ddiv x y))) :: st) (h) Q) := (WP_at c_S_chanceOfOne_7 _ _ _ _).trans (congrArg (fun o => ndX Gm (WP Gm) j_S_chanceOfOne 7 o Q) (if_pos hy))
theorem c_S_chanceOfOne_8 : mCode j_S_chanceOfOne 8 = oDst 2 9 := rfl
theorem e_S_chanceOfOne_8 (x : UInt64) : (WP Gm j_S_chanceOfOne 8 (ls) (.inr (.inr (.inr x)) :: st) h Q) = (WP Gm j_S_chanceOfOne 9 (lSet2 ls 2 (.inr (.inr (.inr x)))) (st) (h) Q) := (WP_at c_S_chanceOfOne_8 _ _ _ _)
theorem c_S_chanceOfOne_9 : mCode j_S_chanceOfOne 9 = oI 100 11 := rfl
theorem e_S_chanceOfOne_9  : (WP Gm j_S_chanceOfOne 9 (ls) (st) h Q) = (WP Gm j_S_chanceOfOne 11 (ls) (.inl 100 :: st) (h) Q) := (WP_at c_S_chanceOfOne_9 _ _ _ _)
theorem c_S_chanceOfOne_11 : mCode j_S_chanceOfOne 11 = oIld 1 12 := rfl
theorem e_S_chanceOfOne_11 (a0 : Option MV) (x : Int32) : (WP Gm j_S_chanceOfOne 11 (a0 :: some (.inl x) :: ls) (st) h Q) = (WP Gm j_S_chanceOfOne 12 (a0 :: some (.inl x) :: ls) (.inl x :: st) (h) Q) := (WP_at c_S_chanceOfOne_11 _ _ _ _)
theorem c_S_chanceOfOne_12 : mCode j_S_chanceOfOne 12 = oII (fun x y => x - y) 13 := rfl
theorem e_S_chanceOfOne_12 (x : Int32) (y : Int32) : (WP Gm j_S_chanceOfOne 12 (ls) (.inl y :: .inl x :: st) h Q) = (WP Gm j_S_chanceOfOne 13 (ls) (.inl (x - y) :: st) (h) Q) := (WP_at c_S_chanceOfOne_12 _ _ _ _)
theorem c_S_chanceOfOne_13 : mCode j_S_chanceOfOne 13 = oI2D 14 := rfl
theorem e_S_chanceOfOne_13 (x : Int32) : (WP Gm j_S_chanceOfOne 13 (ls) (.inl x :: st) h Q) = (WP Gm j_S_chanceOfOne 14 (ls) (.inr (.inr (.inr (FP.i2d x))) :: st) (h) Q) := (WP_at c_S_chanceOfOne_13 _ _ _ _)
theorem c_S_chanceOfOne_14 : mCode j_S_chanceOfOne 14 = oF 4636737291354636288 17 := rfl
theorem e_S_chanceOfOne_14  : (WP Gm j_S_chanceOfOne 14 (ls) (st) h Q) = (WP Gm j_S_chanceOfOne 17 (ls) (.inr (.inr (.inr 4636737291354636288)) :: st) (h) Q) := (WP_at c_S_chanceOfOne_14 _ _ _ _)
theorem c_S_chanceOfOne_17 : mCode j_S_chanceOfOne 17 = oDD FP.ddiv 18 := rfl
theorem e_S_chanceOfOne_17 (x : UInt64) (y : UInt64) (hy : okD (FP.ddiv x y) = true) : (WP Gm j_S_chanceOfOne 17 (ls) (.inr (.inr (.inr y)) :: .inr (.inr (.inr x)) :: st) h Q) = (WP Gm j_S_chanceOfOne 18 (ls) (.inr (.inr (.inr (FP.ddiv x y))) :: st) (h) Q) := (WP_at c_S_chanceOfOne_17 _ _ _ _).trans (congrArg (fun o => ndX Gm (WP Gm) j_S_chanceOfOne 17 o Q) (if_pos hy))
theorem c_S_chanceOfOne_18 : mCode j_S_chanceOfOne 18 = oDst 4 20 := rfl
theorem e_S_chanceOfOne_18 (x : UInt64) : (WP Gm j_S_chanceOfOne 18 (ls) (.inr (.inr (.inr x)) :: st) h Q) = (WP Gm j_S_chanceOfOne 20 (lSet2 ls 4 (.inr (.inr (.inr x)))) (st) (h) Q) := (WP_at c_S_chanceOfOne_18 _ _ _ _)
theorem c_S_chanceOfOne_20 : mCode j_S_chanceOfOne 20 = oI 1 21 := rfl
theorem e_S_chanceOfOne_20  : (WP Gm j_S_chanceOfOne 20 (ls) (st) h Q) = (WP Gm j_S_chanceOfOne 21 (ls) (.inl 1 :: st) (h) Q) := (WP_at c_S_chanceOfOne_20 _ _ _ _)
theorem c_S_chanceOfOne_21 : mCode j_S_chanceOfOne 21 = oIst 6 23 := rfl
theorem e_S_chanceOfOne_21 (x : Int32) : (WP Gm j_S_chanceOfOne 21 (ls) (.inl x :: st) h Q) = (WP Gm j_S_chanceOfOne 23 (lSet1 ls 6 (some (.inl x))) (st) (h) Q) := (WP_at c_S_chanceOfOne_21 _ _ _ _)
theorem c_S_chanceOfOne_23 : mCode j_S_chanceOfOne 23 = oIld 6 25 := rfl
theorem e_S_chanceOfOne_23 (a0 a1 a2 a3 a4 a5 : Option MV) (x : Int32) : (WP Gm j_S_chanceOfOne 23 (a0 :: a1 :: a2 :: a3 :: a4 :: a5 :: some (.inl x) :: ls) (st) h Q) = (WP Gm j_S_chanceOfOne 25 (a0 :: a1 :: a2 :: a3 :: a4 :: a5 :: some (.inl x) :: ls) (.inl x :: st) (h) Q) := (WP_at c_S_chanceOfOne_23 _ _ _ _)
theorem c_S_chanceOfOne_25 : mCode j_S_chanceOfOne 25 = oIld 0 26 := rfl
theorem e_S_chanceOfOne_25 (x : Int32) : (WP Gm j_S_chanceOfOne 25 (some (.inl x) :: ls) (st) h Q) = (WP Gm j_S_chanceOfOne 26 (some (.inl x) :: ls) (.inl x :: st) (h) Q) := (WP_at c_S_chanceOfOne_25 _ _ _ _)
theorem c_S_chanceOfOne_26 : mCode j_S_chanceOfOne 26 = oIC (fun x y => decide (y ≤ x)) 40 29 := rfl
theorem e_S_chanceOfOne_26 (x y : Int32) : (WP Gm j_S_chanceOfOne 26 (ls) (.inl y :: .inl x :: st) h Q) = (if y ≤ x then WP Gm j_S_chanceOfOne 40 (ls) (st) (h) Q else WP Gm j_S_chanceOfOne 29 (ls) (st) (h) Q) := (WP_at c_S_chanceOfOne_26 _ _ _ _).trans (nd_ic rfl _ _ _ _)
theorem c_S_chanceOfOne_29 : mCode j_S_chanceOfOne 29 = oDld 2 30 := rfl
theorem e_S_chanceOfOne_29 (a0 a1 : Option MV) (x : UInt64) : (WP Gm j_S_chanceOfOne 29 (a0 :: a1 :: some (.inr (.inr (.inr x))) :: ls) (st) h Q) = (WP Gm j_S_chanceOfOne 30 (a0 :: a1 :: some (.inr (.inr (.inr x))) :: ls) (.inr (.inr (.inr x)) :: st) (h) Q) := (WP_at c_S_chanceOfOne_29 _ _ _ _)
theorem c_S_chanceOfOne_30 : mCode j_S_chanceOfOne 30 = oDld 4 32 := rfl
theorem e_S_chanceOfOne_30 (a0 a1 a2 a3 : Option MV) (x : UInt64) : (WP Gm j_S_chanceOfOne 30 (a0 :: a1 :: a2 :: a3 :: some (.inr (.inr (.inr x))) :: ls) (st) h Q) = (WP Gm j_S_chanceOfOne 32 (a0 :: a1 :: a2 :: a3 :: some (.inr (.inr (.inr x))) :: ls) (.inr (.inr (.inr x)) :: st) (h) Q) := (WP_at c_S_chanceOfOne_30 _ _ _ _)
theorem c_S_chanceOfOne_32 : mCode j_S_chanceOfOne 32 = oDD FP.dmul 33 := rfl
theorem e_S_chanceOfOne_32 (x : UInt64) (y : UInt64) (hy : okD (FP.dmul x y) = true) : (WP Gm j_S_chanceOfOne 32 (ls) (.inr (.inr (.inr y)) :: .inr (.inr (.inr x)) :: st) h Q) = (WP Gm j_S_chanceOfOne 33 (ls) (.inr (.inr (.inr (FP.dmul x y))) :: st) (h) Q) := (WP_at c_S_chanceOfOne_32 _ _ _ _).trans (congrArg (fun o => ndX Gm (WP Gm) j_S_chanceOfOne 32 o Q) (if_pos hy))
theorem c_S_chanceOfOne_33 : mCode j_S_chanceOfOne 33 = oDst 2 34 := rfl
theorem e_S_chanceOfOne_33 (x : UInt64) : (WP Gm j_S_chanceOfOne 33 (ls) (.inr (.inr (.inr x)) :: st) h Q) = (WP Gm j_S_chanceOfOne 34 (lSet2 ls 2 (.inr (.inr (.inr x)))) (st) (h) Q) := (WP_at c_S_chanceOfOne_33 _ _ _ _)
theorem c_S_chanceOfOne_34 : mCode j_S_chanceOfOne 34 = oInc 6 1 37 := rfl
theorem e_S_chanceOfOne_34 (a0 a1 a2 a3 a4 a5 : Option MV) (x : Int32) : (WP Gm j_S_chanceOfOne 34 (a0 :: a1 :: a2 :: a3 :: a4 :: a5 :: some (.inl x) :: ls) (st) h Q) = (WP Gm j_S_chanceOfOne 37 (lSet1 (a0 :: a1 :: a2 :: a3 :: a4 :: a5 :: some (.inl x) :: ls) 6 (some (.inl (x + 1)))) (st) (h) Q) := (WP_at c_S_chanceOfOne_34 _ _ _ _)
theorem c_S_chanceOfOne_37 : mCode j_S_chanceOfOne 37 = oGo 23 := rfl
theorem e_S_chanceOfOne_37  : (WP Gm j_S_chanceOfOne 37 (ls) (st) h Q) = (WP Gm j_S_chanceOfOne 23 (ls) (st) (h) Q) := (WP_at c_S_chanceOfOne_37 _ _ _ _)
theorem c_S_chanceOfOne_40 : mCode j_S_chanceOfOne 40 = oDld 2 41 := rfl
theorem e_S_chanceOfOne_40 (a0 a1 : Option MV) (x : UInt64) : (WP Gm j_S_chanceOfOne 40 (a0 :: a1 :: some (.inr (.inr (.inr x))) :: ls) (st) h Q) = (WP Gm j_S_chanceOfOne 41 (a0 :: a1 :: some (.inr (.inr (.inr x))) :: ls) (.inr (.inr (.inr x)) :: st) (h) Q) := (WP_at c_S_chanceOfOne_40 _ _ _ _)
theorem c_S_chanceOfOne_41 : mCode j_S_chanceOfOne 41 = oRetD := rfl
theorem e_S_chanceOfOne_41 (x : UInt64) : (WP Gm j_S_chanceOfOne 41 (ls) ([.inr (.inr (.inr x))]) h Q) = (Q (.inl (some (.inr (.inr (.inr x))))) h) := (WP_at c_S_chanceOfOne_41 _ _ _ _)
end STEPS
