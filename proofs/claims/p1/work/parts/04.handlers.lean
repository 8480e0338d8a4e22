/-! THE HANDLERS: what each instruction does in M (n: the pc behind it) -/
def oI (v : Int32) (n : Nat) : Hd := fun ls st h => some (.inl (n, ls, .inl v :: st, h))
def oJ (v : Int64) (n : Nat) : Hd := fun ls st h => some (.inl (n, ls, .inr (.inr (.inl v)) :: st, h))
def oF (v : UInt64) (n : Nat) : Hd := fun ls st h => some (.inl (n, ls, .inr (.inr (.inr v)) :: st, h))
def oN (n : Nat) : Hd := fun ls st h => some (.inl (n, ls, .inr (.inl none) :: st, h))
def oIld (k n : Nat) : Hd := fun ls st h => match ls[k]? with
  | some (some (.inl x)) => some (.inl (n, ls, .inl x :: st, h))
  | _ => none
def oAld (k n : Nat) : Hd := fun ls st h => match ls[k]? with
  | some (some (.inr (.inl r))) => some (.inl (n, ls, .inr (.inl r) :: st, h))
  | _ => none
def oLld (k n : Nat) : Hd := fun ls st h => match ls[k]? with
  | some (some (.inr (.inr (.inl x)))) => some (.inl (n, ls, .inr (.inr (.inl x)) :: st, h))
  | _ => none
def oDld (k n : Nat) : Hd := fun ls st h => match ls[k]? with
  | some (some (.inr (.inr (.inr x)))) => some (.inl (n, ls, .inr (.inr (.inr x)) :: st, h))
  | _ => none
def oIst (k n : Nat) : Hd := fun ls st h => match st with
  | .inl x :: r => some (.inl (n, lSet1 ls k (some (.inl x)), r, h))
  | _ => none
def oAst (k n : Nat) : Hd := fun ls st h => match st with
  | .inr (.inl x) :: r => some (.inl (n, lSet1 ls k (some (.inr (.inl x))), r, h))
  | _ => none
def oLst (k n : Nat) : Hd := fun ls st h => match st with
  | .inr (.inr (.inl x)) :: r => some (.inl (n, lSet2 ls k (.inr (.inr (.inl x))), r, h))
  | _ => none
def oDst (k n : Nat) : Hd := fun ls st h => match st with
  | .inr (.inr (.inr x)) :: r => some (.inl (n, lSet2 ls k (.inr (.inr (.inr x))), r, h))
  | _ => none
def oInc (k : Nat) (c : Int32) (n : Nat) : Hd := fun ls st h => match ls[k]? with
  | some (some (.inl x)) => some (.inl (n, lSet1 ls k (some (.inl (x + c))), st, h))
  | _ => none
def oII (f : Int32 → Int32 → Int32) (n : Nat) : Hd := fun ls st h => match st with
  | .inl y :: .inl x :: r => some (.inl (n, ls, .inl (f x y) :: r, h))
  | _ => none
def oIq (f : Int32 → Int32 → Int32) (n : Nat) : Hd := fun ls st h => match st with
  | .inl y :: .inl x :: r => if y = 0 then none else some (.inl (n, ls, .inl (f x y) :: r, h))
  | _ => none
def oLL (f : Int64 → Int64 → Int64) (n : Nat) : Hd := fun ls st h => match st with
  | .inr (.inr (.inl y)) :: .inr (.inr (.inl x)) :: r => some (.inl (n, ls, .inr (.inr (.inl (f x y))) :: r, h))
  | _ => none
def oLI (f : Int64 → Int32 → Int64) (n : Nat) : Hd := fun ls st h => match st with
  | .inl y :: .inr (.inr (.inl x)) :: r => some (.inl (n, ls, .inr (.inr (.inl (f x y))) :: r, h))
  | _ => none
def oI2L (n : Nat) : Hd := fun ls st h => match st with
  | .inl x :: r => some (.inl (n, ls, .inr (.inr (.inl x.toInt64)) :: r, h))
  | _ => none
def oL2I (n : Nat) : Hd := fun ls st h => match st with
  | .inr (.inr (.inl x)) :: r => some (.inl (n, ls, .inl x.toInt32 :: r, h))
  | _ => none
def oLcmp (n : Nat) : Hd := fun ls st h => match st with
  | .inr (.inr (.inl y)) :: .inr (.inr (.inl x)) :: r => some (.inl (n, ls, .inl (lg_cmp x y) :: r, h))
  | _ => none
def okD (r : UInt64) : Bool := decide (r &&& 0x7fffffffffffffff ≤ 0x7ff0000000000000)
def oDD (f : UInt64 → UInt64 → UInt64) (n : Nat) : Hd := fun ls st h => match st with
  | .inr (.inr (.inr y)) :: .inr (.inr (.inr x)) :: r => if okD (f x y) = true then some (.inl (n, ls, .inr (.inr (.inr (f x y))) :: r, h)) else none
  | _ => none
def oDcmp (op : CmpOp) (n : Nat) : Hd := fun ls st h => match st with
  | .inr (.inr (.inr y)) :: .inr (.inr (.inr x)) :: r => some (.inl (n, ls, .inl (Op.cmpValue (FP.dcmp x y) op) :: r, h))
  | _ => none
def oI2D (n : Nat) : Hd := fun ls st h => match st with
  | .inl x :: r => some (.inl (n, ls, .inr (.inr (.inr (FP.i2d x))) :: r, h))
  | _ => none
def oL2D (n : Nat) : Hd := fun ls st h => match st with
  | .inr (.inr (.inl x)) :: r => some (.inl (n, ls, .inr (.inr (.inr (FP.l2d x))) :: r, h))
  | _ => none
def oD2L (n : Nat) : Hd := fun ls st h => match st with
  | .inr (.inr (.inr x)) :: r => some (.inl (n, ls, .inr (.inr (.inl (FP.d2l x))) :: r, h))
  | _ => none
def oDup (n : Nat) : Hd := fun ls st h => match st with
  | v :: r => if isWide v = true then none else some (.inl (n, ls, v :: v :: r, h))
  | _ => none
def oDup2 (n : Nat) : Hd := fun ls st h => match st with
  | v :: w :: r => if (isWide v || isWide w) = true then none else some (.inl (n, ls, v :: w :: v :: w :: r, h))
  | _ => none
def oPop (n : Nat) : Hd := fun ls st h => match st with
  | v :: r => if isWide v = true then none else some (.inl (n, ls, r, h))
  | _ => none
def oIf (c : Int32 → Bool) (t n : Nat) : Hd := fun ls st h => match st with
  | .inl x :: r => some (.inl (if c x = true then t else n, ls, r, h))
  | _ => none
def oIC (c : Int32 → Int32 → Bool) (t n : Nat) : Hd := fun ls st h => match st with
  | .inl y :: .inl x :: r => some (.inl (if c x y = true then t else n, ls, r, h))
  | _ => none
def oIfN (t n : Nat) : Hd := fun ls st h => match st with
  | .inr (.inl x) :: r => some (.inl (if x.isNone = true then t else n, ls, r, h))
  | _ => none
def oIfNN (t n : Nat) : Hd := fun ls st h => match st with
  | .inr (.inl x) :: r => some (.inl (if x.isNone = true then n else t, ls, r, h))
  | _ => none
def oGo (t : Nat) : Hd := fun ls st h => some (.inl (t, ls, st, h))
def tsw (lo : Int) (ts : List Nat) (d : Nat) (x : Int32) : Nat := if x.toInt < lo then d else (ts[(x.toInt - lo).toNat]?).getD d
def oTsw (lo : Int) (ts : List Nat) (d : Nat) : Hd := fun ls st h => match st with
  | .inl x :: r => some (.inl (tsw lo ts d x, ls, r, h))
  | _ => none
def lsw : List (Int32 × Nat) → Nat → Int32 → Nat
  | [], d, _ => d
  | q :: r, d, x => if x = q.1 then q.2 else lsw r d x
def oLsw (ps : List (Int32 × Nat)) (d : Nat) : Hd := fun ls st h => match st with
  | .inl x :: r => some (.inl (lsw ps d x, ls, r, h))
  | _ => none
def oGetI (ci k n : Nat) : Hd := fun ls st h => match st with
  | .inr (.inl (some a)) :: r => if isK h a ci = true then some (.inl (n, ls, .inl (gI h a k) :: r, h)) else none
  | _ => none
def oGetR (ci k n : Nat) : Hd := fun ls st h => match st with
  | .inr (.inl (some a)) :: r => if isK h a ci = true then some (.inl (n, ls, .inr (.inl (gR h a k)) :: r, h)) else none
  | _ => none
def oGetL (ci k n : Nat) : Hd := fun ls st h => match st with
  | .inr (.inl (some a)) :: r => if isK h a ci = true then some (.inl (n, ls, .inr (.inr (.inl (gL h a k))) :: r, h)) else none
  | _ => none
def oGetD (ci k n : Nat) : Hd := fun ls st h => match st with
  | .inr (.inl (some a)) :: r => if isK h a ci = true then some (.inl (n, ls, .inr (.inr (.inr (gD h a k))) :: r, h)) else none
  | _ => none
def oPutI (ci k n : Nat) : Hd := fun ls st h => match st with
  | .inl x :: .inr (.inl (some a)) :: r => if isK h a ci = true then some (.inl (n, ls, r, sI h a k x)) else none
  | _ => none
def oPutZ (ci k n : Nat) : Hd := fun ls st h => match st with
  | .inl x :: .inr (.inl (some a)) :: r => if (isK h a ci && (decide (x = 0) || decide (x = 1))) = true then some (.inl (n, ls, r, sI h a k x)) else none
  | _ => none
def oPutR (ci k n : Nat) : Hd := fun ls st h => match st with
  | .inr (.inl x) :: .inr (.inl (some a)) :: r => if isK h a ci = true then some (.inl (n, ls, r, sR h a k x)) else none
  | _ => none
def oPutL (ci k n : Nat) : Hd := fun ls st h => match st with
  | .inr (.inr (.inl x)) :: .inr (.inl (some a)) :: r => if isK h a ci = true then some (.inl (n, ls, r, sL h a k x)) else none
  | _ => none
def oPutD (ci k n : Nat) : Hd := fun ls st h => match st with
  | .inr (.inr (.inr x)) :: .inr (.inl (some a)) :: r => if isK h a ci = true then some (.inl (n, ls, r, sD h a k x)) else none
  | _ => none
def oIal (t n : Nat) : Hd := fun ls st h => match st with
  | .inl i :: .inr (.inl (some a)) :: r => if (isK h a (100 + t) && inL h a i) = true then some (.inl (n, ls, .inl (gI h a i.toNatClampNeg) :: r, h)) else none
  | _ => none
def oAal (t n : Nat) : Hd := fun ls st h => match st with
  | .inl i :: .inr (.inl (some a)) :: r => if (isK h a (100 + t) && inL h a i) = true then some (.inl (n, ls, .inr (.inl (gR h a i.toNatClampNeg)) :: r, h)) else none
  | _ => none
def oLal (t n : Nat) : Hd := fun ls st h => match st with
  | .inl i :: .inr (.inl (some a)) :: r => if (isK h a (100 + t) && inL h a i) = true then some (.inl (n, ls, .inr (.inr (.inl (gL h a i.toNatClampNeg))) :: r, h)) else none
  | _ => none
def oIas (t n : Nat) : Hd := fun ls st h => match st with
  | .inl x :: .inl i :: .inr (.inl (some a)) :: r => if (isK h a (100 + t) && inL h a i && decide (a ≠ 0)) = true then some (.inl (n, ls, r, sI h a i.toNatClampNeg x)) else none
  | _ => none
def oLas (t n : Nat) : Hd := fun ls st h => match st with
  | .inr (.inr (.inl x)) :: .inl i :: .inr (.inl (some a)) :: r => if (isK h a (100 + t) && inL h a i) = true then some (.inl (n, ls, r, sL h a i.toNatClampNeg x)) else none
  | _ => none
def oAas (t ci n : Nat) : Hd := fun ls st h => match st with
  | .inr (.inl (some x)) :: .inl i :: .inr (.inl (some a)) :: r => if (isK h a (100 + t) && inL h a i && isK h x ci) = true then some (.inl (n, ls, r, sR h a i.toNatClampNeg (some x))) else none
  | _ => none
def oLen (t n : Nat) : Hd := fun ls st h => match st with
  | .inr (.inl (some a)) :: r => if isK h a (100 + t) = true then some (.inl (n, ls, .inl (Int32.ofNat (ln h a)) :: r, h)) else none
  | _ => none
/-- is there room for n cells of s slots more -/
def okR (cM sM : Nat) (h : Hp) (n s : Nat) : Bool := decide (nx h + n ≤ cM + 1) && decide (sc h + s ≤ sM)
def oNew (cM sM ci N n : Nat) : Hd := fun ls st h => if okR cM sM h 1 N = true then some (.inl (n, ls, .inr (.inl (some (nx h))) :: st, hN h ci 0 N)) else none
def oNewA (cM sM t n : Nat) : Hd := fun ls st h => match st with
  | .inl i :: r => if (decide (0 ≤ i) && decide (i.toNatClampNeg ≤ 1000000) && okR cM sM h 1 i.toNatClampNeg) = true then some (.inl (n, ls, .inr (.inl (some (nx h))) :: r, hN h (100 + t) i.toNatClampNeg i.toNatClampNeg)) else none
  | _ => none
/-- new T[N][K]: the outer row, then N inner ones -/
def hM (h : Hp) (t t2 N K : Nat) : Hp := (fun b j => if nx h ≤ b ∧ b ≤ nx h + N then 0 else h.1 b j, fun b j => if b = nx h then (if j < N then some (nx h + 1 + j) else none) else if nx h ≤ b ∧ b ≤ nx h + N then none else h.2.1 b j,
  fun b j => if nx h ≤ b ∧ b ≤ nx h + N then 0 else h.2.2.1 b j, fun b j => if nx h ≤ b ∧ b ≤ nx h + N then 0 else h.2.2.2.1 b j,
  fun b => if b = nx h then 100 + t else if nx h ≤ b ∧ b ≤ nx h + N then 100 + t2 else h.2.2.2.2.1 b, fun b => if b = nx h then N else if nx h ≤ b ∧ b ≤ nx h + N then K else h.2.2.2.2.2.1 b, nx h + 1 + N, sc h + (N + N * K))
def oMul (cM sM t t2 n : Nat) : Hd := fun ls st h => match st with
  | .inl k :: .inl i :: r => if (decide (0 ≤ i) && decide (i.toNatClampNeg ≤ 1000) && (decide (0 ≤ k) && decide (k.toNatClampNeg ≤ 1000)) && okR cM sM h (1 + i.toNatClampNeg) (i.toNatClampNeg + i.toNatClampNeg * k.toNatClampNeg)) = true
    then some (.inl (n, ls, .inr (.inl (some (nx h))) :: r, hM h t t2 i.toNatClampNeg k.toNatClampNeg)) else none
  | _ => none
/-- the arguments off the stack, the first one ahead -/
def popA : Nat → List MV → Sk → Option (List MV × Sk)
  | 0, acc, st => some (acc, st)
  | k + 1, acc, v :: st => popA k (v :: acc) st
  | _ + 1, _, [] => none
def oCallV (ci j2 na ml n : Nat) : Hd := fun ls st h => match popA na [] st with
  | some (as, .inr (.inl (some a)) :: rest) => if (isK h a ci && decide (catS rest ≤ 8) && decide (catS as < ml)) = true then some (.inr (.inl (j2, .inr (.inl (some a)) :: as, n, ls, rest, h))) else none
  | _ => none
def oCallS (j2 na ml n : Nat) : Hd := fun ls st h => match popA na [] st with
  | some (as, rest) => if (decide (catS rest ≤ 8) && decide (catS as ≤ ml)) = true then some (.inr (.inl (j2, as, n, ls, rest, h))) else none
  | _ => none
def oObj (n : Nat) : Hd := fun ls st h => match st with
  | .inr (.inl (some _)) :: rest => if catS rest ≤ 8 then some (.inl (n, ls, rest, h)) else none
  | _ => none
def oRet : Hd := fun _ st h => match st with
  | [] => some (.inr (.inr (.inl none, h)))
  | _ => none
def oRetI : Hd := fun _ st h => match st with
  | [.inl x] => some (.inr (.inr (.inl (some (.inl x)), h)))
  | _ => none
def oRetZ : Hd := fun _ st h => match st with
  | [.inl x] => if (decide (x = 0) || decide (x = 1)) = true then some (.inr (.inr (.inl (some (.inl x)), h))) else none
  | _ => none
def oRetA : Hd := fun _ st h => match st with
  | [.inr (.inl x)] => some (.inr (.inr (.inl (some (.inr (.inl x))), h)))
  | _ => none
def oRetL : Hd := fun _ st h => match st with
  | [.inr (.inr (.inl x))] => some (.inr (.inr (.inl (some (.inr (.inr (.inl x)))), h)))
  | _ => none
def oRetD : Hd := fun _ st h => match st with
  | [.inr (.inr (.inr x))] => some (.inr (.inr (.inl (some (.inr (.inr (.inr x)))), h)))
  | _ => none
/-- throw new E("..."): one cell of six slots -/
def oThr (cM sM E ci : Nat) : Hd := fun _ st h => match st with
  | [] => if okR cM sM h 1 6 = true then some (.inr (.inr (.inr E, hN h ci 0 6))) else none
  | _ => none
/-! more handlers: the JDK's and the reference's -/
def eD : Nat := 1000000001
def eM : Nat := 1000000002
def oSt (v : MV) (n : Nat) : Hd := fun ls st h => some (.inl (n, ls, v :: st, h))
def oDupX1 (n : Nat) : Hd := fun ls st h => match st with
  | v :: w :: r => if (isWide v || isWide w) = true then none else some (.inl (n, ls, v :: w :: v :: r, h))
  | _ => none
def oPop2 (n : Nat) : Hd := fun ls st h => match st with
  | v :: r => if isWide v = true then some (.inl (n, ls, r, h)) else none
  | _ => none
def oI2B (n : Nat) : Hd := fun ls st h => match st with
  | .inl x :: r => some (.inl (n, ls, .inl x.toInt8.toInt32 :: r, h))
  | _ => none
/-- two references are told apart: one that is the same, or a new one and a special one -/
def dif (h : Hp) (x y : Option Nat) : Bool := match x, y with
  | some a, some b => decide (1 ≤ a ∧ a < nx h ∧ b = eD) || decide (1 ≤ b ∧ b < nx h ∧ a = eD) || decide (1 ≤ a ∧ a < nx h ∧ 1 ≤ b ∧ b < nx h ∧ ¬ a = b)
  | _, _ => false
def oIfA (t n : Nat) : Hd := fun ls st h => match st with
  | .inr (.inl y) :: .inr (.inl x) :: r => if x = y then some (.inl (t, ls, r, h)) else if dif h x y = true then some (.inl (n, ls, r, h)) else none
  | _ => none
def oCast (ci n : Nat) : Hd := fun ls st h => match st with
  | .inr (.inl (some a)) :: r => if (isK h a ci && decide (a ≠ 0)) = true then some (.inl (n, ls, .inr (.inl (some a)) :: r, h)) else none
  | _ => none
def oInst (ci n : Nat) : Hd := fun ls st h => match st with
  | .inr (.inl (some a)) :: r => if (isK h a ci && decide (a ≠ 0)) = true then some (.inl (n, ls, .inl 1 :: r, h)) else none
  | _ => none
def oZas (t n : Nat) : Hd := fun ls st h => match st with
  | .inl x :: .inl i :: .inr (.inl (some a)) :: r => if (isK h a (100 + t) && inL h a i && (decide (x = 0) || decide (x = 1))) = true then some (.inl (n, ls, r, sI h a i.toNatClampNeg x)) else none
  | _ => none
def oBas (t n : Nat) : Hd := fun ls st h => match st with
  | .inl x :: .inl i :: .inr (.inl (some a)) :: r => if (isK h a (100 + t) && inL h a i && decide (x.toInt8.toInt32 = x)) = true then some (.inl (n, ls, r, sI h a i.toNatClampNeg x)) else none
  | _ => none
/-- a list's row: the empty one has length 0 -/
def oLenE (t n : Nat) : Hd := fun ls st h => match st with
  | .inr (.inl (some a)) :: r => if a = eD then some (.inl (n, ls, .inl 0 :: r, h)) else if isK h a (100 + t) = true then some (.inl (n, ls, .inl (Int32.ofNat (ln h a)) :: r, h)) else none
  | _ => none
/-- any object or a row of ints, or null, into a row of Objects -/
def isAny (h : Hp) : Option Nat → Bool
  | none => true
  | some a => decide (a < nx h) && decide (1 ≤ a) && decide (kd h a < 16 ∨ kd h a = 100)
def oAasX (t n : Nat) : Hd := fun ls st h => match st with
  | .inr (.inl x) :: .inl i :: .inr (.inl (some a)) :: r => if (isK h a (100 + t) && inL h a i && isAny h x) = true then some (.inl (n, ls, r, sR h a i.toNatClampNeg x)) else none
  | _ => none
def oPutB (ci k n : Nat) : Hd := fun ls st h => match st with
  | .inl x :: .inr (.inl (some a)) :: r => if (isK h a ci && decide (x = 0)) = true then some (.inl (n, ls, r, sI h a k x)) else none
  | _ => none
/-- a row of ints into a row of rows -/
def oAasI (t n : Nat) : Hd := fun ls st h => match st with
  | .inr (.inl (some x)) :: .inl i :: .inr (.inl (some a)) :: r => if (isK h a (100 + t) && inL h a i && (isK h x 100 && decide (x ≠ 0))) = true then some (.inl (n, ls, r, sR h a i.toNatClampNeg (some x))) else none
  | _ => none
/-- a new row with another's ints -/
def hC (h : Hp) (a c n : Nat) : Hp := (fun b j => if b = nx h then h.1 a j else h.1 b j, row0 h.2.1 (nx h) none, row0 h.2.2.1 (nx h) 0, row0 h.2.2.2.1 (nx h) 0, up1 h.2.2.2.2.1 (nx h) c, up1 h.2.2.2.2.2.1 (nx h) n, nx h + 1, sc h + n)
theorem gI_hC (h : Hp) (a c n b j : Nat) : gI (hC h a c n) b j = if b = nx h then gI h a j else gI h b j := rfl
theorem gR_hC (h : Hp) (a c n b j : Nat) : gR (hC h a c n) b j = if b = nx h then none else gR h b j := rfl
theorem gL_hC (h : Hp) (a c n b j : Nat) : gL (hC h a c n) b j = if b = nx h then 0 else gL h b j := rfl
theorem gD_hC (h : Hp) (a c n b j : Nat) : gD (hC h a c n) b j = if b = nx h then 0 else gD h b j := rfl
theorem kd_hC (h : Hp) (a c n b : Nat) : kd (hC h a c n) b = if b = nx h then c else kd h b := rfl
theorem ln_hC (h : Hp) (a c n b : Nat) : ln (hC h a c n) b = if b = nx h then n else ln h b := rfl
theorem nx_hC (h : Hp) (a c n : Nat) : nx (hC h a c n) = nx h + 1 := rfl
theorem sc_hC (h : Hp) (a c n : Nat) : sc (hC h a c n) = sc h + n := rfl
def oCln (cM sM t n : Nat) : Hd := fun ls st h => match st with
  | .inr (.inl (some a)) :: r => if (isK h a (100 + t) && decide (a ≠ 0) && decide (catS r ≤ 8) && okR cM sM h 1 (ln h a)) = true then some (.inl (n, ls, .inr (.inl (some (nx h))) :: r, hC h a (100 + t) (ln h a))) else none
  | _ => none
/-- a stretch of ints, of references, from a row to a row -/
def cI (h : Hp) (a d sp dp n : Nat) : Hp := (fun b j => if b = d ∧ dp ≤ j ∧ j < dp + n then h.1 a (sp + (j - dp)) else h.1 b j, h.2)
def cR (h : Hp) (a d sp dp n : Nat) : Hp := (h.1, fun b j => if b = d ∧ dp ≤ j ∧ j < dp + n then h.2.1 a (sp + (j - dp)) else h.2.1 b j, h.2.2)
theorem gI_cI (h : Hp) (a d sp dp n b j : Nat) : gI (cI h a d sp dp n) b j = if b = d ∧ dp ≤ j ∧ j < dp + n then gI h a (sp + (j - dp)) else gI h b j := rfl
theorem gR_cR (h : Hp) (a d sp dp n b j : Nat) : gR (cR h a d sp dp n) b j = if b = d ∧ dp ≤ j ∧ j < dp + n then gR h a (sp + (j - dp)) else gR h b j := rfl
def bf (x : Int32) : Bool := decide (-128 ≤ x) && decide (x ≤ 127)
def cpOK (h : Hp) (t a d : Nat) (sp dp k : Int32) (r : Sk) : Bool := isK h a (100 + t) && isK h d (100 + t) && (decide (0 ≤ sp) && decide (0 ≤ dp) && decide (0 ≤ k)) && (decide (sp.toNatClampNeg + k.toNatClampNeg ≤ ln h a) && decide (dp.toNatClampNeg + k.toNatClampNeg ≤ ln h d)) && decide (catS r ≤ 8)
def oCpyB (t n : Nat) : Hd := fun ls st h => match st with
  | .inl k :: .inl dp :: .inr (.inl (some d)) :: .inl sp :: .inr (.inl (some a)) :: r => if (cpOK h t a d sp dp k r && (List.range k.toNatClampNeg).all (fun i => bf (gI h a (sp.toNatClampNeg + i)))) = true then some (.inl (n, ls, r, cI h a d sp.toNatClampNeg dp.toNatClampNeg k.toNatClampNeg)) else none
  | _ => none
def oCpyR (t n : Nat) : Hd := fun ls st h => match st with
  | .inl k :: .inl dp :: .inr (.inl (some d)) :: .inl sp :: .inr (.inl (some a)) :: r => if (cpOK h t a d sp dp k r && (List.range k.toNatClampNeg).all (fun i => isAny h (gR h a (sp.toNatClampNeg + i)))) = true then some (.inl (n, ls, r, cR h a d sp.toNatClampNeg dp.toNatClampNeg k.toNatClampNeg)) else none
  | _ => none
def oGetC (t n : Nat) : Hd := fun ls st h => match st with
  | .inr (.inl (some a)) :: r => if (isK h a (100 + t) && decide (a ≠ 0) && decide (catS r ≤ 8)) = true then some (.inl (n, ls, .inr (.inl (some eM)) :: r, h)) else none
  | _ => none
