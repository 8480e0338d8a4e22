/-! M's steps, the law -/
section STEPS
variable (ls : Lo) (st : Sk) (h : Hp) (Q : MRes → Hp → Prop)
theorem c_Out_init_0 : mCode j_Out_init 0 = oAld 0 1 := (rfl)
theorem e_Out_init_0 (x : Option Nat) : (WP Gm j_Out_init 0 (some (.inr (.inl x)) :: ls) (st) h Q) = (WP Gm j_Out_init 1 (some (.inr (.inl x)) :: ls) (.inr (.inl x) :: st) (h) Q) := (WP_at c_Out_init_0 _ _ _ _)
theorem c_Out_init_1 : mCode j_Out_init 1 = oObj 4 := (rfl)
theorem e_Out_init_1 (a : Nat) (hc : c8 st = true) : (WP Gm j_Out_init 1 (ls) (.inr (.inl (some a)) :: st) h Q) = (WP Gm j_Out_init 4 (ls) (st) (h) Q) := (WP_at c_Out_init_1 _ _ _ _).trans (congrArg (fun o => ndX Gm (WP Gm) j_Out_init 1 o Q) (if_pos (of_decide_eq_true hc)))
theorem c_Out_init_4 : mCode j_Out_init 4 = oRet := (rfl)
theorem e_Out_init_4  : (WP Gm j_Out_init 4 (ls) ([]) h Q) = (Q (.inl none) h) := (WP_at c_Out_init_4 _ _ _ _)
theorem c_Law_node_0 : mCode j_Law_node 0 = oAld 5 2 := (rfl)
theorem e_Law_node_0 (a0 a1 a2 a3 a4 : Option MV) (x : Option Nat) : (WP Gm j_Law_node 0 (a0 :: a1 :: a2 :: a3 :: a4 :: some (.inr (.inl x)) :: ls) (st) h Q) = (WP Gm j_Law_node 2 (a0 :: a1 :: a2 :: a3 :: a4 :: some (.inr (.inl x)) :: ls) (.inr (.inl x) :: st) (h) Q) := (WP_at c_Law_node_0 _ _ _ _)
theorem c_Law_node_2 : mCode j_Law_node 2 = oAld 0 3 := (rfl)
theorem e_Law_node_2 (x : Option Nat) : (WP Gm j_Law_node 2 (some (.inr (.inl x)) :: ls) (st) h Q) = (WP Gm j_Law_node 3 (some (.inr (.inl x)) :: ls) (.inr (.inl x) :: st) (h) Q) := (WP_at c_Law_node_2 _ _ _ _)
theorem c_Law_node_3 : mCode j_Law_node 3 = oIld 1 4 := (rfl)
theorem e_Law_node_3 (a0 : Option MV) (x : Int32) : (WP Gm j_Law_node 3 (a0 :: some (.inl x) :: ls) (st) h Q) = (WP Gm j_Law_node 4 (a0 :: some (.inl x) :: ls) (.inl x :: st) (h) Q) := (WP_at c_Law_node_3 _ _ _ _)
theorem c_Law_node_4 : mCode j_Law_node 4 = oIld 2 5 := (rfl)
theorem e_Law_node_4 (a0 a1 : Option MV) (x : Int32) : (WP Gm j_Law_node 4 (a0 :: a1 :: some (.inl x) :: ls) (st) h Q) = (WP Gm j_Law_node 5 (a0 :: a1 :: some (.inl x) :: ls) (.inl x :: st) (h) Q) := (WP_at c_Law_node_4 _ _ _ _)
theorem c_Law_node_5 : mCode j_Law_node 5 = oIld 3 6 := (rfl)
theorem e_Law_node_5 (a0 a1 a2 : Option MV) (x : Int32) : (WP Gm j_Law_node 5 (a0 :: a1 :: a2 :: some (.inl x) :: ls) (st) h Q) = (WP Gm j_Law_node 6 (a0 :: a1 :: a2 :: some (.inl x) :: ls) (.inl x :: st) (h) Q) := (WP_at c_Law_node_5 _ _ _ _)
theorem c_Law_node_6 : mCode j_Law_node 6 = oIld 4 8 := (rfl)
theorem e_Law_node_6 (a0 a1 a2 a3 : Option MV) (x : Int32) : (WP Gm j_Law_node 6 (a0 :: a1 :: a2 :: a3 :: some (.inl x) :: ls) (st) h Q) = (WP Gm j_Law_node 8 (a0 :: a1 :: a2 :: a3 :: some (.inl x) :: ls) (.inl x :: st) (h) Q) := (WP_at c_Law_node_6 _ _ _ _)
theorem c_Law_node_8 : mCode j_Law_node 8 = oCallV kc_S j_S_node 4 (mL j_S_node) 11 := (rfl)
theorem e_Law_node_8 (a : Nat) (x0 : Int32) (x1 : Int32) (x2 : Int32) (x3 : Int32) (hk : isK h a kc_S = true) (hc : c8 st = true) : (WP Gm j_Law_node 8 (ls) (.inl x3 :: .inl x2 :: .inl x1 :: .inl x0 :: .inr (.inl (some a)) :: st) h Q) = (WP Gm j_S_node 0 [some (.inr (.inl (some a))), some (.inl x0), some (.inl x1), some (.inl x2), some (.inl x3)] [] h (kC (fun v h2 => WP Gm j_Law_node 11 ls (v.toList ++ st) h2 Q) (fun E h2 => match mHx_Law_node E with | some (npc, k) => npc ≠ 0 ∧ WP Gm j_Law_node npc (lSet1 ls k none) [] h2 Q | none => Q (.inr E) h2))) := (WP_at c_Law_node_8 _ _ _ _).trans (congrArg (fun o => ndX Gm (WP Gm) j_Law_node 8 o Q) (if_pos (by rw [hk, show decide (catS st ≤ 8) = true from hc]; rfl)))
theorem c_Law_node_11 : mCode j_Law_node 11 = oI2L 12 := (rfl)
theorem e_Law_node_11 (x : Int32) : (WP Gm j_Law_node 11 (ls) (.inl x :: st) h Q) = (WP Gm j_Law_node 12 (ls) (.inr (.inr (.inl x.toInt64)) :: st) (h) Q) := (WP_at c_Law_node_11 _ _ _ _)
theorem c_Law_node_12 : mCode j_Law_node 12 = oPutL kc_Out 0 15 := (rfl)
theorem e_Law_node_12 (a : Nat) (x : Int64) (hk : isK h a kc_Out = true) : (WP Gm j_Law_node 12 (ls) (.inr (.inr (.inl x)) :: .inr (.inl (some a)) :: st) h Q) = (WP Gm j_Law_node 15 (ls) (st) (sL h a 0 x) Q) := (WP_at c_Law_node_12 _ _ _ _).trans (congrArg (fun o => ndX Gm (WP Gm) j_Law_node 12 o Q) (if_pos hk))
theorem c_Law_node_15 : mCode j_Law_node 15 = oGo 26 := (rfl)
theorem e_Law_node_15  : (WP Gm j_Law_node 15 (ls) (st) h Q) = (WP Gm j_Law_node 26 (ls) (st) (h) Q) := (WP_at c_Law_node_15 _ _ _ _)
theorem c_Law_node_18 : mCode j_Law_node 18 = oAst 6 20 := (rfl)
theorem e_Law_node_18 (x : Option Nat) : (WP Gm j_Law_node 18 (ls) (.inr (.inl x) :: st) h Q) = (WP Gm j_Law_node 20 (lSet1 ls 6 (some (.inr (.inl x)))) (st) (h) Q) := (WP_at c_Law_node_18 _ _ _ _)
theorem c_Law_node_20 : mCode j_Law_node 20 = oI 1 21 := (rfl)
theorem e_Law_node_20  : (WP Gm j_Law_node 20 (ls) (st) h Q) = (WP Gm j_Law_node 21 (ls) (.inl 1 :: st) (h) Q) := (WP_at c_Law_node_20 _ _ _ _)
theorem c_Law_node_21 : mCode j_Law_node 21 = oRetI := (rfl)
theorem e_Law_node_21 (x : Int32) : (WP Gm j_Law_node 21 (ls) ([.inl x]) h Q) = (Q (.inl (some (.inl x))) h) := (WP_at c_Law_node_21 _ _ _ _)
theorem c_Law_node_22 : mCode j_Law_node 22 = oAst 6 24 := (rfl)
theorem e_Law_node_22 (x : Option Nat) : (WP Gm j_Law_node 22 (ls) (.inr (.inl x) :: st) h Q) = (WP Gm j_Law_node 24 (lSet1 ls 6 (some (.inr (.inl x)))) (st) (h) Q) := (WP_at c_Law_node_22 _ _ _ _)
theorem c_Law_node_24 : mCode j_Law_node 24 = oI 2 25 := (rfl)
theorem e_Law_node_24  : (WP Gm j_Law_node 24 (ls) (st) h Q) = (WP Gm j_Law_node 25 (ls) (.inl 2 :: st) (h) Q) := (WP_at c_Law_node_24 _ _ _ _)
theorem c_Law_node_25 : mCode j_Law_node 25 = oRetI := (rfl)
theorem e_Law_node_25 (x : Int32) : (WP Gm j_Law_node 25 (ls) ([.inl x]) h Q) = (Q (.inl (some (.inl x))) h) := (WP_at c_Law_node_25 _ _ _ _)
theorem c_Law_node_26 : mCode j_Law_node 26 = oI 0 27 := (rfl)
theorem e_Law_node_26  : (WP Gm j_Law_node 26 (ls) (st) h Q) = (WP Gm j_Law_node 27 (ls) (.inl 0 :: st) (h) Q) := (WP_at c_Law_node_26 _ _ _ _)
theorem c_Law_node_27 : mCode j_Law_node 27 = oRetI := (rfl)
theorem e_Law_node_27 (x : Int32) : (WP Gm j_Law_node 27 (ls) ([.inl x]) h Q) = (Q (.inl (some (.inl x))) h) := (WP_at c_Law_node_27 _ _ _ _)
theorem c_Law_move_0 : mCode j_Law_move 0 = oAld 4 2 := (rfl)
theorem e_Law_move_0 (a0 a1 a2 a3 : Option MV) (x : Option Nat) : (WP Gm j_Law_move 0 (a0 :: a1 :: a2 :: a3 :: some (.inr (.inl x)) :: ls) (st) h Q) = (WP Gm j_Law_move 2 (a0 :: a1 :: a2 :: a3 :: some (.inr (.inl x)) :: ls) (.inr (.inl x) :: st) (h) Q) := (WP_at c_Law_move_0 _ _ _ _)
theorem c_Law_move_2 : mCode j_Law_move 2 = oAld 0 3 := (rfl)
theorem e_Law_move_2 (x : Option Nat) : (WP Gm j_Law_move 2 (some (.inr (.inl x)) :: ls) (st) h Q) = (WP Gm j_Law_move 3 (some (.inr (.inl x)) :: ls) (.inr (.inl x) :: st) (h) Q) := (WP_at c_Law_move_2 _ _ _ _)
theorem c_Law_move_3 : mCode j_Law_move 3 = oIld 1 4 := (rfl)
theorem e_Law_move_3 (a0 : Option MV) (x : Int32) : (WP Gm j_Law_move 3 (a0 :: some (.inl x) :: ls) (st) h Q) = (WP Gm j_Law_move 4 (a0 :: some (.inl x) :: ls) (.inl x :: st) (h) Q) := (WP_at c_Law_move_3 _ _ _ _)
theorem c_Law_move_4 : mCode j_Law_move 4 = oIld 2 5 := (rfl)
theorem e_Law_move_4 (a0 a1 : Option MV) (x : Int32) : (WP Gm j_Law_move 4 (a0 :: a1 :: some (.inl x) :: ls) (st) h Q) = (WP Gm j_Law_move 5 (a0 :: a1 :: some (.inl x) :: ls) (.inl x :: st) (h) Q) := (WP_at c_Law_move_4 _ _ _ _)
theorem c_Law_move_5 : mCode j_Law_move 5 = oIld 3 6 := (rfl)
theorem e_Law_move_5 (a0 a1 a2 : Option MV) (x : Int32) : (WP Gm j_Law_move 5 (a0 :: a1 :: a2 :: some (.inl x) :: ls) (st) h Q) = (WP Gm j_Law_move 6 (a0 :: a1 :: a2 :: some (.inl x) :: ls) (.inl x :: st) (h) Q) := (WP_at c_Law_move_5 _ _ _ _)
theorem c_Law_move_6 : mCode j_Law_move 6 = oCallV kc_S j_S_move 3 (mL j_S_move) 9 := (rfl)
theorem e_Law_move_6 (a : Nat) (x0 : Int32) (x1 : Int32) (x2 : Int32) (hk : isK h a kc_S = true) (hc : c8 st = true) : (WP Gm j_Law_move 6 (ls) (.inl x2 :: .inl x1 :: .inl x0 :: .inr (.inl (some a)) :: st) h Q) = (WP Gm j_S_move 0 [some (.inr (.inl (some a))), some (.inl x0), some (.inl x1), some (.inl x2)] [] h (kC (fun v h2 => WP Gm j_Law_move 9 ls (v.toList ++ st) h2 Q) (fun E h2 => match mHx_Law_move E with | some (npc, k) => npc ≠ 0 ∧ WP Gm j_Law_move npc (lSet1 ls k none) [] h2 Q | none => Q (.inr E) h2))) := (WP_at c_Law_move_6 _ _ _ _).trans (congrArg (fun o => ndX Gm (WP Gm) j_Law_move 6 o Q) (if_pos (by rw [hk, show decide (catS st ≤ 8) = true from hc]; rfl)))
theorem c_Law_move_9 : mCode j_Law_move 9 = oI2L 10 := (rfl)
theorem e_Law_move_9 (x : Int32) : (WP Gm j_Law_move 9 (ls) (.inl x :: st) h Q) = (WP Gm j_Law_move 10 (ls) (.inr (.inr (.inl x.toInt64)) :: st) (h) Q) := (WP_at c_Law_move_9 _ _ _ _)
theorem c_Law_move_10 : mCode j_Law_move 10 = oPutL kc_Out 0 13 := (rfl)
theorem e_Law_move_10 (a : Nat) (x : Int64) (hk : isK h a kc_Out = true) : (WP Gm j_Law_move 10 (ls) (.inr (.inr (.inl x)) :: .inr (.inl (some a)) :: st) h Q) = (WP Gm j_Law_move 13 (ls) (st) (sL h a 0 x) Q) := (WP_at c_Law_move_10 _ _ _ _).trans (congrArg (fun o => ndX Gm (WP Gm) j_Law_move 10 o Q) (if_pos hk))
theorem c_Law_move_13 : mCode j_Law_move 13 = oGo 28 := (rfl)
theorem e_Law_move_13  : (WP Gm j_Law_move 13 (ls) (st) h Q) = (WP Gm j_Law_move 28 (ls) (st) (h) Q) := (WP_at c_Law_move_13 _ _ _ _)
theorem c_Law_move_16 : mCode j_Law_move 16 = oAst 5 18 := (rfl)
theorem e_Law_move_16 (x : Option Nat) : (WP Gm j_Law_move 16 (ls) (.inr (.inl x) :: st) h Q) = (WP Gm j_Law_move 18 (lSet1 ls 5 (some (.inr (.inl x)))) (st) (h) Q) := (WP_at c_Law_move_16 _ _ _ _)
theorem c_Law_move_18 : mCode j_Law_move 18 = oI 1 19 := (rfl)
theorem e_Law_move_18  : (WP Gm j_Law_move 18 (ls) (st) h Q) = (WP Gm j_Law_move 19 (ls) (.inl 1 :: st) (h) Q) := (WP_at c_Law_move_18 _ _ _ _)
theorem c_Law_move_19 : mCode j_Law_move 19 = oRetI := (rfl)
theorem e_Law_move_19 (x : Int32) : (WP Gm j_Law_move 19 (ls) ([.inl x]) h Q) = (Q (.inl (some (.inl x))) h) := (WP_at c_Law_move_19 _ _ _ _)
theorem c_Law_move_20 : mCode j_Law_move 20 = oAst 5 22 := (rfl)
theorem e_Law_move_20 (x : Option Nat) : (WP Gm j_Law_move 20 (ls) (.inr (.inl x) :: st) h Q) = (WP Gm j_Law_move 22 (lSet1 ls 5 (some (.inr (.inl x)))) (st) (h) Q) := (WP_at c_Law_move_20 _ _ _ _)
theorem c_Law_move_22 : mCode j_Law_move 22 = oI 2 23 := (rfl)
theorem e_Law_move_22  : (WP Gm j_Law_move 22 (ls) (st) h Q) = (WP Gm j_Law_move 23 (ls) (.inl 2 :: st) (h) Q) := (WP_at c_Law_move_22 _ _ _ _)
theorem c_Law_move_23 : mCode j_Law_move 23 = oRetI := (rfl)
theorem e_Law_move_23 (x : Int32) : (WP Gm j_Law_move 23 (ls) ([.inl x]) h Q) = (Q (.inl (some (.inl x))) h) := (WP_at c_Law_move_23 _ _ _ _)
theorem c_Law_move_24 : mCode j_Law_move 24 = oAst 5 26 := (rfl)
theorem e_Law_move_24 (x : Option Nat) : (WP Gm j_Law_move 24 (ls) (.inr (.inl x) :: st) h Q) = (WP Gm j_Law_move 26 (lSet1 ls 5 (some (.inr (.inl x)))) (st) (h) Q) := (WP_at c_Law_move_24 _ _ _ _)
theorem c_Law_move_26 : mCode j_Law_move 26 = oI 3 27 := (rfl)
theorem e_Law_move_26  : (WP Gm j_Law_move 26 (ls) (st) h Q) = (WP Gm j_Law_move 27 (ls) (.inl 3 :: st) (h) Q) := (WP_at c_Law_move_26 _ _ _ _)
theorem c_Law_move_27 : mCode j_Law_move 27 = oRetI := (rfl)
theorem e_Law_move_27 (x : Int32) : (WP Gm j_Law_move 27 (ls) ([.inl x]) h Q) = (Q (.inl (some (.inl x))) h) := (WP_at c_Law_move_27 _ _ _ _)
theorem c_Law_move_28 : mCode j_Law_move 28 = oI 0 29 := (rfl)
theorem e_Law_move_28  : (WP Gm j_Law_move 28 (ls) (st) h Q) = (WP Gm j_Law_move 29 (ls) (.inl 0 :: st) (h) Q) := (WP_at c_Law_move_28 _ _ _ _)
theorem c_Law_move_29 : mCode j_Law_move 29 = oRetI := (rfl)
theorem e_Law_move_29 (x : Int32) : (WP Gm j_Law_move 29 (ls) ([.inl x]) h Q) = (Q (.inl (some (.inl x))) h) := (WP_at c_Law_move_29 _ _ _ _)
theorem c_Law_tune_0 : mCode j_Law_tune 0 = oAld 4 2 := (rfl)
theorem e_Law_tune_0 (a0 a1 a2 a3 : Option MV) (x : Option Nat) : (WP Gm j_Law_tune 0 (a0 :: a1 :: a2 :: a3 :: some (.inr (.inl x)) :: ls) (st) h Q) = (WP Gm j_Law_tune 2 (a0 :: a1 :: a2 :: a3 :: some (.inr (.inl x)) :: ls) (.inr (.inl x) :: st) (h) Q) := (WP_at c_Law_tune_0 _ _ _ _)
theorem c_Law_tune_2 : mCode j_Law_tune 2 = oAld 0 3 := (rfl)
theorem e_Law_tune_2 (x : Option Nat) : (WP Gm j_Law_tune 2 (some (.inr (.inl x)) :: ls) (st) h Q) = (WP Gm j_Law_tune 3 (some (.inr (.inl x)) :: ls) (.inr (.inl x) :: st) (h) Q) := (WP_at c_Law_tune_2 _ _ _ _)
theorem c_Law_tune_3 : mCode j_Law_tune 3 = oIld 1 4 := (rfl)
theorem e_Law_tune_3 (a0 : Option MV) (x : Int32) : (WP Gm j_Law_tune 3 (a0 :: some (.inl x) :: ls) (st) h Q) = (WP Gm j_Law_tune 4 (a0 :: some (.inl x) :: ls) (.inl x :: st) (h) Q) := (WP_at c_Law_tune_3 _ _ _ _)
theorem c_Law_tune_4 : mCode j_Law_tune 4 = oIld 2 5 := (rfl)
theorem e_Law_tune_4 (a0 a1 : Option MV) (x : Int32) : (WP Gm j_Law_tune 4 (a0 :: a1 :: some (.inl x) :: ls) (st) h Q) = (WP Gm j_Law_tune 5 (a0 :: a1 :: some (.inl x) :: ls) (.inl x :: st) (h) Q) := (WP_at c_Law_tune_4 _ _ _ _)
theorem c_Law_tune_5 : mCode j_Law_tune 5 = oIld 3 6 := (rfl)
theorem e_Law_tune_5 (a0 a1 a2 : Option MV) (x : Int32) : (WP Gm j_Law_tune 5 (a0 :: a1 :: a2 :: some (.inl x) :: ls) (st) h Q) = (WP Gm j_Law_tune 6 (a0 :: a1 :: a2 :: some (.inl x) :: ls) (.inl x :: st) (h) Q) := (WP_at c_Law_tune_5 _ _ _ _)
theorem c_Law_tune_6 : mCode j_Law_tune 6 = oCallV kc_S j_S_tune 3 (mL j_S_tune) 9 := (rfl)
theorem e_Law_tune_6 (a : Nat) (x0 : Int32) (x1 : Int32) (x2 : Int32) (hk : isK h a kc_S = true) (hc : c8 st = true) : (WP Gm j_Law_tune 6 (ls) (.inl x2 :: .inl x1 :: .inl x0 :: .inr (.inl (some a)) :: st) h Q) = (WP Gm j_S_tune 0 [some (.inr (.inl (some a))), some (.inl x0), some (.inl x1), some (.inl x2), none] [] h (kC (fun v h2 => WP Gm j_Law_tune 9 ls (v.toList ++ st) h2 Q) (fun E h2 => match mHx_Law_tune E with | some (npc, k) => npc ≠ 0 ∧ WP Gm j_Law_tune npc (lSet1 ls k none) [] h2 Q | none => Q (.inr E) h2))) := (WP_at c_Law_tune_6 _ _ _ _).trans (congrArg (fun o => ndX Gm (WP Gm) j_Law_tune 6 o Q) (if_pos (by rw [hk, show decide (catS st ≤ 8) = true from hc]; rfl)))
theorem c_Law_tune_9 : mCode j_Law_tune 9 = oI2L 10 := (rfl)
theorem e_Law_tune_9 (x : Int32) : (WP Gm j_Law_tune 9 (ls) (.inl x :: st) h Q) = (WP Gm j_Law_tune 10 (ls) (.inr (.inr (.inl x.toInt64)) :: st) (h) Q) := (WP_at c_Law_tune_9 _ _ _ _)
theorem c_Law_tune_10 : mCode j_Law_tune 10 = oPutL kc_Out 0 13 := (rfl)
theorem e_Law_tune_10 (a : Nat) (x : Int64) (hk : isK h a kc_Out = true) : (WP Gm j_Law_tune 10 (ls) (.inr (.inr (.inl x)) :: .inr (.inl (some a)) :: st) h Q) = (WP Gm j_Law_tune 13 (ls) (st) (sL h a 0 x) Q) := (WP_at c_Law_tune_10 _ _ _ _).trans (congrArg (fun o => ndX Gm (WP Gm) j_Law_tune 10 o Q) (if_pos hk))
theorem c_Law_tune_13 : mCode j_Law_tune 13 = oGo 28 := (rfl)
theorem e_Law_tune_13  : (WP Gm j_Law_tune 13 (ls) (st) h Q) = (WP Gm j_Law_tune 28 (ls) (st) (h) Q) := (WP_at c_Law_tune_13 _ _ _ _)
theorem c_Law_tune_16 : mCode j_Law_tune 16 = oAst 5 18 := (rfl)
theorem e_Law_tune_16 (x : Option Nat) : (WP Gm j_Law_tune 16 (ls) (.inr (.inl x) :: st) h Q) = (WP Gm j_Law_tune 18 (lSet1 ls 5 (some (.inr (.inl x)))) (st) (h) Q) := (WP_at c_Law_tune_16 _ _ _ _)
theorem c_Law_tune_18 : mCode j_Law_tune 18 = oI 1 19 := (rfl)
theorem e_Law_tune_18  : (WP Gm j_Law_tune 18 (ls) (st) h Q) = (WP Gm j_Law_tune 19 (ls) (.inl 1 :: st) (h) Q) := (WP_at c_Law_tune_18 _ _ _ _)
theorem c_Law_tune_19 : mCode j_Law_tune 19 = oRetI := (rfl)
theorem e_Law_tune_19 (x : Int32) : (WP Gm j_Law_tune 19 (ls) ([.inl x]) h Q) = (Q (.inl (some (.inl x))) h) := (WP_at c_Law_tune_19 _ _ _ _)
theorem c_Law_tune_20 : mCode j_Law_tune 20 = oAst 5 22 := (rfl)
theorem e_Law_tune_20 (x : Option Nat) : (WP Gm j_Law_tune 20 (ls) (.inr (.inl x) :: st) h Q) = (WP Gm j_Law_tune 22 (lSet1 ls 5 (some (.inr (.inl x)))) (st) (h) Q) := (WP_at c_Law_tune_20 _ _ _ _)
theorem c_Law_tune_22 : mCode j_Law_tune 22 = oI 2 23 := (rfl)
theorem e_Law_tune_22  : (WP Gm j_Law_tune 22 (ls) (st) h Q) = (WP Gm j_Law_tune 23 (ls) (.inl 2 :: st) (h) Q) := (WP_at c_Law_tune_22 _ _ _ _)
theorem c_Law_tune_23 : mCode j_Law_tune 23 = oRetI := (rfl)
theorem e_Law_tune_23 (x : Int32) : (WP Gm j_Law_tune 23 (ls) ([.inl x]) h Q) = (Q (.inl (some (.inl x))) h) := (WP_at c_Law_tune_23 _ _ _ _)
theorem c_Law_tune_24 : mCode j_Law_tune 24 = oAst 5 26 := (rfl)
theorem e_Law_tune_24 (x : Option Nat) : (WP Gm j_Law_tune 24 (ls) (.inr (.inl x) :: st) h Q) = (WP Gm j_Law_tune 26 (lSet1 ls 5 (some (.inr (.inl x)))) (st) (h) Q) := (WP_at c_Law_tune_24 _ _ _ _)
theorem c_Law_tune_26 : mCode j_Law_tune 26 = oI 3 27 := (rfl)
theorem e_Law_tune_26  : (WP Gm j_Law_tune 26 (ls) (st) h Q) = (WP Gm j_Law_tune 27 (ls) (.inl 3 :: st) (h) Q) := (WP_at c_Law_tune_26 _ _ _ _)
theorem c_Law_tune_27 : mCode j_Law_tune 27 = oRetI := (rfl)
theorem e_Law_tune_27 (x : Int32) : (WP Gm j_Law_tune 27 (ls) ([.inl x]) h Q) = (Q (.inl (some (.inl x))) h) := (WP_at c_Law_tune_27 _ _ _ _)
theorem c_Law_tune_28 : mCode j_Law_tune 28 = oI 0 29 := (rfl)
theorem e_Law_tune_28  : (WP Gm j_Law_tune 28 (ls) (st) h Q) = (WP Gm j_Law_tune 29 (ls) (.inl 0 :: st) (h) Q) := (WP_at c_Law_tune_28 _ _ _ _)
theorem c_Law_tune_29 : mCode j_Law_tune 29 = oRetI := (rfl)
theorem e_Law_tune_29 (x : Int32) : (WP Gm j_Law_tune 29 (ls) ([.inl x]) h Q) = (Q (.inl (some (.inl x))) h) := (WP_at c_Law_tune_29 _ _ _ _)
theorem c_Law_send_0 : mCode j_Law_send 0 = oAld 4 2 := (rfl)
theorem e_Law_send_0 (a0 a1 a2 a3 : Option MV) (x : Option Nat) : (WP Gm j_Law_send 0 (a0 :: a1 :: a2 :: a3 :: some (.inr (.inl x)) :: ls) (st) h Q) = (WP Gm j_Law_send 2 (a0 :: a1 :: a2 :: a3 :: some (.inr (.inl x)) :: ls) (.inr (.inl x) :: st) (h) Q) := (WP_at c_Law_send_0 _ _ _ _)
theorem c_Law_send_2 : mCode j_Law_send 2 = oAld 0 3 := (rfl)
theorem e_Law_send_2 (x : Option Nat) : (WP Gm j_Law_send 2 (some (.inr (.inl x)) :: ls) (st) h Q) = (WP Gm j_Law_send 3 (some (.inr (.inl x)) :: ls) (.inr (.inl x) :: st) (h) Q) := (WP_at c_Law_send_2 _ _ _ _)
theorem c_Law_send_3 : mCode j_Law_send 3 = oIld 1 4 := (rfl)
theorem e_Law_send_3 (a0 : Option MV) (x : Int32) : (WP Gm j_Law_send 3 (a0 :: some (.inl x) :: ls) (st) h Q) = (WP Gm j_Law_send 4 (a0 :: some (.inl x) :: ls) (.inl x :: st) (h) Q) := (WP_at c_Law_send_3 _ _ _ _)
theorem c_Law_send_4 : mCode j_Law_send 4 = oIld 2 5 := (rfl)
theorem e_Law_send_4 (a0 a1 : Option MV) (x : Int32) : (WP Gm j_Law_send 4 (a0 :: a1 :: some (.inl x) :: ls) (st) h Q) = (WP Gm j_Law_send 5 (a0 :: a1 :: some (.inl x) :: ls) (.inl x :: st) (h) Q) := (WP_at c_Law_send_4 _ _ _ _)
theorem c_Law_send_5 : mCode j_Law_send 5 = oIld 3 6 := (rfl)
theorem e_Law_send_5 (a0 a1 a2 : Option MV) (x : Int32) : (WP Gm j_Law_send 5 (a0 :: a1 :: a2 :: some (.inl x) :: ls) (st) h Q) = (WP Gm j_Law_send 6 (a0 :: a1 :: a2 :: some (.inl x) :: ls) (.inl x :: st) (h) Q) := (WP_at c_Law_send_5 _ _ _ _)
theorem c_Law_send_6 : mCode j_Law_send 6 = oCallV kc_S j_S_send 3 (mL j_S_send) 9 := (rfl)
theorem e_Law_send_6 (a : Nat) (x0 : Int32) (x1 : Int32) (x2 : Int32) (hk : isK h a kc_S = true) (hc : c8 st = true) : (WP Gm j_Law_send 6 (ls) (.inl x2 :: .inl x1 :: .inl x0 :: .inr (.inl (some a)) :: st) h Q) = (WP Gm j_S_send 0 [some (.inr (.inl (some a))), some (.inl x0), some (.inl x1), some (.inl x2), none, none] [] h (kC (fun v h2 => WP Gm j_Law_send 9 ls (v.toList ++ st) h2 Q) (fun E h2 => match mHx_Law_send E with | some (npc, k) => npc ≠ 0 ∧ WP Gm j_Law_send npc (lSet1 ls k none) [] h2 Q | none => Q (.inr E) h2))) := (WP_at c_Law_send_6 _ _ _ _).trans (congrArg (fun o => ndX Gm (WP Gm) j_Law_send 6 o Q) (if_pos (by rw [hk, show decide (catS st ≤ 8) = true from hc]; rfl)))
theorem c_Law_send_9 : mCode j_Law_send 9 = oI2L 10 := (rfl)
theorem e_Law_send_9 (x : Int32) : (WP Gm j_Law_send 9 (ls) (.inl x :: st) h Q) = (WP Gm j_Law_send 10 (ls) (.inr (.inr (.inl x.toInt64)) :: st) (h) Q) := (WP_at c_Law_send_9 _ _ _ _)
theorem c_Law_send_10 : mCode j_Law_send 10 = oPutL kc_Out 0 13 := (rfl)
theorem e_Law_send_10 (a : Nat) (x : Int64) (hk : isK h a kc_Out = true) : (WP Gm j_Law_send 10 (ls) (.inr (.inr (.inl x)) :: .inr (.inl (some a)) :: st) h Q) = (WP Gm j_Law_send 13 (ls) (st) (sL h a 0 x) Q) := (WP_at c_Law_send_10 _ _ _ _).trans (congrArg (fun o => ndX Gm (WP Gm) j_Law_send 10 o Q) (if_pos hk))
theorem c_Law_send_13 : mCode j_Law_send 13 = oGo 28 := (rfl)
theorem e_Law_send_13  : (WP Gm j_Law_send 13 (ls) (st) h Q) = (WP Gm j_Law_send 28 (ls) (st) (h) Q) := (WP_at c_Law_send_13 _ _ _ _)
theorem c_Law_send_16 : mCode j_Law_send 16 = oAst 5 18 := (rfl)
theorem e_Law_send_16 (x : Option Nat) : (WP Gm j_Law_send 16 (ls) (.inr (.inl x) :: st) h Q) = (WP Gm j_Law_send 18 (lSet1 ls 5 (some (.inr (.inl x)))) (st) (h) Q) := (WP_at c_Law_send_16 _ _ _ _)
theorem c_Law_send_18 : mCode j_Law_send 18 = oI 1 19 := (rfl)
theorem e_Law_send_18  : (WP Gm j_Law_send 18 (ls) (st) h Q) = (WP Gm j_Law_send 19 (ls) (.inl 1 :: st) (h) Q) := (WP_at c_Law_send_18 _ _ _ _)
theorem c_Law_send_19 : mCode j_Law_send 19 = oRetI := (rfl)
theorem e_Law_send_19 (x : Int32) : (WP Gm j_Law_send 19 (ls) ([.inl x]) h Q) = (Q (.inl (some (.inl x))) h) := (WP_at c_Law_send_19 _ _ _ _)
theorem c_Law_send_20 : mCode j_Law_send 20 = oAst 5 22 := (rfl)
theorem e_Law_send_20 (x : Option Nat) : (WP Gm j_Law_send 20 (ls) (.inr (.inl x) :: st) h Q) = (WP Gm j_Law_send 22 (lSet1 ls 5 (some (.inr (.inl x)))) (st) (h) Q) := (WP_at c_Law_send_20 _ _ _ _)
theorem c_Law_send_22 : mCode j_Law_send 22 = oI 2 23 := (rfl)
theorem e_Law_send_22  : (WP Gm j_Law_send 22 (ls) (st) h Q) = (WP Gm j_Law_send 23 (ls) (.inl 2 :: st) (h) Q) := (WP_at c_Law_send_22 _ _ _ _)
theorem c_Law_send_23 : mCode j_Law_send 23 = oRetI := (rfl)
theorem e_Law_send_23 (x : Int32) : (WP Gm j_Law_send 23 (ls) ([.inl x]) h Q) = (Q (.inl (some (.inl x))) h) := (WP_at c_Law_send_23 _ _ _ _)
theorem c_Law_send_24 : mCode j_Law_send 24 = oAst 5 26 := (rfl)
theorem e_Law_send_24 (x : Option Nat) : (WP Gm j_Law_send 24 (ls) (.inr (.inl x) :: st) h Q) = (WP Gm j_Law_send 26 (lSet1 ls 5 (some (.inr (.inl x)))) (st) (h) Q) := (WP_at c_Law_send_24 _ _ _ _)
theorem c_Law_send_26 : mCode j_Law_send 26 = oI 3 27 := (rfl)
theorem e_Law_send_26  : (WP Gm j_Law_send 26 (ls) (st) h Q) = (WP Gm j_Law_send 27 (ls) (.inl 3 :: st) (h) Q) := (WP_at c_Law_send_26 _ _ _ _)
theorem c_Law_send_27 : mCode j_Law_send 27 = oRetI := (rfl)
theorem e_Law_send_27 (x : Int32) : (WP Gm j_Law_send 27 (ls) ([.inl x]) h Q) = (Q (.inl (some (.inl x))) h) := (WP_at c_Law_send_27 _ _ _ _)
theorem c_Law_send_28 : mCode j_Law_send 28 = oI 0 29 := (rfl)
theorem e_Law_send_28  : (WP Gm j_Law_send 28 (ls) (st) h Q) = (WP Gm j_Law_send 29 (ls) (.inl 0 :: st) (h) Q) := (WP_at c_Law_send_28 _ _ _ _)
theorem c_Law_send_29 : mCode j_Law_send 29 = oRetI := (rfl)
theorem e_Law_send_29 (x : Int32) : (WP Gm j_Law_send 29 (ls) ([.inl x]) h Q) = (Q (.inl (some (.inl x))) h) := (WP_at c_Law_send_29 _ _ _ _)
theorem c_Law_pass_0 : mCode j_Law_pass 0 = oAld 2 1 := (rfl)
theorem e_Law_pass_0 (a0 a1 : Option MV) (x : Option Nat) : (WP Gm j_Law_pass 0 (a0 :: a1 :: some (.inr (.inl x)) :: ls) (st) h Q) = (WP Gm j_Law_pass 1 (a0 :: a1 :: some (.inr (.inl x)) :: ls) (.inr (.inl x) :: st) (h) Q) := (WP_at c_Law_pass_0 _ _ _ _)
theorem c_Law_pass_1 : mCode j_Law_pass 1 = oAld 0 2 := (rfl)
theorem e_Law_pass_1 (x : Option Nat) : (WP Gm j_Law_pass 1 (some (.inr (.inl x)) :: ls) (st) h Q) = (WP Gm j_Law_pass 2 (some (.inr (.inl x)) :: ls) (.inr (.inl x) :: st) (h) Q) := (WP_at c_Law_pass_1 _ _ _ _)
theorem c_Law_pass_2 : mCode j_Law_pass 2 = oIld 1 3 := (rfl)
theorem e_Law_pass_2 (a0 : Option MV) (x : Int32) : (WP Gm j_Law_pass 2 (a0 :: some (.inl x) :: ls) (st) h Q) = (WP Gm j_Law_pass 3 (a0 :: some (.inl x) :: ls) (.inl x :: st) (h) Q) := (WP_at c_Law_pass_2 _ _ _ _)
theorem c_Law_pass_3 : mCode j_Law_pass 3 = oCallV kc_S j_S_pass 1 (mL j_S_pass) 6 := (rfl)
theorem e_Law_pass_3 (a : Nat) (x0 : Int32) (hk : isK h a kc_S = true) (hc : c8 st = true) : (WP Gm j_Law_pass 3 (ls) (.inl x0 :: .inr (.inl (some a)) :: st) h Q) = (WP Gm j_S_pass 0 [some (.inr (.inl (some a))), some (.inl x0), none] [] h (kC (fun v h2 => WP Gm j_Law_pass 6 ls (v.toList ++ st) h2 Q) (fun E h2 => match mHx_Law_pass E with | some (npc, k) => npc ≠ 0 ∧ WP Gm j_Law_pass npc (lSet1 ls k none) [] h2 Q | none => Q (.inr E) h2))) := (WP_at c_Law_pass_3 _ _ _ _).trans (congrArg (fun o => ndX Gm (WP Gm) j_Law_pass 3 o Q) (if_pos (by rw [hk, show decide (catS st ≤ 8) = true from hc]; rfl)))
theorem c_Law_pass_6 : mCode j_Law_pass 6 = oI2L 7 := (rfl)
theorem e_Law_pass_6 (x : Int32) : (WP Gm j_Law_pass 6 (ls) (.inl x :: st) h Q) = (WP Gm j_Law_pass 7 (ls) (.inr (.inr (.inl x.toInt64)) :: st) (h) Q) := (WP_at c_Law_pass_6 _ _ _ _)
theorem c_Law_pass_7 : mCode j_Law_pass 7 = oPutL kc_Out 0 10 := (rfl)
theorem e_Law_pass_7 (a : Nat) (x : Int64) (hk : isK h a kc_Out = true) : (WP Gm j_Law_pass 7 (ls) (.inr (.inr (.inl x)) :: .inr (.inl (some a)) :: st) h Q) = (WP Gm j_Law_pass 10 (ls) (st) (sL h a 0 x) Q) := (WP_at c_Law_pass_7 _ _ _ _).trans (congrArg (fun o => ndX Gm (WP Gm) j_Law_pass 7 o Q) (if_pos hk))
theorem c_Law_pass_10 : mCode j_Law_pass 10 = oGo 19 := (rfl)
theorem e_Law_pass_10  : (WP Gm j_Law_pass 10 (ls) (st) h Q) = (WP Gm j_Law_pass 19 (ls) (st) (h) Q) := (WP_at c_Law_pass_10 _ _ _ _)
theorem c_Law_pass_13 : mCode j_Law_pass 13 = oAst 3 14 := (rfl)
theorem e_Law_pass_13 (x : Option Nat) : (WP Gm j_Law_pass 13 (ls) (.inr (.inl x) :: st) h Q) = (WP Gm j_Law_pass 14 (lSet1 ls 3 (some (.inr (.inl x)))) (st) (h) Q) := (WP_at c_Law_pass_13 _ _ _ _)
theorem c_Law_pass_14 : mCode j_Law_pass 14 = oI 1 15 := (rfl)
theorem e_Law_pass_14  : (WP Gm j_Law_pass 14 (ls) (st) h Q) = (WP Gm j_Law_pass 15 (ls) (.inl 1 :: st) (h) Q) := (WP_at c_Law_pass_14 _ _ _ _)
theorem c_Law_pass_15 : mCode j_Law_pass 15 = oRetI := (rfl)
theorem e_Law_pass_15 (x : Int32) : (WP Gm j_Law_pass 15 (ls) ([.inl x]) h Q) = (Q (.inl (some (.inl x))) h) := (WP_at c_Law_pass_15 _ _ _ _)
theorem c_Law_pass_16 : mCode j_Law_pass 16 = oAst 3 17 := (rfl)
theorem e_Law_pass_16 (x : Option Nat) : (WP Gm j_Law_pass 16 (ls) (.inr (.inl x) :: st) h Q) = (WP Gm j_Law_pass 17 (lSet1 ls 3 (some (.inr (.inl x)))) (st) (h) Q) := (WP_at c_Law_pass_16 _ _ _ _)
theorem c_Law_pass_17 : mCode j_Law_pass 17 = oI 2 18 := (rfl)
theorem e_Law_pass_17  : (WP Gm j_Law_pass 17 (ls) (st) h Q) = (WP Gm j_Law_pass 18 (ls) (.inl 2 :: st) (h) Q) := (WP_at c_Law_pass_17 _ _ _ _)
theorem c_Law_pass_18 : mCode j_Law_pass 18 = oRetI := (rfl)
theorem e_Law_pass_18 (x : Int32) : (WP Gm j_Law_pass 18 (ls) ([.inl x]) h Q) = (Q (.inl (some (.inl x))) h) := (WP_at c_Law_pass_18 _ _ _ _)
theorem c_Law_pass_19 : mCode j_Law_pass 19 = oI 0 20 := (rfl)
theorem e_Law_pass_19  : (WP Gm j_Law_pass 19 (ls) (st) h Q) = (WP Gm j_Law_pass 20 (ls) (.inl 0 :: st) (h) Q) := (WP_at c_Law_pass_19 _ _ _ _)
theorem c_Law_pass_20 : mCode j_Law_pass 20 = oRetI := (rfl)
theorem e_Law_pass_20 (x : Int32) : (WP Gm j_Law_pass 20 (ls) ([.inl x]) h Q) = (Q (.inl (some (.inl x))) h) := (WP_at c_Law_pass_20 _ _ _ _)
theorem c_Law_exchange_0 : mCode j_Law_exchange 0 = oAld 2 1 := (rfl)
theorem e_Law_exchange_0 (a0 a1 : Option MV) (x : Option Nat) : (WP Gm j_Law_exchange 0 (a0 :: a1 :: some (.inr (.inl x)) :: ls) (st) h Q) = (WP Gm j_Law_exchange 1 (a0 :: a1 :: some (.inr (.inl x)) :: ls) (.inr (.inl x) :: st) (h) Q) := (WP_at c_Law_exchange_0 _ _ _ _)
theorem c_Law_exchange_1 : mCode j_Law_exchange 1 = oAld 0 2 := (rfl)
theorem e_Law_exchange_1 (x : Option Nat) : (WP Gm j_Law_exchange 1 (some (.inr (.inl x)) :: ls) (st) h Q) = (WP Gm j_Law_exchange 2 (some (.inr (.inl x)) :: ls) (.inr (.inl x) :: st) (h) Q) := (WP_at c_Law_exchange_1 _ _ _ _)
theorem c_Law_exchange_2 : mCode j_Law_exchange 2 = oIld 1 3 := (rfl)
theorem e_Law_exchange_2 (a0 : Option MV) (x : Int32) : (WP Gm j_Law_exchange 2 (a0 :: some (.inl x) :: ls) (st) h Q) = (WP Gm j_Law_exchange 3 (a0 :: some (.inl x) :: ls) (.inl x :: st) (h) Q) := (WP_at c_Law_exchange_2 _ _ _ _)
theorem c_Law_exchange_3 : mCode j_Law_exchange 3 = oCallV kc_S j_S_exchange 1 (mL j_S_exchange) 6 := (rfl)
theorem e_Law_exchange_3 (a : Nat) (x0 : Int32) (hk : isK h a kc_S = true) (hc : c8 st = true) : (WP Gm j_Law_exchange 3 (ls) (.inl x0 :: .inr (.inl (some a)) :: st) h Q) = (WP Gm j_S_exchange 0 [some (.inr (.inl (some a))), some (.inl x0), none] [] h (kC (fun v h2 => WP Gm j_Law_exchange 6 ls (v.toList ++ st) h2 Q) (fun E h2 => match mHx_Law_exchange E with | some (npc, k) => npc ≠ 0 ∧ WP Gm j_Law_exchange npc (lSet1 ls k none) [] h2 Q | none => Q (.inr E) h2))) := (WP_at c_Law_exchange_3 _ _ _ _).trans (congrArg (fun o => ndX Gm (WP Gm) j_Law_exchange 3 o Q) (if_pos (by rw [hk, show decide (catS st ≤ 8) = true from hc]; rfl)))
theorem c_Law_exchange_6 : mCode j_Law_exchange 6 = oI2L 7 := (rfl)
theorem e_Law_exchange_6 (x : Int32) : (WP Gm j_Law_exchange 6 (ls) (.inl x :: st) h Q) = (WP Gm j_Law_exchange 7 (ls) (.inr (.inr (.inl x.toInt64)) :: st) (h) Q) := (WP_at c_Law_exchange_6 _ _ _ _)
theorem c_Law_exchange_7 : mCode j_Law_exchange 7 = oPutL kc_Out 0 10 := (rfl)
theorem e_Law_exchange_7 (a : Nat) (x : Int64) (hk : isK h a kc_Out = true) : (WP Gm j_Law_exchange 7 (ls) (.inr (.inr (.inl x)) :: .inr (.inl (some a)) :: st) h Q) = (WP Gm j_Law_exchange 10 (ls) (st) (sL h a 0 x) Q) := (WP_at c_Law_exchange_7 _ _ _ _).trans (congrArg (fun o => ndX Gm (WP Gm) j_Law_exchange 7 o Q) (if_pos hk))
theorem c_Law_exchange_10 : mCode j_Law_exchange 10 = oGo 16 := (rfl)
theorem e_Law_exchange_10  : (WP Gm j_Law_exchange 10 (ls) (st) h Q) = (WP Gm j_Law_exchange 16 (ls) (st) (h) Q) := (WP_at c_Law_exchange_10 _ _ _ _)
theorem c_Law_exchange_13 : mCode j_Law_exchange 13 = oAst 3 14 := (rfl)
theorem e_Law_exchange_13 (x : Option Nat) : (WP Gm j_Law_exchange 13 (ls) (.inr (.inl x) :: st) h Q) = (WP Gm j_Law_exchange 14 (lSet1 ls 3 (some (.inr (.inl x)))) (st) (h) Q) := (WP_at c_Law_exchange_13 _ _ _ _)
theorem c_Law_exchange_14 : mCode j_Law_exchange 14 = oI 1 15 := (rfl)
theorem e_Law_exchange_14  : (WP Gm j_Law_exchange 14 (ls) (st) h Q) = (WP Gm j_Law_exchange 15 (ls) (.inl 1 :: st) (h) Q) := (WP_at c_Law_exchange_14 _ _ _ _)
theorem c_Law_exchange_15 : mCode j_Law_exchange 15 = oRetI := (rfl)
theorem e_Law_exchange_15 (x : Int32) : (WP Gm j_Law_exchange 15 (ls) ([.inl x]) h Q) = (Q (.inl (some (.inl x))) h) := (WP_at c_Law_exchange_15 _ _ _ _)
theorem c_Law_exchange_16 : mCode j_Law_exchange 16 = oI 0 17 := (rfl)
theorem e_Law_exchange_16  : (WP Gm j_Law_exchange 16 (ls) (st) h Q) = (WP Gm j_Law_exchange 17 (ls) (.inl 0 :: st) (h) Q) := (WP_at c_Law_exchange_16 _ _ _ _)
theorem c_Law_exchange_17 : mCode j_Law_exchange 17 = oRetI := (rfl)
theorem e_Law_exchange_17 (x : Int32) : (WP Gm j_Law_exchange 17 (ls) ([.inl x]) h Q) = (Q (.inl (some (.inl x))) h) := (WP_at c_Law_exchange_17 _ _ _ _)
theorem c_Law_bid_0 : mCode j_Law_bid 0 = oAld 4 2 := (rfl)
theorem e_Law_bid_0 (a0 a1 a2 a3 : Option MV) (x : Option Nat) : (WP Gm j_Law_bid 0 (a0 :: a1 :: a2 :: a3 :: some (.inr (.inl x)) :: ls) (st) h Q) = (WP Gm j_Law_bid 2 (a0 :: a1 :: a2 :: a3 :: some (.inr (.inl x)) :: ls) (.inr (.inl x) :: st) (h) Q) := (WP_at c_Law_bid_0 _ _ _ _)
theorem c_Law_bid_2 : mCode j_Law_bid 2 = oAld 0 3 := (rfl)
theorem e_Law_bid_2 (x : Option Nat) : (WP Gm j_Law_bid 2 (some (.inr (.inl x)) :: ls) (st) h Q) = (WP Gm j_Law_bid 3 (some (.inr (.inl x)) :: ls) (.inr (.inl x) :: st) (h) Q) := (WP_at c_Law_bid_2 _ _ _ _)
theorem c_Law_bid_3 : mCode j_Law_bid 3 = oIld 1 4 := (rfl)
theorem e_Law_bid_3 (a0 : Option MV) (x : Int32) : (WP Gm j_Law_bid 3 (a0 :: some (.inl x) :: ls) (st) h Q) = (WP Gm j_Law_bid 4 (a0 :: some (.inl x) :: ls) (.inl x :: st) (h) Q) := (WP_at c_Law_bid_3 _ _ _ _)
theorem c_Law_bid_4 : mCode j_Law_bid 4 = oIld 2 5 := (rfl)
theorem e_Law_bid_4 (a0 a1 : Option MV) (x : Int32) : (WP Gm j_Law_bid 4 (a0 :: a1 :: some (.inl x) :: ls) (st) h Q) = (WP Gm j_Law_bid 5 (a0 :: a1 :: some (.inl x) :: ls) (.inl x :: st) (h) Q) := (WP_at c_Law_bid_4 _ _ _ _)
theorem c_Law_bid_5 : mCode j_Law_bid 5 = oIld 3 6 := (rfl)
theorem e_Law_bid_5 (a0 a1 a2 : Option MV) (x : Int32) : (WP Gm j_Law_bid 5 (a0 :: a1 :: a2 :: some (.inl x) :: ls) (st) h Q) = (WP Gm j_Law_bid 6 (a0 :: a1 :: a2 :: some (.inl x) :: ls) (.inl x :: st) (h) Q) := (WP_at c_Law_bid_5 _ _ _ _)
theorem c_Law_bid_6 : mCode j_Law_bid 6 = oCallV kc_S j_S_bid 3 (mL j_S_bid) 9 := (rfl)
theorem e_Law_bid_6 (a : Nat) (x0 : Int32) (x1 : Int32) (x2 : Int32) (hk : isK h a kc_S = true) (hc : c8 st = true) : (WP Gm j_Law_bid 6 (ls) (.inl x2 :: .inl x1 :: .inl x0 :: .inr (.inl (some a)) :: st) h Q) = (WP Gm j_S_bid 0 [some (.inr (.inl (some a))), some (.inl x0), some (.inl x1), some (.inl x2)] [] h (kC (fun v h2 => WP Gm j_Law_bid 9 ls (v.toList ++ st) h2 Q) (fun E h2 => match mHx_Law_bid E with | some (npc, k) => npc ≠ 0 ∧ WP Gm j_Law_bid npc (lSet1 ls k none) [] h2 Q | none => Q (.inr E) h2))) := (WP_at c_Law_bid_6 _ _ _ _).trans (congrArg (fun o => ndX Gm (WP Gm) j_Law_bid 6 o Q) (if_pos (by rw [hk, show decide (catS st ≤ 8) = true from hc]; rfl)))
theorem c_Law_bid_9 : mCode j_Law_bid 9 = oI2L 10 := (rfl)
theorem e_Law_bid_9 (x : Int32) : (WP Gm j_Law_bid 9 (ls) (.inl x :: st) h Q) = (WP Gm j_Law_bid 10 (ls) (.inr (.inr (.inl x.toInt64)) :: st) (h) Q) := (WP_at c_Law_bid_9 _ _ _ _)
theorem c_Law_bid_10 : mCode j_Law_bid 10 = oPutL kc_Out 0 13 := (rfl)
theorem e_Law_bid_10 (a : Nat) (x : Int64) (hk : isK h a kc_Out = true) : (WP Gm j_Law_bid 10 (ls) (.inr (.inr (.inl x)) :: .inr (.inl (some a)) :: st) h Q) = (WP Gm j_Law_bid 13 (ls) (st) (sL h a 0 x) Q) := (WP_at c_Law_bid_10 _ _ _ _).trans (congrArg (fun o => ndX Gm (WP Gm) j_Law_bid 10 o Q) (if_pos hk))
theorem c_Law_bid_13 : mCode j_Law_bid 13 = oGo 24 := (rfl)
theorem e_Law_bid_13  : (WP Gm j_Law_bid 13 (ls) (st) h Q) = (WP Gm j_Law_bid 24 (ls) (st) (h) Q) := (WP_at c_Law_bid_13 _ _ _ _)
theorem c_Law_bid_16 : mCode j_Law_bid 16 = oAst 5 18 := (rfl)
theorem e_Law_bid_16 (x : Option Nat) : (WP Gm j_Law_bid 16 (ls) (.inr (.inl x) :: st) h Q) = (WP Gm j_Law_bid 18 (lSet1 ls 5 (some (.inr (.inl x)))) (st) (h) Q) := (WP_at c_Law_bid_16 _ _ _ _)
theorem c_Law_bid_18 : mCode j_Law_bid 18 = oI 1 19 := (rfl)
theorem e_Law_bid_18  : (WP Gm j_Law_bid 18 (ls) (st) h Q) = (WP Gm j_Law_bid 19 (ls) (.inl 1 :: st) (h) Q) := (WP_at c_Law_bid_18 _ _ _ _)
theorem c_Law_bid_19 : mCode j_Law_bid 19 = oRetI := (rfl)
theorem e_Law_bid_19 (x : Int32) : (WP Gm j_Law_bid 19 (ls) ([.inl x]) h Q) = (Q (.inl (some (.inl x))) h) := (WP_at c_Law_bid_19 _ _ _ _)
theorem c_Law_bid_20 : mCode j_Law_bid 20 = oAst 5 22 := (rfl)
theorem e_Law_bid_20 (x : Option Nat) : (WP Gm j_Law_bid 20 (ls) (.inr (.inl x) :: st) h Q) = (WP Gm j_Law_bid 22 (lSet1 ls 5 (some (.inr (.inl x)))) (st) (h) Q) := (WP_at c_Law_bid_20 _ _ _ _)
theorem c_Law_bid_22 : mCode j_Law_bid 22 = oI 2 23 := (rfl)
theorem e_Law_bid_22  : (WP Gm j_Law_bid 22 (ls) (st) h Q) = (WP Gm j_Law_bid 23 (ls) (.inl 2 :: st) (h) Q) := (WP_at c_Law_bid_22 _ _ _ _)
theorem c_Law_bid_23 : mCode j_Law_bid 23 = oRetI := (rfl)
theorem e_Law_bid_23 (x : Int32) : (WP Gm j_Law_bid 23 (ls) ([.inl x]) h Q) = (Q (.inl (some (.inl x))) h) := (WP_at c_Law_bid_23 _ _ _ _)
theorem c_Law_bid_24 : mCode j_Law_bid 24 = oI 0 25 := (rfl)
theorem e_Law_bid_24  : (WP Gm j_Law_bid 24 (ls) (st) h Q) = (WP Gm j_Law_bid 25 (ls) (.inl 0 :: st) (h) Q) := (WP_at c_Law_bid_24 _ _ _ _)
theorem c_Law_bid_25 : mCode j_Law_bid 25 = oRetI := (rfl)
theorem e_Law_bid_25 (x : Int32) : (WP Gm j_Law_bid 25 (ls) ([.inl x]) h Q) = (Q (.inl (some (.inl x))) h) := (WP_at c_Law_bid_25 _ _ _ _)
theorem c_Law_hears_0 : mCode j_Law_hears 0 = oAld 3 1 := (rfl)
theorem e_Law_hears_0 (a0 a1 a2 : Option MV) (x : Option Nat) : (WP Gm j_Law_hears 0 (a0 :: a1 :: a2 :: some (.inr (.inl x)) :: ls) (st) h Q) = (WP Gm j_Law_hears 1 (a0 :: a1 :: a2 :: some (.inr (.inl x)) :: ls) (.inr (.inl x) :: st) (h) Q) := (WP_at c_Law_hears_0 _ _ _ _)
theorem c_Law_hears_1 : mCode j_Law_hears 1 = oAld 0 2 := (rfl)
theorem e_Law_hears_1 (x : Option Nat) : (WP Gm j_Law_hears 1 (some (.inr (.inl x)) :: ls) (st) h Q) = (WP Gm j_Law_hears 2 (some (.inr (.inl x)) :: ls) (.inr (.inl x) :: st) (h) Q) := (WP_at c_Law_hears_1 _ _ _ _)
theorem c_Law_hears_2 : mCode j_Law_hears 2 = oIld 1 3 := (rfl)
theorem e_Law_hears_2 (a0 : Option MV) (x : Int32) : (WP Gm j_Law_hears 2 (a0 :: some (.inl x) :: ls) (st) h Q) = (WP Gm j_Law_hears 3 (a0 :: some (.inl x) :: ls) (.inl x :: st) (h) Q) := (WP_at c_Law_hears_2 _ _ _ _)
theorem c_Law_hears_3 : mCode j_Law_hears 3 = oIld 2 4 := (rfl)
theorem e_Law_hears_3 (a0 a1 : Option MV) (x : Int32) : (WP Gm j_Law_hears 3 (a0 :: a1 :: some (.inl x) :: ls) (st) h Q) = (WP Gm j_Law_hears 4 (a0 :: a1 :: some (.inl x) :: ls) (.inl x :: st) (h) Q) := (WP_at c_Law_hears_3 _ _ _ _)
theorem c_Law_hears_4 : mCode j_Law_hears 4 = oCallV kc_S j_S_hears 2 (mL j_S_hears) 7 := (rfl)
theorem e_Law_hears_4 (a : Nat) (x0 : Int32) (x1 : Int32) (hk : isK h a kc_S = true) (hc : c8 st = true) : (WP Gm j_Law_hears 4 (ls) (.inl x1 :: .inl x0 :: .inr (.inl (some a)) :: st) h Q) = (WP Gm j_S_hears 0 [some (.inr (.inl (some a))), some (.inl x0), some (.inl x1)] [] h (kC (fun v h2 => WP Gm j_Law_hears 7 ls (v.toList ++ st) h2 Q) (fun E h2 => match mHx_Law_hears E with | some (npc, k) => npc ≠ 0 ∧ WP Gm j_Law_hears npc (lSet1 ls k none) [] h2 Q | none => Q (.inr E) h2))) := (WP_at c_Law_hears_4 _ _ _ _).trans (congrArg (fun o => ndX Gm (WP Gm) j_Law_hears 4 o Q) (if_pos (by rw [hk, show decide (catS st ≤ 8) = true from hc]; rfl)))
theorem c_Law_hears_7 : mCode j_Law_hears 7 = oIf (fun x => decide (x = 0)) 14 10 := (rfl)
theorem e_Law_hears_7 (x : Int32) : (WP Gm j_Law_hears 7 (ls) (.inl x :: st) h Q) = (if x = 0 then WP Gm j_Law_hears 14 (ls) (st) (h) Q else WP Gm j_Law_hears 10 (ls) (st) (h) Q) := (WP_at c_Law_hears_7 _ _ _ _).trans (nd_if rfl _ _ _ _)
theorem c_Law_hears_10 : mCode j_Law_hears 10 = oJ 1 11 := (rfl)
theorem e_Law_hears_10  : (WP Gm j_Law_hears 10 (ls) (st) h Q) = (WP Gm j_Law_hears 11 (ls) (.inr (.inr (.inl 1)) :: st) (h) Q) := (WP_at c_Law_hears_10 _ _ _ _)
theorem c_Law_hears_11 : mCode j_Law_hears 11 = oGo 15 := (rfl)
theorem e_Law_hears_11  : (WP Gm j_Law_hears 11 (ls) (st) h Q) = (WP Gm j_Law_hears 15 (ls) (st) (h) Q) := (WP_at c_Law_hears_11 _ _ _ _)
theorem c_Law_hears_14 : mCode j_Law_hears 14 = oJ 0 15 := (rfl)
theorem e_Law_hears_14  : (WP Gm j_Law_hears 14 (ls) (st) h Q) = (WP Gm j_Law_hears 15 (ls) (.inr (.inr (.inl 0)) :: st) (h) Q) := (WP_at c_Law_hears_14 _ _ _ _)
theorem c_Law_hears_15 : mCode j_Law_hears 15 = oPutL kc_Out 0 18 := (rfl)
theorem e_Law_hears_15 (a : Nat) (x : Int64) (hk : isK h a kc_Out = true) : (WP Gm j_Law_hears 15 (ls) (.inr (.inr (.inl x)) :: .inr (.inl (some a)) :: st) h Q) = (WP Gm j_Law_hears 18 (ls) (st) (sL h a 0 x) Q) := (WP_at c_Law_hears_15 _ _ _ _).trans (congrArg (fun o => ndX Gm (WP Gm) j_Law_hears 15 o Q) (if_pos hk))
theorem c_Law_hears_18 : mCode j_Law_hears 18 = oGo 29 := (rfl)
theorem e_Law_hears_18  : (WP Gm j_Law_hears 18 (ls) (st) h Q) = (WP Gm j_Law_hears 29 (ls) (st) (h) Q) := (WP_at c_Law_hears_18 _ _ _ _)
theorem c_Law_hears_21 : mCode j_Law_hears 21 = oAst 4 23 := (rfl)
theorem e_Law_hears_21 (x : Option Nat) : (WP Gm j_Law_hears 21 (ls) (.inr (.inl x) :: st) h Q) = (WP Gm j_Law_hears 23 (lSet1 ls 4 (some (.inr (.inl x)))) (st) (h) Q) := (WP_at c_Law_hears_21 _ _ _ _)
theorem c_Law_hears_23 : mCode j_Law_hears 23 = oI 1 24 := (rfl)
theorem e_Law_hears_23  : (WP Gm j_Law_hears 23 (ls) (st) h Q) = (WP Gm j_Law_hears 24 (ls) (.inl 1 :: st) (h) Q) := (WP_at c_Law_hears_23 _ _ _ _)
theorem c_Law_hears_24 : mCode j_Law_hears 24 = oRetI := (rfl)
theorem e_Law_hears_24 (x : Int32) : (WP Gm j_Law_hears 24 (ls) ([.inl x]) h Q) = (Q (.inl (some (.inl x))) h) := (WP_at c_Law_hears_24 _ _ _ _)
theorem c_Law_hears_25 : mCode j_Law_hears 25 = oAst 4 27 := (rfl)
theorem e_Law_hears_25 (x : Option Nat) : (WP Gm j_Law_hears 25 (ls) (.inr (.inl x) :: st) h Q) = (WP Gm j_Law_hears 27 (lSet1 ls 4 (some (.inr (.inl x)))) (st) (h) Q) := (WP_at c_Law_hears_25 _ _ _ _)
theorem c_Law_hears_27 : mCode j_Law_hears 27 = oI 2 28 := (rfl)
theorem e_Law_hears_27  : (WP Gm j_Law_hears 27 (ls) (st) h Q) = (WP Gm j_Law_hears 28 (ls) (.inl 2 :: st) (h) Q) := (WP_at c_Law_hears_27 _ _ _ _)
theorem c_Law_hears_28 : mCode j_Law_hears 28 = oRetI := (rfl)
theorem e_Law_hears_28 (x : Int32) : (WP Gm j_Law_hears 28 (ls) ([.inl x]) h Q) = (Q (.inl (some (.inl x))) h) := (WP_at c_Law_hears_28 _ _ _ _)
theorem c_Law_hears_29 : mCode j_Law_hears 29 = oI 0 30 := (rfl)
theorem e_Law_hears_29  : (WP Gm j_Law_hears 29 (ls) (st) h Q) = (WP Gm j_Law_hears 30 (ls) (.inl 0 :: st) (h) Q) := (WP_at c_Law_hears_29 _ _ _ _)
theorem c_Law_hears_30 : mCode j_Law_hears 30 = oRetI := (rfl)
theorem e_Law_hears_30 (x : Int32) : (WP Gm j_Law_hears 30 (ls) ([.inl x]) h Q) = (Q (.inl (some (.inl x))) h) := (WP_at c_Law_hears_30 _ _ _ _)
theorem c_Law_ofNode_0 : mCode j_Law_ofNode 0 = oAld 3 1 := (rfl)
theorem e_Law_ofNode_0 (a0 a1 a2 : Option MV) (x : Option Nat) : (WP Gm j_Law_ofNode 0 (a0 :: a1 :: a2 :: some (.inr (.inl x)) :: ls) (st) h Q) = (WP Gm j_Law_ofNode 1 (a0 :: a1 :: a2 :: some (.inr (.inl x)) :: ls) (.inr (.inl x) :: st) (h) Q) := (WP_at c_Law_ofNode_0 _ _ _ _)
theorem c_Law_ofNode_1 : mCode j_Law_ofNode 1 = oAld 0 2 := (rfl)
theorem e_Law_ofNode_1 (x : Option Nat) : (WP Gm j_Law_ofNode 1 (some (.inr (.inl x)) :: ls) (st) h Q) = (WP Gm j_Law_ofNode 2 (some (.inr (.inl x)) :: ls) (.inr (.inl x) :: st) (h) Q) := (WP_at c_Law_ofNode_1 _ _ _ _)
theorem c_Law_ofNode_2 : mCode j_Law_ofNode 2 = oIld 1 3 := (rfl)
theorem e_Law_ofNode_2 (a0 : Option MV) (x : Int32) : (WP Gm j_Law_ofNode 2 (a0 :: some (.inl x) :: ls) (st) h Q) = (WP Gm j_Law_ofNode 3 (a0 :: some (.inl x) :: ls) (.inl x :: st) (h) Q) := (WP_at c_Law_ofNode_2 _ _ _ _)
theorem c_Law_ofNode_3 : mCode j_Law_ofNode 3 = oIld 2 4 := (rfl)
theorem e_Law_ofNode_3 (a0 a1 : Option MV) (x : Int32) : (WP Gm j_Law_ofNode 3 (a0 :: a1 :: some (.inl x) :: ls) (st) h Q) = (WP Gm j_Law_ofNode 4 (a0 :: a1 :: some (.inl x) :: ls) (.inl x :: st) (h) Q) := (WP_at c_Law_ofNode_3 _ _ _ _)
theorem c_Law_ofNode_4 : mCode j_Law_ofNode 4 = oCallV kc_S j_S_ofNode 2 (mL j_S_ofNode) 7 := (rfl)
theorem e_Law_ofNode_4 (a : Nat) (x0 : Int32) (x1 : Int32) (hk : isK h a kc_S = true) (hc : c8 st = true) : (WP Gm j_Law_ofNode 4 (ls) (.inl x1 :: .inl x0 :: .inr (.inl (some a)) :: st) h Q) = (WP Gm j_S_ofNode 0 [some (.inr (.inl (some a))), some (.inl x0), some (.inl x1), none] [] h (kC (fun v h2 => WP Gm j_Law_ofNode 7 ls (v.toList ++ st) h2 Q) (fun E h2 => match mHx_Law_ofNode E with | some (npc, k) => npc ≠ 0 ∧ WP Gm j_Law_ofNode npc (lSet1 ls k none) [] h2 Q | none => Q (.inr E) h2))) := (WP_at c_Law_ofNode_4 _ _ _ _).trans (congrArg (fun o => ndX Gm (WP Gm) j_Law_ofNode 4 o Q) (if_pos (by rw [hk, show decide (catS st ≤ 8) = true from hc]; rfl)))
theorem c_Law_ofNode_7 : mCode j_Law_ofNode 7 = oI2L 8 := (rfl)
theorem e_Law_ofNode_7 (x : Int32) : (WP Gm j_Law_ofNode 7 (ls) (.inl x :: st) h Q) = (WP Gm j_Law_ofNode 8 (ls) (.inr (.inr (.inl x.toInt64)) :: st) (h) Q) := (WP_at c_Law_ofNode_7 _ _ _ _)
theorem c_Law_ofNode_8 : mCode j_Law_ofNode 8 = oPutL kc_Out 0 11 := (rfl)
theorem e_Law_ofNode_8 (a : Nat) (x : Int64) (hk : isK h a kc_Out = true) : (WP Gm j_Law_ofNode 8 (ls) (.inr (.inr (.inl x)) :: .inr (.inl (some a)) :: st) h Q) = (WP Gm j_Law_ofNode 11 (ls) (st) (sL h a 0 x) Q) := (WP_at c_Law_ofNode_8 _ _ _ _).trans (congrArg (fun o => ndX Gm (WP Gm) j_Law_ofNode 8 o Q) (if_pos hk))
theorem c_Law_ofNode_11 : mCode j_Law_ofNode 11 = oGo 22 := (rfl)
theorem e_Law_ofNode_11  : (WP Gm j_Law_ofNode 11 (ls) (st) h Q) = (WP Gm j_Law_ofNode 22 (ls) (st) (h) Q) := (WP_at c_Law_ofNode_11 _ _ _ _)
theorem c_Law_ofNode_14 : mCode j_Law_ofNode 14 = oAst 4 16 := (rfl)
theorem e_Law_ofNode_14 (x : Option Nat) : (WP Gm j_Law_ofNode 14 (ls) (.inr (.inl x) :: st) h Q) = (WP Gm j_Law_ofNode 16 (lSet1 ls 4 (some (.inr (.inl x)))) (st) (h) Q) := (WP_at c_Law_ofNode_14 _ _ _ _)
theorem c_Law_ofNode_16 : mCode j_Law_ofNode 16 = oI 1 17 := (rfl)
theorem e_Law_ofNode_16  : (WP Gm j_Law_ofNode 16 (ls) (st) h Q) = (WP Gm j_Law_ofNode 17 (ls) (.inl 1 :: st) (h) Q) := (WP_at c_Law_ofNode_16 _ _ _ _)
theorem c_Law_ofNode_17 : mCode j_Law_ofNode 17 = oRetI := (rfl)
theorem e_Law_ofNode_17 (x : Int32) : (WP Gm j_Law_ofNode 17 (ls) ([.inl x]) h Q) = (Q (.inl (some (.inl x))) h) := (WP_at c_Law_ofNode_17 _ _ _ _)
theorem c_Law_ofNode_18 : mCode j_Law_ofNode 18 = oAst 4 20 := (rfl)
theorem e_Law_ofNode_18 (x : Option Nat) : (WP Gm j_Law_ofNode 18 (ls) (.inr (.inl x) :: st) h Q) = (WP Gm j_Law_ofNode 20 (lSet1 ls 4 (some (.inr (.inl x)))) (st) (h) Q) := (WP_at c_Law_ofNode_18 _ _ _ _)
theorem c_Law_ofNode_20 : mCode j_Law_ofNode 20 = oI 2 21 := (rfl)
theorem e_Law_ofNode_20  : (WP Gm j_Law_ofNode 20 (ls) (st) h Q) = (WP Gm j_Law_ofNode 21 (ls) (.inl 2 :: st) (h) Q) := (WP_at c_Law_ofNode_20 _ _ _ _)
theorem c_Law_ofNode_21 : mCode j_Law_ofNode 21 = oRetI := (rfl)
theorem e_Law_ofNode_21 (x : Int32) : (WP Gm j_Law_ofNode 21 (ls) ([.inl x]) h Q) = (Q (.inl (some (.inl x))) h) := (WP_at c_Law_ofNode_21 _ _ _ _)
theorem c_Law_ofNode_22 : mCode j_Law_ofNode 22 = oI 0 23 := (rfl)
theorem e_Law_ofNode_22  : (WP Gm j_Law_ofNode 22 (ls) (st) h Q) = (WP Gm j_Law_ofNode 23 (ls) (.inl 0 :: st) (h) Q) := (WP_at c_Law_ofNode_22 _ _ _ _)
theorem c_Law_ofNode_23 : mCode j_Law_ofNode 23 = oRetI := (rfl)
theorem e_Law_ofNode_23 (x : Int32) : (WP Gm j_Law_ofNode 23 (ls) ([.inl x]) h Q) = (Q (.inl (some (.inl x))) h) := (WP_at c_Law_ofNode_23 _ _ _ _)
theorem c_Law_inQueue_0 : mCode j_Law_inQueue 0 = oAld 4 2 := (rfl)
theorem e_Law_inQueue_0 (a0 a1 a2 a3 : Option MV) (x : Option Nat) : (WP Gm j_Law_inQueue 0 (a0 :: a1 :: a2 :: a3 :: some (.inr (.inl x)) :: ls) (st) h Q) = (WP Gm j_Law_inQueue 2 (a0 :: a1 :: a2 :: a3 :: some (.inr (.inl x)) :: ls) (.inr (.inl x) :: st) (h) Q) := (WP_at c_Law_inQueue_0 _ _ _ _)
theorem c_Law_inQueue_2 : mCode j_Law_inQueue 2 = oAld 0 3 := (rfl)
theorem e_Law_inQueue_2 (x : Option Nat) : (WP Gm j_Law_inQueue 2 (some (.inr (.inl x)) :: ls) (st) h Q) = (WP Gm j_Law_inQueue 3 (some (.inr (.inl x)) :: ls) (.inr (.inl x) :: st) (h) Q) := (WP_at c_Law_inQueue_2 _ _ _ _)
theorem c_Law_inQueue_3 : mCode j_Law_inQueue 3 = oIld 1 4 := (rfl)
theorem e_Law_inQueue_3 (a0 : Option MV) (x : Int32) : (WP Gm j_Law_inQueue 3 (a0 :: some (.inl x) :: ls) (st) h Q) = (WP Gm j_Law_inQueue 4 (a0 :: some (.inl x) :: ls) (.inl x :: st) (h) Q) := (WP_at c_Law_inQueue_3 _ _ _ _)
theorem c_Law_inQueue_4 : mCode j_Law_inQueue 4 = oIld 2 5 := (rfl)
theorem e_Law_inQueue_4 (a0 a1 : Option MV) (x : Int32) : (WP Gm j_Law_inQueue 4 (a0 :: a1 :: some (.inl x) :: ls) (st) h Q) = (WP Gm j_Law_inQueue 5 (a0 :: a1 :: some (.inl x) :: ls) (.inl x :: st) (h) Q) := (WP_at c_Law_inQueue_4 _ _ _ _)
theorem c_Law_inQueue_5 : mCode j_Law_inQueue 5 = oIld 3 6 := (rfl)
theorem e_Law_inQueue_5 (a0 a1 a2 : Option MV) (x : Int32) : (WP Gm j_Law_inQueue 5 (a0 :: a1 :: a2 :: some (.inl x) :: ls) (st) h Q) = (WP Gm j_Law_inQueue 6 (a0 :: a1 :: a2 :: some (.inl x) :: ls) (.inl x :: st) (h) Q) := (WP_at c_Law_inQueue_5 _ _ _ _)
theorem c_Law_inQueue_6 : mCode j_Law_inQueue 6 = oCallV kc_S j_S_inQueue 3 (mL j_S_inQueue) 9 := (rfl)
theorem e_Law_inQueue_6 (a : Nat) (x0 : Int32) (x1 : Int32) (x2 : Int32) (hk : isK h a kc_S = true) (hc : c8 st = true) : (WP Gm j_Law_inQueue 6 (ls) (.inl x2 :: .inl x1 :: .inl x0 :: .inr (.inl (some a)) :: st) h Q) = (WP Gm j_S_inQueue 0 [some (.inr (.inl (some a))), some (.inl x0), some (.inl x1), some (.inl x2), none] [] h (kC (fun v h2 => WP Gm j_Law_inQueue 9 ls (v.toList ++ st) h2 Q) (fun E h2 => match mHx_Law_inQueue E with | some (npc, k) => npc ≠ 0 ∧ WP Gm j_Law_inQueue npc (lSet1 ls k none) [] h2 Q | none => Q (.inr E) h2))) := (WP_at c_Law_inQueue_6 _ _ _ _).trans (congrArg (fun o => ndX Gm (WP Gm) j_Law_inQueue 6 o Q) (if_pos (by rw [hk, show decide (catS st ≤ 8) = true from hc]; rfl)))
theorem c_Law_inQueue_9 : mCode j_Law_inQueue 9 = oI2L 10 := (rfl)
theorem e_Law_inQueue_9 (x : Int32) : (WP Gm j_Law_inQueue 9 (ls) (.inl x :: st) h Q) = (WP Gm j_Law_inQueue 10 (ls) (.inr (.inr (.inl x.toInt64)) :: st) (h) Q) := (WP_at c_Law_inQueue_9 _ _ _ _)
theorem c_Law_inQueue_10 : mCode j_Law_inQueue 10 = oPutL kc_Out 0 13 := (rfl)
theorem e_Law_inQueue_10 (a : Nat) (x : Int64) (hk : isK h a kc_Out = true) : (WP Gm j_Law_inQueue 10 (ls) (.inr (.inr (.inl x)) :: .inr (.inl (some a)) :: st) h Q) = (WP Gm j_Law_inQueue 13 (ls) (st) (sL h a 0 x) Q) := (WP_at c_Law_inQueue_10 _ _ _ _).trans (congrArg (fun o => ndX Gm (WP Gm) j_Law_inQueue 10 o Q) (if_pos hk))
theorem c_Law_inQueue_13 : mCode j_Law_inQueue 13 = oGo 24 := (rfl)
theorem e_Law_inQueue_13  : (WP Gm j_Law_inQueue 13 (ls) (st) h Q) = (WP Gm j_Law_inQueue 24 (ls) (st) (h) Q) := (WP_at c_Law_inQueue_13 _ _ _ _)
theorem c_Law_inQueue_16 : mCode j_Law_inQueue 16 = oAst 5 18 := (rfl)
theorem e_Law_inQueue_16 (x : Option Nat) : (WP Gm j_Law_inQueue 16 (ls) (.inr (.inl x) :: st) h Q) = (WP Gm j_Law_inQueue 18 (lSet1 ls 5 (some (.inr (.inl x)))) (st) (h) Q) := (WP_at c_Law_inQueue_16 _ _ _ _)
theorem c_Law_inQueue_18 : mCode j_Law_inQueue 18 = oI 1 19 := (rfl)
theorem e_Law_inQueue_18  : (WP Gm j_Law_inQueue 18 (ls) (st) h Q) = (WP Gm j_Law_inQueue 19 (ls) (.inl 1 :: st) (h) Q) := (WP_at c_Law_inQueue_18 _ _ _ _)
theorem c_Law_inQueue_19 : mCode j_Law_inQueue 19 = oRetI := (rfl)
theorem e_Law_inQueue_19 (x : Int32) : (WP Gm j_Law_inQueue 19 (ls) ([.inl x]) h Q) = (Q (.inl (some (.inl x))) h) := (WP_at c_Law_inQueue_19 _ _ _ _)
theorem c_Law_inQueue_20 : mCode j_Law_inQueue 20 = oAst 5 22 := (rfl)
theorem e_Law_inQueue_20 (x : Option Nat) : (WP Gm j_Law_inQueue 20 (ls) (.inr (.inl x) :: st) h Q) = (WP Gm j_Law_inQueue 22 (lSet1 ls 5 (some (.inr (.inl x)))) (st) (h) Q) := (WP_at c_Law_inQueue_20 _ _ _ _)
theorem c_Law_inQueue_22 : mCode j_Law_inQueue 22 = oI 2 23 := (rfl)
theorem e_Law_inQueue_22  : (WP Gm j_Law_inQueue 22 (ls) (st) h Q) = (WP Gm j_Law_inQueue 23 (ls) (.inl 2 :: st) (h) Q) := (WP_at c_Law_inQueue_22 _ _ _ _)
theorem c_Law_inQueue_23 : mCode j_Law_inQueue 23 = oRetI := (rfl)
theorem e_Law_inQueue_23 (x : Int32) : (WP Gm j_Law_inQueue 23 (ls) ([.inl x]) h Q) = (Q (.inl (some (.inl x))) h) := (WP_at c_Law_inQueue_23 _ _ _ _)
theorem c_Law_inQueue_24 : mCode j_Law_inQueue 24 = oI 0 25 := (rfl)
theorem e_Law_inQueue_24  : (WP Gm j_Law_inQueue 24 (ls) (st) h Q) = (WP Gm j_Law_inQueue 25 (ls) (.inl 0 :: st) (h) Q) := (WP_at c_Law_inQueue_24 _ _ _ _)
theorem c_Law_inQueue_25 : mCode j_Law_inQueue 25 = oRetI := (rfl)
theorem e_Law_inQueue_25 (x : Int32) : (WP Gm j_Law_inQueue 25 (ls) ([.inl x]) h Q) = (Q (.inl (some (.inl x))) h) := (WP_at c_Law_inQueue_25 _ _ _ _)
theorem c_Law_route_0 : mCode j_Law_route 0 = oAld 4 2 := (rfl)
theorem e_Law_route_0 (a0 a1 a2 a3 : Option MV) (x : Option Nat) : (WP Gm j_Law_route 0 (a0 :: a1 :: a2 :: a3 :: some (.inr (.inl x)) :: ls) (st) h Q) = (WP Gm j_Law_route 2 (a0 :: a1 :: a2 :: a3 :: some (.inr (.inl x)) :: ls) (.inr (.inl x) :: st) (h) Q) := (WP_at c_Law_route_0 _ _ _ _)
theorem c_Law_route_2 : mCode j_Law_route 2 = oAld 0 3 := (rfl)
theorem e_Law_route_2 (x : Option Nat) : (WP Gm j_Law_route 2 (some (.inr (.inl x)) :: ls) (st) h Q) = (WP Gm j_Law_route 3 (some (.inr (.inl x)) :: ls) (.inr (.inl x) :: st) (h) Q) := (WP_at c_Law_route_2 _ _ _ _)
theorem c_Law_route_3 : mCode j_Law_route 3 = oIld 1 4 := (rfl)
theorem e_Law_route_3 (a0 : Option MV) (x : Int32) : (WP Gm j_Law_route 3 (a0 :: some (.inl x) :: ls) (st) h Q) = (WP Gm j_Law_route 4 (a0 :: some (.inl x) :: ls) (.inl x :: st) (h) Q) := (WP_at c_Law_route_3 _ _ _ _)
theorem c_Law_route_4 : mCode j_Law_route 4 = oIld 2 5 := (rfl)
theorem e_Law_route_4 (a0 a1 : Option MV) (x : Int32) : (WP Gm j_Law_route 4 (a0 :: a1 :: some (.inl x) :: ls) (st) h Q) = (WP Gm j_Law_route 5 (a0 :: a1 :: some (.inl x) :: ls) (.inl x :: st) (h) Q) := (WP_at c_Law_route_4 _ _ _ _)
theorem c_Law_route_5 : mCode j_Law_route 5 = oIld 3 6 := (rfl)
theorem e_Law_route_5 (a0 a1 a2 : Option MV) (x : Int32) : (WP Gm j_Law_route 5 (a0 :: a1 :: a2 :: some (.inl x) :: ls) (st) h Q) = (WP Gm j_Law_route 6 (a0 :: a1 :: a2 :: some (.inl x) :: ls) (.inl x :: st) (h) Q) := (WP_at c_Law_route_5 _ _ _ _)
theorem c_Law_route_6 : mCode j_Law_route 6 = oCallV kc_S j_S_route 3 (mL j_S_route) 9 := (rfl)
theorem e_Law_route_6 (a : Nat) (x0 : Int32) (x1 : Int32) (x2 : Int32) (hk : isK h a kc_S = true) (hc : c8 st = true) : (WP Gm j_Law_route 6 (ls) (.inl x2 :: .inl x1 :: .inl x0 :: .inr (.inl (some a)) :: st) h Q) = (WP Gm j_S_route 0 [some (.inr (.inl (some a))), some (.inl x0), some (.inl x1), some (.inl x2)] [] h (kC (fun v h2 => WP Gm j_Law_route 9 ls (v.toList ++ st) h2 Q) (fun E h2 => match mHx_Law_route E with | some (npc, k) => npc ≠ 0 ∧ WP Gm j_Law_route npc (lSet1 ls k none) [] h2 Q | none => Q (.inr E) h2))) := (WP_at c_Law_route_6 _ _ _ _).trans (congrArg (fun o => ndX Gm (WP Gm) j_Law_route 6 o Q) (if_pos (by rw [hk, show decide (catS st ≤ 8) = true from hc]; rfl)))
theorem c_Law_route_9 : mCode j_Law_route 9 = oI2L 10 := (rfl)
theorem e_Law_route_9 (x : Int32) : (WP Gm j_Law_route 9 (ls) (.inl x :: st) h Q) = (WP Gm j_Law_route 10 (ls) (.inr (.inr (.inl x.toInt64)) :: st) (h) Q) := (WP_at c_Law_route_9 _ _ _ _)
theorem c_Law_route_10 : mCode j_Law_route 10 = oPutL kc_Out 0 13 := (rfl)
theorem e_Law_route_10 (a : Nat) (x : Int64) (hk : isK h a kc_Out = true) : (WP Gm j_Law_route 10 (ls) (.inr (.inr (.inl x)) :: .inr (.inl (some a)) :: st) h Q) = (WP Gm j_Law_route 13 (ls) (st) (sL h a 0 x) Q) := (WP_at c_Law_route_10 _ _ _ _).trans (congrArg (fun o => ndX Gm (WP Gm) j_Law_route 10 o Q) (if_pos hk))
theorem c_Law_route_13 : mCode j_Law_route 13 = oGo 24 := (rfl)
theorem e_Law_route_13  : (WP Gm j_Law_route 13 (ls) (st) h Q) = (WP Gm j_Law_route 24 (ls) (st) (h) Q) := (WP_at c_Law_route_13 _ _ _ _)
theorem c_Law_route_16 : mCode j_Law_route 16 = oAst 5 18 := (rfl)
theorem e_Law_route_16 (x : Option Nat) : (WP Gm j_Law_route 16 (ls) (.inr (.inl x) :: st) h Q) = (WP Gm j_Law_route 18 (lSet1 ls 5 (some (.inr (.inl x)))) (st) (h) Q) := (WP_at c_Law_route_16 _ _ _ _)
theorem c_Law_route_18 : mCode j_Law_route 18 = oI 1 19 := (rfl)
theorem e_Law_route_18  : (WP Gm j_Law_route 18 (ls) (st) h Q) = (WP Gm j_Law_route 19 (ls) (.inl 1 :: st) (h) Q) := (WP_at c_Law_route_18 _ _ _ _)
theorem c_Law_route_19 : mCode j_Law_route 19 = oRetI := (rfl)
theorem e_Law_route_19 (x : Int32) : (WP Gm j_Law_route 19 (ls) ([.inl x]) h Q) = (Q (.inl (some (.inl x))) h) := (WP_at c_Law_route_19 _ _ _ _)
theorem c_Law_route_20 : mCode j_Law_route 20 = oAst 5 22 := (rfl)
theorem e_Law_route_20 (x : Option Nat) : (WP Gm j_Law_route 20 (ls) (.inr (.inl x) :: st) h Q) = (WP Gm j_Law_route 22 (lSet1 ls 5 (some (.inr (.inl x)))) (st) (h) Q) := (WP_at c_Law_route_20 _ _ _ _)
theorem c_Law_route_22 : mCode j_Law_route 22 = oI 2 23 := (rfl)
theorem e_Law_route_22  : (WP Gm j_Law_route 22 (ls) (st) h Q) = (WP Gm j_Law_route 23 (ls) (.inl 2 :: st) (h) Q) := (WP_at c_Law_route_22 _ _ _ _)
theorem c_Law_route_23 : mCode j_Law_route 23 = oRetI := (rfl)
theorem e_Law_route_23 (x : Int32) : (WP Gm j_Law_route 23 (ls) ([.inl x]) h Q) = (Q (.inl (some (.inl x))) h) := (WP_at c_Law_route_23 _ _ _ _)
theorem c_Law_route_24 : mCode j_Law_route 24 = oI 0 25 := (rfl)
theorem e_Law_route_24  : (WP Gm j_Law_route 24 (ls) (st) h Q) = (WP Gm j_Law_route 25 (ls) (.inl 0 :: st) (h) Q) := (WP_at c_Law_route_24 _ _ _ _)
theorem c_Law_route_25 : mCode j_Law_route 25 = oRetI := (rfl)
theorem e_Law_route_25 (x : Int32) : (WP Gm j_Law_route 25 (ls) ([.inl x]) h Q) = (Q (.inl (some (.inl x))) h) := (WP_at c_Law_route_25 _ _ _ _)
theorem c_Law_air_0 : mCode j_Law_air 0 = oAld 2 1 := (rfl)
theorem e_Law_air_0 (a0 a1 : Option MV) (x : Option Nat) : (WP Gm j_Law_air 0 (a0 :: a1 :: some (.inr (.inl x)) :: ls) (st) h Q) = (WP Gm j_Law_air 1 (a0 :: a1 :: some (.inr (.inl x)) :: ls) (.inr (.inl x) :: st) (h) Q) := (WP_at c_Law_air_0 _ _ _ _)
theorem c_Law_air_1 : mCode j_Law_air 1 = oAld 0 2 := (rfl)
theorem e_Law_air_1 (x : Option Nat) : (WP Gm j_Law_air 1 (some (.inr (.inl x)) :: ls) (st) h Q) = (WP Gm j_Law_air 2 (some (.inr (.inl x)) :: ls) (.inr (.inl x) :: st) (h) Q) := (WP_at c_Law_air_1 _ _ _ _)
theorem c_Law_air_2 : mCode j_Law_air 2 = oIld 1 3 := (rfl)
theorem e_Law_air_2 (a0 : Option MV) (x : Int32) : (WP Gm j_Law_air 2 (a0 :: some (.inl x) :: ls) (st) h Q) = (WP Gm j_Law_air 3 (a0 :: some (.inl x) :: ls) (.inl x :: st) (h) Q) := (WP_at c_Law_air_2 _ _ _ _)
theorem c_Law_air_3 : mCode j_Law_air 3 = oCallV kc_S j_S_air 1 (mL j_S_air) 6 := (rfl)
theorem e_Law_air_3 (a : Nat) (x0 : Int32) (hk : isK h a kc_S = true) (hc : c8 st = true) : (WP Gm j_Law_air 3 (ls) (.inl x0 :: .inr (.inl (some a)) :: st) h Q) = (WP Gm j_S_air 0 [some (.inr (.inl (some a))), some (.inl x0)] [] h (kC (fun v h2 => WP Gm j_Law_air 6 ls (v.toList ++ st) h2 Q) (fun E h2 => match mHx_Law_air E with | some (npc, k) => npc ≠ 0 ∧ WP Gm j_Law_air npc (lSet1 ls k none) [] h2 Q | none => Q (.inr E) h2))) := (WP_at c_Law_air_3 _ _ _ _).trans (congrArg (fun o => ndX Gm (WP Gm) j_Law_air 3 o Q) (if_pos (by rw [hk, show decide (catS st ≤ 8) = true from hc]; rfl)))
theorem c_Law_air_6 : mCode j_Law_air 6 = oI2L 7 := (rfl)
theorem e_Law_air_6 (x : Int32) : (WP Gm j_Law_air 6 (ls) (.inl x :: st) h Q) = (WP Gm j_Law_air 7 (ls) (.inr (.inr (.inl x.toInt64)) :: st) (h) Q) := (WP_at c_Law_air_6 _ _ _ _)
theorem c_Law_air_7 : mCode j_Law_air 7 = oPutL kc_Out 0 10 := (rfl)
theorem e_Law_air_7 (a : Nat) (x : Int64) (hk : isK h a kc_Out = true) : (WP Gm j_Law_air 7 (ls) (.inr (.inr (.inl x)) :: .inr (.inl (some a)) :: st) h Q) = (WP Gm j_Law_air 10 (ls) (st) (sL h a 0 x) Q) := (WP_at c_Law_air_7 _ _ _ _).trans (congrArg (fun o => ndX Gm (WP Gm) j_Law_air 7 o Q) (if_pos hk))
theorem c_Law_air_10 : mCode j_Law_air 10 = oGo 16 := (rfl)
theorem e_Law_air_10  : (WP Gm j_Law_air 10 (ls) (st) h Q) = (WP Gm j_Law_air 16 (ls) (st) (h) Q) := (WP_at c_Law_air_10 _ _ _ _)
theorem c_Law_air_13 : mCode j_Law_air 13 = oAst 3 14 := (rfl)
theorem e_Law_air_13 (x : Option Nat) : (WP Gm j_Law_air 13 (ls) (.inr (.inl x) :: st) h Q) = (WP Gm j_Law_air 14 (lSet1 ls 3 (some (.inr (.inl x)))) (st) (h) Q) := (WP_at c_Law_air_13 _ _ _ _)
theorem c_Law_air_14 : mCode j_Law_air 14 = oI 1 15 := (rfl)
theorem e_Law_air_14  : (WP Gm j_Law_air 14 (ls) (st) h Q) = (WP Gm j_Law_air 15 (ls) (.inl 1 :: st) (h) Q) := (WP_at c_Law_air_14 _ _ _ _)
theorem c_Law_air_15 : mCode j_Law_air 15 = oRetI := (rfl)
theorem e_Law_air_15 (x : Int32) : (WP Gm j_Law_air 15 (ls) ([.inl x]) h Q) = (Q (.inl (some (.inl x))) h) := (WP_at c_Law_air_15 _ _ _ _)
theorem c_Law_air_16 : mCode j_Law_air 16 = oI 0 17 := (rfl)
theorem e_Law_air_16  : (WP Gm j_Law_air 16 (ls) (st) h Q) = (WP Gm j_Law_air 17 (ls) (.inl 0 :: st) (h) Q) := (WP_at c_Law_air_16 _ _ _ _)
theorem c_Law_air_17 : mCode j_Law_air 17 = oRetI := (rfl)
theorem e_Law_air_17 (x : Int32) : (WP Gm j_Law_air 17 (ls) ([.inl x]) h Q) = (Q (.inl (some (.inl x))) h) := (WP_at c_Law_air_17 _ _ _ _)
theorem c_Law_delivered_0 : mCode j_Law_delivered 0 = oAld 3 1 := (rfl)
theorem e_Law_delivered_0 (a0 a1 a2 : Option MV) (x : Option Nat) : (WP Gm j_Law_delivered 0 (a0 :: a1 :: a2 :: some (.inr (.inl x)) :: ls) (st) h Q) = (WP Gm j_Law_delivered 1 (a0 :: a1 :: a2 :: some (.inr (.inl x)) :: ls) (.inr (.inl x) :: st) (h) Q) := (WP_at c_Law_delivered_0 _ _ _ _)
theorem c_Law_delivered_1 : mCode j_Law_delivered 1 = oAld 0 2 := (rfl)
theorem e_Law_delivered_1 (x : Option Nat) : (WP Gm j_Law_delivered 1 (some (.inr (.inl x)) :: ls) (st) h Q) = (WP Gm j_Law_delivered 2 (some (.inr (.inl x)) :: ls) (.inr (.inl x) :: st) (h) Q) := (WP_at c_Law_delivered_1 _ _ _ _)
theorem c_Law_delivered_2 : mCode j_Law_delivered 2 = oIld 1 3 := (rfl)
theorem e_Law_delivered_2 (a0 : Option MV) (x : Int32) : (WP Gm j_Law_delivered 2 (a0 :: some (.inl x) :: ls) (st) h Q) = (WP Gm j_Law_delivered 3 (a0 :: some (.inl x) :: ls) (.inl x :: st) (h) Q) := (WP_at c_Law_delivered_2 _ _ _ _)
theorem c_Law_delivered_3 : mCode j_Law_delivered 3 = oIld 2 4 := (rfl)
theorem e_Law_delivered_3 (a0 a1 : Option MV) (x : Int32) : (WP Gm j_Law_delivered 3 (a0 :: a1 :: some (.inl x) :: ls) (st) h Q) = (WP Gm j_Law_delivered 4 (a0 :: a1 :: some (.inl x) :: ls) (.inl x :: st) (h) Q) := (WP_at c_Law_delivered_3 _ _ _ _)
theorem c_Law_delivered_4 : mCode j_Law_delivered 4 = oCallV kc_S j_S_delivered 2 (mL j_S_delivered) 7 := (rfl)
theorem e_Law_delivered_4 (a : Nat) (x0 : Int32) (x1 : Int32) (hk : isK h a kc_S = true) (hc : c8 st = true) : (WP Gm j_Law_delivered 4 (ls) (.inl x1 :: .inl x0 :: .inr (.inl (some a)) :: st) h Q) = (WP Gm j_S_delivered 0 [some (.inr (.inl (some a))), some (.inl x0), some (.inl x1), none] [] h (kC (fun v h2 => WP Gm j_Law_delivered 7 ls (v.toList ++ st) h2 Q) (fun E h2 => match mHx_Law_delivered E with | some (npc, k) => npc ≠ 0 ∧ WP Gm j_Law_delivered npc (lSet1 ls k none) [] h2 Q | none => Q (.inr E) h2))) := (WP_at c_Law_delivered_4 _ _ _ _).trans (congrArg (fun o => ndX Gm (WP Gm) j_Law_delivered 4 o Q) (if_pos (by rw [hk, show decide (catS st ≤ 8) = true from hc]; rfl)))
theorem c_Law_delivered_7 : mCode j_Law_delivered 7 = oIf (fun x => decide (x = 0)) 14 10 := (rfl)
theorem e_Law_delivered_7 (x : Int32) : (WP Gm j_Law_delivered 7 (ls) (.inl x :: st) h Q) = (if x = 0 then WP Gm j_Law_delivered 14 (ls) (st) (h) Q else WP Gm j_Law_delivered 10 (ls) (st) (h) Q) := (WP_at c_Law_delivered_7 _ _ _ _).trans (nd_if rfl _ _ _ _)
theorem c_Law_delivered_10 : mCode j_Law_delivered 10 = oJ 1 11 := (rfl)
theorem e_Law_delivered_10  : (WP Gm j_Law_delivered 10 (ls) (st) h Q) = (WP Gm j_Law_delivered 11 (ls) (.inr (.inr (.inl 1)) :: st) (h) Q) := (WP_at c_Law_delivered_10 _ _ _ _)
theorem c_Law_delivered_11 : mCode j_Law_delivered 11 = oGo 15 := (rfl)
theorem e_Law_delivered_11  : (WP Gm j_Law_delivered 11 (ls) (st) h Q) = (WP Gm j_Law_delivered 15 (ls) (st) (h) Q) := (WP_at c_Law_delivered_11 _ _ _ _)
theorem c_Law_delivered_14 : mCode j_Law_delivered 14 = oJ 0 15 := (rfl)
theorem e_Law_delivered_14  : (WP Gm j_Law_delivered 14 (ls) (st) h Q) = (WP Gm j_Law_delivered 15 (ls) (.inr (.inr (.inl 0)) :: st) (h) Q) := (WP_at c_Law_delivered_14 _ _ _ _)
theorem c_Law_delivered_15 : mCode j_Law_delivered 15 = oPutL kc_Out 0 18 := (rfl)
theorem e_Law_delivered_15 (a : Nat) (x : Int64) (hk : isK h a kc_Out = true) : (WP Gm j_Law_delivered 15 (ls) (.inr (.inr (.inl x)) :: .inr (.inl (some a)) :: st) h Q) = (WP Gm j_Law_delivered 18 (ls) (st) (sL h a 0 x) Q) := (WP_at c_Law_delivered_15 _ _ _ _).trans (congrArg (fun o => ndX Gm (WP Gm) j_Law_delivered 15 o Q) (if_pos hk))
theorem c_Law_delivered_18 : mCode j_Law_delivered 18 = oGo 25 := (rfl)
theorem e_Law_delivered_18  : (WP Gm j_Law_delivered 18 (ls) (st) h Q) = (WP Gm j_Law_delivered 25 (ls) (st) (h) Q) := (WP_at c_Law_delivered_18 _ _ _ _)
theorem c_Law_delivered_21 : mCode j_Law_delivered 21 = oAst 4 23 := (rfl)
theorem e_Law_delivered_21 (x : Option Nat) : (WP Gm j_Law_delivered 21 (ls) (.inr (.inl x) :: st) h Q) = (WP Gm j_Law_delivered 23 (lSet1 ls 4 (some (.inr (.inl x)))) (st) (h) Q) := (WP_at c_Law_delivered_21 _ _ _ _)
theorem c_Law_delivered_23 : mCode j_Law_delivered 23 = oI 1 24 := (rfl)
theorem e_Law_delivered_23  : (WP Gm j_Law_delivered 23 (ls) (st) h Q) = (WP Gm j_Law_delivered 24 (ls) (.inl 1 :: st) (h) Q) := (WP_at c_Law_delivered_23 _ _ _ _)
theorem c_Law_delivered_24 : mCode j_Law_delivered 24 = oRetI := (rfl)
theorem e_Law_delivered_24 (x : Int32) : (WP Gm j_Law_delivered 24 (ls) ([.inl x]) h Q) = (Q (.inl (some (.inl x))) h) := (WP_at c_Law_delivered_24 _ _ _ _)
theorem c_Law_delivered_25 : mCode j_Law_delivered 25 = oI 0 26 := (rfl)
theorem e_Law_delivered_25  : (WP Gm j_Law_delivered 25 (ls) (st) h Q) = (WP Gm j_Law_delivered 26 (ls) (.inl 0 :: st) (h) Q) := (WP_at c_Law_delivered_25 _ _ _ _)
theorem c_Law_delivered_26 : mCode j_Law_delivered 26 = oRetI := (rfl)
theorem e_Law_delivered_26 (x : Int32) : (WP Gm j_Law_delivered 26 (ls) ([.inl x]) h Q) = (Q (.inl (some (.inl x))) h) := (WP_at c_Law_delivered_26 _ _ _ _)
theorem c_Law_would_0 : mCode j_Law_would 0 = oAld 3 1 := (rfl)
theorem e_Law_would_0 (a0 a1 a2 : Option MV) (x : Option Nat) : (WP Gm j_Law_would 0 (a0 :: a1 :: a2 :: some (.inr (.inl x)) :: ls) (st) h Q) = (WP Gm j_Law_would 1 (a0 :: a1 :: a2 :: some (.inr (.inl x)) :: ls) (.inr (.inl x) :: st) (h) Q) := (WP_at c_Law_would_0 _ _ _ _)
theorem c_Law_would_1 : mCode j_Law_would 1 = oAld 0 2 := (rfl)
theorem e_Law_would_1 (x : Option Nat) : (WP Gm j_Law_would 1 (some (.inr (.inl x)) :: ls) (st) h Q) = (WP Gm j_Law_would 2 (some (.inr (.inl x)) :: ls) (.inr (.inl x) :: st) (h) Q) := (WP_at c_Law_would_1 _ _ _ _)
theorem c_Law_would_2 : mCode j_Law_would 2 = oIld 1 3 := (rfl)
theorem e_Law_would_2 (a0 : Option MV) (x : Int32) : (WP Gm j_Law_would 2 (a0 :: some (.inl x) :: ls) (st) h Q) = (WP Gm j_Law_would 3 (a0 :: some (.inl x) :: ls) (.inl x :: st) (h) Q) := (WP_at c_Law_would_2 _ _ _ _)
theorem c_Law_would_3 : mCode j_Law_would 3 = oIld 2 4 := (rfl)
theorem e_Law_would_3 (a0 a1 : Option MV) (x : Int32) : (WP Gm j_Law_would 3 (a0 :: a1 :: some (.inl x) :: ls) (st) h Q) = (WP Gm j_Law_would 4 (a0 :: a1 :: some (.inl x) :: ls) (.inl x :: st) (h) Q) := (WP_at c_Law_would_3 _ _ _ _)
theorem c_Law_would_4 : mCode j_Law_would 4 = oCallV kc_S j_S_would 2 (mL j_S_would) 7 := (rfl)
theorem e_Law_would_4 (a : Nat) (x0 : Int32) (x1 : Int32) (hk : isK h a kc_S = true) (hc : c8 st = true) : (WP Gm j_Law_would 4 (ls) (.inl x1 :: .inl x0 :: .inr (.inl (some a)) :: st) h Q) = (WP Gm j_S_would 0 [some (.inr (.inl (some a))), some (.inl x0), some (.inl x1), none] [] h (kC (fun v h2 => WP Gm j_Law_would 7 ls (v.toList ++ st) h2 Q) (fun E h2 => match mHx_Law_would E with | some (npc, k) => npc ≠ 0 ∧ WP Gm j_Law_would npc (lSet1 ls k none) [] h2 Q | none => Q (.inr E) h2))) := (WP_at c_Law_would_4 _ _ _ _).trans (congrArg (fun o => ndX Gm (WP Gm) j_Law_would 4 o Q) (if_pos (by rw [hk, show decide (catS st ≤ 8) = true from hc]; rfl)))
theorem c_Law_would_7 : mCode j_Law_would 7 = oI2L 8 := (rfl)
theorem e_Law_would_7 (x : Int32) : (WP Gm j_Law_would 7 (ls) (.inl x :: st) h Q) = (WP Gm j_Law_would 8 (ls) (.inr (.inr (.inl x.toInt64)) :: st) (h) Q) := (WP_at c_Law_would_7 _ _ _ _)
theorem c_Law_would_8 : mCode j_Law_would 8 = oPutL kc_Out 0 11 := (rfl)
theorem e_Law_would_8 (a : Nat) (x : Int64) (hk : isK h a kc_Out = true) : (WP Gm j_Law_would 8 (ls) (.inr (.inr (.inl x)) :: .inr (.inl (some a)) :: st) h Q) = (WP Gm j_Law_would 11 (ls) (st) (sL h a 0 x) Q) := (WP_at c_Law_would_8 _ _ _ _).trans (congrArg (fun o => ndX Gm (WP Gm) j_Law_would 8 o Q) (if_pos hk))
theorem c_Law_would_11 : mCode j_Law_would 11 = oGo 22 := (rfl)
theorem e_Law_would_11  : (WP Gm j_Law_would 11 (ls) (st) h Q) = (WP Gm j_Law_would 22 (ls) (st) (h) Q) := (WP_at c_Law_would_11 _ _ _ _)
theorem c_Law_would_14 : mCode j_Law_would 14 = oAst 4 16 := (rfl)
theorem e_Law_would_14 (x : Option Nat) : (WP Gm j_Law_would 14 (ls) (.inr (.inl x) :: st) h Q) = (WP Gm j_Law_would 16 (lSet1 ls 4 (some (.inr (.inl x)))) (st) (h) Q) := (WP_at c_Law_would_14 _ _ _ _)
theorem c_Law_would_16 : mCode j_Law_would 16 = oI 1 17 := (rfl)
theorem e_Law_would_16  : (WP Gm j_Law_would 16 (ls) (st) h Q) = (WP Gm j_Law_would 17 (ls) (.inl 1 :: st) (h) Q) := (WP_at c_Law_would_16 _ _ _ _)
theorem c_Law_would_17 : mCode j_Law_would 17 = oRetI := (rfl)
theorem e_Law_would_17 (x : Int32) : (WP Gm j_Law_would 17 (ls) ([.inl x]) h Q) = (Q (.inl (some (.inl x))) h) := (WP_at c_Law_would_17 _ _ _ _)
theorem c_Law_would_18 : mCode j_Law_would 18 = oAst 4 20 := (rfl)
theorem e_Law_would_18 (x : Option Nat) : (WP Gm j_Law_would 18 (ls) (.inr (.inl x) :: st) h Q) = (WP Gm j_Law_would 20 (lSet1 ls 4 (some (.inr (.inl x)))) (st) (h) Q) := (WP_at c_Law_would_18 _ _ _ _)
theorem c_Law_would_20 : mCode j_Law_would 20 = oI 2 21 := (rfl)
theorem e_Law_would_20  : (WP Gm j_Law_would 20 (ls) (st) h Q) = (WP Gm j_Law_would 21 (ls) (.inl 2 :: st) (h) Q) := (WP_at c_Law_would_20 _ _ _ _)
theorem c_Law_would_21 : mCode j_Law_would 21 = oRetI := (rfl)
theorem e_Law_would_21 (x : Int32) : (WP Gm j_Law_would 21 (ls) ([.inl x]) h Q) = (Q (.inl (some (.inl x))) h) := (WP_at c_Law_would_21 _ _ _ _)
theorem c_Law_would_22 : mCode j_Law_would 22 = oI 0 23 := (rfl)
theorem e_Law_would_22  : (WP Gm j_Law_would 22 (ls) (st) h Q) = (WP Gm j_Law_would 23 (ls) (.inl 0 :: st) (h) Q) := (WP_at c_Law_would_22 _ _ _ _)
theorem c_Law_would_23 : mCode j_Law_would 23 = oRetI := (rfl)
theorem e_Law_would_23 (x : Int32) : (WP Gm j_Law_would 23 (ls) ([.inl x]) h Q) = (Q (.inl (some (.inl x))) h) := (WP_at c_Law_would_23 _ _ _ _)
theorem c_Law_throughput_0 : mCode j_Law_throughput 0 = oAld 3 1 := (rfl)
theorem e_Law_throughput_0 (a0 a1 a2 : Option MV) (x : Option Nat) : (WP Gm j_Law_throughput 0 (a0 :: a1 :: a2 :: some (.inr (.inl x)) :: ls) (st) h Q) = (WP Gm j_Law_throughput 1 (a0 :: a1 :: a2 :: some (.inr (.inl x)) :: ls) (.inr (.inl x) :: st) (h) Q) := (WP_at c_Law_throughput_0 _ _ _ _)
theorem c_Law_throughput_1 : mCode j_Law_throughput 1 = oAld 0 2 := (rfl)
theorem e_Law_throughput_1 (x : Option Nat) : (WP Gm j_Law_throughput 1 (some (.inr (.inl x)) :: ls) (st) h Q) = (WP Gm j_Law_throughput 2 (some (.inr (.inl x)) :: ls) (.inr (.inl x) :: st) (h) Q) := (WP_at c_Law_throughput_1 _ _ _ _)
theorem c_Law_throughput_2 : mCode j_Law_throughput 2 = oIld 1 3 := (rfl)
theorem e_Law_throughput_2 (a0 : Option MV) (x : Int32) : (WP Gm j_Law_throughput 2 (a0 :: some (.inl x) :: ls) (st) h Q) = (WP Gm j_Law_throughput 3 (a0 :: some (.inl x) :: ls) (.inl x :: st) (h) Q) := (WP_at c_Law_throughput_2 _ _ _ _)
theorem c_Law_throughput_3 : mCode j_Law_throughput 3 = oIld 2 4 := (rfl)
theorem e_Law_throughput_3 (a0 a1 : Option MV) (x : Int32) : (WP Gm j_Law_throughput 3 (a0 :: a1 :: some (.inl x) :: ls) (st) h Q) = (WP Gm j_Law_throughput 4 (a0 :: a1 :: some (.inl x) :: ls) (.inl x :: st) (h) Q) := (WP_at c_Law_throughput_3 _ _ _ _)
theorem c_Law_throughput_4 : mCode j_Law_throughput 4 = oCallV kc_S j_S_throughput 2 (mL j_S_throughput) 7 := (rfl)
theorem e_Law_throughput_4 (a : Nat) (x0 : Int32) (x1 : Int32) (hk : isK h a kc_S = true) (hc : c8 st = true) : (WP Gm j_Law_throughput 4 (ls) (.inl x1 :: .inl x0 :: .inr (.inl (some a)) :: st) h Q) = (WP Gm j_S_throughput 0 [some (.inr (.inl (some a))), some (.inl x0), some (.inl x1)] [] h (kC (fun v h2 => WP Gm j_Law_throughput 7 ls (v.toList ++ st) h2 Q) (fun E h2 => match mHx_Law_throughput E with | some (npc, k) => npc ≠ 0 ∧ WP Gm j_Law_throughput npc (lSet1 ls k none) [] h2 Q | none => Q (.inr E) h2))) := (WP_at c_Law_throughput_4 _ _ _ _).trans (congrArg (fun o => ndX Gm (WP Gm) j_Law_throughput 4 o Q) (if_pos (by rw [hk, show decide (catS st ≤ 8) = true from hc]; rfl)))
theorem c_Law_throughput_7 : mCode j_Law_throughput 7 = oPutD kc_Out 1 10 := (rfl)
theorem e_Law_throughput_7 (a : Nat) (x : UInt64) (hk : isK h a kc_Out = true) : (WP Gm j_Law_throughput 7 (ls) (.inr (.inr (.inr x)) :: .inr (.inl (some a)) :: st) h Q) = (WP Gm j_Law_throughput 10 (ls) (st) (sD h a 1 x) Q) := (WP_at c_Law_throughput_7 _ _ _ _).trans (congrArg (fun o => ndX Gm (WP Gm) j_Law_throughput 7 o Q) (if_pos hk))
theorem c_Law_throughput_10 : mCode j_Law_throughput 10 = oGo 17 := (rfl)
theorem e_Law_throughput_10  : (WP Gm j_Law_throughput 10 (ls) (st) h Q) = (WP Gm j_Law_throughput 17 (ls) (st) (h) Q) := (WP_at c_Law_throughput_10 _ _ _ _)
theorem c_Law_throughput_13 : mCode j_Law_throughput 13 = oAst 4 15 := (rfl)
theorem e_Law_throughput_13 (x : Option Nat) : (WP Gm j_Law_throughput 13 (ls) (.inr (.inl x) :: st) h Q) = (WP Gm j_Law_throughput 15 (lSet1 ls 4 (some (.inr (.inl x)))) (st) (h) Q) := (WP_at c_Law_throughput_13 _ _ _ _)
theorem c_Law_throughput_15 : mCode j_Law_throughput 15 = oI 1 16 := (rfl)
theorem e_Law_throughput_15  : (WP Gm j_Law_throughput 15 (ls) (st) h Q) = (WP Gm j_Law_throughput 16 (ls) (.inl 1 :: st) (h) Q) := (WP_at c_Law_throughput_15 _ _ _ _)
theorem c_Law_throughput_16 : mCode j_Law_throughput 16 = oRetI := (rfl)
theorem e_Law_throughput_16 (x : Int32) : (WP Gm j_Law_throughput 16 (ls) ([.inl x]) h Q) = (Q (.inl (some (.inl x))) h) := (WP_at c_Law_throughput_16 _ _ _ _)
theorem c_Law_throughput_17 : mCode j_Law_throughput 17 = oI 0 18 := (rfl)
theorem e_Law_throughput_17  : (WP Gm j_Law_throughput 17 (ls) (st) h Q) = (WP Gm j_Law_throughput 18 (ls) (.inl 0 :: st) (h) Q) := (WP_at c_Law_throughput_17 _ _ _ _)
theorem c_Law_throughput_18 : mCode j_Law_throughput 18 = oRetI := (rfl)
theorem e_Law_throughput_18 (x : Int32) : (WP Gm j_Law_throughput 18 (ls) ([.inl x]) h Q) = (Q (.inl (some (.inl x))) h) := (WP_at c_Law_throughput_18 _ _ _ _)
theorem c_Law_bestChance_0 : mCode j_Law_bestChance 0 = oAld 2 1 := (rfl)
theorem e_Law_bestChance_0 (a0 a1 : Option MV) (x : Option Nat) : (WP Gm j_Law_bestChance 0 (a0 :: a1 :: some (.inr (.inl x)) :: ls) (st) h Q) = (WP Gm j_Law_bestChance 1 (a0 :: a1 :: some (.inr (.inl x)) :: ls) (.inr (.inl x) :: st) (h) Q) := (WP_at c_Law_bestChance_0 _ _ _ _)
theorem c_Law_bestChance_1 : mCode j_Law_bestChance 1 = oAld 0 2 := (rfl)
theorem e_Law_bestChance_1 (x : Option Nat) : (WP Gm j_Law_bestChance 1 (some (.inr (.inl x)) :: ls) (st) h Q) = (WP Gm j_Law_bestChance 2 (some (.inr (.inl x)) :: ls) (.inr (.inl x) :: st) (h) Q) := (WP_at c_Law_bestChance_1 _ _ _ _)
theorem c_Law_bestChance_2 : mCode j_Law_bestChance 2 = oIld 1 3 := (rfl)
theorem e_Law_bestChance_2 (a0 : Option MV) (x : Int32) : (WP Gm j_Law_bestChance 2 (a0 :: some (.inl x) :: ls) (st) h Q) = (WP Gm j_Law_bestChance 3 (a0 :: some (.inl x) :: ls) (.inl x :: st) (h) Q) := (WP_at c_Law_bestChance_2 _ _ _ _)
theorem c_Law_bestChance_3 : mCode j_Law_bestChance 3 = oCallV kc_S j_S_bestChance 1 (mL j_S_bestChance) 6 := (rfl)
theorem e_Law_bestChance_3 (a : Nat) (x0 : Int32) (hk : isK h a kc_S = true) (hc : c8 st = true) : (WP Gm j_Law_bestChance 3 (ls) (.inl x0 :: .inr (.inl (some a)) :: st) h Q) = (WP Gm j_S_bestChance 0 [some (.inr (.inl (some a))), some (.inl x0), none, none, none, none, none, none] [] h (kC (fun v h2 => WP Gm j_Law_bestChance 6 ls (v.toList ++ st) h2 Q) (fun E h2 => match mHx_Law_bestChance E with | some (npc, k) => npc ≠ 0 ∧ WP Gm j_Law_bestChance npc (lSet1 ls k none) [] h2 Q | none => Q (.inr E) h2))) := (WP_at c_Law_bestChance_3 _ _ _ _).trans (congrArg (fun o => ndX Gm (WP Gm) j_Law_bestChance 3 o Q) (if_pos (by rw [hk, show decide (catS st ≤ 8) = true from hc]; rfl)))
theorem c_Law_bestChance_6 : mCode j_Law_bestChance 6 = oI2L 7 := (rfl)
theorem e_Law_bestChance_6 (x : Int32) : (WP Gm j_Law_bestChance 6 (ls) (.inl x :: st) h Q) = (WP Gm j_Law_bestChance 7 (ls) (.inr (.inr (.inl x.toInt64)) :: st) (h) Q) := (WP_at c_Law_bestChance_6 _ _ _ _)
theorem c_Law_bestChance_7 : mCode j_Law_bestChance 7 = oPutL kc_Out 0 10 := (rfl)
theorem e_Law_bestChance_7 (a : Nat) (x : Int64) (hk : isK h a kc_Out = true) : (WP Gm j_Law_bestChance 7 (ls) (.inr (.inr (.inl x)) :: .inr (.inl (some a)) :: st) h Q) = (WP Gm j_Law_bestChance 10 (ls) (st) (sL h a 0 x) Q) := (WP_at c_Law_bestChance_7 _ _ _ _).trans (congrArg (fun o => ndX Gm (WP Gm) j_Law_bestChance 7 o Q) (if_pos hk))
theorem c_Law_bestChance_10 : mCode j_Law_bestChance 10 = oGo 16 := (rfl)
theorem e_Law_bestChance_10  : (WP Gm j_Law_bestChance 10 (ls) (st) h Q) = (WP Gm j_Law_bestChance 16 (ls) (st) (h) Q) := (WP_at c_Law_bestChance_10 _ _ _ _)
theorem c_Law_bestChance_13 : mCode j_Law_bestChance 13 = oAst 3 14 := (rfl)
theorem e_Law_bestChance_13 (x : Option Nat) : (WP Gm j_Law_bestChance 13 (ls) (.inr (.inl x) :: st) h Q) = (WP Gm j_Law_bestChance 14 (lSet1 ls 3 (some (.inr (.inl x)))) (st) (h) Q) := (WP_at c_Law_bestChance_13 _ _ _ _)
theorem c_Law_bestChance_14 : mCode j_Law_bestChance 14 = oI 1 15 := (rfl)
theorem e_Law_bestChance_14  : (WP Gm j_Law_bestChance 14 (ls) (st) h Q) = (WP Gm j_Law_bestChance 15 (ls) (.inl 1 :: st) (h) Q) := (WP_at c_Law_bestChance_14 _ _ _ _)
theorem c_Law_bestChance_15 : mCode j_Law_bestChance 15 = oRetI := (rfl)
theorem e_Law_bestChance_15 (x : Int32) : (WP Gm j_Law_bestChance 15 (ls) ([.inl x]) h Q) = (Q (.inl (some (.inl x))) h) := (WP_at c_Law_bestChance_15 _ _ _ _)
theorem c_Law_bestChance_16 : mCode j_Law_bestChance 16 = oI 0 17 := (rfl)
theorem e_Law_bestChance_16  : (WP Gm j_Law_bestChance 16 (ls) (st) h Q) = (WP Gm j_Law_bestChance 17 (ls) (.inl 0 :: st) (h) Q) := (WP_at c_Law_bestChance_16 _ _ _ _)
theorem c_Law_bestChance_17 : mCode j_Law_bestChance 17 = oRetI := (rfl)
theorem e_Law_bestChance_17 (x : Int32) : (WP Gm j_Law_bestChance 17 (ls) ([.inl x]) h Q) = (Q (.inl (some (.inl x))) h) := (WP_at c_Law_bestChance_17 _ _ _ _)
theorem c_Law_auction_0 : mCode j_Law_auction 0 = oAld 2 1 := (rfl)
theorem e_Law_auction_0 (a0 a1 : Option MV) (x : Option Nat) : (WP Gm j_Law_auction 0 (a0 :: a1 :: some (.inr (.inl x)) :: ls) (st) h Q) = (WP Gm j_Law_auction 1 (a0 :: a1 :: some (.inr (.inl x)) :: ls) (.inr (.inl x) :: st) (h) Q) := (WP_at c_Law_auction_0 _ _ _ _)
theorem c_Law_auction_1 : mCode j_Law_auction 1 = oAld 0 2 := (rfl)
theorem e_Law_auction_1 (x : Option Nat) : (WP Gm j_Law_auction 1 (some (.inr (.inl x)) :: ls) (st) h Q) = (WP Gm j_Law_auction 2 (some (.inr (.inl x)) :: ls) (.inr (.inl x) :: st) (h) Q) := (WP_at c_Law_auction_1 _ _ _ _)
theorem c_Law_auction_2 : mCode j_Law_auction 2 = oIld 1 3 := (rfl)
theorem e_Law_auction_2 (a0 : Option MV) (x : Int32) : (WP Gm j_Law_auction 2 (a0 :: some (.inl x) :: ls) (st) h Q) = (WP Gm j_Law_auction 3 (a0 :: some (.inl x) :: ls) (.inl x :: st) (h) Q) := (WP_at c_Law_auction_2 _ _ _ _)
theorem c_Law_auction_3 : mCode j_Law_auction 3 = oCallV kc_S j_S_auction 1 (mL j_S_auction) 6 := (rfl)
theorem e_Law_auction_3 (a : Nat) (x0 : Int32) (hk : isK h a kc_S = true) (hc : c8 st = true) : (WP Gm j_Law_auction 3 (ls) (.inl x0 :: .inr (.inl (some a)) :: st) h Q) = (WP Gm j_S_auction 0 [some (.inr (.inl (some a))), some (.inl x0)] [] h (kC (fun v h2 => WP Gm j_Law_auction 6 ls (v.toList ++ st) h2 Q) (fun E h2 => match mHx_Law_auction E with | some (npc, k) => npc ≠ 0 ∧ WP Gm j_Law_auction npc (lSet1 ls k none) [] h2 Q | none => Q (.inr E) h2))) := (WP_at c_Law_auction_3 _ _ _ _).trans (congrArg (fun o => ndX Gm (WP Gm) j_Law_auction 3 o Q) (if_pos (by rw [hk, show decide (catS st ≤ 8) = true from hc]; rfl)))
theorem c_Law_auction_6 : mCode j_Law_auction 6 = oI2L 7 := (rfl)
theorem e_Law_auction_6 (x : Int32) : (WP Gm j_Law_auction 6 (ls) (.inl x :: st) h Q) = (WP Gm j_Law_auction 7 (ls) (.inr (.inr (.inl x.toInt64)) :: st) (h) Q) := (WP_at c_Law_auction_6 _ _ _ _)
theorem c_Law_auction_7 : mCode j_Law_auction 7 = oPutL kc_Out 0 10 := (rfl)
theorem e_Law_auction_7 (a : Nat) (x : Int64) (hk : isK h a kc_Out = true) : (WP Gm j_Law_auction 7 (ls) (.inr (.inr (.inl x)) :: .inr (.inl (some a)) :: st) h Q) = (WP Gm j_Law_auction 10 (ls) (st) (sL h a 0 x) Q) := (WP_at c_Law_auction_7 _ _ _ _).trans (congrArg (fun o => ndX Gm (WP Gm) j_Law_auction 7 o Q) (if_pos hk))
theorem c_Law_auction_10 : mCode j_Law_auction 10 = oGo 16 := (rfl)
theorem e_Law_auction_10  : (WP Gm j_Law_auction 10 (ls) (st) h Q) = (WP Gm j_Law_auction 16 (ls) (st) (h) Q) := (WP_at c_Law_auction_10 _ _ _ _)
theorem c_Law_auction_13 : mCode j_Law_auction 13 = oAst 3 14 := (rfl)
theorem e_Law_auction_13 (x : Option Nat) : (WP Gm j_Law_auction 13 (ls) (.inr (.inl x) :: st) h Q) = (WP Gm j_Law_auction 14 (lSet1 ls 3 (some (.inr (.inl x)))) (st) (h) Q) := (WP_at c_Law_auction_13 _ _ _ _)
theorem c_Law_auction_14 : mCode j_Law_auction 14 = oI 1 15 := (rfl)
theorem e_Law_auction_14  : (WP Gm j_Law_auction 14 (ls) (st) h Q) = (WP Gm j_Law_auction 15 (ls) (.inl 1 :: st) (h) Q) := (WP_at c_Law_auction_14 _ _ _ _)
theorem c_Law_auction_15 : mCode j_Law_auction 15 = oRetI := (rfl)
theorem e_Law_auction_15 (x : Int32) : (WP Gm j_Law_auction 15 (ls) ([.inl x]) h Q) = (Q (.inl (some (.inl x))) h) := (WP_at c_Law_auction_15 _ _ _ _)
theorem c_Law_auction_16 : mCode j_Law_auction 16 = oI 0 17 := (rfl)
theorem e_Law_auction_16  : (WP Gm j_Law_auction 16 (ls) (st) h Q) = (WP Gm j_Law_auction 17 (ls) (.inl 0 :: st) (h) Q) := (WP_at c_Law_auction_16 _ _ _ _)
theorem c_Law_auction_17 : mCode j_Law_auction 17 = oRetI := (rfl)
theorem e_Law_auction_17 (x : Int32) : (WP Gm j_Law_auction 17 (ls) ([.inl x]) h Q) = (Q (.inl (some (.inl x))) h) := (WP_at c_Law_auction_17 _ _ _ _)
set_option maxRecDepth 100000 in
theorem c_Law_law_0 : mCode j_Law_law 0 = oNew cM sM kc_S 5 3 := (rfl)
theorem e_Law_law_0 (hr : okR cM sM h 1 5 = true) : (WP Gm j_Law_law 0 (ls) (st) h Q) = (WP Gm j_Law_law 3 (ls) (.inr (.inl (some (nx h))) :: st) (hN h kc_S 0 5) Q) := (WP_at c_Law_law_0 _ _ _ _).trans (congrArg (fun o => ndX Gm (WP Gm) j_Law_law 0 o Q) (if_pos hr))
set_option maxRecDepth 100000 in
theorem c_Law_law_3 : mCode j_Law_law 3 = oDup 4 := (rfl)
theorem e_Law_law_3 (x : Option Nat) : (WP Gm j_Law_law 3 (ls) (.inr (.inl x) :: st) h Q) = (WP Gm j_Law_law 4 (ls) (.inr (.inl x) :: .inr (.inl x) :: st) (h) Q) := (WP_at c_Law_law_3 _ _ _ _)
set_option maxRecDepth 100000 in
theorem c_Law_law_4 : mCode j_Law_law 4 = oCallV kc_S j_S_init 0 (mL j_S_init) 7 := (rfl)
theorem e_Law_law_4 (a : Nat) (hk : isK h a kc_S = true) (hc : c8 st = true) : (WP Gm j_Law_law 4 (ls) (.inr (.inl (some a)) :: st) h Q) = (WP Gm j_S_init 0 [some (.inr (.inl (some a)))] [] h (kC (fun v h2 => WP Gm j_Law_law 7 ls (v.toList ++ st) h2 Q) (fun E h2 => Q (.inr E) h2))) := (WP_at c_Law_law_4 _ _ _ _).trans (congrArg (fun o => ndX Gm (WP Gm) j_Law_law 4 o Q) (if_pos (by rw [hk, show decide (catS st ≤ 8) = true from hc]; rfl)))
set_option maxRecDepth 100000 in
theorem c_Law_law_7 : mCode j_Law_law 7 = oAst 1 8 := (rfl)
theorem e_Law_law_7 (x : Option Nat) : (WP Gm j_Law_law 7 (ls) (.inr (.inl x) :: st) h Q) = (WP Gm j_Law_law 8 (lSet1 ls 1 (some (.inr (.inl x)))) (st) (h) Q) := (WP_at c_Law_law_7 _ _ _ _)
set_option maxRecDepth 100000 in
theorem c_Law_law_8 : mCode j_Law_law 8 = oNew cM sM kc_Mdl 12 11 := (rfl)
theorem e_Law_law_8 (hr : okR cM sM h 1 12 = true) : (WP Gm j_Law_law 8 (ls) (st) h Q) = (WP Gm j_Law_law 11 (ls) (.inr (.inl (some (nx h))) :: st) (hN h kc_Mdl 0 12) Q) := (WP_at c_Law_law_8 _ _ _ _).trans (congrArg (fun o => ndX Gm (WP Gm) j_Law_law 8 o Q) (if_pos hr))
set_option maxRecDepth 100000 in
theorem c_Law_law_11 : mCode j_Law_law 11 = oDup 12 := (rfl)
theorem e_Law_law_11 (x : Option Nat) : (WP Gm j_Law_law 11 (ls) (.inr (.inl x) :: st) h Q) = (WP Gm j_Law_law 12 (ls) (.inr (.inl x) :: .inr (.inl x) :: st) (h) Q) := (WP_at c_Law_law_11 _ _ _ _)
set_option maxRecDepth 100000 in
theorem c_Law_law_12 : mCode j_Law_law 12 = oCallV kc_Mdl j_Mdl_init 0 (mL j_Mdl_init) 15 := (rfl)
theorem e_Law_law_12 (a : Nat) (hk : isK h a kc_Mdl = true) (hc : c8 st = true) : (WP Gm j_Law_law 12 (ls) (.inr (.inl (some a)) :: st) h Q) = (WP Gm j_Mdl_init 0 [some (.inr (.inl (some a)))] [] h (kC (fun v h2 => WP Gm j_Law_law 15 ls (v.toList ++ st) h2 Q) (fun E h2 => Q (.inr E) h2))) := (WP_at c_Law_law_12 _ _ _ _).trans (congrArg (fun o => ndX Gm (WP Gm) j_Law_law 12 o Q) (if_pos (by rw [hk, show decide (catS st ≤ 8) = true from hc]; rfl)))
set_option maxRecDepth 100000 in
theorem c_Law_law_15 : mCode j_Law_law 15 = oAst 2 16 := (rfl)
theorem e_Law_law_15 (x : Option Nat) : (WP Gm j_Law_law 15 (ls) (.inr (.inl x) :: st) h Q) = (WP Gm j_Law_law 16 (lSet1 ls 2 (some (.inr (.inl x)))) (st) (h) Q) := (WP_at c_Law_law_15 _ _ _ _)
set_option maxRecDepth 100000 in
theorem c_Law_law_16 : mCode j_Law_law 16 = oNew cM sM kc_Out 2 19 := (rfl)
theorem e_Law_law_16 (hr : okR cM sM h 1 2 = true) : (WP Gm j_Law_law 16 (ls) (st) h Q) = (WP Gm j_Law_law 19 (ls) (.inr (.inl (some (nx h))) :: st) (hN h kc_Out 0 2) Q) := (WP_at c_Law_law_16 _ _ _ _).trans (congrArg (fun o => ndX Gm (WP Gm) j_Law_law 16 o Q) (if_pos hr))
set_option maxRecDepth 100000 in
theorem c_Law_law_19 : mCode j_Law_law 19 = oDup 20 := (rfl)
theorem e_Law_law_19 (x : Option Nat) : (WP Gm j_Law_law 19 (ls) (.inr (.inl x) :: st) h Q) = (WP Gm j_Law_law 20 (ls) (.inr (.inl x) :: .inr (.inl x) :: st) (h) Q) := (WP_at c_Law_law_19 _ _ _ _)
set_option maxRecDepth 100000 in
theorem c_Law_law_20 : mCode j_Law_law 20 = oCallV kc_Out j_Out_init 0 (mL j_Out_init) 23 := (rfl)
theorem e_Law_law_20 (a : Nat) (hk : isK h a kc_Out = true) (hc : c8 st = true) : (WP Gm j_Law_law 20 (ls) (.inr (.inl (some a)) :: st) h Q) = (WP Gm j_Out_init 0 [some (.inr (.inl (some a)))] [] h (kC (fun v h2 => WP Gm j_Law_law 23 ls (v.toList ++ st) h2 Q) (fun E h2 => Q (.inr E) h2))) := (WP_at c_Law_law_20 _ _ _ _).trans (congrArg (fun o => ndX Gm (WP Gm) j_Law_law 20 o Q) (if_pos (by rw [hk, show decide (catS st ≤ 8) = true from hc]; rfl)))
set_option maxRecDepth 100000 in
theorem c_Law_law_23 : mCode j_Law_law 23 = oAst 3 24 := (rfl)
theorem e_Law_law_23 (x : Option Nat) : (WP Gm j_Law_law 23 (ls) (.inr (.inl x) :: st) h Q) = (WP Gm j_Law_law 24 (lSet1 ls 3 (some (.inr (.inl x)))) (st) (h) Q) := (WP_at c_Law_law_23 _ _ _ _)
set_option maxRecDepth 100000 in
theorem c_Law_law_24 : mCode j_Law_law 24 = oI 0 25 := (rfl)
theorem e_Law_law_24  : (WP Gm j_Law_law 24 (ls) (st) h Q) = (WP Gm j_Law_law 25 (ls) (.inl 0 :: st) (h) Q) := (WP_at c_Law_law_24 _ _ _ _)
set_option maxRecDepth 100000 in
theorem c_Law_law_25 : mCode j_Law_law 25 = oIst 4 27 := (rfl)
theorem e_Law_law_25 (x : Int32) : (WP Gm j_Law_law 25 (ls) (.inl x :: st) h Q) = (WP Gm j_Law_law 27 (lSet1 ls 4 (some (.inl x))) (st) (h) Q) := (WP_at c_Law_law_25 _ _ _ _)
set_option maxRecDepth 100000 in
theorem c_Law_law_27 : mCode j_Law_law 27 = oIld 4 29 := (rfl)
theorem e_Law_law_27 (a0 a1 a2 a3 : Option MV) (x : Int32) : (WP Gm j_Law_law 27 (a0 :: a1 :: a2 :: a3 :: some (.inl x) :: ls) (st) h Q) = (WP Gm j_Law_law 29 (a0 :: a1 :: a2 :: a3 :: some (.inl x) :: ls) (.inl x :: st) (h) Q) := (WP_at c_Law_law_27 _ _ _ _)
set_option maxRecDepth 100000 in
theorem c_Law_law_29 : mCode j_Law_law 29 = oAld 0 30 := (rfl)
theorem e_Law_law_29 (x : Option Nat) : (WP Gm j_Law_law 29 (some (.inr (.inl x)) :: ls) (st) h Q) = (WP Gm j_Law_law 30 (some (.inr (.inl x)) :: ls) (.inr (.inl x) :: st) (h) Q) := (WP_at c_Law_law_29 _ _ _ _)
set_option maxRecDepth 100000 in
theorem c_Law_law_30 : mCode j_Law_law 30 = oLen 0 31 := (rfl)
theorem e_Law_law_30 (a : Nat) (hk : isK h a 100 = true) : (WP Gm j_Law_law 30 (ls) (.inr (.inl (some a)) :: st) h Q) = (WP Gm j_Law_law 31 (ls) (.inl (Int32.ofNat (ln h a)) :: st) (h) Q) := (WP_at c_Law_law_30 _ _ _ _).trans (congrArg (fun o => ndX Gm (WP Gm) j_Law_law 30 o Q) (if_pos hk))
set_option maxRecDepth 100000 in
theorem c_Law_law_31 : mCode j_Law_law 31 = oI 5 32 := (rfl)
theorem e_Law_law_31  : (WP Gm j_Law_law 31 (ls) (st) h Q) = (WP Gm j_Law_law 32 (ls) (.inl 5 :: st) (h) Q) := (WP_at c_Law_law_31 _ _ _ _)
set_option maxRecDepth 100000 in
theorem c_Law_law_32 : mCode j_Law_law 32 = oII (fun x y => x - y) 33 := (rfl)
theorem e_Law_law_32 (x : Int32) (y : Int32) : (WP Gm j_Law_law 32 (ls) (.inl y :: .inl x :: st) h Q) = (WP Gm j_Law_law 33 (ls) (.inl (x - y) :: st) (h) Q) := (WP_at c_Law_law_32 _ _ _ _)
set_option maxRecDepth 100000 in
theorem c_Law_law_33 : mCode j_Law_law 33 = oIC (fun x y => decide (y < x)) 1555 36 := (rfl)
theorem e_Law_law_33 (x y : Int32) : (WP Gm j_Law_law 33 (ls) (.inl y :: .inl x :: st) h Q) = (if y < x then WP Gm j_Law_law 1555 (ls) (st) (h) Q else WP Gm j_Law_law 36 (ls) (st) (h) Q) := (WP_at c_Law_law_33 _ _ _ _).trans (nd_ic rfl _ _ _ _)
set_option maxRecDepth 100000 in
theorem c_Law_law_36 : mCode j_Law_law 36 = oAld 0 37 := (rfl)
theorem e_Law_law_36 (x : Option Nat) : (WP Gm j_Law_law 36 (some (.inr (.inl x)) :: ls) (st) h Q) = (WP Gm j_Law_law 37 (some (.inr (.inl x)) :: ls) (.inr (.inl x) :: st) (h) Q) := (WP_at c_Law_law_36 _ _ _ _)
set_option maxRecDepth 100000 in
theorem c_Law_law_37 : mCode j_Law_law 37 = oIld 4 39 := (rfl)
theorem e_Law_law_37 (a0 a1 a2 a3 : Option MV) (x : Int32) : (WP Gm j_Law_law 37 (a0 :: a1 :: a2 :: a3 :: some (.inl x) :: ls) (st) h Q) = (WP Gm j_Law_law 39 (a0 :: a1 :: a2 :: a3 :: some (.inl x) :: ls) (.inl x :: st) (h) Q) := (WP_at c_Law_law_37 _ _ _ _)
set_option maxRecDepth 100000 in
theorem c_Law_law_39 : mCode j_Law_law 39 = oIal 0 40 := (rfl)
theorem e_Law_law_39 (a : Nat) (i : Int32) (hk : isK h a 100 = true) (hi : inL h a i = true) : (WP Gm j_Law_law 39 (ls) (.inl i :: .inr (.inl (some a)) :: st) h Q) = (WP Gm j_Law_law 40 (ls) (.inl (gI h a i.toNatClampNeg) :: st) (h) Q) := (WP_at c_Law_law_39 _ _ _ _).trans (congrArg (fun o => ndX Gm (WP Gm) j_Law_law 39 o Q) (if_pos (by rw [hk, hi]; rfl)))
set_option maxRecDepth 100000 in
theorem c_Law_law_40 : mCode j_Law_law 40 = oI 31 42 := (rfl)
theorem e_Law_law_40  : (WP Gm j_Law_law 40 (ls) (st) h Q) = (WP Gm j_Law_law 42 (ls) (.inl 31 :: st) (h) Q) := (WP_at c_Law_law_40 _ _ _ _)
set_option maxRecDepth 100000 in
theorem c_Law_law_42 : mCode j_Law_law 42 = oII (fun x y => x &&& y) 43 := (rfl)
theorem e_Law_law_42 (x : Int32) (y : Int32) : (WP Gm j_Law_law 42 (ls) (.inl y :: .inl x :: st) h Q) = (WP Gm j_Law_law 43 (ls) (.inl (x &&& y) :: st) (h) Q) := (WP_at c_Law_law_42 _ _ _ _)
set_option maxRecDepth 100000 in
theorem c_Law_law_43 : mCode j_Law_law 43 = oTsw 0 [152, 261, 342, 439, 520, 577, 634, 715, 728, 741, 817, 886, 967, 1048, 1105, 1181, 1222, 1238, 1307, 1395, 1452, 1509, 1522, 1535] 1549 := (rfl)
theorem e_Law_law_43 (x : Int32) : (WP Gm j_Law_law 43 (ls) (.inl x :: st) h Q) = (WP Gm j_Law_law (tsw 0 [152, 261, 342, 439, 520, 577, 634, 715, 728, 741, 817, 886, 967, 1048, 1105, 1181, 1222, 1238, 1307, 1395, 1452, 1509, 1522, 1535] 1549 x) (ls) (st) (h) Q) := (WP_at c_Law_law_43 _ _ _ _)
theorem e_Law_law_43c0 : (WP Gm j_Law_law 43 ls (.inl 0 :: st) h Q) = (WP Gm j_Law_law 152 ls st h Q) := by
  rw [e_Law_law_43]
  exact congrArg (fun k => WP Gm j_Law_law k ls st h Q) (by decide)
theorem e_Law_law_43c1 : (WP Gm j_Law_law 43 ls (.inl 1 :: st) h Q) = (WP Gm j_Law_law 261 ls st h Q) := by
  rw [e_Law_law_43]
  exact congrArg (fun k => WP Gm j_Law_law k ls st h Q) (by decide)
theorem e_Law_law_43c2 : (WP Gm j_Law_law 43 ls (.inl 2 :: st) h Q) = (WP Gm j_Law_law 342 ls st h Q) := by
  rw [e_Law_law_43]
  exact congrArg (fun k => WP Gm j_Law_law k ls st h Q) (by decide)
theorem e_Law_law_43c3 : (WP Gm j_Law_law 43 ls (.inl 3 :: st) h Q) = (WP Gm j_Law_law 439 ls st h Q) := by
  rw [e_Law_law_43]
  exact congrArg (fun k => WP Gm j_Law_law k ls st h Q) (by decide)
theorem e_Law_law_43c4 : (WP Gm j_Law_law 43 ls (.inl 4 :: st) h Q) = (WP Gm j_Law_law 520 ls st h Q) := by
  rw [e_Law_law_43]
  exact congrArg (fun k => WP Gm j_Law_law k ls st h Q) (by decide)
theorem e_Law_law_43c5 : (WP Gm j_Law_law 43 ls (.inl 5 :: st) h Q) = (WP Gm j_Law_law 577 ls st h Q) := by
  rw [e_Law_law_43]
  exact congrArg (fun k => WP Gm j_Law_law k ls st h Q) (by decide)
theorem e_Law_law_43c6 : (WP Gm j_Law_law 43 ls (.inl 6 :: st) h Q) = (WP Gm j_Law_law 634 ls st h Q) := by
  rw [e_Law_law_43]
  exact congrArg (fun k => WP Gm j_Law_law k ls st h Q) (by decide)
theorem e_Law_law_43c7 : (WP Gm j_Law_law 43 ls (.inl 7 :: st) h Q) = (WP Gm j_Law_law 715 ls st h Q) := by
  rw [e_Law_law_43]
  exact congrArg (fun k => WP Gm j_Law_law k ls st h Q) (by decide)
theorem e_Law_law_43c8 : (WP Gm j_Law_law 43 ls (.inl 8 :: st) h Q) = (WP Gm j_Law_law 728 ls st h Q) := by
  rw [e_Law_law_43]
  exact congrArg (fun k => WP Gm j_Law_law k ls st h Q) (by decide)
theorem e_Law_law_43c9 : (WP Gm j_Law_law 43 ls (.inl 9 :: st) h Q) = (WP Gm j_Law_law 741 ls st h Q) := by
  rw [e_Law_law_43]
  exact congrArg (fun k => WP Gm j_Law_law k ls st h Q) (by decide)
theorem e_Law_law_43c10 : (WP Gm j_Law_law 43 ls (.inl 10 :: st) h Q) = (WP Gm j_Law_law 817 ls st h Q) := by
  rw [e_Law_law_43]
  exact congrArg (fun k => WP Gm j_Law_law k ls st h Q) (by decide)
theorem e_Law_law_43c11 : (WP Gm j_Law_law 43 ls (.inl 11 :: st) h Q) = (WP Gm j_Law_law 886 ls st h Q) := by
  rw [e_Law_law_43]
  exact congrArg (fun k => WP Gm j_Law_law k ls st h Q) (by decide)
theorem e_Law_law_43c12 : (WP Gm j_Law_law 43 ls (.inl 12 :: st) h Q) = (WP Gm j_Law_law 967 ls st h Q) := by
  rw [e_Law_law_43]
  exact congrArg (fun k => WP Gm j_Law_law k ls st h Q) (by decide)
theorem e_Law_law_43c13 : (WP Gm j_Law_law 43 ls (.inl 13 :: st) h Q) = (WP Gm j_Law_law 1048 ls st h Q) := by
  rw [e_Law_law_43]
  exact congrArg (fun k => WP Gm j_Law_law k ls st h Q) (by decide)
theorem e_Law_law_43c14 : (WP Gm j_Law_law 43 ls (.inl 14 :: st) h Q) = (WP Gm j_Law_law 1105 ls st h Q) := by
  rw [e_Law_law_43]
  exact congrArg (fun k => WP Gm j_Law_law k ls st h Q) (by decide)
theorem e_Law_law_43c15 : (WP Gm j_Law_law 43 ls (.inl 15 :: st) h Q) = (WP Gm j_Law_law 1181 ls st h Q) := by
  rw [e_Law_law_43]
  exact congrArg (fun k => WP Gm j_Law_law k ls st h Q) (by decide)
theorem e_Law_law_43c16 : (WP Gm j_Law_law 43 ls (.inl 16 :: st) h Q) = (WP Gm j_Law_law 1222 ls st h Q) := by
  rw [e_Law_law_43]
  exact congrArg (fun k => WP Gm j_Law_law k ls st h Q) (by decide)
theorem e_Law_law_43c17 : (WP Gm j_Law_law 43 ls (.inl 17 :: st) h Q) = (WP Gm j_Law_law 1238 ls st h Q) := by
  rw [e_Law_law_43]
  exact congrArg (fun k => WP Gm j_Law_law k ls st h Q) (by decide)
theorem e_Law_law_43c18 : (WP Gm j_Law_law 43 ls (.inl 18 :: st) h Q) = (WP Gm j_Law_law 1307 ls st h Q) := by
  rw [e_Law_law_43]
  exact congrArg (fun k => WP Gm j_Law_law k ls st h Q) (by decide)
theorem e_Law_law_43c19 : (WP Gm j_Law_law 43 ls (.inl 19 :: st) h Q) = (WP Gm j_Law_law 1395 ls st h Q) := by
  rw [e_Law_law_43]
  exact congrArg (fun k => WP Gm j_Law_law k ls st h Q) (by decide)
theorem e_Law_law_43c20 : (WP Gm j_Law_law 43 ls (.inl 20 :: st) h Q) = (WP Gm j_Law_law 1452 ls st h Q) := by
  rw [e_Law_law_43]
  exact congrArg (fun k => WP Gm j_Law_law k ls st h Q) (by decide)
theorem e_Law_law_43c21 : (WP Gm j_Law_law 43 ls (.inl 21 :: st) h Q) = (WP Gm j_Law_law 1509 ls st h Q) := by
  rw [e_Law_law_43]
  exact congrArg (fun k => WP Gm j_Law_law k ls st h Q) (by decide)
theorem e_Law_law_43c22 : (WP Gm j_Law_law 43 ls (.inl 22 :: st) h Q) = (WP Gm j_Law_law 1522 ls st h Q) := by
  rw [e_Law_law_43]
  exact congrArg (fun k => WP Gm j_Law_law k ls st h Q) (by decide)
theorem e_Law_law_43c23 : (WP Gm j_Law_law 43 ls (.inl 23 :: st) h Q) = (WP Gm j_Law_law 1535 ls st h Q) := by
  rw [e_Law_law_43]
  exact congrArg (fun k => WP Gm j_Law_law k ls st h Q) (by decide)
set_option maxRecDepth 100000 in
theorem c_Law_law_152 : mCode j_Law_law 152 = oAld 1 153 := (rfl)
theorem e_Law_law_152 (a0 : Option MV) (x : Option Nat) : (WP Gm j_Law_law 152 (a0 :: some (.inr (.inl x)) :: ls) (st) h Q) = (WP Gm j_Law_law 153 (a0 :: some (.inr (.inl x)) :: ls) (.inr (.inl x) :: st) (h) Q) := (WP_at c_Law_law_152 _ _ _ _)
set_option maxRecDepth 100000 in
theorem c_Law_law_153 : mCode j_Law_law 153 = oAld 0 154 := (rfl)
theorem e_Law_law_153 (x : Option Nat) : (WP Gm j_Law_law 153 (some (.inr (.inl x)) :: ls) (st) h Q) = (WP Gm j_Law_law 154 (some (.inr (.inl x)) :: ls) (.inr (.inl x) :: st) (h) Q) := (WP_at c_Law_law_153 _ _ _ _)
set_option maxRecDepth 100000 in
theorem c_Law_law_154 : mCode j_Law_law 154 = oIld 4 156 := (rfl)
theorem e_Law_law_154 (a0 a1 a2 a3 : Option MV) (x : Int32) : (WP Gm j_Law_law 154 (a0 :: a1 :: a2 :: a3 :: some (.inl x) :: ls) (st) h Q) = (WP Gm j_Law_law 156 (a0 :: a1 :: a2 :: a3 :: some (.inl x) :: ls) (.inl x :: st) (h) Q) := (WP_at c_Law_law_154 _ _ _ _)
set_option maxRecDepth 100000 in
theorem c_Law_law_156 : mCode j_Law_law 156 = oI 1 157 := (rfl)
theorem e_Law_law_156  : (WP Gm j_Law_law 156 (ls) (st) h Q) = (WP Gm j_Law_law 157 (ls) (.inl 1 :: st) (h) Q) := (WP_at c_Law_law_156 _ _ _ _)
set_option maxRecDepth 100000 in
theorem c_Law_law_157 : mCode j_Law_law 157 = oII (fun x y => x + y) 158 := (rfl)
theorem e_Law_law_157 (x : Int32) (y : Int32) : (WP Gm j_Law_law 157 (ls) (.inl y :: .inl x :: st) h Q) = (WP Gm j_Law_law 158 (ls) (.inl (x + y) :: st) (h) Q) := (WP_at c_Law_law_157 _ _ _ _)
set_option maxRecDepth 100000 in
theorem c_Law_law_158 : mCode j_Law_law 158 = oIal 0 159 := (rfl)
theorem e_Law_law_158 (a : Nat) (i : Int32) (hk : isK h a 100 = true) (hi : inL h a i = true) : (WP Gm j_Law_law 158 (ls) (.inl i :: .inr (.inl (some a)) :: st) h Q) = (WP Gm j_Law_law 159 (ls) (.inl (gI h a i.toNatClampNeg) :: st) (h) Q) := (WP_at c_Law_law_158 _ _ _ _).trans (congrArg (fun o => ndX Gm (WP Gm) j_Law_law 158 o Q) (if_pos (by rw [hk, hi]; rfl)))
set_option maxRecDepth 100000 in
theorem c_Law_law_159 : mCode j_Law_law 159 = oAld 0 160 := (rfl)
theorem e_Law_law_159 (x : Option Nat) : (WP Gm j_Law_law 159 (some (.inr (.inl x)) :: ls) (st) h Q) = (WP Gm j_Law_law 160 (some (.inr (.inl x)) :: ls) (.inr (.inl x) :: st) (h) Q) := (WP_at c_Law_law_159 _ _ _ _)
set_option maxRecDepth 100000 in
theorem c_Law_law_160 : mCode j_Law_law 160 = oIld 4 162 := (rfl)
theorem e_Law_law_160 (a0 a1 a2 a3 : Option MV) (x : Int32) : (WP Gm j_Law_law 160 (a0 :: a1 :: a2 :: a3 :: some (.inl x) :: ls) (st) h Q) = (WP Gm j_Law_law 162 (a0 :: a1 :: a2 :: a3 :: some (.inl x) :: ls) (.inl x :: st) (h) Q) := (WP_at c_Law_law_160 _ _ _ _)
set_option maxRecDepth 100000 in
theorem c_Law_law_162 : mCode j_Law_law 162 = oI 2 163 := (rfl)
theorem e_Law_law_162  : (WP Gm j_Law_law 162 (ls) (st) h Q) = (WP Gm j_Law_law 163 (ls) (.inl 2 :: st) (h) Q) := (WP_at c_Law_law_162 _ _ _ _)
set_option maxRecDepth 100000 in
theorem c_Law_law_163 : mCode j_Law_law 163 = oII (fun x y => x + y) 164 := (rfl)
theorem e_Law_law_163 (x : Int32) (y : Int32) : (WP Gm j_Law_law 163 (ls) (.inl y :: .inl x :: st) h Q) = (WP Gm j_Law_law 164 (ls) (.inl (x + y) :: st) (h) Q) := (WP_at c_Law_law_163 _ _ _ _)
set_option maxRecDepth 100000 in
theorem c_Law_law_164 : mCode j_Law_law 164 = oIal 0 165 := (rfl)
theorem e_Law_law_164 (a : Nat) (i : Int32) (hk : isK h a 100 = true) (hi : inL h a i = true) : (WP Gm j_Law_law 164 (ls) (.inl i :: .inr (.inl (some a)) :: st) h Q) = (WP Gm j_Law_law 165 (ls) (.inl (gI h a i.toNatClampNeg) :: st) (h) Q) := (WP_at c_Law_law_164 _ _ _ _).trans (congrArg (fun o => ndX Gm (WP Gm) j_Law_law 164 o Q) (if_pos (by rw [hk, hi]; rfl)))
set_option maxRecDepth 100000 in
theorem c_Law_law_165 : mCode j_Law_law 165 = oAld 0 166 := (rfl)
theorem e_Law_law_165 (x : Option Nat) : (WP Gm j_Law_law 165 (some (.inr (.inl x)) :: ls) (st) h Q) = (WP Gm j_Law_law 166 (some (.inr (.inl x)) :: ls) (.inr (.inl x) :: st) (h) Q) := (WP_at c_Law_law_165 _ _ _ _)
set_option maxRecDepth 100000 in
theorem c_Law_law_166 : mCode j_Law_law 166 = oIld 4 168 := (rfl)
theorem e_Law_law_166 (a0 a1 a2 a3 : Option MV) (x : Int32) : (WP Gm j_Law_law 166 (a0 :: a1 :: a2 :: a3 :: some (.inl x) :: ls) (st) h Q) = (WP Gm j_Law_law 168 (a0 :: a1 :: a2 :: a3 :: some (.inl x) :: ls) (.inl x :: st) (h) Q) := (WP_at c_Law_law_166 _ _ _ _)
set_option maxRecDepth 100000 in
theorem c_Law_law_168 : mCode j_Law_law 168 = oI 3 169 := (rfl)
theorem e_Law_law_168  : (WP Gm j_Law_law 168 (ls) (st) h Q) = (WP Gm j_Law_law 169 (ls) (.inl 3 :: st) (h) Q) := (WP_at c_Law_law_168 _ _ _ _)
set_option maxRecDepth 100000 in
theorem c_Law_law_169 : mCode j_Law_law 169 = oII (fun x y => x + y) 170 := (rfl)
theorem e_Law_law_169 (x : Int32) (y : Int32) : (WP Gm j_Law_law 169 (ls) (.inl y :: .inl x :: st) h Q) = (WP Gm j_Law_law 170 (ls) (.inl (x + y) :: st) (h) Q) := (WP_at c_Law_law_169 _ _ _ _)
set_option maxRecDepth 100000 in
theorem c_Law_law_170 : mCode j_Law_law 170 = oIal 0 171 := (rfl)
theorem e_Law_law_170 (a : Nat) (i : Int32) (hk : isK h a 100 = true) (hi : inL h a i = true) : (WP Gm j_Law_law 170 (ls) (.inl i :: .inr (.inl (some a)) :: st) h Q) = (WP Gm j_Law_law 171 (ls) (.inl (gI h a i.toNatClampNeg) :: st) (h) Q) := (WP_at c_Law_law_170 _ _ _ _).trans (congrArg (fun o => ndX Gm (WP Gm) j_Law_law 170 o Q) (if_pos (by rw [hk, hi]; rfl)))
set_option maxRecDepth 100000 in
theorem c_Law_law_171 : mCode j_Law_law 171 = oAld 0 172 := (rfl)
theorem e_Law_law_171 (x : Option Nat) : (WP Gm j_Law_law 171 (some (.inr (.inl x)) :: ls) (st) h Q) = (WP Gm j_Law_law 172 (some (.inr (.inl x)) :: ls) (.inr (.inl x) :: st) (h) Q) := (WP_at c_Law_law_171 _ _ _ _)
set_option maxRecDepth 100000 in
theorem c_Law_law_172 : mCode j_Law_law 172 = oIld 4 174 := (rfl)
theorem e_Law_law_172 (a0 a1 a2 a3 : Option MV) (x : Int32) : (WP Gm j_Law_law 172 (a0 :: a1 :: a2 :: a3 :: some (.inl x) :: ls) (st) h Q) = (WP Gm j_Law_law 174 (a0 :: a1 :: a2 :: a3 :: some (.inl x) :: ls) (.inl x :: st) (h) Q) := (WP_at c_Law_law_172 _ _ _ _)
set_option maxRecDepth 100000 in
theorem c_Law_law_174 : mCode j_Law_law 174 = oI 4 175 := (rfl)
theorem e_Law_law_174  : (WP Gm j_Law_law 174 (ls) (st) h Q) = (WP Gm j_Law_law 175 (ls) (.inl 4 :: st) (h) Q) := (WP_at c_Law_law_174 _ _ _ _)
set_option maxRecDepth 100000 in
theorem c_Law_law_175 : mCode j_Law_law 175 = oII (fun x y => x + y) 176 := (rfl)
theorem e_Law_law_175 (x : Int32) (y : Int32) : (WP Gm j_Law_law 175 (ls) (.inl y :: .inl x :: st) h Q) = (WP Gm j_Law_law 176 (ls) (.inl (x + y) :: st) (h) Q) := (WP_at c_Law_law_175 _ _ _ _)
set_option maxRecDepth 100000 in
theorem c_Law_law_176 : mCode j_Law_law 176 = oIal 0 177 := (rfl)
theorem e_Law_law_176 (a : Nat) (i : Int32) (hk : isK h a 100 = true) (hi : inL h a i = true) : (WP Gm j_Law_law 176 (ls) (.inl i :: .inr (.inl (some a)) :: st) h Q) = (WP Gm j_Law_law 177 (ls) (.inl (gI h a i.toNatClampNeg) :: st) (h) Q) := (WP_at c_Law_law_176 _ _ _ _).trans (congrArg (fun o => ndX Gm (WP Gm) j_Law_law 176 o Q) (if_pos (by rw [hk, hi]; rfl)))
set_option maxRecDepth 100000 in
theorem c_Law_law_177 : mCode j_Law_law 177 = oIf (fun x => decide (x = 0)) 184 180 := (rfl)
theorem e_Law_law_177 (x : Int32) : (WP Gm j_Law_law 177 (ls) (.inl x :: st) h Q) = (if x = 0 then WP Gm j_Law_law 184 (ls) (st) (h) Q else WP Gm j_Law_law 180 (ls) (st) (h) Q) := (WP_at c_Law_law_177 _ _ _ _).trans (nd_if rfl _ _ _ _)
set_option maxRecDepth 100000 in
theorem c_Law_law_180 : mCode j_Law_law 180 = oI 1 181 := (rfl)
theorem e_Law_law_180  : (WP Gm j_Law_law 180 (ls) (st) h Q) = (WP Gm j_Law_law 181 (ls) (.inl 1 :: st) (h) Q) := (WP_at c_Law_law_180 _ _ _ _)
set_option maxRecDepth 100000 in
theorem c_Law_law_181 : mCode j_Law_law 181 = oGo 185 := (rfl)
theorem e_Law_law_181  : (WP Gm j_Law_law 181 (ls) (st) h Q) = (WP Gm j_Law_law 185 (ls) (st) (h) Q) := (WP_at c_Law_law_181 _ _ _ _)
set_option maxRecDepth 100000 in
theorem c_Law_law_184 : mCode j_Law_law 184 = oI 0 185 := (rfl)
theorem e_Law_law_184  : (WP Gm j_Law_law 184 (ls) (st) h Q) = (WP Gm j_Law_law 185 (ls) (.inl 0 :: st) (h) Q) := (WP_at c_Law_law_184 _ _ _ _)
set_option maxRecDepth 100000 in
theorem c_Law_law_185 : mCode j_Law_law 185 = oAld 3 186 := (rfl)
theorem e_Law_law_185 (a0 a1 a2 : Option MV) (x : Option Nat) : (WP Gm j_Law_law 185 (a0 :: a1 :: a2 :: some (.inr (.inl x)) :: ls) (st) h Q) = (WP Gm j_Law_law 186 (a0 :: a1 :: a2 :: some (.inr (.inl x)) :: ls) (.inr (.inl x) :: st) (h) Q) := (WP_at c_Law_law_185 _ _ _ _)
set_option maxRecDepth 100000 in
theorem c_Law_law_186 : mCode j_Law_law 186 = oCallS j_Law_node 6 (mL j_Law_node) 189 := (rfl)
theorem e_Law_law_186 (x0 : Option Nat) (x1 : Int32) (x2 : Int32) (x3 : Int32) (x4 : Int32) (x5 : Option Nat) (hc : c8 st = true) : (WP Gm j_Law_law 186 (ls) (.inr (.inl x5) :: .inl x4 :: .inl x3 :: .inl x2 :: .inl x1 :: .inr (.inl x0) :: st) h Q) = (WP Gm j_Law_node 0 [some (.inr (.inl x0)), some (.inl x1), some (.inl x2), some (.inl x3), some (.inl x4), some (.inr (.inl x5)), none] [] h (kC (fun v h2 => WP Gm j_Law_law 189 ls (v.toList ++ st) h2 Q) (fun E h2 => Q (.inr E) h2))) := (WP_at c_Law_law_186 _ _ _ _).trans (congrArg (fun o => ndX Gm (WP Gm) j_Law_law 186 o Q) (if_pos (by rw [show decide (catS st ≤ 8) = true from hc]; rfl)))
set_option maxRecDepth 100000 in
theorem c_Law_law_189 : mCode j_Law_law 189 = oIst 5 191 := (rfl)
theorem e_Law_law_189 (x : Int32) : (WP Gm j_Law_law 189 (ls) (.inl x :: st) h Q) = (WP Gm j_Law_law 191 (lSet1 ls 5 (some (.inl x))) (st) (h) Q) := (WP_at c_Law_law_189 _ _ _ _)
set_option maxRecDepth 100000 in
theorem c_Law_law_191 : mCode j_Law_law 191 = oAld 2 192 := (rfl)
theorem e_Law_law_191 (a0 a1 : Option MV) (x : Option Nat) : (WP Gm j_Law_law 191 (a0 :: a1 :: some (.inr (.inl x)) :: ls) (st) h Q) = (WP Gm j_Law_law 192 (a0 :: a1 :: some (.inr (.inl x)) :: ls) (.inr (.inl x) :: st) (h) Q) := (WP_at c_Law_law_191 _ _ _ _)
set_option maxRecDepth 100000 in
theorem c_Law_law_192 : mCode j_Law_law 192 = oAld 0 193 := (rfl)
theorem e_Law_law_192 (x : Option Nat) : (WP Gm j_Law_law 192 (some (.inr (.inl x)) :: ls) (st) h Q) = (WP Gm j_Law_law 193 (some (.inr (.inl x)) :: ls) (.inr (.inl x) :: st) (h) Q) := (WP_at c_Law_law_192 _ _ _ _)
set_option maxRecDepth 100000 in
theorem c_Law_law_193 : mCode j_Law_law 193 = oIld 4 195 := (rfl)
theorem e_Law_law_193 (a0 a1 a2 a3 : Option MV) (x : Int32) : (WP Gm j_Law_law 193 (a0 :: a1 :: a2 :: a3 :: some (.inl x) :: ls) (st) h Q) = (WP Gm j_Law_law 195 (a0 :: a1 :: a2 :: a3 :: some (.inl x) :: ls) (.inl x :: st) (h) Q) := (WP_at c_Law_law_193 _ _ _ _)
set_option maxRecDepth 100000 in
theorem c_Law_law_195 : mCode j_Law_law 195 = oI 1 196 := (rfl)
theorem e_Law_law_195  : (WP Gm j_Law_law 195 (ls) (st) h Q) = (WP Gm j_Law_law 196 (ls) (.inl 1 :: st) (h) Q) := (WP_at c_Law_law_195 _ _ _ _)
set_option maxRecDepth 100000 in
theorem c_Law_law_196 : mCode j_Law_law 196 = oII (fun x y => x + y) 197 := (rfl)
theorem e_Law_law_196 (x : Int32) (y : Int32) : (WP Gm j_Law_law 196 (ls) (.inl y :: .inl x :: st) h Q) = (WP Gm j_Law_law 197 (ls) (.inl (x + y) :: st) (h) Q) := (WP_at c_Law_law_196 _ _ _ _)
set_option maxRecDepth 100000 in
theorem c_Law_law_197 : mCode j_Law_law 197 = oIal 0 198 := (rfl)
theorem e_Law_law_197 (a : Nat) (i : Int32) (hk : isK h a 100 = true) (hi : inL h a i = true) : (WP Gm j_Law_law 197 (ls) (.inl i :: .inr (.inl (some a)) :: st) h Q) = (WP Gm j_Law_law 198 (ls) (.inl (gI h a i.toNatClampNeg) :: st) (h) Q) := (WP_at c_Law_law_197 _ _ _ _).trans (congrArg (fun o => ndX Gm (WP Gm) j_Law_law 197 o Q) (if_pos (by rw [hk, hi]; rfl)))
set_option maxRecDepth 100000 in
theorem c_Law_law_198 : mCode j_Law_law 198 = oAld 0 199 := (rfl)
theorem e_Law_law_198 (x : Option Nat) : (WP Gm j_Law_law 198 (some (.inr (.inl x)) :: ls) (st) h Q) = (WP Gm j_Law_law 199 (some (.inr (.inl x)) :: ls) (.inr (.inl x) :: st) (h) Q) := (WP_at c_Law_law_198 _ _ _ _)
set_option maxRecDepth 100000 in
theorem c_Law_law_199 : mCode j_Law_law 199 = oIld 4 201 := (rfl)
theorem e_Law_law_199 (a0 a1 a2 a3 : Option MV) (x : Int32) : (WP Gm j_Law_law 199 (a0 :: a1 :: a2 :: a3 :: some (.inl x) :: ls) (st) h Q) = (WP Gm j_Law_law 201 (a0 :: a1 :: a2 :: a3 :: some (.inl x) :: ls) (.inl x :: st) (h) Q) := (WP_at c_Law_law_199 _ _ _ _)
set_option maxRecDepth 100000 in
theorem c_Law_law_201 : mCode j_Law_law 201 = oI 2 202 := (rfl)
theorem e_Law_law_201  : (WP Gm j_Law_law 201 (ls) (st) h Q) = (WP Gm j_Law_law 202 (ls) (.inl 2 :: st) (h) Q) := (WP_at c_Law_law_201 _ _ _ _)
set_option maxRecDepth 100000 in
theorem c_Law_law_202 : mCode j_Law_law 202 = oII (fun x y => x + y) 203 := (rfl)
theorem e_Law_law_202 (x : Int32) (y : Int32) : (WP Gm j_Law_law 202 (ls) (.inl y :: .inl x :: st) h Q) = (WP Gm j_Law_law 203 (ls) (.inl (x + y) :: st) (h) Q) := (WP_at c_Law_law_202 _ _ _ _)
set_option maxRecDepth 100000 in
theorem c_Law_law_203 : mCode j_Law_law 203 = oIal 0 204 := (rfl)
theorem e_Law_law_203 (a : Nat) (i : Int32) (hk : isK h a 100 = true) (hi : inL h a i = true) : (WP Gm j_Law_law 203 (ls) (.inl i :: .inr (.inl (some a)) :: st) h Q) = (WP Gm j_Law_law 204 (ls) (.inl (gI h a i.toNatClampNeg) :: st) (h) Q) := (WP_at c_Law_law_203 _ _ _ _).trans (congrArg (fun o => ndX Gm (WP Gm) j_Law_law 203 o Q) (if_pos (by rw [hk, hi]; rfl)))
set_option maxRecDepth 100000 in
theorem c_Law_law_204 : mCode j_Law_law 204 = oAld 0 205 := (rfl)
theorem e_Law_law_204 (x : Option Nat) : (WP Gm j_Law_law 204 (some (.inr (.inl x)) :: ls) (st) h Q) = (WP Gm j_Law_law 205 (some (.inr (.inl x)) :: ls) (.inr (.inl x) :: st) (h) Q) := (WP_at c_Law_law_204 _ _ _ _)
set_option maxRecDepth 100000 in
theorem c_Law_law_205 : mCode j_Law_law 205 = oIld 4 207 := (rfl)
theorem e_Law_law_205 (a0 a1 a2 a3 : Option MV) (x : Int32) : (WP Gm j_Law_law 205 (a0 :: a1 :: a2 :: a3 :: some (.inl x) :: ls) (st) h Q) = (WP Gm j_Law_law 207 (a0 :: a1 :: a2 :: a3 :: some (.inl x) :: ls) (.inl x :: st) (h) Q) := (WP_at c_Law_law_205 _ _ _ _)
set_option maxRecDepth 100000 in
theorem c_Law_law_207 : mCode j_Law_law 207 = oI 3 208 := (rfl)
theorem e_Law_law_207  : (WP Gm j_Law_law 207 (ls) (st) h Q) = (WP Gm j_Law_law 208 (ls) (.inl 3 :: st) (h) Q) := (WP_at c_Law_law_207 _ _ _ _)
set_option maxRecDepth 100000 in
theorem c_Law_law_208 : mCode j_Law_law 208 = oII (fun x y => x + y) 209 := (rfl)
theorem e_Law_law_208 (x : Int32) (y : Int32) : (WP Gm j_Law_law 208 (ls) (.inl y :: .inl x :: st) h Q) = (WP Gm j_Law_law 209 (ls) (.inl (x + y) :: st) (h) Q) := (WP_at c_Law_law_208 _ _ _ _)
set_option maxRecDepth 100000 in
theorem c_Law_law_209 : mCode j_Law_law 209 = oIal 0 210 := (rfl)
theorem e_Law_law_209 (a : Nat) (i : Int32) (hk : isK h a 100 = true) (hi : inL h a i = true) : (WP Gm j_Law_law 209 (ls) (.inl i :: .inr (.inl (some a)) :: st) h Q) = (WP Gm j_Law_law 210 (ls) (.inl (gI h a i.toNatClampNeg) :: st) (h) Q) := (WP_at c_Law_law_209 _ _ _ _).trans (congrArg (fun o => ndX Gm (WP Gm) j_Law_law 209 o Q) (if_pos (by rw [hk, hi]; rfl)))
set_option maxRecDepth 100000 in
theorem c_Law_law_210 : mCode j_Law_law 210 = oAld 0 211 := (rfl)
theorem e_Law_law_210 (x : Option Nat) : (WP Gm j_Law_law 210 (some (.inr (.inl x)) :: ls) (st) h Q) = (WP Gm j_Law_law 211 (some (.inr (.inl x)) :: ls) (.inr (.inl x) :: st) (h) Q) := (WP_at c_Law_law_210 _ _ _ _)
set_option maxRecDepth 100000 in
theorem c_Law_law_211 : mCode j_Law_law 211 = oIld 4 213 := (rfl)
theorem e_Law_law_211 (a0 a1 a2 a3 : Option MV) (x : Int32) : (WP Gm j_Law_law 211 (a0 :: a1 :: a2 :: a3 :: some (.inl x) :: ls) (st) h Q) = (WP Gm j_Law_law 213 (a0 :: a1 :: a2 :: a3 :: some (.inl x) :: ls) (.inl x :: st) (h) Q) := (WP_at c_Law_law_211 _ _ _ _)
set_option maxRecDepth 100000 in
theorem c_Law_law_213 : mCode j_Law_law 213 = oI 4 214 := (rfl)
theorem e_Law_law_213  : (WP Gm j_Law_law 213 (ls) (st) h Q) = (WP Gm j_Law_law 214 (ls) (.inl 4 :: st) (h) Q) := (WP_at c_Law_law_213 _ _ _ _)
set_option maxRecDepth 100000 in
theorem c_Law_law_214 : mCode j_Law_law 214 = oII (fun x y => x + y) 215 := (rfl)
theorem e_Law_law_214 (x : Int32) (y : Int32) : (WP Gm j_Law_law 214 (ls) (.inl y :: .inl x :: st) h Q) = (WP Gm j_Law_law 215 (ls) (.inl (x + y) :: st) (h) Q) := (WP_at c_Law_law_214 _ _ _ _)
set_option maxRecDepth 100000 in
theorem c_Law_law_215 : mCode j_Law_law 215 = oIal 0 216 := (rfl)
theorem e_Law_law_215 (a : Nat) (i : Int32) (hk : isK h a 100 = true) (hi : inL h a i = true) : (WP Gm j_Law_law 215 (ls) (.inl i :: .inr (.inl (some a)) :: st) h Q) = (WP Gm j_Law_law 216 (ls) (.inl (gI h a i.toNatClampNeg) :: st) (h) Q) := (WP_at c_Law_law_215 _ _ _ _).trans (congrArg (fun o => ndX Gm (WP Gm) j_Law_law 215 o Q) (if_pos (by rw [hk, hi]; rfl)))
set_option maxRecDepth 100000 in
theorem c_Law_law_216 : mCode j_Law_law 216 = oIf (fun x => decide (x = 0)) 223 219 := (rfl)
theorem e_Law_law_216 (x : Int32) : (WP Gm j_Law_law 216 (ls) (.inl x :: st) h Q) = (if x = 0 then WP Gm j_Law_law 223 (ls) (st) (h) Q else WP Gm j_Law_law 219 (ls) (st) (h) Q) := (WP_at c_Law_law_216 _ _ _ _).trans (nd_if rfl _ _ _ _)
set_option maxRecDepth 100000 in
theorem c_Law_law_219 : mCode j_Law_law 219 = oI 1 220 := (rfl)
theorem e_Law_law_219  : (WP Gm j_Law_law 219 (ls) (st) h Q) = (WP Gm j_Law_law 220 (ls) (.inl 1 :: st) (h) Q) := (WP_at c_Law_law_219 _ _ _ _)
set_option maxRecDepth 100000 in
theorem c_Law_law_220 : mCode j_Law_law 220 = oGo 224 := (rfl)
theorem e_Law_law_220  : (WP Gm j_Law_law 220 (ls) (st) h Q) = (WP Gm j_Law_law 224 (ls) (st) (h) Q) := (WP_at c_Law_law_220 _ _ _ _)
set_option maxRecDepth 100000 in
theorem c_Law_law_223 : mCode j_Law_law 223 = oI 0 224 := (rfl)
theorem e_Law_law_223  : (WP Gm j_Law_law 223 (ls) (st) h Q) = (WP Gm j_Law_law 224 (ls) (.inl 0 :: st) (h) Q) := (WP_at c_Law_law_223 _ _ _ _)
set_option maxRecDepth 100000 in
theorem c_Law_law_224 : mCode j_Law_law 224 = oCallV kc_Mdl j_Mdl_node 4 (mL j_Mdl_node) 227 := (rfl)
theorem e_Law_law_224 (a : Nat) (x0 : Int32) (x1 : Int32) (x2 : Int32) (x3 : Int32) (hk : isK h a kc_Mdl = true) (hc : c8 st = true) : (WP Gm j_Law_law 224 (ls) (.inl x3 :: .inl x2 :: .inl x1 :: .inl x0 :: .inr (.inl (some a)) :: st) h Q) = (WP Gm j_Mdl_node 0 [some (.inr (.inl (some a))), some (.inl x0), some (.inl x1), some (.inl x2), some (.inl x3)] [] h (kC (fun v h2 => WP Gm j_Law_law 227 ls (v.toList ++ st) h2 Q) (fun E h2 => Q (.inr E) h2))) := (WP_at c_Law_law_224 _ _ _ _).trans (congrArg (fun o => ndX Gm (WP Gm) j_Law_law 224 o Q) (if_pos (by rw [hk, show decide (catS st ≤ 8) = true from hc]; rfl)))
set_option maxRecDepth 100000 in
theorem c_Law_law_227 : mCode j_Law_law 227 = oIst 6 229 := (rfl)
theorem e_Law_law_227 (x : Int32) : (WP Gm j_Law_law 227 (ls) (.inl x :: st) h Q) = (WP Gm j_Law_law 229 (lSet1 ls 6 (some (.inl x))) (st) (h) Q) := (WP_at c_Law_law_227 _ _ _ _)
set_option maxRecDepth 100000 in
theorem c_Law_law_229 : mCode j_Law_law 229 = oAld 2 230 := (rfl)
theorem e_Law_law_229 (a0 a1 : Option MV) (x : Option Nat) : (WP Gm j_Law_law 229 (a0 :: a1 :: some (.inr (.inl x)) :: ls) (st) h Q) = (WP Gm j_Law_law 230 (a0 :: a1 :: some (.inr (.inl x)) :: ls) (.inr (.inl x) :: st) (h) Q) := (WP_at c_Law_law_229 _ _ _ _)
set_option maxRecDepth 100000 in
theorem c_Law_law_230 : mCode j_Law_law 230 = oCallV kc_Mdl j_Mdl_thrown 0 (mL j_Mdl_thrown) 233 := (rfl)
theorem e_Law_law_230 (a : Nat) (hk : isK h a kc_Mdl = true) (hc : c8 st = true) : (WP Gm j_Law_law 230 (ls) (.inr (.inl (some a)) :: st) h Q) = (WP Gm j_Mdl_thrown 0 [some (.inr (.inl (some a)))] [] h (kC (fun v h2 => WP Gm j_Law_law 233 ls (v.toList ++ st) h2 Q) (fun E h2 => Q (.inr E) h2))) := (WP_at c_Law_law_230 _ _ _ _).trans (congrArg (fun o => ndX Gm (WP Gm) j_Law_law 230 o Q) (if_pos (by rw [hk, show decide (catS st ≤ 8) = true from hc]; rfl)))
set_option maxRecDepth 100000 in
theorem c_Law_law_233 : mCode j_Law_law 233 = oIld 5 235 := (rfl)
theorem e_Law_law_233 (a0 a1 a2 a3 a4 : Option MV) (x : Int32) : (WP Gm j_Law_law 233 (a0 :: a1 :: a2 :: a3 :: a4 :: some (.inl x) :: ls) (st) h Q) = (WP Gm j_Law_law 235 (a0 :: a1 :: a2 :: a3 :: a4 :: some (.inl x) :: ls) (.inl x :: st) (h) Q) := (WP_at c_Law_law_233 _ _ _ _)
set_option maxRecDepth 100000 in
theorem c_Law_law_235 : mCode j_Law_law 235 = oIC (fun x y => decide (x = y)) 240 238 := (rfl)
theorem e_Law_law_235 (x y : Int32) : (WP Gm j_Law_law 235 (ls) (.inl y :: .inl x :: st) h Q) = (if x = y then WP Gm j_Law_law 240 (ls) (st) (h) Q else WP Gm j_Law_law 238 (ls) (st) (h) Q) := (WP_at c_Law_law_235 _ _ _ _).trans (nd_ic rfl _ _ _ _)
set_option maxRecDepth 100000 in
theorem c_Law_law_238 : mCode j_Law_law 238 = oI 0 239 := (rfl)
theorem e_Law_law_238  : (WP Gm j_Law_law 238 (ls) (st) h Q) = (WP Gm j_Law_law 239 (ls) (.inl 0 :: st) (h) Q) := (WP_at c_Law_law_238 _ _ _ _)
set_option maxRecDepth 100000 in
theorem c_Law_law_239 : mCode j_Law_law 239 = oRetZ := (rfl)
theorem e_Law_law_239 (x : Int32) (hx : x = 0 ∨ x = 1) : (WP Gm j_Law_law 239 (ls) ([.inl x]) h Q) = (Q (.inl (some (.inl x))) h) := (WP_at c_Law_law_239 _ _ _ _).trans (congrArg (fun o => ndX Gm (WP Gm) j_Law_law 239 o Q) (if_pos (by rcases hx with rfl | rfl <;> rfl)))
set_option maxRecDepth 100000 in
theorem c_Law_law_240 : mCode j_Law_law 240 = oIld 5 242 := (rfl)
theorem e_Law_law_240 (a0 a1 a2 a3 a4 : Option MV) (x : Int32) : (WP Gm j_Law_law 240 (a0 :: a1 :: a2 :: a3 :: a4 :: some (.inl x) :: ls) (st) h Q) = (WP Gm j_Law_law 242 (a0 :: a1 :: a2 :: a3 :: a4 :: some (.inl x) :: ls) (.inl x :: st) (h) Q) := (WP_at c_Law_law_240 _ _ _ _)
set_option maxRecDepth 100000 in
theorem c_Law_law_242 : mCode j_Law_law 242 = oIf (fun x => decide (¬ x = 0)) 258 245 := (rfl)
theorem e_Law_law_242 (x : Int32) : (WP Gm j_Law_law 242 (ls) (.inl x :: st) h Q) = (if ¬ x = 0 then WP Gm j_Law_law 258 (ls) (st) (h) Q else WP Gm j_Law_law 245 (ls) (st) (h) Q) := (WP_at c_Law_law_242 _ _ _ _).trans (nd_if rfl _ _ _ _)
set_option maxRecDepth 100000 in
theorem c_Law_law_245 : mCode j_Law_law 245 = oAld 3 246 := (rfl)
theorem e_Law_law_245 (a0 a1 a2 : Option MV) (x : Option Nat) : (WP Gm j_Law_law 245 (a0 :: a1 :: a2 :: some (.inr (.inl x)) :: ls) (st) h Q) = (WP Gm j_Law_law 246 (a0 :: a1 :: a2 :: some (.inr (.inl x)) :: ls) (.inr (.inl x) :: st) (h) Q) := (WP_at c_Law_law_245 _ _ _ _)
set_option maxRecDepth 100000 in
theorem c_Law_law_246 : mCode j_Law_law 246 = oGetL kc_Out 0 249 := (rfl)
theorem e_Law_law_246 (a : Nat) (hk : isK h a kc_Out = true) : (WP Gm j_Law_law 246 (ls) (.inr (.inl (some a)) :: st) h Q) = (WP Gm j_Law_law 249 (ls) (.inr (.inr (.inl (gL h a 0))) :: st) (h) Q) := (WP_at c_Law_law_246 _ _ _ _).trans (congrArg (fun o => ndX Gm (WP Gm) j_Law_law 246 o Q) (if_pos hk))
set_option maxRecDepth 100000 in
theorem c_Law_law_249 : mCode j_Law_law 249 = oIld 6 251 := (rfl)
theorem e_Law_law_249 (a0 a1 a2 a3 a4 a5 : Option MV) (x : Int32) : (WP Gm j_Law_law 249 (a0 :: a1 :: a2 :: a3 :: a4 :: a5 :: some (.inl x) :: ls) (st) h Q) = (WP Gm j_Law_law 251 (a0 :: a1 :: a2 :: a3 :: a4 :: a5 :: some (.inl x) :: ls) (.inl x :: st) (h) Q) := (WP_at c_Law_law_249 _ _ _ _)
set_option maxRecDepth 100000 in
theorem c_Law_law_251 : mCode j_Law_law 251 = oI2L 252 := (rfl)
theorem e_Law_law_251 (x : Int32) : (WP Gm j_Law_law 251 (ls) (.inl x :: st) h Q) = (WP Gm j_Law_law 252 (ls) (.inr (.inr (.inl x.toInt64)) :: st) (h) Q) := (WP_at c_Law_law_251 _ _ _ _)
set_option maxRecDepth 100000 in
theorem c_Law_law_252 : mCode j_Law_law 252 = oLcmp 253 := (rfl)
theorem e_Law_law_252 (x y : Int64) : (WP Gm j_Law_law 252 (ls) (.inr (.inr (.inl y)) :: .inr (.inr (.inl x)) :: st) h Q) = (WP Gm j_Law_law 253 (ls) (.inl (lg_cmp x y) :: st) (h) Q) := (WP_at c_Law_law_252 _ _ _ _)
set_option maxRecDepth 100000 in
theorem c_Law_law_253 : mCode j_Law_law 253 = oIf (fun x => decide (x = 0)) 258 256 := (rfl)
theorem e_Law_law_253 (x : Int32) : (WP Gm j_Law_law 253 (ls) (.inl x :: st) h Q) = (if x = 0 then WP Gm j_Law_law 258 (ls) (st) (h) Q else WP Gm j_Law_law 256 (ls) (st) (h) Q) := (WP_at c_Law_law_253 _ _ _ _).trans (nd_if rfl _ _ _ _)
set_option maxRecDepth 100000 in
theorem c_Law_law_256 : mCode j_Law_law 256 = oI 0 257 := (rfl)
theorem e_Law_law_256  : (WP Gm j_Law_law 256 (ls) (st) h Q) = (WP Gm j_Law_law 257 (ls) (.inl 0 :: st) (h) Q) := (WP_at c_Law_law_256 _ _ _ _)
set_option maxRecDepth 100000 in
theorem c_Law_law_257 : mCode j_Law_law 257 = oRetZ := (rfl)
theorem e_Law_law_257 (x : Int32) (hx : x = 0 ∨ x = 1) : (WP Gm j_Law_law 257 (ls) ([.inl x]) h Q) = (Q (.inl (some (.inl x))) h) := (WP_at c_Law_law_257 _ _ _ _).trans (congrArg (fun o => ndX Gm (WP Gm) j_Law_law 257 o Q) (if_pos (by rcases hx with rfl | rfl <;> rfl)))
set_option maxRecDepth 100000 in
theorem c_Law_law_258 : mCode j_Law_law 258 = oGo 1549 := (rfl)
theorem e_Law_law_258  : (WP Gm j_Law_law 258 (ls) (st) h Q) = (WP Gm j_Law_law 1549 (ls) (st) (h) Q) := (WP_at c_Law_law_258 _ _ _ _)
set_option maxRecDepth 100000 in
theorem c_Law_law_261 : mCode j_Law_law 261 = oAld 1 262 := (rfl)
theorem e_Law_law_261 (a0 : Option MV) (x : Option Nat) : (WP Gm j_Law_law 261 (a0 :: some (.inr (.inl x)) :: ls) (st) h Q) = (WP Gm j_Law_law 262 (a0 :: some (.inr (.inl x)) :: ls) (.inr (.inl x) :: st) (h) Q) := (WP_at c_Law_law_261 _ _ _ _)
set_option maxRecDepth 100000 in
theorem c_Law_law_262 : mCode j_Law_law 262 = oAld 0 263 := (rfl)
theorem e_Law_law_262 (x : Option Nat) : (WP Gm j_Law_law 262 (some (.inr (.inl x)) :: ls) (st) h Q) = (WP Gm j_Law_law 263 (some (.inr (.inl x)) :: ls) (.inr (.inl x) :: st) (h) Q) := (WP_at c_Law_law_262 _ _ _ _)
set_option maxRecDepth 100000 in
theorem c_Law_law_263 : mCode j_Law_law 263 = oIld 4 265 := (rfl)
theorem e_Law_law_263 (a0 a1 a2 a3 : Option MV) (x : Int32) : (WP Gm j_Law_law 263 (a0 :: a1 :: a2 :: a3 :: some (.inl x) :: ls) (st) h Q) = (WP Gm j_Law_law 265 (a0 :: a1 :: a2 :: a3 :: some (.inl x) :: ls) (.inl x :: st) (h) Q) := (WP_at c_Law_law_263 _ _ _ _)
set_option maxRecDepth 100000 in
theorem c_Law_law_265 : mCode j_Law_law 265 = oI 1 266 := (rfl)
theorem e_Law_law_265  : (WP Gm j_Law_law 265 (ls) (st) h Q) = (WP Gm j_Law_law 266 (ls) (.inl 1 :: st) (h) Q) := (WP_at c_Law_law_265 _ _ _ _)
set_option maxRecDepth 100000 in
theorem c_Law_law_266 : mCode j_Law_law 266 = oII (fun x y => x + y) 267 := (rfl)
theorem e_Law_law_266 (x : Int32) (y : Int32) : (WP Gm j_Law_law 266 (ls) (.inl y :: .inl x :: st) h Q) = (WP Gm j_Law_law 267 (ls) (.inl (x + y) :: st) (h) Q) := (WP_at c_Law_law_266 _ _ _ _)
set_option maxRecDepth 100000 in
theorem c_Law_law_267 : mCode j_Law_law 267 = oIal 0 268 := (rfl)
theorem e_Law_law_267 (a : Nat) (i : Int32) (hk : isK h a 100 = true) (hi : inL h a i = true) : (WP Gm j_Law_law 267 (ls) (.inl i :: .inr (.inl (some a)) :: st) h Q) = (WP Gm j_Law_law 268 (ls) (.inl (gI h a i.toNatClampNeg) :: st) (h) Q) := (WP_at c_Law_law_267 _ _ _ _).trans (congrArg (fun o => ndX Gm (WP Gm) j_Law_law 267 o Q) (if_pos (by rw [hk, hi]; rfl)))
set_option maxRecDepth 100000 in
theorem c_Law_law_268 : mCode j_Law_law 268 = oAld 0 269 := (rfl)
theorem e_Law_law_268 (x : Option Nat) : (WP Gm j_Law_law 268 (some (.inr (.inl x)) :: ls) (st) h Q) = (WP Gm j_Law_law 269 (some (.inr (.inl x)) :: ls) (.inr (.inl x) :: st) (h) Q) := (WP_at c_Law_law_268 _ _ _ _)
set_option maxRecDepth 100000 in
theorem c_Law_law_269 : mCode j_Law_law 269 = oIld 4 271 := (rfl)
theorem e_Law_law_269 (a0 a1 a2 a3 : Option MV) (x : Int32) : (WP Gm j_Law_law 269 (a0 :: a1 :: a2 :: a3 :: some (.inl x) :: ls) (st) h Q) = (WP Gm j_Law_law 271 (a0 :: a1 :: a2 :: a3 :: some (.inl x) :: ls) (.inl x :: st) (h) Q) := (WP_at c_Law_law_269 _ _ _ _)
set_option maxRecDepth 100000 in
theorem c_Law_law_271 : mCode j_Law_law 271 = oI 2 272 := (rfl)
theorem e_Law_law_271  : (WP Gm j_Law_law 271 (ls) (st) h Q) = (WP Gm j_Law_law 272 (ls) (.inl 2 :: st) (h) Q) := (WP_at c_Law_law_271 _ _ _ _)
set_option maxRecDepth 100000 in
theorem c_Law_law_272 : mCode j_Law_law 272 = oII (fun x y => x + y) 273 := (rfl)
theorem e_Law_law_272 (x : Int32) (y : Int32) : (WP Gm j_Law_law 272 (ls) (.inl y :: .inl x :: st) h Q) = (WP Gm j_Law_law 273 (ls) (.inl (x + y) :: st) (h) Q) := (WP_at c_Law_law_272 _ _ _ _)
set_option maxRecDepth 100000 in
theorem c_Law_law_273 : mCode j_Law_law 273 = oIal 0 274 := (rfl)
theorem e_Law_law_273 (a : Nat) (i : Int32) (hk : isK h a 100 = true) (hi : inL h a i = true) : (WP Gm j_Law_law 273 (ls) (.inl i :: .inr (.inl (some a)) :: st) h Q) = (WP Gm j_Law_law 274 (ls) (.inl (gI h a i.toNatClampNeg) :: st) (h) Q) := (WP_at c_Law_law_273 _ _ _ _).trans (congrArg (fun o => ndX Gm (WP Gm) j_Law_law 273 o Q) (if_pos (by rw [hk, hi]; rfl)))
set_option maxRecDepth 100000 in
theorem c_Law_law_274 : mCode j_Law_law 274 = oAld 0 275 := (rfl)
theorem e_Law_law_274 (x : Option Nat) : (WP Gm j_Law_law 274 (some (.inr (.inl x)) :: ls) (st) h Q) = (WP Gm j_Law_law 275 (some (.inr (.inl x)) :: ls) (.inr (.inl x) :: st) (h) Q) := (WP_at c_Law_law_274 _ _ _ _)
set_option maxRecDepth 100000 in
theorem c_Law_law_275 : mCode j_Law_law 275 = oIld 4 277 := (rfl)
theorem e_Law_law_275 (a0 a1 a2 a3 : Option MV) (x : Int32) : (WP Gm j_Law_law 275 (a0 :: a1 :: a2 :: a3 :: some (.inl x) :: ls) (st) h Q) = (WP Gm j_Law_law 277 (a0 :: a1 :: a2 :: a3 :: some (.inl x) :: ls) (.inl x :: st) (h) Q) := (WP_at c_Law_law_275 _ _ _ _)
set_option maxRecDepth 100000 in
theorem c_Law_law_277 : mCode j_Law_law 277 = oI 3 278 := (rfl)
theorem e_Law_law_277  : (WP Gm j_Law_law 277 (ls) (st) h Q) = (WP Gm j_Law_law 278 (ls) (.inl 3 :: st) (h) Q) := (WP_at c_Law_law_277 _ _ _ _)
set_option maxRecDepth 100000 in
theorem c_Law_law_278 : mCode j_Law_law 278 = oII (fun x y => x + y) 279 := (rfl)
theorem e_Law_law_278 (x : Int32) (y : Int32) : (WP Gm j_Law_law 278 (ls) (.inl y :: .inl x :: st) h Q) = (WP Gm j_Law_law 279 (ls) (.inl (x + y) :: st) (h) Q) := (WP_at c_Law_law_278 _ _ _ _)
set_option maxRecDepth 100000 in
theorem c_Law_law_279 : mCode j_Law_law 279 = oIal 0 280 := (rfl)
theorem e_Law_law_279 (a : Nat) (i : Int32) (hk : isK h a 100 = true) (hi : inL h a i = true) : (WP Gm j_Law_law 279 (ls) (.inl i :: .inr (.inl (some a)) :: st) h Q) = (WP Gm j_Law_law 280 (ls) (.inl (gI h a i.toNatClampNeg) :: st) (h) Q) := (WP_at c_Law_law_279 _ _ _ _).trans (congrArg (fun o => ndX Gm (WP Gm) j_Law_law 279 o Q) (if_pos (by rw [hk, hi]; rfl)))
set_option maxRecDepth 100000 in
theorem c_Law_law_280 : mCode j_Law_law 280 = oAld 3 281 := (rfl)
theorem e_Law_law_280 (a0 a1 a2 : Option MV) (x : Option Nat) : (WP Gm j_Law_law 280 (a0 :: a1 :: a2 :: some (.inr (.inl x)) :: ls) (st) h Q) = (WP Gm j_Law_law 281 (a0 :: a1 :: a2 :: some (.inr (.inl x)) :: ls) (.inr (.inl x) :: st) (h) Q) := (WP_at c_Law_law_280 _ _ _ _)
set_option maxRecDepth 100000 in
theorem c_Law_law_281 : mCode j_Law_law 281 = oCallS j_Law_move 5 (mL j_Law_move) 284 := (rfl)
theorem e_Law_law_281 (x0 : Option Nat) (x1 : Int32) (x2 : Int32) (x3 : Int32) (x4 : Option Nat) (hc : c8 st = true) : (WP Gm j_Law_law 281 (ls) (.inr (.inl x4) :: .inl x3 :: .inl x2 :: .inl x1 :: .inr (.inl x0) :: st) h Q) = (WP Gm j_Law_move 0 [some (.inr (.inl x0)), some (.inl x1), some (.inl x2), some (.inl x3), some (.inr (.inl x4)), none] [] h (kC (fun v h2 => WP Gm j_Law_law 284 ls (v.toList ++ st) h2 Q) (fun E h2 => Q (.inr E) h2))) := (WP_at c_Law_law_281 _ _ _ _).trans (congrArg (fun o => ndX Gm (WP Gm) j_Law_law 281 o Q) (if_pos (by rw [show decide (catS st ≤ 8) = true from hc]; rfl)))
set_option maxRecDepth 100000 in
theorem c_Law_law_284 : mCode j_Law_law 284 = oIst 5 286 := (rfl)
theorem e_Law_law_284 (x : Int32) : (WP Gm j_Law_law 284 (ls) (.inl x :: st) h Q) = (WP Gm j_Law_law 286 (lSet1 ls 5 (some (.inl x))) (st) (h) Q) := (WP_at c_Law_law_284 _ _ _ _)
set_option maxRecDepth 100000 in
theorem c_Law_law_286 : mCode j_Law_law 286 = oAld 2 287 := (rfl)
theorem e_Law_law_286 (a0 a1 : Option MV) (x : Option Nat) : (WP Gm j_Law_law 286 (a0 :: a1 :: some (.inr (.inl x)) :: ls) (st) h Q) = (WP Gm j_Law_law 287 (a0 :: a1 :: some (.inr (.inl x)) :: ls) (.inr (.inl x) :: st) (h) Q) := (WP_at c_Law_law_286 _ _ _ _)
set_option maxRecDepth 100000 in
theorem c_Law_law_287 : mCode j_Law_law 287 = oAld 0 288 := (rfl)
theorem e_Law_law_287 (x : Option Nat) : (WP Gm j_Law_law 287 (some (.inr (.inl x)) :: ls) (st) h Q) = (WP Gm j_Law_law 288 (some (.inr (.inl x)) :: ls) (.inr (.inl x) :: st) (h) Q) := (WP_at c_Law_law_287 _ _ _ _)
set_option maxRecDepth 100000 in
theorem c_Law_law_288 : mCode j_Law_law 288 = oIld 4 290 := (rfl)
theorem e_Law_law_288 (a0 a1 a2 a3 : Option MV) (x : Int32) : (WP Gm j_Law_law 288 (a0 :: a1 :: a2 :: a3 :: some (.inl x) :: ls) (st) h Q) = (WP Gm j_Law_law 290 (a0 :: a1 :: a2 :: a3 :: some (.inl x) :: ls) (.inl x :: st) (h) Q) := (WP_at c_Law_law_288 _ _ _ _)
set_option maxRecDepth 100000 in
theorem c_Law_law_290 : mCode j_Law_law 290 = oI 1 291 := (rfl)
theorem e_Law_law_290  : (WP Gm j_Law_law 290 (ls) (st) h Q) = (WP Gm j_Law_law 291 (ls) (.inl 1 :: st) (h) Q) := (WP_at c_Law_law_290 _ _ _ _)
set_option maxRecDepth 100000 in
theorem c_Law_law_291 : mCode j_Law_law 291 = oII (fun x y => x + y) 292 := (rfl)
theorem e_Law_law_291 (x : Int32) (y : Int32) : (WP Gm j_Law_law 291 (ls) (.inl y :: .inl x :: st) h Q) = (WP Gm j_Law_law 292 (ls) (.inl (x + y) :: st) (h) Q) := (WP_at c_Law_law_291 _ _ _ _)
set_option maxRecDepth 100000 in
theorem c_Law_law_292 : mCode j_Law_law 292 = oIal 0 293 := (rfl)
theorem e_Law_law_292 (a : Nat) (i : Int32) (hk : isK h a 100 = true) (hi : inL h a i = true) : (WP Gm j_Law_law 292 (ls) (.inl i :: .inr (.inl (some a)) :: st) h Q) = (WP Gm j_Law_law 293 (ls) (.inl (gI h a i.toNatClampNeg) :: st) (h) Q) := (WP_at c_Law_law_292 _ _ _ _).trans (congrArg (fun o => ndX Gm (WP Gm) j_Law_law 292 o Q) (if_pos (by rw [hk, hi]; rfl)))
set_option maxRecDepth 100000 in
theorem c_Law_law_293 : mCode j_Law_law 293 = oAld 0 294 := (rfl)
theorem e_Law_law_293 (x : Option Nat) : (WP Gm j_Law_law 293 (some (.inr (.inl x)) :: ls) (st) h Q) = (WP Gm j_Law_law 294 (some (.inr (.inl x)) :: ls) (.inr (.inl x) :: st) (h) Q) := (WP_at c_Law_law_293 _ _ _ _)
set_option maxRecDepth 100000 in
theorem c_Law_law_294 : mCode j_Law_law 294 = oIld 4 296 := (rfl)
theorem e_Law_law_294 (a0 a1 a2 a3 : Option MV) (x : Int32) : (WP Gm j_Law_law 294 (a0 :: a1 :: a2 :: a3 :: some (.inl x) :: ls) (st) h Q) = (WP Gm j_Law_law 296 (a0 :: a1 :: a2 :: a3 :: some (.inl x) :: ls) (.inl x :: st) (h) Q) := (WP_at c_Law_law_294 _ _ _ _)
set_option maxRecDepth 100000 in
theorem c_Law_law_296 : mCode j_Law_law 296 = oI 2 297 := (rfl)
theorem e_Law_law_296  : (WP Gm j_Law_law 296 (ls) (st) h Q) = (WP Gm j_Law_law 297 (ls) (.inl 2 :: st) (h) Q) := (WP_at c_Law_law_296 _ _ _ _)
set_option maxRecDepth 100000 in
theorem c_Law_law_297 : mCode j_Law_law 297 = oII (fun x y => x + y) 298 := (rfl)
theorem e_Law_law_297 (x : Int32) (y : Int32) : (WP Gm j_Law_law 297 (ls) (.inl y :: .inl x :: st) h Q) = (WP Gm j_Law_law 298 (ls) (.inl (x + y) :: st) (h) Q) := (WP_at c_Law_law_297 _ _ _ _)
set_option maxRecDepth 100000 in
theorem c_Law_law_298 : mCode j_Law_law 298 = oIal 0 299 := (rfl)
theorem e_Law_law_298 (a : Nat) (i : Int32) (hk : isK h a 100 = true) (hi : inL h a i = true) : (WP Gm j_Law_law 298 (ls) (.inl i :: .inr (.inl (some a)) :: st) h Q) = (WP Gm j_Law_law 299 (ls) (.inl (gI h a i.toNatClampNeg) :: st) (h) Q) := (WP_at c_Law_law_298 _ _ _ _).trans (congrArg (fun o => ndX Gm (WP Gm) j_Law_law 298 o Q) (if_pos (by rw [hk, hi]; rfl)))
set_option maxRecDepth 100000 in
theorem c_Law_law_299 : mCode j_Law_law 299 = oAld 0 300 := (rfl)
theorem e_Law_law_299 (x : Option Nat) : (WP Gm j_Law_law 299 (some (.inr (.inl x)) :: ls) (st) h Q) = (WP Gm j_Law_law 300 (some (.inr (.inl x)) :: ls) (.inr (.inl x) :: st) (h) Q) := (WP_at c_Law_law_299 _ _ _ _)
set_option maxRecDepth 100000 in
theorem c_Law_law_300 : mCode j_Law_law 300 = oIld 4 302 := (rfl)
theorem e_Law_law_300 (a0 a1 a2 a3 : Option MV) (x : Int32) : (WP Gm j_Law_law 300 (a0 :: a1 :: a2 :: a3 :: some (.inl x) :: ls) (st) h Q) = (WP Gm j_Law_law 302 (a0 :: a1 :: a2 :: a3 :: some (.inl x) :: ls) (.inl x :: st) (h) Q) := (WP_at c_Law_law_300 _ _ _ _)
set_option maxRecDepth 100000 in
theorem c_Law_law_302 : mCode j_Law_law 302 = oI 3 303 := (rfl)
theorem e_Law_law_302  : (WP Gm j_Law_law 302 (ls) (st) h Q) = (WP Gm j_Law_law 303 (ls) (.inl 3 :: st) (h) Q) := (WP_at c_Law_law_302 _ _ _ _)
set_option maxRecDepth 100000 in
theorem c_Law_law_303 : mCode j_Law_law 303 = oII (fun x y => x + y) 304 := (rfl)
theorem e_Law_law_303 (x : Int32) (y : Int32) : (WP Gm j_Law_law 303 (ls) (.inl y :: .inl x :: st) h Q) = (WP Gm j_Law_law 304 (ls) (.inl (x + y) :: st) (h) Q) := (WP_at c_Law_law_303 _ _ _ _)
set_option maxRecDepth 100000 in
theorem c_Law_law_304 : mCode j_Law_law 304 = oIal 0 305 := (rfl)
theorem e_Law_law_304 (a : Nat) (i : Int32) (hk : isK h a 100 = true) (hi : inL h a i = true) : (WP Gm j_Law_law 304 (ls) (.inl i :: .inr (.inl (some a)) :: st) h Q) = (WP Gm j_Law_law 305 (ls) (.inl (gI h a i.toNatClampNeg) :: st) (h) Q) := (WP_at c_Law_law_304 _ _ _ _).trans (congrArg (fun o => ndX Gm (WP Gm) j_Law_law 304 o Q) (if_pos (by rw [hk, hi]; rfl)))
set_option maxRecDepth 100000 in
theorem c_Law_law_305 : mCode j_Law_law 305 = oCallV kc_Mdl j_Mdl_move 3 (mL j_Mdl_move) 308 := (rfl)
theorem e_Law_law_305 (a : Nat) (x0 : Int32) (x1 : Int32) (x2 : Int32) (hk : isK h a kc_Mdl = true) (hc : c8 st = true) : (WP Gm j_Law_law 305 (ls) (.inl x2 :: .inl x1 :: .inl x0 :: .inr (.inl (some a)) :: st) h Q) = (WP Gm j_Mdl_move 0 [some (.inr (.inl (some a))), some (.inl x0), some (.inl x1), some (.inl x2)] [] h (kC (fun v h2 => WP Gm j_Law_law 308 ls (v.toList ++ st) h2 Q) (fun E h2 => Q (.inr E) h2))) := (WP_at c_Law_law_305 _ _ _ _).trans (congrArg (fun o => ndX Gm (WP Gm) j_Law_law 305 o Q) (if_pos (by rw [hk, show decide (catS st ≤ 8) = true from hc]; rfl)))
set_option maxRecDepth 100000 in
theorem c_Law_law_308 : mCode j_Law_law 308 = oIst 6 310 := (rfl)
theorem e_Law_law_308 (x : Int32) : (WP Gm j_Law_law 308 (ls) (.inl x :: st) h Q) = (WP Gm j_Law_law 310 (lSet1 ls 6 (some (.inl x))) (st) (h) Q) := (WP_at c_Law_law_308 _ _ _ _)
set_option maxRecDepth 100000 in
theorem c_Law_law_310 : mCode j_Law_law 310 = oAld 2 311 := (rfl)
theorem e_Law_law_310 (a0 a1 : Option MV) (x : Option Nat) : (WP Gm j_Law_law 310 (a0 :: a1 :: some (.inr (.inl x)) :: ls) (st) h Q) = (WP Gm j_Law_law 311 (a0 :: a1 :: some (.inr (.inl x)) :: ls) (.inr (.inl x) :: st) (h) Q) := (WP_at c_Law_law_310 _ _ _ _)
set_option maxRecDepth 100000 in
theorem c_Law_law_311 : mCode j_Law_law 311 = oCallV kc_Mdl j_Mdl_thrown 0 (mL j_Mdl_thrown) 314 := (rfl)
theorem e_Law_law_311 (a : Nat) (hk : isK h a kc_Mdl = true) (hc : c8 st = true) : (WP Gm j_Law_law 311 (ls) (.inr (.inl (some a)) :: st) h Q) = (WP Gm j_Mdl_thrown 0 [some (.inr (.inl (some a)))] [] h (kC (fun v h2 => WP Gm j_Law_law 314 ls (v.toList ++ st) h2 Q) (fun E h2 => Q (.inr E) h2))) := (WP_at c_Law_law_311 _ _ _ _).trans (congrArg (fun o => ndX Gm (WP Gm) j_Law_law 311 o Q) (if_pos (by rw [hk, show decide (catS st ≤ 8) = true from hc]; rfl)))
set_option maxRecDepth 100000 in
theorem c_Law_law_314 : mCode j_Law_law 314 = oIld 5 316 := (rfl)
theorem e_Law_law_314 (a0 a1 a2 a3 a4 : Option MV) (x : Int32) : (WP Gm j_Law_law 314 (a0 :: a1 :: a2 :: a3 :: a4 :: some (.inl x) :: ls) (st) h Q) = (WP Gm j_Law_law 316 (a0 :: a1 :: a2 :: a3 :: a4 :: some (.inl x) :: ls) (.inl x :: st) (h) Q) := (WP_at c_Law_law_314 _ _ _ _)
set_option maxRecDepth 100000 in
theorem c_Law_law_316 : mCode j_Law_law 316 = oIC (fun x y => decide (x = y)) 321 319 := (rfl)
theorem e_Law_law_316 (x y : Int32) : (WP Gm j_Law_law 316 (ls) (.inl y :: .inl x :: st) h Q) = (if x = y then WP Gm j_Law_law 321 (ls) (st) (h) Q else WP Gm j_Law_law 319 (ls) (st) (h) Q) := (WP_at c_Law_law_316 _ _ _ _).trans (nd_ic rfl _ _ _ _)
set_option maxRecDepth 100000 in
theorem c_Law_law_319 : mCode j_Law_law 319 = oI 0 320 := (rfl)
theorem e_Law_law_319  : (WP Gm j_Law_law 319 (ls) (st) h Q) = (WP Gm j_Law_law 320 (ls) (.inl 0 :: st) (h) Q) := (WP_at c_Law_law_319 _ _ _ _)
set_option maxRecDepth 100000 in
theorem c_Law_law_320 : mCode j_Law_law 320 = oRetZ := (rfl)
theorem e_Law_law_320 (x : Int32) (hx : x = 0 ∨ x = 1) : (WP Gm j_Law_law 320 (ls) ([.inl x]) h Q) = (Q (.inl (some (.inl x))) h) := (WP_at c_Law_law_320 _ _ _ _).trans (congrArg (fun o => ndX Gm (WP Gm) j_Law_law 320 o Q) (if_pos (by rcases hx with rfl | rfl <;> rfl)))
set_option maxRecDepth 100000 in
theorem c_Law_law_321 : mCode j_Law_law 321 = oIld 5 323 := (rfl)
theorem e_Law_law_321 (a0 a1 a2 a3 a4 : Option MV) (x : Int32) : (WP Gm j_Law_law 321 (a0 :: a1 :: a2 :: a3 :: a4 :: some (.inl x) :: ls) (st) h Q) = (WP Gm j_Law_law 323 (a0 :: a1 :: a2 :: a3 :: a4 :: some (.inl x) :: ls) (.inl x :: st) (h) Q) := (WP_at c_Law_law_321 _ _ _ _)
set_option maxRecDepth 100000 in
theorem c_Law_law_323 : mCode j_Law_law 323 = oIf (fun x => decide (¬ x = 0)) 339 326 := (rfl)
theorem e_Law_law_323 (x : Int32) : (WP Gm j_Law_law 323 (ls) (.inl x :: st) h Q) = (if ¬ x = 0 then WP Gm j_Law_law 339 (ls) (st) (h) Q else WP Gm j_Law_law 326 (ls) (st) (h) Q) := (WP_at c_Law_law_323 _ _ _ _).trans (nd_if rfl _ _ _ _)
set_option maxRecDepth 100000 in
theorem c_Law_law_326 : mCode j_Law_law 326 = oAld 3 327 := (rfl)
theorem e_Law_law_326 (a0 a1 a2 : Option MV) (x : Option Nat) : (WP Gm j_Law_law 326 (a0 :: a1 :: a2 :: some (.inr (.inl x)) :: ls) (st) h Q) = (WP Gm j_Law_law 327 (a0 :: a1 :: a2 :: some (.inr (.inl x)) :: ls) (.inr (.inl x) :: st) (h) Q) := (WP_at c_Law_law_326 _ _ _ _)
set_option maxRecDepth 100000 in
theorem c_Law_law_327 : mCode j_Law_law 327 = oGetL kc_Out 0 330 := (rfl)
theorem e_Law_law_327 (a : Nat) (hk : isK h a kc_Out = true) : (WP Gm j_Law_law 327 (ls) (.inr (.inl (some a)) :: st) h Q) = (WP Gm j_Law_law 330 (ls) (.inr (.inr (.inl (gL h a 0))) :: st) (h) Q) := (WP_at c_Law_law_327 _ _ _ _).trans (congrArg (fun o => ndX Gm (WP Gm) j_Law_law 327 o Q) (if_pos hk))
set_option maxRecDepth 100000 in
theorem c_Law_law_330 : mCode j_Law_law 330 = oIld 6 332 := (rfl)
theorem e_Law_law_330 (a0 a1 a2 a3 a4 a5 : Option MV) (x : Int32) : (WP Gm j_Law_law 330 (a0 :: a1 :: a2 :: a3 :: a4 :: a5 :: some (.inl x) :: ls) (st) h Q) = (WP Gm j_Law_law 332 (a0 :: a1 :: a2 :: a3 :: a4 :: a5 :: some (.inl x) :: ls) (.inl x :: st) (h) Q) := (WP_at c_Law_law_330 _ _ _ _)
set_option maxRecDepth 100000 in
theorem c_Law_law_332 : mCode j_Law_law 332 = oI2L 333 := (rfl)
theorem e_Law_law_332 (x : Int32) : (WP Gm j_Law_law 332 (ls) (.inl x :: st) h Q) = (WP Gm j_Law_law 333 (ls) (.inr (.inr (.inl x.toInt64)) :: st) (h) Q) := (WP_at c_Law_law_332 _ _ _ _)
set_option maxRecDepth 100000 in
theorem c_Law_law_333 : mCode j_Law_law 333 = oLcmp 334 := (rfl)
theorem e_Law_law_333 (x y : Int64) : (WP Gm j_Law_law 333 (ls) (.inr (.inr (.inl y)) :: .inr (.inr (.inl x)) :: st) h Q) = (WP Gm j_Law_law 334 (ls) (.inl (lg_cmp x y) :: st) (h) Q) := (WP_at c_Law_law_333 _ _ _ _)
set_option maxRecDepth 100000 in
theorem c_Law_law_334 : mCode j_Law_law 334 = oIf (fun x => decide (x = 0)) 339 337 := (rfl)
theorem e_Law_law_334 (x : Int32) : (WP Gm j_Law_law 334 (ls) (.inl x :: st) h Q) = (if x = 0 then WP Gm j_Law_law 339 (ls) (st) (h) Q else WP Gm j_Law_law 337 (ls) (st) (h) Q) := (WP_at c_Law_law_334 _ _ _ _).trans (nd_if rfl _ _ _ _)
set_option maxRecDepth 100000 in
theorem c_Law_law_337 : mCode j_Law_law 337 = oI 0 338 := (rfl)
theorem e_Law_law_337  : (WP Gm j_Law_law 337 (ls) (st) h Q) = (WP Gm j_Law_law 338 (ls) (.inl 0 :: st) (h) Q) := (WP_at c_Law_law_337 _ _ _ _)
set_option maxRecDepth 100000 in
theorem c_Law_law_338 : mCode j_Law_law 338 = oRetZ := (rfl)
theorem e_Law_law_338 (x : Int32) (hx : x = 0 ∨ x = 1) : (WP Gm j_Law_law 338 (ls) ([.inl x]) h Q) = (Q (.inl (some (.inl x))) h) := (WP_at c_Law_law_338 _ _ _ _).trans (congrArg (fun o => ndX Gm (WP Gm) j_Law_law 338 o Q) (if_pos (by rcases hx with rfl | rfl <;> rfl)))
set_option maxRecDepth 100000 in
theorem c_Law_law_339 : mCode j_Law_law 339 = oGo 1549 := (rfl)
theorem e_Law_law_339  : (WP Gm j_Law_law 339 (ls) (st) h Q) = (WP Gm j_Law_law 1549 (ls) (st) (h) Q) := (WP_at c_Law_law_339 _ _ _ _)
set_option maxRecDepth 100000 in
theorem c_Law_law_342 : mCode j_Law_law 342 = oAld 1 343 := (rfl)
theorem e_Law_law_342 (a0 : Option MV) (x : Option Nat) : (WP Gm j_Law_law 342 (a0 :: some (.inr (.inl x)) :: ls) (st) h Q) = (WP Gm j_Law_law 343 (a0 :: some (.inr (.inl x)) :: ls) (.inr (.inl x) :: st) (h) Q) := (WP_at c_Law_law_342 _ _ _ _)
set_option maxRecDepth 100000 in
theorem c_Law_law_343 : mCode j_Law_law 343 = oAld 0 344 := (rfl)
theorem e_Law_law_343 (x : Option Nat) : (WP Gm j_Law_law 343 (some (.inr (.inl x)) :: ls) (st) h Q) = (WP Gm j_Law_law 344 (some (.inr (.inl x)) :: ls) (.inr (.inl x) :: st) (h) Q) := (WP_at c_Law_law_343 _ _ _ _)
set_option maxRecDepth 100000 in
theorem c_Law_law_344 : mCode j_Law_law 344 = oIld 4 346 := (rfl)
theorem e_Law_law_344 (a0 a1 a2 a3 : Option MV) (x : Int32) : (WP Gm j_Law_law 344 (a0 :: a1 :: a2 :: a3 :: some (.inl x) :: ls) (st) h Q) = (WP Gm j_Law_law 346 (a0 :: a1 :: a2 :: a3 :: some (.inl x) :: ls) (.inl x :: st) (h) Q) := (WP_at c_Law_law_344 _ _ _ _)
set_option maxRecDepth 100000 in
theorem c_Law_law_346 : mCode j_Law_law 346 = oI 1 347 := (rfl)
theorem e_Law_law_346  : (WP Gm j_Law_law 346 (ls) (st) h Q) = (WP Gm j_Law_law 347 (ls) (.inl 1 :: st) (h) Q) := (WP_at c_Law_law_346 _ _ _ _)
set_option maxRecDepth 100000 in
theorem c_Law_law_347 : mCode j_Law_law 347 = oII (fun x y => x + y) 348 := (rfl)
theorem e_Law_law_347 (x : Int32) (y : Int32) : (WP Gm j_Law_law 347 (ls) (.inl y :: .inl x :: st) h Q) = (WP Gm j_Law_law 348 (ls) (.inl (x + y) :: st) (h) Q) := (WP_at c_Law_law_347 _ _ _ _)
set_option maxRecDepth 100000 in
theorem c_Law_law_348 : mCode j_Law_law 348 = oIal 0 349 := (rfl)
theorem e_Law_law_348 (a : Nat) (i : Int32) (hk : isK h a 100 = true) (hi : inL h a i = true) : (WP Gm j_Law_law 348 (ls) (.inl i :: .inr (.inl (some a)) :: st) h Q) = (WP Gm j_Law_law 349 (ls) (.inl (gI h a i.toNatClampNeg) :: st) (h) Q) := (WP_at c_Law_law_348 _ _ _ _).trans (congrArg (fun o => ndX Gm (WP Gm) j_Law_law 348 o Q) (if_pos (by rw [hk, hi]; rfl)))
set_option maxRecDepth 100000 in
theorem c_Law_law_349 : mCode j_Law_law 349 = oAld 0 350 := (rfl)
theorem e_Law_law_349 (x : Option Nat) : (WP Gm j_Law_law 349 (some (.inr (.inl x)) :: ls) (st) h Q) = (WP Gm j_Law_law 350 (some (.inr (.inl x)) :: ls) (.inr (.inl x) :: st) (h) Q) := (WP_at c_Law_law_349 _ _ _ _)
set_option maxRecDepth 100000 in
theorem c_Law_law_350 : mCode j_Law_law 350 = oIld 4 352 := (rfl)
theorem e_Law_law_350 (a0 a1 a2 a3 : Option MV) (x : Int32) : (WP Gm j_Law_law 350 (a0 :: a1 :: a2 :: a3 :: some (.inl x) :: ls) (st) h Q) = (WP Gm j_Law_law 352 (a0 :: a1 :: a2 :: a3 :: some (.inl x) :: ls) (.inl x :: st) (h) Q) := (WP_at c_Law_law_350 _ _ _ _)
set_option maxRecDepth 100000 in
theorem c_Law_law_352 : mCode j_Law_law 352 = oI 2 353 := (rfl)
theorem e_Law_law_352  : (WP Gm j_Law_law 352 (ls) (st) h Q) = (WP Gm j_Law_law 353 (ls) (.inl 2 :: st) (h) Q) := (WP_at c_Law_law_352 _ _ _ _)
set_option maxRecDepth 100000 in
theorem c_Law_law_353 : mCode j_Law_law 353 = oII (fun x y => x + y) 354 := (rfl)
theorem e_Law_law_353 (x : Int32) (y : Int32) : (WP Gm j_Law_law 353 (ls) (.inl y :: .inl x :: st) h Q) = (WP Gm j_Law_law 354 (ls) (.inl (x + y) :: st) (h) Q) := (WP_at c_Law_law_353 _ _ _ _)
set_option maxRecDepth 100000 in
theorem c_Law_law_354 : mCode j_Law_law 354 = oIal 0 355 := (rfl)
theorem e_Law_law_354 (a : Nat) (i : Int32) (hk : isK h a 100 = true) (hi : inL h a i = true) : (WP Gm j_Law_law 354 (ls) (.inl i :: .inr (.inl (some a)) :: st) h Q) = (WP Gm j_Law_law 355 (ls) (.inl (gI h a i.toNatClampNeg) :: st) (h) Q) := (WP_at c_Law_law_354 _ _ _ _).trans (congrArg (fun o => ndX Gm (WP Gm) j_Law_law 354 o Q) (if_pos (by rw [hk, hi]; rfl)))
set_option maxRecDepth 100000 in
theorem c_Law_law_355 : mCode j_Law_law 355 = oAld 0 356 := (rfl)
theorem e_Law_law_355 (x : Option Nat) : (WP Gm j_Law_law 355 (some (.inr (.inl x)) :: ls) (st) h Q) = (WP Gm j_Law_law 356 (some (.inr (.inl x)) :: ls) (.inr (.inl x) :: st) (h) Q) := (WP_at c_Law_law_355 _ _ _ _)
set_option maxRecDepth 100000 in
theorem c_Law_law_356 : mCode j_Law_law 356 = oIld 4 358 := (rfl)
theorem e_Law_law_356 (a0 a1 a2 a3 : Option MV) (x : Int32) : (WP Gm j_Law_law 356 (a0 :: a1 :: a2 :: a3 :: some (.inl x) :: ls) (st) h Q) = (WP Gm j_Law_law 358 (a0 :: a1 :: a2 :: a3 :: some (.inl x) :: ls) (.inl x :: st) (h) Q) := (WP_at c_Law_law_356 _ _ _ _)
set_option maxRecDepth 100000 in
theorem c_Law_law_358 : mCode j_Law_law 358 = oI 3 359 := (rfl)
theorem e_Law_law_358  : (WP Gm j_Law_law 358 (ls) (st) h Q) = (WP Gm j_Law_law 359 (ls) (.inl 3 :: st) (h) Q) := (WP_at c_Law_law_358 _ _ _ _)
set_option maxRecDepth 100000 in
theorem c_Law_law_359 : mCode j_Law_law 359 = oII (fun x y => x + y) 360 := (rfl)
theorem e_Law_law_359 (x : Int32) (y : Int32) : (WP Gm j_Law_law 359 (ls) (.inl y :: .inl x :: st) h Q) = (WP Gm j_Law_law 360 (ls) (.inl (x + y) :: st) (h) Q) := (WP_at c_Law_law_359 _ _ _ _)
set_option maxRecDepth 100000 in
theorem c_Law_law_360 : mCode j_Law_law 360 = oIal 0 361 := (rfl)
theorem e_Law_law_360 (a : Nat) (i : Int32) (hk : isK h a 100 = true) (hi : inL h a i = true) : (WP Gm j_Law_law 360 (ls) (.inl i :: .inr (.inl (some a)) :: st) h Q) = (WP Gm j_Law_law 361 (ls) (.inl (gI h a i.toNatClampNeg) :: st) (h) Q) := (WP_at c_Law_law_360 _ _ _ _).trans (congrArg (fun o => ndX Gm (WP Gm) j_Law_law 360 o Q) (if_pos (by rw [hk, hi]; rfl)))
set_option maxRecDepth 100000 in
theorem c_Law_law_361 : mCode j_Law_law 361 = oIf (fun x => decide (x = 0)) 368 364 := (rfl)
theorem e_Law_law_361 (x : Int32) : (WP Gm j_Law_law 361 (ls) (.inl x :: st) h Q) = (if x = 0 then WP Gm j_Law_law 368 (ls) (st) (h) Q else WP Gm j_Law_law 364 (ls) (st) (h) Q) := (WP_at c_Law_law_361 _ _ _ _).trans (nd_if rfl _ _ _ _)
set_option maxRecDepth 100000 in
theorem c_Law_law_364 : mCode j_Law_law 364 = oI 1 365 := (rfl)
theorem e_Law_law_364  : (WP Gm j_Law_law 364 (ls) (st) h Q) = (WP Gm j_Law_law 365 (ls) (.inl 1 :: st) (h) Q) := (WP_at c_Law_law_364 _ _ _ _)
set_option maxRecDepth 100000 in
theorem c_Law_law_365 : mCode j_Law_law 365 = oGo 369 := (rfl)
theorem e_Law_law_365  : (WP Gm j_Law_law 365 (ls) (st) h Q) = (WP Gm j_Law_law 369 (ls) (st) (h) Q) := (WP_at c_Law_law_365 _ _ _ _)
set_option maxRecDepth 100000 in
theorem c_Law_law_368 : mCode j_Law_law 368 = oI 0 369 := (rfl)
theorem e_Law_law_368  : (WP Gm j_Law_law 368 (ls) (st) h Q) = (WP Gm j_Law_law 369 (ls) (.inl 0 :: st) (h) Q) := (WP_at c_Law_law_368 _ _ _ _)
set_option maxRecDepth 100000 in
theorem c_Law_law_369 : mCode j_Law_law 369 = oAld 3 370 := (rfl)
theorem e_Law_law_369 (a0 a1 a2 : Option MV) (x : Option Nat) : (WP Gm j_Law_law 369 (a0 :: a1 :: a2 :: some (.inr (.inl x)) :: ls) (st) h Q) = (WP Gm j_Law_law 370 (a0 :: a1 :: a2 :: some (.inr (.inl x)) :: ls) (.inr (.inl x) :: st) (h) Q) := (WP_at c_Law_law_369 _ _ _ _)
set_option maxRecDepth 100000 in
theorem c_Law_law_370 : mCode j_Law_law 370 = oCallS j_Law_tune 5 (mL j_Law_tune) 373 := (rfl)
theorem e_Law_law_370 (x0 : Option Nat) (x1 : Int32) (x2 : Int32) (x3 : Int32) (x4 : Option Nat) (hc : c8 st = true) : (WP Gm j_Law_law 370 (ls) (.inr (.inl x4) :: .inl x3 :: .inl x2 :: .inl x1 :: .inr (.inl x0) :: st) h Q) = (WP Gm j_Law_tune 0 [some (.inr (.inl x0)), some (.inl x1), some (.inl x2), some (.inl x3), some (.inr (.inl x4)), none] [] h (kC (fun v h2 => WP Gm j_Law_law 373 ls (v.toList ++ st) h2 Q) (fun E h2 => Q (.inr E) h2))) := (WP_at c_Law_law_370 _ _ _ _).trans (congrArg (fun o => ndX Gm (WP Gm) j_Law_law 370 o Q) (if_pos (by rw [show decide (catS st ≤ 8) = true from hc]; rfl)))
set_option maxRecDepth 100000 in
theorem c_Law_law_373 : mCode j_Law_law 373 = oIst 5 375 := (rfl)
theorem e_Law_law_373 (x : Int32) : (WP Gm j_Law_law 373 (ls) (.inl x :: st) h Q) = (WP Gm j_Law_law 375 (lSet1 ls 5 (some (.inl x))) (st) (h) Q) := (WP_at c_Law_law_373 _ _ _ _)
set_option maxRecDepth 100000 in
theorem c_Law_law_375 : mCode j_Law_law 375 = oAld 2 376 := (rfl)
theorem e_Law_law_375 (a0 a1 : Option MV) (x : Option Nat) : (WP Gm j_Law_law 375 (a0 :: a1 :: some (.inr (.inl x)) :: ls) (st) h Q) = (WP Gm j_Law_law 376 (a0 :: a1 :: some (.inr (.inl x)) :: ls) (.inr (.inl x) :: st) (h) Q) := (WP_at c_Law_law_375 _ _ _ _)
set_option maxRecDepth 100000 in
theorem c_Law_law_376 : mCode j_Law_law 376 = oAld 0 377 := (rfl)
theorem e_Law_law_376 (x : Option Nat) : (WP Gm j_Law_law 376 (some (.inr (.inl x)) :: ls) (st) h Q) = (WP Gm j_Law_law 377 (some (.inr (.inl x)) :: ls) (.inr (.inl x) :: st) (h) Q) := (WP_at c_Law_law_376 _ _ _ _)
set_option maxRecDepth 100000 in
theorem c_Law_law_377 : mCode j_Law_law 377 = oIld 4 379 := (rfl)
theorem e_Law_law_377 (a0 a1 a2 a3 : Option MV) (x : Int32) : (WP Gm j_Law_law 377 (a0 :: a1 :: a2 :: a3 :: some (.inl x) :: ls) (st) h Q) = (WP Gm j_Law_law 379 (a0 :: a1 :: a2 :: a3 :: some (.inl x) :: ls) (.inl x :: st) (h) Q) := (WP_at c_Law_law_377 _ _ _ _)
set_option maxRecDepth 100000 in
theorem c_Law_law_379 : mCode j_Law_law 379 = oI 1 380 := (rfl)
theorem e_Law_law_379  : (WP Gm j_Law_law 379 (ls) (st) h Q) = (WP Gm j_Law_law 380 (ls) (.inl 1 :: st) (h) Q) := (WP_at c_Law_law_379 _ _ _ _)
set_option maxRecDepth 100000 in
theorem c_Law_law_380 : mCode j_Law_law 380 = oII (fun x y => x + y) 381 := (rfl)
theorem e_Law_law_380 (x : Int32) (y : Int32) : (WP Gm j_Law_law 380 (ls) (.inl y :: .inl x :: st) h Q) = (WP Gm j_Law_law 381 (ls) (.inl (x + y) :: st) (h) Q) := (WP_at c_Law_law_380 _ _ _ _)
set_option maxRecDepth 100000 in
theorem c_Law_law_381 : mCode j_Law_law 381 = oIal 0 382 := (rfl)
theorem e_Law_law_381 (a : Nat) (i : Int32) (hk : isK h a 100 = true) (hi : inL h a i = true) : (WP Gm j_Law_law 381 (ls) (.inl i :: .inr (.inl (some a)) :: st) h Q) = (WP Gm j_Law_law 382 (ls) (.inl (gI h a i.toNatClampNeg) :: st) (h) Q) := (WP_at c_Law_law_381 _ _ _ _).trans (congrArg (fun o => ndX Gm (WP Gm) j_Law_law 381 o Q) (if_pos (by rw [hk, hi]; rfl)))
set_option maxRecDepth 100000 in
theorem c_Law_law_382 : mCode j_Law_law 382 = oAld 0 383 := (rfl)
theorem e_Law_law_382 (x : Option Nat) : (WP Gm j_Law_law 382 (some (.inr (.inl x)) :: ls) (st) h Q) = (WP Gm j_Law_law 383 (some (.inr (.inl x)) :: ls) (.inr (.inl x) :: st) (h) Q) := (WP_at c_Law_law_382 _ _ _ _)
set_option maxRecDepth 100000 in
theorem c_Law_law_383 : mCode j_Law_law 383 = oIld 4 385 := (rfl)
theorem e_Law_law_383 (a0 a1 a2 a3 : Option MV) (x : Int32) : (WP Gm j_Law_law 383 (a0 :: a1 :: a2 :: a3 :: some (.inl x) :: ls) (st) h Q) = (WP Gm j_Law_law 385 (a0 :: a1 :: a2 :: a3 :: some (.inl x) :: ls) (.inl x :: st) (h) Q) := (WP_at c_Law_law_383 _ _ _ _)
set_option maxRecDepth 100000 in
theorem c_Law_law_385 : mCode j_Law_law 385 = oI 2 386 := (rfl)
theorem e_Law_law_385  : (WP Gm j_Law_law 385 (ls) (st) h Q) = (WP Gm j_Law_law 386 (ls) (.inl 2 :: st) (h) Q) := (WP_at c_Law_law_385 _ _ _ _)
set_option maxRecDepth 100000 in
theorem c_Law_law_386 : mCode j_Law_law 386 = oII (fun x y => x + y) 387 := (rfl)
theorem e_Law_law_386 (x : Int32) (y : Int32) : (WP Gm j_Law_law 386 (ls) (.inl y :: .inl x :: st) h Q) = (WP Gm j_Law_law 387 (ls) (.inl (x + y) :: st) (h) Q) := (WP_at c_Law_law_386 _ _ _ _)
set_option maxRecDepth 100000 in
theorem c_Law_law_387 : mCode j_Law_law 387 = oIal 0 388 := (rfl)
theorem e_Law_law_387 (a : Nat) (i : Int32) (hk : isK h a 100 = true) (hi : inL h a i = true) : (WP Gm j_Law_law 387 (ls) (.inl i :: .inr (.inl (some a)) :: st) h Q) = (WP Gm j_Law_law 388 (ls) (.inl (gI h a i.toNatClampNeg) :: st) (h) Q) := (WP_at c_Law_law_387 _ _ _ _).trans (congrArg (fun o => ndX Gm (WP Gm) j_Law_law 387 o Q) (if_pos (by rw [hk, hi]; rfl)))
set_option maxRecDepth 100000 in
theorem c_Law_law_388 : mCode j_Law_law 388 = oAld 0 389 := (rfl)
theorem e_Law_law_388 (x : Option Nat) : (WP Gm j_Law_law 388 (some (.inr (.inl x)) :: ls) (st) h Q) = (WP Gm j_Law_law 389 (some (.inr (.inl x)) :: ls) (.inr (.inl x) :: st) (h) Q) := (WP_at c_Law_law_388 _ _ _ _)
set_option maxRecDepth 100000 in
theorem c_Law_law_389 : mCode j_Law_law 389 = oIld 4 391 := (rfl)
theorem e_Law_law_389 (a0 a1 a2 a3 : Option MV) (x : Int32) : (WP Gm j_Law_law 389 (a0 :: a1 :: a2 :: a3 :: some (.inl x) :: ls) (st) h Q) = (WP Gm j_Law_law 391 (a0 :: a1 :: a2 :: a3 :: some (.inl x) :: ls) (.inl x :: st) (h) Q) := (WP_at c_Law_law_389 _ _ _ _)
set_option maxRecDepth 100000 in
theorem c_Law_law_391 : mCode j_Law_law 391 = oI 3 392 := (rfl)
theorem e_Law_law_391  : (WP Gm j_Law_law 391 (ls) (st) h Q) = (WP Gm j_Law_law 392 (ls) (.inl 3 :: st) (h) Q) := (WP_at c_Law_law_391 _ _ _ _)
set_option maxRecDepth 100000 in
theorem c_Law_law_392 : mCode j_Law_law 392 = oII (fun x y => x + y) 393 := (rfl)
theorem e_Law_law_392 (x : Int32) (y : Int32) : (WP Gm j_Law_law 392 (ls) (.inl y :: .inl x :: st) h Q) = (WP Gm j_Law_law 393 (ls) (.inl (x + y) :: st) (h) Q) := (WP_at c_Law_law_392 _ _ _ _)
set_option maxRecDepth 100000 in
theorem c_Law_law_393 : mCode j_Law_law 393 = oIal 0 394 := (rfl)
theorem e_Law_law_393 (a : Nat) (i : Int32) (hk : isK h a 100 = true) (hi : inL h a i = true) : (WP Gm j_Law_law 393 (ls) (.inl i :: .inr (.inl (some a)) :: st) h Q) = (WP Gm j_Law_law 394 (ls) (.inl (gI h a i.toNatClampNeg) :: st) (h) Q) := (WP_at c_Law_law_393 _ _ _ _).trans (congrArg (fun o => ndX Gm (WP Gm) j_Law_law 393 o Q) (if_pos (by rw [hk, hi]; rfl)))
set_option maxRecDepth 100000 in
theorem c_Law_law_394 : mCode j_Law_law 394 = oIf (fun x => decide (x = 0)) 401 397 := (rfl)
theorem e_Law_law_394 (x : Int32) : (WP Gm j_Law_law 394 (ls) (.inl x :: st) h Q) = (if x = 0 then WP Gm j_Law_law 401 (ls) (st) (h) Q else WP Gm j_Law_law 397 (ls) (st) (h) Q) := (WP_at c_Law_law_394 _ _ _ _).trans (nd_if rfl _ _ _ _)
set_option maxRecDepth 100000 in
theorem c_Law_law_397 : mCode j_Law_law 397 = oI 1 398 := (rfl)
theorem e_Law_law_397  : (WP Gm j_Law_law 397 (ls) (st) h Q) = (WP Gm j_Law_law 398 (ls) (.inl 1 :: st) (h) Q) := (WP_at c_Law_law_397 _ _ _ _)
set_option maxRecDepth 100000 in
theorem c_Law_law_398 : mCode j_Law_law 398 = oGo 402 := (rfl)
theorem e_Law_law_398  : (WP Gm j_Law_law 398 (ls) (st) h Q) = (WP Gm j_Law_law 402 (ls) (st) (h) Q) := (WP_at c_Law_law_398 _ _ _ _)
set_option maxRecDepth 100000 in
theorem c_Law_law_401 : mCode j_Law_law 401 = oI 0 402 := (rfl)
theorem e_Law_law_401  : (WP Gm j_Law_law 401 (ls) (st) h Q) = (WP Gm j_Law_law 402 (ls) (.inl 0 :: st) (h) Q) := (WP_at c_Law_law_401 _ _ _ _)
set_option maxRecDepth 100000 in
theorem c_Law_law_402 : mCode j_Law_law 402 = oCallV kc_Mdl j_Mdl_tune 3 (mL j_Mdl_tune) 405 := (rfl)
theorem e_Law_law_402 (a : Nat) (x0 : Int32) (x1 : Int32) (x2 : Int32) (hk : isK h a kc_Mdl = true) (hc : c8 st = true) : (WP Gm j_Law_law 402 (ls) (.inl x2 :: .inl x1 :: .inl x0 :: .inr (.inl (some a)) :: st) h Q) = (WP Gm j_Mdl_tune 0 [some (.inr (.inl (some a))), some (.inl x0), some (.inl x1), some (.inl x2), none] [] h (kC (fun v h2 => WP Gm j_Law_law 405 ls (v.toList ++ st) h2 Q) (fun E h2 => Q (.inr E) h2))) := (WP_at c_Law_law_402 _ _ _ _).trans (congrArg (fun o => ndX Gm (WP Gm) j_Law_law 402 o Q) (if_pos (by rw [hk, show decide (catS st ≤ 8) = true from hc]; rfl)))
set_option maxRecDepth 100000 in
theorem c_Law_law_405 : mCode j_Law_law 405 = oIst 6 407 := (rfl)
theorem e_Law_law_405 (x : Int32) : (WP Gm j_Law_law 405 (ls) (.inl x :: st) h Q) = (WP Gm j_Law_law 407 (lSet1 ls 6 (some (.inl x))) (st) (h) Q) := (WP_at c_Law_law_405 _ _ _ _)
set_option maxRecDepth 100000 in
theorem c_Law_law_407 : mCode j_Law_law 407 = oAld 2 408 := (rfl)
theorem e_Law_law_407 (a0 a1 : Option MV) (x : Option Nat) : (WP Gm j_Law_law 407 (a0 :: a1 :: some (.inr (.inl x)) :: ls) (st) h Q) = (WP Gm j_Law_law 408 (a0 :: a1 :: some (.inr (.inl x)) :: ls) (.inr (.inl x) :: st) (h) Q) := (WP_at c_Law_law_407 _ _ _ _)
set_option maxRecDepth 100000 in
theorem c_Law_law_408 : mCode j_Law_law 408 = oCallV kc_Mdl j_Mdl_thrown 0 (mL j_Mdl_thrown) 411 := (rfl)
theorem e_Law_law_408 (a : Nat) (hk : isK h a kc_Mdl = true) (hc : c8 st = true) : (WP Gm j_Law_law 408 (ls) (.inr (.inl (some a)) :: st) h Q) = (WP Gm j_Mdl_thrown 0 [some (.inr (.inl (some a)))] [] h (kC (fun v h2 => WP Gm j_Law_law 411 ls (v.toList ++ st) h2 Q) (fun E h2 => Q (.inr E) h2))) := (WP_at c_Law_law_408 _ _ _ _).trans (congrArg (fun o => ndX Gm (WP Gm) j_Law_law 408 o Q) (if_pos (by rw [hk, show decide (catS st ≤ 8) = true from hc]; rfl)))
set_option maxRecDepth 100000 in
theorem c_Law_law_411 : mCode j_Law_law 411 = oIld 5 413 := (rfl)
theorem e_Law_law_411 (a0 a1 a2 a3 a4 : Option MV) (x : Int32) : (WP Gm j_Law_law 411 (a0 :: a1 :: a2 :: a3 :: a4 :: some (.inl x) :: ls) (st) h Q) = (WP Gm j_Law_law 413 (a0 :: a1 :: a2 :: a3 :: a4 :: some (.inl x) :: ls) (.inl x :: st) (h) Q) := (WP_at c_Law_law_411 _ _ _ _)
set_option maxRecDepth 100000 in
theorem c_Law_law_413 : mCode j_Law_law 413 = oIC (fun x y => decide (x = y)) 418 416 := (rfl)
theorem e_Law_law_413 (x y : Int32) : (WP Gm j_Law_law 413 (ls) (.inl y :: .inl x :: st) h Q) = (if x = y then WP Gm j_Law_law 418 (ls) (st) (h) Q else WP Gm j_Law_law 416 (ls) (st) (h) Q) := (WP_at c_Law_law_413 _ _ _ _).trans (nd_ic rfl _ _ _ _)
set_option maxRecDepth 100000 in
theorem c_Law_law_416 : mCode j_Law_law 416 = oI 0 417 := (rfl)
theorem e_Law_law_416  : (WP Gm j_Law_law 416 (ls) (st) h Q) = (WP Gm j_Law_law 417 (ls) (.inl 0 :: st) (h) Q) := (WP_at c_Law_law_416 _ _ _ _)
set_option maxRecDepth 100000 in
theorem c_Law_law_417 : mCode j_Law_law 417 = oRetZ := (rfl)
theorem e_Law_law_417 (x : Int32) (hx : x = 0 ∨ x = 1) : (WP Gm j_Law_law 417 (ls) ([.inl x]) h Q) = (Q (.inl (some (.inl x))) h) := (WP_at c_Law_law_417 _ _ _ _).trans (congrArg (fun o => ndX Gm (WP Gm) j_Law_law 417 o Q) (if_pos (by rcases hx with rfl | rfl <;> rfl)))
set_option maxRecDepth 100000 in
theorem c_Law_law_418 : mCode j_Law_law 418 = oIld 5 420 := (rfl)
theorem e_Law_law_418 (a0 a1 a2 a3 a4 : Option MV) (x : Int32) : (WP Gm j_Law_law 418 (a0 :: a1 :: a2 :: a3 :: a4 :: some (.inl x) :: ls) (st) h Q) = (WP Gm j_Law_law 420 (a0 :: a1 :: a2 :: a3 :: a4 :: some (.inl x) :: ls) (.inl x :: st) (h) Q) := (WP_at c_Law_law_418 _ _ _ _)
set_option maxRecDepth 100000 in
theorem c_Law_law_420 : mCode j_Law_law 420 = oIf (fun x => decide (¬ x = 0)) 436 423 := (rfl)
theorem e_Law_law_420 (x : Int32) : (WP Gm j_Law_law 420 (ls) (.inl x :: st) h Q) = (if ¬ x = 0 then WP Gm j_Law_law 436 (ls) (st) (h) Q else WP Gm j_Law_law 423 (ls) (st) (h) Q) := (WP_at c_Law_law_420 _ _ _ _).trans (nd_if rfl _ _ _ _)
set_option maxRecDepth 100000 in
theorem c_Law_law_423 : mCode j_Law_law 423 = oAld 3 424 := (rfl)
theorem e_Law_law_423 (a0 a1 a2 : Option MV) (x : Option Nat) : (WP Gm j_Law_law 423 (a0 :: a1 :: a2 :: some (.inr (.inl x)) :: ls) (st) h Q) = (WP Gm j_Law_law 424 (a0 :: a1 :: a2 :: some (.inr (.inl x)) :: ls) (.inr (.inl x) :: st) (h) Q) := (WP_at c_Law_law_423 _ _ _ _)
set_option maxRecDepth 100000 in
theorem c_Law_law_424 : mCode j_Law_law 424 = oGetL kc_Out 0 427 := (rfl)
theorem e_Law_law_424 (a : Nat) (hk : isK h a kc_Out = true) : (WP Gm j_Law_law 424 (ls) (.inr (.inl (some a)) :: st) h Q) = (WP Gm j_Law_law 427 (ls) (.inr (.inr (.inl (gL h a 0))) :: st) (h) Q) := (WP_at c_Law_law_424 _ _ _ _).trans (congrArg (fun o => ndX Gm (WP Gm) j_Law_law 424 o Q) (if_pos hk))
set_option maxRecDepth 100000 in
theorem c_Law_law_427 : mCode j_Law_law 427 = oIld 6 429 := (rfl)
theorem e_Law_law_427 (a0 a1 a2 a3 a4 a5 : Option MV) (x : Int32) : (WP Gm j_Law_law 427 (a0 :: a1 :: a2 :: a3 :: a4 :: a5 :: some (.inl x) :: ls) (st) h Q) = (WP Gm j_Law_law 429 (a0 :: a1 :: a2 :: a3 :: a4 :: a5 :: some (.inl x) :: ls) (.inl x :: st) (h) Q) := (WP_at c_Law_law_427 _ _ _ _)
set_option maxRecDepth 100000 in
theorem c_Law_law_429 : mCode j_Law_law 429 = oI2L 430 := (rfl)
theorem e_Law_law_429 (x : Int32) : (WP Gm j_Law_law 429 (ls) (.inl x :: st) h Q) = (WP Gm j_Law_law 430 (ls) (.inr (.inr (.inl x.toInt64)) :: st) (h) Q) := (WP_at c_Law_law_429 _ _ _ _)
set_option maxRecDepth 100000 in
theorem c_Law_law_430 : mCode j_Law_law 430 = oLcmp 431 := (rfl)
theorem e_Law_law_430 (x y : Int64) : (WP Gm j_Law_law 430 (ls) (.inr (.inr (.inl y)) :: .inr (.inr (.inl x)) :: st) h Q) = (WP Gm j_Law_law 431 (ls) (.inl (lg_cmp x y) :: st) (h) Q) := (WP_at c_Law_law_430 _ _ _ _)
set_option maxRecDepth 100000 in
theorem c_Law_law_431 : mCode j_Law_law 431 = oIf (fun x => decide (x = 0)) 436 434 := (rfl)
theorem e_Law_law_431 (x : Int32) : (WP Gm j_Law_law 431 (ls) (.inl x :: st) h Q) = (if x = 0 then WP Gm j_Law_law 436 (ls) (st) (h) Q else WP Gm j_Law_law 434 (ls) (st) (h) Q) := (WP_at c_Law_law_431 _ _ _ _).trans (nd_if rfl _ _ _ _)
set_option maxRecDepth 100000 in
theorem c_Law_law_434 : mCode j_Law_law 434 = oI 0 435 := (rfl)
theorem e_Law_law_434  : (WP Gm j_Law_law 434 (ls) (st) h Q) = (WP Gm j_Law_law 435 (ls) (.inl 0 :: st) (h) Q) := (WP_at c_Law_law_434 _ _ _ _)
set_option maxRecDepth 100000 in
theorem c_Law_law_435 : mCode j_Law_law 435 = oRetZ := (rfl)
theorem e_Law_law_435 (x : Int32) (hx : x = 0 ∨ x = 1) : (WP Gm j_Law_law 435 (ls) ([.inl x]) h Q) = (Q (.inl (some (.inl x))) h) := (WP_at c_Law_law_435 _ _ _ _).trans (congrArg (fun o => ndX Gm (WP Gm) j_Law_law 435 o Q) (if_pos (by rcases hx with rfl | rfl <;> rfl)))
set_option maxRecDepth 100000 in
theorem c_Law_law_436 : mCode j_Law_law 436 = oGo 1549 := (rfl)
theorem e_Law_law_436  : (WP Gm j_Law_law 436 (ls) (st) h Q) = (WP Gm j_Law_law 1549 (ls) (st) (h) Q) := (WP_at c_Law_law_436 _ _ _ _)
set_option maxRecDepth 100000 in
theorem c_Law_law_439 : mCode j_Law_law 439 = oAld 1 440 := (rfl)
theorem e_Law_law_439 (a0 : Option MV) (x : Option Nat) : (WP Gm j_Law_law 439 (a0 :: some (.inr (.inl x)) :: ls) (st) h Q) = (WP Gm j_Law_law 440 (a0 :: some (.inr (.inl x)) :: ls) (.inr (.inl x) :: st) (h) Q) := (WP_at c_Law_law_439 _ _ _ _)
set_option maxRecDepth 100000 in
theorem c_Law_law_440 : mCode j_Law_law 440 = oAld 0 441 := (rfl)
theorem e_Law_law_440 (x : Option Nat) : (WP Gm j_Law_law 440 (some (.inr (.inl x)) :: ls) (st) h Q) = (WP Gm j_Law_law 441 (some (.inr (.inl x)) :: ls) (.inr (.inl x) :: st) (h) Q) := (WP_at c_Law_law_440 _ _ _ _)
set_option maxRecDepth 100000 in
theorem c_Law_law_441 : mCode j_Law_law 441 = oIld 4 443 := (rfl)
theorem e_Law_law_441 (a0 a1 a2 a3 : Option MV) (x : Int32) : (WP Gm j_Law_law 441 (a0 :: a1 :: a2 :: a3 :: some (.inl x) :: ls) (st) h Q) = (WP Gm j_Law_law 443 (a0 :: a1 :: a2 :: a3 :: some (.inl x) :: ls) (.inl x :: st) (h) Q) := (WP_at c_Law_law_441 _ _ _ _)
set_option maxRecDepth 100000 in
theorem c_Law_law_443 : mCode j_Law_law 443 = oI 1 444 := (rfl)
theorem e_Law_law_443  : (WP Gm j_Law_law 443 (ls) (st) h Q) = (WP Gm j_Law_law 444 (ls) (.inl 1 :: st) (h) Q) := (WP_at c_Law_law_443 _ _ _ _)
set_option maxRecDepth 100000 in
theorem c_Law_law_444 : mCode j_Law_law 444 = oII (fun x y => x + y) 445 := (rfl)
theorem e_Law_law_444 (x : Int32) (y : Int32) : (WP Gm j_Law_law 444 (ls) (.inl y :: .inl x :: st) h Q) = (WP Gm j_Law_law 445 (ls) (.inl (x + y) :: st) (h) Q) := (WP_at c_Law_law_444 _ _ _ _)
set_option maxRecDepth 100000 in
theorem c_Law_law_445 : mCode j_Law_law 445 = oIal 0 446 := (rfl)
theorem e_Law_law_445 (a : Nat) (i : Int32) (hk : isK h a 100 = true) (hi : inL h a i = true) : (WP Gm j_Law_law 445 (ls) (.inl i :: .inr (.inl (some a)) :: st) h Q) = (WP Gm j_Law_law 446 (ls) (.inl (gI h a i.toNatClampNeg) :: st) (h) Q) := (WP_at c_Law_law_445 _ _ _ _).trans (congrArg (fun o => ndX Gm (WP Gm) j_Law_law 445 o Q) (if_pos (by rw [hk, hi]; rfl)))
set_option maxRecDepth 100000 in
theorem c_Law_law_446 : mCode j_Law_law 446 = oAld 0 447 := (rfl)
theorem e_Law_law_446 (x : Option Nat) : (WP Gm j_Law_law 446 (some (.inr (.inl x)) :: ls) (st) h Q) = (WP Gm j_Law_law 447 (some (.inr (.inl x)) :: ls) (.inr (.inl x) :: st) (h) Q) := (WP_at c_Law_law_446 _ _ _ _)
set_option maxRecDepth 100000 in
theorem c_Law_law_447 : mCode j_Law_law 447 = oIld 4 449 := (rfl)
theorem e_Law_law_447 (a0 a1 a2 a3 : Option MV) (x : Int32) : (WP Gm j_Law_law 447 (a0 :: a1 :: a2 :: a3 :: some (.inl x) :: ls) (st) h Q) = (WP Gm j_Law_law 449 (a0 :: a1 :: a2 :: a3 :: some (.inl x) :: ls) (.inl x :: st) (h) Q) := (WP_at c_Law_law_447 _ _ _ _)
set_option maxRecDepth 100000 in
theorem c_Law_law_449 : mCode j_Law_law 449 = oI 2 450 := (rfl)
theorem e_Law_law_449  : (WP Gm j_Law_law 449 (ls) (st) h Q) = (WP Gm j_Law_law 450 (ls) (.inl 2 :: st) (h) Q) := (WP_at c_Law_law_449 _ _ _ _)
set_option maxRecDepth 100000 in
theorem c_Law_law_450 : mCode j_Law_law 450 = oII (fun x y => x + y) 451 := (rfl)
theorem e_Law_law_450 (x : Int32) (y : Int32) : (WP Gm j_Law_law 450 (ls) (.inl y :: .inl x :: st) h Q) = (WP Gm j_Law_law 451 (ls) (.inl (x + y) :: st) (h) Q) := (WP_at c_Law_law_450 _ _ _ _)
set_option maxRecDepth 100000 in
theorem c_Law_law_451 : mCode j_Law_law 451 = oIal 0 452 := (rfl)
theorem e_Law_law_451 (a : Nat) (i : Int32) (hk : isK h a 100 = true) (hi : inL h a i = true) : (WP Gm j_Law_law 451 (ls) (.inl i :: .inr (.inl (some a)) :: st) h Q) = (WP Gm j_Law_law 452 (ls) (.inl (gI h a i.toNatClampNeg) :: st) (h) Q) := (WP_at c_Law_law_451 _ _ _ _).trans (congrArg (fun o => ndX Gm (WP Gm) j_Law_law 451 o Q) (if_pos (by rw [hk, hi]; rfl)))
set_option maxRecDepth 100000 in
theorem c_Law_law_452 : mCode j_Law_law 452 = oAld 0 453 := (rfl)
theorem e_Law_law_452 (x : Option Nat) : (WP Gm j_Law_law 452 (some (.inr (.inl x)) :: ls) (st) h Q) = (WP Gm j_Law_law 453 (some (.inr (.inl x)) :: ls) (.inr (.inl x) :: st) (h) Q) := (WP_at c_Law_law_452 _ _ _ _)
set_option maxRecDepth 100000 in
theorem c_Law_law_453 : mCode j_Law_law 453 = oIld 4 455 := (rfl)
theorem e_Law_law_453 (a0 a1 a2 a3 : Option MV) (x : Int32) : (WP Gm j_Law_law 453 (a0 :: a1 :: a2 :: a3 :: some (.inl x) :: ls) (st) h Q) = (WP Gm j_Law_law 455 (a0 :: a1 :: a2 :: a3 :: some (.inl x) :: ls) (.inl x :: st) (h) Q) := (WP_at c_Law_law_453 _ _ _ _)
set_option maxRecDepth 100000 in
theorem c_Law_law_455 : mCode j_Law_law 455 = oI 3 456 := (rfl)
theorem e_Law_law_455  : (WP Gm j_Law_law 455 (ls) (st) h Q) = (WP Gm j_Law_law 456 (ls) (.inl 3 :: st) (h) Q) := (WP_at c_Law_law_455 _ _ _ _)
set_option maxRecDepth 100000 in
theorem c_Law_law_456 : mCode j_Law_law 456 = oII (fun x y => x + y) 457 := (rfl)
theorem e_Law_law_456 (x : Int32) (y : Int32) : (WP Gm j_Law_law 456 (ls) (.inl y :: .inl x :: st) h Q) = (WP Gm j_Law_law 457 (ls) (.inl (x + y) :: st) (h) Q) := (WP_at c_Law_law_456 _ _ _ _)
set_option maxRecDepth 100000 in
theorem c_Law_law_457 : mCode j_Law_law 457 = oIal 0 458 := (rfl)
theorem e_Law_law_457 (a : Nat) (i : Int32) (hk : isK h a 100 = true) (hi : inL h a i = true) : (WP Gm j_Law_law 457 (ls) (.inl i :: .inr (.inl (some a)) :: st) h Q) = (WP Gm j_Law_law 458 (ls) (.inl (gI h a i.toNatClampNeg) :: st) (h) Q) := (WP_at c_Law_law_457 _ _ _ _).trans (congrArg (fun o => ndX Gm (WP Gm) j_Law_law 457 o Q) (if_pos (by rw [hk, hi]; rfl)))
set_option maxRecDepth 100000 in
theorem c_Law_law_458 : mCode j_Law_law 458 = oAld 3 459 := (rfl)
theorem e_Law_law_458 (a0 a1 a2 : Option MV) (x : Option Nat) : (WP Gm j_Law_law 458 (a0 :: a1 :: a2 :: some (.inr (.inl x)) :: ls) (st) h Q) = (WP Gm j_Law_law 459 (a0 :: a1 :: a2 :: some (.inr (.inl x)) :: ls) (.inr (.inl x) :: st) (h) Q) := (WP_at c_Law_law_458 _ _ _ _)
set_option maxRecDepth 100000 in
theorem c_Law_law_459 : mCode j_Law_law 459 = oCallS j_Law_send 5 (mL j_Law_send) 462 := (rfl)
theorem e_Law_law_459 (x0 : Option Nat) (x1 : Int32) (x2 : Int32) (x3 : Int32) (x4 : Option Nat) (hc : c8 st = true) : (WP Gm j_Law_law 459 (ls) (.inr (.inl x4) :: .inl x3 :: .inl x2 :: .inl x1 :: .inr (.inl x0) :: st) h Q) = (WP Gm j_Law_send 0 [some (.inr (.inl x0)), some (.inl x1), some (.inl x2), some (.inl x3), some (.inr (.inl x4)), none] [] h (kC (fun v h2 => WP Gm j_Law_law 462 ls (v.toList ++ st) h2 Q) (fun E h2 => Q (.inr E) h2))) := (WP_at c_Law_law_459 _ _ _ _).trans (congrArg (fun o => ndX Gm (WP Gm) j_Law_law 459 o Q) (if_pos (by rw [show decide (catS st ≤ 8) = true from hc]; rfl)))
set_option maxRecDepth 100000 in
theorem c_Law_law_462 : mCode j_Law_law 462 = oIst 5 464 := (rfl)
theorem e_Law_law_462 (x : Int32) : (WP Gm j_Law_law 462 (ls) (.inl x :: st) h Q) = (WP Gm j_Law_law 464 (lSet1 ls 5 (some (.inl x))) (st) (h) Q) := (WP_at c_Law_law_462 _ _ _ _)
set_option maxRecDepth 100000 in
theorem c_Law_law_464 : mCode j_Law_law 464 = oAld 2 465 := (rfl)
theorem e_Law_law_464 (a0 a1 : Option MV) (x : Option Nat) : (WP Gm j_Law_law 464 (a0 :: a1 :: some (.inr (.inl x)) :: ls) (st) h Q) = (WP Gm j_Law_law 465 (a0 :: a1 :: some (.inr (.inl x)) :: ls) (.inr (.inl x) :: st) (h) Q) := (WP_at c_Law_law_464 _ _ _ _)
set_option maxRecDepth 100000 in
theorem c_Law_law_465 : mCode j_Law_law 465 = oAld 0 466 := (rfl)
theorem e_Law_law_465 (x : Option Nat) : (WP Gm j_Law_law 465 (some (.inr (.inl x)) :: ls) (st) h Q) = (WP Gm j_Law_law 466 (some (.inr (.inl x)) :: ls) (.inr (.inl x) :: st) (h) Q) := (WP_at c_Law_law_465 _ _ _ _)
set_option maxRecDepth 100000 in
theorem c_Law_law_466 : mCode j_Law_law 466 = oIld 4 468 := (rfl)
theorem e_Law_law_466 (a0 a1 a2 a3 : Option MV) (x : Int32) : (WP Gm j_Law_law 466 (a0 :: a1 :: a2 :: a3 :: some (.inl x) :: ls) (st) h Q) = (WP Gm j_Law_law 468 (a0 :: a1 :: a2 :: a3 :: some (.inl x) :: ls) (.inl x :: st) (h) Q) := (WP_at c_Law_law_466 _ _ _ _)
set_option maxRecDepth 100000 in
theorem c_Law_law_468 : mCode j_Law_law 468 = oI 1 469 := (rfl)
theorem e_Law_law_468  : (WP Gm j_Law_law 468 (ls) (st) h Q) = (WP Gm j_Law_law 469 (ls) (.inl 1 :: st) (h) Q) := (WP_at c_Law_law_468 _ _ _ _)
set_option maxRecDepth 100000 in
theorem c_Law_law_469 : mCode j_Law_law 469 = oII (fun x y => x + y) 470 := (rfl)
theorem e_Law_law_469 (x : Int32) (y : Int32) : (WP Gm j_Law_law 469 (ls) (.inl y :: .inl x :: st) h Q) = (WP Gm j_Law_law 470 (ls) (.inl (x + y) :: st) (h) Q) := (WP_at c_Law_law_469 _ _ _ _)
set_option maxRecDepth 100000 in
theorem c_Law_law_470 : mCode j_Law_law 470 = oIal 0 471 := (rfl)
theorem e_Law_law_470 (a : Nat) (i : Int32) (hk : isK h a 100 = true) (hi : inL h a i = true) : (WP Gm j_Law_law 470 (ls) (.inl i :: .inr (.inl (some a)) :: st) h Q) = (WP Gm j_Law_law 471 (ls) (.inl (gI h a i.toNatClampNeg) :: st) (h) Q) := (WP_at c_Law_law_470 _ _ _ _).trans (congrArg (fun o => ndX Gm (WP Gm) j_Law_law 470 o Q) (if_pos (by rw [hk, hi]; rfl)))
set_option maxRecDepth 100000 in
theorem c_Law_law_471 : mCode j_Law_law 471 = oAld 0 472 := (rfl)
theorem e_Law_law_471 (x : Option Nat) : (WP Gm j_Law_law 471 (some (.inr (.inl x)) :: ls) (st) h Q) = (WP Gm j_Law_law 472 (some (.inr (.inl x)) :: ls) (.inr (.inl x) :: st) (h) Q) := (WP_at c_Law_law_471 _ _ _ _)
set_option maxRecDepth 100000 in
theorem c_Law_law_472 : mCode j_Law_law 472 = oIld 4 474 := (rfl)
theorem e_Law_law_472 (a0 a1 a2 a3 : Option MV) (x : Int32) : (WP Gm j_Law_law 472 (a0 :: a1 :: a2 :: a3 :: some (.inl x) :: ls) (st) h Q) = (WP Gm j_Law_law 474 (a0 :: a1 :: a2 :: a3 :: some (.inl x) :: ls) (.inl x :: st) (h) Q) := (WP_at c_Law_law_472 _ _ _ _)
set_option maxRecDepth 100000 in
theorem c_Law_law_474 : mCode j_Law_law 474 = oI 2 475 := (rfl)
theorem e_Law_law_474  : (WP Gm j_Law_law 474 (ls) (st) h Q) = (WP Gm j_Law_law 475 (ls) (.inl 2 :: st) (h) Q) := (WP_at c_Law_law_474 _ _ _ _)
set_option maxRecDepth 100000 in
theorem c_Law_law_475 : mCode j_Law_law 475 = oII (fun x y => x + y) 476 := (rfl)
theorem e_Law_law_475 (x : Int32) (y : Int32) : (WP Gm j_Law_law 475 (ls) (.inl y :: .inl x :: st) h Q) = (WP Gm j_Law_law 476 (ls) (.inl (x + y) :: st) (h) Q) := (WP_at c_Law_law_475 _ _ _ _)
set_option maxRecDepth 100000 in
theorem c_Law_law_476 : mCode j_Law_law 476 = oIal 0 477 := (rfl)
theorem e_Law_law_476 (a : Nat) (i : Int32) (hk : isK h a 100 = true) (hi : inL h a i = true) : (WP Gm j_Law_law 476 (ls) (.inl i :: .inr (.inl (some a)) :: st) h Q) = (WP Gm j_Law_law 477 (ls) (.inl (gI h a i.toNatClampNeg) :: st) (h) Q) := (WP_at c_Law_law_476 _ _ _ _).trans (congrArg (fun o => ndX Gm (WP Gm) j_Law_law 476 o Q) (if_pos (by rw [hk, hi]; rfl)))
set_option maxRecDepth 100000 in
theorem c_Law_law_477 : mCode j_Law_law 477 = oAld 0 478 := (rfl)
theorem e_Law_law_477 (x : Option Nat) : (WP Gm j_Law_law 477 (some (.inr (.inl x)) :: ls) (st) h Q) = (WP Gm j_Law_law 478 (some (.inr (.inl x)) :: ls) (.inr (.inl x) :: st) (h) Q) := (WP_at c_Law_law_477 _ _ _ _)
set_option maxRecDepth 100000 in
theorem c_Law_law_478 : mCode j_Law_law 478 = oIld 4 480 := (rfl)
theorem e_Law_law_478 (a0 a1 a2 a3 : Option MV) (x : Int32) : (WP Gm j_Law_law 478 (a0 :: a1 :: a2 :: a3 :: some (.inl x) :: ls) (st) h Q) = (WP Gm j_Law_law 480 (a0 :: a1 :: a2 :: a3 :: some (.inl x) :: ls) (.inl x :: st) (h) Q) := (WP_at c_Law_law_478 _ _ _ _)
set_option maxRecDepth 100000 in
theorem c_Law_law_480 : mCode j_Law_law 480 = oI 3 481 := (rfl)
theorem e_Law_law_480  : (WP Gm j_Law_law 480 (ls) (st) h Q) = (WP Gm j_Law_law 481 (ls) (.inl 3 :: st) (h) Q) := (WP_at c_Law_law_480 _ _ _ _)
set_option maxRecDepth 100000 in
theorem c_Law_law_481 : mCode j_Law_law 481 = oII (fun x y => x + y) 482 := (rfl)
theorem e_Law_law_481 (x : Int32) (y : Int32) : (WP Gm j_Law_law 481 (ls) (.inl y :: .inl x :: st) h Q) = (WP Gm j_Law_law 482 (ls) (.inl (x + y) :: st) (h) Q) := (WP_at c_Law_law_481 _ _ _ _)
set_option maxRecDepth 100000 in
theorem c_Law_law_482 : mCode j_Law_law 482 = oIal 0 483 := (rfl)
theorem e_Law_law_482 (a : Nat) (i : Int32) (hk : isK h a 100 = true) (hi : inL h a i = true) : (WP Gm j_Law_law 482 (ls) (.inl i :: .inr (.inl (some a)) :: st) h Q) = (WP Gm j_Law_law 483 (ls) (.inl (gI h a i.toNatClampNeg) :: st) (h) Q) := (WP_at c_Law_law_482 _ _ _ _).trans (congrArg (fun o => ndX Gm (WP Gm) j_Law_law 482 o Q) (if_pos (by rw [hk, hi]; rfl)))
set_option maxRecDepth 100000 in
theorem c_Law_law_483 : mCode j_Law_law 483 = oCallV kc_Mdl j_Mdl_send 3 (mL j_Mdl_send) 486 := (rfl)
theorem e_Law_law_483 (a : Nat) (x0 : Int32) (x1 : Int32) (x2 : Int32) (hk : isK h a kc_Mdl = true) (hc : c8 st = true) : (WP Gm j_Law_law 483 (ls) (.inl x2 :: .inl x1 :: .inl x0 :: .inr (.inl (some a)) :: st) h Q) = (WP Gm j_Mdl_send 0 [some (.inr (.inl (some a))), some (.inl x0), some (.inl x1), some (.inl x2), none] [] h (kC (fun v h2 => WP Gm j_Law_law 486 ls (v.toList ++ st) h2 Q) (fun E h2 => Q (.inr E) h2))) := (WP_at c_Law_law_483 _ _ _ _).trans (congrArg (fun o => ndX Gm (WP Gm) j_Law_law 483 o Q) (if_pos (by rw [hk, show decide (catS st ≤ 8) = true from hc]; rfl)))
set_option maxRecDepth 100000 in
theorem c_Law_law_486 : mCode j_Law_law 486 = oIst 6 488 := (rfl)
theorem e_Law_law_486 (x : Int32) : (WP Gm j_Law_law 486 (ls) (.inl x :: st) h Q) = (WP Gm j_Law_law 488 (lSet1 ls 6 (some (.inl x))) (st) (h) Q) := (WP_at c_Law_law_486 _ _ _ _)
set_option maxRecDepth 100000 in
theorem c_Law_law_488 : mCode j_Law_law 488 = oAld 2 489 := (rfl)
theorem e_Law_law_488 (a0 a1 : Option MV) (x : Option Nat) : (WP Gm j_Law_law 488 (a0 :: a1 :: some (.inr (.inl x)) :: ls) (st) h Q) = (WP Gm j_Law_law 489 (a0 :: a1 :: some (.inr (.inl x)) :: ls) (.inr (.inl x) :: st) (h) Q) := (WP_at c_Law_law_488 _ _ _ _)
set_option maxRecDepth 100000 in
theorem c_Law_law_489 : mCode j_Law_law 489 = oCallV kc_Mdl j_Mdl_thrown 0 (mL j_Mdl_thrown) 492 := (rfl)
theorem e_Law_law_489 (a : Nat) (hk : isK h a kc_Mdl = true) (hc : c8 st = true) : (WP Gm j_Law_law 489 (ls) (.inr (.inl (some a)) :: st) h Q) = (WP Gm j_Mdl_thrown 0 [some (.inr (.inl (some a)))] [] h (kC (fun v h2 => WP Gm j_Law_law 492 ls (v.toList ++ st) h2 Q) (fun E h2 => Q (.inr E) h2))) := (WP_at c_Law_law_489 _ _ _ _).trans (congrArg (fun o => ndX Gm (WP Gm) j_Law_law 489 o Q) (if_pos (by rw [hk, show decide (catS st ≤ 8) = true from hc]; rfl)))
set_option maxRecDepth 100000 in
theorem c_Law_law_492 : mCode j_Law_law 492 = oIld 5 494 := (rfl)
theorem e_Law_law_492 (a0 a1 a2 a3 a4 : Option MV) (x : Int32) : (WP Gm j_Law_law 492 (a0 :: a1 :: a2 :: a3 :: a4 :: some (.inl x) :: ls) (st) h Q) = (WP Gm j_Law_law 494 (a0 :: a1 :: a2 :: a3 :: a4 :: some (.inl x) :: ls) (.inl x :: st) (h) Q) := (WP_at c_Law_law_492 _ _ _ _)
set_option maxRecDepth 100000 in
theorem c_Law_law_494 : mCode j_Law_law 494 = oIC (fun x y => decide (x = y)) 499 497 := (rfl)
theorem e_Law_law_494 (x y : Int32) : (WP Gm j_Law_law 494 (ls) (.inl y :: .inl x :: st) h Q) = (if x = y then WP Gm j_Law_law 499 (ls) (st) (h) Q else WP Gm j_Law_law 497 (ls) (st) (h) Q) := (WP_at c_Law_law_494 _ _ _ _).trans (nd_ic rfl _ _ _ _)
set_option maxRecDepth 100000 in
theorem c_Law_law_497 : mCode j_Law_law 497 = oI 0 498 := (rfl)
theorem e_Law_law_497  : (WP Gm j_Law_law 497 (ls) (st) h Q) = (WP Gm j_Law_law 498 (ls) (.inl 0 :: st) (h) Q) := (WP_at c_Law_law_497 _ _ _ _)
set_option maxRecDepth 100000 in
theorem c_Law_law_498 : mCode j_Law_law 498 = oRetZ := (rfl)
theorem e_Law_law_498 (x : Int32) (hx : x = 0 ∨ x = 1) : (WP Gm j_Law_law 498 (ls) ([.inl x]) h Q) = (Q (.inl (some (.inl x))) h) := (WP_at c_Law_law_498 _ _ _ _).trans (congrArg (fun o => ndX Gm (WP Gm) j_Law_law 498 o Q) (if_pos (by rcases hx with rfl | rfl <;> rfl)))
set_option maxRecDepth 100000 in
theorem c_Law_law_499 : mCode j_Law_law 499 = oIld 5 501 := (rfl)
theorem e_Law_law_499 (a0 a1 a2 a3 a4 : Option MV) (x : Int32) : (WP Gm j_Law_law 499 (a0 :: a1 :: a2 :: a3 :: a4 :: some (.inl x) :: ls) (st) h Q) = (WP Gm j_Law_law 501 (a0 :: a1 :: a2 :: a3 :: a4 :: some (.inl x) :: ls) (.inl x :: st) (h) Q) := (WP_at c_Law_law_499 _ _ _ _)
set_option maxRecDepth 100000 in
theorem c_Law_law_501 : mCode j_Law_law 501 = oIf (fun x => decide (¬ x = 0)) 517 504 := (rfl)
theorem e_Law_law_501 (x : Int32) : (WP Gm j_Law_law 501 (ls) (.inl x :: st) h Q) = (if ¬ x = 0 then WP Gm j_Law_law 517 (ls) (st) (h) Q else WP Gm j_Law_law 504 (ls) (st) (h) Q) := (WP_at c_Law_law_501 _ _ _ _).trans (nd_if rfl _ _ _ _)
set_option maxRecDepth 100000 in
theorem c_Law_law_504 : mCode j_Law_law 504 = oAld 3 505 := (rfl)
theorem e_Law_law_504 (a0 a1 a2 : Option MV) (x : Option Nat) : (WP Gm j_Law_law 504 (a0 :: a1 :: a2 :: some (.inr (.inl x)) :: ls) (st) h Q) = (WP Gm j_Law_law 505 (a0 :: a1 :: a2 :: some (.inr (.inl x)) :: ls) (.inr (.inl x) :: st) (h) Q) := (WP_at c_Law_law_504 _ _ _ _)
set_option maxRecDepth 100000 in
theorem c_Law_law_505 : mCode j_Law_law 505 = oGetL kc_Out 0 508 := (rfl)
theorem e_Law_law_505 (a : Nat) (hk : isK h a kc_Out = true) : (WP Gm j_Law_law 505 (ls) (.inr (.inl (some a)) :: st) h Q) = (WP Gm j_Law_law 508 (ls) (.inr (.inr (.inl (gL h a 0))) :: st) (h) Q) := (WP_at c_Law_law_505 _ _ _ _).trans (congrArg (fun o => ndX Gm (WP Gm) j_Law_law 505 o Q) (if_pos hk))
set_option maxRecDepth 100000 in
theorem c_Law_law_508 : mCode j_Law_law 508 = oIld 6 510 := (rfl)
theorem e_Law_law_508 (a0 a1 a2 a3 a4 a5 : Option MV) (x : Int32) : (WP Gm j_Law_law 508 (a0 :: a1 :: a2 :: a3 :: a4 :: a5 :: some (.inl x) :: ls) (st) h Q) = (WP Gm j_Law_law 510 (a0 :: a1 :: a2 :: a3 :: a4 :: a5 :: some (.inl x) :: ls) (.inl x :: st) (h) Q) := (WP_at c_Law_law_508 _ _ _ _)
set_option maxRecDepth 100000 in
theorem c_Law_law_510 : mCode j_Law_law 510 = oI2L 511 := (rfl)
theorem e_Law_law_510 (x : Int32) : (WP Gm j_Law_law 510 (ls) (.inl x :: st) h Q) = (WP Gm j_Law_law 511 (ls) (.inr (.inr (.inl x.toInt64)) :: st) (h) Q) := (WP_at c_Law_law_510 _ _ _ _)
set_option maxRecDepth 100000 in
theorem c_Law_law_511 : mCode j_Law_law 511 = oLcmp 512 := (rfl)
theorem e_Law_law_511 (x y : Int64) : (WP Gm j_Law_law 511 (ls) (.inr (.inr (.inl y)) :: .inr (.inr (.inl x)) :: st) h Q) = (WP Gm j_Law_law 512 (ls) (.inl (lg_cmp x y) :: st) (h) Q) := (WP_at c_Law_law_511 _ _ _ _)
set_option maxRecDepth 100000 in
theorem c_Law_law_512 : mCode j_Law_law 512 = oIf (fun x => decide (x = 0)) 517 515 := (rfl)
theorem e_Law_law_512 (x : Int32) : (WP Gm j_Law_law 512 (ls) (.inl x :: st) h Q) = (if x = 0 then WP Gm j_Law_law 517 (ls) (st) (h) Q else WP Gm j_Law_law 515 (ls) (st) (h) Q) := (WP_at c_Law_law_512 _ _ _ _).trans (nd_if rfl _ _ _ _)
set_option maxRecDepth 100000 in
theorem c_Law_law_515 : mCode j_Law_law 515 = oI 0 516 := (rfl)
theorem e_Law_law_515  : (WP Gm j_Law_law 515 (ls) (st) h Q) = (WP Gm j_Law_law 516 (ls) (.inl 0 :: st) (h) Q) := (WP_at c_Law_law_515 _ _ _ _)
set_option maxRecDepth 100000 in
theorem c_Law_law_516 : mCode j_Law_law 516 = oRetZ := (rfl)
theorem e_Law_law_516 (x : Int32) (hx : x = 0 ∨ x = 1) : (WP Gm j_Law_law 516 (ls) ([.inl x]) h Q) = (Q (.inl (some (.inl x))) h) := (WP_at c_Law_law_516 _ _ _ _).trans (congrArg (fun o => ndX Gm (WP Gm) j_Law_law 516 o Q) (if_pos (by rcases hx with rfl | rfl <;> rfl)))
set_option maxRecDepth 100000 in
theorem c_Law_law_517 : mCode j_Law_law 517 = oGo 1549 := (rfl)
theorem e_Law_law_517  : (WP Gm j_Law_law 517 (ls) (st) h Q) = (WP Gm j_Law_law 1549 (ls) (st) (h) Q) := (WP_at c_Law_law_517 _ _ _ _)
set_option maxRecDepth 100000 in
theorem c_Law_law_520 : mCode j_Law_law 520 = oAld 1 521 := (rfl)
theorem e_Law_law_520 (a0 : Option MV) (x : Option Nat) : (WP Gm j_Law_law 520 (a0 :: some (.inr (.inl x)) :: ls) (st) h Q) = (WP Gm j_Law_law 521 (a0 :: some (.inr (.inl x)) :: ls) (.inr (.inl x) :: st) (h) Q) := (WP_at c_Law_law_520 _ _ _ _)
set_option maxRecDepth 100000 in
theorem c_Law_law_521 : mCode j_Law_law 521 = oAld 0 522 := (rfl)
theorem e_Law_law_521 (x : Option Nat) : (WP Gm j_Law_law 521 (some (.inr (.inl x)) :: ls) (st) h Q) = (WP Gm j_Law_law 522 (some (.inr (.inl x)) :: ls) (.inr (.inl x) :: st) (h) Q) := (WP_at c_Law_law_521 _ _ _ _)
set_option maxRecDepth 100000 in
theorem c_Law_law_522 : mCode j_Law_law 522 = oIld 4 524 := (rfl)
theorem e_Law_law_522 (a0 a1 a2 a3 : Option MV) (x : Int32) : (WP Gm j_Law_law 522 (a0 :: a1 :: a2 :: a3 :: some (.inl x) :: ls) (st) h Q) = (WP Gm j_Law_law 524 (a0 :: a1 :: a2 :: a3 :: some (.inl x) :: ls) (.inl x :: st) (h) Q) := (WP_at c_Law_law_522 _ _ _ _)
set_option maxRecDepth 100000 in
theorem c_Law_law_524 : mCode j_Law_law 524 = oI 1 525 := (rfl)
theorem e_Law_law_524  : (WP Gm j_Law_law 524 (ls) (st) h Q) = (WP Gm j_Law_law 525 (ls) (.inl 1 :: st) (h) Q) := (WP_at c_Law_law_524 _ _ _ _)
set_option maxRecDepth 100000 in
theorem c_Law_law_525 : mCode j_Law_law 525 = oII (fun x y => x + y) 526 := (rfl)
theorem e_Law_law_525 (x : Int32) (y : Int32) : (WP Gm j_Law_law 525 (ls) (.inl y :: .inl x :: st) h Q) = (WP Gm j_Law_law 526 (ls) (.inl (x + y) :: st) (h) Q) := (WP_at c_Law_law_525 _ _ _ _)
set_option maxRecDepth 100000 in
theorem c_Law_law_526 : mCode j_Law_law 526 = oIal 0 527 := (rfl)
theorem e_Law_law_526 (a : Nat) (i : Int32) (hk : isK h a 100 = true) (hi : inL h a i = true) : (WP Gm j_Law_law 526 (ls) (.inl i :: .inr (.inl (some a)) :: st) h Q) = (WP Gm j_Law_law 527 (ls) (.inl (gI h a i.toNatClampNeg) :: st) (h) Q) := (WP_at c_Law_law_526 _ _ _ _).trans (congrArg (fun o => ndX Gm (WP Gm) j_Law_law 526 o Q) (if_pos (by rw [hk, hi]; rfl)))
set_option maxRecDepth 100000 in
theorem c_Law_law_527 : mCode j_Law_law 527 = oAld 3 528 := (rfl)
theorem e_Law_law_527 (a0 a1 a2 : Option MV) (x : Option Nat) : (WP Gm j_Law_law 527 (a0 :: a1 :: a2 :: some (.inr (.inl x)) :: ls) (st) h Q) = (WP Gm j_Law_law 528 (a0 :: a1 :: a2 :: some (.inr (.inl x)) :: ls) (.inr (.inl x) :: st) (h) Q) := (WP_at c_Law_law_527 _ _ _ _)
set_option maxRecDepth 100000 in
theorem c_Law_law_528 : mCode j_Law_law 528 = oCallS j_Law_pass 3 (mL j_Law_pass) 531 := (rfl)
theorem e_Law_law_528 (x0 : Option Nat) (x1 : Int32) (x2 : Option Nat) (hc : c8 st = true) : (WP Gm j_Law_law 528 (ls) (.inr (.inl x2) :: .inl x1 :: .inr (.inl x0) :: st) h Q) = (WP Gm j_Law_pass 0 [some (.inr (.inl x0)), some (.inl x1), some (.inr (.inl x2)), none] [] h (kC (fun v h2 => WP Gm j_Law_law 531 ls (v.toList ++ st) h2 Q) (fun E h2 => Q (.inr E) h2))) := (WP_at c_Law_law_528 _ _ _ _).trans (congrArg (fun o => ndX Gm (WP Gm) j_Law_law 528 o Q) (if_pos (by rw [show decide (catS st ≤ 8) = true from hc]; rfl)))
set_option maxRecDepth 100000 in
theorem c_Law_law_531 : mCode j_Law_law 531 = oIst 5 533 := (rfl)
theorem e_Law_law_531 (x : Int32) : (WP Gm j_Law_law 531 (ls) (.inl x :: st) h Q) = (WP Gm j_Law_law 533 (lSet1 ls 5 (some (.inl x))) (st) (h) Q) := (WP_at c_Law_law_531 _ _ _ _)
set_option maxRecDepth 100000 in
theorem c_Law_law_533 : mCode j_Law_law 533 = oAld 2 534 := (rfl)
theorem e_Law_law_533 (a0 a1 : Option MV) (x : Option Nat) : (WP Gm j_Law_law 533 (a0 :: a1 :: some (.inr (.inl x)) :: ls) (st) h Q) = (WP Gm j_Law_law 534 (a0 :: a1 :: some (.inr (.inl x)) :: ls) (.inr (.inl x) :: st) (h) Q) := (WP_at c_Law_law_533 _ _ _ _)
set_option maxRecDepth 100000 in
theorem c_Law_law_534 : mCode j_Law_law 534 = oAld 0 535 := (rfl)
theorem e_Law_law_534 (x : Option Nat) : (WP Gm j_Law_law 534 (some (.inr (.inl x)) :: ls) (st) h Q) = (WP Gm j_Law_law 535 (some (.inr (.inl x)) :: ls) (.inr (.inl x) :: st) (h) Q) := (WP_at c_Law_law_534 _ _ _ _)
set_option maxRecDepth 100000 in
theorem c_Law_law_535 : mCode j_Law_law 535 = oIld 4 537 := (rfl)
theorem e_Law_law_535 (a0 a1 a2 a3 : Option MV) (x : Int32) : (WP Gm j_Law_law 535 (a0 :: a1 :: a2 :: a3 :: some (.inl x) :: ls) (st) h Q) = (WP Gm j_Law_law 537 (a0 :: a1 :: a2 :: a3 :: some (.inl x) :: ls) (.inl x :: st) (h) Q) := (WP_at c_Law_law_535 _ _ _ _)
set_option maxRecDepth 100000 in
theorem c_Law_law_537 : mCode j_Law_law 537 = oI 1 538 := (rfl)
theorem e_Law_law_537  : (WP Gm j_Law_law 537 (ls) (st) h Q) = (WP Gm j_Law_law 538 (ls) (.inl 1 :: st) (h) Q) := (WP_at c_Law_law_537 _ _ _ _)
set_option maxRecDepth 100000 in
theorem c_Law_law_538 : mCode j_Law_law 538 = oII (fun x y => x + y) 539 := (rfl)
theorem e_Law_law_538 (x : Int32) (y : Int32) : (WP Gm j_Law_law 538 (ls) (.inl y :: .inl x :: st) h Q) = (WP Gm j_Law_law 539 (ls) (.inl (x + y) :: st) (h) Q) := (WP_at c_Law_law_538 _ _ _ _)
set_option maxRecDepth 100000 in
theorem c_Law_law_539 : mCode j_Law_law 539 = oIal 0 540 := (rfl)
theorem e_Law_law_539 (a : Nat) (i : Int32) (hk : isK h a 100 = true) (hi : inL h a i = true) : (WP Gm j_Law_law 539 (ls) (.inl i :: .inr (.inl (some a)) :: st) h Q) = (WP Gm j_Law_law 540 (ls) (.inl (gI h a i.toNatClampNeg) :: st) (h) Q) := (WP_at c_Law_law_539 _ _ _ _).trans (congrArg (fun o => ndX Gm (WP Gm) j_Law_law 539 o Q) (if_pos (by rw [hk, hi]; rfl)))
set_option maxRecDepth 100000 in
theorem c_Law_law_540 : mCode j_Law_law 540 = oCallV kc_Mdl j_Mdl_pass 1 (mL j_Mdl_pass) 543 := (rfl)
theorem e_Law_law_540 (a : Nat) (x0 : Int32) (hk : isK h a kc_Mdl = true) (hc : c8 st = true) : (WP Gm j_Law_law 540 (ls) (.inl x0 :: .inr (.inl (some a)) :: st) h Q) = (WP Gm j_Mdl_pass 0 [some (.inr (.inl (some a))), some (.inl x0), none] [] h (kC (fun v h2 => WP Gm j_Law_law 543 ls (v.toList ++ st) h2 Q) (fun E h2 => Q (.inr E) h2))) := (WP_at c_Law_law_540 _ _ _ _).trans (congrArg (fun o => ndX Gm (WP Gm) j_Law_law 540 o Q) (if_pos (by rw [hk, show decide (catS st ≤ 8) = true from hc]; rfl)))
set_option maxRecDepth 100000 in
theorem c_Law_law_543 : mCode j_Law_law 543 = oIst 6 545 := (rfl)
theorem e_Law_law_543 (x : Int32) : (WP Gm j_Law_law 543 (ls) (.inl x :: st) h Q) = (WP Gm j_Law_law 545 (lSet1 ls 6 (some (.inl x))) (st) (h) Q) := (WP_at c_Law_law_543 _ _ _ _)
set_option maxRecDepth 100000 in
theorem c_Law_law_545 : mCode j_Law_law 545 = oAld 2 546 := (rfl)
theorem e_Law_law_545 (a0 a1 : Option MV) (x : Option Nat) : (WP Gm j_Law_law 545 (a0 :: a1 :: some (.inr (.inl x)) :: ls) (st) h Q) = (WP Gm j_Law_law 546 (a0 :: a1 :: some (.inr (.inl x)) :: ls) (.inr (.inl x) :: st) (h) Q) := (WP_at c_Law_law_545 _ _ _ _)
set_option maxRecDepth 100000 in
theorem c_Law_law_546 : mCode j_Law_law 546 = oCallV kc_Mdl j_Mdl_thrown 0 (mL j_Mdl_thrown) 549 := (rfl)
theorem e_Law_law_546 (a : Nat) (hk : isK h a kc_Mdl = true) (hc : c8 st = true) : (WP Gm j_Law_law 546 (ls) (.inr (.inl (some a)) :: st) h Q) = (WP Gm j_Mdl_thrown 0 [some (.inr (.inl (some a)))] [] h (kC (fun v h2 => WP Gm j_Law_law 549 ls (v.toList ++ st) h2 Q) (fun E h2 => Q (.inr E) h2))) := (WP_at c_Law_law_546 _ _ _ _).trans (congrArg (fun o => ndX Gm (WP Gm) j_Law_law 546 o Q) (if_pos (by rw [hk, show decide (catS st ≤ 8) = true from hc]; rfl)))
set_option maxRecDepth 100000 in
theorem c_Law_law_549 : mCode j_Law_law 549 = oIld 5 551 := (rfl)
theorem e_Law_law_549 (a0 a1 a2 a3 a4 : Option MV) (x : Int32) : (WP Gm j_Law_law 549 (a0 :: a1 :: a2 :: a3 :: a4 :: some (.inl x) :: ls) (st) h Q) = (WP Gm j_Law_law 551 (a0 :: a1 :: a2 :: a3 :: a4 :: some (.inl x) :: ls) (.inl x :: st) (h) Q) := (WP_at c_Law_law_549 _ _ _ _)
set_option maxRecDepth 100000 in
theorem c_Law_law_551 : mCode j_Law_law 551 = oIC (fun x y => decide (x = y)) 556 554 := (rfl)
theorem e_Law_law_551 (x y : Int32) : (WP Gm j_Law_law 551 (ls) (.inl y :: .inl x :: st) h Q) = (if x = y then WP Gm j_Law_law 556 (ls) (st) (h) Q else WP Gm j_Law_law 554 (ls) (st) (h) Q) := (WP_at c_Law_law_551 _ _ _ _).trans (nd_ic rfl _ _ _ _)
set_option maxRecDepth 100000 in
theorem c_Law_law_554 : mCode j_Law_law 554 = oI 0 555 := (rfl)
theorem e_Law_law_554  : (WP Gm j_Law_law 554 (ls) (st) h Q) = (WP Gm j_Law_law 555 (ls) (.inl 0 :: st) (h) Q) := (WP_at c_Law_law_554 _ _ _ _)
set_option maxRecDepth 100000 in
theorem c_Law_law_555 : mCode j_Law_law 555 = oRetZ := (rfl)
theorem e_Law_law_555 (x : Int32) (hx : x = 0 ∨ x = 1) : (WP Gm j_Law_law 555 (ls) ([.inl x]) h Q) = (Q (.inl (some (.inl x))) h) := (WP_at c_Law_law_555 _ _ _ _).trans (congrArg (fun o => ndX Gm (WP Gm) j_Law_law 555 o Q) (if_pos (by rcases hx with rfl | rfl <;> rfl)))
set_option maxRecDepth 100000 in
theorem c_Law_law_556 : mCode j_Law_law 556 = oIld 5 558 := (rfl)
theorem e_Law_law_556 (a0 a1 a2 a3 a4 : Option MV) (x : Int32) : (WP Gm j_Law_law 556 (a0 :: a1 :: a2 :: a3 :: a4 :: some (.inl x) :: ls) (st) h Q) = (WP Gm j_Law_law 558 (a0 :: a1 :: a2 :: a3 :: a4 :: some (.inl x) :: ls) (.inl x :: st) (h) Q) := (WP_at c_Law_law_556 _ _ _ _)
set_option maxRecDepth 100000 in
theorem c_Law_law_558 : mCode j_Law_law 558 = oIf (fun x => decide (¬ x = 0)) 574 561 := (rfl)
theorem e_Law_law_558 (x : Int32) : (WP Gm j_Law_law 558 (ls) (.inl x :: st) h Q) = (if ¬ x = 0 then WP Gm j_Law_law 574 (ls) (st) (h) Q else WP Gm j_Law_law 561 (ls) (st) (h) Q) := (WP_at c_Law_law_558 _ _ _ _).trans (nd_if rfl _ _ _ _)
set_option maxRecDepth 100000 in
theorem c_Law_law_561 : mCode j_Law_law 561 = oAld 3 562 := (rfl)
theorem e_Law_law_561 (a0 a1 a2 : Option MV) (x : Option Nat) : (WP Gm j_Law_law 561 (a0 :: a1 :: a2 :: some (.inr (.inl x)) :: ls) (st) h Q) = (WP Gm j_Law_law 562 (a0 :: a1 :: a2 :: some (.inr (.inl x)) :: ls) (.inr (.inl x) :: st) (h) Q) := (WP_at c_Law_law_561 _ _ _ _)
set_option maxRecDepth 100000 in
theorem c_Law_law_562 : mCode j_Law_law 562 = oGetL kc_Out 0 565 := (rfl)
theorem e_Law_law_562 (a : Nat) (hk : isK h a kc_Out = true) : (WP Gm j_Law_law 562 (ls) (.inr (.inl (some a)) :: st) h Q) = (WP Gm j_Law_law 565 (ls) (.inr (.inr (.inl (gL h a 0))) :: st) (h) Q) := (WP_at c_Law_law_562 _ _ _ _).trans (congrArg (fun o => ndX Gm (WP Gm) j_Law_law 562 o Q) (if_pos hk))
set_option maxRecDepth 100000 in
theorem c_Law_law_565 : mCode j_Law_law 565 = oIld 6 567 := (rfl)
theorem e_Law_law_565 (a0 a1 a2 a3 a4 a5 : Option MV) (x : Int32) : (WP Gm j_Law_law 565 (a0 :: a1 :: a2 :: a3 :: a4 :: a5 :: some (.inl x) :: ls) (st) h Q) = (WP Gm j_Law_law 567 (a0 :: a1 :: a2 :: a3 :: a4 :: a5 :: some (.inl x) :: ls) (.inl x :: st) (h) Q) := (WP_at c_Law_law_565 _ _ _ _)
set_option maxRecDepth 100000 in
theorem c_Law_law_567 : mCode j_Law_law 567 = oI2L 568 := (rfl)
theorem e_Law_law_567 (x : Int32) : (WP Gm j_Law_law 567 (ls) (.inl x :: st) h Q) = (WP Gm j_Law_law 568 (ls) (.inr (.inr (.inl x.toInt64)) :: st) (h) Q) := (WP_at c_Law_law_567 _ _ _ _)
set_option maxRecDepth 100000 in
theorem c_Law_law_568 : mCode j_Law_law 568 = oLcmp 569 := (rfl)
theorem e_Law_law_568 (x y : Int64) : (WP Gm j_Law_law 568 (ls) (.inr (.inr (.inl y)) :: .inr (.inr (.inl x)) :: st) h Q) = (WP Gm j_Law_law 569 (ls) (.inl (lg_cmp x y) :: st) (h) Q) := (WP_at c_Law_law_568 _ _ _ _)
set_option maxRecDepth 100000 in
theorem c_Law_law_569 : mCode j_Law_law 569 = oIf (fun x => decide (x = 0)) 574 572 := (rfl)
theorem e_Law_law_569 (x : Int32) : (WP Gm j_Law_law 569 (ls) (.inl x :: st) h Q) = (if x = 0 then WP Gm j_Law_law 574 (ls) (st) (h) Q else WP Gm j_Law_law 572 (ls) (st) (h) Q) := (WP_at c_Law_law_569 _ _ _ _).trans (nd_if rfl _ _ _ _)
set_option maxRecDepth 100000 in
theorem c_Law_law_572 : mCode j_Law_law 572 = oI 0 573 := (rfl)
theorem e_Law_law_572  : (WP Gm j_Law_law 572 (ls) (st) h Q) = (WP Gm j_Law_law 573 (ls) (.inl 0 :: st) (h) Q) := (WP_at c_Law_law_572 _ _ _ _)
set_option maxRecDepth 100000 in
theorem c_Law_law_573 : mCode j_Law_law 573 = oRetZ := (rfl)
theorem e_Law_law_573 (x : Int32) (hx : x = 0 ∨ x = 1) : (WP Gm j_Law_law 573 (ls) ([.inl x]) h Q) = (Q (.inl (some (.inl x))) h) := (WP_at c_Law_law_573 _ _ _ _).trans (congrArg (fun o => ndX Gm (WP Gm) j_Law_law 573 o Q) (if_pos (by rcases hx with rfl | rfl <;> rfl)))
set_option maxRecDepth 100000 in
theorem c_Law_law_574 : mCode j_Law_law 574 = oGo 1549 := (rfl)
theorem e_Law_law_574  : (WP Gm j_Law_law 574 (ls) (st) h Q) = (WP Gm j_Law_law 1549 (ls) (st) (h) Q) := (WP_at c_Law_law_574 _ _ _ _)
set_option maxRecDepth 100000 in
theorem c_Law_law_577 : mCode j_Law_law 577 = oAld 1 578 := (rfl)
theorem e_Law_law_577 (a0 : Option MV) (x : Option Nat) : (WP Gm j_Law_law 577 (a0 :: some (.inr (.inl x)) :: ls) (st) h Q) = (WP Gm j_Law_law 578 (a0 :: some (.inr (.inl x)) :: ls) (.inr (.inl x) :: st) (h) Q) := (WP_at c_Law_law_577 _ _ _ _)
set_option maxRecDepth 100000 in
theorem c_Law_law_578 : mCode j_Law_law 578 = oAld 0 579 := (rfl)
theorem e_Law_law_578 (x : Option Nat) : (WP Gm j_Law_law 578 (some (.inr (.inl x)) :: ls) (st) h Q) = (WP Gm j_Law_law 579 (some (.inr (.inl x)) :: ls) (.inr (.inl x) :: st) (h) Q) := (WP_at c_Law_law_578 _ _ _ _)
set_option maxRecDepth 100000 in
theorem c_Law_law_579 : mCode j_Law_law 579 = oIld 4 581 := (rfl)
theorem e_Law_law_579 (a0 a1 a2 a3 : Option MV) (x : Int32) : (WP Gm j_Law_law 579 (a0 :: a1 :: a2 :: a3 :: some (.inl x) :: ls) (st) h Q) = (WP Gm j_Law_law 581 (a0 :: a1 :: a2 :: a3 :: some (.inl x) :: ls) (.inl x :: st) (h) Q) := (WP_at c_Law_law_579 _ _ _ _)
set_option maxRecDepth 100000 in
theorem c_Law_law_581 : mCode j_Law_law 581 = oI 1 582 := (rfl)
theorem e_Law_law_581  : (WP Gm j_Law_law 581 (ls) (st) h Q) = (WP Gm j_Law_law 582 (ls) (.inl 1 :: st) (h) Q) := (WP_at c_Law_law_581 _ _ _ _)
set_option maxRecDepth 100000 in
theorem c_Law_law_582 : mCode j_Law_law 582 = oII (fun x y => x + y) 583 := (rfl)
theorem e_Law_law_582 (x : Int32) (y : Int32) : (WP Gm j_Law_law 582 (ls) (.inl y :: .inl x :: st) h Q) = (WP Gm j_Law_law 583 (ls) (.inl (x + y) :: st) (h) Q) := (WP_at c_Law_law_582 _ _ _ _)
set_option maxRecDepth 100000 in
theorem c_Law_law_583 : mCode j_Law_law 583 = oIal 0 584 := (rfl)
theorem e_Law_law_583 (a : Nat) (i : Int32) (hk : isK h a 100 = true) (hi : inL h a i = true) : (WP Gm j_Law_law 583 (ls) (.inl i :: .inr (.inl (some a)) :: st) h Q) = (WP Gm j_Law_law 584 (ls) (.inl (gI h a i.toNatClampNeg) :: st) (h) Q) := (WP_at c_Law_law_583 _ _ _ _).trans (congrArg (fun o => ndX Gm (WP Gm) j_Law_law 583 o Q) (if_pos (by rw [hk, hi]; rfl)))
set_option maxRecDepth 100000 in
theorem c_Law_law_584 : mCode j_Law_law 584 = oAld 3 585 := (rfl)
theorem e_Law_law_584 (a0 a1 a2 : Option MV) (x : Option Nat) : (WP Gm j_Law_law 584 (a0 :: a1 :: a2 :: some (.inr (.inl x)) :: ls) (st) h Q) = (WP Gm j_Law_law 585 (a0 :: a1 :: a2 :: some (.inr (.inl x)) :: ls) (.inr (.inl x) :: st) (h) Q) := (WP_at c_Law_law_584 _ _ _ _)
set_option maxRecDepth 100000 in
theorem c_Law_law_585 : mCode j_Law_law 585 = oCallS j_Law_exchange 3 (mL j_Law_exchange) 588 := (rfl)
theorem e_Law_law_585 (x0 : Option Nat) (x1 : Int32) (x2 : Option Nat) (hc : c8 st = true) : (WP Gm j_Law_law 585 (ls) (.inr (.inl x2) :: .inl x1 :: .inr (.inl x0) :: st) h Q) = (WP Gm j_Law_exchange 0 [some (.inr (.inl x0)), some (.inl x1), some (.inr (.inl x2)), none] [] h (kC (fun v h2 => WP Gm j_Law_law 588 ls (v.toList ++ st) h2 Q) (fun E h2 => Q (.inr E) h2))) := (WP_at c_Law_law_585 _ _ _ _).trans (congrArg (fun o => ndX Gm (WP Gm) j_Law_law 585 o Q) (if_pos (by rw [show decide (catS st ≤ 8) = true from hc]; rfl)))
set_option maxRecDepth 100000 in
theorem c_Law_law_588 : mCode j_Law_law 588 = oIst 5 590 := (rfl)
theorem e_Law_law_588 (x : Int32) : (WP Gm j_Law_law 588 (ls) (.inl x :: st) h Q) = (WP Gm j_Law_law 590 (lSet1 ls 5 (some (.inl x))) (st) (h) Q) := (WP_at c_Law_law_588 _ _ _ _)
set_option maxRecDepth 100000 in
theorem c_Law_law_590 : mCode j_Law_law 590 = oAld 2 591 := (rfl)
theorem e_Law_law_590 (a0 a1 : Option MV) (x : Option Nat) : (WP Gm j_Law_law 590 (a0 :: a1 :: some (.inr (.inl x)) :: ls) (st) h Q) = (WP Gm j_Law_law 591 (a0 :: a1 :: some (.inr (.inl x)) :: ls) (.inr (.inl x) :: st) (h) Q) := (WP_at c_Law_law_590 _ _ _ _)
set_option maxRecDepth 100000 in
theorem c_Law_law_591 : mCode j_Law_law 591 = oAld 0 592 := (rfl)
theorem e_Law_law_591 (x : Option Nat) : (WP Gm j_Law_law 591 (some (.inr (.inl x)) :: ls) (st) h Q) = (WP Gm j_Law_law 592 (some (.inr (.inl x)) :: ls) (.inr (.inl x) :: st) (h) Q) := (WP_at c_Law_law_591 _ _ _ _)
set_option maxRecDepth 100000 in
theorem c_Law_law_592 : mCode j_Law_law 592 = oIld 4 594 := (rfl)
theorem e_Law_law_592 (a0 a1 a2 a3 : Option MV) (x : Int32) : (WP Gm j_Law_law 592 (a0 :: a1 :: a2 :: a3 :: some (.inl x) :: ls) (st) h Q) = (WP Gm j_Law_law 594 (a0 :: a1 :: a2 :: a3 :: some (.inl x) :: ls) (.inl x :: st) (h) Q) := (WP_at c_Law_law_592 _ _ _ _)
set_option maxRecDepth 100000 in
theorem c_Law_law_594 : mCode j_Law_law 594 = oI 1 595 := (rfl)
theorem e_Law_law_594  : (WP Gm j_Law_law 594 (ls) (st) h Q) = (WP Gm j_Law_law 595 (ls) (.inl 1 :: st) (h) Q) := (WP_at c_Law_law_594 _ _ _ _)
set_option maxRecDepth 100000 in
theorem c_Law_law_595 : mCode j_Law_law 595 = oII (fun x y => x + y) 596 := (rfl)
theorem e_Law_law_595 (x : Int32) (y : Int32) : (WP Gm j_Law_law 595 (ls) (.inl y :: .inl x :: st) h Q) = (WP Gm j_Law_law 596 (ls) (.inl (x + y) :: st) (h) Q) := (WP_at c_Law_law_595 _ _ _ _)
set_option maxRecDepth 100000 in
theorem c_Law_law_596 : mCode j_Law_law 596 = oIal 0 597 := (rfl)
theorem e_Law_law_596 (a : Nat) (i : Int32) (hk : isK h a 100 = true) (hi : inL h a i = true) : (WP Gm j_Law_law 596 (ls) (.inl i :: .inr (.inl (some a)) :: st) h Q) = (WP Gm j_Law_law 597 (ls) (.inl (gI h a i.toNatClampNeg) :: st) (h) Q) := (WP_at c_Law_law_596 _ _ _ _).trans (congrArg (fun o => ndX Gm (WP Gm) j_Law_law 596 o Q) (if_pos (by rw [hk, hi]; rfl)))
set_option maxRecDepth 100000 in
theorem c_Law_law_597 : mCode j_Law_law 597 = oCallV kc_Mdl j_Mdl_exchange 1 (mL j_Mdl_exchange) 600 := (rfl)
theorem e_Law_law_597 (a : Nat) (x0 : Int32) (hk : isK h a kc_Mdl = true) (hc : c8 st = true) : (WP Gm j_Law_law 597 (ls) (.inl x0 :: .inr (.inl (some a)) :: st) h Q) = (WP Gm j_Mdl_exchange 0 [some (.inr (.inl (some a))), some (.inl x0), none] [] h (kC (fun v h2 => WP Gm j_Law_law 600 ls (v.toList ++ st) h2 Q) (fun E h2 => Q (.inr E) h2))) := (WP_at c_Law_law_597 _ _ _ _).trans (congrArg (fun o => ndX Gm (WP Gm) j_Law_law 597 o Q) (if_pos (by rw [hk, show decide (catS st ≤ 8) = true from hc]; rfl)))
set_option maxRecDepth 100000 in
theorem c_Law_law_600 : mCode j_Law_law 600 = oIst 6 602 := (rfl)
theorem e_Law_law_600 (x : Int32) : (WP Gm j_Law_law 600 (ls) (.inl x :: st) h Q) = (WP Gm j_Law_law 602 (lSet1 ls 6 (some (.inl x))) (st) (h) Q) := (WP_at c_Law_law_600 _ _ _ _)
set_option maxRecDepth 100000 in
theorem c_Law_law_602 : mCode j_Law_law 602 = oAld 2 603 := (rfl)
theorem e_Law_law_602 (a0 a1 : Option MV) (x : Option Nat) : (WP Gm j_Law_law 602 (a0 :: a1 :: some (.inr (.inl x)) :: ls) (st) h Q) = (WP Gm j_Law_law 603 (a0 :: a1 :: some (.inr (.inl x)) :: ls) (.inr (.inl x) :: st) (h) Q) := (WP_at c_Law_law_602 _ _ _ _)
set_option maxRecDepth 100000 in
theorem c_Law_law_603 : mCode j_Law_law 603 = oCallV kc_Mdl j_Mdl_thrown 0 (mL j_Mdl_thrown) 606 := (rfl)
theorem e_Law_law_603 (a : Nat) (hk : isK h a kc_Mdl = true) (hc : c8 st = true) : (WP Gm j_Law_law 603 (ls) (.inr (.inl (some a)) :: st) h Q) = (WP Gm j_Mdl_thrown 0 [some (.inr (.inl (some a)))] [] h (kC (fun v h2 => WP Gm j_Law_law 606 ls (v.toList ++ st) h2 Q) (fun E h2 => Q (.inr E) h2))) := (WP_at c_Law_law_603 _ _ _ _).trans (congrArg (fun o => ndX Gm (WP Gm) j_Law_law 603 o Q) (if_pos (by rw [hk, show decide (catS st ≤ 8) = true from hc]; rfl)))
set_option maxRecDepth 100000 in
theorem c_Law_law_606 : mCode j_Law_law 606 = oIld 5 608 := (rfl)
theorem e_Law_law_606 (a0 a1 a2 a3 a4 : Option MV) (x : Int32) : (WP Gm j_Law_law 606 (a0 :: a1 :: a2 :: a3 :: a4 :: some (.inl x) :: ls) (st) h Q) = (WP Gm j_Law_law 608 (a0 :: a1 :: a2 :: a3 :: a4 :: some (.inl x) :: ls) (.inl x :: st) (h) Q) := (WP_at c_Law_law_606 _ _ _ _)
set_option maxRecDepth 100000 in
theorem c_Law_law_608 : mCode j_Law_law 608 = oIC (fun x y => decide (x = y)) 613 611 := (rfl)
theorem e_Law_law_608 (x y : Int32) : (WP Gm j_Law_law 608 (ls) (.inl y :: .inl x :: st) h Q) = (if x = y then WP Gm j_Law_law 613 (ls) (st) (h) Q else WP Gm j_Law_law 611 (ls) (st) (h) Q) := (WP_at c_Law_law_608 _ _ _ _).trans (nd_ic rfl _ _ _ _)
set_option maxRecDepth 100000 in
theorem c_Law_law_611 : mCode j_Law_law 611 = oI 0 612 := (rfl)
theorem e_Law_law_611  : (WP Gm j_Law_law 611 (ls) (st) h Q) = (WP Gm j_Law_law 612 (ls) (.inl 0 :: st) (h) Q) := (WP_at c_Law_law_611 _ _ _ _)
set_option maxRecDepth 100000 in
theorem c_Law_law_612 : mCode j_Law_law 612 = oRetZ := (rfl)
theorem e_Law_law_612 (x : Int32) (hx : x = 0 ∨ x = 1) : (WP Gm j_Law_law 612 (ls) ([.inl x]) h Q) = (Q (.inl (some (.inl x))) h) := (WP_at c_Law_law_612 _ _ _ _).trans (congrArg (fun o => ndX Gm (WP Gm) j_Law_law 612 o Q) (if_pos (by rcases hx with rfl | rfl <;> rfl)))
set_option maxRecDepth 100000 in
theorem c_Law_law_613 : mCode j_Law_law 613 = oIld 5 615 := (rfl)
theorem e_Law_law_613 (a0 a1 a2 a3 a4 : Option MV) (x : Int32) : (WP Gm j_Law_law 613 (a0 :: a1 :: a2 :: a3 :: a4 :: some (.inl x) :: ls) (st) h Q) = (WP Gm j_Law_law 615 (a0 :: a1 :: a2 :: a3 :: a4 :: some (.inl x) :: ls) (.inl x :: st) (h) Q) := (WP_at c_Law_law_613 _ _ _ _)
set_option maxRecDepth 100000 in
theorem c_Law_law_615 : mCode j_Law_law 615 = oIf (fun x => decide (¬ x = 0)) 631 618 := (rfl)
theorem e_Law_law_615 (x : Int32) : (WP Gm j_Law_law 615 (ls) (.inl x :: st) h Q) = (if ¬ x = 0 then WP Gm j_Law_law 631 (ls) (st) (h) Q else WP Gm j_Law_law 618 (ls) (st) (h) Q) := (WP_at c_Law_law_615 _ _ _ _).trans (nd_if rfl _ _ _ _)
set_option maxRecDepth 100000 in
theorem c_Law_law_618 : mCode j_Law_law 618 = oAld 3 619 := (rfl)
theorem e_Law_law_618 (a0 a1 a2 : Option MV) (x : Option Nat) : (WP Gm j_Law_law 618 (a0 :: a1 :: a2 :: some (.inr (.inl x)) :: ls) (st) h Q) = (WP Gm j_Law_law 619 (a0 :: a1 :: a2 :: some (.inr (.inl x)) :: ls) (.inr (.inl x) :: st) (h) Q) := (WP_at c_Law_law_618 _ _ _ _)
set_option maxRecDepth 100000 in
theorem c_Law_law_619 : mCode j_Law_law 619 = oGetL kc_Out 0 622 := (rfl)
theorem e_Law_law_619 (a : Nat) (hk : isK h a kc_Out = true) : (WP Gm j_Law_law 619 (ls) (.inr (.inl (some a)) :: st) h Q) = (WP Gm j_Law_law 622 (ls) (.inr (.inr (.inl (gL h a 0))) :: st) (h) Q) := (WP_at c_Law_law_619 _ _ _ _).trans (congrArg (fun o => ndX Gm (WP Gm) j_Law_law 619 o Q) (if_pos hk))
set_option maxRecDepth 100000 in
theorem c_Law_law_622 : mCode j_Law_law 622 = oIld 6 624 := (rfl)
theorem e_Law_law_622 (a0 a1 a2 a3 a4 a5 : Option MV) (x : Int32) : (WP Gm j_Law_law 622 (a0 :: a1 :: a2 :: a3 :: a4 :: a5 :: some (.inl x) :: ls) (st) h Q) = (WP Gm j_Law_law 624 (a0 :: a1 :: a2 :: a3 :: a4 :: a5 :: some (.inl x) :: ls) (.inl x :: st) (h) Q) := (WP_at c_Law_law_622 _ _ _ _)
set_option maxRecDepth 100000 in
theorem c_Law_law_624 : mCode j_Law_law 624 = oI2L 625 := (rfl)
theorem e_Law_law_624 (x : Int32) : (WP Gm j_Law_law 624 (ls) (.inl x :: st) h Q) = (WP Gm j_Law_law 625 (ls) (.inr (.inr (.inl x.toInt64)) :: st) (h) Q) := (WP_at c_Law_law_624 _ _ _ _)
set_option maxRecDepth 100000 in
theorem c_Law_law_625 : mCode j_Law_law 625 = oLcmp 626 := (rfl)
theorem e_Law_law_625 (x y : Int64) : (WP Gm j_Law_law 625 (ls) (.inr (.inr (.inl y)) :: .inr (.inr (.inl x)) :: st) h Q) = (WP Gm j_Law_law 626 (ls) (.inl (lg_cmp x y) :: st) (h) Q) := (WP_at c_Law_law_625 _ _ _ _)
set_option maxRecDepth 100000 in
theorem c_Law_law_626 : mCode j_Law_law 626 = oIf (fun x => decide (x = 0)) 631 629 := (rfl)
theorem e_Law_law_626 (x : Int32) : (WP Gm j_Law_law 626 (ls) (.inl x :: st) h Q) = (if x = 0 then WP Gm j_Law_law 631 (ls) (st) (h) Q else WP Gm j_Law_law 629 (ls) (st) (h) Q) := (WP_at c_Law_law_626 _ _ _ _).trans (nd_if rfl _ _ _ _)
set_option maxRecDepth 100000 in
theorem c_Law_law_629 : mCode j_Law_law 629 = oI 0 630 := (rfl)
theorem e_Law_law_629  : (WP Gm j_Law_law 629 (ls) (st) h Q) = (WP Gm j_Law_law 630 (ls) (.inl 0 :: st) (h) Q) := (WP_at c_Law_law_629 _ _ _ _)
set_option maxRecDepth 100000 in
theorem c_Law_law_630 : mCode j_Law_law 630 = oRetZ := (rfl)
theorem e_Law_law_630 (x : Int32) (hx : x = 0 ∨ x = 1) : (WP Gm j_Law_law 630 (ls) ([.inl x]) h Q) = (Q (.inl (some (.inl x))) h) := (WP_at c_Law_law_630 _ _ _ _).trans (congrArg (fun o => ndX Gm (WP Gm) j_Law_law 630 o Q) (if_pos (by rcases hx with rfl | rfl <;> rfl)))
set_option maxRecDepth 100000 in
theorem c_Law_law_631 : mCode j_Law_law 631 = oGo 1549 := (rfl)
theorem e_Law_law_631  : (WP Gm j_Law_law 631 (ls) (st) h Q) = (WP Gm j_Law_law 1549 (ls) (st) (h) Q) := (WP_at c_Law_law_631 _ _ _ _)
set_option maxRecDepth 100000 in
theorem c_Law_law_634 : mCode j_Law_law 634 = oAld 1 635 := (rfl)
theorem e_Law_law_634 (a0 : Option MV) (x : Option Nat) : (WP Gm j_Law_law 634 (a0 :: some (.inr (.inl x)) :: ls) (st) h Q) = (WP Gm j_Law_law 635 (a0 :: some (.inr (.inl x)) :: ls) (.inr (.inl x) :: st) (h) Q) := (WP_at c_Law_law_634 _ _ _ _)
set_option maxRecDepth 100000 in
theorem c_Law_law_635 : mCode j_Law_law 635 = oAld 0 636 := (rfl)
theorem e_Law_law_635 (x : Option Nat) : (WP Gm j_Law_law 635 (some (.inr (.inl x)) :: ls) (st) h Q) = (WP Gm j_Law_law 636 (some (.inr (.inl x)) :: ls) (.inr (.inl x) :: st) (h) Q) := (WP_at c_Law_law_635 _ _ _ _)
set_option maxRecDepth 100000 in
theorem c_Law_law_636 : mCode j_Law_law 636 = oIld 4 638 := (rfl)
theorem e_Law_law_636 (a0 a1 a2 a3 : Option MV) (x : Int32) : (WP Gm j_Law_law 636 (a0 :: a1 :: a2 :: a3 :: some (.inl x) :: ls) (st) h Q) = (WP Gm j_Law_law 638 (a0 :: a1 :: a2 :: a3 :: some (.inl x) :: ls) (.inl x :: st) (h) Q) := (WP_at c_Law_law_636 _ _ _ _)
set_option maxRecDepth 100000 in
theorem c_Law_law_638 : mCode j_Law_law 638 = oI 1 639 := (rfl)
theorem e_Law_law_638  : (WP Gm j_Law_law 638 (ls) (st) h Q) = (WP Gm j_Law_law 639 (ls) (.inl 1 :: st) (h) Q) := (WP_at c_Law_law_638 _ _ _ _)
set_option maxRecDepth 100000 in
theorem c_Law_law_639 : mCode j_Law_law 639 = oII (fun x y => x + y) 640 := (rfl)
theorem e_Law_law_639 (x : Int32) (y : Int32) : (WP Gm j_Law_law 639 (ls) (.inl y :: .inl x :: st) h Q) = (WP Gm j_Law_law 640 (ls) (.inl (x + y) :: st) (h) Q) := (WP_at c_Law_law_639 _ _ _ _)
set_option maxRecDepth 100000 in
theorem c_Law_law_640 : mCode j_Law_law 640 = oIal 0 641 := (rfl)
theorem e_Law_law_640 (a : Nat) (i : Int32) (hk : isK h a 100 = true) (hi : inL h a i = true) : (WP Gm j_Law_law 640 (ls) (.inl i :: .inr (.inl (some a)) :: st) h Q) = (WP Gm j_Law_law 641 (ls) (.inl (gI h a i.toNatClampNeg) :: st) (h) Q) := (WP_at c_Law_law_640 _ _ _ _).trans (congrArg (fun o => ndX Gm (WP Gm) j_Law_law 640 o Q) (if_pos (by rw [hk, hi]; rfl)))
set_option maxRecDepth 100000 in
theorem c_Law_law_641 : mCode j_Law_law 641 = oAld 0 642 := (rfl)
theorem e_Law_law_641 (x : Option Nat) : (WP Gm j_Law_law 641 (some (.inr (.inl x)) :: ls) (st) h Q) = (WP Gm j_Law_law 642 (some (.inr (.inl x)) :: ls) (.inr (.inl x) :: st) (h) Q) := (WP_at c_Law_law_641 _ _ _ _)
set_option maxRecDepth 100000 in
theorem c_Law_law_642 : mCode j_Law_law 642 = oIld 4 644 := (rfl)
theorem e_Law_law_642 (a0 a1 a2 a3 : Option MV) (x : Int32) : (WP Gm j_Law_law 642 (a0 :: a1 :: a2 :: a3 :: some (.inl x) :: ls) (st) h Q) = (WP Gm j_Law_law 644 (a0 :: a1 :: a2 :: a3 :: some (.inl x) :: ls) (.inl x :: st) (h) Q) := (WP_at c_Law_law_642 _ _ _ _)
set_option maxRecDepth 100000 in
theorem c_Law_law_644 : mCode j_Law_law 644 = oI 2 645 := (rfl)
theorem e_Law_law_644  : (WP Gm j_Law_law 644 (ls) (st) h Q) = (WP Gm j_Law_law 645 (ls) (.inl 2 :: st) (h) Q) := (WP_at c_Law_law_644 _ _ _ _)
set_option maxRecDepth 100000 in
theorem c_Law_law_645 : mCode j_Law_law 645 = oII (fun x y => x + y) 646 := (rfl)
theorem e_Law_law_645 (x : Int32) (y : Int32) : (WP Gm j_Law_law 645 (ls) (.inl y :: .inl x :: st) h Q) = (WP Gm j_Law_law 646 (ls) (.inl (x + y) :: st) (h) Q) := (WP_at c_Law_law_645 _ _ _ _)
set_option maxRecDepth 100000 in
theorem c_Law_law_646 : mCode j_Law_law 646 = oIal 0 647 := (rfl)
theorem e_Law_law_646 (a : Nat) (i : Int32) (hk : isK h a 100 = true) (hi : inL h a i = true) : (WP Gm j_Law_law 646 (ls) (.inl i :: .inr (.inl (some a)) :: st) h Q) = (WP Gm j_Law_law 647 (ls) (.inl (gI h a i.toNatClampNeg) :: st) (h) Q) := (WP_at c_Law_law_646 _ _ _ _).trans (congrArg (fun o => ndX Gm (WP Gm) j_Law_law 646 o Q) (if_pos (by rw [hk, hi]; rfl)))
set_option maxRecDepth 100000 in
theorem c_Law_law_647 : mCode j_Law_law 647 = oAld 0 648 := (rfl)
theorem e_Law_law_647 (x : Option Nat) : (WP Gm j_Law_law 647 (some (.inr (.inl x)) :: ls) (st) h Q) = (WP Gm j_Law_law 648 (some (.inr (.inl x)) :: ls) (.inr (.inl x) :: st) (h) Q) := (WP_at c_Law_law_647 _ _ _ _)
set_option maxRecDepth 100000 in
theorem c_Law_law_648 : mCode j_Law_law 648 = oIld 4 650 := (rfl)
theorem e_Law_law_648 (a0 a1 a2 a3 : Option MV) (x : Int32) : (WP Gm j_Law_law 648 (a0 :: a1 :: a2 :: a3 :: some (.inl x) :: ls) (st) h Q) = (WP Gm j_Law_law 650 (a0 :: a1 :: a2 :: a3 :: some (.inl x) :: ls) (.inl x :: st) (h) Q) := (WP_at c_Law_law_648 _ _ _ _)
set_option maxRecDepth 100000 in
theorem c_Law_law_650 : mCode j_Law_law 650 = oI 3 651 := (rfl)
theorem e_Law_law_650  : (WP Gm j_Law_law 650 (ls) (st) h Q) = (WP Gm j_Law_law 651 (ls) (.inl 3 :: st) (h) Q) := (WP_at c_Law_law_650 _ _ _ _)
set_option maxRecDepth 100000 in
theorem c_Law_law_651 : mCode j_Law_law 651 = oII (fun x y => x + y) 652 := (rfl)
theorem e_Law_law_651 (x : Int32) (y : Int32) : (WP Gm j_Law_law 651 (ls) (.inl y :: .inl x :: st) h Q) = (WP Gm j_Law_law 652 (ls) (.inl (x + y) :: st) (h) Q) := (WP_at c_Law_law_651 _ _ _ _)
set_option maxRecDepth 100000 in
theorem c_Law_law_652 : mCode j_Law_law 652 = oIal 0 653 := (rfl)
theorem e_Law_law_652 (a : Nat) (i : Int32) (hk : isK h a 100 = true) (hi : inL h a i = true) : (WP Gm j_Law_law 652 (ls) (.inl i :: .inr (.inl (some a)) :: st) h Q) = (WP Gm j_Law_law 653 (ls) (.inl (gI h a i.toNatClampNeg) :: st) (h) Q) := (WP_at c_Law_law_652 _ _ _ _).trans (congrArg (fun o => ndX Gm (WP Gm) j_Law_law 652 o Q) (if_pos (by rw [hk, hi]; rfl)))
set_option maxRecDepth 100000 in
theorem c_Law_law_653 : mCode j_Law_law 653 = oAld 3 654 := (rfl)
theorem e_Law_law_653 (a0 a1 a2 : Option MV) (x : Option Nat) : (WP Gm j_Law_law 653 (a0 :: a1 :: a2 :: some (.inr (.inl x)) :: ls) (st) h Q) = (WP Gm j_Law_law 654 (a0 :: a1 :: a2 :: some (.inr (.inl x)) :: ls) (.inr (.inl x) :: st) (h) Q) := (WP_at c_Law_law_653 _ _ _ _)
set_option maxRecDepth 100000 in
theorem c_Law_law_654 : mCode j_Law_law 654 = oCallS j_Law_bid 5 (mL j_Law_bid) 657 := (rfl)
theorem e_Law_law_654 (x0 : Option Nat) (x1 : Int32) (x2 : Int32) (x3 : Int32) (x4 : Option Nat) (hc : c8 st = true) : (WP Gm j_Law_law 654 (ls) (.inr (.inl x4) :: .inl x3 :: .inl x2 :: .inl x1 :: .inr (.inl x0) :: st) h Q) = (WP Gm j_Law_bid 0 [some (.inr (.inl x0)), some (.inl x1), some (.inl x2), some (.inl x3), some (.inr (.inl x4)), none] [] h (kC (fun v h2 => WP Gm j_Law_law 657 ls (v.toList ++ st) h2 Q) (fun E h2 => Q (.inr E) h2))) := (WP_at c_Law_law_654 _ _ _ _).trans (congrArg (fun o => ndX Gm (WP Gm) j_Law_law 654 o Q) (if_pos (by rw [show decide (catS st ≤ 8) = true from hc]; rfl)))
set_option maxRecDepth 100000 in
theorem c_Law_law_657 : mCode j_Law_law 657 = oIst 5 659 := (rfl)
theorem e_Law_law_657 (x : Int32) : (WP Gm j_Law_law 657 (ls) (.inl x :: st) h Q) = (WP Gm j_Law_law 659 (lSet1 ls 5 (some (.inl x))) (st) (h) Q) := (WP_at c_Law_law_657 _ _ _ _)
set_option maxRecDepth 100000 in
theorem c_Law_law_659 : mCode j_Law_law 659 = oAld 2 660 := (rfl)
theorem e_Law_law_659 (a0 a1 : Option MV) (x : Option Nat) : (WP Gm j_Law_law 659 (a0 :: a1 :: some (.inr (.inl x)) :: ls) (st) h Q) = (WP Gm j_Law_law 660 (a0 :: a1 :: some (.inr (.inl x)) :: ls) (.inr (.inl x) :: st) (h) Q) := (WP_at c_Law_law_659 _ _ _ _)
set_option maxRecDepth 100000 in
theorem c_Law_law_660 : mCode j_Law_law 660 = oAld 0 661 := (rfl)
theorem e_Law_law_660 (x : Option Nat) : (WP Gm j_Law_law 660 (some (.inr (.inl x)) :: ls) (st) h Q) = (WP Gm j_Law_law 661 (some (.inr (.inl x)) :: ls) (.inr (.inl x) :: st) (h) Q) := (WP_at c_Law_law_660 _ _ _ _)
set_option maxRecDepth 100000 in
theorem c_Law_law_661 : mCode j_Law_law 661 = oIld 4 663 := (rfl)
theorem e_Law_law_661 (a0 a1 a2 a3 : Option MV) (x : Int32) : (WP Gm j_Law_law 661 (a0 :: a1 :: a2 :: a3 :: some (.inl x) :: ls) (st) h Q) = (WP Gm j_Law_law 663 (a0 :: a1 :: a2 :: a3 :: some (.inl x) :: ls) (.inl x :: st) (h) Q) := (WP_at c_Law_law_661 _ _ _ _)
set_option maxRecDepth 100000 in
theorem c_Law_law_663 : mCode j_Law_law 663 = oI 1 664 := (rfl)
theorem e_Law_law_663  : (WP Gm j_Law_law 663 (ls) (st) h Q) = (WP Gm j_Law_law 664 (ls) (.inl 1 :: st) (h) Q) := (WP_at c_Law_law_663 _ _ _ _)
set_option maxRecDepth 100000 in
theorem c_Law_law_664 : mCode j_Law_law 664 = oII (fun x y => x + y) 665 := (rfl)
theorem e_Law_law_664 (x : Int32) (y : Int32) : (WP Gm j_Law_law 664 (ls) (.inl y :: .inl x :: st) h Q) = (WP Gm j_Law_law 665 (ls) (.inl (x + y) :: st) (h) Q) := (WP_at c_Law_law_664 _ _ _ _)
set_option maxRecDepth 100000 in
theorem c_Law_law_665 : mCode j_Law_law 665 = oIal 0 666 := (rfl)
theorem e_Law_law_665 (a : Nat) (i : Int32) (hk : isK h a 100 = true) (hi : inL h a i = true) : (WP Gm j_Law_law 665 (ls) (.inl i :: .inr (.inl (some a)) :: st) h Q) = (WP Gm j_Law_law 666 (ls) (.inl (gI h a i.toNatClampNeg) :: st) (h) Q) := (WP_at c_Law_law_665 _ _ _ _).trans (congrArg (fun o => ndX Gm (WP Gm) j_Law_law 665 o Q) (if_pos (by rw [hk, hi]; rfl)))
set_option maxRecDepth 100000 in
theorem c_Law_law_666 : mCode j_Law_law 666 = oAld 0 667 := (rfl)
theorem e_Law_law_666 (x : Option Nat) : (WP Gm j_Law_law 666 (some (.inr (.inl x)) :: ls) (st) h Q) = (WP Gm j_Law_law 667 (some (.inr (.inl x)) :: ls) (.inr (.inl x) :: st) (h) Q) := (WP_at c_Law_law_666 _ _ _ _)
set_option maxRecDepth 100000 in
theorem c_Law_law_667 : mCode j_Law_law 667 = oIld 4 669 := (rfl)
theorem e_Law_law_667 (a0 a1 a2 a3 : Option MV) (x : Int32) : (WP Gm j_Law_law 667 (a0 :: a1 :: a2 :: a3 :: some (.inl x) :: ls) (st) h Q) = (WP Gm j_Law_law 669 (a0 :: a1 :: a2 :: a3 :: some (.inl x) :: ls) (.inl x :: st) (h) Q) := (WP_at c_Law_law_667 _ _ _ _)
set_option maxRecDepth 100000 in
theorem c_Law_law_669 : mCode j_Law_law 669 = oI 2 670 := (rfl)
theorem e_Law_law_669  : (WP Gm j_Law_law 669 (ls) (st) h Q) = (WP Gm j_Law_law 670 (ls) (.inl 2 :: st) (h) Q) := (WP_at c_Law_law_669 _ _ _ _)
set_option maxRecDepth 100000 in
theorem c_Law_law_670 : mCode j_Law_law 670 = oII (fun x y => x + y) 671 := (rfl)
theorem e_Law_law_670 (x : Int32) (y : Int32) : (WP Gm j_Law_law 670 (ls) (.inl y :: .inl x :: st) h Q) = (WP Gm j_Law_law 671 (ls) (.inl (x + y) :: st) (h) Q) := (WP_at c_Law_law_670 _ _ _ _)
set_option maxRecDepth 100000 in
theorem c_Law_law_671 : mCode j_Law_law 671 = oIal 0 672 := (rfl)
theorem e_Law_law_671 (a : Nat) (i : Int32) (hk : isK h a 100 = true) (hi : inL h a i = true) : (WP Gm j_Law_law 671 (ls) (.inl i :: .inr (.inl (some a)) :: st) h Q) = (WP Gm j_Law_law 672 (ls) (.inl (gI h a i.toNatClampNeg) :: st) (h) Q) := (WP_at c_Law_law_671 _ _ _ _).trans (congrArg (fun o => ndX Gm (WP Gm) j_Law_law 671 o Q) (if_pos (by rw [hk, hi]; rfl)))
set_option maxRecDepth 100000 in
theorem c_Law_law_672 : mCode j_Law_law 672 = oAld 0 673 := (rfl)
theorem e_Law_law_672 (x : Option Nat) : (WP Gm j_Law_law 672 (some (.inr (.inl x)) :: ls) (st) h Q) = (WP Gm j_Law_law 673 (some (.inr (.inl x)) :: ls) (.inr (.inl x) :: st) (h) Q) := (WP_at c_Law_law_672 _ _ _ _)
set_option maxRecDepth 100000 in
theorem c_Law_law_673 : mCode j_Law_law 673 = oIld 4 675 := (rfl)
theorem e_Law_law_673 (a0 a1 a2 a3 : Option MV) (x : Int32) : (WP Gm j_Law_law 673 (a0 :: a1 :: a2 :: a3 :: some (.inl x) :: ls) (st) h Q) = (WP Gm j_Law_law 675 (a0 :: a1 :: a2 :: a3 :: some (.inl x) :: ls) (.inl x :: st) (h) Q) := (WP_at c_Law_law_673 _ _ _ _)
set_option maxRecDepth 100000 in
theorem c_Law_law_675 : mCode j_Law_law 675 = oI 3 676 := (rfl)
theorem e_Law_law_675  : (WP Gm j_Law_law 675 (ls) (st) h Q) = (WP Gm j_Law_law 676 (ls) (.inl 3 :: st) (h) Q) := (WP_at c_Law_law_675 _ _ _ _)
set_option maxRecDepth 100000 in
theorem c_Law_law_676 : mCode j_Law_law 676 = oII (fun x y => x + y) 677 := (rfl)
theorem e_Law_law_676 (x : Int32) (y : Int32) : (WP Gm j_Law_law 676 (ls) (.inl y :: .inl x :: st) h Q) = (WP Gm j_Law_law 677 (ls) (.inl (x + y) :: st) (h) Q) := (WP_at c_Law_law_676 _ _ _ _)
set_option maxRecDepth 100000 in
theorem c_Law_law_677 : mCode j_Law_law 677 = oIal 0 678 := (rfl)
theorem e_Law_law_677 (a : Nat) (i : Int32) (hk : isK h a 100 = true) (hi : inL h a i = true) : (WP Gm j_Law_law 677 (ls) (.inl i :: .inr (.inl (some a)) :: st) h Q) = (WP Gm j_Law_law 678 (ls) (.inl (gI h a i.toNatClampNeg) :: st) (h) Q) := (WP_at c_Law_law_677 _ _ _ _).trans (congrArg (fun o => ndX Gm (WP Gm) j_Law_law 677 o Q) (if_pos (by rw [hk, hi]; rfl)))
set_option maxRecDepth 100000 in
theorem c_Law_law_678 : mCode j_Law_law 678 = oCallV kc_Mdl j_Mdl_bid 3 (mL j_Mdl_bid) 681 := (rfl)
theorem e_Law_law_678 (a : Nat) (x0 : Int32) (x1 : Int32) (x2 : Int32) (hk : isK h a kc_Mdl = true) (hc : c8 st = true) : (WP Gm j_Law_law 678 (ls) (.inl x2 :: .inl x1 :: .inl x0 :: .inr (.inl (some a)) :: st) h Q) = (WP Gm j_Mdl_bid 0 [some (.inr (.inl (some a))), some (.inl x0), some (.inl x1), some (.inl x2)] [] h (kC (fun v h2 => WP Gm j_Law_law 681 ls (v.toList ++ st) h2 Q) (fun E h2 => Q (.inr E) h2))) := (WP_at c_Law_law_678 _ _ _ _).trans (congrArg (fun o => ndX Gm (WP Gm) j_Law_law 678 o Q) (if_pos (by rw [hk, show decide (catS st ≤ 8) = true from hc]; rfl)))
set_option maxRecDepth 100000 in
theorem c_Law_law_681 : mCode j_Law_law 681 = oIst 6 683 := (rfl)
theorem e_Law_law_681 (x : Int32) : (WP Gm j_Law_law 681 (ls) (.inl x :: st) h Q) = (WP Gm j_Law_law 683 (lSet1 ls 6 (some (.inl x))) (st) (h) Q) := (WP_at c_Law_law_681 _ _ _ _)
set_option maxRecDepth 100000 in
theorem c_Law_law_683 : mCode j_Law_law 683 = oAld 2 684 := (rfl)
theorem e_Law_law_683 (a0 a1 : Option MV) (x : Option Nat) : (WP Gm j_Law_law 683 (a0 :: a1 :: some (.inr (.inl x)) :: ls) (st) h Q) = (WP Gm j_Law_law 684 (a0 :: a1 :: some (.inr (.inl x)) :: ls) (.inr (.inl x) :: st) (h) Q) := (WP_at c_Law_law_683 _ _ _ _)
set_option maxRecDepth 100000 in
theorem c_Law_law_684 : mCode j_Law_law 684 = oCallV kc_Mdl j_Mdl_thrown 0 (mL j_Mdl_thrown) 687 := (rfl)
theorem e_Law_law_684 (a : Nat) (hk : isK h a kc_Mdl = true) (hc : c8 st = true) : (WP Gm j_Law_law 684 (ls) (.inr (.inl (some a)) :: st) h Q) = (WP Gm j_Mdl_thrown 0 [some (.inr (.inl (some a)))] [] h (kC (fun v h2 => WP Gm j_Law_law 687 ls (v.toList ++ st) h2 Q) (fun E h2 => Q (.inr E) h2))) := (WP_at c_Law_law_684 _ _ _ _).trans (congrArg (fun o => ndX Gm (WP Gm) j_Law_law 684 o Q) (if_pos (by rw [hk, show decide (catS st ≤ 8) = true from hc]; rfl)))
set_option maxRecDepth 100000 in
theorem c_Law_law_687 : mCode j_Law_law 687 = oIld 5 689 := (rfl)
theorem e_Law_law_687 (a0 a1 a2 a3 a4 : Option MV) (x : Int32) : (WP Gm j_Law_law 687 (a0 :: a1 :: a2 :: a3 :: a4 :: some (.inl x) :: ls) (st) h Q) = (WP Gm j_Law_law 689 (a0 :: a1 :: a2 :: a3 :: a4 :: some (.inl x) :: ls) (.inl x :: st) (h) Q) := (WP_at c_Law_law_687 _ _ _ _)
set_option maxRecDepth 100000 in
theorem c_Law_law_689 : mCode j_Law_law 689 = oIC (fun x y => decide (x = y)) 694 692 := (rfl)
theorem e_Law_law_689 (x y : Int32) : (WP Gm j_Law_law 689 (ls) (.inl y :: .inl x :: st) h Q) = (if x = y then WP Gm j_Law_law 694 (ls) (st) (h) Q else WP Gm j_Law_law 692 (ls) (st) (h) Q) := (WP_at c_Law_law_689 _ _ _ _).trans (nd_ic rfl _ _ _ _)
set_option maxRecDepth 100000 in
theorem c_Law_law_692 : mCode j_Law_law 692 = oI 0 693 := (rfl)
theorem e_Law_law_692  : (WP Gm j_Law_law 692 (ls) (st) h Q) = (WP Gm j_Law_law 693 (ls) (.inl 0 :: st) (h) Q) := (WP_at c_Law_law_692 _ _ _ _)
set_option maxRecDepth 100000 in
theorem c_Law_law_693 : mCode j_Law_law 693 = oRetZ := (rfl)
theorem e_Law_law_693 (x : Int32) (hx : x = 0 ∨ x = 1) : (WP Gm j_Law_law 693 (ls) ([.inl x]) h Q) = (Q (.inl (some (.inl x))) h) := (WP_at c_Law_law_693 _ _ _ _).trans (congrArg (fun o => ndX Gm (WP Gm) j_Law_law 693 o Q) (if_pos (by rcases hx with rfl | rfl <;> rfl)))
set_option maxRecDepth 100000 in
theorem c_Law_law_694 : mCode j_Law_law 694 = oIld 5 696 := (rfl)
theorem e_Law_law_694 (a0 a1 a2 a3 a4 : Option MV) (x : Int32) : (WP Gm j_Law_law 694 (a0 :: a1 :: a2 :: a3 :: a4 :: some (.inl x) :: ls) (st) h Q) = (WP Gm j_Law_law 696 (a0 :: a1 :: a2 :: a3 :: a4 :: some (.inl x) :: ls) (.inl x :: st) (h) Q) := (WP_at c_Law_law_694 _ _ _ _)
set_option maxRecDepth 100000 in
theorem c_Law_law_696 : mCode j_Law_law 696 = oIf (fun x => decide (¬ x = 0)) 712 699 := (rfl)
theorem e_Law_law_696 (x : Int32) : (WP Gm j_Law_law 696 (ls) (.inl x :: st) h Q) = (if ¬ x = 0 then WP Gm j_Law_law 712 (ls) (st) (h) Q else WP Gm j_Law_law 699 (ls) (st) (h) Q) := (WP_at c_Law_law_696 _ _ _ _).trans (nd_if rfl _ _ _ _)
set_option maxRecDepth 100000 in
theorem c_Law_law_699 : mCode j_Law_law 699 = oAld 3 700 := (rfl)
theorem e_Law_law_699 (a0 a1 a2 : Option MV) (x : Option Nat) : (WP Gm j_Law_law 699 (a0 :: a1 :: a2 :: some (.inr (.inl x)) :: ls) (st) h Q) = (WP Gm j_Law_law 700 (a0 :: a1 :: a2 :: some (.inr (.inl x)) :: ls) (.inr (.inl x) :: st) (h) Q) := (WP_at c_Law_law_699 _ _ _ _)
set_option maxRecDepth 100000 in
theorem c_Law_law_700 : mCode j_Law_law 700 = oGetL kc_Out 0 703 := (rfl)
theorem e_Law_law_700 (a : Nat) (hk : isK h a kc_Out = true) : (WP Gm j_Law_law 700 (ls) (.inr (.inl (some a)) :: st) h Q) = (WP Gm j_Law_law 703 (ls) (.inr (.inr (.inl (gL h a 0))) :: st) (h) Q) := (WP_at c_Law_law_700 _ _ _ _).trans (congrArg (fun o => ndX Gm (WP Gm) j_Law_law 700 o Q) (if_pos hk))
set_option maxRecDepth 100000 in
theorem c_Law_law_703 : mCode j_Law_law 703 = oIld 6 705 := (rfl)
theorem e_Law_law_703 (a0 a1 a2 a3 a4 a5 : Option MV) (x : Int32) : (WP Gm j_Law_law 703 (a0 :: a1 :: a2 :: a3 :: a4 :: a5 :: some (.inl x) :: ls) (st) h Q) = (WP Gm j_Law_law 705 (a0 :: a1 :: a2 :: a3 :: a4 :: a5 :: some (.inl x) :: ls) (.inl x :: st) (h) Q) := (WP_at c_Law_law_703 _ _ _ _)
set_option maxRecDepth 100000 in
theorem c_Law_law_705 : mCode j_Law_law 705 = oI2L 706 := (rfl)
theorem e_Law_law_705 (x : Int32) : (WP Gm j_Law_law 705 (ls) (.inl x :: st) h Q) = (WP Gm j_Law_law 706 (ls) (.inr (.inr (.inl x.toInt64)) :: st) (h) Q) := (WP_at c_Law_law_705 _ _ _ _)
set_option maxRecDepth 100000 in
theorem c_Law_law_706 : mCode j_Law_law 706 = oLcmp 707 := (rfl)
theorem e_Law_law_706 (x y : Int64) : (WP Gm j_Law_law 706 (ls) (.inr (.inr (.inl y)) :: .inr (.inr (.inl x)) :: st) h Q) = (WP Gm j_Law_law 707 (ls) (.inl (lg_cmp x y) :: st) (h) Q) := (WP_at c_Law_law_706 _ _ _ _)
set_option maxRecDepth 100000 in
theorem c_Law_law_707 : mCode j_Law_law 707 = oIf (fun x => decide (x = 0)) 712 710 := (rfl)
theorem e_Law_law_707 (x : Int32) : (WP Gm j_Law_law 707 (ls) (.inl x :: st) h Q) = (if x = 0 then WP Gm j_Law_law 712 (ls) (st) (h) Q else WP Gm j_Law_law 710 (ls) (st) (h) Q) := (WP_at c_Law_law_707 _ _ _ _).trans (nd_if rfl _ _ _ _)
set_option maxRecDepth 100000 in
theorem c_Law_law_710 : mCode j_Law_law 710 = oI 0 711 := (rfl)
theorem e_Law_law_710  : (WP Gm j_Law_law 710 (ls) (st) h Q) = (WP Gm j_Law_law 711 (ls) (.inl 0 :: st) (h) Q) := (WP_at c_Law_law_710 _ _ _ _)
set_option maxRecDepth 100000 in
theorem c_Law_law_711 : mCode j_Law_law 711 = oRetZ := (rfl)
theorem e_Law_law_711 (x : Int32) (hx : x = 0 ∨ x = 1) : (WP Gm j_Law_law 711 (ls) ([.inl x]) h Q) = (Q (.inl (some (.inl x))) h) := (WP_at c_Law_law_711 _ _ _ _).trans (congrArg (fun o => ndX Gm (WP Gm) j_Law_law 711 o Q) (if_pos (by rcases hx with rfl | rfl <;> rfl)))
set_option maxRecDepth 100000 in
theorem c_Law_law_712 : mCode j_Law_law 712 = oGo 1549 := (rfl)
theorem e_Law_law_712  : (WP Gm j_Law_law 712 (ls) (st) h Q) = (WP Gm j_Law_law 1549 (ls) (st) (h) Q) := (WP_at c_Law_law_712 _ _ _ _)
set_option maxRecDepth 100000 in
theorem c_Law_law_715 : mCode j_Law_law 715 = oAld 1 716 := (rfl)
theorem e_Law_law_715 (a0 : Option MV) (x : Option Nat) : (WP Gm j_Law_law 715 (a0 :: some (.inr (.inl x)) :: ls) (st) h Q) = (WP Gm j_Law_law 716 (a0 :: some (.inr (.inl x)) :: ls) (.inr (.inl x) :: st) (h) Q) := (WP_at c_Law_law_715 _ _ _ _)
set_option maxRecDepth 100000 in
theorem c_Law_law_716 : mCode j_Law_law 716 = oCallV kc_S j_S_sell 0 (mL j_S_sell) 719 := (rfl)
theorem e_Law_law_716 (a : Nat) (hk : isK h a kc_S = true) (hc : c8 st = true) : (WP Gm j_Law_law 716 (ls) (.inr (.inl (some a)) :: st) h Q) = (WP Gm j_S_sell 0 [some (.inr (.inl (some a)))] [] h (kC (fun v h2 => WP Gm j_Law_law 719 ls (v.toList ++ st) h2 Q) (fun E h2 => Q (.inr E) h2))) := (WP_at c_Law_law_716 _ _ _ _).trans (congrArg (fun o => ndX Gm (WP Gm) j_Law_law 716 o Q) (if_pos (by rw [hk, show decide (catS st ≤ 8) = true from hc]; rfl)))
set_option maxRecDepth 100000 in
theorem c_Law_law_719 : mCode j_Law_law 719 = oAld 2 720 := (rfl)
theorem e_Law_law_719 (a0 a1 : Option MV) (x : Option Nat) : (WP Gm j_Law_law 719 (a0 :: a1 :: some (.inr (.inl x)) :: ls) (st) h Q) = (WP Gm j_Law_law 720 (a0 :: a1 :: some (.inr (.inl x)) :: ls) (.inr (.inl x) :: st) (h) Q) := (WP_at c_Law_law_719 _ _ _ _)
set_option maxRecDepth 100000 in
theorem c_Law_law_720 : mCode j_Law_law 720 = oCallV kc_Mdl j_Mdl_sell 0 (mL j_Mdl_sell) 723 := (rfl)
theorem e_Law_law_720 (a : Nat) (hk : isK h a kc_Mdl = true) (hc : c8 st = true) : (WP Gm j_Law_law 720 (ls) (.inr (.inl (some a)) :: st) h Q) = (WP Gm j_Mdl_sell 0 [some (.inr (.inl (some a))), none, none, none] [] h (kC (fun v h2 => WP Gm j_Law_law 723 ls (v.toList ++ st) h2 Q) (fun E h2 => Q (.inr E) h2))) := (WP_at c_Law_law_720 _ _ _ _).trans (congrArg (fun o => ndX Gm (WP Gm) j_Law_law 720 o Q) (if_pos (by rw [hk, show decide (catS st ≤ 8) = true from hc]; rfl)))
set_option maxRecDepth 100000 in
theorem c_Law_law_723 : mCode j_Law_law 723 = oIC (fun x y => decide (x = y)) 1549 726 := (rfl)
theorem e_Law_law_723 (x y : Int32) : (WP Gm j_Law_law 723 (ls) (.inl y :: .inl x :: st) h Q) = (if x = y then WP Gm j_Law_law 1549 (ls) (st) (h) Q else WP Gm j_Law_law 726 (ls) (st) (h) Q) := (WP_at c_Law_law_723 _ _ _ _).trans (nd_ic rfl _ _ _ _)
set_option maxRecDepth 100000 in
theorem c_Law_law_726 : mCode j_Law_law 726 = oI 0 727 := (rfl)
theorem e_Law_law_726  : (WP Gm j_Law_law 726 (ls) (st) h Q) = (WP Gm j_Law_law 727 (ls) (.inl 0 :: st) (h) Q) := (WP_at c_Law_law_726 _ _ _ _)
set_option maxRecDepth 100000 in
theorem c_Law_law_727 : mCode j_Law_law 727 = oRetZ := (rfl)
theorem e_Law_law_727 (x : Int32) (hx : x = 0 ∨ x = 1) : (WP Gm j_Law_law 727 (ls) ([.inl x]) h Q) = (Q (.inl (some (.inl x))) h) := (WP_at c_Law_law_727 _ _ _ _).trans (congrArg (fun o => ndX Gm (WP Gm) j_Law_law 727 o Q) (if_pos (by rcases hx with rfl | rfl <;> rfl)))
set_option maxRecDepth 100000 in
theorem c_Law_law_728 : mCode j_Law_law 728 = oAld 1 729 := (rfl)
theorem e_Law_law_728 (a0 : Option MV) (x : Option Nat) : (WP Gm j_Law_law 728 (a0 :: some (.inr (.inl x)) :: ls) (st) h Q) = (WP Gm j_Law_law 729 (a0 :: some (.inr (.inl x)) :: ls) (.inr (.inl x) :: st) (h) Q) := (WP_at c_Law_law_728 _ _ _ _)
set_option maxRecDepth 100000 in
theorem c_Law_law_729 : mCode j_Law_law 729 = oCallV kc_S j_S_knock 0 (mL j_S_knock) 732 := (rfl)
theorem e_Law_law_729 (a : Nat) (hk : isK h a kc_S = true) (hc : c8 st = true) : (WP Gm j_Law_law 729 (ls) (.inr (.inl (some a)) :: st) h Q) = (WP Gm j_S_knock 0 [some (.inr (.inl (some a)))] [] h (kC (fun v h2 => WP Gm j_Law_law 732 ls (v.toList ++ st) h2 Q) (fun E h2 => Q (.inr E) h2))) := (WP_at c_Law_law_729 _ _ _ _).trans (congrArg (fun o => ndX Gm (WP Gm) j_Law_law 729 o Q) (if_pos (by rw [hk, show decide (catS st ≤ 8) = true from hc]; rfl)))
set_option maxRecDepth 100000 in
theorem c_Law_law_732 : mCode j_Law_law 732 = oAld 2 733 := (rfl)
theorem e_Law_law_732 (a0 a1 : Option MV) (x : Option Nat) : (WP Gm j_Law_law 732 (a0 :: a1 :: some (.inr (.inl x)) :: ls) (st) h Q) = (WP Gm j_Law_law 733 (a0 :: a1 :: some (.inr (.inl x)) :: ls) (.inr (.inl x) :: st) (h) Q) := (WP_at c_Law_law_732 _ _ _ _)
set_option maxRecDepth 100000 in
theorem c_Law_law_733 : mCode j_Law_law 733 = oCallV kc_Mdl j_Mdl_knock 0 (mL j_Mdl_knock) 736 := (rfl)
theorem e_Law_law_733 (a : Nat) (hk : isK h a kc_Mdl = true) (hc : c8 st = true) : (WP Gm j_Law_law 733 (ls) (.inr (.inl (some a)) :: st) h Q) = (WP Gm j_Mdl_knock 0 [some (.inr (.inl (some a)))] [] h (kC (fun v h2 => WP Gm j_Law_law 736 ls (v.toList ++ st) h2 Q) (fun E h2 => Q (.inr E) h2))) := (WP_at c_Law_law_733 _ _ _ _).trans (congrArg (fun o => ndX Gm (WP Gm) j_Law_law 733 o Q) (if_pos (by rw [hk, show decide (catS st ≤ 8) = true from hc]; rfl)))
set_option maxRecDepth 100000 in
theorem c_Law_law_736 : mCode j_Law_law 736 = oIC (fun x y => decide (x = y)) 1549 739 := (rfl)
theorem e_Law_law_736 (x y : Int32) : (WP Gm j_Law_law 736 (ls) (.inl y :: .inl x :: st) h Q) = (if x = y then WP Gm j_Law_law 1549 (ls) (st) (h) Q else WP Gm j_Law_law 739 (ls) (st) (h) Q) := (WP_at c_Law_law_736 _ _ _ _).trans (nd_ic rfl _ _ _ _)
set_option maxRecDepth 100000 in
theorem c_Law_law_739 : mCode j_Law_law 739 = oI 0 740 := (rfl)
theorem e_Law_law_739  : (WP Gm j_Law_law 739 (ls) (st) h Q) = (WP Gm j_Law_law 740 (ls) (.inl 0 :: st) (h) Q) := (WP_at c_Law_law_739 _ _ _ _)
set_option maxRecDepth 100000 in
theorem c_Law_law_740 : mCode j_Law_law 740 = oRetZ := (rfl)
theorem e_Law_law_740 (x : Int32) (hx : x = 0 ∨ x = 1) : (WP Gm j_Law_law 740 (ls) ([.inl x]) h Q) = (Q (.inl (some (.inl x))) h) := (WP_at c_Law_law_740 _ _ _ _).trans (congrArg (fun o => ndX Gm (WP Gm) j_Law_law 740 o Q) (if_pos (by rcases hx with rfl | rfl <;> rfl)))
set_option maxRecDepth 100000 in
theorem c_Law_law_741 : mCode j_Law_law 741 = oAld 1 742 := (rfl)
theorem e_Law_law_741 (a0 : Option MV) (x : Option Nat) : (WP Gm j_Law_law 741 (a0 :: some (.inr (.inl x)) :: ls) (st) h Q) = (WP Gm j_Law_law 742 (a0 :: some (.inr (.inl x)) :: ls) (.inr (.inl x) :: st) (h) Q) := (WP_at c_Law_law_741 _ _ _ _)
set_option maxRecDepth 100000 in
theorem c_Law_law_742 : mCode j_Law_law 742 = oAld 0 743 := (rfl)
theorem e_Law_law_742 (x : Option Nat) : (WP Gm j_Law_law 742 (some (.inr (.inl x)) :: ls) (st) h Q) = (WP Gm j_Law_law 743 (some (.inr (.inl x)) :: ls) (.inr (.inl x) :: st) (h) Q) := (WP_at c_Law_law_742 _ _ _ _)
set_option maxRecDepth 100000 in
theorem c_Law_law_743 : mCode j_Law_law 743 = oIld 4 745 := (rfl)
theorem e_Law_law_743 (a0 a1 a2 a3 : Option MV) (x : Int32) : (WP Gm j_Law_law 743 (a0 :: a1 :: a2 :: a3 :: some (.inl x) :: ls) (st) h Q) = (WP Gm j_Law_law 745 (a0 :: a1 :: a2 :: a3 :: some (.inl x) :: ls) (.inl x :: st) (h) Q) := (WP_at c_Law_law_743 _ _ _ _)
set_option maxRecDepth 100000 in
theorem c_Law_law_745 : mCode j_Law_law 745 = oI 1 746 := (rfl)
theorem e_Law_law_745  : (WP Gm j_Law_law 745 (ls) (st) h Q) = (WP Gm j_Law_law 746 (ls) (.inl 1 :: st) (h) Q) := (WP_at c_Law_law_745 _ _ _ _)
set_option maxRecDepth 100000 in
theorem c_Law_law_746 : mCode j_Law_law 746 = oII (fun x y => x + y) 747 := (rfl)
theorem e_Law_law_746 (x : Int32) (y : Int32) : (WP Gm j_Law_law 746 (ls) (.inl y :: .inl x :: st) h Q) = (WP Gm j_Law_law 747 (ls) (.inl (x + y) :: st) (h) Q) := (WP_at c_Law_law_746 _ _ _ _)
set_option maxRecDepth 100000 in
theorem c_Law_law_747 : mCode j_Law_law 747 = oIal 0 748 := (rfl)
theorem e_Law_law_747 (a : Nat) (i : Int32) (hk : isK h a 100 = true) (hi : inL h a i = true) : (WP Gm j_Law_law 747 (ls) (.inl i :: .inr (.inl (some a)) :: st) h Q) = (WP Gm j_Law_law 748 (ls) (.inl (gI h a i.toNatClampNeg) :: st) (h) Q) := (WP_at c_Law_law_747 _ _ _ _).trans (congrArg (fun o => ndX Gm (WP Gm) j_Law_law 747 o Q) (if_pos (by rw [hk, hi]; rfl)))
set_option maxRecDepth 100000 in
theorem c_Law_law_748 : mCode j_Law_law 748 = oAld 0 749 := (rfl)
theorem e_Law_law_748 (x : Option Nat) : (WP Gm j_Law_law 748 (some (.inr (.inl x)) :: ls) (st) h Q) = (WP Gm j_Law_law 749 (some (.inr (.inl x)) :: ls) (.inr (.inl x) :: st) (h) Q) := (WP_at c_Law_law_748 _ _ _ _)
set_option maxRecDepth 100000 in
theorem c_Law_law_749 : mCode j_Law_law 749 = oIld 4 751 := (rfl)
theorem e_Law_law_749 (a0 a1 a2 a3 : Option MV) (x : Int32) : (WP Gm j_Law_law 749 (a0 :: a1 :: a2 :: a3 :: some (.inl x) :: ls) (st) h Q) = (WP Gm j_Law_law 751 (a0 :: a1 :: a2 :: a3 :: some (.inl x) :: ls) (.inl x :: st) (h) Q) := (WP_at c_Law_law_749 _ _ _ _)
set_option maxRecDepth 100000 in
theorem c_Law_law_751 : mCode j_Law_law 751 = oI 2 752 := (rfl)
theorem e_Law_law_751  : (WP Gm j_Law_law 751 (ls) (st) h Q) = (WP Gm j_Law_law 752 (ls) (.inl 2 :: st) (h) Q) := (WP_at c_Law_law_751 _ _ _ _)
set_option maxRecDepth 100000 in
theorem c_Law_law_752 : mCode j_Law_law 752 = oII (fun x y => x + y) 753 := (rfl)
theorem e_Law_law_752 (x : Int32) (y : Int32) : (WP Gm j_Law_law 752 (ls) (.inl y :: .inl x :: st) h Q) = (WP Gm j_Law_law 753 (ls) (.inl (x + y) :: st) (h) Q) := (WP_at c_Law_law_752 _ _ _ _)
set_option maxRecDepth 100000 in
theorem c_Law_law_753 : mCode j_Law_law 753 = oIal 0 754 := (rfl)
theorem e_Law_law_753 (a : Nat) (i : Int32) (hk : isK h a 100 = true) (hi : inL h a i = true) : (WP Gm j_Law_law 753 (ls) (.inl i :: .inr (.inl (some a)) :: st) h Q) = (WP Gm j_Law_law 754 (ls) (.inl (gI h a i.toNatClampNeg) :: st) (h) Q) := (WP_at c_Law_law_753 _ _ _ _).trans (congrArg (fun o => ndX Gm (WP Gm) j_Law_law 753 o Q) (if_pos (by rw [hk, hi]; rfl)))
set_option maxRecDepth 100000 in
theorem c_Law_law_754 : mCode j_Law_law 754 = oAld 3 755 := (rfl)
theorem e_Law_law_754 (a0 a1 a2 : Option MV) (x : Option Nat) : (WP Gm j_Law_law 754 (a0 :: a1 :: a2 :: some (.inr (.inl x)) :: ls) (st) h Q) = (WP Gm j_Law_law 755 (a0 :: a1 :: a2 :: some (.inr (.inl x)) :: ls) (.inr (.inl x) :: st) (h) Q) := (WP_at c_Law_law_754 _ _ _ _)
set_option maxRecDepth 100000 in
theorem c_Law_law_755 : mCode j_Law_law 755 = oCallS j_Law_hears 4 (mL j_Law_hears) 758 := (rfl)
theorem e_Law_law_755 (x0 : Option Nat) (x1 : Int32) (x2 : Int32) (x3 : Option Nat) (hc : c8 st = true) : (WP Gm j_Law_law 755 (ls) (.inr (.inl x3) :: .inl x2 :: .inl x1 :: .inr (.inl x0) :: st) h Q) = (WP Gm j_Law_hears 0 [some (.inr (.inl x0)), some (.inl x1), some (.inl x2), some (.inr (.inl x3)), none] [] h (kC (fun v h2 => WP Gm j_Law_law 758 ls (v.toList ++ st) h2 Q) (fun E h2 => Q (.inr E) h2))) := (WP_at c_Law_law_755 _ _ _ _).trans (congrArg (fun o => ndX Gm (WP Gm) j_Law_law 755 o Q) (if_pos (by rw [show decide (catS st ≤ 8) = true from hc]; rfl)))
set_option maxRecDepth 100000 in
theorem c_Law_law_758 : mCode j_Law_law 758 = oIst 5 760 := (rfl)
theorem e_Law_law_758 (x : Int32) : (WP Gm j_Law_law 758 (ls) (.inl x :: st) h Q) = (WP Gm j_Law_law 760 (lSet1 ls 5 (some (.inl x))) (st) (h) Q) := (WP_at c_Law_law_758 _ _ _ _)
set_option maxRecDepth 100000 in
theorem c_Law_law_760 : mCode j_Law_law 760 = oAld 2 761 := (rfl)
theorem e_Law_law_760 (a0 a1 : Option MV) (x : Option Nat) : (WP Gm j_Law_law 760 (a0 :: a1 :: some (.inr (.inl x)) :: ls) (st) h Q) = (WP Gm j_Law_law 761 (a0 :: a1 :: some (.inr (.inl x)) :: ls) (.inr (.inl x) :: st) (h) Q) := (WP_at c_Law_law_760 _ _ _ _)
set_option maxRecDepth 100000 in
theorem c_Law_law_761 : mCode j_Law_law 761 = oAld 0 762 := (rfl)
theorem e_Law_law_761 (x : Option Nat) : (WP Gm j_Law_law 761 (some (.inr (.inl x)) :: ls) (st) h Q) = (WP Gm j_Law_law 762 (some (.inr (.inl x)) :: ls) (.inr (.inl x) :: st) (h) Q) := (WP_at c_Law_law_761 _ _ _ _)
set_option maxRecDepth 100000 in
theorem c_Law_law_762 : mCode j_Law_law 762 = oIld 4 764 := (rfl)
theorem e_Law_law_762 (a0 a1 a2 a3 : Option MV) (x : Int32) : (WP Gm j_Law_law 762 (a0 :: a1 :: a2 :: a3 :: some (.inl x) :: ls) (st) h Q) = (WP Gm j_Law_law 764 (a0 :: a1 :: a2 :: a3 :: some (.inl x) :: ls) (.inl x :: st) (h) Q) := (WP_at c_Law_law_762 _ _ _ _)
set_option maxRecDepth 100000 in
theorem c_Law_law_764 : mCode j_Law_law 764 = oI 1 765 := (rfl)
theorem e_Law_law_764  : (WP Gm j_Law_law 764 (ls) (st) h Q) = (WP Gm j_Law_law 765 (ls) (.inl 1 :: st) (h) Q) := (WP_at c_Law_law_764 _ _ _ _)
set_option maxRecDepth 100000 in
theorem c_Law_law_765 : mCode j_Law_law 765 = oII (fun x y => x + y) 766 := (rfl)
theorem e_Law_law_765 (x : Int32) (y : Int32) : (WP Gm j_Law_law 765 (ls) (.inl y :: .inl x :: st) h Q) = (WP Gm j_Law_law 766 (ls) (.inl (x + y) :: st) (h) Q) := (WP_at c_Law_law_765 _ _ _ _)
set_option maxRecDepth 100000 in
theorem c_Law_law_766 : mCode j_Law_law 766 = oIal 0 767 := (rfl)
theorem e_Law_law_766 (a : Nat) (i : Int32) (hk : isK h a 100 = true) (hi : inL h a i = true) : (WP Gm j_Law_law 766 (ls) (.inl i :: .inr (.inl (some a)) :: st) h Q) = (WP Gm j_Law_law 767 (ls) (.inl (gI h a i.toNatClampNeg) :: st) (h) Q) := (WP_at c_Law_law_766 _ _ _ _).trans (congrArg (fun o => ndX Gm (WP Gm) j_Law_law 766 o Q) (if_pos (by rw [hk, hi]; rfl)))
set_option maxRecDepth 100000 in
theorem c_Law_law_767 : mCode j_Law_law 767 = oAld 0 768 := (rfl)
theorem e_Law_law_767 (x : Option Nat) : (WP Gm j_Law_law 767 (some (.inr (.inl x)) :: ls) (st) h Q) = (WP Gm j_Law_law 768 (some (.inr (.inl x)) :: ls) (.inr (.inl x) :: st) (h) Q) := (WP_at c_Law_law_767 _ _ _ _)
set_option maxRecDepth 100000 in
theorem c_Law_law_768 : mCode j_Law_law 768 = oIld 4 770 := (rfl)
theorem e_Law_law_768 (a0 a1 a2 a3 : Option MV) (x : Int32) : (WP Gm j_Law_law 768 (a0 :: a1 :: a2 :: a3 :: some (.inl x) :: ls) (st) h Q) = (WP Gm j_Law_law 770 (a0 :: a1 :: a2 :: a3 :: some (.inl x) :: ls) (.inl x :: st) (h) Q) := (WP_at c_Law_law_768 _ _ _ _)
set_option maxRecDepth 100000 in
theorem c_Law_law_770 : mCode j_Law_law 770 = oI 2 771 := (rfl)
theorem e_Law_law_770  : (WP Gm j_Law_law 770 (ls) (st) h Q) = (WP Gm j_Law_law 771 (ls) (.inl 2 :: st) (h) Q) := (WP_at c_Law_law_770 _ _ _ _)
set_option maxRecDepth 100000 in
theorem c_Law_law_771 : mCode j_Law_law 771 = oII (fun x y => x + y) 772 := (rfl)
theorem e_Law_law_771 (x : Int32) (y : Int32) : (WP Gm j_Law_law 771 (ls) (.inl y :: .inl x :: st) h Q) = (WP Gm j_Law_law 772 (ls) (.inl (x + y) :: st) (h) Q) := (WP_at c_Law_law_771 _ _ _ _)
set_option maxRecDepth 100000 in
theorem c_Law_law_772 : mCode j_Law_law 772 = oIal 0 773 := (rfl)
theorem e_Law_law_772 (a : Nat) (i : Int32) (hk : isK h a 100 = true) (hi : inL h a i = true) : (WP Gm j_Law_law 772 (ls) (.inl i :: .inr (.inl (some a)) :: st) h Q) = (WP Gm j_Law_law 773 (ls) (.inl (gI h a i.toNatClampNeg) :: st) (h) Q) := (WP_at c_Law_law_772 _ _ _ _).trans (congrArg (fun o => ndX Gm (WP Gm) j_Law_law 772 o Q) (if_pos (by rw [hk, hi]; rfl)))
set_option maxRecDepth 100000 in
theorem c_Law_law_773 : mCode j_Law_law 773 = oCallV kc_Mdl j_Mdl_hears 2 (mL j_Mdl_hears) 776 := (rfl)
theorem e_Law_law_773 (a : Nat) (x0 : Int32) (x1 : Int32) (hk : isK h a kc_Mdl = true) (hc : c8 st = true) : (WP Gm j_Law_law 773 (ls) (.inl x1 :: .inl x0 :: .inr (.inl (some a)) :: st) h Q) = (WP Gm j_Mdl_hears 0 [some (.inr (.inl (some a))), some (.inl x0), some (.inl x1)] [] h (kC (fun v h2 => WP Gm j_Law_law 776 ls (v.toList ++ st) h2 Q) (fun E h2 => Q (.inr E) h2))) := (WP_at c_Law_law_773 _ _ _ _).trans (congrArg (fun o => ndX Gm (WP Gm) j_Law_law 773 o Q) (if_pos (by rw [hk, show decide (catS st ≤ 8) = true from hc]; rfl)))
set_option maxRecDepth 100000 in
theorem c_Law_law_776 : mCode j_Law_law 776 = oIst 6 778 := (rfl)
theorem e_Law_law_776 (x : Int32) : (WP Gm j_Law_law 776 (ls) (.inl x :: st) h Q) = (WP Gm j_Law_law 778 (lSet1 ls 6 (some (.inl x))) (st) (h) Q) := (WP_at c_Law_law_776 _ _ _ _)
set_option maxRecDepth 100000 in
theorem c_Law_law_778 : mCode j_Law_law 778 = oAld 2 779 := (rfl)
theorem e_Law_law_778 (a0 a1 : Option MV) (x : Option Nat) : (WP Gm j_Law_law 778 (a0 :: a1 :: some (.inr (.inl x)) :: ls) (st) h Q) = (WP Gm j_Law_law 779 (a0 :: a1 :: some (.inr (.inl x)) :: ls) (.inr (.inl x) :: st) (h) Q) := (WP_at c_Law_law_778 _ _ _ _)
set_option maxRecDepth 100000 in
theorem c_Law_law_779 : mCode j_Law_law 779 = oCallV kc_Mdl j_Mdl_thrown 0 (mL j_Mdl_thrown) 782 := (rfl)
theorem e_Law_law_779 (a : Nat) (hk : isK h a kc_Mdl = true) (hc : c8 st = true) : (WP Gm j_Law_law 779 (ls) (.inr (.inl (some a)) :: st) h Q) = (WP Gm j_Mdl_thrown 0 [some (.inr (.inl (some a)))] [] h (kC (fun v h2 => WP Gm j_Law_law 782 ls (v.toList ++ st) h2 Q) (fun E h2 => Q (.inr E) h2))) := (WP_at c_Law_law_779 _ _ _ _).trans (congrArg (fun o => ndX Gm (WP Gm) j_Law_law 779 o Q) (if_pos (by rw [hk, show decide (catS st ≤ 8) = true from hc]; rfl)))
set_option maxRecDepth 100000 in
theorem c_Law_law_782 : mCode j_Law_law 782 = oIld 5 784 := (rfl)
theorem e_Law_law_782 (a0 a1 a2 a3 a4 : Option MV) (x : Int32) : (WP Gm j_Law_law 782 (a0 :: a1 :: a2 :: a3 :: a4 :: some (.inl x) :: ls) (st) h Q) = (WP Gm j_Law_law 784 (a0 :: a1 :: a2 :: a3 :: a4 :: some (.inl x) :: ls) (.inl x :: st) (h) Q) := (WP_at c_Law_law_782 _ _ _ _)
set_option maxRecDepth 100000 in
theorem c_Law_law_784 : mCode j_Law_law 784 = oIC (fun x y => decide (x = y)) 789 787 := (rfl)
theorem e_Law_law_784 (x y : Int32) : (WP Gm j_Law_law 784 (ls) (.inl y :: .inl x :: st) h Q) = (if x = y then WP Gm j_Law_law 789 (ls) (st) (h) Q else WP Gm j_Law_law 787 (ls) (st) (h) Q) := (WP_at c_Law_law_784 _ _ _ _).trans (nd_ic rfl _ _ _ _)
set_option maxRecDepth 100000 in
theorem c_Law_law_787 : mCode j_Law_law 787 = oI 0 788 := (rfl)
theorem e_Law_law_787  : (WP Gm j_Law_law 787 (ls) (st) h Q) = (WP Gm j_Law_law 788 (ls) (.inl 0 :: st) (h) Q) := (WP_at c_Law_law_787 _ _ _ _)
set_option maxRecDepth 100000 in
theorem c_Law_law_788 : mCode j_Law_law 788 = oRetZ := (rfl)
theorem e_Law_law_788 (x : Int32) (hx : x = 0 ∨ x = 1) : (WP Gm j_Law_law 788 (ls) ([.inl x]) h Q) = (Q (.inl (some (.inl x))) h) := (WP_at c_Law_law_788 _ _ _ _).trans (congrArg (fun o => ndX Gm (WP Gm) j_Law_law 788 o Q) (if_pos (by rcases hx with rfl | rfl <;> rfl)))
set_option maxRecDepth 100000 in
theorem c_Law_law_789 : mCode j_Law_law 789 = oIld 5 791 := (rfl)
theorem e_Law_law_789 (a0 a1 a2 a3 a4 : Option MV) (x : Int32) : (WP Gm j_Law_law 789 (a0 :: a1 :: a2 :: a3 :: a4 :: some (.inl x) :: ls) (st) h Q) = (WP Gm j_Law_law 791 (a0 :: a1 :: a2 :: a3 :: a4 :: some (.inl x) :: ls) (.inl x :: st) (h) Q) := (WP_at c_Law_law_789 _ _ _ _)
set_option maxRecDepth 100000 in
theorem c_Law_law_791 : mCode j_Law_law 791 = oIf (fun x => decide (¬ x = 0)) 814 794 := (rfl)
theorem e_Law_law_791 (x : Int32) : (WP Gm j_Law_law 791 (ls) (.inl x :: st) h Q) = (if ¬ x = 0 then WP Gm j_Law_law 814 (ls) (st) (h) Q else WP Gm j_Law_law 794 (ls) (st) (h) Q) := (WP_at c_Law_law_791 _ _ _ _).trans (nd_if rfl _ _ _ _)
set_option maxRecDepth 100000 in
theorem c_Law_law_794 : mCode j_Law_law 794 = oAld 3 795 := (rfl)
theorem e_Law_law_794 (a0 a1 a2 : Option MV) (x : Option Nat) : (WP Gm j_Law_law 794 (a0 :: a1 :: a2 :: some (.inr (.inl x)) :: ls) (st) h Q) = (WP Gm j_Law_law 795 (a0 :: a1 :: a2 :: some (.inr (.inl x)) :: ls) (.inr (.inl x) :: st) (h) Q) := (WP_at c_Law_law_794 _ _ _ _)
set_option maxRecDepth 100000 in
theorem c_Law_law_795 : mCode j_Law_law 795 = oGetL kc_Out 0 798 := (rfl)
theorem e_Law_law_795 (a : Nat) (hk : isK h a kc_Out = true) : (WP Gm j_Law_law 795 (ls) (.inr (.inl (some a)) :: st) h Q) = (WP Gm j_Law_law 798 (ls) (.inr (.inr (.inl (gL h a 0))) :: st) (h) Q) := (WP_at c_Law_law_795 _ _ _ _).trans (congrArg (fun o => ndX Gm (WP Gm) j_Law_law 795 o Q) (if_pos hk))
set_option maxRecDepth 100000 in
theorem c_Law_law_798 : mCode j_Law_law 798 = oIld 6 800 := (rfl)
theorem e_Law_law_798 (a0 a1 a2 a3 a4 a5 : Option MV) (x : Int32) : (WP Gm j_Law_law 798 (a0 :: a1 :: a2 :: a3 :: a4 :: a5 :: some (.inl x) :: ls) (st) h Q) = (WP Gm j_Law_law 800 (a0 :: a1 :: a2 :: a3 :: a4 :: a5 :: some (.inl x) :: ls) (.inl x :: st) (h) Q) := (WP_at c_Law_law_798 _ _ _ _)
set_option maxRecDepth 100000 in
theorem c_Law_law_800 : mCode j_Law_law 800 = oIf (fun x => decide (x = 0)) 807 803 := (rfl)
theorem e_Law_law_800 (x : Int32) : (WP Gm j_Law_law 800 (ls) (.inl x :: st) h Q) = (if x = 0 then WP Gm j_Law_law 807 (ls) (st) (h) Q else WP Gm j_Law_law 803 (ls) (st) (h) Q) := (WP_at c_Law_law_800 _ _ _ _).trans (nd_if rfl _ _ _ _)
set_option maxRecDepth 100000 in
theorem c_Law_law_803 : mCode j_Law_law 803 = oJ 1 804 := (rfl)
theorem e_Law_law_803  : (WP Gm j_Law_law 803 (ls) (st) h Q) = (WP Gm j_Law_law 804 (ls) (.inr (.inr (.inl 1)) :: st) (h) Q) := (WP_at c_Law_law_803 _ _ _ _)
set_option maxRecDepth 100000 in
theorem c_Law_law_804 : mCode j_Law_law 804 = oGo 808 := (rfl)
theorem e_Law_law_804  : (WP Gm j_Law_law 804 (ls) (st) h Q) = (WP Gm j_Law_law 808 (ls) (st) (h) Q) := (WP_at c_Law_law_804 _ _ _ _)
set_option maxRecDepth 100000 in
theorem c_Law_law_807 : mCode j_Law_law 807 = oJ 0 808 := (rfl)
theorem e_Law_law_807  : (WP Gm j_Law_law 807 (ls) (st) h Q) = (WP Gm j_Law_law 808 (ls) (.inr (.inr (.inl 0)) :: st) (h) Q) := (WP_at c_Law_law_807 _ _ _ _)
set_option maxRecDepth 100000 in
theorem c_Law_law_808 : mCode j_Law_law 808 = oLcmp 809 := (rfl)
theorem e_Law_law_808 (x y : Int64) : (WP Gm j_Law_law 808 (ls) (.inr (.inr (.inl y)) :: .inr (.inr (.inl x)) :: st) h Q) = (WP Gm j_Law_law 809 (ls) (.inl (lg_cmp x y) :: st) (h) Q) := (WP_at c_Law_law_808 _ _ _ _)
set_option maxRecDepth 100000 in
theorem c_Law_law_809 : mCode j_Law_law 809 = oIf (fun x => decide (x = 0)) 814 812 := (rfl)
theorem e_Law_law_809 (x : Int32) : (WP Gm j_Law_law 809 (ls) (.inl x :: st) h Q) = (if x = 0 then WP Gm j_Law_law 814 (ls) (st) (h) Q else WP Gm j_Law_law 812 (ls) (st) (h) Q) := (WP_at c_Law_law_809 _ _ _ _).trans (nd_if rfl _ _ _ _)
set_option maxRecDepth 100000 in
theorem c_Law_law_812 : mCode j_Law_law 812 = oI 0 813 := (rfl)
theorem e_Law_law_812  : (WP Gm j_Law_law 812 (ls) (st) h Q) = (WP Gm j_Law_law 813 (ls) (.inl 0 :: st) (h) Q) := (WP_at c_Law_law_812 _ _ _ _)
set_option maxRecDepth 100000 in
theorem c_Law_law_813 : mCode j_Law_law 813 = oRetZ := (rfl)
theorem e_Law_law_813 (x : Int32) (hx : x = 0 ∨ x = 1) : (WP Gm j_Law_law 813 (ls) ([.inl x]) h Q) = (Q (.inl (some (.inl x))) h) := (WP_at c_Law_law_813 _ _ _ _).trans (congrArg (fun o => ndX Gm (WP Gm) j_Law_law 813 o Q) (if_pos (by rcases hx with rfl | rfl <;> rfl)))
set_option maxRecDepth 100000 in
theorem c_Law_law_814 : mCode j_Law_law 814 = oGo 1549 := (rfl)
theorem e_Law_law_814  : (WP Gm j_Law_law 814 (ls) (st) h Q) = (WP Gm j_Law_law 1549 (ls) (st) (h) Q) := (WP_at c_Law_law_814 _ _ _ _)
set_option maxRecDepth 100000 in
theorem c_Law_law_817 : mCode j_Law_law 817 = oAld 1 818 := (rfl)
theorem e_Law_law_817 (a0 : Option MV) (x : Option Nat) : (WP Gm j_Law_law 817 (a0 :: some (.inr (.inl x)) :: ls) (st) h Q) = (WP Gm j_Law_law 818 (a0 :: some (.inr (.inl x)) :: ls) (.inr (.inl x) :: st) (h) Q) := (WP_at c_Law_law_817 _ _ _ _)
set_option maxRecDepth 100000 in
theorem c_Law_law_818 : mCode j_Law_law 818 = oAld 0 819 := (rfl)
theorem e_Law_law_818 (x : Option Nat) : (WP Gm j_Law_law 818 (some (.inr (.inl x)) :: ls) (st) h Q) = (WP Gm j_Law_law 819 (some (.inr (.inl x)) :: ls) (.inr (.inl x) :: st) (h) Q) := (WP_at c_Law_law_818 _ _ _ _)
set_option maxRecDepth 100000 in
theorem c_Law_law_819 : mCode j_Law_law 819 = oIld 4 821 := (rfl)
theorem e_Law_law_819 (a0 a1 a2 a3 : Option MV) (x : Int32) : (WP Gm j_Law_law 819 (a0 :: a1 :: a2 :: a3 :: some (.inl x) :: ls) (st) h Q) = (WP Gm j_Law_law 821 (a0 :: a1 :: a2 :: a3 :: some (.inl x) :: ls) (.inl x :: st) (h) Q) := (WP_at c_Law_law_819 _ _ _ _)
set_option maxRecDepth 100000 in
theorem c_Law_law_821 : mCode j_Law_law 821 = oI 1 822 := (rfl)
theorem e_Law_law_821  : (WP Gm j_Law_law 821 (ls) (st) h Q) = (WP Gm j_Law_law 822 (ls) (.inl 1 :: st) (h) Q) := (WP_at c_Law_law_821 _ _ _ _)
set_option maxRecDepth 100000 in
theorem c_Law_law_822 : mCode j_Law_law 822 = oII (fun x y => x + y) 823 := (rfl)
theorem e_Law_law_822 (x : Int32) (y : Int32) : (WP Gm j_Law_law 822 (ls) (.inl y :: .inl x :: st) h Q) = (WP Gm j_Law_law 823 (ls) (.inl (x + y) :: st) (h) Q) := (WP_at c_Law_law_822 _ _ _ _)
set_option maxRecDepth 100000 in
theorem c_Law_law_823 : mCode j_Law_law 823 = oIal 0 824 := (rfl)
theorem e_Law_law_823 (a : Nat) (i : Int32) (hk : isK h a 100 = true) (hi : inL h a i = true) : (WP Gm j_Law_law 823 (ls) (.inl i :: .inr (.inl (some a)) :: st) h Q) = (WP Gm j_Law_law 824 (ls) (.inl (gI h a i.toNatClampNeg) :: st) (h) Q) := (WP_at c_Law_law_823 _ _ _ _).trans (congrArg (fun o => ndX Gm (WP Gm) j_Law_law 823 o Q) (if_pos (by rw [hk, hi]; rfl)))
set_option maxRecDepth 100000 in
theorem c_Law_law_824 : mCode j_Law_law 824 = oAld 0 825 := (rfl)
theorem e_Law_law_824 (x : Option Nat) : (WP Gm j_Law_law 824 (some (.inr (.inl x)) :: ls) (st) h Q) = (WP Gm j_Law_law 825 (some (.inr (.inl x)) :: ls) (.inr (.inl x) :: st) (h) Q) := (WP_at c_Law_law_824 _ _ _ _)
set_option maxRecDepth 100000 in
theorem c_Law_law_825 : mCode j_Law_law 825 = oIld 4 827 := (rfl)
theorem e_Law_law_825 (a0 a1 a2 a3 : Option MV) (x : Int32) : (WP Gm j_Law_law 825 (a0 :: a1 :: a2 :: a3 :: some (.inl x) :: ls) (st) h Q) = (WP Gm j_Law_law 827 (a0 :: a1 :: a2 :: a3 :: some (.inl x) :: ls) (.inl x :: st) (h) Q) := (WP_at c_Law_law_825 _ _ _ _)
set_option maxRecDepth 100000 in
theorem c_Law_law_827 : mCode j_Law_law 827 = oI 2 828 := (rfl)
theorem e_Law_law_827  : (WP Gm j_Law_law 827 (ls) (st) h Q) = (WP Gm j_Law_law 828 (ls) (.inl 2 :: st) (h) Q) := (WP_at c_Law_law_827 _ _ _ _)
set_option maxRecDepth 100000 in
theorem c_Law_law_828 : mCode j_Law_law 828 = oII (fun x y => x + y) 829 := (rfl)
theorem e_Law_law_828 (x : Int32) (y : Int32) : (WP Gm j_Law_law 828 (ls) (.inl y :: .inl x :: st) h Q) = (WP Gm j_Law_law 829 (ls) (.inl (x + y) :: st) (h) Q) := (WP_at c_Law_law_828 _ _ _ _)
set_option maxRecDepth 100000 in
theorem c_Law_law_829 : mCode j_Law_law 829 = oIal 0 830 := (rfl)
theorem e_Law_law_829 (a : Nat) (i : Int32) (hk : isK h a 100 = true) (hi : inL h a i = true) : (WP Gm j_Law_law 829 (ls) (.inl i :: .inr (.inl (some a)) :: st) h Q) = (WP Gm j_Law_law 830 (ls) (.inl (gI h a i.toNatClampNeg) :: st) (h) Q) := (WP_at c_Law_law_829 _ _ _ _).trans (congrArg (fun o => ndX Gm (WP Gm) j_Law_law 829 o Q) (if_pos (by rw [hk, hi]; rfl)))
set_option maxRecDepth 100000 in
theorem c_Law_law_830 : mCode j_Law_law 830 = oAld 3 831 := (rfl)
theorem e_Law_law_830 (a0 a1 a2 : Option MV) (x : Option Nat) : (WP Gm j_Law_law 830 (a0 :: a1 :: a2 :: some (.inr (.inl x)) :: ls) (st) h Q) = (WP Gm j_Law_law 831 (a0 :: a1 :: a2 :: some (.inr (.inl x)) :: ls) (.inr (.inl x) :: st) (h) Q) := (WP_at c_Law_law_830 _ _ _ _)
set_option maxRecDepth 100000 in
theorem c_Law_law_831 : mCode j_Law_law 831 = oCallS j_Law_ofNode 4 (mL j_Law_ofNode) 834 := (rfl)
theorem e_Law_law_831 (x0 : Option Nat) (x1 : Int32) (x2 : Int32) (x3 : Option Nat) (hc : c8 st = true) : (WP Gm j_Law_law 831 (ls) (.inr (.inl x3) :: .inl x2 :: .inl x1 :: .inr (.inl x0) :: st) h Q) = (WP Gm j_Law_ofNode 0 [some (.inr (.inl x0)), some (.inl x1), some (.inl x2), some (.inr (.inl x3)), none] [] h (kC (fun v h2 => WP Gm j_Law_law 834 ls (v.toList ++ st) h2 Q) (fun E h2 => Q (.inr E) h2))) := (WP_at c_Law_law_831 _ _ _ _).trans (congrArg (fun o => ndX Gm (WP Gm) j_Law_law 831 o Q) (if_pos (by rw [show decide (catS st ≤ 8) = true from hc]; rfl)))
set_option maxRecDepth 100000 in
theorem c_Law_law_834 : mCode j_Law_law 834 = oIst 5 836 := (rfl)
theorem e_Law_law_834 (x : Int32) : (WP Gm j_Law_law 834 (ls) (.inl x :: st) h Q) = (WP Gm j_Law_law 836 (lSet1 ls 5 (some (.inl x))) (st) (h) Q) := (WP_at c_Law_law_834 _ _ _ _)
set_option maxRecDepth 100000 in
theorem c_Law_law_836 : mCode j_Law_law 836 = oAld 2 837 := (rfl)
theorem e_Law_law_836 (a0 a1 : Option MV) (x : Option Nat) : (WP Gm j_Law_law 836 (a0 :: a1 :: some (.inr (.inl x)) :: ls) (st) h Q) = (WP Gm j_Law_law 837 (a0 :: a1 :: some (.inr (.inl x)) :: ls) (.inr (.inl x) :: st) (h) Q) := (WP_at c_Law_law_836 _ _ _ _)
set_option maxRecDepth 100000 in
theorem c_Law_law_837 : mCode j_Law_law 837 = oAld 0 838 := (rfl)
theorem e_Law_law_837 (x : Option Nat) : (WP Gm j_Law_law 837 (some (.inr (.inl x)) :: ls) (st) h Q) = (WP Gm j_Law_law 838 (some (.inr (.inl x)) :: ls) (.inr (.inl x) :: st) (h) Q) := (WP_at c_Law_law_837 _ _ _ _)
set_option maxRecDepth 100000 in
theorem c_Law_law_838 : mCode j_Law_law 838 = oIld 4 840 := (rfl)
theorem e_Law_law_838 (a0 a1 a2 a3 : Option MV) (x : Int32) : (WP Gm j_Law_law 838 (a0 :: a1 :: a2 :: a3 :: some (.inl x) :: ls) (st) h Q) = (WP Gm j_Law_law 840 (a0 :: a1 :: a2 :: a3 :: some (.inl x) :: ls) (.inl x :: st) (h) Q) := (WP_at c_Law_law_838 _ _ _ _)
set_option maxRecDepth 100000 in
theorem c_Law_law_840 : mCode j_Law_law 840 = oI 1 841 := (rfl)
theorem e_Law_law_840  : (WP Gm j_Law_law 840 (ls) (st) h Q) = (WP Gm j_Law_law 841 (ls) (.inl 1 :: st) (h) Q) := (WP_at c_Law_law_840 _ _ _ _)
set_option maxRecDepth 100000 in
theorem c_Law_law_841 : mCode j_Law_law 841 = oII (fun x y => x + y) 842 := (rfl)
theorem e_Law_law_841 (x : Int32) (y : Int32) : (WP Gm j_Law_law 841 (ls) (.inl y :: .inl x :: st) h Q) = (WP Gm j_Law_law 842 (ls) (.inl (x + y) :: st) (h) Q) := (WP_at c_Law_law_841 _ _ _ _)
set_option maxRecDepth 100000 in
theorem c_Law_law_842 : mCode j_Law_law 842 = oIal 0 843 := (rfl)
theorem e_Law_law_842 (a : Nat) (i : Int32) (hk : isK h a 100 = true) (hi : inL h a i = true) : (WP Gm j_Law_law 842 (ls) (.inl i :: .inr (.inl (some a)) :: st) h Q) = (WP Gm j_Law_law 843 (ls) (.inl (gI h a i.toNatClampNeg) :: st) (h) Q) := (WP_at c_Law_law_842 _ _ _ _).trans (congrArg (fun o => ndX Gm (WP Gm) j_Law_law 842 o Q) (if_pos (by rw [hk, hi]; rfl)))
set_option maxRecDepth 100000 in
theorem c_Law_law_843 : mCode j_Law_law 843 = oAld 0 844 := (rfl)
theorem e_Law_law_843 (x : Option Nat) : (WP Gm j_Law_law 843 (some (.inr (.inl x)) :: ls) (st) h Q) = (WP Gm j_Law_law 844 (some (.inr (.inl x)) :: ls) (.inr (.inl x) :: st) (h) Q) := (WP_at c_Law_law_843 _ _ _ _)
set_option maxRecDepth 100000 in
theorem c_Law_law_844 : mCode j_Law_law 844 = oIld 4 846 := (rfl)
theorem e_Law_law_844 (a0 a1 a2 a3 : Option MV) (x : Int32) : (WP Gm j_Law_law 844 (a0 :: a1 :: a2 :: a3 :: some (.inl x) :: ls) (st) h Q) = (WP Gm j_Law_law 846 (a0 :: a1 :: a2 :: a3 :: some (.inl x) :: ls) (.inl x :: st) (h) Q) := (WP_at c_Law_law_844 _ _ _ _)
set_option maxRecDepth 100000 in
theorem c_Law_law_846 : mCode j_Law_law 846 = oI 2 847 := (rfl)
theorem e_Law_law_846  : (WP Gm j_Law_law 846 (ls) (st) h Q) = (WP Gm j_Law_law 847 (ls) (.inl 2 :: st) (h) Q) := (WP_at c_Law_law_846 _ _ _ _)
set_option maxRecDepth 100000 in
theorem c_Law_law_847 : mCode j_Law_law 847 = oII (fun x y => x + y) 848 := (rfl)
theorem e_Law_law_847 (x : Int32) (y : Int32) : (WP Gm j_Law_law 847 (ls) (.inl y :: .inl x :: st) h Q) = (WP Gm j_Law_law 848 (ls) (.inl (x + y) :: st) (h) Q) := (WP_at c_Law_law_847 _ _ _ _)
set_option maxRecDepth 100000 in
theorem c_Law_law_848 : mCode j_Law_law 848 = oIal 0 849 := (rfl)
theorem e_Law_law_848 (a : Nat) (i : Int32) (hk : isK h a 100 = true) (hi : inL h a i = true) : (WP Gm j_Law_law 848 (ls) (.inl i :: .inr (.inl (some a)) :: st) h Q) = (WP Gm j_Law_law 849 (ls) (.inl (gI h a i.toNatClampNeg) :: st) (h) Q) := (WP_at c_Law_law_848 _ _ _ _).trans (congrArg (fun o => ndX Gm (WP Gm) j_Law_law 848 o Q) (if_pos (by rw [hk, hi]; rfl)))
set_option maxRecDepth 100000 in
theorem c_Law_law_849 : mCode j_Law_law 849 = oCallV kc_Mdl j_Mdl_ofNode 2 (mL j_Mdl_ofNode) 852 := (rfl)
theorem e_Law_law_849 (a : Nat) (x0 : Int32) (x1 : Int32) (hk : isK h a kc_Mdl = true) (hc : c8 st = true) : (WP Gm j_Law_law 849 (ls) (.inl x1 :: .inl x0 :: .inr (.inl (some a)) :: st) h Q) = (WP Gm j_Mdl_ofNode 0 [some (.inr (.inl (some a))), some (.inl x0), some (.inl x1)] [] h (kC (fun v h2 => WP Gm j_Law_law 852 ls (v.toList ++ st) h2 Q) (fun E h2 => Q (.inr E) h2))) := (WP_at c_Law_law_849 _ _ _ _).trans (congrArg (fun o => ndX Gm (WP Gm) j_Law_law 849 o Q) (if_pos (by rw [hk, show decide (catS st ≤ 8) = true from hc]; rfl)))
set_option maxRecDepth 100000 in
theorem c_Law_law_852 : mCode j_Law_law 852 = oIst 6 854 := (rfl)
theorem e_Law_law_852 (x : Int32) : (WP Gm j_Law_law 852 (ls) (.inl x :: st) h Q) = (WP Gm j_Law_law 854 (lSet1 ls 6 (some (.inl x))) (st) (h) Q) := (WP_at c_Law_law_852 _ _ _ _)
set_option maxRecDepth 100000 in
theorem c_Law_law_854 : mCode j_Law_law 854 = oAld 2 855 := (rfl)
theorem e_Law_law_854 (a0 a1 : Option MV) (x : Option Nat) : (WP Gm j_Law_law 854 (a0 :: a1 :: some (.inr (.inl x)) :: ls) (st) h Q) = (WP Gm j_Law_law 855 (a0 :: a1 :: some (.inr (.inl x)) :: ls) (.inr (.inl x) :: st) (h) Q) := (WP_at c_Law_law_854 _ _ _ _)
set_option maxRecDepth 100000 in
theorem c_Law_law_855 : mCode j_Law_law 855 = oCallV kc_Mdl j_Mdl_thrown 0 (mL j_Mdl_thrown) 858 := (rfl)
theorem e_Law_law_855 (a : Nat) (hk : isK h a kc_Mdl = true) (hc : c8 st = true) : (WP Gm j_Law_law 855 (ls) (.inr (.inl (some a)) :: st) h Q) = (WP Gm j_Mdl_thrown 0 [some (.inr (.inl (some a)))] [] h (kC (fun v h2 => WP Gm j_Law_law 858 ls (v.toList ++ st) h2 Q) (fun E h2 => Q (.inr E) h2))) := (WP_at c_Law_law_855 _ _ _ _).trans (congrArg (fun o => ndX Gm (WP Gm) j_Law_law 855 o Q) (if_pos (by rw [hk, show decide (catS st ≤ 8) = true from hc]; rfl)))
set_option maxRecDepth 100000 in
theorem c_Law_law_858 : mCode j_Law_law 858 = oIld 5 860 := (rfl)
theorem e_Law_law_858 (a0 a1 a2 a3 a4 : Option MV) (x : Int32) : (WP Gm j_Law_law 858 (a0 :: a1 :: a2 :: a3 :: a4 :: some (.inl x) :: ls) (st) h Q) = (WP Gm j_Law_law 860 (a0 :: a1 :: a2 :: a3 :: a4 :: some (.inl x) :: ls) (.inl x :: st) (h) Q) := (WP_at c_Law_law_858 _ _ _ _)
set_option maxRecDepth 100000 in
theorem c_Law_law_860 : mCode j_Law_law 860 = oIC (fun x y => decide (x = y)) 865 863 := (rfl)
theorem e_Law_law_860 (x y : Int32) : (WP Gm j_Law_law 860 (ls) (.inl y :: .inl x :: st) h Q) = (if x = y then WP Gm j_Law_law 865 (ls) (st) (h) Q else WP Gm j_Law_law 863 (ls) (st) (h) Q) := (WP_at c_Law_law_860 _ _ _ _).trans (nd_ic rfl _ _ _ _)
set_option maxRecDepth 100000 in
theorem c_Law_law_863 : mCode j_Law_law 863 = oI 0 864 := (rfl)
theorem e_Law_law_863  : (WP Gm j_Law_law 863 (ls) (st) h Q) = (WP Gm j_Law_law 864 (ls) (.inl 0 :: st) (h) Q) := (WP_at c_Law_law_863 _ _ _ _)
set_option maxRecDepth 100000 in
theorem c_Law_law_864 : mCode j_Law_law 864 = oRetZ := (rfl)
theorem e_Law_law_864 (x : Int32) (hx : x = 0 ∨ x = 1) : (WP Gm j_Law_law 864 (ls) ([.inl x]) h Q) = (Q (.inl (some (.inl x))) h) := (WP_at c_Law_law_864 _ _ _ _).trans (congrArg (fun o => ndX Gm (WP Gm) j_Law_law 864 o Q) (if_pos (by rcases hx with rfl | rfl <;> rfl)))
set_option maxRecDepth 100000 in
theorem c_Law_law_865 : mCode j_Law_law 865 = oIld 5 867 := (rfl)
theorem e_Law_law_865 (a0 a1 a2 a3 a4 : Option MV) (x : Int32) : (WP Gm j_Law_law 865 (a0 :: a1 :: a2 :: a3 :: a4 :: some (.inl x) :: ls) (st) h Q) = (WP Gm j_Law_law 867 (a0 :: a1 :: a2 :: a3 :: a4 :: some (.inl x) :: ls) (.inl x :: st) (h) Q) := (WP_at c_Law_law_865 _ _ _ _)
set_option maxRecDepth 100000 in
theorem c_Law_law_867 : mCode j_Law_law 867 = oIf (fun x => decide (¬ x = 0)) 883 870 := (rfl)
theorem e_Law_law_867 (x : Int32) : (WP Gm j_Law_law 867 (ls) (.inl x :: st) h Q) = (if ¬ x = 0 then WP Gm j_Law_law 883 (ls) (st) (h) Q else WP Gm j_Law_law 870 (ls) (st) (h) Q) := (WP_at c_Law_law_867 _ _ _ _).trans (nd_if rfl _ _ _ _)
set_option maxRecDepth 100000 in
theorem c_Law_law_870 : mCode j_Law_law 870 = oAld 3 871 := (rfl)
theorem e_Law_law_870 (a0 a1 a2 : Option MV) (x : Option Nat) : (WP Gm j_Law_law 870 (a0 :: a1 :: a2 :: some (.inr (.inl x)) :: ls) (st) h Q) = (WP Gm j_Law_law 871 (a0 :: a1 :: a2 :: some (.inr (.inl x)) :: ls) (.inr (.inl x) :: st) (h) Q) := (WP_at c_Law_law_870 _ _ _ _)
set_option maxRecDepth 100000 in
theorem c_Law_law_871 : mCode j_Law_law 871 = oGetL kc_Out 0 874 := (rfl)
theorem e_Law_law_871 (a : Nat) (hk : isK h a kc_Out = true) : (WP Gm j_Law_law 871 (ls) (.inr (.inl (some a)) :: st) h Q) = (WP Gm j_Law_law 874 (ls) (.inr (.inr (.inl (gL h a 0))) :: st) (h) Q) := (WP_at c_Law_law_871 _ _ _ _).trans (congrArg (fun o => ndX Gm (WP Gm) j_Law_law 871 o Q) (if_pos hk))
set_option maxRecDepth 100000 in
theorem c_Law_law_874 : mCode j_Law_law 874 = oIld 6 876 := (rfl)
theorem e_Law_law_874 (a0 a1 a2 a3 a4 a5 : Option MV) (x : Int32) : (WP Gm j_Law_law 874 (a0 :: a1 :: a2 :: a3 :: a4 :: a5 :: some (.inl x) :: ls) (st) h Q) = (WP Gm j_Law_law 876 (a0 :: a1 :: a2 :: a3 :: a4 :: a5 :: some (.inl x) :: ls) (.inl x :: st) (h) Q) := (WP_at c_Law_law_874 _ _ _ _)
set_option maxRecDepth 100000 in
theorem c_Law_law_876 : mCode j_Law_law 876 = oI2L 877 := (rfl)
theorem e_Law_law_876 (x : Int32) : (WP Gm j_Law_law 876 (ls) (.inl x :: st) h Q) = (WP Gm j_Law_law 877 (ls) (.inr (.inr (.inl x.toInt64)) :: st) (h) Q) := (WP_at c_Law_law_876 _ _ _ _)
set_option maxRecDepth 100000 in
theorem c_Law_law_877 : mCode j_Law_law 877 = oLcmp 878 := (rfl)
theorem e_Law_law_877 (x y : Int64) : (WP Gm j_Law_law 877 (ls) (.inr (.inr (.inl y)) :: .inr (.inr (.inl x)) :: st) h Q) = (WP Gm j_Law_law 878 (ls) (.inl (lg_cmp x y) :: st) (h) Q) := (WP_at c_Law_law_877 _ _ _ _)
set_option maxRecDepth 100000 in
theorem c_Law_law_878 : mCode j_Law_law 878 = oIf (fun x => decide (x = 0)) 883 881 := (rfl)
theorem e_Law_law_878 (x : Int32) : (WP Gm j_Law_law 878 (ls) (.inl x :: st) h Q) = (if x = 0 then WP Gm j_Law_law 883 (ls) (st) (h) Q else WP Gm j_Law_law 881 (ls) (st) (h) Q) := (WP_at c_Law_law_878 _ _ _ _).trans (nd_if rfl _ _ _ _)
set_option maxRecDepth 100000 in
theorem c_Law_law_881 : mCode j_Law_law 881 = oI 0 882 := (rfl)
theorem e_Law_law_881  : (WP Gm j_Law_law 881 (ls) (st) h Q) = (WP Gm j_Law_law 882 (ls) (.inl 0 :: st) (h) Q) := (WP_at c_Law_law_881 _ _ _ _)
set_option maxRecDepth 100000 in
theorem c_Law_law_882 : mCode j_Law_law 882 = oRetZ := (rfl)
theorem e_Law_law_882 (x : Int32) (hx : x = 0 ∨ x = 1) : (WP Gm j_Law_law 882 (ls) ([.inl x]) h Q) = (Q (.inl (some (.inl x))) h) := (WP_at c_Law_law_882 _ _ _ _).trans (congrArg (fun o => ndX Gm (WP Gm) j_Law_law 882 o Q) (if_pos (by rcases hx with rfl | rfl <;> rfl)))
set_option maxRecDepth 100000 in
theorem c_Law_law_883 : mCode j_Law_law 883 = oGo 1549 := (rfl)
theorem e_Law_law_883  : (WP Gm j_Law_law 883 (ls) (st) h Q) = (WP Gm j_Law_law 1549 (ls) (st) (h) Q) := (WP_at c_Law_law_883 _ _ _ _)
set_option maxRecDepth 100000 in
theorem c_Law_law_886 : mCode j_Law_law 886 = oAld 1 887 := (rfl)
theorem e_Law_law_886 (a0 : Option MV) (x : Option Nat) : (WP Gm j_Law_law 886 (a0 :: some (.inr (.inl x)) :: ls) (st) h Q) = (WP Gm j_Law_law 887 (a0 :: some (.inr (.inl x)) :: ls) (.inr (.inl x) :: st) (h) Q) := (WP_at c_Law_law_886 _ _ _ _)
set_option maxRecDepth 100000 in
theorem c_Law_law_887 : mCode j_Law_law 887 = oAld 0 888 := (rfl)
theorem e_Law_law_887 (x : Option Nat) : (WP Gm j_Law_law 887 (some (.inr (.inl x)) :: ls) (st) h Q) = (WP Gm j_Law_law 888 (some (.inr (.inl x)) :: ls) (.inr (.inl x) :: st) (h) Q) := (WP_at c_Law_law_887 _ _ _ _)
set_option maxRecDepth 100000 in
theorem c_Law_law_888 : mCode j_Law_law 888 = oIld 4 890 := (rfl)
theorem e_Law_law_888 (a0 a1 a2 a3 : Option MV) (x : Int32) : (WP Gm j_Law_law 888 (a0 :: a1 :: a2 :: a3 :: some (.inl x) :: ls) (st) h Q) = (WP Gm j_Law_law 890 (a0 :: a1 :: a2 :: a3 :: some (.inl x) :: ls) (.inl x :: st) (h) Q) := (WP_at c_Law_law_888 _ _ _ _)
set_option maxRecDepth 100000 in
theorem c_Law_law_890 : mCode j_Law_law 890 = oI 1 891 := (rfl)
theorem e_Law_law_890  : (WP Gm j_Law_law 890 (ls) (st) h Q) = (WP Gm j_Law_law 891 (ls) (.inl 1 :: st) (h) Q) := (WP_at c_Law_law_890 _ _ _ _)
set_option maxRecDepth 100000 in
theorem c_Law_law_891 : mCode j_Law_law 891 = oII (fun x y => x + y) 892 := (rfl)
theorem e_Law_law_891 (x : Int32) (y : Int32) : (WP Gm j_Law_law 891 (ls) (.inl y :: .inl x :: st) h Q) = (WP Gm j_Law_law 892 (ls) (.inl (x + y) :: st) (h) Q) := (WP_at c_Law_law_891 _ _ _ _)
set_option maxRecDepth 100000 in
theorem c_Law_law_892 : mCode j_Law_law 892 = oIal 0 893 := (rfl)
theorem e_Law_law_892 (a : Nat) (i : Int32) (hk : isK h a 100 = true) (hi : inL h a i = true) : (WP Gm j_Law_law 892 (ls) (.inl i :: .inr (.inl (some a)) :: st) h Q) = (WP Gm j_Law_law 893 (ls) (.inl (gI h a i.toNatClampNeg) :: st) (h) Q) := (WP_at c_Law_law_892 _ _ _ _).trans (congrArg (fun o => ndX Gm (WP Gm) j_Law_law 892 o Q) (if_pos (by rw [hk, hi]; rfl)))
set_option maxRecDepth 100000 in
theorem c_Law_law_893 : mCode j_Law_law 893 = oAld 0 894 := (rfl)
theorem e_Law_law_893 (x : Option Nat) : (WP Gm j_Law_law 893 (some (.inr (.inl x)) :: ls) (st) h Q) = (WP Gm j_Law_law 894 (some (.inr (.inl x)) :: ls) (.inr (.inl x) :: st) (h) Q) := (WP_at c_Law_law_893 _ _ _ _)
set_option maxRecDepth 100000 in
theorem c_Law_law_894 : mCode j_Law_law 894 = oIld 4 896 := (rfl)
theorem e_Law_law_894 (a0 a1 a2 a3 : Option MV) (x : Int32) : (WP Gm j_Law_law 894 (a0 :: a1 :: a2 :: a3 :: some (.inl x) :: ls) (st) h Q) = (WP Gm j_Law_law 896 (a0 :: a1 :: a2 :: a3 :: some (.inl x) :: ls) (.inl x :: st) (h) Q) := (WP_at c_Law_law_894 _ _ _ _)
set_option maxRecDepth 100000 in
theorem c_Law_law_896 : mCode j_Law_law 896 = oI 2 897 := (rfl)
theorem e_Law_law_896  : (WP Gm j_Law_law 896 (ls) (st) h Q) = (WP Gm j_Law_law 897 (ls) (.inl 2 :: st) (h) Q) := (WP_at c_Law_law_896 _ _ _ _)
set_option maxRecDepth 100000 in
theorem c_Law_law_897 : mCode j_Law_law 897 = oII (fun x y => x + y) 898 := (rfl)
theorem e_Law_law_897 (x : Int32) (y : Int32) : (WP Gm j_Law_law 897 (ls) (.inl y :: .inl x :: st) h Q) = (WP Gm j_Law_law 898 (ls) (.inl (x + y) :: st) (h) Q) := (WP_at c_Law_law_897 _ _ _ _)
set_option maxRecDepth 100000 in
theorem c_Law_law_898 : mCode j_Law_law 898 = oIal 0 899 := (rfl)
theorem e_Law_law_898 (a : Nat) (i : Int32) (hk : isK h a 100 = true) (hi : inL h a i = true) : (WP Gm j_Law_law 898 (ls) (.inl i :: .inr (.inl (some a)) :: st) h Q) = (WP Gm j_Law_law 899 (ls) (.inl (gI h a i.toNatClampNeg) :: st) (h) Q) := (WP_at c_Law_law_898 _ _ _ _).trans (congrArg (fun o => ndX Gm (WP Gm) j_Law_law 898 o Q) (if_pos (by rw [hk, hi]; rfl)))
set_option maxRecDepth 100000 in
theorem c_Law_law_899 : mCode j_Law_law 899 = oAld 0 900 := (rfl)
theorem e_Law_law_899 (x : Option Nat) : (WP Gm j_Law_law 899 (some (.inr (.inl x)) :: ls) (st) h Q) = (WP Gm j_Law_law 900 (some (.inr (.inl x)) :: ls) (.inr (.inl x) :: st) (h) Q) := (WP_at c_Law_law_899 _ _ _ _)
set_option maxRecDepth 100000 in
theorem c_Law_law_900 : mCode j_Law_law 900 = oIld 4 902 := (rfl)
theorem e_Law_law_900 (a0 a1 a2 a3 : Option MV) (x : Int32) : (WP Gm j_Law_law 900 (a0 :: a1 :: a2 :: a3 :: some (.inl x) :: ls) (st) h Q) = (WP Gm j_Law_law 902 (a0 :: a1 :: a2 :: a3 :: some (.inl x) :: ls) (.inl x :: st) (h) Q) := (WP_at c_Law_law_900 _ _ _ _)
set_option maxRecDepth 100000 in
theorem c_Law_law_902 : mCode j_Law_law 902 = oI 3 903 := (rfl)
theorem e_Law_law_902  : (WP Gm j_Law_law 902 (ls) (st) h Q) = (WP Gm j_Law_law 903 (ls) (.inl 3 :: st) (h) Q) := (WP_at c_Law_law_902 _ _ _ _)
set_option maxRecDepth 100000 in
theorem c_Law_law_903 : mCode j_Law_law 903 = oII (fun x y => x + y) 904 := (rfl)
theorem e_Law_law_903 (x : Int32) (y : Int32) : (WP Gm j_Law_law 903 (ls) (.inl y :: .inl x :: st) h Q) = (WP Gm j_Law_law 904 (ls) (.inl (x + y) :: st) (h) Q) := (WP_at c_Law_law_903 _ _ _ _)
set_option maxRecDepth 100000 in
theorem c_Law_law_904 : mCode j_Law_law 904 = oIal 0 905 := (rfl)
theorem e_Law_law_904 (a : Nat) (i : Int32) (hk : isK h a 100 = true) (hi : inL h a i = true) : (WP Gm j_Law_law 904 (ls) (.inl i :: .inr (.inl (some a)) :: st) h Q) = (WP Gm j_Law_law 905 (ls) (.inl (gI h a i.toNatClampNeg) :: st) (h) Q) := (WP_at c_Law_law_904 _ _ _ _).trans (congrArg (fun o => ndX Gm (WP Gm) j_Law_law 904 o Q) (if_pos (by rw [hk, hi]; rfl)))
set_option maxRecDepth 100000 in
theorem c_Law_law_905 : mCode j_Law_law 905 = oAld 3 906 := (rfl)
theorem e_Law_law_905 (a0 a1 a2 : Option MV) (x : Option Nat) : (WP Gm j_Law_law 905 (a0 :: a1 :: a2 :: some (.inr (.inl x)) :: ls) (st) h Q) = (WP Gm j_Law_law 906 (a0 :: a1 :: a2 :: some (.inr (.inl x)) :: ls) (.inr (.inl x) :: st) (h) Q) := (WP_at c_Law_law_905 _ _ _ _)
set_option maxRecDepth 100000 in
theorem c_Law_law_906 : mCode j_Law_law 906 = oCallS j_Law_inQueue 5 (mL j_Law_inQueue) 909 := (rfl)
theorem e_Law_law_906 (x0 : Option Nat) (x1 : Int32) (x2 : Int32) (x3 : Int32) (x4 : Option Nat) (hc : c8 st = true) : (WP Gm j_Law_law 906 (ls) (.inr (.inl x4) :: .inl x3 :: .inl x2 :: .inl x1 :: .inr (.inl x0) :: st) h Q) = (WP Gm j_Law_inQueue 0 [some (.inr (.inl x0)), some (.inl x1), some (.inl x2), some (.inl x3), some (.inr (.inl x4)), none] [] h (kC (fun v h2 => WP Gm j_Law_law 909 ls (v.toList ++ st) h2 Q) (fun E h2 => Q (.inr E) h2))) := (WP_at c_Law_law_906 _ _ _ _).trans (congrArg (fun o => ndX Gm (WP Gm) j_Law_law 906 o Q) (if_pos (by rw [show decide (catS st ≤ 8) = true from hc]; rfl)))
set_option maxRecDepth 100000 in
theorem c_Law_law_909 : mCode j_Law_law 909 = oIst 5 911 := (rfl)
theorem e_Law_law_909 (x : Int32) : (WP Gm j_Law_law 909 (ls) (.inl x :: st) h Q) = (WP Gm j_Law_law 911 (lSet1 ls 5 (some (.inl x))) (st) (h) Q) := (WP_at c_Law_law_909 _ _ _ _)
set_option maxRecDepth 100000 in
theorem c_Law_law_911 : mCode j_Law_law 911 = oAld 2 912 := (rfl)
theorem e_Law_law_911 (a0 a1 : Option MV) (x : Option Nat) : (WP Gm j_Law_law 911 (a0 :: a1 :: some (.inr (.inl x)) :: ls) (st) h Q) = (WP Gm j_Law_law 912 (a0 :: a1 :: some (.inr (.inl x)) :: ls) (.inr (.inl x) :: st) (h) Q) := (WP_at c_Law_law_911 _ _ _ _)
set_option maxRecDepth 100000 in
theorem c_Law_law_912 : mCode j_Law_law 912 = oAld 0 913 := (rfl)
theorem e_Law_law_912 (x : Option Nat) : (WP Gm j_Law_law 912 (some (.inr (.inl x)) :: ls) (st) h Q) = (WP Gm j_Law_law 913 (some (.inr (.inl x)) :: ls) (.inr (.inl x) :: st) (h) Q) := (WP_at c_Law_law_912 _ _ _ _)
set_option maxRecDepth 100000 in
theorem c_Law_law_913 : mCode j_Law_law 913 = oIld 4 915 := (rfl)
theorem e_Law_law_913 (a0 a1 a2 a3 : Option MV) (x : Int32) : (WP Gm j_Law_law 913 (a0 :: a1 :: a2 :: a3 :: some (.inl x) :: ls) (st) h Q) = (WP Gm j_Law_law 915 (a0 :: a1 :: a2 :: a3 :: some (.inl x) :: ls) (.inl x :: st) (h) Q) := (WP_at c_Law_law_913 _ _ _ _)
set_option maxRecDepth 100000 in
theorem c_Law_law_915 : mCode j_Law_law 915 = oI 1 916 := (rfl)
theorem e_Law_law_915  : (WP Gm j_Law_law 915 (ls) (st) h Q) = (WP Gm j_Law_law 916 (ls) (.inl 1 :: st) (h) Q) := (WP_at c_Law_law_915 _ _ _ _)
set_option maxRecDepth 100000 in
theorem c_Law_law_916 : mCode j_Law_law 916 = oII (fun x y => x + y) 917 := (rfl)
theorem e_Law_law_916 (x : Int32) (y : Int32) : (WP Gm j_Law_law 916 (ls) (.inl y :: .inl x :: st) h Q) = (WP Gm j_Law_law 917 (ls) (.inl (x + y) :: st) (h) Q) := (WP_at c_Law_law_916 _ _ _ _)
set_option maxRecDepth 100000 in
theorem c_Law_law_917 : mCode j_Law_law 917 = oIal 0 918 := (rfl)
theorem e_Law_law_917 (a : Nat) (i : Int32) (hk : isK h a 100 = true) (hi : inL h a i = true) : (WP Gm j_Law_law 917 (ls) (.inl i :: .inr (.inl (some a)) :: st) h Q) = (WP Gm j_Law_law 918 (ls) (.inl (gI h a i.toNatClampNeg) :: st) (h) Q) := (WP_at c_Law_law_917 _ _ _ _).trans (congrArg (fun o => ndX Gm (WP Gm) j_Law_law 917 o Q) (if_pos (by rw [hk, hi]; rfl)))
set_option maxRecDepth 100000 in
theorem c_Law_law_918 : mCode j_Law_law 918 = oAld 0 919 := (rfl)
theorem e_Law_law_918 (x : Option Nat) : (WP Gm j_Law_law 918 (some (.inr (.inl x)) :: ls) (st) h Q) = (WP Gm j_Law_law 919 (some (.inr (.inl x)) :: ls) (.inr (.inl x) :: st) (h) Q) := (WP_at c_Law_law_918 _ _ _ _)
set_option maxRecDepth 100000 in
theorem c_Law_law_919 : mCode j_Law_law 919 = oIld 4 921 := (rfl)
theorem e_Law_law_919 (a0 a1 a2 a3 : Option MV) (x : Int32) : (WP Gm j_Law_law 919 (a0 :: a1 :: a2 :: a3 :: some (.inl x) :: ls) (st) h Q) = (WP Gm j_Law_law 921 (a0 :: a1 :: a2 :: a3 :: some (.inl x) :: ls) (.inl x :: st) (h) Q) := (WP_at c_Law_law_919 _ _ _ _)
set_option maxRecDepth 100000 in
theorem c_Law_law_921 : mCode j_Law_law 921 = oI 2 922 := (rfl)
theorem e_Law_law_921  : (WP Gm j_Law_law 921 (ls) (st) h Q) = (WP Gm j_Law_law 922 (ls) (.inl 2 :: st) (h) Q) := (WP_at c_Law_law_921 _ _ _ _)
set_option maxRecDepth 100000 in
theorem c_Law_law_922 : mCode j_Law_law 922 = oII (fun x y => x + y) 923 := (rfl)
theorem e_Law_law_922 (x : Int32) (y : Int32) : (WP Gm j_Law_law 922 (ls) (.inl y :: .inl x :: st) h Q) = (WP Gm j_Law_law 923 (ls) (.inl (x + y) :: st) (h) Q) := (WP_at c_Law_law_922 _ _ _ _)
set_option maxRecDepth 100000 in
theorem c_Law_law_923 : mCode j_Law_law 923 = oIal 0 924 := (rfl)
theorem e_Law_law_923 (a : Nat) (i : Int32) (hk : isK h a 100 = true) (hi : inL h a i = true) : (WP Gm j_Law_law 923 (ls) (.inl i :: .inr (.inl (some a)) :: st) h Q) = (WP Gm j_Law_law 924 (ls) (.inl (gI h a i.toNatClampNeg) :: st) (h) Q) := (WP_at c_Law_law_923 _ _ _ _).trans (congrArg (fun o => ndX Gm (WP Gm) j_Law_law 923 o Q) (if_pos (by rw [hk, hi]; rfl)))
set_option maxRecDepth 100000 in
theorem c_Law_law_924 : mCode j_Law_law 924 = oAld 0 925 := (rfl)
theorem e_Law_law_924 (x : Option Nat) : (WP Gm j_Law_law 924 (some (.inr (.inl x)) :: ls) (st) h Q) = (WP Gm j_Law_law 925 (some (.inr (.inl x)) :: ls) (.inr (.inl x) :: st) (h) Q) := (WP_at c_Law_law_924 _ _ _ _)
set_option maxRecDepth 100000 in
theorem c_Law_law_925 : mCode j_Law_law 925 = oIld 4 927 := (rfl)
theorem e_Law_law_925 (a0 a1 a2 a3 : Option MV) (x : Int32) : (WP Gm j_Law_law 925 (a0 :: a1 :: a2 :: a3 :: some (.inl x) :: ls) (st) h Q) = (WP Gm j_Law_law 927 (a0 :: a1 :: a2 :: a3 :: some (.inl x) :: ls) (.inl x :: st) (h) Q) := (WP_at c_Law_law_925 _ _ _ _)
set_option maxRecDepth 100000 in
theorem c_Law_law_927 : mCode j_Law_law 927 = oI 3 928 := (rfl)
theorem e_Law_law_927  : (WP Gm j_Law_law 927 (ls) (st) h Q) = (WP Gm j_Law_law 928 (ls) (.inl 3 :: st) (h) Q) := (WP_at c_Law_law_927 _ _ _ _)
set_option maxRecDepth 100000 in
theorem c_Law_law_928 : mCode j_Law_law 928 = oII (fun x y => x + y) 929 := (rfl)
theorem e_Law_law_928 (x : Int32) (y : Int32) : (WP Gm j_Law_law 928 (ls) (.inl y :: .inl x :: st) h Q) = (WP Gm j_Law_law 929 (ls) (.inl (x + y) :: st) (h) Q) := (WP_at c_Law_law_928 _ _ _ _)
set_option maxRecDepth 100000 in
theorem c_Law_law_929 : mCode j_Law_law 929 = oIal 0 930 := (rfl)
theorem e_Law_law_929 (a : Nat) (i : Int32) (hk : isK h a 100 = true) (hi : inL h a i = true) : (WP Gm j_Law_law 929 (ls) (.inl i :: .inr (.inl (some a)) :: st) h Q) = (WP Gm j_Law_law 930 (ls) (.inl (gI h a i.toNatClampNeg) :: st) (h) Q) := (WP_at c_Law_law_929 _ _ _ _).trans (congrArg (fun o => ndX Gm (WP Gm) j_Law_law 929 o Q) (if_pos (by rw [hk, hi]; rfl)))
set_option maxRecDepth 100000 in
theorem c_Law_law_930 : mCode j_Law_law 930 = oCallV kc_Mdl j_Mdl_inQueue 3 (mL j_Mdl_inQueue) 933 := (rfl)
theorem e_Law_law_930 (a : Nat) (x0 : Int32) (x1 : Int32) (x2 : Int32) (hk : isK h a kc_Mdl = true) (hc : c8 st = true) : (WP Gm j_Law_law 930 (ls) (.inl x2 :: .inl x1 :: .inl x0 :: .inr (.inl (some a)) :: st) h Q) = (WP Gm j_Mdl_inQueue 0 [some (.inr (.inl (some a))), some (.inl x0), some (.inl x1), some (.inl x2)] [] h (kC (fun v h2 => WP Gm j_Law_law 933 ls (v.toList ++ st) h2 Q) (fun E h2 => Q (.inr E) h2))) := (WP_at c_Law_law_930 _ _ _ _).trans (congrArg (fun o => ndX Gm (WP Gm) j_Law_law 930 o Q) (if_pos (by rw [hk, show decide (catS st ≤ 8) = true from hc]; rfl)))
set_option maxRecDepth 100000 in
theorem c_Law_law_933 : mCode j_Law_law 933 = oIst 6 935 := (rfl)
theorem e_Law_law_933 (x : Int32) : (WP Gm j_Law_law 933 (ls) (.inl x :: st) h Q) = (WP Gm j_Law_law 935 (lSet1 ls 6 (some (.inl x))) (st) (h) Q) := (WP_at c_Law_law_933 _ _ _ _)
set_option maxRecDepth 100000 in
theorem c_Law_law_935 : mCode j_Law_law 935 = oAld 2 936 := (rfl)
theorem e_Law_law_935 (a0 a1 : Option MV) (x : Option Nat) : (WP Gm j_Law_law 935 (a0 :: a1 :: some (.inr (.inl x)) :: ls) (st) h Q) = (WP Gm j_Law_law 936 (a0 :: a1 :: some (.inr (.inl x)) :: ls) (.inr (.inl x) :: st) (h) Q) := (WP_at c_Law_law_935 _ _ _ _)
set_option maxRecDepth 100000 in
theorem c_Law_law_936 : mCode j_Law_law 936 = oCallV kc_Mdl j_Mdl_thrown 0 (mL j_Mdl_thrown) 939 := (rfl)
theorem e_Law_law_936 (a : Nat) (hk : isK h a kc_Mdl = true) (hc : c8 st = true) : (WP Gm j_Law_law 936 (ls) (.inr (.inl (some a)) :: st) h Q) = (WP Gm j_Mdl_thrown 0 [some (.inr (.inl (some a)))] [] h (kC (fun v h2 => WP Gm j_Law_law 939 ls (v.toList ++ st) h2 Q) (fun E h2 => Q (.inr E) h2))) := (WP_at c_Law_law_936 _ _ _ _).trans (congrArg (fun o => ndX Gm (WP Gm) j_Law_law 936 o Q) (if_pos (by rw [hk, show decide (catS st ≤ 8) = true from hc]; rfl)))
set_option maxRecDepth 100000 in
theorem c_Law_law_939 : mCode j_Law_law 939 = oIld 5 941 := (rfl)
theorem e_Law_law_939 (a0 a1 a2 a3 a4 : Option MV) (x : Int32) : (WP Gm j_Law_law 939 (a0 :: a1 :: a2 :: a3 :: a4 :: some (.inl x) :: ls) (st) h Q) = (WP Gm j_Law_law 941 (a0 :: a1 :: a2 :: a3 :: a4 :: some (.inl x) :: ls) (.inl x :: st) (h) Q) := (WP_at c_Law_law_939 _ _ _ _)
set_option maxRecDepth 100000 in
theorem c_Law_law_941 : mCode j_Law_law 941 = oIC (fun x y => decide (x = y)) 946 944 := (rfl)
theorem e_Law_law_941 (x y : Int32) : (WP Gm j_Law_law 941 (ls) (.inl y :: .inl x :: st) h Q) = (if x = y then WP Gm j_Law_law 946 (ls) (st) (h) Q else WP Gm j_Law_law 944 (ls) (st) (h) Q) := (WP_at c_Law_law_941 _ _ _ _).trans (nd_ic rfl _ _ _ _)
set_option maxRecDepth 100000 in
theorem c_Law_law_944 : mCode j_Law_law 944 = oI 0 945 := (rfl)
theorem e_Law_law_944  : (WP Gm j_Law_law 944 (ls) (st) h Q) = (WP Gm j_Law_law 945 (ls) (.inl 0 :: st) (h) Q) := (WP_at c_Law_law_944 _ _ _ _)
set_option maxRecDepth 100000 in
theorem c_Law_law_945 : mCode j_Law_law 945 = oRetZ := (rfl)
theorem e_Law_law_945 (x : Int32) (hx : x = 0 ∨ x = 1) : (WP Gm j_Law_law 945 (ls) ([.inl x]) h Q) = (Q (.inl (some (.inl x))) h) := (WP_at c_Law_law_945 _ _ _ _).trans (congrArg (fun o => ndX Gm (WP Gm) j_Law_law 945 o Q) (if_pos (by rcases hx with rfl | rfl <;> rfl)))
set_option maxRecDepth 100000 in
theorem c_Law_law_946 : mCode j_Law_law 946 = oIld 5 948 := (rfl)
theorem e_Law_law_946 (a0 a1 a2 a3 a4 : Option MV) (x : Int32) : (WP Gm j_Law_law 946 (a0 :: a1 :: a2 :: a3 :: a4 :: some (.inl x) :: ls) (st) h Q) = (WP Gm j_Law_law 948 (a0 :: a1 :: a2 :: a3 :: a4 :: some (.inl x) :: ls) (.inl x :: st) (h) Q) := (WP_at c_Law_law_946 _ _ _ _)
set_option maxRecDepth 100000 in
theorem c_Law_law_948 : mCode j_Law_law 948 = oIf (fun x => decide (¬ x = 0)) 964 951 := (rfl)
theorem e_Law_law_948 (x : Int32) : (WP Gm j_Law_law 948 (ls) (.inl x :: st) h Q) = (if ¬ x = 0 then WP Gm j_Law_law 964 (ls) (st) (h) Q else WP Gm j_Law_law 951 (ls) (st) (h) Q) := (WP_at c_Law_law_948 _ _ _ _).trans (nd_if rfl _ _ _ _)
set_option maxRecDepth 100000 in
theorem c_Law_law_951 : mCode j_Law_law 951 = oAld 3 952 := (rfl)
theorem e_Law_law_951 (a0 a1 a2 : Option MV) (x : Option Nat) : (WP Gm j_Law_law 951 (a0 :: a1 :: a2 :: some (.inr (.inl x)) :: ls) (st) h Q) = (WP Gm j_Law_law 952 (a0 :: a1 :: a2 :: some (.inr (.inl x)) :: ls) (.inr (.inl x) :: st) (h) Q) := (WP_at c_Law_law_951 _ _ _ _)
set_option maxRecDepth 100000 in
theorem c_Law_law_952 : mCode j_Law_law 952 = oGetL kc_Out 0 955 := (rfl)
theorem e_Law_law_952 (a : Nat) (hk : isK h a kc_Out = true) : (WP Gm j_Law_law 952 (ls) (.inr (.inl (some a)) :: st) h Q) = (WP Gm j_Law_law 955 (ls) (.inr (.inr (.inl (gL h a 0))) :: st) (h) Q) := (WP_at c_Law_law_952 _ _ _ _).trans (congrArg (fun o => ndX Gm (WP Gm) j_Law_law 952 o Q) (if_pos hk))
set_option maxRecDepth 100000 in
theorem c_Law_law_955 : mCode j_Law_law 955 = oIld 6 957 := (rfl)
theorem e_Law_law_955 (a0 a1 a2 a3 a4 a5 : Option MV) (x : Int32) : (WP Gm j_Law_law 955 (a0 :: a1 :: a2 :: a3 :: a4 :: a5 :: some (.inl x) :: ls) (st) h Q) = (WP Gm j_Law_law 957 (a0 :: a1 :: a2 :: a3 :: a4 :: a5 :: some (.inl x) :: ls) (.inl x :: st) (h) Q) := (WP_at c_Law_law_955 _ _ _ _)
set_option maxRecDepth 100000 in
theorem c_Law_law_957 : mCode j_Law_law 957 = oI2L 958 := (rfl)
theorem e_Law_law_957 (x : Int32) : (WP Gm j_Law_law 957 (ls) (.inl x :: st) h Q) = (WP Gm j_Law_law 958 (ls) (.inr (.inr (.inl x.toInt64)) :: st) (h) Q) := (WP_at c_Law_law_957 _ _ _ _)
set_option maxRecDepth 100000 in
theorem c_Law_law_958 : mCode j_Law_law 958 = oLcmp 959 := (rfl)
theorem e_Law_law_958 (x y : Int64) : (WP Gm j_Law_law 958 (ls) (.inr (.inr (.inl y)) :: .inr (.inr (.inl x)) :: st) h Q) = (WP Gm j_Law_law 959 (ls) (.inl (lg_cmp x y) :: st) (h) Q) := (WP_at c_Law_law_958 _ _ _ _)
set_option maxRecDepth 100000 in
theorem c_Law_law_959 : mCode j_Law_law 959 = oIf (fun x => decide (x = 0)) 964 962 := (rfl)
theorem e_Law_law_959 (x : Int32) : (WP Gm j_Law_law 959 (ls) (.inl x :: st) h Q) = (if x = 0 then WP Gm j_Law_law 964 (ls) (st) (h) Q else WP Gm j_Law_law 962 (ls) (st) (h) Q) := (WP_at c_Law_law_959 _ _ _ _).trans (nd_if rfl _ _ _ _)
set_option maxRecDepth 100000 in
theorem c_Law_law_962 : mCode j_Law_law 962 = oI 0 963 := (rfl)
theorem e_Law_law_962  : (WP Gm j_Law_law 962 (ls) (st) h Q) = (WP Gm j_Law_law 963 (ls) (.inl 0 :: st) (h) Q) := (WP_at c_Law_law_962 _ _ _ _)
set_option maxRecDepth 100000 in
theorem c_Law_law_963 : mCode j_Law_law 963 = oRetZ := (rfl)
theorem e_Law_law_963 (x : Int32) (hx : x = 0 ∨ x = 1) : (WP Gm j_Law_law 963 (ls) ([.inl x]) h Q) = (Q (.inl (some (.inl x))) h) := (WP_at c_Law_law_963 _ _ _ _).trans (congrArg (fun o => ndX Gm (WP Gm) j_Law_law 963 o Q) (if_pos (by rcases hx with rfl | rfl <;> rfl)))
set_option maxRecDepth 100000 in
theorem c_Law_law_964 : mCode j_Law_law 964 = oGo 1549 := (rfl)
theorem e_Law_law_964  : (WP Gm j_Law_law 964 (ls) (st) h Q) = (WP Gm j_Law_law 1549 (ls) (st) (h) Q) := (WP_at c_Law_law_964 _ _ _ _)
set_option maxRecDepth 100000 in
theorem c_Law_law_967 : mCode j_Law_law 967 = oAld 1 968 := (rfl)
theorem e_Law_law_967 (a0 : Option MV) (x : Option Nat) : (WP Gm j_Law_law 967 (a0 :: some (.inr (.inl x)) :: ls) (st) h Q) = (WP Gm j_Law_law 968 (a0 :: some (.inr (.inl x)) :: ls) (.inr (.inl x) :: st) (h) Q) := (WP_at c_Law_law_967 _ _ _ _)
set_option maxRecDepth 100000 in
theorem c_Law_law_968 : mCode j_Law_law 968 = oAld 0 969 := (rfl)
theorem e_Law_law_968 (x : Option Nat) : (WP Gm j_Law_law 968 (some (.inr (.inl x)) :: ls) (st) h Q) = (WP Gm j_Law_law 969 (some (.inr (.inl x)) :: ls) (.inr (.inl x) :: st) (h) Q) := (WP_at c_Law_law_968 _ _ _ _)
set_option maxRecDepth 100000 in
theorem c_Law_law_969 : mCode j_Law_law 969 = oIld 4 971 := (rfl)
theorem e_Law_law_969 (a0 a1 a2 a3 : Option MV) (x : Int32) : (WP Gm j_Law_law 969 (a0 :: a1 :: a2 :: a3 :: some (.inl x) :: ls) (st) h Q) = (WP Gm j_Law_law 971 (a0 :: a1 :: a2 :: a3 :: some (.inl x) :: ls) (.inl x :: st) (h) Q) := (WP_at c_Law_law_969 _ _ _ _)
set_option maxRecDepth 100000 in
theorem c_Law_law_971 : mCode j_Law_law 971 = oI 1 972 := (rfl)
theorem e_Law_law_971  : (WP Gm j_Law_law 971 (ls) (st) h Q) = (WP Gm j_Law_law 972 (ls) (.inl 1 :: st) (h) Q) := (WP_at c_Law_law_971 _ _ _ _)
set_option maxRecDepth 100000 in
theorem c_Law_law_972 : mCode j_Law_law 972 = oII (fun x y => x + y) 973 := (rfl)
theorem e_Law_law_972 (x : Int32) (y : Int32) : (WP Gm j_Law_law 972 (ls) (.inl y :: .inl x :: st) h Q) = (WP Gm j_Law_law 973 (ls) (.inl (x + y) :: st) (h) Q) := (WP_at c_Law_law_972 _ _ _ _)
set_option maxRecDepth 100000 in
theorem c_Law_law_973 : mCode j_Law_law 973 = oIal 0 974 := (rfl)
theorem e_Law_law_973 (a : Nat) (i : Int32) (hk : isK h a 100 = true) (hi : inL h a i = true) : (WP Gm j_Law_law 973 (ls) (.inl i :: .inr (.inl (some a)) :: st) h Q) = (WP Gm j_Law_law 974 (ls) (.inl (gI h a i.toNatClampNeg) :: st) (h) Q) := (WP_at c_Law_law_973 _ _ _ _).trans (congrArg (fun o => ndX Gm (WP Gm) j_Law_law 973 o Q) (if_pos (by rw [hk, hi]; rfl)))
set_option maxRecDepth 100000 in
theorem c_Law_law_974 : mCode j_Law_law 974 = oAld 0 975 := (rfl)
theorem e_Law_law_974 (x : Option Nat) : (WP Gm j_Law_law 974 (some (.inr (.inl x)) :: ls) (st) h Q) = (WP Gm j_Law_law 975 (some (.inr (.inl x)) :: ls) (.inr (.inl x) :: st) (h) Q) := (WP_at c_Law_law_974 _ _ _ _)
set_option maxRecDepth 100000 in
theorem c_Law_law_975 : mCode j_Law_law 975 = oIld 4 977 := (rfl)
theorem e_Law_law_975 (a0 a1 a2 a3 : Option MV) (x : Int32) : (WP Gm j_Law_law 975 (a0 :: a1 :: a2 :: a3 :: some (.inl x) :: ls) (st) h Q) = (WP Gm j_Law_law 977 (a0 :: a1 :: a2 :: a3 :: some (.inl x) :: ls) (.inl x :: st) (h) Q) := (WP_at c_Law_law_975 _ _ _ _)
set_option maxRecDepth 100000 in
theorem c_Law_law_977 : mCode j_Law_law 977 = oI 2 978 := (rfl)
theorem e_Law_law_977  : (WP Gm j_Law_law 977 (ls) (st) h Q) = (WP Gm j_Law_law 978 (ls) (.inl 2 :: st) (h) Q) := (WP_at c_Law_law_977 _ _ _ _)
set_option maxRecDepth 100000 in
theorem c_Law_law_978 : mCode j_Law_law 978 = oII (fun x y => x + y) 979 := (rfl)
theorem e_Law_law_978 (x : Int32) (y : Int32) : (WP Gm j_Law_law 978 (ls) (.inl y :: .inl x :: st) h Q) = (WP Gm j_Law_law 979 (ls) (.inl (x + y) :: st) (h) Q) := (WP_at c_Law_law_978 _ _ _ _)
set_option maxRecDepth 100000 in
theorem c_Law_law_979 : mCode j_Law_law 979 = oIal 0 980 := (rfl)
theorem e_Law_law_979 (a : Nat) (i : Int32) (hk : isK h a 100 = true) (hi : inL h a i = true) : (WP Gm j_Law_law 979 (ls) (.inl i :: .inr (.inl (some a)) :: st) h Q) = (WP Gm j_Law_law 980 (ls) (.inl (gI h a i.toNatClampNeg) :: st) (h) Q) := (WP_at c_Law_law_979 _ _ _ _).trans (congrArg (fun o => ndX Gm (WP Gm) j_Law_law 979 o Q) (if_pos (by rw [hk, hi]; rfl)))
set_option maxRecDepth 100000 in
theorem c_Law_law_980 : mCode j_Law_law 980 = oAld 0 981 := (rfl)
theorem e_Law_law_980 (x : Option Nat) : (WP Gm j_Law_law 980 (some (.inr (.inl x)) :: ls) (st) h Q) = (WP Gm j_Law_law 981 (some (.inr (.inl x)) :: ls) (.inr (.inl x) :: st) (h) Q) := (WP_at c_Law_law_980 _ _ _ _)
set_option maxRecDepth 100000 in
theorem c_Law_law_981 : mCode j_Law_law 981 = oIld 4 983 := (rfl)
theorem e_Law_law_981 (a0 a1 a2 a3 : Option MV) (x : Int32) : (WP Gm j_Law_law 981 (a0 :: a1 :: a2 :: a3 :: some (.inl x) :: ls) (st) h Q) = (WP Gm j_Law_law 983 (a0 :: a1 :: a2 :: a3 :: some (.inl x) :: ls) (.inl x :: st) (h) Q) := (WP_at c_Law_law_981 _ _ _ _)
set_option maxRecDepth 100000 in
theorem c_Law_law_983 : mCode j_Law_law 983 = oI 3 984 := (rfl)
theorem e_Law_law_983  : (WP Gm j_Law_law 983 (ls) (st) h Q) = (WP Gm j_Law_law 984 (ls) (.inl 3 :: st) (h) Q) := (WP_at c_Law_law_983 _ _ _ _)
set_option maxRecDepth 100000 in
theorem c_Law_law_984 : mCode j_Law_law 984 = oII (fun x y => x + y) 985 := (rfl)
theorem e_Law_law_984 (x : Int32) (y : Int32) : (WP Gm j_Law_law 984 (ls) (.inl y :: .inl x :: st) h Q) = (WP Gm j_Law_law 985 (ls) (.inl (x + y) :: st) (h) Q) := (WP_at c_Law_law_984 _ _ _ _)
set_option maxRecDepth 100000 in
theorem c_Law_law_985 : mCode j_Law_law 985 = oIal 0 986 := (rfl)
theorem e_Law_law_985 (a : Nat) (i : Int32) (hk : isK h a 100 = true) (hi : inL h a i = true) : (WP Gm j_Law_law 985 (ls) (.inl i :: .inr (.inl (some a)) :: st) h Q) = (WP Gm j_Law_law 986 (ls) (.inl (gI h a i.toNatClampNeg) :: st) (h) Q) := (WP_at c_Law_law_985 _ _ _ _).trans (congrArg (fun o => ndX Gm (WP Gm) j_Law_law 985 o Q) (if_pos (by rw [hk, hi]; rfl)))
set_option maxRecDepth 100000 in
theorem c_Law_law_986 : mCode j_Law_law 986 = oAld 3 987 := (rfl)
theorem e_Law_law_986 (a0 a1 a2 : Option MV) (x : Option Nat) : (WP Gm j_Law_law 986 (a0 :: a1 :: a2 :: some (.inr (.inl x)) :: ls) (st) h Q) = (WP Gm j_Law_law 987 (a0 :: a1 :: a2 :: some (.inr (.inl x)) :: ls) (.inr (.inl x) :: st) (h) Q) := (WP_at c_Law_law_986 _ _ _ _)
set_option maxRecDepth 100000 in
theorem c_Law_law_987 : mCode j_Law_law 987 = oCallS j_Law_route 5 (mL j_Law_route) 990 := (rfl)
theorem e_Law_law_987 (x0 : Option Nat) (x1 : Int32) (x2 : Int32) (x3 : Int32) (x4 : Option Nat) (hc : c8 st = true) : (WP Gm j_Law_law 987 (ls) (.inr (.inl x4) :: .inl x3 :: .inl x2 :: .inl x1 :: .inr (.inl x0) :: st) h Q) = (WP Gm j_Law_route 0 [some (.inr (.inl x0)), some (.inl x1), some (.inl x2), some (.inl x3), some (.inr (.inl x4)), none] [] h (kC (fun v h2 => WP Gm j_Law_law 990 ls (v.toList ++ st) h2 Q) (fun E h2 => Q (.inr E) h2))) := (WP_at c_Law_law_987 _ _ _ _).trans (congrArg (fun o => ndX Gm (WP Gm) j_Law_law 987 o Q) (if_pos (by rw [show decide (catS st ≤ 8) = true from hc]; rfl)))
set_option maxRecDepth 100000 in
theorem c_Law_law_990 : mCode j_Law_law 990 = oIst 5 992 := (rfl)
theorem e_Law_law_990 (x : Int32) : (WP Gm j_Law_law 990 (ls) (.inl x :: st) h Q) = (WP Gm j_Law_law 992 (lSet1 ls 5 (some (.inl x))) (st) (h) Q) := (WP_at c_Law_law_990 _ _ _ _)
set_option maxRecDepth 100000 in
theorem c_Law_law_992 : mCode j_Law_law 992 = oAld 2 993 := (rfl)
theorem e_Law_law_992 (a0 a1 : Option MV) (x : Option Nat) : (WP Gm j_Law_law 992 (a0 :: a1 :: some (.inr (.inl x)) :: ls) (st) h Q) = (WP Gm j_Law_law 993 (a0 :: a1 :: some (.inr (.inl x)) :: ls) (.inr (.inl x) :: st) (h) Q) := (WP_at c_Law_law_992 _ _ _ _)
set_option maxRecDepth 100000 in
theorem c_Law_law_993 : mCode j_Law_law 993 = oAld 0 994 := (rfl)
theorem e_Law_law_993 (x : Option Nat) : (WP Gm j_Law_law 993 (some (.inr (.inl x)) :: ls) (st) h Q) = (WP Gm j_Law_law 994 (some (.inr (.inl x)) :: ls) (.inr (.inl x) :: st) (h) Q) := (WP_at c_Law_law_993 _ _ _ _)
set_option maxRecDepth 100000 in
theorem c_Law_law_994 : mCode j_Law_law 994 = oIld 4 996 := (rfl)
theorem e_Law_law_994 (a0 a1 a2 a3 : Option MV) (x : Int32) : (WP Gm j_Law_law 994 (a0 :: a1 :: a2 :: a3 :: some (.inl x) :: ls) (st) h Q) = (WP Gm j_Law_law 996 (a0 :: a1 :: a2 :: a3 :: some (.inl x) :: ls) (.inl x :: st) (h) Q) := (WP_at c_Law_law_994 _ _ _ _)
set_option maxRecDepth 100000 in
theorem c_Law_law_996 : mCode j_Law_law 996 = oI 1 997 := (rfl)
theorem e_Law_law_996  : (WP Gm j_Law_law 996 (ls) (st) h Q) = (WP Gm j_Law_law 997 (ls) (.inl 1 :: st) (h) Q) := (WP_at c_Law_law_996 _ _ _ _)
set_option maxRecDepth 100000 in
theorem c_Law_law_997 : mCode j_Law_law 997 = oII (fun x y => x + y) 998 := (rfl)
theorem e_Law_law_997 (x : Int32) (y : Int32) : (WP Gm j_Law_law 997 (ls) (.inl y :: .inl x :: st) h Q) = (WP Gm j_Law_law 998 (ls) (.inl (x + y) :: st) (h) Q) := (WP_at c_Law_law_997 _ _ _ _)
set_option maxRecDepth 100000 in
theorem c_Law_law_998 : mCode j_Law_law 998 = oIal 0 999 := (rfl)
theorem e_Law_law_998 (a : Nat) (i : Int32) (hk : isK h a 100 = true) (hi : inL h a i = true) : (WP Gm j_Law_law 998 (ls) (.inl i :: .inr (.inl (some a)) :: st) h Q) = (WP Gm j_Law_law 999 (ls) (.inl (gI h a i.toNatClampNeg) :: st) (h) Q) := (WP_at c_Law_law_998 _ _ _ _).trans (congrArg (fun o => ndX Gm (WP Gm) j_Law_law 998 o Q) (if_pos (by rw [hk, hi]; rfl)))
set_option maxRecDepth 100000 in
theorem c_Law_law_999 : mCode j_Law_law 999 = oAld 0 1000 := (rfl)
theorem e_Law_law_999 (x : Option Nat) : (WP Gm j_Law_law 999 (some (.inr (.inl x)) :: ls) (st) h Q) = (WP Gm j_Law_law 1000 (some (.inr (.inl x)) :: ls) (.inr (.inl x) :: st) (h) Q) := (WP_at c_Law_law_999 _ _ _ _)
set_option maxRecDepth 100000 in
theorem c_Law_law_1000 : mCode j_Law_law 1000 = oIld 4 1002 := (rfl)
theorem e_Law_law_1000 (a0 a1 a2 a3 : Option MV) (x : Int32) : (WP Gm j_Law_law 1000 (a0 :: a1 :: a2 :: a3 :: some (.inl x) :: ls) (st) h Q) = (WP Gm j_Law_law 1002 (a0 :: a1 :: a2 :: a3 :: some (.inl x) :: ls) (.inl x :: st) (h) Q) := (WP_at c_Law_law_1000 _ _ _ _)
set_option maxRecDepth 100000 in
theorem c_Law_law_1002 : mCode j_Law_law 1002 = oI 2 1003 := (rfl)
theorem e_Law_law_1002  : (WP Gm j_Law_law 1002 (ls) (st) h Q) = (WP Gm j_Law_law 1003 (ls) (.inl 2 :: st) (h) Q) := (WP_at c_Law_law_1002 _ _ _ _)
set_option maxRecDepth 100000 in
theorem c_Law_law_1003 : mCode j_Law_law 1003 = oII (fun x y => x + y) 1004 := (rfl)
theorem e_Law_law_1003 (x : Int32) (y : Int32) : (WP Gm j_Law_law 1003 (ls) (.inl y :: .inl x :: st) h Q) = (WP Gm j_Law_law 1004 (ls) (.inl (x + y) :: st) (h) Q) := (WP_at c_Law_law_1003 _ _ _ _)
set_option maxRecDepth 100000 in
theorem c_Law_law_1004 : mCode j_Law_law 1004 = oIal 0 1005 := (rfl)
theorem e_Law_law_1004 (a : Nat) (i : Int32) (hk : isK h a 100 = true) (hi : inL h a i = true) : (WP Gm j_Law_law 1004 (ls) (.inl i :: .inr (.inl (some a)) :: st) h Q) = (WP Gm j_Law_law 1005 (ls) (.inl (gI h a i.toNatClampNeg) :: st) (h) Q) := (WP_at c_Law_law_1004 _ _ _ _).trans (congrArg (fun o => ndX Gm (WP Gm) j_Law_law 1004 o Q) (if_pos (by rw [hk, hi]; rfl)))
set_option maxRecDepth 100000 in
theorem c_Law_law_1005 : mCode j_Law_law 1005 = oAld 0 1006 := (rfl)
theorem e_Law_law_1005 (x : Option Nat) : (WP Gm j_Law_law 1005 (some (.inr (.inl x)) :: ls) (st) h Q) = (WP Gm j_Law_law 1006 (some (.inr (.inl x)) :: ls) (.inr (.inl x) :: st) (h) Q) := (WP_at c_Law_law_1005 _ _ _ _)
set_option maxRecDepth 100000 in
theorem c_Law_law_1006 : mCode j_Law_law 1006 = oIld 4 1008 := (rfl)
theorem e_Law_law_1006 (a0 a1 a2 a3 : Option MV) (x : Int32) : (WP Gm j_Law_law 1006 (a0 :: a1 :: a2 :: a3 :: some (.inl x) :: ls) (st) h Q) = (WP Gm j_Law_law 1008 (a0 :: a1 :: a2 :: a3 :: some (.inl x) :: ls) (.inl x :: st) (h) Q) := (WP_at c_Law_law_1006 _ _ _ _)
set_option maxRecDepth 100000 in
theorem c_Law_law_1008 : mCode j_Law_law 1008 = oI 3 1009 := (rfl)
theorem e_Law_law_1008  : (WP Gm j_Law_law 1008 (ls) (st) h Q) = (WP Gm j_Law_law 1009 (ls) (.inl 3 :: st) (h) Q) := (WP_at c_Law_law_1008 _ _ _ _)
set_option maxRecDepth 100000 in
theorem c_Law_law_1009 : mCode j_Law_law 1009 = oII (fun x y => x + y) 1010 := (rfl)
theorem e_Law_law_1009 (x : Int32) (y : Int32) : (WP Gm j_Law_law 1009 (ls) (.inl y :: .inl x :: st) h Q) = (WP Gm j_Law_law 1010 (ls) (.inl (x + y) :: st) (h) Q) := (WP_at c_Law_law_1009 _ _ _ _)
set_option maxRecDepth 100000 in
theorem c_Law_law_1010 : mCode j_Law_law 1010 = oIal 0 1011 := (rfl)
theorem e_Law_law_1010 (a : Nat) (i : Int32) (hk : isK h a 100 = true) (hi : inL h a i = true) : (WP Gm j_Law_law 1010 (ls) (.inl i :: .inr (.inl (some a)) :: st) h Q) = (WP Gm j_Law_law 1011 (ls) (.inl (gI h a i.toNatClampNeg) :: st) (h) Q) := (WP_at c_Law_law_1010 _ _ _ _).trans (congrArg (fun o => ndX Gm (WP Gm) j_Law_law 1010 o Q) (if_pos (by rw [hk, hi]; rfl)))
set_option maxRecDepth 100000 in
theorem c_Law_law_1011 : mCode j_Law_law 1011 = oCallV kc_Mdl j_Mdl_route 3 (mL j_Mdl_route) 1014 := (rfl)
theorem e_Law_law_1011 (a : Nat) (x0 : Int32) (x1 : Int32) (x2 : Int32) (hk : isK h a kc_Mdl = true) (hc : c8 st = true) : (WP Gm j_Law_law 1011 (ls) (.inl x2 :: .inl x1 :: .inl x0 :: .inr (.inl (some a)) :: st) h Q) = (WP Gm j_Mdl_route 0 [some (.inr (.inl (some a))), some (.inl x0), some (.inl x1), some (.inl x2)] [] h (kC (fun v h2 => WP Gm j_Law_law 1014 ls (v.toList ++ st) h2 Q) (fun E h2 => Q (.inr E) h2))) := (WP_at c_Law_law_1011 _ _ _ _).trans (congrArg (fun o => ndX Gm (WP Gm) j_Law_law 1011 o Q) (if_pos (by rw [hk, show decide (catS st ≤ 8) = true from hc]; rfl)))
set_option maxRecDepth 100000 in
theorem c_Law_law_1014 : mCode j_Law_law 1014 = oIst 6 1016 := (rfl)
theorem e_Law_law_1014 (x : Int32) : (WP Gm j_Law_law 1014 (ls) (.inl x :: st) h Q) = (WP Gm j_Law_law 1016 (lSet1 ls 6 (some (.inl x))) (st) (h) Q) := (WP_at c_Law_law_1014 _ _ _ _)
set_option maxRecDepth 100000 in
theorem c_Law_law_1016 : mCode j_Law_law 1016 = oAld 2 1017 := (rfl)
theorem e_Law_law_1016 (a0 a1 : Option MV) (x : Option Nat) : (WP Gm j_Law_law 1016 (a0 :: a1 :: some (.inr (.inl x)) :: ls) (st) h Q) = (WP Gm j_Law_law 1017 (a0 :: a1 :: some (.inr (.inl x)) :: ls) (.inr (.inl x) :: st) (h) Q) := (WP_at c_Law_law_1016 _ _ _ _)
set_option maxRecDepth 100000 in
theorem c_Law_law_1017 : mCode j_Law_law 1017 = oCallV kc_Mdl j_Mdl_thrown 0 (mL j_Mdl_thrown) 1020 := (rfl)
theorem e_Law_law_1017 (a : Nat) (hk : isK h a kc_Mdl = true) (hc : c8 st = true) : (WP Gm j_Law_law 1017 (ls) (.inr (.inl (some a)) :: st) h Q) = (WP Gm j_Mdl_thrown 0 [some (.inr (.inl (some a)))] [] h (kC (fun v h2 => WP Gm j_Law_law 1020 ls (v.toList ++ st) h2 Q) (fun E h2 => Q (.inr E) h2))) := (WP_at c_Law_law_1017 _ _ _ _).trans (congrArg (fun o => ndX Gm (WP Gm) j_Law_law 1017 o Q) (if_pos (by rw [hk, show decide (catS st ≤ 8) = true from hc]; rfl)))
set_option maxRecDepth 100000 in
theorem c_Law_law_1020 : mCode j_Law_law 1020 = oIld 5 1022 := (rfl)
theorem e_Law_law_1020 (a0 a1 a2 a3 a4 : Option MV) (x : Int32) : (WP Gm j_Law_law 1020 (a0 :: a1 :: a2 :: a3 :: a4 :: some (.inl x) :: ls) (st) h Q) = (WP Gm j_Law_law 1022 (a0 :: a1 :: a2 :: a3 :: a4 :: some (.inl x) :: ls) (.inl x :: st) (h) Q) := (WP_at c_Law_law_1020 _ _ _ _)
set_option maxRecDepth 100000 in
theorem c_Law_law_1022 : mCode j_Law_law 1022 = oIC (fun x y => decide (x = y)) 1027 1025 := (rfl)
theorem e_Law_law_1022 (x y : Int32) : (WP Gm j_Law_law 1022 (ls) (.inl y :: .inl x :: st) h Q) = (if x = y then WP Gm j_Law_law 1027 (ls) (st) (h) Q else WP Gm j_Law_law 1025 (ls) (st) (h) Q) := (WP_at c_Law_law_1022 _ _ _ _).trans (nd_ic rfl _ _ _ _)
set_option maxRecDepth 100000 in
theorem c_Law_law_1025 : mCode j_Law_law 1025 = oI 0 1026 := (rfl)
theorem e_Law_law_1025  : (WP Gm j_Law_law 1025 (ls) (st) h Q) = (WP Gm j_Law_law 1026 (ls) (.inl 0 :: st) (h) Q) := (WP_at c_Law_law_1025 _ _ _ _)
set_option maxRecDepth 100000 in
theorem c_Law_law_1026 : mCode j_Law_law 1026 = oRetZ := (rfl)
theorem e_Law_law_1026 (x : Int32) (hx : x = 0 ∨ x = 1) : (WP Gm j_Law_law 1026 (ls) ([.inl x]) h Q) = (Q (.inl (some (.inl x))) h) := (WP_at c_Law_law_1026 _ _ _ _).trans (congrArg (fun o => ndX Gm (WP Gm) j_Law_law 1026 o Q) (if_pos (by rcases hx with rfl | rfl <;> rfl)))
set_option maxRecDepth 100000 in
theorem c_Law_law_1027 : mCode j_Law_law 1027 = oIld 5 1029 := (rfl)
theorem e_Law_law_1027 (a0 a1 a2 a3 a4 : Option MV) (x : Int32) : (WP Gm j_Law_law 1027 (a0 :: a1 :: a2 :: a3 :: a4 :: some (.inl x) :: ls) (st) h Q) = (WP Gm j_Law_law 1029 (a0 :: a1 :: a2 :: a3 :: a4 :: some (.inl x) :: ls) (.inl x :: st) (h) Q) := (WP_at c_Law_law_1027 _ _ _ _)
set_option maxRecDepth 100000 in
theorem c_Law_law_1029 : mCode j_Law_law 1029 = oIf (fun x => decide (¬ x = 0)) 1045 1032 := (rfl)
theorem e_Law_law_1029 (x : Int32) : (WP Gm j_Law_law 1029 (ls) (.inl x :: st) h Q) = (if ¬ x = 0 then WP Gm j_Law_law 1045 (ls) (st) (h) Q else WP Gm j_Law_law 1032 (ls) (st) (h) Q) := (WP_at c_Law_law_1029 _ _ _ _).trans (nd_if rfl _ _ _ _)
set_option maxRecDepth 100000 in
theorem c_Law_law_1032 : mCode j_Law_law 1032 = oAld 3 1033 := (rfl)
theorem e_Law_law_1032 (a0 a1 a2 : Option MV) (x : Option Nat) : (WP Gm j_Law_law 1032 (a0 :: a1 :: a2 :: some (.inr (.inl x)) :: ls) (st) h Q) = (WP Gm j_Law_law 1033 (a0 :: a1 :: a2 :: some (.inr (.inl x)) :: ls) (.inr (.inl x) :: st) (h) Q) := (WP_at c_Law_law_1032 _ _ _ _)
set_option maxRecDepth 100000 in
theorem c_Law_law_1033 : mCode j_Law_law 1033 = oGetL kc_Out 0 1036 := (rfl)
theorem e_Law_law_1033 (a : Nat) (hk : isK h a kc_Out = true) : (WP Gm j_Law_law 1033 (ls) (.inr (.inl (some a)) :: st) h Q) = (WP Gm j_Law_law 1036 (ls) (.inr (.inr (.inl (gL h a 0))) :: st) (h) Q) := (WP_at c_Law_law_1033 _ _ _ _).trans (congrArg (fun o => ndX Gm (WP Gm) j_Law_law 1033 o Q) (if_pos hk))
set_option maxRecDepth 100000 in
theorem c_Law_law_1036 : mCode j_Law_law 1036 = oIld 6 1038 := (rfl)
theorem e_Law_law_1036 (a0 a1 a2 a3 a4 a5 : Option MV) (x : Int32) : (WP Gm j_Law_law 1036 (a0 :: a1 :: a2 :: a3 :: a4 :: a5 :: some (.inl x) :: ls) (st) h Q) = (WP Gm j_Law_law 1038 (a0 :: a1 :: a2 :: a3 :: a4 :: a5 :: some (.inl x) :: ls) (.inl x :: st) (h) Q) := (WP_at c_Law_law_1036 _ _ _ _)
set_option maxRecDepth 100000 in
theorem c_Law_law_1038 : mCode j_Law_law 1038 = oI2L 1039 := (rfl)
theorem e_Law_law_1038 (x : Int32) : (WP Gm j_Law_law 1038 (ls) (.inl x :: st) h Q) = (WP Gm j_Law_law 1039 (ls) (.inr (.inr (.inl x.toInt64)) :: st) (h) Q) := (WP_at c_Law_law_1038 _ _ _ _)
set_option maxRecDepth 100000 in
theorem c_Law_law_1039 : mCode j_Law_law 1039 = oLcmp 1040 := (rfl)
theorem e_Law_law_1039 (x y : Int64) : (WP Gm j_Law_law 1039 (ls) (.inr (.inr (.inl y)) :: .inr (.inr (.inl x)) :: st) h Q) = (WP Gm j_Law_law 1040 (ls) (.inl (lg_cmp x y) :: st) (h) Q) := (WP_at c_Law_law_1039 _ _ _ _)
set_option maxRecDepth 100000 in
theorem c_Law_law_1040 : mCode j_Law_law 1040 = oIf (fun x => decide (x = 0)) 1045 1043 := (rfl)
theorem e_Law_law_1040 (x : Int32) : (WP Gm j_Law_law 1040 (ls) (.inl x :: st) h Q) = (if x = 0 then WP Gm j_Law_law 1045 (ls) (st) (h) Q else WP Gm j_Law_law 1043 (ls) (st) (h) Q) := (WP_at c_Law_law_1040 _ _ _ _).trans (nd_if rfl _ _ _ _)
set_option maxRecDepth 100000 in
theorem c_Law_law_1043 : mCode j_Law_law 1043 = oI 0 1044 := (rfl)
theorem e_Law_law_1043  : (WP Gm j_Law_law 1043 (ls) (st) h Q) = (WP Gm j_Law_law 1044 (ls) (.inl 0 :: st) (h) Q) := (WP_at c_Law_law_1043 _ _ _ _)
set_option maxRecDepth 100000 in
theorem c_Law_law_1044 : mCode j_Law_law 1044 = oRetZ := (rfl)
theorem e_Law_law_1044 (x : Int32) (hx : x = 0 ∨ x = 1) : (WP Gm j_Law_law 1044 (ls) ([.inl x]) h Q) = (Q (.inl (some (.inl x))) h) := (WP_at c_Law_law_1044 _ _ _ _).trans (congrArg (fun o => ndX Gm (WP Gm) j_Law_law 1044 o Q) (if_pos (by rcases hx with rfl | rfl <;> rfl)))
set_option maxRecDepth 100000 in
theorem c_Law_law_1045 : mCode j_Law_law 1045 = oGo 1549 := (rfl)
theorem e_Law_law_1045  : (WP Gm j_Law_law 1045 (ls) (st) h Q) = (WP Gm j_Law_law 1549 (ls) (st) (h) Q) := (WP_at c_Law_law_1045 _ _ _ _)
set_option maxRecDepth 100000 in
theorem c_Law_law_1048 : mCode j_Law_law 1048 = oAld 1 1049 := (rfl)
theorem e_Law_law_1048 (a0 : Option MV) (x : Option Nat) : (WP Gm j_Law_law 1048 (a0 :: some (.inr (.inl x)) :: ls) (st) h Q) = (WP Gm j_Law_law 1049 (a0 :: some (.inr (.inl x)) :: ls) (.inr (.inl x) :: st) (h) Q) := (WP_at c_Law_law_1048 _ _ _ _)
set_option maxRecDepth 100000 in
theorem c_Law_law_1049 : mCode j_Law_law 1049 = oAld 0 1050 := (rfl)
theorem e_Law_law_1049 (x : Option Nat) : (WP Gm j_Law_law 1049 (some (.inr (.inl x)) :: ls) (st) h Q) = (WP Gm j_Law_law 1050 (some (.inr (.inl x)) :: ls) (.inr (.inl x) :: st) (h) Q) := (WP_at c_Law_law_1049 _ _ _ _)
set_option maxRecDepth 100000 in
theorem c_Law_law_1050 : mCode j_Law_law 1050 = oIld 4 1052 := (rfl)
theorem e_Law_law_1050 (a0 a1 a2 a3 : Option MV) (x : Int32) : (WP Gm j_Law_law 1050 (a0 :: a1 :: a2 :: a3 :: some (.inl x) :: ls) (st) h Q) = (WP Gm j_Law_law 1052 (a0 :: a1 :: a2 :: a3 :: some (.inl x) :: ls) (.inl x :: st) (h) Q) := (WP_at c_Law_law_1050 _ _ _ _)
set_option maxRecDepth 100000 in
theorem c_Law_law_1052 : mCode j_Law_law 1052 = oI 1 1053 := (rfl)
theorem e_Law_law_1052  : (WP Gm j_Law_law 1052 (ls) (st) h Q) = (WP Gm j_Law_law 1053 (ls) (.inl 1 :: st) (h) Q) := (WP_at c_Law_law_1052 _ _ _ _)
set_option maxRecDepth 100000 in
theorem c_Law_law_1053 : mCode j_Law_law 1053 = oII (fun x y => x + y) 1054 := (rfl)
theorem e_Law_law_1053 (x : Int32) (y : Int32) : (WP Gm j_Law_law 1053 (ls) (.inl y :: .inl x :: st) h Q) = (WP Gm j_Law_law 1054 (ls) (.inl (x + y) :: st) (h) Q) := (WP_at c_Law_law_1053 _ _ _ _)
set_option maxRecDepth 100000 in
theorem c_Law_law_1054 : mCode j_Law_law 1054 = oIal 0 1055 := (rfl)
theorem e_Law_law_1054 (a : Nat) (i : Int32) (hk : isK h a 100 = true) (hi : inL h a i = true) : (WP Gm j_Law_law 1054 (ls) (.inl i :: .inr (.inl (some a)) :: st) h Q) = (WP Gm j_Law_law 1055 (ls) (.inl (gI h a i.toNatClampNeg) :: st) (h) Q) := (WP_at c_Law_law_1054 _ _ _ _).trans (congrArg (fun o => ndX Gm (WP Gm) j_Law_law 1054 o Q) (if_pos (by rw [hk, hi]; rfl)))
set_option maxRecDepth 100000 in
theorem c_Law_law_1055 : mCode j_Law_law 1055 = oAld 3 1056 := (rfl)
theorem e_Law_law_1055 (a0 a1 a2 : Option MV) (x : Option Nat) : (WP Gm j_Law_law 1055 (a0 :: a1 :: a2 :: some (.inr (.inl x)) :: ls) (st) h Q) = (WP Gm j_Law_law 1056 (a0 :: a1 :: a2 :: some (.inr (.inl x)) :: ls) (.inr (.inl x) :: st) (h) Q) := (WP_at c_Law_law_1055 _ _ _ _)
set_option maxRecDepth 100000 in
theorem c_Law_law_1056 : mCode j_Law_law 1056 = oCallS j_Law_air 3 (mL j_Law_air) 1059 := (rfl)
theorem e_Law_law_1056 (x0 : Option Nat) (x1 : Int32) (x2 : Option Nat) (hc : c8 st = true) : (WP Gm j_Law_law 1056 (ls) (.inr (.inl x2) :: .inl x1 :: .inr (.inl x0) :: st) h Q) = (WP Gm j_Law_air 0 [some (.inr (.inl x0)), some (.inl x1), some (.inr (.inl x2)), none] [] h (kC (fun v h2 => WP Gm j_Law_law 1059 ls (v.toList ++ st) h2 Q) (fun E h2 => Q (.inr E) h2))) := (WP_at c_Law_law_1056 _ _ _ _).trans (congrArg (fun o => ndX Gm (WP Gm) j_Law_law 1056 o Q) (if_pos (by rw [show decide (catS st ≤ 8) = true from hc]; rfl)))
set_option maxRecDepth 100000 in
theorem c_Law_law_1059 : mCode j_Law_law 1059 = oIst 5 1061 := (rfl)
theorem e_Law_law_1059 (x : Int32) : (WP Gm j_Law_law 1059 (ls) (.inl x :: st) h Q) = (WP Gm j_Law_law 1061 (lSet1 ls 5 (some (.inl x))) (st) (h) Q) := (WP_at c_Law_law_1059 _ _ _ _)
set_option maxRecDepth 100000 in
theorem c_Law_law_1061 : mCode j_Law_law 1061 = oAld 2 1062 := (rfl)
theorem e_Law_law_1061 (a0 a1 : Option MV) (x : Option Nat) : (WP Gm j_Law_law 1061 (a0 :: a1 :: some (.inr (.inl x)) :: ls) (st) h Q) = (WP Gm j_Law_law 1062 (a0 :: a1 :: some (.inr (.inl x)) :: ls) (.inr (.inl x) :: st) (h) Q) := (WP_at c_Law_law_1061 _ _ _ _)
set_option maxRecDepth 100000 in
theorem c_Law_law_1062 : mCode j_Law_law 1062 = oAld 0 1063 := (rfl)
theorem e_Law_law_1062 (x : Option Nat) : (WP Gm j_Law_law 1062 (some (.inr (.inl x)) :: ls) (st) h Q) = (WP Gm j_Law_law 1063 (some (.inr (.inl x)) :: ls) (.inr (.inl x) :: st) (h) Q) := (WP_at c_Law_law_1062 _ _ _ _)
set_option maxRecDepth 100000 in
theorem c_Law_law_1063 : mCode j_Law_law 1063 = oIld 4 1065 := (rfl)
theorem e_Law_law_1063 (a0 a1 a2 a3 : Option MV) (x : Int32) : (WP Gm j_Law_law 1063 (a0 :: a1 :: a2 :: a3 :: some (.inl x) :: ls) (st) h Q) = (WP Gm j_Law_law 1065 (a0 :: a1 :: a2 :: a3 :: some (.inl x) :: ls) (.inl x :: st) (h) Q) := (WP_at c_Law_law_1063 _ _ _ _)
set_option maxRecDepth 100000 in
theorem c_Law_law_1065 : mCode j_Law_law 1065 = oI 1 1066 := (rfl)
theorem e_Law_law_1065  : (WP Gm j_Law_law 1065 (ls) (st) h Q) = (WP Gm j_Law_law 1066 (ls) (.inl 1 :: st) (h) Q) := (WP_at c_Law_law_1065 _ _ _ _)
set_option maxRecDepth 100000 in
theorem c_Law_law_1066 : mCode j_Law_law 1066 = oII (fun x y => x + y) 1067 := (rfl)
theorem e_Law_law_1066 (x : Int32) (y : Int32) : (WP Gm j_Law_law 1066 (ls) (.inl y :: .inl x :: st) h Q) = (WP Gm j_Law_law 1067 (ls) (.inl (x + y) :: st) (h) Q) := (WP_at c_Law_law_1066 _ _ _ _)
set_option maxRecDepth 100000 in
theorem c_Law_law_1067 : mCode j_Law_law 1067 = oIal 0 1068 := (rfl)
theorem e_Law_law_1067 (a : Nat) (i : Int32) (hk : isK h a 100 = true) (hi : inL h a i = true) : (WP Gm j_Law_law 1067 (ls) (.inl i :: .inr (.inl (some a)) :: st) h Q) = (WP Gm j_Law_law 1068 (ls) (.inl (gI h a i.toNatClampNeg) :: st) (h) Q) := (WP_at c_Law_law_1067 _ _ _ _).trans (congrArg (fun o => ndX Gm (WP Gm) j_Law_law 1067 o Q) (if_pos (by rw [hk, hi]; rfl)))
set_option maxRecDepth 100000 in
theorem c_Law_law_1068 : mCode j_Law_law 1068 = oCallV kc_Mdl j_Mdl_air 1 (mL j_Mdl_air) 1071 := (rfl)
theorem e_Law_law_1068 (a : Nat) (x0 : Int32) (hk : isK h a kc_Mdl = true) (hc : c8 st = true) : (WP Gm j_Law_law 1068 (ls) (.inl x0 :: .inr (.inl (some a)) :: st) h Q) = (WP Gm j_Mdl_air 0 [some (.inr (.inl (some a))), some (.inl x0)] [] h (kC (fun v h2 => WP Gm j_Law_law 1071 ls (v.toList ++ st) h2 Q) (fun E h2 => Q (.inr E) h2))) := (WP_at c_Law_law_1068 _ _ _ _).trans (congrArg (fun o => ndX Gm (WP Gm) j_Law_law 1068 o Q) (if_pos (by rw [hk, show decide (catS st ≤ 8) = true from hc]; rfl)))
set_option maxRecDepth 100000 in
theorem c_Law_law_1071 : mCode j_Law_law 1071 = oIst 6 1073 := (rfl)
theorem e_Law_law_1071 (x : Int32) : (WP Gm j_Law_law 1071 (ls) (.inl x :: st) h Q) = (WP Gm j_Law_law 1073 (lSet1 ls 6 (some (.inl x))) (st) (h) Q) := (WP_at c_Law_law_1071 _ _ _ _)
set_option maxRecDepth 100000 in
theorem c_Law_law_1073 : mCode j_Law_law 1073 = oAld 2 1074 := (rfl)
theorem e_Law_law_1073 (a0 a1 : Option MV) (x : Option Nat) : (WP Gm j_Law_law 1073 (a0 :: a1 :: some (.inr (.inl x)) :: ls) (st) h Q) = (WP Gm j_Law_law 1074 (a0 :: a1 :: some (.inr (.inl x)) :: ls) (.inr (.inl x) :: st) (h) Q) := (WP_at c_Law_law_1073 _ _ _ _)
set_option maxRecDepth 100000 in
theorem c_Law_law_1074 : mCode j_Law_law 1074 = oCallV kc_Mdl j_Mdl_thrown 0 (mL j_Mdl_thrown) 1077 := (rfl)
theorem e_Law_law_1074 (a : Nat) (hk : isK h a kc_Mdl = true) (hc : c8 st = true) : (WP Gm j_Law_law 1074 (ls) (.inr (.inl (some a)) :: st) h Q) = (WP Gm j_Mdl_thrown 0 [some (.inr (.inl (some a)))] [] h (kC (fun v h2 => WP Gm j_Law_law 1077 ls (v.toList ++ st) h2 Q) (fun E h2 => Q (.inr E) h2))) := (WP_at c_Law_law_1074 _ _ _ _).trans (congrArg (fun o => ndX Gm (WP Gm) j_Law_law 1074 o Q) (if_pos (by rw [hk, show decide (catS st ≤ 8) = true from hc]; rfl)))
set_option maxRecDepth 100000 in
theorem c_Law_law_1077 : mCode j_Law_law 1077 = oIld 5 1079 := (rfl)
theorem e_Law_law_1077 (a0 a1 a2 a3 a4 : Option MV) (x : Int32) : (WP Gm j_Law_law 1077 (a0 :: a1 :: a2 :: a3 :: a4 :: some (.inl x) :: ls) (st) h Q) = (WP Gm j_Law_law 1079 (a0 :: a1 :: a2 :: a3 :: a4 :: some (.inl x) :: ls) (.inl x :: st) (h) Q) := (WP_at c_Law_law_1077 _ _ _ _)
set_option maxRecDepth 100000 in
theorem c_Law_law_1079 : mCode j_Law_law 1079 = oIC (fun x y => decide (x = y)) 1084 1082 := (rfl)
theorem e_Law_law_1079 (x y : Int32) : (WP Gm j_Law_law 1079 (ls) (.inl y :: .inl x :: st) h Q) = (if x = y then WP Gm j_Law_law 1084 (ls) (st) (h) Q else WP Gm j_Law_law 1082 (ls) (st) (h) Q) := (WP_at c_Law_law_1079 _ _ _ _).trans (nd_ic rfl _ _ _ _)
set_option maxRecDepth 100000 in
theorem c_Law_law_1082 : mCode j_Law_law 1082 = oI 0 1083 := (rfl)
theorem e_Law_law_1082  : (WP Gm j_Law_law 1082 (ls) (st) h Q) = (WP Gm j_Law_law 1083 (ls) (.inl 0 :: st) (h) Q) := (WP_at c_Law_law_1082 _ _ _ _)
set_option maxRecDepth 100000 in
theorem c_Law_law_1083 : mCode j_Law_law 1083 = oRetZ := (rfl)
theorem e_Law_law_1083 (x : Int32) (hx : x = 0 ∨ x = 1) : (WP Gm j_Law_law 1083 (ls) ([.inl x]) h Q) = (Q (.inl (some (.inl x))) h) := (WP_at c_Law_law_1083 _ _ _ _).trans (congrArg (fun o => ndX Gm (WP Gm) j_Law_law 1083 o Q) (if_pos (by rcases hx with rfl | rfl <;> rfl)))
set_option maxRecDepth 100000 in
theorem c_Law_law_1084 : mCode j_Law_law 1084 = oIld 5 1086 := (rfl)
theorem e_Law_law_1084 (a0 a1 a2 a3 a4 : Option MV) (x : Int32) : (WP Gm j_Law_law 1084 (a0 :: a1 :: a2 :: a3 :: a4 :: some (.inl x) :: ls) (st) h Q) = (WP Gm j_Law_law 1086 (a0 :: a1 :: a2 :: a3 :: a4 :: some (.inl x) :: ls) (.inl x :: st) (h) Q) := (WP_at c_Law_law_1084 _ _ _ _)
set_option maxRecDepth 100000 in
theorem c_Law_law_1086 : mCode j_Law_law 1086 = oIf (fun x => decide (¬ x = 0)) 1102 1089 := (rfl)
theorem e_Law_law_1086 (x : Int32) : (WP Gm j_Law_law 1086 (ls) (.inl x :: st) h Q) = (if ¬ x = 0 then WP Gm j_Law_law 1102 (ls) (st) (h) Q else WP Gm j_Law_law 1089 (ls) (st) (h) Q) := (WP_at c_Law_law_1086 _ _ _ _).trans (nd_if rfl _ _ _ _)
set_option maxRecDepth 100000 in
theorem c_Law_law_1089 : mCode j_Law_law 1089 = oAld 3 1090 := (rfl)
theorem e_Law_law_1089 (a0 a1 a2 : Option MV) (x : Option Nat) : (WP Gm j_Law_law 1089 (a0 :: a1 :: a2 :: some (.inr (.inl x)) :: ls) (st) h Q) = (WP Gm j_Law_law 1090 (a0 :: a1 :: a2 :: some (.inr (.inl x)) :: ls) (.inr (.inl x) :: st) (h) Q) := (WP_at c_Law_law_1089 _ _ _ _)
set_option maxRecDepth 100000 in
theorem c_Law_law_1090 : mCode j_Law_law 1090 = oGetL kc_Out 0 1093 := (rfl)
theorem e_Law_law_1090 (a : Nat) (hk : isK h a kc_Out = true) : (WP Gm j_Law_law 1090 (ls) (.inr (.inl (some a)) :: st) h Q) = (WP Gm j_Law_law 1093 (ls) (.inr (.inr (.inl (gL h a 0))) :: st) (h) Q) := (WP_at c_Law_law_1090 _ _ _ _).trans (congrArg (fun o => ndX Gm (WP Gm) j_Law_law 1090 o Q) (if_pos hk))
set_option maxRecDepth 100000 in
theorem c_Law_law_1093 : mCode j_Law_law 1093 = oIld 6 1095 := (rfl)
theorem e_Law_law_1093 (a0 a1 a2 a3 a4 a5 : Option MV) (x : Int32) : (WP Gm j_Law_law 1093 (a0 :: a1 :: a2 :: a3 :: a4 :: a5 :: some (.inl x) :: ls) (st) h Q) = (WP Gm j_Law_law 1095 (a0 :: a1 :: a2 :: a3 :: a4 :: a5 :: some (.inl x) :: ls) (.inl x :: st) (h) Q) := (WP_at c_Law_law_1093 _ _ _ _)
set_option maxRecDepth 100000 in
theorem c_Law_law_1095 : mCode j_Law_law 1095 = oI2L 1096 := (rfl)
theorem e_Law_law_1095 (x : Int32) : (WP Gm j_Law_law 1095 (ls) (.inl x :: st) h Q) = (WP Gm j_Law_law 1096 (ls) (.inr (.inr (.inl x.toInt64)) :: st) (h) Q) := (WP_at c_Law_law_1095 _ _ _ _)
set_option maxRecDepth 100000 in
theorem c_Law_law_1096 : mCode j_Law_law 1096 = oLcmp 1097 := (rfl)
theorem e_Law_law_1096 (x y : Int64) : (WP Gm j_Law_law 1096 (ls) (.inr (.inr (.inl y)) :: .inr (.inr (.inl x)) :: st) h Q) = (WP Gm j_Law_law 1097 (ls) (.inl (lg_cmp x y) :: st) (h) Q) := (WP_at c_Law_law_1096 _ _ _ _)
set_option maxRecDepth 100000 in
theorem c_Law_law_1097 : mCode j_Law_law 1097 = oIf (fun x => decide (x = 0)) 1102 1100 := (rfl)
theorem e_Law_law_1097 (x : Int32) : (WP Gm j_Law_law 1097 (ls) (.inl x :: st) h Q) = (if x = 0 then WP Gm j_Law_law 1102 (ls) (st) (h) Q else WP Gm j_Law_law 1100 (ls) (st) (h) Q) := (WP_at c_Law_law_1097 _ _ _ _).trans (nd_if rfl _ _ _ _)
set_option maxRecDepth 100000 in
theorem c_Law_law_1100 : mCode j_Law_law 1100 = oI 0 1101 := (rfl)
theorem e_Law_law_1100  : (WP Gm j_Law_law 1100 (ls) (st) h Q) = (WP Gm j_Law_law 1101 (ls) (.inl 0 :: st) (h) Q) := (WP_at c_Law_law_1100 _ _ _ _)
set_option maxRecDepth 100000 in
theorem c_Law_law_1101 : mCode j_Law_law 1101 = oRetZ := (rfl)
theorem e_Law_law_1101 (x : Int32) (hx : x = 0 ∨ x = 1) : (WP Gm j_Law_law 1101 (ls) ([.inl x]) h Q) = (Q (.inl (some (.inl x))) h) := (WP_at c_Law_law_1101 _ _ _ _).trans (congrArg (fun o => ndX Gm (WP Gm) j_Law_law 1101 o Q) (if_pos (by rcases hx with rfl | rfl <;> rfl)))
set_option maxRecDepth 100000 in
theorem c_Law_law_1102 : mCode j_Law_law 1102 = oGo 1549 := (rfl)
theorem e_Law_law_1102  : (WP Gm j_Law_law 1102 (ls) (st) h Q) = (WP Gm j_Law_law 1549 (ls) (st) (h) Q) := (WP_at c_Law_law_1102 _ _ _ _)
set_option maxRecDepth 100000 in
theorem c_Law_law_1105 : mCode j_Law_law 1105 = oAld 1 1106 := (rfl)
theorem e_Law_law_1105 (a0 : Option MV) (x : Option Nat) : (WP Gm j_Law_law 1105 (a0 :: some (.inr (.inl x)) :: ls) (st) h Q) = (WP Gm j_Law_law 1106 (a0 :: some (.inr (.inl x)) :: ls) (.inr (.inl x) :: st) (h) Q) := (WP_at c_Law_law_1105 _ _ _ _)
set_option maxRecDepth 100000 in
theorem c_Law_law_1106 : mCode j_Law_law 1106 = oAld 0 1107 := (rfl)
theorem e_Law_law_1106 (x : Option Nat) : (WP Gm j_Law_law 1106 (some (.inr (.inl x)) :: ls) (st) h Q) = (WP Gm j_Law_law 1107 (some (.inr (.inl x)) :: ls) (.inr (.inl x) :: st) (h) Q) := (WP_at c_Law_law_1106 _ _ _ _)
set_option maxRecDepth 100000 in
theorem c_Law_law_1107 : mCode j_Law_law 1107 = oIld 4 1109 := (rfl)
theorem e_Law_law_1107 (a0 a1 a2 a3 : Option MV) (x : Int32) : (WP Gm j_Law_law 1107 (a0 :: a1 :: a2 :: a3 :: some (.inl x) :: ls) (st) h Q) = (WP Gm j_Law_law 1109 (a0 :: a1 :: a2 :: a3 :: some (.inl x) :: ls) (.inl x :: st) (h) Q) := (WP_at c_Law_law_1107 _ _ _ _)
set_option maxRecDepth 100000 in
theorem c_Law_law_1109 : mCode j_Law_law 1109 = oI 1 1110 := (rfl)
theorem e_Law_law_1109  : (WP Gm j_Law_law 1109 (ls) (st) h Q) = (WP Gm j_Law_law 1110 (ls) (.inl 1 :: st) (h) Q) := (WP_at c_Law_law_1109 _ _ _ _)
set_option maxRecDepth 100000 in
theorem c_Law_law_1110 : mCode j_Law_law 1110 = oII (fun x y => x + y) 1111 := (rfl)
theorem e_Law_law_1110 (x : Int32) (y : Int32) : (WP Gm j_Law_law 1110 (ls) (.inl y :: .inl x :: st) h Q) = (WP Gm j_Law_law 1111 (ls) (.inl (x + y) :: st) (h) Q) := (WP_at c_Law_law_1110 _ _ _ _)
set_option maxRecDepth 100000 in
theorem c_Law_law_1111 : mCode j_Law_law 1111 = oIal 0 1112 := (rfl)
theorem e_Law_law_1111 (a : Nat) (i : Int32) (hk : isK h a 100 = true) (hi : inL h a i = true) : (WP Gm j_Law_law 1111 (ls) (.inl i :: .inr (.inl (some a)) :: st) h Q) = (WP Gm j_Law_law 1112 (ls) (.inl (gI h a i.toNatClampNeg) :: st) (h) Q) := (WP_at c_Law_law_1111 _ _ _ _).trans (congrArg (fun o => ndX Gm (WP Gm) j_Law_law 1111 o Q) (if_pos (by rw [hk, hi]; rfl)))
set_option maxRecDepth 100000 in
theorem c_Law_law_1112 : mCode j_Law_law 1112 = oAld 0 1113 := (rfl)
theorem e_Law_law_1112 (x : Option Nat) : (WP Gm j_Law_law 1112 (some (.inr (.inl x)) :: ls) (st) h Q) = (WP Gm j_Law_law 1113 (some (.inr (.inl x)) :: ls) (.inr (.inl x) :: st) (h) Q) := (WP_at c_Law_law_1112 _ _ _ _)
set_option maxRecDepth 100000 in
theorem c_Law_law_1113 : mCode j_Law_law 1113 = oIld 4 1115 := (rfl)
theorem e_Law_law_1113 (a0 a1 a2 a3 : Option MV) (x : Int32) : (WP Gm j_Law_law 1113 (a0 :: a1 :: a2 :: a3 :: some (.inl x) :: ls) (st) h Q) = (WP Gm j_Law_law 1115 (a0 :: a1 :: a2 :: a3 :: some (.inl x) :: ls) (.inl x :: st) (h) Q) := (WP_at c_Law_law_1113 _ _ _ _)
set_option maxRecDepth 100000 in
theorem c_Law_law_1115 : mCode j_Law_law 1115 = oI 2 1116 := (rfl)
theorem e_Law_law_1115  : (WP Gm j_Law_law 1115 (ls) (st) h Q) = (WP Gm j_Law_law 1116 (ls) (.inl 2 :: st) (h) Q) := (WP_at c_Law_law_1115 _ _ _ _)
set_option maxRecDepth 100000 in
theorem c_Law_law_1116 : mCode j_Law_law 1116 = oII (fun x y => x + y) 1117 := (rfl)
theorem e_Law_law_1116 (x : Int32) (y : Int32) : (WP Gm j_Law_law 1116 (ls) (.inl y :: .inl x :: st) h Q) = (WP Gm j_Law_law 1117 (ls) (.inl (x + y) :: st) (h) Q) := (WP_at c_Law_law_1116 _ _ _ _)
set_option maxRecDepth 100000 in
theorem c_Law_law_1117 : mCode j_Law_law 1117 = oIal 0 1118 := (rfl)
theorem e_Law_law_1117 (a : Nat) (i : Int32) (hk : isK h a 100 = true) (hi : inL h a i = true) : (WP Gm j_Law_law 1117 (ls) (.inl i :: .inr (.inl (some a)) :: st) h Q) = (WP Gm j_Law_law 1118 (ls) (.inl (gI h a i.toNatClampNeg) :: st) (h) Q) := (WP_at c_Law_law_1117 _ _ _ _).trans (congrArg (fun o => ndX Gm (WP Gm) j_Law_law 1117 o Q) (if_pos (by rw [hk, hi]; rfl)))
set_option maxRecDepth 100000 in
theorem c_Law_law_1118 : mCode j_Law_law 1118 = oAld 3 1119 := (rfl)
theorem e_Law_law_1118 (a0 a1 a2 : Option MV) (x : Option Nat) : (WP Gm j_Law_law 1118 (a0 :: a1 :: a2 :: some (.inr (.inl x)) :: ls) (st) h Q) = (WP Gm j_Law_law 1119 (a0 :: a1 :: a2 :: some (.inr (.inl x)) :: ls) (.inr (.inl x) :: st) (h) Q) := (WP_at c_Law_law_1118 _ _ _ _)
set_option maxRecDepth 100000 in
theorem c_Law_law_1119 : mCode j_Law_law 1119 = oCallS j_Law_delivered 4 (mL j_Law_delivered) 1122 := (rfl)
theorem e_Law_law_1119 (x0 : Option Nat) (x1 : Int32) (x2 : Int32) (x3 : Option Nat) (hc : c8 st = true) : (WP Gm j_Law_law 1119 (ls) (.inr (.inl x3) :: .inl x2 :: .inl x1 :: .inr (.inl x0) :: st) h Q) = (WP Gm j_Law_delivered 0 [some (.inr (.inl x0)), some (.inl x1), some (.inl x2), some (.inr (.inl x3)), none] [] h (kC (fun v h2 => WP Gm j_Law_law 1122 ls (v.toList ++ st) h2 Q) (fun E h2 => Q (.inr E) h2))) := (WP_at c_Law_law_1119 _ _ _ _).trans (congrArg (fun o => ndX Gm (WP Gm) j_Law_law 1119 o Q) (if_pos (by rw [show decide (catS st ≤ 8) = true from hc]; rfl)))
set_option maxRecDepth 100000 in
theorem c_Law_law_1122 : mCode j_Law_law 1122 = oIst 5 1124 := (rfl)
theorem e_Law_law_1122 (x : Int32) : (WP Gm j_Law_law 1122 (ls) (.inl x :: st) h Q) = (WP Gm j_Law_law 1124 (lSet1 ls 5 (some (.inl x))) (st) (h) Q) := (WP_at c_Law_law_1122 _ _ _ _)
set_option maxRecDepth 100000 in
theorem c_Law_law_1124 : mCode j_Law_law 1124 = oAld 2 1125 := (rfl)
theorem e_Law_law_1124 (a0 a1 : Option MV) (x : Option Nat) : (WP Gm j_Law_law 1124 (a0 :: a1 :: some (.inr (.inl x)) :: ls) (st) h Q) = (WP Gm j_Law_law 1125 (a0 :: a1 :: some (.inr (.inl x)) :: ls) (.inr (.inl x) :: st) (h) Q) := (WP_at c_Law_law_1124 _ _ _ _)
set_option maxRecDepth 100000 in
theorem c_Law_law_1125 : mCode j_Law_law 1125 = oAld 0 1126 := (rfl)
theorem e_Law_law_1125 (x : Option Nat) : (WP Gm j_Law_law 1125 (some (.inr (.inl x)) :: ls) (st) h Q) = (WP Gm j_Law_law 1126 (some (.inr (.inl x)) :: ls) (.inr (.inl x) :: st) (h) Q) := (WP_at c_Law_law_1125 _ _ _ _)
set_option maxRecDepth 100000 in
theorem c_Law_law_1126 : mCode j_Law_law 1126 = oIld 4 1128 := (rfl)
theorem e_Law_law_1126 (a0 a1 a2 a3 : Option MV) (x : Int32) : (WP Gm j_Law_law 1126 (a0 :: a1 :: a2 :: a3 :: some (.inl x) :: ls) (st) h Q) = (WP Gm j_Law_law 1128 (a0 :: a1 :: a2 :: a3 :: some (.inl x) :: ls) (.inl x :: st) (h) Q) := (WP_at c_Law_law_1126 _ _ _ _)
set_option maxRecDepth 100000 in
theorem c_Law_law_1128 : mCode j_Law_law 1128 = oI 1 1129 := (rfl)
theorem e_Law_law_1128  : (WP Gm j_Law_law 1128 (ls) (st) h Q) = (WP Gm j_Law_law 1129 (ls) (.inl 1 :: st) (h) Q) := (WP_at c_Law_law_1128 _ _ _ _)
set_option maxRecDepth 100000 in
theorem c_Law_law_1129 : mCode j_Law_law 1129 = oII (fun x y => x + y) 1130 := (rfl)
theorem e_Law_law_1129 (x : Int32) (y : Int32) : (WP Gm j_Law_law 1129 (ls) (.inl y :: .inl x :: st) h Q) = (WP Gm j_Law_law 1130 (ls) (.inl (x + y) :: st) (h) Q) := (WP_at c_Law_law_1129 _ _ _ _)
set_option maxRecDepth 100000 in
theorem c_Law_law_1130 : mCode j_Law_law 1130 = oIal 0 1131 := (rfl)
theorem e_Law_law_1130 (a : Nat) (i : Int32) (hk : isK h a 100 = true) (hi : inL h a i = true) : (WP Gm j_Law_law 1130 (ls) (.inl i :: .inr (.inl (some a)) :: st) h Q) = (WP Gm j_Law_law 1131 (ls) (.inl (gI h a i.toNatClampNeg) :: st) (h) Q) := (WP_at c_Law_law_1130 _ _ _ _).trans (congrArg (fun o => ndX Gm (WP Gm) j_Law_law 1130 o Q) (if_pos (by rw [hk, hi]; rfl)))
set_option maxRecDepth 100000 in
theorem c_Law_law_1131 : mCode j_Law_law 1131 = oAld 0 1132 := (rfl)
theorem e_Law_law_1131 (x : Option Nat) : (WP Gm j_Law_law 1131 (some (.inr (.inl x)) :: ls) (st) h Q) = (WP Gm j_Law_law 1132 (some (.inr (.inl x)) :: ls) (.inr (.inl x) :: st) (h) Q) := (WP_at c_Law_law_1131 _ _ _ _)
set_option maxRecDepth 100000 in
theorem c_Law_law_1132 : mCode j_Law_law 1132 = oIld 4 1134 := (rfl)
theorem e_Law_law_1132 (a0 a1 a2 a3 : Option MV) (x : Int32) : (WP Gm j_Law_law 1132 (a0 :: a1 :: a2 :: a3 :: some (.inl x) :: ls) (st) h Q) = (WP Gm j_Law_law 1134 (a0 :: a1 :: a2 :: a3 :: some (.inl x) :: ls) (.inl x :: st) (h) Q) := (WP_at c_Law_law_1132 _ _ _ _)
set_option maxRecDepth 100000 in
theorem c_Law_law_1134 : mCode j_Law_law 1134 = oI 2 1135 := (rfl)
theorem e_Law_law_1134  : (WP Gm j_Law_law 1134 (ls) (st) h Q) = (WP Gm j_Law_law 1135 (ls) (.inl 2 :: st) (h) Q) := (WP_at c_Law_law_1134 _ _ _ _)
set_option maxRecDepth 100000 in
theorem c_Law_law_1135 : mCode j_Law_law 1135 = oII (fun x y => x + y) 1136 := (rfl)
theorem e_Law_law_1135 (x : Int32) (y : Int32) : (WP Gm j_Law_law 1135 (ls) (.inl y :: .inl x :: st) h Q) = (WP Gm j_Law_law 1136 (ls) (.inl (x + y) :: st) (h) Q) := (WP_at c_Law_law_1135 _ _ _ _)
set_option maxRecDepth 100000 in
theorem c_Law_law_1136 : mCode j_Law_law 1136 = oIal 0 1137 := (rfl)
theorem e_Law_law_1136 (a : Nat) (i : Int32) (hk : isK h a 100 = true) (hi : inL h a i = true) : (WP Gm j_Law_law 1136 (ls) (.inl i :: .inr (.inl (some a)) :: st) h Q) = (WP Gm j_Law_law 1137 (ls) (.inl (gI h a i.toNatClampNeg) :: st) (h) Q) := (WP_at c_Law_law_1136 _ _ _ _).trans (congrArg (fun o => ndX Gm (WP Gm) j_Law_law 1136 o Q) (if_pos (by rw [hk, hi]; rfl)))
set_option maxRecDepth 100000 in
theorem c_Law_law_1137 : mCode j_Law_law 1137 = oCallV kc_Mdl j_Mdl_delivered 2 (mL j_Mdl_delivered) 1140 := (rfl)
theorem e_Law_law_1137 (a : Nat) (x0 : Int32) (x1 : Int32) (hk : isK h a kc_Mdl = true) (hc : c8 st = true) : (WP Gm j_Law_law 1137 (ls) (.inl x1 :: .inl x0 :: .inr (.inl (some a)) :: st) h Q) = (WP Gm j_Mdl_delivered 0 [some (.inr (.inl (some a))), some (.inl x0), some (.inl x1)] [] h (kC (fun v h2 => WP Gm j_Law_law 1140 ls (v.toList ++ st) h2 Q) (fun E h2 => Q (.inr E) h2))) := (WP_at c_Law_law_1137 _ _ _ _).trans (congrArg (fun o => ndX Gm (WP Gm) j_Law_law 1137 o Q) (if_pos (by rw [hk, show decide (catS st ≤ 8) = true from hc]; rfl)))
set_option maxRecDepth 100000 in
theorem c_Law_law_1140 : mCode j_Law_law 1140 = oIst 6 1142 := (rfl)
theorem e_Law_law_1140 (x : Int32) : (WP Gm j_Law_law 1140 (ls) (.inl x :: st) h Q) = (WP Gm j_Law_law 1142 (lSet1 ls 6 (some (.inl x))) (st) (h) Q) := (WP_at c_Law_law_1140 _ _ _ _)
set_option maxRecDepth 100000 in
theorem c_Law_law_1142 : mCode j_Law_law 1142 = oAld 2 1143 := (rfl)
theorem e_Law_law_1142 (a0 a1 : Option MV) (x : Option Nat) : (WP Gm j_Law_law 1142 (a0 :: a1 :: some (.inr (.inl x)) :: ls) (st) h Q) = (WP Gm j_Law_law 1143 (a0 :: a1 :: some (.inr (.inl x)) :: ls) (.inr (.inl x) :: st) (h) Q) := (WP_at c_Law_law_1142 _ _ _ _)
set_option maxRecDepth 100000 in
theorem c_Law_law_1143 : mCode j_Law_law 1143 = oCallV kc_Mdl j_Mdl_thrown 0 (mL j_Mdl_thrown) 1146 := (rfl)
theorem e_Law_law_1143 (a : Nat) (hk : isK h a kc_Mdl = true) (hc : c8 st = true) : (WP Gm j_Law_law 1143 (ls) (.inr (.inl (some a)) :: st) h Q) = (WP Gm j_Mdl_thrown 0 [some (.inr (.inl (some a)))] [] h (kC (fun v h2 => WP Gm j_Law_law 1146 ls (v.toList ++ st) h2 Q) (fun E h2 => Q (.inr E) h2))) := (WP_at c_Law_law_1143 _ _ _ _).trans (congrArg (fun o => ndX Gm (WP Gm) j_Law_law 1143 o Q) (if_pos (by rw [hk, show decide (catS st ≤ 8) = true from hc]; rfl)))
set_option maxRecDepth 100000 in
theorem c_Law_law_1146 : mCode j_Law_law 1146 = oIld 5 1148 := (rfl)
theorem e_Law_law_1146 (a0 a1 a2 a3 a4 : Option MV) (x : Int32) : (WP Gm j_Law_law 1146 (a0 :: a1 :: a2 :: a3 :: a4 :: some (.inl x) :: ls) (st) h Q) = (WP Gm j_Law_law 1148 (a0 :: a1 :: a2 :: a3 :: a4 :: some (.inl x) :: ls) (.inl x :: st) (h) Q) := (WP_at c_Law_law_1146 _ _ _ _)
set_option maxRecDepth 100000 in
theorem c_Law_law_1148 : mCode j_Law_law 1148 = oIC (fun x y => decide (x = y)) 1153 1151 := (rfl)
theorem e_Law_law_1148 (x y : Int32) : (WP Gm j_Law_law 1148 (ls) (.inl y :: .inl x :: st) h Q) = (if x = y then WP Gm j_Law_law 1153 (ls) (st) (h) Q else WP Gm j_Law_law 1151 (ls) (st) (h) Q) := (WP_at c_Law_law_1148 _ _ _ _).trans (nd_ic rfl _ _ _ _)
set_option maxRecDepth 100000 in
theorem c_Law_law_1151 : mCode j_Law_law 1151 = oI 0 1152 := (rfl)
theorem e_Law_law_1151  : (WP Gm j_Law_law 1151 (ls) (st) h Q) = (WP Gm j_Law_law 1152 (ls) (.inl 0 :: st) (h) Q) := (WP_at c_Law_law_1151 _ _ _ _)
set_option maxRecDepth 100000 in
theorem c_Law_law_1152 : mCode j_Law_law 1152 = oRetZ := (rfl)
theorem e_Law_law_1152 (x : Int32) (hx : x = 0 ∨ x = 1) : (WP Gm j_Law_law 1152 (ls) ([.inl x]) h Q) = (Q (.inl (some (.inl x))) h) := (WP_at c_Law_law_1152 _ _ _ _).trans (congrArg (fun o => ndX Gm (WP Gm) j_Law_law 1152 o Q) (if_pos (by rcases hx with rfl | rfl <;> rfl)))
set_option maxRecDepth 100000 in
theorem c_Law_law_1153 : mCode j_Law_law 1153 = oIld 5 1155 := (rfl)
theorem e_Law_law_1153 (a0 a1 a2 a3 a4 : Option MV) (x : Int32) : (WP Gm j_Law_law 1153 (a0 :: a1 :: a2 :: a3 :: a4 :: some (.inl x) :: ls) (st) h Q) = (WP Gm j_Law_law 1155 (a0 :: a1 :: a2 :: a3 :: a4 :: some (.inl x) :: ls) (.inl x :: st) (h) Q) := (WP_at c_Law_law_1153 _ _ _ _)
set_option maxRecDepth 100000 in
theorem c_Law_law_1155 : mCode j_Law_law 1155 = oIf (fun x => decide (¬ x = 0)) 1178 1158 := (rfl)
theorem e_Law_law_1155 (x : Int32) : (WP Gm j_Law_law 1155 (ls) (.inl x :: st) h Q) = (if ¬ x = 0 then WP Gm j_Law_law 1178 (ls) (st) (h) Q else WP Gm j_Law_law 1158 (ls) (st) (h) Q) := (WP_at c_Law_law_1155 _ _ _ _).trans (nd_if rfl _ _ _ _)
set_option maxRecDepth 100000 in
theorem c_Law_law_1158 : mCode j_Law_law 1158 = oAld 3 1159 := (rfl)
theorem e_Law_law_1158 (a0 a1 a2 : Option MV) (x : Option Nat) : (WP Gm j_Law_law 1158 (a0 :: a1 :: a2 :: some (.inr (.inl x)) :: ls) (st) h Q) = (WP Gm j_Law_law 1159 (a0 :: a1 :: a2 :: some (.inr (.inl x)) :: ls) (.inr (.inl x) :: st) (h) Q) := (WP_at c_Law_law_1158 _ _ _ _)
set_option maxRecDepth 100000 in
theorem c_Law_law_1159 : mCode j_Law_law 1159 = oGetL kc_Out 0 1162 := (rfl)
theorem e_Law_law_1159 (a : Nat) (hk : isK h a kc_Out = true) : (WP Gm j_Law_law 1159 (ls) (.inr (.inl (some a)) :: st) h Q) = (WP Gm j_Law_law 1162 (ls) (.inr (.inr (.inl (gL h a 0))) :: st) (h) Q) := (WP_at c_Law_law_1159 _ _ _ _).trans (congrArg (fun o => ndX Gm (WP Gm) j_Law_law 1159 o Q) (if_pos hk))
set_option maxRecDepth 100000 in
theorem c_Law_law_1162 : mCode j_Law_law 1162 = oIld 6 1164 := (rfl)
theorem e_Law_law_1162 (a0 a1 a2 a3 a4 a5 : Option MV) (x : Int32) : (WP Gm j_Law_law 1162 (a0 :: a1 :: a2 :: a3 :: a4 :: a5 :: some (.inl x) :: ls) (st) h Q) = (WP Gm j_Law_law 1164 (a0 :: a1 :: a2 :: a3 :: a4 :: a5 :: some (.inl x) :: ls) (.inl x :: st) (h) Q) := (WP_at c_Law_law_1162 _ _ _ _)
set_option maxRecDepth 100000 in
theorem c_Law_law_1164 : mCode j_Law_law 1164 = oIf (fun x => decide (x = 0)) 1171 1167 := (rfl)
theorem e_Law_law_1164 (x : Int32) : (WP Gm j_Law_law 1164 (ls) (.inl x :: st) h Q) = (if x = 0 then WP Gm j_Law_law 1171 (ls) (st) (h) Q else WP Gm j_Law_law 1167 (ls) (st) (h) Q) := (WP_at c_Law_law_1164 _ _ _ _).trans (nd_if rfl _ _ _ _)
set_option maxRecDepth 100000 in
theorem c_Law_law_1167 : mCode j_Law_law 1167 = oJ 1 1168 := (rfl)
theorem e_Law_law_1167  : (WP Gm j_Law_law 1167 (ls) (st) h Q) = (WP Gm j_Law_law 1168 (ls) (.inr (.inr (.inl 1)) :: st) (h) Q) := (WP_at c_Law_law_1167 _ _ _ _)
set_option maxRecDepth 100000 in
theorem c_Law_law_1168 : mCode j_Law_law 1168 = oGo 1172 := (rfl)
theorem e_Law_law_1168  : (WP Gm j_Law_law 1168 (ls) (st) h Q) = (WP Gm j_Law_law 1172 (ls) (st) (h) Q) := (WP_at c_Law_law_1168 _ _ _ _)
set_option maxRecDepth 100000 in
theorem c_Law_law_1171 : mCode j_Law_law 1171 = oJ 0 1172 := (rfl)
theorem e_Law_law_1171  : (WP Gm j_Law_law 1171 (ls) (st) h Q) = (WP Gm j_Law_law 1172 (ls) (.inr (.inr (.inl 0)) :: st) (h) Q) := (WP_at c_Law_law_1171 _ _ _ _)
set_option maxRecDepth 100000 in
theorem c_Law_law_1172 : mCode j_Law_law 1172 = oLcmp 1173 := (rfl)
theorem e_Law_law_1172 (x y : Int64) : (WP Gm j_Law_law 1172 (ls) (.inr (.inr (.inl y)) :: .inr (.inr (.inl x)) :: st) h Q) = (WP Gm j_Law_law 1173 (ls) (.inl (lg_cmp x y) :: st) (h) Q) := (WP_at c_Law_law_1172 _ _ _ _)
set_option maxRecDepth 100000 in
theorem c_Law_law_1173 : mCode j_Law_law 1173 = oIf (fun x => decide (x = 0)) 1178 1176 := (rfl)
theorem e_Law_law_1173 (x : Int32) : (WP Gm j_Law_law 1173 (ls) (.inl x :: st) h Q) = (if x = 0 then WP Gm j_Law_law 1178 (ls) (st) (h) Q else WP Gm j_Law_law 1176 (ls) (st) (h) Q) := (WP_at c_Law_law_1173 _ _ _ _).trans (nd_if rfl _ _ _ _)
set_option maxRecDepth 100000 in
theorem c_Law_law_1176 : mCode j_Law_law 1176 = oI 0 1177 := (rfl)
theorem e_Law_law_1176  : (WP Gm j_Law_law 1176 (ls) (st) h Q) = (WP Gm j_Law_law 1177 (ls) (.inl 0 :: st) (h) Q) := (WP_at c_Law_law_1176 _ _ _ _)
set_option maxRecDepth 100000 in
theorem c_Law_law_1177 : mCode j_Law_law 1177 = oRetZ := (rfl)
theorem e_Law_law_1177 (x : Int32) (hx : x = 0 ∨ x = 1) : (WP Gm j_Law_law 1177 (ls) ([.inl x]) h Q) = (Q (.inl (some (.inl x))) h) := (WP_at c_Law_law_1177 _ _ _ _).trans (congrArg (fun o => ndX Gm (WP Gm) j_Law_law 1177 o Q) (if_pos (by rcases hx with rfl | rfl <;> rfl)))
set_option maxRecDepth 100000 in
theorem c_Law_law_1178 : mCode j_Law_law 1178 = oGo 1549 := (rfl)
theorem e_Law_law_1178  : (WP Gm j_Law_law 1178 (ls) (st) h Q) = (WP Gm j_Law_law 1549 (ls) (st) (h) Q) := (WP_at c_Law_law_1178 _ _ _ _)
set_option maxRecDepth 100000 in
theorem c_Law_law_1181 : mCode j_Law_law 1181 = oAld 1 1182 := (rfl)
theorem e_Law_law_1181 (a0 : Option MV) (x : Option Nat) : (WP Gm j_Law_law 1181 (a0 :: some (.inr (.inl x)) :: ls) (st) h Q) = (WP Gm j_Law_law 1182 (a0 :: some (.inr (.inl x)) :: ls) (.inr (.inl x) :: st) (h) Q) := (WP_at c_Law_law_1181 _ _ _ _)
set_option maxRecDepth 100000 in
theorem c_Law_law_1182 : mCode j_Law_law 1182 = oCallV kc_S j_S_fairness 0 (mL j_S_fairness) 1185 := (rfl)
theorem e_Law_law_1182 (a : Nat) (hk : isK h a kc_S = true) (hc : c8 st = true) : (WP Gm j_Law_law 1182 (ls) (.inr (.inl (some a)) :: st) h Q) = (WP Gm j_S_fairness 0 [some (.inr (.inl (some a))), none, none, none, none, none, none, none] [] h (kC (fun v h2 => WP Gm j_Law_law 1185 ls (v.toList ++ st) h2 Q) (fun E h2 => Q (.inr E) h2))) := (WP_at c_Law_law_1182 _ _ _ _).trans (congrArg (fun o => ndX Gm (WP Gm) j_Law_law 1182 o Q) (if_pos (by rw [hk, show decide (catS st ≤ 8) = true from hc]; rfl)))
set_option maxRecDepth 100000 in
theorem c_Law_law_1185 : mCode j_Law_law 1185 = oDst 5 1187 := (rfl)
theorem e_Law_law_1185 (x : UInt64) : (WP Gm j_Law_law 1185 (ls) (.inr (.inr (.inr x)) :: st) h Q) = (WP Gm j_Law_law 1187 (lSet2 ls 5 (.inr (.inr (.inr x)))) (st) (h) Q) := (WP_at c_Law_law_1185 _ _ _ _)
set_option maxRecDepth 100000 in
theorem c_Law_law_1187 : mCode j_Law_law 1187 = oAld 2 1188 := (rfl)
theorem e_Law_law_1187 (a0 a1 : Option MV) (x : Option Nat) : (WP Gm j_Law_law 1187 (a0 :: a1 :: some (.inr (.inl x)) :: ls) (st) h Q) = (WP Gm j_Law_law 1188 (a0 :: a1 :: some (.inr (.inl x)) :: ls) (.inr (.inl x) :: st) (h) Q) := (WP_at c_Law_law_1187 _ _ _ _)
set_option maxRecDepth 100000 in
theorem c_Law_law_1188 : mCode j_Law_law 1188 = oCallV kc_Mdl j_Mdl_fairness 0 (mL j_Mdl_fairness) 1191 := (rfl)
theorem e_Law_law_1188 (a : Nat) (hk : isK h a kc_Mdl = true) (hc : c8 st = true) : (WP Gm j_Law_law 1188 (ls) (.inr (.inl (some a)) :: st) h Q) = (WP Gm j_Mdl_fairness 0 [some (.inr (.inl (some a)))] [] h (kC (fun v h2 => WP Gm j_Law_law 1191 ls (v.toList ++ st) h2 Q) (fun E h2 => Q (.inr E) h2))) := (WP_at c_Law_law_1188 _ _ _ _).trans (congrArg (fun o => ndX Gm (WP Gm) j_Law_law 1188 o Q) (if_pos (by rw [hk, show decide (catS st ≤ 8) = true from hc]; rfl)))
set_option maxRecDepth 100000 in
theorem c_Law_law_1191 : mCode j_Law_law 1191 = oDst 7 1193 := (rfl)
theorem e_Law_law_1191 (x : UInt64) : (WP Gm j_Law_law 1191 (ls) (.inr (.inr (.inr x)) :: st) h Q) = (WP Gm j_Law_law 1193 (lSet2 ls 7 (.inr (.inr (.inr x)))) (st) (h) Q) := (WP_at c_Law_law_1191 _ _ _ _)
set_option maxRecDepth 100000 in
theorem c_Law_law_1193 : mCode j_Law_law 1193 = oDld 5 1195 := (rfl)
theorem e_Law_law_1193 (a0 a1 a2 a3 a4 : Option MV) (x : UInt64) : (WP Gm j_Law_law 1193 (a0 :: a1 :: a2 :: a3 :: a4 :: some (.inr (.inr (.inr x))) :: ls) (st) h Q) = (WP Gm j_Law_law 1195 (a0 :: a1 :: a2 :: a3 :: a4 :: some (.inr (.inr (.inr x))) :: ls) (.inr (.inr (.inr x)) :: st) (h) Q) := (WP_at c_Law_law_1193 _ _ _ _)
set_option maxRecDepth 100000 in
theorem c_Law_law_1195 : mCode j_Law_law 1195 = oDld 7 1197 := (rfl)
theorem e_Law_law_1195 (a0 a1 a2 a3 a4 a5 a6 : Option MV) (x : UInt64) : (WP Gm j_Law_law 1195 (a0 :: a1 :: a2 :: a3 :: a4 :: a5 :: a6 :: some (.inr (.inr (.inr x))) :: ls) (st) h Q) = (WP Gm j_Law_law 1197 (a0 :: a1 :: a2 :: a3 :: a4 :: a5 :: a6 :: some (.inr (.inr (.inr x))) :: ls) (.inr (.inr (.inr x)) :: st) (h) Q) := (WP_at c_Law_law_1195 _ _ _ _)
set_option maxRecDepth 100000 in
theorem c_Law_law_1197 : mCode j_Law_law 1197 = oDcmp .l 1198 := (rfl)
theorem e_Law_law_1197 (x y : UInt64) : (WP Gm j_Law_law 1197 (ls) (.inr (.inr (.inr y)) :: .inr (.inr (.inr x)) :: st) h Q) = (WP Gm j_Law_law 1198 (ls) (.inl (Op.cmpValue (FP.dcmp x y) .l) :: st) (h) Q) := (WP_at c_Law_law_1197 _ _ _ _)
set_option maxRecDepth 100000 in
theorem c_Law_law_1198 : mCode j_Law_law 1198 = oIf (fun x => decide (x = 0)) 1219 1201 := (rfl)
theorem e_Law_law_1198 (x : Int32) : (WP Gm j_Law_law 1198 (ls) (.inl x :: st) h Q) = (if x = 0 then WP Gm j_Law_law 1219 (ls) (st) (h) Q else WP Gm j_Law_law 1201 (ls) (st) (h) Q) := (WP_at c_Law_law_1198 _ _ _ _).trans (nd_if rfl _ _ _ _)
set_option maxRecDepth 100000 in
theorem c_Law_law_1201 : mCode j_Law_law 1201 = oDld 5 1203 := (rfl)
theorem e_Law_law_1201 (a0 a1 a2 a3 a4 : Option MV) (x : UInt64) : (WP Gm j_Law_law 1201 (a0 :: a1 :: a2 :: a3 :: a4 :: some (.inr (.inr (.inr x))) :: ls) (st) h Q) = (WP Gm j_Law_law 1203 (a0 :: a1 :: a2 :: a3 :: a4 :: some (.inr (.inr (.inr x))) :: ls) (.inr (.inr (.inr x)) :: st) (h) Q) := (WP_at c_Law_law_1201 _ _ _ _)
set_option maxRecDepth 100000 in
theorem c_Law_law_1203 : mCode j_Law_law 1203 = oDld 5 1205 := (rfl)
theorem e_Law_law_1203 (a0 a1 a2 a3 a4 : Option MV) (x : UInt64) : (WP Gm j_Law_law 1203 (a0 :: a1 :: a2 :: a3 :: a4 :: some (.inr (.inr (.inr x))) :: ls) (st) h Q) = (WP Gm j_Law_law 1205 (a0 :: a1 :: a2 :: a3 :: a4 :: some (.inr (.inr (.inr x))) :: ls) (.inr (.inr (.inr x)) :: st) (h) Q) := (WP_at c_Law_law_1203 _ _ _ _)
set_option maxRecDepth 100000 in
theorem c_Law_law_1205 : mCode j_Law_law 1205 = oDcmp .l 1206 := (rfl)
theorem e_Law_law_1205 (x y : UInt64) : (WP Gm j_Law_law 1205 (ls) (.inr (.inr (.inr y)) :: .inr (.inr (.inr x)) :: st) h Q) = (WP Gm j_Law_law 1206 (ls) (.inl (Op.cmpValue (FP.dcmp x y) .l) :: st) (h) Q) := (WP_at c_Law_law_1205 _ _ _ _)
set_option maxRecDepth 100000 in
theorem c_Law_law_1206 : mCode j_Law_law 1206 = oIf (fun x => decide (x = 0)) 1217 1209 := (rfl)
theorem e_Law_law_1206 (x : Int32) : (WP Gm j_Law_law 1206 (ls) (.inl x :: st) h Q) = (if x = 0 then WP Gm j_Law_law 1217 (ls) (st) (h) Q else WP Gm j_Law_law 1209 (ls) (st) (h) Q) := (WP_at c_Law_law_1206 _ _ _ _).trans (nd_if rfl _ _ _ _)
set_option maxRecDepth 100000 in
theorem c_Law_law_1209 : mCode j_Law_law 1209 = oDld 7 1211 := (rfl)
theorem e_Law_law_1209 (a0 a1 a2 a3 a4 a5 a6 : Option MV) (x : UInt64) : (WP Gm j_Law_law 1209 (a0 :: a1 :: a2 :: a3 :: a4 :: a5 :: a6 :: some (.inr (.inr (.inr x))) :: ls) (st) h Q) = (WP Gm j_Law_law 1211 (a0 :: a1 :: a2 :: a3 :: a4 :: a5 :: a6 :: some (.inr (.inr (.inr x))) :: ls) (.inr (.inr (.inr x)) :: st) (h) Q) := (WP_at c_Law_law_1209 _ _ _ _)
set_option maxRecDepth 100000 in
theorem c_Law_law_1211 : mCode j_Law_law 1211 = oDld 7 1213 := (rfl)
theorem e_Law_law_1211 (a0 a1 a2 a3 a4 a5 a6 : Option MV) (x : UInt64) : (WP Gm j_Law_law 1211 (a0 :: a1 :: a2 :: a3 :: a4 :: a5 :: a6 :: some (.inr (.inr (.inr x))) :: ls) (st) h Q) = (WP Gm j_Law_law 1213 (a0 :: a1 :: a2 :: a3 :: a4 :: a5 :: a6 :: some (.inr (.inr (.inr x))) :: ls) (.inr (.inr (.inr x)) :: st) (h) Q) := (WP_at c_Law_law_1211 _ _ _ _)
set_option maxRecDepth 100000 in
theorem c_Law_law_1213 : mCode j_Law_law 1213 = oDcmp .l 1214 := (rfl)
theorem e_Law_law_1213 (x y : UInt64) : (WP Gm j_Law_law 1213 (ls) (.inr (.inr (.inr y)) :: .inr (.inr (.inr x)) :: st) h Q) = (WP Gm j_Law_law 1214 (ls) (.inl (Op.cmpValue (FP.dcmp x y) .l) :: st) (h) Q) := (WP_at c_Law_law_1213 _ _ _ _)
set_option maxRecDepth 100000 in
theorem c_Law_law_1214 : mCode j_Law_law 1214 = oIf (fun x => decide (¬ x = 0)) 1219 1217 := (rfl)
theorem e_Law_law_1214 (x : Int32) : (WP Gm j_Law_law 1214 (ls) (.inl x :: st) h Q) = (if ¬ x = 0 then WP Gm j_Law_law 1219 (ls) (st) (h) Q else WP Gm j_Law_law 1217 (ls) (st) (h) Q) := (WP_at c_Law_law_1214 _ _ _ _).trans (nd_if rfl _ _ _ _)
set_option maxRecDepth 100000 in
theorem c_Law_law_1217 : mCode j_Law_law 1217 = oI 0 1218 := (rfl)
theorem e_Law_law_1217  : (WP Gm j_Law_law 1217 (ls) (st) h Q) = (WP Gm j_Law_law 1218 (ls) (.inl 0 :: st) (h) Q) := (WP_at c_Law_law_1217 _ _ _ _)
set_option maxRecDepth 100000 in
theorem c_Law_law_1218 : mCode j_Law_law 1218 = oRetZ := (rfl)
theorem e_Law_law_1218 (x : Int32) (hx : x = 0 ∨ x = 1) : (WP Gm j_Law_law 1218 (ls) ([.inl x]) h Q) = (Q (.inl (some (.inl x))) h) := (WP_at c_Law_law_1218 _ _ _ _).trans (congrArg (fun o => ndX Gm (WP Gm) j_Law_law 1218 o Q) (if_pos (by rcases hx with rfl | rfl <;> rfl)))
set_option maxRecDepth 100000 in
theorem c_Law_law_1219 : mCode j_Law_law 1219 = oGo 1549 := (rfl)
theorem e_Law_law_1219  : (WP Gm j_Law_law 1219 (ls) (st) h Q) = (WP Gm j_Law_law 1549 (ls) (st) (h) Q) := (WP_at c_Law_law_1219 _ _ _ _)
set_option maxRecDepth 100000 in
theorem c_Law_law_1222 : mCode j_Law_law 1222 = oAld 1 1223 := (rfl)
theorem e_Law_law_1222 (a0 : Option MV) (x : Option Nat) : (WP Gm j_Law_law 1222 (a0 :: some (.inr (.inl x)) :: ls) (st) h Q) = (WP Gm j_Law_law 1223 (a0 :: some (.inr (.inl x)) :: ls) (.inr (.inl x) :: st) (h) Q) := (WP_at c_Law_law_1222 _ _ _ _)
set_option maxRecDepth 100000 in
theorem c_Law_law_1223 : mCode j_Law_law 1223 = oCallV kc_S j_S_row 0 (mL j_S_row) 1226 := (rfl)
theorem e_Law_law_1223 (a : Nat) (hk : isK h a kc_S = true) (hc : c8 st = true) : (WP Gm j_Law_law 1223 (ls) (.inr (.inl (some a)) :: st) h Q) = (WP Gm j_S_row 0 [some (.inr (.inl (some a))), none, none] [] h (kC (fun v h2 => WP Gm j_Law_law 1226 ls (v.toList ++ st) h2 Q) (fun E h2 => Q (.inr E) h2))) := (WP_at c_Law_law_1223 _ _ _ _).trans (congrArg (fun o => ndX Gm (WP Gm) j_Law_law 1223 o Q) (if_pos (by rw [hk, show decide (catS st ≤ 8) = true from hc]; rfl)))
set_option maxRecDepth 100000 in
theorem c_Law_law_1226 : mCode j_Law_law 1226 = oAld 2 1227 := (rfl)
theorem e_Law_law_1226 (a0 a1 : Option MV) (x : Option Nat) : (WP Gm j_Law_law 1226 (a0 :: a1 :: some (.inr (.inl x)) :: ls) (st) h Q) = (WP Gm j_Law_law 1227 (a0 :: a1 :: some (.inr (.inl x)) :: ls) (.inr (.inl x) :: st) (h) Q) := (WP_at c_Law_law_1226 _ _ _ _)
set_option maxRecDepth 100000 in
theorem c_Law_law_1227 : mCode j_Law_law 1227 = oCallV kc_Mdl j_Mdl_row 0 (mL j_Mdl_row) 1230 := (rfl)
theorem e_Law_law_1227 (a : Nat) (hk : isK h a kc_Mdl = true) (hc : c8 st = true) : (WP Gm j_Law_law 1227 (ls) (.inr (.inl (some a)) :: st) h Q) = (WP Gm j_Mdl_row 0 [some (.inr (.inl (some a))), none, none, none] [] h (kC (fun v h2 => WP Gm j_Law_law 1230 ls (v.toList ++ st) h2 Q) (fun E h2 => Q (.inr E) h2))) := (WP_at c_Law_law_1227 _ _ _ _).trans (congrArg (fun o => ndX Gm (WP Gm) j_Law_law 1227 o Q) (if_pos (by rw [hk, show decide (catS st ≤ 8) = true from hc]; rfl)))
set_option maxRecDepth 100000 in
theorem c_Law_law_1230 : mCode j_Law_law 1230 = oCallV kc_String j_String_equals 1 (mL j_String_equals) 1233 := (rfl)
theorem e_Law_law_1230 (a : Nat) (x0 : Option Nat) (hk : isK h a kc_String = true) (hc : c8 st = true) : (WP Gm j_Law_law 1230 (ls) (.inr (.inl x0) :: .inr (.inl (some a)) :: st) h Q) = (WP Gm j_String_equals 0 [some (.inr (.inl (some a))), some (.inr (.inl x0)), none] [] h (kC (fun v h2 => WP Gm j_Law_law 1233 ls (v.toList ++ st) h2 Q) (fun E h2 => Q (.inr E) h2))) := (WP_at c_Law_law_1230 _ _ _ _).trans (congrArg (fun o => ndX Gm (WP Gm) j_Law_law 1230 o Q) (if_pos (by rw [hk, show decide (catS st ≤ 8) = true from hc]; rfl)))
set_option maxRecDepth 100000 in
theorem c_Law_law_1233 : mCode j_Law_law 1233 = oIf (fun x => decide (¬ x = 0)) 1549 1236 := (rfl)
theorem e_Law_law_1233 (x : Int32) : (WP Gm j_Law_law 1233 (ls) (.inl x :: st) h Q) = (if ¬ x = 0 then WP Gm j_Law_law 1549 (ls) (st) (h) Q else WP Gm j_Law_law 1236 (ls) (st) (h) Q) := (WP_at c_Law_law_1233 _ _ _ _).trans (nd_if rfl _ _ _ _)
set_option maxRecDepth 100000 in
theorem c_Law_law_1236 : mCode j_Law_law 1236 = oI 0 1237 := (rfl)
theorem e_Law_law_1236  : (WP Gm j_Law_law 1236 (ls) (st) h Q) = (WP Gm j_Law_law 1237 (ls) (.inl 0 :: st) (h) Q) := (WP_at c_Law_law_1236 _ _ _ _)
set_option maxRecDepth 100000 in
theorem c_Law_law_1237 : mCode j_Law_law 1237 = oRetZ := (rfl)
theorem e_Law_law_1237 (x : Int32) (hx : x = 0 ∨ x = 1) : (WP Gm j_Law_law 1237 (ls) ([.inl x]) h Q) = (Q (.inl (some (.inl x))) h) := (WP_at c_Law_law_1237 _ _ _ _).trans (congrArg (fun o => ndX Gm (WP Gm) j_Law_law 1237 o Q) (if_pos (by rcases hx with rfl | rfl <;> rfl)))
set_option maxRecDepth 100000 in
theorem c_Law_law_1238 : mCode j_Law_law 1238 = oAld 1 1239 := (rfl)
theorem e_Law_law_1238 (a0 : Option MV) (x : Option Nat) : (WP Gm j_Law_law 1238 (a0 :: some (.inr (.inl x)) :: ls) (st) h Q) = (WP Gm j_Law_law 1239 (a0 :: some (.inr (.inl x)) :: ls) (.inr (.inl x) :: st) (h) Q) := (WP_at c_Law_law_1238 _ _ _ _)
set_option maxRecDepth 100000 in
theorem c_Law_law_1239 : mCode j_Law_law 1239 = oAld 0 1240 := (rfl)
theorem e_Law_law_1239 (x : Option Nat) : (WP Gm j_Law_law 1239 (some (.inr (.inl x)) :: ls) (st) h Q) = (WP Gm j_Law_law 1240 (some (.inr (.inl x)) :: ls) (.inr (.inl x) :: st) (h) Q) := (WP_at c_Law_law_1239 _ _ _ _)
set_option maxRecDepth 100000 in
theorem c_Law_law_1240 : mCode j_Law_law 1240 = oIld 4 1242 := (rfl)
theorem e_Law_law_1240 (a0 a1 a2 a3 : Option MV) (x : Int32) : (WP Gm j_Law_law 1240 (a0 :: a1 :: a2 :: a3 :: some (.inl x) :: ls) (st) h Q) = (WP Gm j_Law_law 1242 (a0 :: a1 :: a2 :: a3 :: some (.inl x) :: ls) (.inl x :: st) (h) Q) := (WP_at c_Law_law_1240 _ _ _ _)
set_option maxRecDepth 100000 in
theorem c_Law_law_1242 : mCode j_Law_law 1242 = oI 1 1243 := (rfl)
theorem e_Law_law_1242  : (WP Gm j_Law_law 1242 (ls) (st) h Q) = (WP Gm j_Law_law 1243 (ls) (.inl 1 :: st) (h) Q) := (WP_at c_Law_law_1242 _ _ _ _)
set_option maxRecDepth 100000 in
theorem c_Law_law_1243 : mCode j_Law_law 1243 = oII (fun x y => x + y) 1244 := (rfl)
theorem e_Law_law_1243 (x : Int32) (y : Int32) : (WP Gm j_Law_law 1243 (ls) (.inl y :: .inl x :: st) h Q) = (WP Gm j_Law_law 1244 (ls) (.inl (x + y) :: st) (h) Q) := (WP_at c_Law_law_1243 _ _ _ _)
set_option maxRecDepth 100000 in
theorem c_Law_law_1244 : mCode j_Law_law 1244 = oIal 0 1245 := (rfl)
theorem e_Law_law_1244 (a : Nat) (i : Int32) (hk : isK h a 100 = true) (hi : inL h a i = true) : (WP Gm j_Law_law 1244 (ls) (.inl i :: .inr (.inl (some a)) :: st) h Q) = (WP Gm j_Law_law 1245 (ls) (.inl (gI h a i.toNatClampNeg) :: st) (h) Q) := (WP_at c_Law_law_1244 _ _ _ _).trans (congrArg (fun o => ndX Gm (WP Gm) j_Law_law 1244 o Q) (if_pos (by rw [hk, hi]; rfl)))
set_option maxRecDepth 100000 in
theorem c_Law_law_1245 : mCode j_Law_law 1245 = oAld 0 1246 := (rfl)
theorem e_Law_law_1245 (x : Option Nat) : (WP Gm j_Law_law 1245 (some (.inr (.inl x)) :: ls) (st) h Q) = (WP Gm j_Law_law 1246 (some (.inr (.inl x)) :: ls) (.inr (.inl x) :: st) (h) Q) := (WP_at c_Law_law_1245 _ _ _ _)
set_option maxRecDepth 100000 in
theorem c_Law_law_1246 : mCode j_Law_law 1246 = oIld 4 1248 := (rfl)
theorem e_Law_law_1246 (a0 a1 a2 a3 : Option MV) (x : Int32) : (WP Gm j_Law_law 1246 (a0 :: a1 :: a2 :: a3 :: some (.inl x) :: ls) (st) h Q) = (WP Gm j_Law_law 1248 (a0 :: a1 :: a2 :: a3 :: some (.inl x) :: ls) (.inl x :: st) (h) Q) := (WP_at c_Law_law_1246 _ _ _ _)
set_option maxRecDepth 100000 in
theorem c_Law_law_1248 : mCode j_Law_law 1248 = oI 2 1249 := (rfl)
theorem e_Law_law_1248  : (WP Gm j_Law_law 1248 (ls) (st) h Q) = (WP Gm j_Law_law 1249 (ls) (.inl 2 :: st) (h) Q) := (WP_at c_Law_law_1248 _ _ _ _)
set_option maxRecDepth 100000 in
theorem c_Law_law_1249 : mCode j_Law_law 1249 = oII (fun x y => x + y) 1250 := (rfl)
theorem e_Law_law_1249 (x : Int32) (y : Int32) : (WP Gm j_Law_law 1249 (ls) (.inl y :: .inl x :: st) h Q) = (WP Gm j_Law_law 1250 (ls) (.inl (x + y) :: st) (h) Q) := (WP_at c_Law_law_1249 _ _ _ _)
set_option maxRecDepth 100000 in
theorem c_Law_law_1250 : mCode j_Law_law 1250 = oIal 0 1251 := (rfl)
theorem e_Law_law_1250 (a : Nat) (i : Int32) (hk : isK h a 100 = true) (hi : inL h a i = true) : (WP Gm j_Law_law 1250 (ls) (.inl i :: .inr (.inl (some a)) :: st) h Q) = (WP Gm j_Law_law 1251 (ls) (.inl (gI h a i.toNatClampNeg) :: st) (h) Q) := (WP_at c_Law_law_1250 _ _ _ _).trans (congrArg (fun o => ndX Gm (WP Gm) j_Law_law 1250 o Q) (if_pos (by rw [hk, hi]; rfl)))
set_option maxRecDepth 100000 in
theorem c_Law_law_1251 : mCode j_Law_law 1251 = oAld 3 1252 := (rfl)
theorem e_Law_law_1251 (a0 a1 a2 : Option MV) (x : Option Nat) : (WP Gm j_Law_law 1251 (a0 :: a1 :: a2 :: some (.inr (.inl x)) :: ls) (st) h Q) = (WP Gm j_Law_law 1252 (a0 :: a1 :: a2 :: some (.inr (.inl x)) :: ls) (.inr (.inl x) :: st) (h) Q) := (WP_at c_Law_law_1251 _ _ _ _)
set_option maxRecDepth 100000 in
theorem c_Law_law_1252 : mCode j_Law_law 1252 = oCallS j_Law_would 4 (mL j_Law_would) 1255 := (rfl)
theorem e_Law_law_1252 (x0 : Option Nat) (x1 : Int32) (x2 : Int32) (x3 : Option Nat) (hc : c8 st = true) : (WP Gm j_Law_law 1252 (ls) (.inr (.inl x3) :: .inl x2 :: .inl x1 :: .inr (.inl x0) :: st) h Q) = (WP Gm j_Law_would 0 [some (.inr (.inl x0)), some (.inl x1), some (.inl x2), some (.inr (.inl x3)), none] [] h (kC (fun v h2 => WP Gm j_Law_law 1255 ls (v.toList ++ st) h2 Q) (fun E h2 => Q (.inr E) h2))) := (WP_at c_Law_law_1252 _ _ _ _).trans (congrArg (fun o => ndX Gm (WP Gm) j_Law_law 1252 o Q) (if_pos (by rw [show decide (catS st ≤ 8) = true from hc]; rfl)))
set_option maxRecDepth 100000 in
theorem c_Law_law_1255 : mCode j_Law_law 1255 = oIst 5 1257 := (rfl)
theorem e_Law_law_1255 (x : Int32) : (WP Gm j_Law_law 1255 (ls) (.inl x :: st) h Q) = (WP Gm j_Law_law 1257 (lSet1 ls 5 (some (.inl x))) (st) (h) Q) := (WP_at c_Law_law_1255 _ _ _ _)
set_option maxRecDepth 100000 in
theorem c_Law_law_1257 : mCode j_Law_law 1257 = oAld 2 1258 := (rfl)
theorem e_Law_law_1257 (a0 a1 : Option MV) (x : Option Nat) : (WP Gm j_Law_law 1257 (a0 :: a1 :: some (.inr (.inl x)) :: ls) (st) h Q) = (WP Gm j_Law_law 1258 (a0 :: a1 :: some (.inr (.inl x)) :: ls) (.inr (.inl x) :: st) (h) Q) := (WP_at c_Law_law_1257 _ _ _ _)
set_option maxRecDepth 100000 in
theorem c_Law_law_1258 : mCode j_Law_law 1258 = oAld 0 1259 := (rfl)
theorem e_Law_law_1258 (x : Option Nat) : (WP Gm j_Law_law 1258 (some (.inr (.inl x)) :: ls) (st) h Q) = (WP Gm j_Law_law 1259 (some (.inr (.inl x)) :: ls) (.inr (.inl x) :: st) (h) Q) := (WP_at c_Law_law_1258 _ _ _ _)
set_option maxRecDepth 100000 in
theorem c_Law_law_1259 : mCode j_Law_law 1259 = oIld 4 1261 := (rfl)
theorem e_Law_law_1259 (a0 a1 a2 a3 : Option MV) (x : Int32) : (WP Gm j_Law_law 1259 (a0 :: a1 :: a2 :: a3 :: some (.inl x) :: ls) (st) h Q) = (WP Gm j_Law_law 1261 (a0 :: a1 :: a2 :: a3 :: some (.inl x) :: ls) (.inl x :: st) (h) Q) := (WP_at c_Law_law_1259 _ _ _ _)
set_option maxRecDepth 100000 in
theorem c_Law_law_1261 : mCode j_Law_law 1261 = oI 1 1262 := (rfl)
theorem e_Law_law_1261  : (WP Gm j_Law_law 1261 (ls) (st) h Q) = (WP Gm j_Law_law 1262 (ls) (.inl 1 :: st) (h) Q) := (WP_at c_Law_law_1261 _ _ _ _)
set_option maxRecDepth 100000 in
theorem c_Law_law_1262 : mCode j_Law_law 1262 = oII (fun x y => x + y) 1263 := (rfl)
theorem e_Law_law_1262 (x : Int32) (y : Int32) : (WP Gm j_Law_law 1262 (ls) (.inl y :: .inl x :: st) h Q) = (WP Gm j_Law_law 1263 (ls) (.inl (x + y) :: st) (h) Q) := (WP_at c_Law_law_1262 _ _ _ _)
set_option maxRecDepth 100000 in
theorem c_Law_law_1263 : mCode j_Law_law 1263 = oIal 0 1264 := (rfl)
theorem e_Law_law_1263 (a : Nat) (i : Int32) (hk : isK h a 100 = true) (hi : inL h a i = true) : (WP Gm j_Law_law 1263 (ls) (.inl i :: .inr (.inl (some a)) :: st) h Q) = (WP Gm j_Law_law 1264 (ls) (.inl (gI h a i.toNatClampNeg) :: st) (h) Q) := (WP_at c_Law_law_1263 _ _ _ _).trans (congrArg (fun o => ndX Gm (WP Gm) j_Law_law 1263 o Q) (if_pos (by rw [hk, hi]; rfl)))
set_option maxRecDepth 100000 in
theorem c_Law_law_1264 : mCode j_Law_law 1264 = oAld 0 1265 := (rfl)
theorem e_Law_law_1264 (x : Option Nat) : (WP Gm j_Law_law 1264 (some (.inr (.inl x)) :: ls) (st) h Q) = (WP Gm j_Law_law 1265 (some (.inr (.inl x)) :: ls) (.inr (.inl x) :: st) (h) Q) := (WP_at c_Law_law_1264 _ _ _ _)
set_option maxRecDepth 100000 in
theorem c_Law_law_1265 : mCode j_Law_law 1265 = oIld 4 1267 := (rfl)
theorem e_Law_law_1265 (a0 a1 a2 a3 : Option MV) (x : Int32) : (WP Gm j_Law_law 1265 (a0 :: a1 :: a2 :: a3 :: some (.inl x) :: ls) (st) h Q) = (WP Gm j_Law_law 1267 (a0 :: a1 :: a2 :: a3 :: some (.inl x) :: ls) (.inl x :: st) (h) Q) := (WP_at c_Law_law_1265 _ _ _ _)
set_option maxRecDepth 100000 in
theorem c_Law_law_1267 : mCode j_Law_law 1267 = oI 2 1268 := (rfl)
theorem e_Law_law_1267  : (WP Gm j_Law_law 1267 (ls) (st) h Q) = (WP Gm j_Law_law 1268 (ls) (.inl 2 :: st) (h) Q) := (WP_at c_Law_law_1267 _ _ _ _)
set_option maxRecDepth 100000 in
theorem c_Law_law_1268 : mCode j_Law_law 1268 = oII (fun x y => x + y) 1269 := (rfl)
theorem e_Law_law_1268 (x : Int32) (y : Int32) : (WP Gm j_Law_law 1268 (ls) (.inl y :: .inl x :: st) h Q) = (WP Gm j_Law_law 1269 (ls) (.inl (x + y) :: st) (h) Q) := (WP_at c_Law_law_1268 _ _ _ _)
set_option maxRecDepth 100000 in
theorem c_Law_law_1269 : mCode j_Law_law 1269 = oIal 0 1270 := (rfl)
theorem e_Law_law_1269 (a : Nat) (i : Int32) (hk : isK h a 100 = true) (hi : inL h a i = true) : (WP Gm j_Law_law 1269 (ls) (.inl i :: .inr (.inl (some a)) :: st) h Q) = (WP Gm j_Law_law 1270 (ls) (.inl (gI h a i.toNatClampNeg) :: st) (h) Q) := (WP_at c_Law_law_1269 _ _ _ _).trans (congrArg (fun o => ndX Gm (WP Gm) j_Law_law 1269 o Q) (if_pos (by rw [hk, hi]; rfl)))
set_option maxRecDepth 100000 in
theorem c_Law_law_1270 : mCode j_Law_law 1270 = oCallV kc_Mdl j_Mdl_would 2 (mL j_Mdl_would) 1273 := (rfl)
theorem e_Law_law_1270 (a : Nat) (x0 : Int32) (x1 : Int32) (hk : isK h a kc_Mdl = true) (hc : c8 st = true) : (WP Gm j_Law_law 1270 (ls) (.inl x1 :: .inl x0 :: .inr (.inl (some a)) :: st) h Q) = (WP Gm j_Mdl_would 0 [some (.inr (.inl (some a))), some (.inl x0), some (.inl x1), none] [] h (kC (fun v h2 => WP Gm j_Law_law 1273 ls (v.toList ++ st) h2 Q) (fun E h2 => Q (.inr E) h2))) := (WP_at c_Law_law_1270 _ _ _ _).trans (congrArg (fun o => ndX Gm (WP Gm) j_Law_law 1270 o Q) (if_pos (by rw [hk, show decide (catS st ≤ 8) = true from hc]; rfl)))
set_option maxRecDepth 100000 in
theorem c_Law_law_1273 : mCode j_Law_law 1273 = oIst 6 1275 := (rfl)
theorem e_Law_law_1273 (x : Int32) : (WP Gm j_Law_law 1273 (ls) (.inl x :: st) h Q) = (WP Gm j_Law_law 1275 (lSet1 ls 6 (some (.inl x))) (st) (h) Q) := (WP_at c_Law_law_1273 _ _ _ _)
set_option maxRecDepth 100000 in
theorem c_Law_law_1275 : mCode j_Law_law 1275 = oAld 2 1276 := (rfl)
theorem e_Law_law_1275 (a0 a1 : Option MV) (x : Option Nat) : (WP Gm j_Law_law 1275 (a0 :: a1 :: some (.inr (.inl x)) :: ls) (st) h Q) = (WP Gm j_Law_law 1276 (a0 :: a1 :: some (.inr (.inl x)) :: ls) (.inr (.inl x) :: st) (h) Q) := (WP_at c_Law_law_1275 _ _ _ _)
set_option maxRecDepth 100000 in
theorem c_Law_law_1276 : mCode j_Law_law 1276 = oCallV kc_Mdl j_Mdl_thrown 0 (mL j_Mdl_thrown) 1279 := (rfl)
theorem e_Law_law_1276 (a : Nat) (hk : isK h a kc_Mdl = true) (hc : c8 st = true) : (WP Gm j_Law_law 1276 (ls) (.inr (.inl (some a)) :: st) h Q) = (WP Gm j_Mdl_thrown 0 [some (.inr (.inl (some a)))] [] h (kC (fun v h2 => WP Gm j_Law_law 1279 ls (v.toList ++ st) h2 Q) (fun E h2 => Q (.inr E) h2))) := (WP_at c_Law_law_1276 _ _ _ _).trans (congrArg (fun o => ndX Gm (WP Gm) j_Law_law 1276 o Q) (if_pos (by rw [hk, show decide (catS st ≤ 8) = true from hc]; rfl)))
set_option maxRecDepth 100000 in
theorem c_Law_law_1279 : mCode j_Law_law 1279 = oIld 5 1281 := (rfl)
theorem e_Law_law_1279 (a0 a1 a2 a3 a4 : Option MV) (x : Int32) : (WP Gm j_Law_law 1279 (a0 :: a1 :: a2 :: a3 :: a4 :: some (.inl x) :: ls) (st) h Q) = (WP Gm j_Law_law 1281 (a0 :: a1 :: a2 :: a3 :: a4 :: some (.inl x) :: ls) (.inl x :: st) (h) Q) := (WP_at c_Law_law_1279 _ _ _ _)
set_option maxRecDepth 100000 in
theorem c_Law_law_1281 : mCode j_Law_law 1281 = oIC (fun x y => decide (x = y)) 1286 1284 := (rfl)
theorem e_Law_law_1281 (x y : Int32) : (WP Gm j_Law_law 1281 (ls) (.inl y :: .inl x :: st) h Q) = (if x = y then WP Gm j_Law_law 1286 (ls) (st) (h) Q else WP Gm j_Law_law 1284 (ls) (st) (h) Q) := (WP_at c_Law_law_1281 _ _ _ _).trans (nd_ic rfl _ _ _ _)
set_option maxRecDepth 100000 in
theorem c_Law_law_1284 : mCode j_Law_law 1284 = oI 0 1285 := (rfl)
theorem e_Law_law_1284  : (WP Gm j_Law_law 1284 (ls) (st) h Q) = (WP Gm j_Law_law 1285 (ls) (.inl 0 :: st) (h) Q) := (WP_at c_Law_law_1284 _ _ _ _)
set_option maxRecDepth 100000 in
theorem c_Law_law_1285 : mCode j_Law_law 1285 = oRetZ := (rfl)
theorem e_Law_law_1285 (x : Int32) (hx : x = 0 ∨ x = 1) : (WP Gm j_Law_law 1285 (ls) ([.inl x]) h Q) = (Q (.inl (some (.inl x))) h) := (WP_at c_Law_law_1285 _ _ _ _).trans (congrArg (fun o => ndX Gm (WP Gm) j_Law_law 1285 o Q) (if_pos (by rcases hx with rfl | rfl <;> rfl)))
set_option maxRecDepth 100000 in
theorem c_Law_law_1286 : mCode j_Law_law 1286 = oIld 5 1288 := (rfl)
theorem e_Law_law_1286 (a0 a1 a2 a3 a4 : Option MV) (x : Int32) : (WP Gm j_Law_law 1286 (a0 :: a1 :: a2 :: a3 :: a4 :: some (.inl x) :: ls) (st) h Q) = (WP Gm j_Law_law 1288 (a0 :: a1 :: a2 :: a3 :: a4 :: some (.inl x) :: ls) (.inl x :: st) (h) Q) := (WP_at c_Law_law_1286 _ _ _ _)
set_option maxRecDepth 100000 in
theorem c_Law_law_1288 : mCode j_Law_law 1288 = oIf (fun x => decide (¬ x = 0)) 1304 1291 := (rfl)
theorem e_Law_law_1288 (x : Int32) : (WP Gm j_Law_law 1288 (ls) (.inl x :: st) h Q) = (if ¬ x = 0 then WP Gm j_Law_law 1304 (ls) (st) (h) Q else WP Gm j_Law_law 1291 (ls) (st) (h) Q) := (WP_at c_Law_law_1288 _ _ _ _).trans (nd_if rfl _ _ _ _)
set_option maxRecDepth 100000 in
theorem c_Law_law_1291 : mCode j_Law_law 1291 = oAld 3 1292 := (rfl)
theorem e_Law_law_1291 (a0 a1 a2 : Option MV) (x : Option Nat) : (WP Gm j_Law_law 1291 (a0 :: a1 :: a2 :: some (.inr (.inl x)) :: ls) (st) h Q) = (WP Gm j_Law_law 1292 (a0 :: a1 :: a2 :: some (.inr (.inl x)) :: ls) (.inr (.inl x) :: st) (h) Q) := (WP_at c_Law_law_1291 _ _ _ _)
set_option maxRecDepth 100000 in
theorem c_Law_law_1292 : mCode j_Law_law 1292 = oGetL kc_Out 0 1295 := (rfl)
theorem e_Law_law_1292 (a : Nat) (hk : isK h a kc_Out = true) : (WP Gm j_Law_law 1292 (ls) (.inr (.inl (some a)) :: st) h Q) = (WP Gm j_Law_law 1295 (ls) (.inr (.inr (.inl (gL h a 0))) :: st) (h) Q) := (WP_at c_Law_law_1292 _ _ _ _).trans (congrArg (fun o => ndX Gm (WP Gm) j_Law_law 1292 o Q) (if_pos hk))
set_option maxRecDepth 100000 in
theorem c_Law_law_1295 : mCode j_Law_law 1295 = oIld 6 1297 := (rfl)
theorem e_Law_law_1295 (a0 a1 a2 a3 a4 a5 : Option MV) (x : Int32) : (WP Gm j_Law_law 1295 (a0 :: a1 :: a2 :: a3 :: a4 :: a5 :: some (.inl x) :: ls) (st) h Q) = (WP Gm j_Law_law 1297 (a0 :: a1 :: a2 :: a3 :: a4 :: a5 :: some (.inl x) :: ls) (.inl x :: st) (h) Q) := (WP_at c_Law_law_1295 _ _ _ _)
set_option maxRecDepth 100000 in
theorem c_Law_law_1297 : mCode j_Law_law 1297 = oI2L 1298 := (rfl)
theorem e_Law_law_1297 (x : Int32) : (WP Gm j_Law_law 1297 (ls) (.inl x :: st) h Q) = (WP Gm j_Law_law 1298 (ls) (.inr (.inr (.inl x.toInt64)) :: st) (h) Q) := (WP_at c_Law_law_1297 _ _ _ _)
set_option maxRecDepth 100000 in
theorem c_Law_law_1298 : mCode j_Law_law 1298 = oLcmp 1299 := (rfl)
theorem e_Law_law_1298 (x y : Int64) : (WP Gm j_Law_law 1298 (ls) (.inr (.inr (.inl y)) :: .inr (.inr (.inl x)) :: st) h Q) = (WP Gm j_Law_law 1299 (ls) (.inl (lg_cmp x y) :: st) (h) Q) := (WP_at c_Law_law_1298 _ _ _ _)
set_option maxRecDepth 100000 in
theorem c_Law_law_1299 : mCode j_Law_law 1299 = oIf (fun x => decide (x = 0)) 1304 1302 := (rfl)
theorem e_Law_law_1299 (x : Int32) : (WP Gm j_Law_law 1299 (ls) (.inl x :: st) h Q) = (if x = 0 then WP Gm j_Law_law 1304 (ls) (st) (h) Q else WP Gm j_Law_law 1302 (ls) (st) (h) Q) := (WP_at c_Law_law_1299 _ _ _ _).trans (nd_if rfl _ _ _ _)
set_option maxRecDepth 100000 in
theorem c_Law_law_1302 : mCode j_Law_law 1302 = oI 0 1303 := (rfl)
theorem e_Law_law_1302  : (WP Gm j_Law_law 1302 (ls) (st) h Q) = (WP Gm j_Law_law 1303 (ls) (.inl 0 :: st) (h) Q) := (WP_at c_Law_law_1302 _ _ _ _)
set_option maxRecDepth 100000 in
theorem c_Law_law_1303 : mCode j_Law_law 1303 = oRetZ := (rfl)
theorem e_Law_law_1303 (x : Int32) (hx : x = 0 ∨ x = 1) : (WP Gm j_Law_law 1303 (ls) ([.inl x]) h Q) = (Q (.inl (some (.inl x))) h) := (WP_at c_Law_law_1303 _ _ _ _).trans (congrArg (fun o => ndX Gm (WP Gm) j_Law_law 1303 o Q) (if_pos (by rcases hx with rfl | rfl <;> rfl)))
set_option maxRecDepth 100000 in
theorem c_Law_law_1304 : mCode j_Law_law 1304 = oGo 1549 := (rfl)
theorem e_Law_law_1304  : (WP Gm j_Law_law 1304 (ls) (st) h Q) = (WP Gm j_Law_law 1549 (ls) (st) (h) Q) := (WP_at c_Law_law_1304 _ _ _ _)
set_option maxRecDepth 100000 in
theorem c_Law_law_1307 : mCode j_Law_law 1307 = oAld 1 1308 := (rfl)
theorem e_Law_law_1307 (a0 : Option MV) (x : Option Nat) : (WP Gm j_Law_law 1307 (a0 :: some (.inr (.inl x)) :: ls) (st) h Q) = (WP Gm j_Law_law 1308 (a0 :: some (.inr (.inl x)) :: ls) (.inr (.inl x) :: st) (h) Q) := (WP_at c_Law_law_1307 _ _ _ _)
set_option maxRecDepth 100000 in
theorem c_Law_law_1308 : mCode j_Law_law 1308 = oAld 0 1309 := (rfl)
theorem e_Law_law_1308 (x : Option Nat) : (WP Gm j_Law_law 1308 (some (.inr (.inl x)) :: ls) (st) h Q) = (WP Gm j_Law_law 1309 (some (.inr (.inl x)) :: ls) (.inr (.inl x) :: st) (h) Q) := (WP_at c_Law_law_1308 _ _ _ _)
set_option maxRecDepth 100000 in
theorem c_Law_law_1309 : mCode j_Law_law 1309 = oIld 4 1311 := (rfl)
theorem e_Law_law_1309 (a0 a1 a2 a3 : Option MV) (x : Int32) : (WP Gm j_Law_law 1309 (a0 :: a1 :: a2 :: a3 :: some (.inl x) :: ls) (st) h Q) = (WP Gm j_Law_law 1311 (a0 :: a1 :: a2 :: a3 :: some (.inl x) :: ls) (.inl x :: st) (h) Q) := (WP_at c_Law_law_1309 _ _ _ _)
set_option maxRecDepth 100000 in
theorem c_Law_law_1311 : mCode j_Law_law 1311 = oI 1 1312 := (rfl)
theorem e_Law_law_1311  : (WP Gm j_Law_law 1311 (ls) (st) h Q) = (WP Gm j_Law_law 1312 (ls) (.inl 1 :: st) (h) Q) := (WP_at c_Law_law_1311 _ _ _ _)
set_option maxRecDepth 100000 in
theorem c_Law_law_1312 : mCode j_Law_law 1312 = oII (fun x y => x + y) 1313 := (rfl)
theorem e_Law_law_1312 (x : Int32) (y : Int32) : (WP Gm j_Law_law 1312 (ls) (.inl y :: .inl x :: st) h Q) = (WP Gm j_Law_law 1313 (ls) (.inl (x + y) :: st) (h) Q) := (WP_at c_Law_law_1312 _ _ _ _)
set_option maxRecDepth 100000 in
theorem c_Law_law_1313 : mCode j_Law_law 1313 = oIal 0 1314 := (rfl)
theorem e_Law_law_1313 (a : Nat) (i : Int32) (hk : isK h a 100 = true) (hi : inL h a i = true) : (WP Gm j_Law_law 1313 (ls) (.inl i :: .inr (.inl (some a)) :: st) h Q) = (WP Gm j_Law_law 1314 (ls) (.inl (gI h a i.toNatClampNeg) :: st) (h) Q) := (WP_at c_Law_law_1313 _ _ _ _).trans (congrArg (fun o => ndX Gm (WP Gm) j_Law_law 1313 o Q) (if_pos (by rw [hk, hi]; rfl)))
set_option maxRecDepth 100000 in
theorem c_Law_law_1314 : mCode j_Law_law 1314 = oAld 0 1315 := (rfl)
theorem e_Law_law_1314 (x : Option Nat) : (WP Gm j_Law_law 1314 (some (.inr (.inl x)) :: ls) (st) h Q) = (WP Gm j_Law_law 1315 (some (.inr (.inl x)) :: ls) (.inr (.inl x) :: st) (h) Q) := (WP_at c_Law_law_1314 _ _ _ _)
set_option maxRecDepth 100000 in
theorem c_Law_law_1315 : mCode j_Law_law 1315 = oIld 4 1317 := (rfl)
theorem e_Law_law_1315 (a0 a1 a2 a3 : Option MV) (x : Int32) : (WP Gm j_Law_law 1315 (a0 :: a1 :: a2 :: a3 :: some (.inl x) :: ls) (st) h Q) = (WP Gm j_Law_law 1317 (a0 :: a1 :: a2 :: a3 :: some (.inl x) :: ls) (.inl x :: st) (h) Q) := (WP_at c_Law_law_1315 _ _ _ _)
set_option maxRecDepth 100000 in
theorem c_Law_law_1317 : mCode j_Law_law 1317 = oI 2 1318 := (rfl)
theorem e_Law_law_1317  : (WP Gm j_Law_law 1317 (ls) (st) h Q) = (WP Gm j_Law_law 1318 (ls) (.inl 2 :: st) (h) Q) := (WP_at c_Law_law_1317 _ _ _ _)
set_option maxRecDepth 100000 in
theorem c_Law_law_1318 : mCode j_Law_law 1318 = oII (fun x y => x + y) 1319 := (rfl)
theorem e_Law_law_1318 (x : Int32) (y : Int32) : (WP Gm j_Law_law 1318 (ls) (.inl y :: .inl x :: st) h Q) = (WP Gm j_Law_law 1319 (ls) (.inl (x + y) :: st) (h) Q) := (WP_at c_Law_law_1318 _ _ _ _)
set_option maxRecDepth 100000 in
theorem c_Law_law_1319 : mCode j_Law_law 1319 = oIal 0 1320 := (rfl)
theorem e_Law_law_1319 (a : Nat) (i : Int32) (hk : isK h a 100 = true) (hi : inL h a i = true) : (WP Gm j_Law_law 1319 (ls) (.inl i :: .inr (.inl (some a)) :: st) h Q) = (WP Gm j_Law_law 1320 (ls) (.inl (gI h a i.toNatClampNeg) :: st) (h) Q) := (WP_at c_Law_law_1319 _ _ _ _).trans (congrArg (fun o => ndX Gm (WP Gm) j_Law_law 1319 o Q) (if_pos (by rw [hk, hi]; rfl)))
set_option maxRecDepth 100000 in
theorem c_Law_law_1320 : mCode j_Law_law 1320 = oAld 3 1321 := (rfl)
theorem e_Law_law_1320 (a0 a1 a2 : Option MV) (x : Option Nat) : (WP Gm j_Law_law 1320 (a0 :: a1 :: a2 :: some (.inr (.inl x)) :: ls) (st) h Q) = (WP Gm j_Law_law 1321 (a0 :: a1 :: a2 :: some (.inr (.inl x)) :: ls) (.inr (.inl x) :: st) (h) Q) := (WP_at c_Law_law_1320 _ _ _ _)
set_option maxRecDepth 100000 in
theorem c_Law_law_1321 : mCode j_Law_law 1321 = oCallS j_Law_throughput 4 (mL j_Law_throughput) 1324 := (rfl)
theorem e_Law_law_1321 (x0 : Option Nat) (x1 : Int32) (x2 : Int32) (x3 : Option Nat) (hc : c8 st = true) : (WP Gm j_Law_law 1321 (ls) (.inr (.inl x3) :: .inl x2 :: .inl x1 :: .inr (.inl x0) :: st) h Q) = (WP Gm j_Law_throughput 0 [some (.inr (.inl x0)), some (.inl x1), some (.inl x2), some (.inr (.inl x3)), none] [] h (kC (fun v h2 => WP Gm j_Law_law 1324 ls (v.toList ++ st) h2 Q) (fun E h2 => Q (.inr E) h2))) := (WP_at c_Law_law_1321 _ _ _ _).trans (congrArg (fun o => ndX Gm (WP Gm) j_Law_law 1321 o Q) (if_pos (by rw [show decide (catS st ≤ 8) = true from hc]; rfl)))
set_option maxRecDepth 100000 in
theorem c_Law_law_1324 : mCode j_Law_law 1324 = oIst 5 1326 := (rfl)
theorem e_Law_law_1324 (x : Int32) : (WP Gm j_Law_law 1324 (ls) (.inl x :: st) h Q) = (WP Gm j_Law_law 1326 (lSet1 ls 5 (some (.inl x))) (st) (h) Q) := (WP_at c_Law_law_1324 _ _ _ _)
set_option maxRecDepth 100000 in
theorem c_Law_law_1326 : mCode j_Law_law 1326 = oAld 2 1327 := (rfl)
theorem e_Law_law_1326 (a0 a1 : Option MV) (x : Option Nat) : (WP Gm j_Law_law 1326 (a0 :: a1 :: some (.inr (.inl x)) :: ls) (st) h Q) = (WP Gm j_Law_law 1327 (a0 :: a1 :: some (.inr (.inl x)) :: ls) (.inr (.inl x) :: st) (h) Q) := (WP_at c_Law_law_1326 _ _ _ _)
set_option maxRecDepth 100000 in
theorem c_Law_law_1327 : mCode j_Law_law 1327 = oAld 0 1328 := (rfl)
theorem e_Law_law_1327 (x : Option Nat) : (WP Gm j_Law_law 1327 (some (.inr (.inl x)) :: ls) (st) h Q) = (WP Gm j_Law_law 1328 (some (.inr (.inl x)) :: ls) (.inr (.inl x) :: st) (h) Q) := (WP_at c_Law_law_1327 _ _ _ _)
set_option maxRecDepth 100000 in
theorem c_Law_law_1328 : mCode j_Law_law 1328 = oIld 4 1330 := (rfl)
theorem e_Law_law_1328 (a0 a1 a2 a3 : Option MV) (x : Int32) : (WP Gm j_Law_law 1328 (a0 :: a1 :: a2 :: a3 :: some (.inl x) :: ls) (st) h Q) = (WP Gm j_Law_law 1330 (a0 :: a1 :: a2 :: a3 :: some (.inl x) :: ls) (.inl x :: st) (h) Q) := (WP_at c_Law_law_1328 _ _ _ _)
set_option maxRecDepth 100000 in
theorem c_Law_law_1330 : mCode j_Law_law 1330 = oI 1 1331 := (rfl)
theorem e_Law_law_1330  : (WP Gm j_Law_law 1330 (ls) (st) h Q) = (WP Gm j_Law_law 1331 (ls) (.inl 1 :: st) (h) Q) := (WP_at c_Law_law_1330 _ _ _ _)
set_option maxRecDepth 100000 in
theorem c_Law_law_1331 : mCode j_Law_law 1331 = oII (fun x y => x + y) 1332 := (rfl)
theorem e_Law_law_1331 (x : Int32) (y : Int32) : (WP Gm j_Law_law 1331 (ls) (.inl y :: .inl x :: st) h Q) = (WP Gm j_Law_law 1332 (ls) (.inl (x + y) :: st) (h) Q) := (WP_at c_Law_law_1331 _ _ _ _)
set_option maxRecDepth 100000 in
theorem c_Law_law_1332 : mCode j_Law_law 1332 = oIal 0 1333 := (rfl)
theorem e_Law_law_1332 (a : Nat) (i : Int32) (hk : isK h a 100 = true) (hi : inL h a i = true) : (WP Gm j_Law_law 1332 (ls) (.inl i :: .inr (.inl (some a)) :: st) h Q) = (WP Gm j_Law_law 1333 (ls) (.inl (gI h a i.toNatClampNeg) :: st) (h) Q) := (WP_at c_Law_law_1332 _ _ _ _).trans (congrArg (fun o => ndX Gm (WP Gm) j_Law_law 1332 o Q) (if_pos (by rw [hk, hi]; rfl)))
set_option maxRecDepth 100000 in
theorem c_Law_law_1333 : mCode j_Law_law 1333 = oAld 0 1334 := (rfl)
theorem e_Law_law_1333 (x : Option Nat) : (WP Gm j_Law_law 1333 (some (.inr (.inl x)) :: ls) (st) h Q) = (WP Gm j_Law_law 1334 (some (.inr (.inl x)) :: ls) (.inr (.inl x) :: st) (h) Q) := (WP_at c_Law_law_1333 _ _ _ _)
set_option maxRecDepth 100000 in
theorem c_Law_law_1334 : mCode j_Law_law 1334 = oIld 4 1336 := (rfl)
theorem e_Law_law_1334 (a0 a1 a2 a3 : Option MV) (x : Int32) : (WP Gm j_Law_law 1334 (a0 :: a1 :: a2 :: a3 :: some (.inl x) :: ls) (st) h Q) = (WP Gm j_Law_law 1336 (a0 :: a1 :: a2 :: a3 :: some (.inl x) :: ls) (.inl x :: st) (h) Q) := (WP_at c_Law_law_1334 _ _ _ _)
set_option maxRecDepth 100000 in
theorem c_Law_law_1336 : mCode j_Law_law 1336 = oI 2 1337 := (rfl)
theorem e_Law_law_1336  : (WP Gm j_Law_law 1336 (ls) (st) h Q) = (WP Gm j_Law_law 1337 (ls) (.inl 2 :: st) (h) Q) := (WP_at c_Law_law_1336 _ _ _ _)
set_option maxRecDepth 100000 in
theorem c_Law_law_1337 : mCode j_Law_law 1337 = oII (fun x y => x + y) 1338 := (rfl)
theorem e_Law_law_1337 (x : Int32) (y : Int32) : (WP Gm j_Law_law 1337 (ls) (.inl y :: .inl x :: st) h Q) = (WP Gm j_Law_law 1338 (ls) (.inl (x + y) :: st) (h) Q) := (WP_at c_Law_law_1337 _ _ _ _)
set_option maxRecDepth 100000 in
theorem c_Law_law_1338 : mCode j_Law_law 1338 = oIal 0 1339 := (rfl)
theorem e_Law_law_1338 (a : Nat) (i : Int32) (hk : isK h a 100 = true) (hi : inL h a i = true) : (WP Gm j_Law_law 1338 (ls) (.inl i :: .inr (.inl (some a)) :: st) h Q) = (WP Gm j_Law_law 1339 (ls) (.inl (gI h a i.toNatClampNeg) :: st) (h) Q) := (WP_at c_Law_law_1338 _ _ _ _).trans (congrArg (fun o => ndX Gm (WP Gm) j_Law_law 1338 o Q) (if_pos (by rw [hk, hi]; rfl)))
set_option maxRecDepth 100000 in
theorem c_Law_law_1339 : mCode j_Law_law 1339 = oCallV kc_Mdl j_Mdl_throughput 2 (mL j_Mdl_throughput) 1342 := (rfl)
theorem e_Law_law_1339 (a : Nat) (x0 : Int32) (x1 : Int32) (hk : isK h a kc_Mdl = true) (hc : c8 st = true) : (WP Gm j_Law_law 1339 (ls) (.inl x1 :: .inl x0 :: .inr (.inl (some a)) :: st) h Q) = (WP Gm j_Mdl_throughput 0 [some (.inr (.inl (some a))), some (.inl x0), some (.inl x1)] [] h (kC (fun v h2 => WP Gm j_Law_law 1342 ls (v.toList ++ st) h2 Q) (fun E h2 => Q (.inr E) h2))) := (WP_at c_Law_law_1339 _ _ _ _).trans (congrArg (fun o => ndX Gm (WP Gm) j_Law_law 1339 o Q) (if_pos (by rw [hk, show decide (catS st ≤ 8) = true from hc]; rfl)))
set_option maxRecDepth 100000 in
theorem c_Law_law_1342 : mCode j_Law_law 1342 = oDst 6 1344 := (rfl)
theorem e_Law_law_1342 (x : UInt64) : (WP Gm j_Law_law 1342 (ls) (.inr (.inr (.inr x)) :: st) h Q) = (WP Gm j_Law_law 1344 (lSet2 ls 6 (.inr (.inr (.inr x)))) (st) (h) Q) := (WP_at c_Law_law_1342 _ _ _ _)
set_option maxRecDepth 100000 in
theorem c_Law_law_1344 : mCode j_Law_law 1344 = oAld 2 1345 := (rfl)
theorem e_Law_law_1344 (a0 a1 : Option MV) (x : Option Nat) : (WP Gm j_Law_law 1344 (a0 :: a1 :: some (.inr (.inl x)) :: ls) (st) h Q) = (WP Gm j_Law_law 1345 (a0 :: a1 :: some (.inr (.inl x)) :: ls) (.inr (.inl x) :: st) (h) Q) := (WP_at c_Law_law_1344 _ _ _ _)
set_option maxRecDepth 100000 in
theorem c_Law_law_1345 : mCode j_Law_law 1345 = oCallV kc_Mdl j_Mdl_thrown 0 (mL j_Mdl_thrown) 1348 := (rfl)
theorem e_Law_law_1345 (a : Nat) (hk : isK h a kc_Mdl = true) (hc : c8 st = true) : (WP Gm j_Law_law 1345 (ls) (.inr (.inl (some a)) :: st) h Q) = (WP Gm j_Mdl_thrown 0 [some (.inr (.inl (some a)))] [] h (kC (fun v h2 => WP Gm j_Law_law 1348 ls (v.toList ++ st) h2 Q) (fun E h2 => Q (.inr E) h2))) := (WP_at c_Law_law_1345 _ _ _ _).trans (congrArg (fun o => ndX Gm (WP Gm) j_Law_law 1345 o Q) (if_pos (by rw [hk, show decide (catS st ≤ 8) = true from hc]; rfl)))
set_option maxRecDepth 100000 in
theorem c_Law_law_1348 : mCode j_Law_law 1348 = oIld 5 1350 := (rfl)
theorem e_Law_law_1348 (a0 a1 a2 a3 a4 : Option MV) (x : Int32) : (WP Gm j_Law_law 1348 (a0 :: a1 :: a2 :: a3 :: a4 :: some (.inl x) :: ls) (st) h Q) = (WP Gm j_Law_law 1350 (a0 :: a1 :: a2 :: a3 :: a4 :: some (.inl x) :: ls) (.inl x :: st) (h) Q) := (WP_at c_Law_law_1348 _ _ _ _)
set_option maxRecDepth 100000 in
theorem c_Law_law_1350 : mCode j_Law_law 1350 = oIC (fun x y => decide (x = y)) 1355 1353 := (rfl)
theorem e_Law_law_1350 (x y : Int32) : (WP Gm j_Law_law 1350 (ls) (.inl y :: .inl x :: st) h Q) = (if x = y then WP Gm j_Law_law 1355 (ls) (st) (h) Q else WP Gm j_Law_law 1353 (ls) (st) (h) Q) := (WP_at c_Law_law_1350 _ _ _ _).trans (nd_ic rfl _ _ _ _)
set_option maxRecDepth 100000 in
theorem c_Law_law_1353 : mCode j_Law_law 1353 = oI 0 1354 := (rfl)
theorem e_Law_law_1353  : (WP Gm j_Law_law 1353 (ls) (st) h Q) = (WP Gm j_Law_law 1354 (ls) (.inl 0 :: st) (h) Q) := (WP_at c_Law_law_1353 _ _ _ _)
set_option maxRecDepth 100000 in
theorem c_Law_law_1354 : mCode j_Law_law 1354 = oRetZ := (rfl)
theorem e_Law_law_1354 (x : Int32) (hx : x = 0 ∨ x = 1) : (WP Gm j_Law_law 1354 (ls) ([.inl x]) h Q) = (Q (.inl (some (.inl x))) h) := (WP_at c_Law_law_1354 _ _ _ _).trans (congrArg (fun o => ndX Gm (WP Gm) j_Law_law 1354 o Q) (if_pos (by rcases hx with rfl | rfl <;> rfl)))
set_option maxRecDepth 100000 in
theorem c_Law_law_1355 : mCode j_Law_law 1355 = oIld 5 1357 := (rfl)
theorem e_Law_law_1355 (a0 a1 a2 a3 a4 : Option MV) (x : Int32) : (WP Gm j_Law_law 1355 (a0 :: a1 :: a2 :: a3 :: a4 :: some (.inl x) :: ls) (st) h Q) = (WP Gm j_Law_law 1357 (a0 :: a1 :: a2 :: a3 :: a4 :: some (.inl x) :: ls) (.inl x :: st) (h) Q) := (WP_at c_Law_law_1355 _ _ _ _)
set_option maxRecDepth 100000 in
theorem c_Law_law_1357 : mCode j_Law_law 1357 = oIf (fun x => decide (¬ x = 0)) 1392 1360 := (rfl)
theorem e_Law_law_1357 (x : Int32) : (WP Gm j_Law_law 1357 (ls) (.inl x :: st) h Q) = (if ¬ x = 0 then WP Gm j_Law_law 1392 (ls) (st) (h) Q else WP Gm j_Law_law 1360 (ls) (st) (h) Q) := (WP_at c_Law_law_1357 _ _ _ _).trans (nd_if rfl _ _ _ _)
set_option maxRecDepth 100000 in
theorem c_Law_law_1360 : mCode j_Law_law 1360 = oAld 3 1361 := (rfl)
theorem e_Law_law_1360 (a0 a1 a2 : Option MV) (x : Option Nat) : (WP Gm j_Law_law 1360 (a0 :: a1 :: a2 :: some (.inr (.inl x)) :: ls) (st) h Q) = (WP Gm j_Law_law 1361 (a0 :: a1 :: a2 :: some (.inr (.inl x)) :: ls) (.inr (.inl x) :: st) (h) Q) := (WP_at c_Law_law_1360 _ _ _ _)
set_option maxRecDepth 100000 in
theorem c_Law_law_1361 : mCode j_Law_law 1361 = oGetD kc_Out 1 1364 := (rfl)
theorem e_Law_law_1361 (a : Nat) (hk : isK h a kc_Out = true) : (WP Gm j_Law_law 1361 (ls) (.inr (.inl (some a)) :: st) h Q) = (WP Gm j_Law_law 1364 (ls) (.inr (.inr (.inr (gD h a 1))) :: st) (h) Q) := (WP_at c_Law_law_1361 _ _ _ _).trans (congrArg (fun o => ndX Gm (WP Gm) j_Law_law 1361 o Q) (if_pos hk))
set_option maxRecDepth 100000 in
theorem c_Law_law_1364 : mCode j_Law_law 1364 = oDld 6 1366 := (rfl)
theorem e_Law_law_1364 (a0 a1 a2 a3 a4 a5 : Option MV) (x : UInt64) : (WP Gm j_Law_law 1364 (a0 :: a1 :: a2 :: a3 :: a4 :: a5 :: some (.inr (.inr (.inr x))) :: ls) (st) h Q) = (WP Gm j_Law_law 1366 (a0 :: a1 :: a2 :: a3 :: a4 :: a5 :: some (.inr (.inr (.inr x))) :: ls) (.inr (.inr (.inr x)) :: st) (h) Q) := (WP_at c_Law_law_1364 _ _ _ _)
set_option maxRecDepth 100000 in
theorem c_Law_law_1366 : mCode j_Law_law 1366 = oDcmp .l 1367 := (rfl)
theorem e_Law_law_1366 (x y : UInt64) : (WP Gm j_Law_law 1366 (ls) (.inr (.inr (.inr y)) :: .inr (.inr (.inr x)) :: st) h Q) = (WP Gm j_Law_law 1367 (ls) (.inl (Op.cmpValue (FP.dcmp x y) .l) :: st) (h) Q) := (WP_at c_Law_law_1366 _ _ _ _)
set_option maxRecDepth 100000 in
theorem c_Law_law_1367 : mCode j_Law_law 1367 = oIf (fun x => decide (x = 0)) 1392 1370 := (rfl)
theorem e_Law_law_1367 (x : Int32) : (WP Gm j_Law_law 1367 (ls) (.inl x :: st) h Q) = (if x = 0 then WP Gm j_Law_law 1392 (ls) (st) (h) Q else WP Gm j_Law_law 1370 (ls) (st) (h) Q) := (WP_at c_Law_law_1367 _ _ _ _).trans (nd_if rfl _ _ _ _)
set_option maxRecDepth 100000 in
theorem c_Law_law_1370 : mCode j_Law_law 1370 = oAld 3 1371 := (rfl)
theorem e_Law_law_1370 (a0 a1 a2 : Option MV) (x : Option Nat) : (WP Gm j_Law_law 1370 (a0 :: a1 :: a2 :: some (.inr (.inl x)) :: ls) (st) h Q) = (WP Gm j_Law_law 1371 (a0 :: a1 :: a2 :: some (.inr (.inl x)) :: ls) (.inr (.inl x) :: st) (h) Q) := (WP_at c_Law_law_1370 _ _ _ _)
set_option maxRecDepth 100000 in
theorem c_Law_law_1371 : mCode j_Law_law 1371 = oGetD kc_Out 1 1374 := (rfl)
theorem e_Law_law_1371 (a : Nat) (hk : isK h a kc_Out = true) : (WP Gm j_Law_law 1371 (ls) (.inr (.inl (some a)) :: st) h Q) = (WP Gm j_Law_law 1374 (ls) (.inr (.inr (.inr (gD h a 1))) :: st) (h) Q) := (WP_at c_Law_law_1371 _ _ _ _).trans (congrArg (fun o => ndX Gm (WP Gm) j_Law_law 1371 o Q) (if_pos hk))
set_option maxRecDepth 100000 in
theorem c_Law_law_1374 : mCode j_Law_law 1374 = oAld 3 1375 := (rfl)
theorem e_Law_law_1374 (a0 a1 a2 : Option MV) (x : Option Nat) : (WP Gm j_Law_law 1374 (a0 :: a1 :: a2 :: some (.inr (.inl x)) :: ls) (st) h Q) = (WP Gm j_Law_law 1375 (a0 :: a1 :: a2 :: some (.inr (.inl x)) :: ls) (.inr (.inl x) :: st) (h) Q) := (WP_at c_Law_law_1374 _ _ _ _)
set_option maxRecDepth 100000 in
theorem c_Law_law_1375 : mCode j_Law_law 1375 = oGetD kc_Out 1 1378 := (rfl)
theorem e_Law_law_1375 (a : Nat) (hk : isK h a kc_Out = true) : (WP Gm j_Law_law 1375 (ls) (.inr (.inl (some a)) :: st) h Q) = (WP Gm j_Law_law 1378 (ls) (.inr (.inr (.inr (gD h a 1))) :: st) (h) Q) := (WP_at c_Law_law_1375 _ _ _ _).trans (congrArg (fun o => ndX Gm (WP Gm) j_Law_law 1375 o Q) (if_pos hk))
set_option maxRecDepth 100000 in
theorem c_Law_law_1378 : mCode j_Law_law 1378 = oDcmp .l 1379 := (rfl)
theorem e_Law_law_1378 (x y : UInt64) : (WP Gm j_Law_law 1378 (ls) (.inr (.inr (.inr y)) :: .inr (.inr (.inr x)) :: st) h Q) = (WP Gm j_Law_law 1379 (ls) (.inl (Op.cmpValue (FP.dcmp x y) .l) :: st) (h) Q) := (WP_at c_Law_law_1378 _ _ _ _)
set_option maxRecDepth 100000 in
theorem c_Law_law_1379 : mCode j_Law_law 1379 = oIf (fun x => decide (x = 0)) 1390 1382 := (rfl)
theorem e_Law_law_1379 (x : Int32) : (WP Gm j_Law_law 1379 (ls) (.inl x :: st) h Q) = (if x = 0 then WP Gm j_Law_law 1390 (ls) (st) (h) Q else WP Gm j_Law_law 1382 (ls) (st) (h) Q) := (WP_at c_Law_law_1379 _ _ _ _).trans (nd_if rfl _ _ _ _)
set_option maxRecDepth 100000 in
theorem c_Law_law_1382 : mCode j_Law_law 1382 = oDld 6 1384 := (rfl)
theorem e_Law_law_1382 (a0 a1 a2 a3 a4 a5 : Option MV) (x : UInt64) : (WP Gm j_Law_law 1382 (a0 :: a1 :: a2 :: a3 :: a4 :: a5 :: some (.inr (.inr (.inr x))) :: ls) (st) h Q) = (WP Gm j_Law_law 1384 (a0 :: a1 :: a2 :: a3 :: a4 :: a5 :: some (.inr (.inr (.inr x))) :: ls) (.inr (.inr (.inr x)) :: st) (h) Q) := (WP_at c_Law_law_1382 _ _ _ _)
set_option maxRecDepth 100000 in
theorem c_Law_law_1384 : mCode j_Law_law 1384 = oDld 6 1386 := (rfl)
theorem e_Law_law_1384 (a0 a1 a2 a3 a4 a5 : Option MV) (x : UInt64) : (WP Gm j_Law_law 1384 (a0 :: a1 :: a2 :: a3 :: a4 :: a5 :: some (.inr (.inr (.inr x))) :: ls) (st) h Q) = (WP Gm j_Law_law 1386 (a0 :: a1 :: a2 :: a3 :: a4 :: a5 :: some (.inr (.inr (.inr x))) :: ls) (.inr (.inr (.inr x)) :: st) (h) Q) := (WP_at c_Law_law_1384 _ _ _ _)
set_option maxRecDepth 100000 in
theorem c_Law_law_1386 : mCode j_Law_law 1386 = oDcmp .l 1387 := (rfl)
theorem e_Law_law_1386 (x y : UInt64) : (WP Gm j_Law_law 1386 (ls) (.inr (.inr (.inr y)) :: .inr (.inr (.inr x)) :: st) h Q) = (WP Gm j_Law_law 1387 (ls) (.inl (Op.cmpValue (FP.dcmp x y) .l) :: st) (h) Q) := (WP_at c_Law_law_1386 _ _ _ _)
set_option maxRecDepth 100000 in
theorem c_Law_law_1387 : mCode j_Law_law 1387 = oIf (fun x => decide (¬ x = 0)) 1392 1390 := (rfl)
theorem e_Law_law_1387 (x : Int32) : (WP Gm j_Law_law 1387 (ls) (.inl x :: st) h Q) = (if ¬ x = 0 then WP Gm j_Law_law 1392 (ls) (st) (h) Q else WP Gm j_Law_law 1390 (ls) (st) (h) Q) := (WP_at c_Law_law_1387 _ _ _ _).trans (nd_if rfl _ _ _ _)
set_option maxRecDepth 100000 in
theorem c_Law_law_1390 : mCode j_Law_law 1390 = oI 0 1391 := (rfl)
theorem e_Law_law_1390  : (WP Gm j_Law_law 1390 (ls) (st) h Q) = (WP Gm j_Law_law 1391 (ls) (.inl 0 :: st) (h) Q) := (WP_at c_Law_law_1390 _ _ _ _)
set_option maxRecDepth 100000 in
theorem c_Law_law_1391 : mCode j_Law_law 1391 = oRetZ := (rfl)
theorem e_Law_law_1391 (x : Int32) (hx : x = 0 ∨ x = 1) : (WP Gm j_Law_law 1391 (ls) ([.inl x]) h Q) = (Q (.inl (some (.inl x))) h) := (WP_at c_Law_law_1391 _ _ _ _).trans (congrArg (fun o => ndX Gm (WP Gm) j_Law_law 1391 o Q) (if_pos (by rcases hx with rfl | rfl <;> rfl)))
set_option maxRecDepth 100000 in
theorem c_Law_law_1392 : mCode j_Law_law 1392 = oGo 1549 := (rfl)
theorem e_Law_law_1392  : (WP Gm j_Law_law 1392 (ls) (st) h Q) = (WP Gm j_Law_law 1549 (ls) (st) (h) Q) := (WP_at c_Law_law_1392 _ _ _ _)
set_option maxRecDepth 100000 in
theorem c_Law_law_1395 : mCode j_Law_law 1395 = oAld 1 1396 := (rfl)
theorem e_Law_law_1395 (a0 : Option MV) (x : Option Nat) : (WP Gm j_Law_law 1395 (a0 :: some (.inr (.inl x)) :: ls) (st) h Q) = (WP Gm j_Law_law 1396 (a0 :: some (.inr (.inl x)) :: ls) (.inr (.inl x) :: st) (h) Q) := (WP_at c_Law_law_1395 _ _ _ _)
set_option maxRecDepth 100000 in
theorem c_Law_law_1396 : mCode j_Law_law 1396 = oAld 0 1397 := (rfl)
theorem e_Law_law_1396 (x : Option Nat) : (WP Gm j_Law_law 1396 (some (.inr (.inl x)) :: ls) (st) h Q) = (WP Gm j_Law_law 1397 (some (.inr (.inl x)) :: ls) (.inr (.inl x) :: st) (h) Q) := (WP_at c_Law_law_1396 _ _ _ _)
set_option maxRecDepth 100000 in
theorem c_Law_law_1397 : mCode j_Law_law 1397 = oIld 4 1399 := (rfl)
theorem e_Law_law_1397 (a0 a1 a2 a3 : Option MV) (x : Int32) : (WP Gm j_Law_law 1397 (a0 :: a1 :: a2 :: a3 :: some (.inl x) :: ls) (st) h Q) = (WP Gm j_Law_law 1399 (a0 :: a1 :: a2 :: a3 :: some (.inl x) :: ls) (.inl x :: st) (h) Q) := (WP_at c_Law_law_1397 _ _ _ _)
set_option maxRecDepth 100000 in
theorem c_Law_law_1399 : mCode j_Law_law 1399 = oI 1 1400 := (rfl)
theorem e_Law_law_1399  : (WP Gm j_Law_law 1399 (ls) (st) h Q) = (WP Gm j_Law_law 1400 (ls) (.inl 1 :: st) (h) Q) := (WP_at c_Law_law_1399 _ _ _ _)
set_option maxRecDepth 100000 in
theorem c_Law_law_1400 : mCode j_Law_law 1400 = oII (fun x y => x + y) 1401 := (rfl)
theorem e_Law_law_1400 (x : Int32) (y : Int32) : (WP Gm j_Law_law 1400 (ls) (.inl y :: .inl x :: st) h Q) = (WP Gm j_Law_law 1401 (ls) (.inl (x + y) :: st) (h) Q) := (WP_at c_Law_law_1400 _ _ _ _)
set_option maxRecDepth 100000 in
theorem c_Law_law_1401 : mCode j_Law_law 1401 = oIal 0 1402 := (rfl)
theorem e_Law_law_1401 (a : Nat) (i : Int32) (hk : isK h a 100 = true) (hi : inL h a i = true) : (WP Gm j_Law_law 1401 (ls) (.inl i :: .inr (.inl (some a)) :: st) h Q) = (WP Gm j_Law_law 1402 (ls) (.inl (gI h a i.toNatClampNeg) :: st) (h) Q) := (WP_at c_Law_law_1401 _ _ _ _).trans (congrArg (fun o => ndX Gm (WP Gm) j_Law_law 1401 o Q) (if_pos (by rw [hk, hi]; rfl)))
set_option maxRecDepth 100000 in
theorem c_Law_law_1402 : mCode j_Law_law 1402 = oAld 3 1403 := (rfl)
theorem e_Law_law_1402 (a0 a1 a2 : Option MV) (x : Option Nat) : (WP Gm j_Law_law 1402 (a0 :: a1 :: a2 :: some (.inr (.inl x)) :: ls) (st) h Q) = (WP Gm j_Law_law 1403 (a0 :: a1 :: a2 :: some (.inr (.inl x)) :: ls) (.inr (.inl x) :: st) (h) Q) := (WP_at c_Law_law_1402 _ _ _ _)
set_option maxRecDepth 100000 in
theorem c_Law_law_1403 : mCode j_Law_law 1403 = oCallS j_Law_bestChance 3 (mL j_Law_bestChance) 1406 := (rfl)
theorem e_Law_law_1403 (x0 : Option Nat) (x1 : Int32) (x2 : Option Nat) (hc : c8 st = true) : (WP Gm j_Law_law 1403 (ls) (.inr (.inl x2) :: .inl x1 :: .inr (.inl x0) :: st) h Q) = (WP Gm j_Law_bestChance 0 [some (.inr (.inl x0)), some (.inl x1), some (.inr (.inl x2)), none] [] h (kC (fun v h2 => WP Gm j_Law_law 1406 ls (v.toList ++ st) h2 Q) (fun E h2 => Q (.inr E) h2))) := (WP_at c_Law_law_1403 _ _ _ _).trans (congrArg (fun o => ndX Gm (WP Gm) j_Law_law 1403 o Q) (if_pos (by rw [show decide (catS st ≤ 8) = true from hc]; rfl)))
set_option maxRecDepth 100000 in
theorem c_Law_law_1406 : mCode j_Law_law 1406 = oIst 5 1408 := (rfl)
theorem e_Law_law_1406 (x : Int32) : (WP Gm j_Law_law 1406 (ls) (.inl x :: st) h Q) = (WP Gm j_Law_law 1408 (lSet1 ls 5 (some (.inl x))) (st) (h) Q) := (WP_at c_Law_law_1406 _ _ _ _)
set_option maxRecDepth 100000 in
theorem c_Law_law_1408 : mCode j_Law_law 1408 = oAld 2 1409 := (rfl)
theorem e_Law_law_1408 (a0 a1 : Option MV) (x : Option Nat) : (WP Gm j_Law_law 1408 (a0 :: a1 :: some (.inr (.inl x)) :: ls) (st) h Q) = (WP Gm j_Law_law 1409 (a0 :: a1 :: some (.inr (.inl x)) :: ls) (.inr (.inl x) :: st) (h) Q) := (WP_at c_Law_law_1408 _ _ _ _)
set_option maxRecDepth 100000 in
theorem c_Law_law_1409 : mCode j_Law_law 1409 = oAld 0 1410 := (rfl)
theorem e_Law_law_1409 (x : Option Nat) : (WP Gm j_Law_law 1409 (some (.inr (.inl x)) :: ls) (st) h Q) = (WP Gm j_Law_law 1410 (some (.inr (.inl x)) :: ls) (.inr (.inl x) :: st) (h) Q) := (WP_at c_Law_law_1409 _ _ _ _)
set_option maxRecDepth 100000 in
theorem c_Law_law_1410 : mCode j_Law_law 1410 = oIld 4 1412 := (rfl)
theorem e_Law_law_1410 (a0 a1 a2 a3 : Option MV) (x : Int32) : (WP Gm j_Law_law 1410 (a0 :: a1 :: a2 :: a3 :: some (.inl x) :: ls) (st) h Q) = (WP Gm j_Law_law 1412 (a0 :: a1 :: a2 :: a3 :: some (.inl x) :: ls) (.inl x :: st) (h) Q) := (WP_at c_Law_law_1410 _ _ _ _)
set_option maxRecDepth 100000 in
theorem c_Law_law_1412 : mCode j_Law_law 1412 = oI 1 1413 := (rfl)
theorem e_Law_law_1412  : (WP Gm j_Law_law 1412 (ls) (st) h Q) = (WP Gm j_Law_law 1413 (ls) (.inl 1 :: st) (h) Q) := (WP_at c_Law_law_1412 _ _ _ _)
set_option maxRecDepth 100000 in
theorem c_Law_law_1413 : mCode j_Law_law 1413 = oII (fun x y => x + y) 1414 := (rfl)
theorem e_Law_law_1413 (x : Int32) (y : Int32) : (WP Gm j_Law_law 1413 (ls) (.inl y :: .inl x :: st) h Q) = (WP Gm j_Law_law 1414 (ls) (.inl (x + y) :: st) (h) Q) := (WP_at c_Law_law_1413 _ _ _ _)
set_option maxRecDepth 100000 in
theorem c_Law_law_1414 : mCode j_Law_law 1414 = oIal 0 1415 := (rfl)
theorem e_Law_law_1414 (a : Nat) (i : Int32) (hk : isK h a 100 = true) (hi : inL h a i = true) : (WP Gm j_Law_law 1414 (ls) (.inl i :: .inr (.inl (some a)) :: st) h Q) = (WP Gm j_Law_law 1415 (ls) (.inl (gI h a i.toNatClampNeg) :: st) (h) Q) := (WP_at c_Law_law_1414 _ _ _ _).trans (congrArg (fun o => ndX Gm (WP Gm) j_Law_law 1414 o Q) (if_pos (by rw [hk, hi]; rfl)))
set_option maxRecDepth 100000 in
theorem c_Law_law_1415 : mCode j_Law_law 1415 = oCallV kc_Mdl j_Mdl_bestChance 1 (mL j_Mdl_bestChance) 1418 := (rfl)
theorem e_Law_law_1415 (a : Nat) (x0 : Int32) (hk : isK h a kc_Mdl = true) (hc : c8 st = true) : (WP Gm j_Law_law 1415 (ls) (.inl x0 :: .inr (.inl (some a)) :: st) h Q) = (WP Gm j_Mdl_bestChance 0 [some (.inr (.inl (some a))), some (.inl x0), none, none] [] h (kC (fun v h2 => WP Gm j_Law_law 1418 ls (v.toList ++ st) h2 Q) (fun E h2 => Q (.inr E) h2))) := (WP_at c_Law_law_1415 _ _ _ _).trans (congrArg (fun o => ndX Gm (WP Gm) j_Law_law 1415 o Q) (if_pos (by rw [hk, show decide (catS st ≤ 8) = true from hc]; rfl)))
set_option maxRecDepth 100000 in
theorem c_Law_law_1418 : mCode j_Law_law 1418 = oIst 6 1420 := (rfl)
theorem e_Law_law_1418 (x : Int32) : (WP Gm j_Law_law 1418 (ls) (.inl x :: st) h Q) = (WP Gm j_Law_law 1420 (lSet1 ls 6 (some (.inl x))) (st) (h) Q) := (WP_at c_Law_law_1418 _ _ _ _)
set_option maxRecDepth 100000 in
theorem c_Law_law_1420 : mCode j_Law_law 1420 = oAld 2 1421 := (rfl)
theorem e_Law_law_1420 (a0 a1 : Option MV) (x : Option Nat) : (WP Gm j_Law_law 1420 (a0 :: a1 :: some (.inr (.inl x)) :: ls) (st) h Q) = (WP Gm j_Law_law 1421 (a0 :: a1 :: some (.inr (.inl x)) :: ls) (.inr (.inl x) :: st) (h) Q) := (WP_at c_Law_law_1420 _ _ _ _)
set_option maxRecDepth 100000 in
theorem c_Law_law_1421 : mCode j_Law_law 1421 = oCallV kc_Mdl j_Mdl_thrown 0 (mL j_Mdl_thrown) 1424 := (rfl)
theorem e_Law_law_1421 (a : Nat) (hk : isK h a kc_Mdl = true) (hc : c8 st = true) : (WP Gm j_Law_law 1421 (ls) (.inr (.inl (some a)) :: st) h Q) = (WP Gm j_Mdl_thrown 0 [some (.inr (.inl (some a)))] [] h (kC (fun v h2 => WP Gm j_Law_law 1424 ls (v.toList ++ st) h2 Q) (fun E h2 => Q (.inr E) h2))) := (WP_at c_Law_law_1421 _ _ _ _).trans (congrArg (fun o => ndX Gm (WP Gm) j_Law_law 1421 o Q) (if_pos (by rw [hk, show decide (catS st ≤ 8) = true from hc]; rfl)))
set_option maxRecDepth 100000 in
theorem c_Law_law_1424 : mCode j_Law_law 1424 = oIld 5 1426 := (rfl)
theorem e_Law_law_1424 (a0 a1 a2 a3 a4 : Option MV) (x : Int32) : (WP Gm j_Law_law 1424 (a0 :: a1 :: a2 :: a3 :: a4 :: some (.inl x) :: ls) (st) h Q) = (WP Gm j_Law_law 1426 (a0 :: a1 :: a2 :: a3 :: a4 :: some (.inl x) :: ls) (.inl x :: st) (h) Q) := (WP_at c_Law_law_1424 _ _ _ _)
set_option maxRecDepth 100000 in
theorem c_Law_law_1426 : mCode j_Law_law 1426 = oIC (fun x y => decide (x = y)) 1431 1429 := (rfl)
theorem e_Law_law_1426 (x y : Int32) : (WP Gm j_Law_law 1426 (ls) (.inl y :: .inl x :: st) h Q) = (if x = y then WP Gm j_Law_law 1431 (ls) (st) (h) Q else WP Gm j_Law_law 1429 (ls) (st) (h) Q) := (WP_at c_Law_law_1426 _ _ _ _).trans (nd_ic rfl _ _ _ _)
set_option maxRecDepth 100000 in
theorem c_Law_law_1429 : mCode j_Law_law 1429 = oI 0 1430 := (rfl)
theorem e_Law_law_1429  : (WP Gm j_Law_law 1429 (ls) (st) h Q) = (WP Gm j_Law_law 1430 (ls) (.inl 0 :: st) (h) Q) := (WP_at c_Law_law_1429 _ _ _ _)
set_option maxRecDepth 100000 in
theorem c_Law_law_1430 : mCode j_Law_law 1430 = oRetZ := (rfl)
theorem e_Law_law_1430 (x : Int32) (hx : x = 0 ∨ x = 1) : (WP Gm j_Law_law 1430 (ls) ([.inl x]) h Q) = (Q (.inl (some (.inl x))) h) := (WP_at c_Law_law_1430 _ _ _ _).trans (congrArg (fun o => ndX Gm (WP Gm) j_Law_law 1430 o Q) (if_pos (by rcases hx with rfl | rfl <;> rfl)))
set_option maxRecDepth 100000 in
theorem c_Law_law_1431 : mCode j_Law_law 1431 = oIld 5 1433 := (rfl)
theorem e_Law_law_1431 (a0 a1 a2 a3 a4 : Option MV) (x : Int32) : (WP Gm j_Law_law 1431 (a0 :: a1 :: a2 :: a3 :: a4 :: some (.inl x) :: ls) (st) h Q) = (WP Gm j_Law_law 1433 (a0 :: a1 :: a2 :: a3 :: a4 :: some (.inl x) :: ls) (.inl x :: st) (h) Q) := (WP_at c_Law_law_1431 _ _ _ _)
set_option maxRecDepth 100000 in
theorem c_Law_law_1433 : mCode j_Law_law 1433 = oIf (fun x => decide (¬ x = 0)) 1449 1436 := (rfl)
theorem e_Law_law_1433 (x : Int32) : (WP Gm j_Law_law 1433 (ls) (.inl x :: st) h Q) = (if ¬ x = 0 then WP Gm j_Law_law 1449 (ls) (st) (h) Q else WP Gm j_Law_law 1436 (ls) (st) (h) Q) := (WP_at c_Law_law_1433 _ _ _ _).trans (nd_if rfl _ _ _ _)
set_option maxRecDepth 100000 in
theorem c_Law_law_1436 : mCode j_Law_law 1436 = oAld 3 1437 := (rfl)
theorem e_Law_law_1436 (a0 a1 a2 : Option MV) (x : Option Nat) : (WP Gm j_Law_law 1436 (a0 :: a1 :: a2 :: some (.inr (.inl x)) :: ls) (st) h Q) = (WP Gm j_Law_law 1437 (a0 :: a1 :: a2 :: some (.inr (.inl x)) :: ls) (.inr (.inl x) :: st) (h) Q) := (WP_at c_Law_law_1436 _ _ _ _)
set_option maxRecDepth 100000 in
theorem c_Law_law_1437 : mCode j_Law_law 1437 = oGetL kc_Out 0 1440 := (rfl)
theorem e_Law_law_1437 (a : Nat) (hk : isK h a kc_Out = true) : (WP Gm j_Law_law 1437 (ls) (.inr (.inl (some a)) :: st) h Q) = (WP Gm j_Law_law 1440 (ls) (.inr (.inr (.inl (gL h a 0))) :: st) (h) Q) := (WP_at c_Law_law_1437 _ _ _ _).trans (congrArg (fun o => ndX Gm (WP Gm) j_Law_law 1437 o Q) (if_pos hk))
set_option maxRecDepth 100000 in
theorem c_Law_law_1440 : mCode j_Law_law 1440 = oIld 6 1442 := (rfl)
theorem e_Law_law_1440 (a0 a1 a2 a3 a4 a5 : Option MV) (x : Int32) : (WP Gm j_Law_law 1440 (a0 :: a1 :: a2 :: a3 :: a4 :: a5 :: some (.inl x) :: ls) (st) h Q) = (WP Gm j_Law_law 1442 (a0 :: a1 :: a2 :: a3 :: a4 :: a5 :: some (.inl x) :: ls) (.inl x :: st) (h) Q) := (WP_at c_Law_law_1440 _ _ _ _)
set_option maxRecDepth 100000 in
theorem c_Law_law_1442 : mCode j_Law_law 1442 = oI2L 1443 := (rfl)
theorem e_Law_law_1442 (x : Int32) : (WP Gm j_Law_law 1442 (ls) (.inl x :: st) h Q) = (WP Gm j_Law_law 1443 (ls) (.inr (.inr (.inl x.toInt64)) :: st) (h) Q) := (WP_at c_Law_law_1442 _ _ _ _)
set_option maxRecDepth 100000 in
theorem c_Law_law_1443 : mCode j_Law_law 1443 = oLcmp 1444 := (rfl)
theorem e_Law_law_1443 (x y : Int64) : (WP Gm j_Law_law 1443 (ls) (.inr (.inr (.inl y)) :: .inr (.inr (.inl x)) :: st) h Q) = (WP Gm j_Law_law 1444 (ls) (.inl (lg_cmp x y) :: st) (h) Q) := (WP_at c_Law_law_1443 _ _ _ _)
set_option maxRecDepth 100000 in
theorem c_Law_law_1444 : mCode j_Law_law 1444 = oIf (fun x => decide (x = 0)) 1449 1447 := (rfl)
theorem e_Law_law_1444 (x : Int32) : (WP Gm j_Law_law 1444 (ls) (.inl x :: st) h Q) = (if x = 0 then WP Gm j_Law_law 1449 (ls) (st) (h) Q else WP Gm j_Law_law 1447 (ls) (st) (h) Q) := (WP_at c_Law_law_1444 _ _ _ _).trans (nd_if rfl _ _ _ _)
set_option maxRecDepth 100000 in
theorem c_Law_law_1447 : mCode j_Law_law 1447 = oI 0 1448 := (rfl)
theorem e_Law_law_1447  : (WP Gm j_Law_law 1447 (ls) (st) h Q) = (WP Gm j_Law_law 1448 (ls) (.inl 0 :: st) (h) Q) := (WP_at c_Law_law_1447 _ _ _ _)
set_option maxRecDepth 100000 in
theorem c_Law_law_1448 : mCode j_Law_law 1448 = oRetZ := (rfl)
theorem e_Law_law_1448 (x : Int32) (hx : x = 0 ∨ x = 1) : (WP Gm j_Law_law 1448 (ls) ([.inl x]) h Q) = (Q (.inl (some (.inl x))) h) := (WP_at c_Law_law_1448 _ _ _ _).trans (congrArg (fun o => ndX Gm (WP Gm) j_Law_law 1448 o Q) (if_pos (by rcases hx with rfl | rfl <;> rfl)))
set_option maxRecDepth 100000 in
theorem c_Law_law_1449 : mCode j_Law_law 1449 = oGo 1549 := (rfl)
theorem e_Law_law_1449  : (WP Gm j_Law_law 1449 (ls) (st) h Q) = (WP Gm j_Law_law 1549 (ls) (st) (h) Q) := (WP_at c_Law_law_1449 _ _ _ _)
set_option maxRecDepth 100000 in
theorem c_Law_law_1452 : mCode j_Law_law 1452 = oAld 1 1453 := (rfl)
theorem e_Law_law_1452 (a0 : Option MV) (x : Option Nat) : (WP Gm j_Law_law 1452 (a0 :: some (.inr (.inl x)) :: ls) (st) h Q) = (WP Gm j_Law_law 1453 (a0 :: some (.inr (.inl x)) :: ls) (.inr (.inl x) :: st) (h) Q) := (WP_at c_Law_law_1452 _ _ _ _)
set_option maxRecDepth 100000 in
theorem c_Law_law_1453 : mCode j_Law_law 1453 = oAld 0 1454 := (rfl)
theorem e_Law_law_1453 (x : Option Nat) : (WP Gm j_Law_law 1453 (some (.inr (.inl x)) :: ls) (st) h Q) = (WP Gm j_Law_law 1454 (some (.inr (.inl x)) :: ls) (.inr (.inl x) :: st) (h) Q) := (WP_at c_Law_law_1453 _ _ _ _)
set_option maxRecDepth 100000 in
theorem c_Law_law_1454 : mCode j_Law_law 1454 = oIld 4 1456 := (rfl)
theorem e_Law_law_1454 (a0 a1 a2 a3 : Option MV) (x : Int32) : (WP Gm j_Law_law 1454 (a0 :: a1 :: a2 :: a3 :: some (.inl x) :: ls) (st) h Q) = (WP Gm j_Law_law 1456 (a0 :: a1 :: a2 :: a3 :: some (.inl x) :: ls) (.inl x :: st) (h) Q) := (WP_at c_Law_law_1454 _ _ _ _)
set_option maxRecDepth 100000 in
theorem c_Law_law_1456 : mCode j_Law_law 1456 = oI 1 1457 := (rfl)
theorem e_Law_law_1456  : (WP Gm j_Law_law 1456 (ls) (st) h Q) = (WP Gm j_Law_law 1457 (ls) (.inl 1 :: st) (h) Q) := (WP_at c_Law_law_1456 _ _ _ _)
set_option maxRecDepth 100000 in
theorem c_Law_law_1457 : mCode j_Law_law 1457 = oII (fun x y => x + y) 1458 := (rfl)
theorem e_Law_law_1457 (x : Int32) (y : Int32) : (WP Gm j_Law_law 1457 (ls) (.inl y :: .inl x :: st) h Q) = (WP Gm j_Law_law 1458 (ls) (.inl (x + y) :: st) (h) Q) := (WP_at c_Law_law_1457 _ _ _ _)
set_option maxRecDepth 100000 in
theorem c_Law_law_1458 : mCode j_Law_law 1458 = oIal 0 1459 := (rfl)
theorem e_Law_law_1458 (a : Nat) (i : Int32) (hk : isK h a 100 = true) (hi : inL h a i = true) : (WP Gm j_Law_law 1458 (ls) (.inl i :: .inr (.inl (some a)) :: st) h Q) = (WP Gm j_Law_law 1459 (ls) (.inl (gI h a i.toNatClampNeg) :: st) (h) Q) := (WP_at c_Law_law_1458 _ _ _ _).trans (congrArg (fun o => ndX Gm (WP Gm) j_Law_law 1458 o Q) (if_pos (by rw [hk, hi]; rfl)))
set_option maxRecDepth 100000 in
theorem c_Law_law_1459 : mCode j_Law_law 1459 = oAld 3 1460 := (rfl)
theorem e_Law_law_1459 (a0 a1 a2 : Option MV) (x : Option Nat) : (WP Gm j_Law_law 1459 (a0 :: a1 :: a2 :: some (.inr (.inl x)) :: ls) (st) h Q) = (WP Gm j_Law_law 1460 (a0 :: a1 :: a2 :: some (.inr (.inl x)) :: ls) (.inr (.inl x) :: st) (h) Q) := (WP_at c_Law_law_1459 _ _ _ _)
set_option maxRecDepth 100000 in
theorem c_Law_law_1460 : mCode j_Law_law 1460 = oCallS j_Law_auction 3 (mL j_Law_auction) 1463 := (rfl)
theorem e_Law_law_1460 (x0 : Option Nat) (x1 : Int32) (x2 : Option Nat) (hc : c8 st = true) : (WP Gm j_Law_law 1460 (ls) (.inr (.inl x2) :: .inl x1 :: .inr (.inl x0) :: st) h Q) = (WP Gm j_Law_auction 0 [some (.inr (.inl x0)), some (.inl x1), some (.inr (.inl x2)), none] [] h (kC (fun v h2 => WP Gm j_Law_law 1463 ls (v.toList ++ st) h2 Q) (fun E h2 => Q (.inr E) h2))) := (WP_at c_Law_law_1460 _ _ _ _).trans (congrArg (fun o => ndX Gm (WP Gm) j_Law_law 1460 o Q) (if_pos (by rw [show decide (catS st ≤ 8) = true from hc]; rfl)))
set_option maxRecDepth 100000 in
theorem c_Law_law_1463 : mCode j_Law_law 1463 = oIst 5 1465 := (rfl)
theorem e_Law_law_1463 (x : Int32) : (WP Gm j_Law_law 1463 (ls) (.inl x :: st) h Q) = (WP Gm j_Law_law 1465 (lSet1 ls 5 (some (.inl x))) (st) (h) Q) := (WP_at c_Law_law_1463 _ _ _ _)
set_option maxRecDepth 100000 in
theorem c_Law_law_1465 : mCode j_Law_law 1465 = oAld 2 1466 := (rfl)
theorem e_Law_law_1465 (a0 a1 : Option MV) (x : Option Nat) : (WP Gm j_Law_law 1465 (a0 :: a1 :: some (.inr (.inl x)) :: ls) (st) h Q) = (WP Gm j_Law_law 1466 (a0 :: a1 :: some (.inr (.inl x)) :: ls) (.inr (.inl x) :: st) (h) Q) := (WP_at c_Law_law_1465 _ _ _ _)
set_option maxRecDepth 100000 in
theorem c_Law_law_1466 : mCode j_Law_law 1466 = oAld 0 1467 := (rfl)
theorem e_Law_law_1466 (x : Option Nat) : (WP Gm j_Law_law 1466 (some (.inr (.inl x)) :: ls) (st) h Q) = (WP Gm j_Law_law 1467 (some (.inr (.inl x)) :: ls) (.inr (.inl x) :: st) (h) Q) := (WP_at c_Law_law_1466 _ _ _ _)
set_option maxRecDepth 100000 in
theorem c_Law_law_1467 : mCode j_Law_law 1467 = oIld 4 1469 := (rfl)
theorem e_Law_law_1467 (a0 a1 a2 a3 : Option MV) (x : Int32) : (WP Gm j_Law_law 1467 (a0 :: a1 :: a2 :: a3 :: some (.inl x) :: ls) (st) h Q) = (WP Gm j_Law_law 1469 (a0 :: a1 :: a2 :: a3 :: some (.inl x) :: ls) (.inl x :: st) (h) Q) := (WP_at c_Law_law_1467 _ _ _ _)
set_option maxRecDepth 100000 in
theorem c_Law_law_1469 : mCode j_Law_law 1469 = oI 1 1470 := (rfl)
theorem e_Law_law_1469  : (WP Gm j_Law_law 1469 (ls) (st) h Q) = (WP Gm j_Law_law 1470 (ls) (.inl 1 :: st) (h) Q) := (WP_at c_Law_law_1469 _ _ _ _)
set_option maxRecDepth 100000 in
theorem c_Law_law_1470 : mCode j_Law_law 1470 = oII (fun x y => x + y) 1471 := (rfl)
theorem e_Law_law_1470 (x : Int32) (y : Int32) : (WP Gm j_Law_law 1470 (ls) (.inl y :: .inl x :: st) h Q) = (WP Gm j_Law_law 1471 (ls) (.inl (x + y) :: st) (h) Q) := (WP_at c_Law_law_1470 _ _ _ _)
set_option maxRecDepth 100000 in
theorem c_Law_law_1471 : mCode j_Law_law 1471 = oIal 0 1472 := (rfl)
theorem e_Law_law_1471 (a : Nat) (i : Int32) (hk : isK h a 100 = true) (hi : inL h a i = true) : (WP Gm j_Law_law 1471 (ls) (.inl i :: .inr (.inl (some a)) :: st) h Q) = (WP Gm j_Law_law 1472 (ls) (.inl (gI h a i.toNatClampNeg) :: st) (h) Q) := (WP_at c_Law_law_1471 _ _ _ _).trans (congrArg (fun o => ndX Gm (WP Gm) j_Law_law 1471 o Q) (if_pos (by rw [hk, hi]; rfl)))
set_option maxRecDepth 100000 in
theorem c_Law_law_1472 : mCode j_Law_law 1472 = oCallV kc_Mdl j_Mdl_auction 1 (mL j_Mdl_auction) 1475 := (rfl)
theorem e_Law_law_1472 (a : Nat) (x0 : Int32) (hk : isK h a kc_Mdl = true) (hc : c8 st = true) : (WP Gm j_Law_law 1472 (ls) (.inl x0 :: .inr (.inl (some a)) :: st) h Q) = (WP Gm j_Mdl_auction 0 [some (.inr (.inl (some a))), some (.inl x0)] [] h (kC (fun v h2 => WP Gm j_Law_law 1475 ls (v.toList ++ st) h2 Q) (fun E h2 => Q (.inr E) h2))) := (WP_at c_Law_law_1472 _ _ _ _).trans (congrArg (fun o => ndX Gm (WP Gm) j_Law_law 1472 o Q) (if_pos (by rw [hk, show decide (catS st ≤ 8) = true from hc]; rfl)))
set_option maxRecDepth 100000 in
theorem c_Law_law_1475 : mCode j_Law_law 1475 = oIst 6 1477 := (rfl)
theorem e_Law_law_1475 (x : Int32) : (WP Gm j_Law_law 1475 (ls) (.inl x :: st) h Q) = (WP Gm j_Law_law 1477 (lSet1 ls 6 (some (.inl x))) (st) (h) Q) := (WP_at c_Law_law_1475 _ _ _ _)
set_option maxRecDepth 100000 in
theorem c_Law_law_1477 : mCode j_Law_law 1477 = oAld 2 1478 := (rfl)
theorem e_Law_law_1477 (a0 a1 : Option MV) (x : Option Nat) : (WP Gm j_Law_law 1477 (a0 :: a1 :: some (.inr (.inl x)) :: ls) (st) h Q) = (WP Gm j_Law_law 1478 (a0 :: a1 :: some (.inr (.inl x)) :: ls) (.inr (.inl x) :: st) (h) Q) := (WP_at c_Law_law_1477 _ _ _ _)
set_option maxRecDepth 100000 in
theorem c_Law_law_1478 : mCode j_Law_law 1478 = oCallV kc_Mdl j_Mdl_thrown 0 (mL j_Mdl_thrown) 1481 := (rfl)
theorem e_Law_law_1478 (a : Nat) (hk : isK h a kc_Mdl = true) (hc : c8 st = true) : (WP Gm j_Law_law 1478 (ls) (.inr (.inl (some a)) :: st) h Q) = (WP Gm j_Mdl_thrown 0 [some (.inr (.inl (some a)))] [] h (kC (fun v h2 => WP Gm j_Law_law 1481 ls (v.toList ++ st) h2 Q) (fun E h2 => Q (.inr E) h2))) := (WP_at c_Law_law_1478 _ _ _ _).trans (congrArg (fun o => ndX Gm (WP Gm) j_Law_law 1478 o Q) (if_pos (by rw [hk, show decide (catS st ≤ 8) = true from hc]; rfl)))
set_option maxRecDepth 100000 in
theorem c_Law_law_1481 : mCode j_Law_law 1481 = oIld 5 1483 := (rfl)
theorem e_Law_law_1481 (a0 a1 a2 a3 a4 : Option MV) (x : Int32) : (WP Gm j_Law_law 1481 (a0 :: a1 :: a2 :: a3 :: a4 :: some (.inl x) :: ls) (st) h Q) = (WP Gm j_Law_law 1483 (a0 :: a1 :: a2 :: a3 :: a4 :: some (.inl x) :: ls) (.inl x :: st) (h) Q) := (WP_at c_Law_law_1481 _ _ _ _)
set_option maxRecDepth 100000 in
theorem c_Law_law_1483 : mCode j_Law_law 1483 = oIC (fun x y => decide (x = y)) 1488 1486 := (rfl)
theorem e_Law_law_1483 (x y : Int32) : (WP Gm j_Law_law 1483 (ls) (.inl y :: .inl x :: st) h Q) = (if x = y then WP Gm j_Law_law 1488 (ls) (st) (h) Q else WP Gm j_Law_law 1486 (ls) (st) (h) Q) := (WP_at c_Law_law_1483 _ _ _ _).trans (nd_ic rfl _ _ _ _)
set_option maxRecDepth 100000 in
theorem c_Law_law_1486 : mCode j_Law_law 1486 = oI 0 1487 := (rfl)
theorem e_Law_law_1486  : (WP Gm j_Law_law 1486 (ls) (st) h Q) = (WP Gm j_Law_law 1487 (ls) (.inl 0 :: st) (h) Q) := (WP_at c_Law_law_1486 _ _ _ _)
set_option maxRecDepth 100000 in
theorem c_Law_law_1487 : mCode j_Law_law 1487 = oRetZ := (rfl)
theorem e_Law_law_1487 (x : Int32) (hx : x = 0 ∨ x = 1) : (WP Gm j_Law_law 1487 (ls) ([.inl x]) h Q) = (Q (.inl (some (.inl x))) h) := (WP_at c_Law_law_1487 _ _ _ _).trans (congrArg (fun o => ndX Gm (WP Gm) j_Law_law 1487 o Q) (if_pos (by rcases hx with rfl | rfl <;> rfl)))
set_option maxRecDepth 100000 in
theorem c_Law_law_1488 : mCode j_Law_law 1488 = oIld 5 1490 := (rfl)
theorem e_Law_law_1488 (a0 a1 a2 a3 a4 : Option MV) (x : Int32) : (WP Gm j_Law_law 1488 (a0 :: a1 :: a2 :: a3 :: a4 :: some (.inl x) :: ls) (st) h Q) = (WP Gm j_Law_law 1490 (a0 :: a1 :: a2 :: a3 :: a4 :: some (.inl x) :: ls) (.inl x :: st) (h) Q) := (WP_at c_Law_law_1488 _ _ _ _)
set_option maxRecDepth 100000 in
theorem c_Law_law_1490 : mCode j_Law_law 1490 = oIf (fun x => decide (¬ x = 0)) 1506 1493 := (rfl)
theorem e_Law_law_1490 (x : Int32) : (WP Gm j_Law_law 1490 (ls) (.inl x :: st) h Q) = (if ¬ x = 0 then WP Gm j_Law_law 1506 (ls) (st) (h) Q else WP Gm j_Law_law 1493 (ls) (st) (h) Q) := (WP_at c_Law_law_1490 _ _ _ _).trans (nd_if rfl _ _ _ _)
set_option maxRecDepth 100000 in
theorem c_Law_law_1493 : mCode j_Law_law 1493 = oAld 3 1494 := (rfl)
theorem e_Law_law_1493 (a0 a1 a2 : Option MV) (x : Option Nat) : (WP Gm j_Law_law 1493 (a0 :: a1 :: a2 :: some (.inr (.inl x)) :: ls) (st) h Q) = (WP Gm j_Law_law 1494 (a0 :: a1 :: a2 :: some (.inr (.inl x)) :: ls) (.inr (.inl x) :: st) (h) Q) := (WP_at c_Law_law_1493 _ _ _ _)
set_option maxRecDepth 100000 in
theorem c_Law_law_1494 : mCode j_Law_law 1494 = oGetL kc_Out 0 1497 := (rfl)
theorem e_Law_law_1494 (a : Nat) (hk : isK h a kc_Out = true) : (WP Gm j_Law_law 1494 (ls) (.inr (.inl (some a)) :: st) h Q) = (WP Gm j_Law_law 1497 (ls) (.inr (.inr (.inl (gL h a 0))) :: st) (h) Q) := (WP_at c_Law_law_1494 _ _ _ _).trans (congrArg (fun o => ndX Gm (WP Gm) j_Law_law 1494 o Q) (if_pos hk))
set_option maxRecDepth 100000 in
theorem c_Law_law_1497 : mCode j_Law_law 1497 = oIld 6 1499 := (rfl)
theorem e_Law_law_1497 (a0 a1 a2 a3 a4 a5 : Option MV) (x : Int32) : (WP Gm j_Law_law 1497 (a0 :: a1 :: a2 :: a3 :: a4 :: a5 :: some (.inl x) :: ls) (st) h Q) = (WP Gm j_Law_law 1499 (a0 :: a1 :: a2 :: a3 :: a4 :: a5 :: some (.inl x) :: ls) (.inl x :: st) (h) Q) := (WP_at c_Law_law_1497 _ _ _ _)
set_option maxRecDepth 100000 in
theorem c_Law_law_1499 : mCode j_Law_law 1499 = oI2L 1500 := (rfl)
theorem e_Law_law_1499 (x : Int32) : (WP Gm j_Law_law 1499 (ls) (.inl x :: st) h Q) = (WP Gm j_Law_law 1500 (ls) (.inr (.inr (.inl x.toInt64)) :: st) (h) Q) := (WP_at c_Law_law_1499 _ _ _ _)
set_option maxRecDepth 100000 in
theorem c_Law_law_1500 : mCode j_Law_law 1500 = oLcmp 1501 := (rfl)
theorem e_Law_law_1500 (x y : Int64) : (WP Gm j_Law_law 1500 (ls) (.inr (.inr (.inl y)) :: .inr (.inr (.inl x)) :: st) h Q) = (WP Gm j_Law_law 1501 (ls) (.inl (lg_cmp x y) :: st) (h) Q) := (WP_at c_Law_law_1500 _ _ _ _)
set_option maxRecDepth 100000 in
theorem c_Law_law_1501 : mCode j_Law_law 1501 = oIf (fun x => decide (x = 0)) 1506 1504 := (rfl)
theorem e_Law_law_1501 (x : Int32) : (WP Gm j_Law_law 1501 (ls) (.inl x :: st) h Q) = (if x = 0 then WP Gm j_Law_law 1506 (ls) (st) (h) Q else WP Gm j_Law_law 1504 (ls) (st) (h) Q) := (WP_at c_Law_law_1501 _ _ _ _).trans (nd_if rfl _ _ _ _)
set_option maxRecDepth 100000 in
theorem c_Law_law_1504 : mCode j_Law_law 1504 = oI 0 1505 := (rfl)
theorem e_Law_law_1504  : (WP Gm j_Law_law 1504 (ls) (st) h Q) = (WP Gm j_Law_law 1505 (ls) (.inl 0 :: st) (h) Q) := (WP_at c_Law_law_1504 _ _ _ _)
set_option maxRecDepth 100000 in
theorem c_Law_law_1505 : mCode j_Law_law 1505 = oRetZ := (rfl)
theorem e_Law_law_1505 (x : Int32) (hx : x = 0 ∨ x = 1) : (WP Gm j_Law_law 1505 (ls) ([.inl x]) h Q) = (Q (.inl (some (.inl x))) h) := (WP_at c_Law_law_1505 _ _ _ _).trans (congrArg (fun o => ndX Gm (WP Gm) j_Law_law 1505 o Q) (if_pos (by rcases hx with rfl | rfl <;> rfl)))
set_option maxRecDepth 100000 in
theorem c_Law_law_1506 : mCode j_Law_law 1506 = oGo 1549 := (rfl)
theorem e_Law_law_1506  : (WP Gm j_Law_law 1506 (ls) (st) h Q) = (WP Gm j_Law_law 1549 (ls) (st) (h) Q) := (WP_at c_Law_law_1506 _ _ _ _)
set_option maxRecDepth 100000 in
theorem c_Law_law_1509 : mCode j_Law_law 1509 = oAld 1 1510 := (rfl)
theorem e_Law_law_1509 (a0 : Option MV) (x : Option Nat) : (WP Gm j_Law_law 1509 (a0 :: some (.inr (.inl x)) :: ls) (st) h Q) = (WP Gm j_Law_law 1510 (a0 :: some (.inr (.inl x)) :: ls) (.inr (.inl x) :: st) (h) Q) := (WP_at c_Law_law_1509 _ _ _ _)
set_option maxRecDepth 100000 in
theorem c_Law_law_1510 : mCode j_Law_law 1510 = oCallV kc_S j_S_cover 0 (mL j_S_cover) 1513 := (rfl)
theorem e_Law_law_1510 (a : Nat) (hk : isK h a kc_S = true) (hc : c8 st = true) : (WP Gm j_Law_law 1510 (ls) (.inr (.inl (some a)) :: st) h Q) = (WP Gm j_S_cover 0 [some (.inr (.inl (some a)))] [] h (kC (fun v h2 => WP Gm j_Law_law 1513 ls (v.toList ++ st) h2 Q) (fun E h2 => Q (.inr E) h2))) := (WP_at c_Law_law_1510 _ _ _ _).trans (congrArg (fun o => ndX Gm (WP Gm) j_Law_law 1510 o Q) (if_pos (by rw [hk, show decide (catS st ≤ 8) = true from hc]; rfl)))
set_option maxRecDepth 100000 in
theorem c_Law_law_1513 : mCode j_Law_law 1513 = oAld 2 1514 := (rfl)
theorem e_Law_law_1513 (a0 a1 : Option MV) (x : Option Nat) : (WP Gm j_Law_law 1513 (a0 :: a1 :: some (.inr (.inl x)) :: ls) (st) h Q) = (WP Gm j_Law_law 1514 (a0 :: a1 :: some (.inr (.inl x)) :: ls) (.inr (.inl x) :: st) (h) Q) := (WP_at c_Law_law_1513 _ _ _ _)
set_option maxRecDepth 100000 in
theorem c_Law_law_1514 : mCode j_Law_law 1514 = oCallV kc_Mdl j_Mdl_cover 0 (mL j_Mdl_cover) 1517 := (rfl)
theorem e_Law_law_1514 (a : Nat) (hk : isK h a kc_Mdl = true) (hc : c8 st = true) : (WP Gm j_Law_law 1514 (ls) (.inr (.inl (some a)) :: st) h Q) = (WP Gm j_Mdl_cover 0 [some (.inr (.inl (some a)))] [] h (kC (fun v h2 => WP Gm j_Law_law 1517 ls (v.toList ++ st) h2 Q) (fun E h2 => Q (.inr E) h2))) := (WP_at c_Law_law_1514 _ _ _ _).trans (congrArg (fun o => ndX Gm (WP Gm) j_Law_law 1514 o Q) (if_pos (by rw [hk, show decide (catS st ≤ 8) = true from hc]; rfl)))
set_option maxRecDepth 100000 in
theorem c_Law_law_1517 : mCode j_Law_law 1517 = oIC (fun x y => decide (x = y)) 1549 1520 := (rfl)
theorem e_Law_law_1517 (x y : Int32) : (WP Gm j_Law_law 1517 (ls) (.inl y :: .inl x :: st) h Q) = (if x = y then WP Gm j_Law_law 1549 (ls) (st) (h) Q else WP Gm j_Law_law 1520 (ls) (st) (h) Q) := (WP_at c_Law_law_1517 _ _ _ _).trans (nd_ic rfl _ _ _ _)
set_option maxRecDepth 100000 in
theorem c_Law_law_1520 : mCode j_Law_law 1520 = oI 0 1521 := (rfl)
theorem e_Law_law_1520  : (WP Gm j_Law_law 1520 (ls) (st) h Q) = (WP Gm j_Law_law 1521 (ls) (.inl 0 :: st) (h) Q) := (WP_at c_Law_law_1520 _ _ _ _)
set_option maxRecDepth 100000 in
theorem c_Law_law_1521 : mCode j_Law_law 1521 = oRetZ := (rfl)
theorem e_Law_law_1521 (x : Int32) (hx : x = 0 ∨ x = 1) : (WP Gm j_Law_law 1521 (ls) ([.inl x]) h Q) = (Q (.inl (some (.inl x))) h) := (WP_at c_Law_law_1521 _ _ _ _).trans (congrArg (fun o => ndX Gm (WP Gm) j_Law_law 1521 o Q) (if_pos (by rcases hx with rfl | rfl <;> rfl)))
set_option maxRecDepth 100000 in
theorem c_Law_law_1522 : mCode j_Law_law 1522 = oAld 1 1523 := (rfl)
theorem e_Law_law_1522 (a0 : Option MV) (x : Option Nat) : (WP Gm j_Law_law 1522 (a0 :: some (.inr (.inl x)) :: ls) (st) h Q) = (WP Gm j_Law_law 1523 (a0 :: some (.inr (.inl x)) :: ls) (.inr (.inl x) :: st) (h) Q) := (WP_at c_Law_law_1522 _ _ _ _)
set_option maxRecDepth 100000 in
theorem c_Law_law_1523 : mCode j_Law_law 1523 = oCallV kc_S j_S_isSound 0 (mL j_S_isSound) 1526 := (rfl)
theorem e_Law_law_1523 (a : Nat) (hk : isK h a kc_S = true) (hc : c8 st = true) : (WP Gm j_Law_law 1523 (ls) (.inr (.inl (some a)) :: st) h Q) = (WP Gm j_S_isSound 0 [some (.inr (.inl (some a))), none, none] [] h (kC (fun v h2 => WP Gm j_Law_law 1526 ls (v.toList ++ st) h2 Q) (fun E h2 => Q (.inr E) h2))) := (WP_at c_Law_law_1523 _ _ _ _).trans (congrArg (fun o => ndX Gm (WP Gm) j_Law_law 1523 o Q) (if_pos (by rw [hk, show decide (catS st ≤ 8) = true from hc]; rfl)))
set_option maxRecDepth 100000 in
theorem c_Law_law_1526 : mCode j_Law_law 1526 = oAld 2 1527 := (rfl)
theorem e_Law_law_1526 (a0 a1 : Option MV) (x : Option Nat) : (WP Gm j_Law_law 1526 (a0 :: a1 :: some (.inr (.inl x)) :: ls) (st) h Q) = (WP Gm j_Law_law 1527 (a0 :: a1 :: some (.inr (.inl x)) :: ls) (.inr (.inl x) :: st) (h) Q) := (WP_at c_Law_law_1526 _ _ _ _)
set_option maxRecDepth 100000 in
theorem c_Law_law_1527 : mCode j_Law_law 1527 = oCallV kc_Mdl j_Mdl_isSound 0 (mL j_Mdl_isSound) 1530 := (rfl)
theorem e_Law_law_1527 (a : Nat) (hk : isK h a kc_Mdl = true) (hc : c8 st = true) : (WP Gm j_Law_law 1527 (ls) (.inr (.inl (some a)) :: st) h Q) = (WP Gm j_Mdl_isSound 0 [some (.inr (.inl (some a)))] [] h (kC (fun v h2 => WP Gm j_Law_law 1530 ls (v.toList ++ st) h2 Q) (fun E h2 => Q (.inr E) h2))) := (WP_at c_Law_law_1527 _ _ _ _).trans (congrArg (fun o => ndX Gm (WP Gm) j_Law_law 1527 o Q) (if_pos (by rw [hk, show decide (catS st ≤ 8) = true from hc]; rfl)))
set_option maxRecDepth 100000 in
theorem c_Law_law_1530 : mCode j_Law_law 1530 = oIC (fun x y => decide (x = y)) 1549 1533 := (rfl)
theorem e_Law_law_1530 (x y : Int32) : (WP Gm j_Law_law 1530 (ls) (.inl y :: .inl x :: st) h Q) = (if x = y then WP Gm j_Law_law 1549 (ls) (st) (h) Q else WP Gm j_Law_law 1533 (ls) (st) (h) Q) := (WP_at c_Law_law_1530 _ _ _ _).trans (nd_ic rfl _ _ _ _)
set_option maxRecDepth 100000 in
theorem c_Law_law_1533 : mCode j_Law_law 1533 = oI 0 1534 := (rfl)
theorem e_Law_law_1533  : (WP Gm j_Law_law 1533 (ls) (st) h Q) = (WP Gm j_Law_law 1534 (ls) (.inl 0 :: st) (h) Q) := (WP_at c_Law_law_1533 _ _ _ _)
set_option maxRecDepth 100000 in
theorem c_Law_law_1534 : mCode j_Law_law 1534 = oRetZ := (rfl)
theorem e_Law_law_1534 (x : Int32) (hx : x = 0 ∨ x = 1) : (WP Gm j_Law_law 1534 (ls) ([.inl x]) h Q) = (Q (.inl (some (.inl x))) h) := (WP_at c_Law_law_1534 _ _ _ _).trans (congrArg (fun o => ndX Gm (WP Gm) j_Law_law 1534 o Q) (if_pos (by rcases hx with rfl | rfl <;> rfl)))
set_option maxRecDepth 100000 in
theorem c_Law_law_1535 : mCode j_Law_law 1535 = oAld 1 1536 := (rfl)
theorem e_Law_law_1535 (a0 : Option MV) (x : Option Nat) : (WP Gm j_Law_law 1535 (a0 :: some (.inr (.inl x)) :: ls) (st) h Q) = (WP Gm j_Law_law 1536 (a0 :: some (.inr (.inl x)) :: ls) (.inr (.inl x) :: st) (h) Q) := (WP_at c_Law_law_1535 _ _ _ _)
set_option maxRecDepth 100000 in
theorem c_Law_law_1536 : mCode j_Law_law 1536 = oCallV kc_S j_S_digest 0 (mL j_S_digest) 1539 := (rfl)
theorem e_Law_law_1536 (a : Nat) (hk : isK h a kc_S = true) (hc : c8 st = true) : (WP Gm j_Law_law 1536 (ls) (.inr (.inl (some a)) :: st) h Q) = (WP Gm j_S_digest 0 [some (.inr (.inl (some a))), none, none, none] [] h (kC (fun v h2 => WP Gm j_Law_law 1539 ls (v.toList ++ st) h2 Q) (fun E h2 => Q (.inr E) h2))) := (WP_at c_Law_law_1536 _ _ _ _).trans (congrArg (fun o => ndX Gm (WP Gm) j_Law_law 1536 o Q) (if_pos (by rw [hk, show decide (catS st ≤ 8) = true from hc]; rfl)))
set_option maxRecDepth 100000 in
theorem c_Law_law_1539 : mCode j_Law_law 1539 = oAld 2 1540 := (rfl)
theorem e_Law_law_1539 (a0 a1 : Option MV) (x : Option Nat) : (WP Gm j_Law_law 1539 (a0 :: a1 :: some (.inr (.inl x)) :: ls) (st) h Q) = (WP Gm j_Law_law 1540 (a0 :: a1 :: some (.inr (.inl x)) :: ls) (.inr (.inl x) :: st) (h) Q) := (WP_at c_Law_law_1539 _ _ _ _)
set_option maxRecDepth 100000 in
theorem c_Law_law_1540 : mCode j_Law_law 1540 = oCallV kc_Mdl j_Mdl_digest 0 (mL j_Mdl_digest) 1543 := (rfl)
theorem e_Law_law_1540 (a : Nat) (hk : isK h a kc_Mdl = true) (hc : c8 st = true) : (WP Gm j_Law_law 1540 (ls) (.inr (.inl (some a)) :: st) h Q) = (WP Gm j_Mdl_digest 0 [some (.inr (.inl (some a))), none, none, none, none, none, none] [] h (kC (fun v h2 => WP Gm j_Law_law 1543 ls (v.toList ++ st) h2 Q) (fun E h2 => Q (.inr E) h2))) := (WP_at c_Law_law_1540 _ _ _ _).trans (congrArg (fun o => ndX Gm (WP Gm) j_Law_law 1540 o Q) (if_pos (by rw [hk, show decide (catS st ≤ 8) = true from hc]; rfl)))
set_option maxRecDepth 100000 in
theorem c_Law_law_1543 : mCode j_Law_law 1543 = oLcmp 1544 := (rfl)
theorem e_Law_law_1543 (x y : Int64) : (WP Gm j_Law_law 1543 (ls) (.inr (.inr (.inl y)) :: .inr (.inr (.inl x)) :: st) h Q) = (WP Gm j_Law_law 1544 (ls) (.inl (lg_cmp x y) :: st) (h) Q) := (WP_at c_Law_law_1543 _ _ _ _)
set_option maxRecDepth 100000 in
theorem c_Law_law_1544 : mCode j_Law_law 1544 = oIf (fun x => decide (x = 0)) 1549 1547 := (rfl)
theorem e_Law_law_1544 (x : Int32) : (WP Gm j_Law_law 1544 (ls) (.inl x :: st) h Q) = (if x = 0 then WP Gm j_Law_law 1549 (ls) (st) (h) Q else WP Gm j_Law_law 1547 (ls) (st) (h) Q) := (WP_at c_Law_law_1544 _ _ _ _).trans (nd_if rfl _ _ _ _)
set_option maxRecDepth 100000 in
theorem c_Law_law_1547 : mCode j_Law_law 1547 = oI 0 1548 := (rfl)
theorem e_Law_law_1547  : (WP Gm j_Law_law 1547 (ls) (st) h Q) = (WP Gm j_Law_law 1548 (ls) (.inl 0 :: st) (h) Q) := (WP_at c_Law_law_1547 _ _ _ _)
set_option maxRecDepth 100000 in
theorem c_Law_law_1548 : mCode j_Law_law 1548 = oRetZ := (rfl)
theorem e_Law_law_1548 (x : Int32) (hx : x = 0 ∨ x = 1) : (WP Gm j_Law_law 1548 (ls) ([.inl x]) h Q) = (Q (.inl (some (.inl x))) h) := (WP_at c_Law_law_1548 _ _ _ _).trans (congrArg (fun o => ndX Gm (WP Gm) j_Law_law 1548 o Q) (if_pos (by rcases hx with rfl | rfl <;> rfl)))
set_option maxRecDepth 100000 in
theorem c_Law_law_1549 : mCode j_Law_law 1549 = oInc 4 5 1552 := (rfl)
theorem e_Law_law_1549 (a0 a1 a2 a3 : Option MV) (x : Int32) : (WP Gm j_Law_law 1549 (a0 :: a1 :: a2 :: a3 :: some (.inl x) :: ls) (st) h Q) = (WP Gm j_Law_law 1552 (lSet1 (a0 :: a1 :: a2 :: a3 :: some (.inl x) :: ls) 4 (some (.inl (x + 5)))) (st) (h) Q) := (WP_at c_Law_law_1549 _ _ _ _)
set_option maxRecDepth 100000 in
theorem c_Law_law_1552 : mCode j_Law_law 1552 = oGo 27 := (rfl)
theorem e_Law_law_1552  : (WP Gm j_Law_law 1552 (ls) (st) h Q) = (WP Gm j_Law_law 27 (ls) (st) (h) Q) := (WP_at c_Law_law_1552 _ _ _ _)
set_option maxRecDepth 100000 in
theorem c_Law_law_1555 : mCode j_Law_law 1555 = oI 1 1556 := (rfl)
theorem e_Law_law_1555  : (WP Gm j_Law_law 1555 (ls) (st) h Q) = (WP Gm j_Law_law 1556 (ls) (.inl 1 :: st) (h) Q) := (WP_at c_Law_law_1555 _ _ _ _)
set_option maxRecDepth 100000 in
theorem c_Law_law_1556 : mCode j_Law_law 1556 = oRetZ := (rfl)
theorem e_Law_law_1556 (x : Int32) (hx : x = 0 ∨ x = 1) : (WP Gm j_Law_law 1556 (ls) ([.inl x]) h Q) = (Q (.inl (some (.inl x))) h) := (WP_at c_Law_law_1556 _ _ _ _).trans (congrArg (fun o => ndX Gm (WP Gm) j_Law_law 1556 o Q) (if_pos (by rcases hx with rfl | rfl <;> rfl)))
end STEPS
