/-! M's steps, the law -/
section STEPS
variable (ls : Lo) (st : Sk) (h : Hp) (Q : MRes → Hp → Prop)
theorem c_Out_init_0 : mCode j_Out_init 0 = oAld 0 1 := (rfl)
theorem e_Out_init_0 (x : Option Nat) : (WP Gm j_Out_init 0 (some (.inr (.inl x)) :: ls) (st) h Q) = (WP Gm j_Out_init 1 (some (.inr (.inl x)) :: ls) (.inr (.inl x) :: st) (h) Q) := (WP_at c_Out_init_0 _ _ _ _)
theorem c_Out_init_1 : mCode j_Out_init 1 = oObj 4 := (rfl)
theorem e_Out_init_1 (a : Nat) (hc : c8 st = true) : (WP Gm j_Out_init 1 (ls) (.inr (.inl (some a)) :: st) h Q) = (WP Gm j_Out_init 4 (ls) (st) (h) Q) := (WP_at c_Out_init_1 _ _ _ _).trans (congrArg (fun o => ndX Gm (WP Gm) j_Out_init 1 o Q) (if_pos (of_decide_eq_true hc)))
theorem c_Out_init_4 : mCode j_Out_init 4 = oRet := (rfl)
theorem e_Out_init_4  : (WP Gm j_Out_init 4 (ls) ([]) h Q) = (Q (.inl none) h) := (WP_at c_Out_init_4 _ _ _ _)
theorem c_Law_node_0 : mCode j_Law_node 0 = oAld 5 2 := (rfl)
theorem e_Law_node_0 (a0 a1 a2 a3 a4 : Option MV) (x : Option Nat) : (WP Gm j_Law_node 0 (a0 :: a1 :: a2 :: a3 :: a4 :: some (.inr (.inl x)) :: ls) (st) h Q) = (WP Gm j_Law_node 2 (a0 :: a1 :: a2 :: a3 :: a4 :: some (.inr (.inl x)) :: ls) (.inr (.inl x) :: st) (h) Q) := (WP_at c_Law_node_0 _ _ _ _)
theorem c_Law_node_2 : mCode j_Law_node 2 = oAld 0 3 := (rfl)
theorem e_Law_node_2 (x : Option Nat) : (WP Gm j_Law_node 2 (some (.inr (.inl x)) :: ls) (st) h Q) = (WP Gm j_Law_node 3 (some (.inr (.inl x)) :: ls) (.inr (.inl x) :: st) (h) Q) := (WP_at c_Law_node_2 _ _ _ _)
theorem c_Law_node_3 : mCode j_Law_node 3 = oIld 1 4 := (rfl)
theorem e_Law_node_3 (a0 : Option MV) (x : Int32) : (WP Gm j_Law_node 3 (a0 :: some (.inl x) :: ls) (st) h Q) = (WP Gm j_Law_node 4 (a0 :: some (.inl x) :: ls) (.inl x :: st) (h) Q) := (WP_at c_Law_node_3 _ _ _ _)
theorem c_Law_node_4 : mCode j_Law_node 4 = oIld 2 5 := (rfl)
theorem e_Law_node_4 (a0 a1 : Option MV) (x : Int32) : (WP Gm j_Law_node 4 (a0 :: a1 :: some (.inl x) :: ls) (st) h Q) = (WP Gm j_Law_node 5 (a0 :: a1 :: some (.inl x) :: ls) (.inl x :: st) (h) Q) := (WP_at c_Law_node_4 _ _ _ _)
theorem c_Law_node_5 : mCode j_Law_node 5 = oIld 3 6 := (rfl)
theorem e_Law_node_5 (a0 a1 a2 : Option MV) (x : Int32) : (WP Gm j_Law_node 5 (a0 :: a1 :: a2 :: some (.inl x) :: ls) (st) h Q) = (WP Gm j_Law_node 6 (a0 :: a1 :: a2 :: some (.inl x) :: ls) (.inl x :: st) (h) Q) := (WP_at c_Law_node_5 _ _ _ _)
theorem c_Law_node_6 : mCode j_Law_node 6 = oIld 4 8 := (rfl)
theorem e_Law_node_6 (a0 a1 a2 a3 : Option MV) (x : Int32) : (WP Gm j_Law_node 6 (a0 :: a1 :: a2 :: a3 :: some (.inl x) :: ls) (st) h Q) = (WP Gm j_Law_node 8 (a0 :: a1 :: a2 :: a3 :: some (.inl x) :: ls) (.inl x :: st) (h) Q) := (WP_at c_Law_node_6 _ _ _ _)
theorem c_Law_node_8 : mCode j_Law_node 8 = oCallV kc_S j_S_node 4 (mL j_S_node) 11 := (rfl)
theorem e_Law_node_8 (a : Nat) (x0 : Int32) (x1 : Int32) (x2 : Int32) (x3 : Int32) (hk : isK h a kc_S = true) (hc : c8 st = true) : (WP Gm j_Law_node 8 (ls) (.inl x3 :: .inl x2 :: .inl x1 :: .inl x0 :: .inr (.inl (some a)) :: st) h Q) = (WP Gm j_S_node 0 [some (.inr (.inl (some a))), some (.inl x0), some (.inl x1), some (.inl x2), some (.inl x3)] [] h (kC (fun v h2 => WP Gm j_Law_node 11 ls (v.toList ++ st) h2 Q) (fun E h2 => match mHx_Law_node E with | some (npc, k) => npc ≠ 0 ∧ WP Gm j_Law_node npc (lSet1 ls k none) [] h2 Q | none => Q (.inr E) h2))) := (WP_at c_Law_node_8 _ _ _ _).trans (congrArg (fun o => ndX Gm (WP Gm) j_Law_node 8 o Q) (if_pos (by rw [hk, show decide (catS st ≤ 8) = true from hc]; rfl)))
theorem c_Law_node_11 : mCode j_Law_node 11 = oI2L 12 := (rfl)
theorem e_Law_node_11 (x : Int32) : (WP Gm j_Law_node 11 (ls) (.inl x :: st) h Q) = (WP Gm j_Law_node 12 (ls) (.inr (.inr (.inl x.toInt64)) :: st) (h) Q) := (WP_at c_Law_node_11 _ _ _ _)
theorem c_Law_node_12 : mCode j_Law_node 12 = oPutL kc_Out 0 15 := (rfl)
theorem e_Law_node_12 (a : Nat) (x : Int64) (hk : isK h a kc_Out = true) : (WP Gm j_Law_node 12 (ls) (.inr (.inr (.inl x)) :: .inr (.inl (some a)) :: st) h Q) = (WP Gm j_Law_node 15 (ls) (st) (sL h a 0 x) Q) := (WP_at c_Law_node_12 _ _ _ _).trans (congrArg (fun o => ndX Gm (WP Gm) j_Law_node 12 o Q) (if_pos hk))
theorem c_Law_node_15 : mCode j_Law_node 15 = oGo 26 := (rfl)
theorem e_Law_node_15  : (WP Gm j_Law_node 15 (ls) (st) h Q) = (WP Gm j_Law_node 26 (ls) (st) (h) Q) := (WP_at c_Law_node_15 _ _ _ _)
theorem c_Law_node_18 : mCode j_Law_node 18 = oAst 6 20 := (rfl)
theorem e_Law_node_18 (x : Option Nat) : (WP Gm j_Law_node 18 (ls) (.inr (.inl x) :: st) h Q) = (WP Gm j_Law_node 20 (lSet1 ls 6 (some (.inr (.inl x)))) (st) (h) Q) := (WP_at c_Law_node_18 _ _ _ _)
theorem c_Law_node_20 : mCode j_Law_node 20 = oI 1 21 := (rfl)
theorem e_Law_node_20  : (WP Gm j_Law_node 20 (ls) (st) h Q) = (WP Gm j_Law_node 21 (ls) (.inl 1 :: st) (h) Q) := (WP_at c_Law_node_20 _ _ _ _)
theorem c_Law_node_21 : mCode j_Law_node 21 = oRetI := (rfl)
theorem e_Law_node_21 (x : Int32) : (WP Gm j_Law_node 21 (ls) ([.inl x]) h Q) = (Q (.inl (some (.inl x))) h) := (WP_at c_Law_node_21 _ _ _ _)
theorem c_Law_node_22 : mCode j_Law_node 22 = oAst 6 24 := (rfl)
theorem e_Law_node_22 (x : Option Nat) : (WP Gm j_Law_node 22 (ls) (.inr (.inl x) :: st) h Q) = (WP Gm j_Law_node 24 (lSet1 ls 6 (some (.inr (.inl x)))) (st) (h) Q) := (WP_at c_Law_node_22 _ _ _ _)
theorem c_Law_node_24 : mCode j_Law_node 24 = oI 2 25 := (rfl)
theorem e_Law_node_24  : (WP Gm j_Law_node 24 (ls) (st) h Q) = (WP Gm j_Law_node 25 (ls) (.inl 2 :: st) (h) Q) := (WP_at c_Law_node_24 _ _ _ _)
theorem c_Law_node_25 : mCode j_Law_node 25 = oRetI := (rfl)
theorem e_Law_node_25 (x : Int32) : (WP Gm j_Law_node 25 (ls) ([.inl x]) h Q) = (Q (.inl (some (.inl x))) h) := (WP_at c_Law_node_25 _ _ _ _)
theorem c_Law_node_26 : mCode j_Law_node 26 = oI 0 27 := (rfl)
theorem e_Law_node_26  : (WP Gm j_Law_node 26 (ls) (st) h Q) = (WP Gm j_Law_node 27 (ls) (.inl 0 :: st) (h) Q) := (WP_at c_Law_node_26 _ _ _ _)
theorem c_Law_node_27 : mCode j_Law_node 27 = oRetI := (rfl)
theorem e_Law_node_27 (x : Int32) : (WP Gm j_Law_node 27 (ls) ([.inl x]) h Q) = (Q (.inl (some (.inl x))) h) := (WP_at c_Law_node_27 _ _ _ _)
theorem c_Law_move_0 : mCode j_Law_move 0 = oAld 4 2 := (rfl)
theorem e_Law_move_0 (a0 a1 a2 a3 : Option MV) (x : Option Nat) : (WP Gm j_Law_move 0 (a0 :: a1 :: a2 :: a3 :: some (.inr (.inl x)) :: ls) (st) h Q) = (WP Gm j_Law_move 2 (a0 :: a1 :: a2 :: a3 :: some (.inr (.inl x)) :: ls) (.inr (.inl x) :: st) (h) Q) := (WP_at c_Law_move_0 _ _ _ _)
theorem c_Law_move_2 : mCode j_Law_move 2 = oAld 0 3 := (rfl)
theorem e_Law_move_2 (x : Option Nat) : (WP Gm j_Law_move 2 (some (.inr (.inl x)) :: ls) (st) h Q) = (WP Gm j_Law_move 3 (some (.inr (.inl x)) :: ls) (.inr (.inl x) :: st) (h) Q) := (WP_at c_Law_move_2 _ _ _ _)
theorem c_Law_move_3 : mCode j_Law_move 3 = oIld 1 4 := (rfl)
theorem e_Law_move_3 (a0 : Option MV) (x : Int32) : (WP Gm j_Law_move 3 (a0 :: some (.inl x) :: ls) (st) h Q) = (WP Gm j_Law_move 4 (a0 :: some (.inl x) :: ls) (.inl x :: st) (h) Q) := (WP_at c_Law_move_3 _ _ _ _)
theorem c_Law_move_4 : mCode j_Law_move 4 = oIld 2 5 := (rfl)
theorem e_Law_move_4 (a0 a1 : Option MV) (x : Int32) : (WP Gm j_Law_move 4 (a0 :: a1 :: some (.inl x) :: ls) (st) h Q) = (WP Gm j_Law_move 5 (a0 :: a1 :: some (.inl x) :: ls) (.inl x :: st) (h) Q) := (WP_at c_Law_move_4 _ _ _ _)
theorem c_Law_move_5 : mCode j_Law_move 5 = oIld 3 6 := (rfl)
theorem e_Law_move_5 (a0 a1 a2 : Option MV) (x : Int32) : (WP Gm j_Law_move 5 (a0 :: a1 :: a2 :: some (.inl x) :: ls) (st) h Q) = (WP Gm j_Law_move 6 (a0 :: a1 :: a2 :: some (.inl x) :: ls) (.inl x :: st) (h) Q) := (WP_at c_Law_move_5 _ _ _ _)
theorem c_Law_move_6 : mCode j_Law_move 6 = oCallV kc_S j_S_move 3 (mL j_S_move) 9 := (rfl)
theorem e_Law_move_6 (a : Nat) (x0 : Int32) (x1 : Int32) (x2 : Int32) (hk : isK h a kc_S = true) (hc : c8 st = true) : (WP Gm j_Law_move 6 (ls) (.inl x2 :: .inl x1 :: .inl x0 :: .inr (.inl (some a)) :: st) h Q) = (WP Gm j_S_move 0 [some (.inr (.inl (some a))), some (.inl x0), some (.inl x1), some (.inl x2)] [] h (kC (fun v h2 => WP Gm j_Law_move 9 ls (v.toList ++ st) h2 Q) (fun E h2 => match mHx_Law_move E with | some (npc, k) => npc ≠ 0 ∧ WP Gm j_Law_move npc (lSet1 ls k none) [] h2 Q | none => Q (.inr E) h2))) := (WP_at c_Law_move_6 _ _ _ _).trans (congrArg (fun o => ndX Gm (WP Gm) j_Law_move 6 o Q) (if_pos (by rw [hk, show decide (catS st ≤ 8) = true from hc]; rfl)))
theorem c_Law_move_9 : mCode j_Law_move 9 = oI2L 10 := (rfl)
theorem e_Law_move_9 (x : Int32) : (WP Gm j_Law_move 9 (ls) (.inl x :: st) h Q) = (WP Gm j_Law_move 10 (ls) (.inr (.inr (.inl x.toInt64)) :: st) (h) Q) := (WP_at c_Law_move_9 _ _ _ _)
theorem c_Law_move_10 : mCode j_Law_move 10 = oPutL kc_Out 0 13 := (rfl)
theorem e_Law_move_10 (a : Nat) (x : Int64) (hk : isK h a kc_Out = true) : (WP Gm j_Law_move 10 (ls) (.inr (.inr (.inl x)) :: .inr (.inl (some a)) :: st) h Q) = (WP Gm j_Law_move 13 (ls) (st) (sL h a 0 x) Q) := (WP_at c_Law_move_10 _ _ _ _).trans (congrArg (fun o => ndX Gm (WP Gm) j_Law_move 10 o Q) (if_pos hk))
theorem c_Law_move_13 : mCode j_Law_move 13 = oGo 28 := (rfl)
theorem e_Law_move_13  : (WP Gm j_Law_move 13 (ls) (st) h Q) = (WP Gm j_Law_move 28 (ls) (st) (h) Q) := (WP_at c_Law_move_13 _ _ _ _)
theorem c_Law_move_16 : mCode j_Law_move 16 = oAst 5 18 := (rfl)
theorem e_Law_move_16 (x : Option Nat) : (WP Gm j_Law_move 16 (ls) (.inr (.inl x) :: st) h Q) = (WP Gm j_Law_move 18 (lSet1 ls 5 (some (.inr (.inl x)))) (st) (h) Q) := (WP_at c_Law_move_16 _ _ _ _)
theorem c_Law_move_18 : mCode j_Law_move 18 = oI 1 19 := (rfl)
theorem e_Law_move_18  : (WP Gm j_Law_move 18 (ls) (st) h Q) = (WP Gm j_Law_move 19 (ls) (.inl 1 :: st) (h) Q) := (WP_at c_Law_move_18 _ _ _ _)
theorem c_Law_move_19 : mCode j_Law_move 19 = oRetI := (rfl)
theorem e_Law_move_19 (x : Int32) : (WP Gm j_Law_move 19 (ls) ([.inl x]) h Q) = (Q (.inl (some (.inl x))) h) := (WP_at c_Law_move_19 _ _ _ _)
theorem c_Law_move_20 : mCode j_Law_move 20 = oAst 5 22 := (rfl)
theorem e_Law_move_20 (x : Option Nat) : (WP Gm j_Law_move 20 (ls) (.inr (.inl x) :: st) h Q) = (WP Gm j_Law_move 22 (lSet1 ls 5 (some (.inr (.inl x)))) (st) (h) Q) := (WP_at c_Law_move_20 _ _ _ _)
theorem c_Law_move_22 : mCode j_Law_move 22 = oI 2 23 := (rfl)
theorem e_Law_move_22  : (WP Gm j_Law_move 22 (ls) (st) h Q) = (WP Gm j_Law_move 23 (ls) (.inl 2 :: st) (h) Q) := (WP_at c_Law_move_22 _ _ _ _)
theorem c_Law_move_23 : mCode j_Law_move 23 = oRetI := (rfl)
theorem e_Law_move_23 (x : Int32) : (WP Gm j_Law_move 23 (ls) ([.inl x]) h Q) = (Q (.inl (some (.inl x))) h) := (WP_at c_Law_move_23 _ _ _ _)
theorem c_Law_move_24 : mCode j_Law_move 24 = oAst 5 26 := (rfl)
theorem e_Law_move_24 (x : Option Nat) : (WP Gm j_Law_move 24 (ls) (.inr (.inl x) :: st) h Q) = (WP Gm j_Law_move 26 (lSet1 ls 5 (some (.inr (.inl x)))) (st) (h) Q) := (WP_at c_Law_move_24 _ _ _ _)
theorem c_Law_move_26 : mCode j_Law_move 26 = oI 3 27 := (rfl)
theorem e_Law_move_26  : (WP Gm j_Law_move 26 (ls) (st) h Q) = (WP Gm j_Law_move 27 (ls) (.inl 3 :: st) (h) Q) := (WP_at c_Law_move_26 _ _ _ _)
theorem c_Law_move_27 : mCode j_Law_move 27 = oRetI := (rfl)
theorem e_Law_move_27 (x : Int32) : (WP Gm j_Law_move 27 (ls) ([.inl x]) h Q) = (Q (.inl (some (.inl x))) h) := (WP_at c_Law_move_27 _ _ _ _)
theorem c_Law_move_28 : mCode j_Law_move 28 = oI 0 29 := (rfl)
theorem e_Law_move_28  : (WP Gm j_Law_move 28 (ls) (st) h Q) = (WP Gm j_Law_move 29 (ls) (.inl 0 :: st) (h) Q) := (WP_at c_Law_move_28 _ _ _ _)
theorem c_Law_move_29 : mCode j_Law_move 29 = oRetI := (rfl)
theorem e_Law_move_29 (x : Int32) : (WP Gm j_Law_move 29 (ls) ([.inl x]) h Q) = (Q (.inl (some (.inl x))) h) := (WP_at c_Law_move_29 _ _ _ _)
theorem c_Law_tune_0 : mCode j_Law_tune 0 = oAld 4 2 := (rfl)
theorem e_Law_tune_0 (a0 a1 a2 a3 : Option MV) (x : Option Nat) : (WP Gm j_Law_tune 0 (a0 :: a1 :: a2 :: a3 :: some (.inr (.inl x)) :: ls) (st) h Q) = (WP Gm j_Law_tune 2 (a0 :: a1 :: a2 :: a3 :: some (.inr (.inl x)) :: ls) (.inr (.inl x) :: st) (h) Q) := (WP_at c_Law_tune_0 _ _ _ _)
theorem c_Law_tune_2 : mCode j_Law_tune 2 = oAld 0 3 := (rfl)
theorem e_Law_tune_2 (x : Option Nat) : (WP Gm j_Law_tune 2 (some (.inr (.inl x)) :: ls) (st) h Q) = (WP Gm j_Law_tune 3 (some (.inr (.inl x)) :: ls) (.inr (.inl x) :: st) (h) Q) := (WP_at c_Law_tune_2 _ _ _ _)
theorem c_Law_tune_3 : mCode j_Law_tune 3 = oIld 1 4 := (rfl)
theorem e_Law_tune_3 (a0 : Option MV) (x : Int32) : (WP Gm j_Law_tune 3 (a0 :: some (.inl x) :: ls) (st) h Q) = (WP Gm j_Law_tune 4 (a0 :: some (.inl x) :: ls) (.inl x :: st) (h) Q) := (WP_at c_Law_tune_3 _ _ _ _)
theorem c_Law_tune_4 : mCode j_Law_tune 4 = oIld 2 5 := (rfl)
theorem e_Law_tune_4 (a0 a1 : Option MV) (x : Int32) : (WP Gm j_Law_tune 4 (a0 :: a1 :: some (.inl x) :: ls) (st) h Q) = (WP Gm j_Law_tune 5 (a0 :: a1 :: some (.inl x) :: ls) (.inl x :: st) (h) Q) := (WP_at c_Law_tune_4 _ _ _ _)
theorem c_Law_tune_5 : mCode j_Law_tune 5 = oIld 3 6 := (rfl)
theorem e_Law_tune_5 (a0 a1 a2 : Option MV) (x : Int32) : (WP Gm j_Law_tune 5 (a0 :: a1 :: a2 :: some (.inl x) :: ls) (st) h Q) = (WP Gm j_Law_tune 6 (a0 :: a1 :: a2 :: some (.inl x) :: ls) (.inl x :: st) (h) Q) := (WP_at c_Law_tune_5 _ _ _ _)
theorem c_Law_tune_6 : mCode j_Law_tune 6 = oCallV kc_S j_S_tune 3 (mL j_S_tune) 9 := (rfl)
theorem e_Law_tune_6 (a : Nat) (x0 : Int32) (x1 : Int32) (x2 : Int32) (hk : isK h a kc_S = true) (hc : c8 st = true) : (WP Gm j_Law_tune 6 (ls) (.inl x2 :: .inl x1 :: .inl x0 :: .inr (.inl (some a)) :: st) h Q) = (WP Gm j_S_tune 0 [some (.inr (.inl (some a))), some (.inl x0), some (.inl x1), some (.inl x2), none] [] h (kC (fun v h2 => WP Gm j_Law_tune 9 ls (v.toList ++ st) h2 Q) (fun E h2 => match mHx_Law_tune E with | some (npc, k) => npc ≠ 0 ∧ WP Gm j_Law_tune npc (lSet1 ls k none) [] h2 Q | none => Q (.inr E) h2))) := (WP_at c_Law_tune_6 _ _ _ _).trans (congrArg (fun o => ndX Gm (WP Gm) j_Law_tune 6 o Q) (if_pos (by rw [hk, show decide (catS st ≤ 8) = true from hc]; rfl)))
theorem c_Law_tune_9 : mCode j_Law_tune 9 = oI2L 10 := (rfl)
theorem e_Law_tune_9 (x : Int32) : (WP Gm j_Law_tune 9 (ls) (.inl x :: st) h Q) = (WP Gm j_Law_tune 10 (ls) (.inr (.inr (.inl x.toInt64)) :: st) (h) Q) := (WP_at c_Law_tune_9 _ _ _ _)
theorem c_Law_tune_10 : mCode j_Law_tune 10 = oPutL kc_Out 0 13 := (rfl)
theorem e_Law_tune_10 (a : Nat) (x : Int64) (hk : isK h a kc_Out = true) : (WP Gm j_Law_tune 10 (ls) (.inr (.inr (.inl x)) :: .inr (.inl (some a)) :: st) h Q) = (WP Gm j_Law_tune 13 (ls) (st) (sL h a 0 x) Q) := (WP_at c_Law_tune_10 _ _ _ _).trans (congrArg (fun o => ndX Gm (WP Gm) j_Law_tune 10 o Q) (if_pos hk))
theorem c_Law_tune_13 : mCode j_Law_tune 13 = oGo 28 := (rfl)
theorem e_Law_tune_13  : (WP Gm j_Law_tune 13 (ls) (st) h Q) = (WP Gm j_Law_tune 28 (ls) (st) (h) Q) := (WP_at c_Law_tune_13 _ _ _ _)
theorem c_Law_tune_16 : mCode j_Law_tune 16 = oAst 5 18 := (rfl)
theorem e_Law_tune_16 (x : Option Nat) : (WP Gm j_Law_tune 16 (ls) (.inr (.inl x) :: st) h Q) = (WP Gm j_Law_tune 18 (lSet1 ls 5 (some (.inr (.inl x)))) (st) (h) Q) := (WP_at c_Law_tune_16 _ _ _ _)
theorem c_Law_tune_18 : mCode j_Law_tune 18 = oI 1 19 := (rfl)
theorem e_Law_tune_18  : (WP Gm j_Law_tune 18 (ls) (st) h Q) = (WP Gm j_Law_tune 19 (ls) (.inl 1 :: st) (h) Q) := (WP_at c_Law_tune_18 _ _ _ _)
theorem c_Law_tune_19 : mCode j_Law_tune 19 = oRetI := (rfl)
theorem e_Law_tune_19 (x : Int32) : (WP Gm j_Law_tune 19 (ls) ([.inl x]) h Q) = (Q (.inl (some (.inl x))) h) := (WP_at c_Law_tune_19 _ _ _ _)
theorem c_Law_tune_20 : mCode j_Law_tune 20 = oAst 5 22 := (rfl)
theorem e_Law_tune_20 (x : Option Nat) : (WP Gm j_Law_tune 20 (ls) (.inr (.inl x) :: st) h Q) = (WP Gm j_Law_tune 22 (lSet1 ls 5 (some (.inr (.inl x)))) (st) (h) Q) := (WP_at c_Law_tune_20 _ _ _ _)
theorem c_Law_tune_22 : mCode j_Law_tune 22 = oI 2 23 := (rfl)
theorem e_Law_tune_22  : (WP Gm j_Law_tune 22 (ls) (st) h Q) = (WP Gm j_Law_tune 23 (ls) (.inl 2 :: st) (h) Q) := (WP_at c_Law_tune_22 _ _ _ _)
theorem c_Law_tune_23 : mCode j_Law_tune 23 = oRetI := (rfl)
theorem e_Law_tune_23 (x : Int32) : (WP Gm j_Law_tune 23 (ls) ([.inl x]) h Q) = (Q (.inl (some (.inl x))) h) := (WP_at c_Law_tune_23 _ _ _ _)
theorem c_Law_tune_24 : mCode j_Law_tune 24 = oAst 5 26 := (rfl)
theorem e_Law_tune_24 (x : Option Nat) : (WP Gm j_Law_tune 24 (ls) (.inr (.inl x) :: st) h Q) = (WP Gm j_Law_tune 26 (lSet1 ls 5 (some (.inr (.inl x)))) (st) (h) Q) := (WP_at c_Law_tune_24 _ _ _ _)
theorem c_Law_tune_26 : mCode j_Law_tune 26 = oI 3 27 := (rfl)
theorem e_Law_tune_26  : (WP Gm j_Law_tune 26 (ls) (st) h Q) = (WP Gm j_Law_tune 27 (ls) (.inl 3 :: st) (h) Q) := (WP_at c_Law_tune_26 _ _ _ _)
theorem c_Law_tune_27 : mCode j_Law_tune 27 = oRetI := (rfl)
theorem e_Law_tune_27 (x : Int32) : (WP Gm j_Law_tune 27 (ls) ([.inl x]) h Q) = (Q (.inl (some (.inl x))) h) := (WP_at c_Law_tune_27 _ _ _ _)
theorem c_Law_tune_28 : mCode j_Law_tune 28 = oI 0 29 := (rfl)
theorem e_Law_tune_28  : (WP Gm j_Law_tune 28 (ls) (st) h Q) = (WP Gm j_Law_tune 29 (ls) (.inl 0 :: st) (h) Q) := (WP_at c_Law_tune_28 _ _ _ _)
theorem c_Law_tune_29 : mCode j_Law_tune 29 = oRetI := (rfl)
theorem e_Law_tune_29 (x : Int32) : (WP Gm j_Law_tune 29 (ls) ([.inl x]) h Q) = (Q (.inl (some (.inl x))) h) := (WP_at c_Law_tune_29 _ _ _ _)
theorem c_Law_send_0 : mCode j_Law_send 0 = oAld 4 2 := (rfl)
theorem e_Law_send_0 (a0 a1 a2 a3 : Option MV) (x : Option Nat) : (WP Gm j_Law_send 0 (a0 :: a1 :: a2 :: a3 :: some (.inr (.inl x)) :: ls) (st) h Q) = (WP Gm j_Law_send 2 (a0 :: a1 :: a2 :: a3 :: some (.inr (.inl x)) :: ls) (.inr (.inl x) :: st) (h) Q) := (WP_at c_Law_send_0 _ _ _ _)
theorem c_Law_send_2 : mCode j_Law_send 2 = oAld 0 3 := (rfl)
theorem e_Law_send_2 (x : Option Nat) : (WP Gm j_Law_send 2 (some (.inr (.inl x)) :: ls) (st) h Q) = (WP Gm j_Law_send 3 (some (.inr (.inl x)) :: ls) (.inr (.inl x) :: st) (h) Q) := (WP_at c_Law_send_2 _ _ _ _)
theorem c_Law_send_3 : mCode j_Law_send 3 = oIld 1 4 := (rfl)
theorem e_Law_send_3 (a0 : Option MV) (x : Int32) : (WP Gm j_Law_send 3 (a0 :: some (.inl x) :: ls) (st) h Q) = (WP Gm j_Law_send 4 (a0 :: some (.inl x) :: ls) (.inl x :: st) (h) Q) := (WP_at c_Law_send_3 _ _ _ _)
theorem c_Law_send_4 : mCode j_Law_send 4 = oIld 2 5 := (rfl)
theorem e_Law_send_4 (a0 a1 : Option MV) (x : Int32) : (WP Gm j_Law_send 4 (a0 :: a1 :: some (.inl x) :: ls) (st) h Q) = (WP Gm j_Law_send 5 (a0 :: a1 :: some (.inl x) :: ls) (.inl x :: st) (h) Q) := (WP_at c_Law_send_4 _ _ _ _)
theorem c_Law_send_5 : mCode j_Law_send 5 = oIld 3 6 := (rfl)
theorem e_Law_send_5 (a0 a1 a2 : Option MV) (x : Int32) : (WP Gm j_Law_send 5 (a0 :: a1 :: a2 :: some (.inl x) :: ls) (st) h Q) = (WP Gm j_Law_send 6 (a0 :: a1 :: a2 :: some (.inl x) :: ls) (.inl x :: st) (h) Q) := (WP_at c_Law_send_5 _ _ _ _)
theorem c_Law_send_6 : mCode j_Law_send 6 = oCallV kc_S j_S_send 3 (mL j_S_send) 9 := (rfl)
theorem e_Law_send_6 (a : Nat) (x0 : Int32) (x1 : Int32) (x2 : Int32) (hk : isK h a kc_S = true) (hc : c8 st = true) : (WP Gm j_Law_send 6 (ls) (.inl x2 :: .inl x1 :: .inl x0 :: .inr (.inl (some a)) :: st) h Q) = (WP Gm j_S_send 0 [some (.inr (.inl (some a))), some (.inl x0), some (.inl x1), some (.inl x2), none, none] [] h (kC (fun v h2 => WP Gm j_Law_send 9 ls (v.toList ++ st) h2 Q) (fun E h2 => match mHx_Law_send E with | some (npc, k) => npc ≠ 0 ∧ WP Gm j_Law_send npc (lSet1 ls k none) [] h2 Q | none => Q (.inr E) h2))) := (WP_at c_Law_send_6 _ _ _ _).trans (congrArg (fun o => ndX Gm (WP Gm) j_Law_send 6 o Q) (if_pos (by rw [hk, show decide (catS st ≤ 8) = true from hc]; rfl)))
theorem c_Law_send_9 : mCode j_Law_send 9 = oI2L 10 := (rfl)
theorem e_Law_send_9 (x : Int32) : (WP Gm j_Law_send 9 (ls) (.inl x :: st) h Q) = (WP Gm j_Law_send 10 (ls) (.inr (.inr (.inl x.toInt64)) :: st) (h) Q) := (WP_at c_Law_send_9 _ _ _ _)
theorem c_Law_send_10 : mCode j_Law_send 10 = oPutL kc_Out 0 13 := (rfl)
theorem e_Law_send_10 (a : Nat) (x : Int64) (hk : isK h a kc_Out = true) : (WP Gm j_Law_send 10 (ls) (.inr (.inr (.inl x)) :: .inr (.inl (some a)) :: st) h Q) = (WP Gm j_Law_send 13 (ls) (st) (sL h a 0 x) Q) := (WP_at c_Law_send_10 _ _ _ _).trans (congrArg (fun o => ndX Gm (WP Gm) j_Law_send 10 o Q) (if_pos hk))
theorem c_Law_send_13 : mCode j_Law_send 13 = oGo 28 := (rfl)
theorem e_Law_send_13  : (WP Gm j_Law_send 13 (ls) (st) h Q) = (WP Gm j_Law_send 28 (ls) (st) (h) Q) := (WP_at c_Law_send_13 _ _ _ _)
theorem c_Law_send_16 : mCode j_Law_send 16 = oAst 5 18 := (rfl)
theorem e_Law_send_16 (x : Option Nat) : (WP Gm j_Law_send 16 (ls) (.inr (.inl x) :: st) h Q) = (WP Gm j_Law_send 18 (lSet1 ls 5 (some (.inr (.inl x)))) (st) (h) Q) := (WP_at c_Law_send_16 _ _ _ _)
theorem c_Law_send_18 : mCode j_Law_send 18 = oI 1 19 := (rfl)
theorem e_Law_send_18  : (WP Gm j_Law_send 18 (ls) (st) h Q) = (WP Gm j_Law_send 19 (ls) (.inl 1 :: st) (h) Q) := (WP_at c_Law_send_18 _ _ _ _)
theorem c_Law_send_19 : mCode j_Law_send 19 = oRetI := (rfl)
theorem e_Law_send_19 (x : Int32) : (WP Gm j_Law_send 19 (ls) ([.inl x]) h Q) = (Q (.inl (some (.inl x))) h) := (WP_at c_Law_send_19 _ _ _ _)
theorem c_Law_send_20 : mCode j_Law_send 20 = oAst 5 22 := (rfl)
theorem e_Law_send_20 (x : Option Nat) : (WP Gm j_Law_send 20 (ls) (.inr (.inl x) :: st) h Q) = (WP Gm j_Law_send 22 (lSet1 ls 5 (some (.inr (.inl x)))) (st) (h) Q) := (WP_at c_Law_send_20 _ _ _ _)
theorem c_Law_send_22 : mCode j_Law_send 22 = oI 2 23 := (rfl)
theorem e_Law_send_22  : (WP Gm j_Law_send 22 (ls) (st) h Q) = (WP Gm j_Law_send 23 (ls) (.inl 2 :: st) (h) Q) := (WP_at c_Law_send_22 _ _ _ _)
theorem c_Law_send_23 : mCode j_Law_send 23 = oRetI := (rfl)
theorem e_Law_send_23 (x : Int32) : (WP Gm j_Law_send 23 (ls) ([.inl x]) h Q) = (Q (.inl (some (.inl x))) h) := (WP_at c_Law_send_23 _ _ _ _)
theorem c_Law_send_24 : mCode j_Law_send 24 = oAst 5 26 := (rfl)
theorem e_Law_send_24 (x : Option Nat) : (WP Gm j_Law_send 24 (ls) (.inr (.inl x) :: st) h Q) = (WP Gm j_Law_send 26 (lSet1 ls 5 (some (.inr (.inl x)))) (st) (h) Q) := (WP_at c_Law_send_24 _ _ _ _)
theorem c_Law_send_26 : mCode j_Law_send 26 = oI 3 27 := (rfl)
theorem e_Law_send_26  : (WP Gm j_Law_send 26 (ls) (st) h Q) = (WP Gm j_Law_send 27 (ls) (.inl 3 :: st) (h) Q) := (WP_at c_Law_send_26 _ _ _ _)
theorem c_Law_send_27 : mCode j_Law_send 27 = oRetI := (rfl)
theorem e_Law_send_27 (x : Int32) : (WP Gm j_Law_send 27 (ls) ([.inl x]) h Q) = (Q (.inl (some (.inl x))) h) := (WP_at c_Law_send_27 _ _ _ _)
theorem c_Law_send_28 : mCode j_Law_send 28 = oI 0 29 := (rfl)
theorem e_Law_send_28  : (WP Gm j_Law_send 28 (ls) (st) h Q) = (WP Gm j_Law_send 29 (ls) (.inl 0 :: st) (h) Q) := (WP_at c_Law_send_28 _ _ _ _)
theorem c_Law_send_29 : mCode j_Law_send 29 = oRetI := (rfl)
theorem e_Law_send_29 (x : Int32) : (WP Gm j_Law_send 29 (ls) ([.inl x]) h Q) = (Q (.inl (some (.inl x))) h) := (WP_at c_Law_send_29 _ _ _ _)
theorem c_Law_pass_0 : mCode j_Law_pass 0 = oAld 2 1 := (rfl)
theorem e_Law_pass_0 (a0 a1 : Option MV) (x : Option Nat) : (WP Gm j_Law_pass 0 (a0 :: a1 :: some (.inr (.inl x)) :: ls) (st) h Q) = (WP Gm j_Law_pass 1 (a0 :: a1 :: some (.inr (.inl x)) :: ls) (.inr (.inl x) :: st) (h) Q) := (WP_at c_Law_pass_0 _ _ _ _)
theorem c_Law_pass_1 : mCode j_Law_pass 1 = oAld 0 2 := (rfl)
theorem e_Law_pass_1 (x : Option Nat) : (WP Gm j_Law_pass 1 (some (.inr (.inl x)) :: ls) (st) h Q) = (WP Gm j_Law_pass 2 (some (.inr (.inl x)) :: ls) (.inr (.inl x) :: st) (h) Q) := (WP_at c_Law_pass_1 _ _ _ _)
theorem c_Law_pass_2 : mCode j_Law_pass 2 = oIld 1 3 := (rfl)
theorem e_Law_pass_2 (a0 : Option MV) (x : Int32) : (WP Gm j_Law_pass 2 (a0 :: some (.inl x) :: ls) (st) h Q) = (WP Gm j_Law_pass 3 (a0 :: some (.inl x) :: ls) (.inl x :: st) (h) Q) := (WP_at c_Law_pass_2 _ _ _ _)
theorem c_Law_pass_3 : mCode j_Law_pass 3 = oCallV kc_S j_S_pass 1 (mL j_S_pass) 6 := (rfl)
theorem e_Law_pass_3 (a : Nat) (x0 : Int32) (hk : isK h a kc_S = true) (hc : c8 st = true) : (WP Gm j_Law_pass 3 (ls) (.inl x0 :: .inr (.inl (some a)) :: st) h Q) = (WP Gm j_S_pass 0 [some (.inr (.inl (some a))), some (.inl x0), none] [] h (kC (fun v h2 => WP Gm j_Law_pass 6 ls (v.toList ++ st) h2 Q) (fun E h2 => match mHx_Law_pass E with | some (npc, k) => npc ≠ 0 ∧ WP Gm j_Law_pass npc (lSet1 ls k none) [] h2 Q | none => Q (.inr E) h2))) := (WP_at c_Law_pass_3 _ _ _ _).trans (congrArg (fun o => ndX Gm (WP Gm) j_Law_pass 3 o Q) (if_pos (by rw [hk, show decide (catS st ≤ 8) = true from hc]; rfl)))
theorem c_Law_pass_6 : mCode j_Law_pass 6 = oI2L 7 := (rfl)
theorem e_Law_pass_6 (x : Int32) : (WP Gm j_Law_pass 6 (ls) (.inl x :: st) h Q) = (WP Gm j_Law_pass 7 (ls) (.inr (.inr (.inl x.toInt64)) :: st) (h) Q) := (WP_at c_Law_pass_6 _ _ _ _)
theorem c_Law_pass_7 : mCode j_Law_pass 7 = oPutL kc_Out 0 10 := (rfl)
theorem e_Law_pass_7 (a : Nat) (x : Int64) (hk : isK h a kc_Out = true) : (WP Gm j_Law_pass 7 (ls) (.inr (.inr (.inl x)) :: .inr (.inl (some a)) :: st) h Q) = (WP Gm j_Law_pass 10 (ls) (st) (sL h a 0 x) Q) := (WP_at c_Law_pass_7 _ _ _ _).trans (congrArg (fun o => ndX Gm (WP Gm) j_Law_pass 7 o Q) (if_pos hk))
theorem c_Law_pass_10 : mCode j_Law_pass 10 = oGo 19 := (rfl)
theorem e_Law_pass_10  : (WP Gm j_Law_pass 10 (ls) (st) h Q) = (WP Gm j_Law_pass 19 (ls) (st) (h) Q) := (WP_at c_Law_pass_10 _ _ _ _)
theorem c_Law_pass_13 : mCode j_Law_pass 13 = oAst 3 14 := (rfl)
theorem e_Law_pass_13 (x : Option Nat) : (WP Gm j_Law_pass 13 (ls) (.inr (.inl x) :: st) h Q) = (WP Gm j_Law_pass 14 (lSet1 ls 3 (some (.inr (.inl x)))) (st) (h) Q) := (WP_at c_Law_pass_13 _ _ _ _)
theorem c_Law_pass_14 : mCode j_Law_pass 14 = oI 1 15 := (rfl)
theorem e_Law_pass_14  : (WP Gm j_Law_pass 14 (ls) (st) h Q) = (WP Gm j_Law_pass 15 (ls) (.inl 1 :: st) (h) Q) := (WP_at c_Law_pass_14 _ _ _ _)
theorem c_Law_pass_15 : mCode j_Law_pass 15 = oRetI := (rfl)
theorem e_Law_pass_15 (x : Int32) : (WP Gm j_Law_pass 15 (ls) ([.inl x]) h Q) = (Q (.inl (some (.inl x))) h) := (WP_at c_Law_pass_15 _ _ _ _)
theorem c_Law_pass_16 : mCode j_Law_pass 16 = oAst 3 17 := (rfl)
theorem e_Law_pass_16 (x : Option Nat) : (WP Gm j_Law_pass 16 (ls) (.inr (.inl x) :: st) h Q) = (WP Gm j_Law_pass 17 (lSet1 ls 3 (some (.inr (.inl x)))) (st) (h) Q) := (WP_at c_Law_pass_16 _ _ _ _)
theorem c_Law_pass_17 : mCode j_Law_pass 17 = oI 2 18 := (rfl)
theorem e_Law_pass_17  : (WP Gm j_Law_pass 17 (ls) (st) h Q) = (WP Gm j_Law_pass 18 (ls) (.inl 2 :: st) (h) Q) := (WP_at c_Law_pass_17 _ _ _ _)
theorem c_Law_pass_18 : mCode j_Law_pass 18 = oRetI := (rfl)
theorem e_Law_pass_18 (x : Int32) : (WP Gm j_Law_pass 18 (ls) ([.inl x]) h Q) = (Q (.inl (some (.inl x))) h) := (WP_at c_Law_pass_18 _ _ _ _)
theorem c_Law_pass_19 : mCode j_Law_pass 19 = oI 0 20 := (rfl)
theorem e_Law_pass_19  : (WP Gm j_Law_pass 19 (ls) (st) h Q) = (WP Gm j_Law_pass 20 (ls) (.inl 0 :: st) (h) Q) := (WP_at c_Law_pass_19 _ _ _ _)
theorem c_Law_pass_20 : mCode j_Law_pass 20 = oRetI := (rfl)
theorem e_Law_pass_20 (x : Int32) : (WP Gm j_Law_pass 20 (ls) ([.inl x]) h Q) = (Q (.inl (some (.inl x))) h) := (WP_at c_Law_pass_20 _ _ _ _)
theorem c_Law_exchange_0 : mCode j_Law_exchange 0 = oAld 2 1 := (rfl)
theorem e_Law_exchange_0 (a0 a1 : Option MV) (x : Option Nat) : (WP Gm j_Law_exchange 0 (a0 :: a1 :: some (.inr (.inl x)) :: ls) (st) h Q) = (WP Gm j_Law_exchange 1 (a0 :: a1 :: some (.inr (.inl x)) :: ls) (.inr (.inl x) :: st) (h) Q) := (WP_at c_Law_exchange_0 _ _ _ _)
theorem c_Law_exchange_1 : mCode j_Law_exchange 1 = oAld 0 2 := (rfl)
theorem e_Law_exchange_1 (x : Option Nat) : (WP Gm j_Law_exchange 1 (some (.inr (.inl x)) :: ls) (st) h Q) = (WP Gm j_Law_exchange 2 (some (.inr (.inl x)) :: ls) (.inr (.inl x) :: st) (h) Q) := (WP_at c_Law_exchange_1 _ _ _ _)
theorem c_Law_exchange_2 : mCode j_Law_exchange 2 = oIld 1 3 := (rfl)
theorem e_Law_exchange_2 (a0 : Option MV) (x : Int32) : (WP Gm j_Law_exchange 2 (a0 :: some (.inl x) :: ls) (st) h Q) = (WP Gm j_Law_exchange 3 (a0 :: some (.inl x) :: ls) (.inl x :: st) (h) Q) := (WP_at c_Law_exchange_2 _ _ _ _)
theorem c_Law_exchange_3 : mCode j_Law_exchange 3 = oCallV kc_S j_S_exchange 1 (mL j_S_exchange) 6 := (rfl)
theorem e_Law_exchange_3 (a : Nat) (x0 : Int32) (hk : isK h a kc_S = true) (hc : c8 st = true) : (WP Gm j_Law_exchange 3 (ls) (.inl x0 :: .inr (.inl (some a)) :: st) h Q) = (WP Gm j_S_exchange 0 [some (.inr (.inl (some a))), some (.inl x0), none] [] h (kC (fun v h2 => WP Gm j_Law_exchange 6 ls (v.toList ++ st) h2 Q) (fun E h2 => match mHx_Law_exchange E with | some (npc, k) => npc ≠ 0 ∧ WP Gm j_Law_exchange npc (lSet1 ls k none) [] h2 Q | none => Q (.inr E) h2))) := (WP_at c_Law_exchange_3 _ _ _ _).trans (congrArg (fun o => ndX Gm (WP Gm) j_Law_exchange 3 o Q) (if_pos (by rw [hk, show decide (catS st ≤ 8) = true from hc]; rfl)))
theorem c_Law_exchange_6 : mCode j_Law_exchange 6 = oI2L 7 := (rfl)
theorem e_Law_exchange_6 (x : Int32) : (WP Gm j_Law_exchange 6 (ls) (.inl x :: st) h Q) = (WP Gm j_Law_exchange 7 (ls) (.inr (.inr (.inl x.toInt64)) :: st) (h) Q) := (WP_at c_Law_exchange_6 _ _ _ _)
theorem c_Law_exchange_7 : mCode j_Law_exchange 7 = oPutL kc_Out 0 10 := (rfl)
theorem e_Law_exchange_7 (a : Nat) (x : Int64) (hk : isK h a kc_Out = true) : (WP Gm j_Law_exchange 7 (ls) (.inr (.inr (.inl x)) :: .inr (.inl (some a)) :: st) h Q) = (WP Gm j_Law_exchange 10 (ls) (st) (sL h a 0 x) Q) := (WP_at c_Law_exchange_7 _ _ _ _).trans (congrArg (fun o => ndX Gm (WP Gm) j_Law_exchange 7 o Q) (if_pos hk))
theorem c_Law_exchange_10 : mCode j_Law_exchange 10 = oGo 16 := (rfl)
theorem e_Law_exchange_10  : (WP Gm j_Law_exchange 10 (ls) (st) h Q) = (WP Gm j_Law_exchange 16 (ls) (st) (h) Q) := (WP_at c_Law_exchange_10 _ _ _ _)
theorem c_Law_exchange_13 : mCode j_Law_exchange 13 = oAst 3 14 := (rfl)
theorem e_Law_exchange_13 (x : Option Nat) : (WP Gm j_Law_exchange 13 (ls) (.inr (.inl x) :: st) h Q) = (WP Gm j_Law_exchange 14 (lSet1 ls 3 (some (.inr (.inl x)))) (st) (h) Q) := (WP_at c_Law_exchange_13 _ _ _ _)
theorem c_Law_exchange_14 : mCode j_Law_exchange 14 = oI 1 15 := (rfl)
theorem e_Law_exchange_14  : (WP Gm j_Law_exchange 14 (ls) (st) h Q) = (WP Gm j_Law_exchange 15 (ls) (.inl 1 :: st) (h) Q) := (WP_at c_Law_exchange_14 _ _ _ _)
theorem c_Law_exchange_15 : mCode j_Law_exchange 15 = oRetI := (rfl)
theorem e_Law_exchange_15 (x : Int32) : (WP Gm j_Law_exchange 15 (ls) ([.inl x]) h Q) = (Q (.inl (some (.inl x))) h) := (WP_at c_Law_exchange_15 _ _ _ _)
theorem c_Law_exchange_16 : mCode j_Law_exchange 16 = oI 0 17 := (rfl)
theorem e_Law_exchange_16  : (WP Gm j_Law_exchange 16 (ls) (st) h Q) = (WP Gm j_Law_exchange 17 (ls) (.inl 0 :: st) (h) Q) := (WP_at c_Law_exchange_16 _ _ _ _)
theorem c_Law_exchange_17 : mCode j_Law_exchange 17 = oRetI := (rfl)
theorem e_Law_exchange_17 (x : Int32) : (WP Gm j_Law_exchange 17 (ls) ([.inl x]) h Q) = (Q (.inl (some (.inl x))) h) := (WP_at c_Law_exchange_17 _ _ _ _)
theorem c_Law_bid_0 : mCode j_Law_bid 0 = oAld 4 2 := (rfl)
theorem e_Law_bid_0 (a0 a1 a2 a3 : Option MV) (x : Option Nat) : (WP Gm j_Law_bid 0 (a0 :: a1 :: a2 :: a3 :: some (.inr (.inl x)) :: ls) (st) h Q) = (WP Gm j_Law_bid 2 (a0 :: a1 :: a2 :: a3 :: some (.inr (.inl x)) :: ls) (.inr (.inl x) :: st) (h) Q) := (WP_at c_Law_bid_0 _ _ _ _)
theorem c_Law_bid_2 : mCode j_Law_bid 2 = oAld 0 3 := (rfl)
theorem e_Law_bid_2 (x : Option Nat) : (WP Gm j_Law_bid 2 (some (.inr (.inl x)) :: ls) (st) h Q) = (WP Gm j_Law_bid 3 (some (.inr (.inl x)) :: ls) (.inr (.inl x) :: st) (h) Q) := (WP_at c_Law_bid_2 _ _ _ _)
theorem c_Law_bid_3 : mCode j_Law_bid 3 = oIld 1 4 := (rfl)
theorem e_Law_bid_3 (a0 : Option MV) (x : Int32) : (WP Gm j_Law_bid 3 (a0 :: some (.inl x) :: ls) (st) h Q) = (WP Gm j_Law_bid 4 (a0 :: some (.inl x) :: ls) (.inl x :: st) (h) Q) := (WP_at c_Law_bid_3 _ _ _ _)
theorem c_Law_bid_4 : mCode j_Law_bid 4 = oIld 2 5 := (rfl)
theorem e_Law_bid_4 (a0 a1 : Option MV) (x : Int32) : (WP Gm j_Law_bid 4 (a0 :: a1 :: some (.inl x) :: ls) (st) h Q) = (WP Gm j_Law_bid 5 (a0 :: a1 :: some (.inl x) :: ls) (.inl x :: st) (h) Q) := (WP_at c_Law_bid_4 _ _ _ _)
theorem c_Law_bid_5 : mCode j_Law_bid 5 = oIld 3 6 := (rfl)
theorem e_Law_bid_5 (a0 a1 a2 : Option MV) (x : Int32) : (WP Gm j_Law_bid 5 (a0 :: a1 :: a2 :: some (.inl x) :: ls) (st) h Q) = (WP Gm j_Law_bid 6 (a0 :: a1 :: a2 :: some (.inl x) :: ls) (.inl x :: st) (h) Q) := (WP_at c_Law_bid_5 _ _ _ _)
theorem c_Law_bid_6 : mCode j_Law_bid 6 = oCallV kc_S j_S_bid 3 (mL j_S_bid) 9 := (rfl)
theorem e_Law_bid_6 (a : Nat) (x0 : Int32) (x1 : Int32) (x2 : Int32) (hk : isK h a kc_S = true) (hc : c8 st = true) : (WP Gm j_Law_bid 6 (ls) (.inl x2 :: .inl x1 :: .inl x0 :: .inr (.inl (some a)) :: st) h Q) = (WP Gm j_S_bid 0 [some (.inr (.inl (some a))), some (.inl x0), some (.inl x1), some (.inl x2)] [] h (kC (fun v h2 => WP Gm j_Law_bid 9 ls (v.toList ++ st) h2 Q) (fun E h2 => match mHx_Law_bid E with | some (npc, k) => npc ≠ 0 ∧ WP Gm j_Law_bid npc (lSet1 ls k none) [] h2 Q | none => Q (.inr E) h2))) := (WP_at c_Law_bid_6 _ _ _ _).trans (congrArg (fun o => ndX Gm (WP Gm) j_Law_bid 6 o Q) (if_pos (by rw [hk, show decide (catS st ≤ 8) = true from hc]; rfl)))
theorem c_Law_bid_9 : mCode j_Law_bid 9 = oI2L 10 := (rfl)
theorem e_Law_bid_9 (x : Int32) : (WP Gm j_Law_bid 9 (ls) (.inl x :: st) h Q) = (WP Gm j_Law_bid 10 (ls) (.inr (.inr (.inl x.toInt64)) :: st) (h) Q) := (WP_at c_Law_bid_9 _ _ _ _)
theorem c_Law_bid_10 : mCode j_Law_bid 10 = oPutL kc_Out 0 13 := (rfl)
theorem e_Law_bid_10 (a : Nat) (x : Int64) (hk : isK h a kc_Out = true) : (WP Gm j_Law_bid 10 (ls) (.inr (.inr (.inl x)) :: .inr (.inl (some a)) :: st) h Q) = (WP Gm j_Law_bid 13 (ls) (st) (sL h a 0 x) Q) := (WP_at c_Law_bid_10 _ _ _ _).trans (congrArg (fun o => ndX Gm (WP Gm) j_Law_bid 10 o Q) (if_pos hk))
theorem c_Law_bid_13 : mCode j_Law_bid 13 = oGo 24 := (rfl)
theorem e_Law_bid_13  : (WP Gm j_Law_bid 13 (ls) (st) h Q) = (WP Gm j_Law_bid 24 (ls) (st) (h) Q) := (WP_at c_Law_bid_13 _ _ _ _)
theorem c_Law_bid_16 : mCode j_Law_bid 16 = oAst 5 18 := (rfl)
theorem e_Law_bid_16 (x : Option Nat) : (WP Gm j_Law_bid 16 (ls) (.inr (.inl x) :: st) h Q) = (WP Gm j_Law_bid 18 (lSet1 ls 5 (some (.inr (.inl x)))) (st) (h) Q) := (WP_at c_Law_bid_16 _ _ _ _)
theorem c_Law_bid_18 : mCode j_Law_bid 18 = oI 1 19 := (rfl)
theorem e_Law_bid_18  : (WP Gm j_Law_bid 18 (ls) (st) h Q) = (WP Gm j_Law_bid 19 (ls) (.inl 1 :: st) (h) Q) := (WP_at c_Law_bid_18 _ _ _ _)
theorem c_Law_bid_19 : mCode j_Law_bid 19 = oRetI := (rfl)
theorem e_Law_bid_19 (x : Int32) : (WP Gm j_Law_bid 19 (ls) ([.inl x]) h Q) = (Q (.inl (some (.inl x))) h) := (WP_at c_Law_bid_19 _ _ _ _)
theorem c_Law_bid_20 : mCode j_Law_bid 20 = oAst 5 22 := (rfl)
theorem e_Law_bid_20 (x : Option Nat) : (WP Gm j_Law_bid 20 (ls) (.inr (.inl x) :: st) h Q) = (WP Gm j_Law_bid 22 (lSet1 ls 5 (some (.inr (.inl x)))) (st) (h) Q) := (WP_at c_Law_bid_20 _ _ _ _)
theorem c_Law_bid_22 : mCode j_Law_bid 22 = oI 2 23 := (rfl)
theorem e_Law_bid_22  : (WP Gm j_Law_bid 22 (ls) (st) h Q) = (WP Gm j_Law_bid 23 (ls) (.inl 2 :: st) (h) Q) := (WP_at c_Law_bid_22 _ _ _ _)
theorem c_Law_bid_23 : mCode j_Law_bid 23 = oRetI := (rfl)
theorem e_Law_bid_23 (x : Int32) : (WP Gm j_Law_bid 23 (ls) ([.inl x]) h Q) = (Q (.inl (some (.inl x))) h) := (WP_at c_Law_bid_23 _ _ _ _)
theorem c_Law_bid_24 : mCode j_Law_bid 24 = oI 0 25 := (rfl)
theorem e_Law_bid_24  : (WP Gm j_Law_bid 24 (ls) (st) h Q) = (WP Gm j_Law_bid 25 (ls) (.inl 0 :: st) (h) Q) := (WP_at c_Law_bid_24 _ _ _ _)
theorem c_Law_bid_25 : mCode j_Law_bid 25 = oRetI := (rfl)
theorem e_Law_bid_25 (x : Int32) : (WP Gm j_Law_bid 25 (ls) ([.inl x]) h Q) = (Q (.inl (some (.inl x))) h) := (WP_at c_Law_bid_25 _ _ _ _)
theorem c_Law_hears_0 : mCode j_Law_hears 0 = oAld 3 1 := (rfl)
theorem e_Law_hears_0 (a0 a1 a2 : Option MV) (x : Option Nat) : (WP Gm j_Law_hears 0 (a0 :: a1 :: a2 :: some (.inr (.inl x)) :: ls) (st) h Q) = (WP Gm j_Law_hears 1 (a0 :: a1 :: a2 :: some (.inr (.inl x)) :: ls) (.inr (.inl x) :: st) (h) Q) := (WP_at c_Law_hears_0 _ _ _ _)
theorem c_Law_hears_1 : mCode j_Law_hears 1 = oAld 0 2 := (rfl)
theorem e_Law_hears_1 (x : Option Nat) : (WP Gm j_Law_hears 1 (some (.inr (.inl x)) :: ls) (st) h Q) = (WP Gm j_Law_hears 2 (some (.inr (.inl x)) :: ls) (.inr (.inl x) :: st) (h) Q) := (WP_at c_Law_hears_1 _ _ _ _)
theorem c_Law_hears_2 : mCode j_Law_hears 2 = oIld 1 3 := (rfl)
theorem e_Law_hears_2 (a0 : Option MV) (x : Int32) : (WP Gm j_Law_hears 2 (a0 :: some (.inl x) :: ls) (st) h Q) = (WP Gm j_Law_hears 3 (a0 :: some (.inl x) :: ls) (.inl x :: st) (h) Q) := (WP_at c_Law_hears_2 _ _ _ _)
theorem c_Law_hears_3 : mCode j_Law_hears 3 = oIld 2 4 := (rfl)
theorem e_Law_hears_3 (a0 a1 : Option MV) (x : Int32) : (WP Gm j_Law_hears 3 (a0 :: a1 :: some (.inl x) :: ls) (st) h Q) = (WP Gm j_Law_hears 4 (a0 :: a1 :: some (.inl x) :: ls) (.inl x :: st) (h) Q) := (WP_at c_Law_hears_3 _ _ _ _)
theorem c_Law_hears_4 : mCode j_Law_hears 4 = oCallV kc_S j_S_hears 2 (mL j_S_hears) 7 := (rfl)
theorem e_Law_hears_4 (a : Nat) (x0 : Int32) (x1 : Int32) (hk : isK h a kc_S = true) (hc : c8 st = true) : (WP Gm j_Law_hears 4 (ls) (.inl x1 :: .inl x0 :: .inr (.inl (some a)) :: st) h Q) = (WP Gm j_S_hears 0 [some (.inr (.inl (some a))), some (.inl x0), some (.inl x1)] [] h (kC (fun v h2 => WP Gm j_Law_hears 7 ls (v.toList ++ st) h2 Q) (fun E h2 => match mHx_Law_hears E with | some (npc, k) => npc ≠ 0 ∧ WP Gm j_Law_hears npc (lSet1 ls k none) [] h2 Q | none => Q (.inr E) h2))) := (WP_at c_Law_hears_4 _ _ _ _).trans (congrArg (fun o => ndX Gm (WP Gm) j_Law_hears 4 o Q) (if_pos (by rw [hk, show decide (catS st ≤ 8) = true from hc]; rfl)))
theorem c_Law_hears_7 : mCode j_Law_hears 7 = oIf (fun x => decide (x = 0)) 14 10 := (rfl)
theorem e_Law_hears_7 (x : Int32) : (WP Gm j_Law_hears 7 (ls) (.inl x :: st) h Q) = (if x = 0 then WP Gm j_Law_hears 14 (ls) (st) (h) Q else WP Gm j_Law_hears 10 (ls) (st) (h) Q) := (WP_at c_Law_hears_7 _ _ _ _).trans (nd_if rfl _ _ _ _)
theorem c_Law_hears_10 : mCode j_Law_hears 10 = oJ 1 11 := (rfl)
theorem e_Law_hears_10  : (WP Gm j_Law_hears 10 (ls) (st) h Q) = (WP Gm j_Law_hears 11 (ls) (.inr (.inr (.inl 1)) :: st) (h) Q) := (WP_at c_Law_hears_10 _ _ _ _)
theorem c_Law_hears_11 : mCode j_Law_hears 11 = oGo 15 := (rfl)
theorem e_Law_hears_11  : (WP Gm j_Law_hears 11 (ls) (st) h Q) = (WP Gm j_Law_hears 15 (ls) (st) (h) Q) := (WP_at c_Law_hears_11 _ _ _ _)
theorem c_Law_hears_14 : mCode j_Law_hears 14 = oJ 0 15 := (rfl)
theorem e_Law_hears_14  : (WP Gm j_Law_hears 14 (ls) (st) h Q) = (WP Gm j_Law_hears 15 (ls) (.inr (.inr (.inl 0)) :: st) (h) Q) := (WP_at c_Law_hears_14 _ _ _ _)
theorem c_Law_hears_15 : mCode j_Law_hears 15 = oPutL kc_Out 0 18 := (rfl)
theorem e_Law_hears_15 (a : Nat) (x : Int64) (hk : isK h a kc_Out = true) : (WP Gm j_Law_hears 15 (ls) (.inr (.inr (.inl x)) :: .inr (.inl (some a)) :: st) h Q) = (WP Gm j_Law_hears 18 (ls) (st) (sL h a 0 x) Q) := (WP_at c_Law_hears_15 _ _ _ _).trans (congrArg (fun o => ndX Gm (WP Gm) j_Law_hears 15 o Q) (if_pos hk))
theorem c_Law_hears_18 : mCode j_Law_hears 18 = oGo 29 := (rfl)
theorem e_Law_hears_18  : (WP Gm j_Law_hears 18 (ls) (st) h Q) = (WP Gm j_Law_hears 29 (ls) (st) (h) Q) := (WP_at c_Law_hears_18 _ _ _ _)
theorem c_Law_hears_21 : mCode j_Law_hears 21 = oAst 4 23 := (rfl)
theorem e_Law_hears_21 (x : Option Nat) : (WP Gm j_Law_hears 21 (ls) (.inr (.inl x) :: st) h Q) = (WP Gm j_Law_hears 23 (lSet1 ls 4 (some (.inr (.inl x)))) (st) (h) Q) := (WP_at c_Law_hears_21 _ _ _ _)
theorem c_Law_hears_23 : mCode j_Law_hears 23 = oI 1 24 := (rfl)
theorem e_Law_hears_23  : (WP Gm j_Law_hears 23 (ls) (st) h Q) = (WP Gm j_Law_hears 24 (ls) (.inl 1 :: st) (h) Q) := (WP_at c_Law_hears_23 _ _ _ _)
theorem c_Law_hears_24 : mCode j_Law_hears 24 = oRetI := (rfl)
theorem e_Law_hears_24 (x : Int32) : (WP Gm j_Law_hears 24 (ls) ([.inl x]) h Q) = (Q (.inl (some (.inl x))) h) := (WP_at c_Law_hears_24 _ _ _ _)
theorem c_Law_hears_25 : mCode j_Law_hears 25 = oAst 4 27 := (rfl)
theorem e_Law_hears_25 (x : Option Nat) : (WP Gm j_Law_hears 25 (ls) (.inr (.inl x) :: st) h Q) = (WP Gm j_Law_hears 27 (lSet1 ls 4 (some (.inr (.inl x)))) (st) (h) Q) := (WP_at c_Law_hears_25 _ _ _ _)
theorem c_Law_hears_27 : mCode j_Law_hears 27 = oI 2 28 := (rfl)
theorem e_Law_hears_27  : (WP Gm j_Law_hears 27 (ls) (st) h Q) = (WP Gm j_Law_hears 28 (ls) (.inl 2 :: st) (h) Q) := (WP_at c_Law_hears_27 _ _ _ _)
theorem c_Law_hears_28 : mCode j_Law_hears 28 = oRetI := (rfl)
theorem e_Law_hears_28 (x : Int32) : (WP Gm j_Law_hears 28 (ls) ([.inl x]) h Q) = (Q (.inl (some (.inl x))) h) := (WP_at c_Law_hears_28 _ _ _ _)
theorem c_Law_hears_29 : mCode j_Law_hears 29 = oI 0 30 := (rfl)
theorem e_Law_hears_29  : (WP Gm j_Law_hears 29 (ls) (st) h Q) = (WP Gm j_Law_hears 30 (ls) (.inl 0 :: st) (h) Q) := (WP_at c_Law_hears_29 _ _ _ _)
theorem c_Law_hears_30 : mCode j_Law_hears 30 = oRetI := (rfl)
theorem e_Law_hears_30 (x : Int32) : (WP Gm j_Law_hears 30 (ls) ([.inl x]) h Q) = (Q (.inl (some (.inl x))) h) := (WP_at c_Law_hears_30 _ _ _ _)
theorem c_Law_ofNode_0 : mCode j_Law_ofNode 0 = oAld 3 1 := (rfl)
theorem e_Law_ofNode_0 (a0 a1 a2 : Option MV) (x : Option Nat) : (WP Gm j_Law_ofNode 0 (a0 :: a1 :: a2 :: some (.inr (.inl x)) :: ls) (st) h Q) = (WP Gm j_Law_ofNode 1 (a0 :: a1 :: a2 :: some (.inr (.inl x)) :: ls) (.inr (.inl x) :: st) (h) Q) := (WP_at c_Law_ofNode_0 _ _ _ _)
theorem c_Law_ofNode_1 : mCode j_Law_ofNode 1 = oAld 0 2 := (rfl)
theorem e_Law_ofNode_1 (x : Option Nat) : (WP Gm j_Law_ofNode 1 (some (.inr (.inl x)) :: ls) (st) h Q) = (WP Gm j_Law_ofNode 2 (some (.inr (.inl x)) :: ls) (.inr (.inl x) :: st) (h) Q) := (WP_at c_Law_ofNode_1 _ _ _ _)
theorem c_Law_ofNode_2 : mCode j_Law_ofNode 2 = oIld 1 3 := (rfl)
theorem e_Law_ofNode_2 (a0 : Option MV) (x : Int32) : (WP Gm j_Law_ofNode 2 (a0 :: some (.inl x) :: ls) (st) h Q) = (WP Gm j_Law_ofNode 3 (a0 :: some (.inl x) :: ls) (.inl x :: st) (h) Q) := (WP_at c_Law_ofNode_2 _ _ _ _)
theorem c_Law_ofNode_3 : mCode j_Law_ofNode 3 = oIld 2 4 := (rfl)
theorem e_Law_ofNode_3 (a0 a1 : Option MV) (x : Int32) : (WP Gm j_Law_ofNode 3 (a0 :: a1 :: some (.inl x) :: ls) (st) h Q) = (WP Gm j_Law_ofNode 4 (a0 :: a1 :: some (.inl x) :: ls) (.inl x :: st) (h) Q) := (WP_at c_Law_ofNode_3 _ _ _ _)
theorem c_Law_ofNode_4 : mCode j_Law_ofNode 4 = oCallV kc_S j_S_ofNode 2 (mL j_S_ofNode) 7 := (rfl)
theorem e_Law_ofNode_4 (a : Nat) (x0 : Int32) (x1 : Int32) (hk : isK h a kc_S = true) (hc : c8 st = true) : (WP Gm j_Law_ofNode 4 (ls) (.inl x1 :: .inl x0 :: .inr (.inl (some a)) :: st) h Q) = (WP Gm j_S_ofNode 0 [some (.inr (.inl (some a))), some (.inl x0), some (.inl x1), none] [] h (kC (fun v h2 => WP Gm j_Law_ofNode 7 ls (v.toList ++ st) h2 Q) (fun E h2 => match mHx_Law_ofNode E with | some (npc, k) => npc ≠ 0 ∧ WP Gm j_Law_ofNode npc (lSet1 ls k none) [] h2 Q | none => Q (.inr E) h2))) := (WP_at c_Law_ofNode_4 _ _ _ _).trans (congrArg (fun o => ndX Gm (WP Gm) j_Law_ofNode 4 o Q) (if_pos (by rw [hk, show decide (catS st ≤ 8) = true from hc]; rfl)))
theorem c_Law_ofNode_7 : mCode j_Law_ofNode 7 = oI2L 8 := (rfl)
theorem e_Law_ofNode_7 (x : Int32) : (WP Gm j_Law_ofNode 7 (ls) (.inl x :: st) h Q) = (WP Gm j_Law_ofNode 8 (ls) (.inr (.inr (.inl x.toInt64)) :: st) (h) Q) := (WP_at c_Law_ofNode_7 _ _ _ _)
theorem c_Law_ofNode_8 : mCode j_Law_ofNode 8 = oPutL kc_Out 0 11 := (rfl)
theorem e_Law_ofNode_8 (a : Nat) (x : Int64) (hk : isK h a kc_Out = true) : (WP Gm j_Law_ofNode 8 (ls) (.inr (.inr (.inl x)) :: .inr (.inl (some a)) :: st) h Q) = (WP Gm j_Law_ofNode 11 (ls) (st) (sL h a 0 x) Q) := (WP_at c_Law_ofNode_8 _ _ _ _).trans (congrArg (fun o => ndX Gm (WP Gm) j_Law_ofNode 8 o Q) (if_pos hk))
theorem c_Law_ofNode_11 : mCode j_Law_ofNode 11 = oGo 22 := (rfl)
theorem e_Law_ofNode_11  : (WP Gm j_Law_ofNode 11 (ls) (st) h Q) = (WP Gm j_Law_ofNode 22 (ls) (st) (h) Q) := (WP_at c_Law_ofNode_11 _ _ _ _)
theorem c_Law_ofNode_14 : mCode j_Law_ofNode 14 = oAst 4 16 := (rfl)
theorem e_Law_ofNode_14 (x : Option Nat) : (WP Gm j_Law_ofNode 14 (ls) (.inr (.inl x) :: st) h Q) = (WP Gm j_Law_ofNode 16 (lSet1 ls 4 (some (.inr (.inl x)))) (st) (h) Q) := (WP_at c_Law_ofNode_14 _ _ _ _)
theorem c_Law_ofNode_16 : mCode j_Law_ofNode 16 = oI 1 17 := (rfl)
theorem e_Law_ofNode_16  : (WP Gm j_Law_ofNode 16 (ls) (st) h Q) = (WP Gm j_Law_ofNode 17 (ls) (.inl 1 :: st) (h) Q) := (WP_at c_Law_ofNode_16 _ _ _ _)
theorem c_Law_ofNode_17 : mCode j_Law_ofNode 17 = oRetI := (rfl)
theorem e_Law_ofNode_17 (x : Int32) : (WP Gm j_Law_ofNode 17 (ls) ([.inl x]) h Q) = (Q (.inl (some (.inl x))) h) := (WP_at c_Law_ofNode_17 _ _ _ _)
theorem c_Law_ofNode_18 : mCode j_Law_ofNode 18 = oAst 4 20 := (rfl)
theorem e_Law_ofNode_18 (x : Option Nat) : (WP Gm j_Law_ofNode 18 (ls) (.inr (.inl x) :: st) h Q) = (WP Gm j_Law_ofNode 20 (lSet1 ls 4 (some (.inr (.inl x)))) (st) (h) Q) := (WP_at c_Law_ofNode_18 _ _ _ _)
theorem c_Law_ofNode_20 : mCode j_Law_ofNode 20 = oI 2 21 := (rfl)
theorem e_Law_ofNode_20  : (WP Gm j_Law_ofNode 20 (ls) (st) h Q) = (WP Gm j_Law_ofNode 21 (ls) (.inl 2 :: st) (h) Q) := (WP_at c_Law_ofNode_20 _ _ _ _)
theorem c_Law_ofNode_21 : mCode j_Law_ofNode 21 = oRetI := (rfl)
theorem e_Law_ofNode_21 (x : Int32) : (WP Gm j_Law_ofNode 21 (ls) ([.inl x]) h Q) = (Q (.inl (some (.inl x))) h) := (WP_at c_Law_ofNode_21 _ _ _ _)
theorem c_Law_ofNode_22 : mCode j_Law_ofNode 22 = oI 0 23 := (rfl)
theorem e_Law_ofNode_22  : (WP Gm j_Law_ofNode 22 (ls) (st) h Q) = (WP Gm j_Law_ofNode 23 (ls) (.inl 0 :: st) (h) Q) := (WP_at c_Law_ofNode_22 _ _ _ _)
theorem c_Law_ofNode_23 : mCode j_Law_ofNode 23 = oRetI := (rfl)
theorem e_Law_ofNode_23 (x : Int32) : (WP Gm j_Law_ofNode 23 (ls) ([.inl x]) h Q) = (Q (.inl (some (.inl x))) h) := (WP_at c_Law_ofNode_23 _ _ _ _)
theorem c_Law_inQueue_0 : mCode j_Law_inQueue 0 = oAld 4 2 := (rfl)
theorem e_Law_inQueue_0 (a0 a1 a2 a3 : Option MV) (x : Option Nat) : (WP Gm j_Law_inQueue 0 (a0 :: a1 :: a2 :: a3 :: some (.inr (.inl x)) :: ls) (st) h Q) = (WP Gm j_Law_inQueue 2 (a0 :: a1 :: a2 :: a3 :: some (.inr (.inl x)) :: ls) (.inr (.inl x) :: st) (h) Q) := (WP_at c_Law_inQueue_0 _ _ _ _)
theorem c_Law_inQueue_2 : mCode j_Law_inQueue 2 = oAld 0 3 := (rfl)
theorem e_Law_inQueue_2 (x : Option Nat) : (WP Gm j_Law_inQueue 2 (some (.inr (.inl x)) :: ls) (st) h Q) = (WP Gm j_Law_inQueue 3 (some (.inr (.inl x)) :: ls) (.inr (.inl x) :: st) (h) Q) := (WP_at c_Law_inQueue_2 _ _ _ _)
theorem c_Law_inQueue_3 : mCode j_Law_inQueue 3 = oIld 1 4 := (rfl)
theorem e_Law_inQueue_3 (a0 : Option MV) (x : Int32) : (WP Gm j_Law_inQueue 3 (a0 :: some (.inl x) :: ls) (st) h Q) = (WP Gm j_Law_inQueue 4 (a0 :: some (.inl x) :: ls) (.inl x :: st) (h) Q) := (WP_at c_Law_inQueue_3 _ _ _ _)
theorem c_Law_inQueue_4 : mCode j_Law_inQueue 4 = oIld 2 5 := (rfl)
theorem e_Law_inQueue_4 (a0 a1 : Option MV) (x : Int32) : (WP Gm j_Law_inQueue 4 (a0 :: a1 :: some (.inl x) :: ls) (st) h Q) = (WP Gm j_Law_inQueue 5 (a0 :: a1 :: some (.inl x) :: ls) (.inl x :: st) (h) Q) := (WP_at c_Law_inQueue_4 _ _ _ _)
theorem c_Law_inQueue_5 : mCode j_Law_inQueue 5 = oIld 3 6 := (rfl)
theorem e_Law_inQueue_5 (a0 a1 a2 : Option MV) (x : Int32) : (WP Gm j_Law_inQueue 5 (a0 :: a1 :: a2 :: some (.inl x) :: ls) (st) h Q) = (WP Gm j_Law_inQueue 6 (a0 :: a1 :: a2 :: some (.inl x) :: ls) (.inl x :: st) (h) Q) := (WP_at c_Law_inQueue_5 _ _ _ _)
theorem c_Law_inQueue_6 : mCode j_Law_inQueue 6 = oCallV kc_S j_S_inQueue 3 (mL j_S_inQueue) 9 := (rfl)
theorem e_Law_inQueue_6 (a : Nat) (x0 : Int32) (x1 : Int32) (x2 : Int32) (hk : isK h a kc_S = true) (hc : c8 st = true) : (WP Gm j_Law_inQueue 6 (ls) (.inl x2 :: .inl x1 :: .inl x0 :: .inr (.inl (some a)) :: st) h Q) = (WP Gm j_S_inQueue 0 [some (.inr (.inl (some a))), some (.inl x0), some (.inl x1), some (.inl x2), none] [] h (kC (fun v h2 => WP Gm j_Law_inQueue 9 ls (v.toList ++ st) h2 Q) (fun E h2 => match mHx_Law_inQueue E with | some (npc, k) => npc ≠ 0 ∧ WP Gm j_Law_inQueue npc (lSet1 ls k none) [] h2 Q | none => Q (.inr E) h2))) := (WP_at c_Law_inQueue_6 _ _ _ _).trans (congrArg (fun o => ndX Gm (WP Gm) j_Law_inQueue 6 o Q) (if_pos (by rw [hk, show decide (catS st ≤ 8) = true from hc]; rfl)))
theorem c_Law_inQueue_9 : mCode j_Law_inQueue 9 = oI2L 10 := (rfl)
theorem e_Law_inQueue_9 (x : Int32) : (WP Gm j_Law_inQueue 9 (ls) (.inl x :: st) h Q) = (WP Gm j_Law_inQueue 10 (ls) (.inr (.inr (.inl x.toInt64)) :: st) (h) Q) := (WP_at c_Law_inQueue_9 _ _ _ _)
theorem c_Law_inQueue_10 : mCode j_Law_inQueue 10 = oPutL kc_Out 0 13 := (rfl)
theorem e_Law_inQueue_10 (a : Nat) (x : Int64) (hk : isK h a kc_Out = true) : (WP Gm j_Law_inQueue 10 (ls) (.inr (.inr (.inl x)) :: .inr (.inl (some a)) :: st) h Q) = (WP Gm j_Law_inQueue 13 (ls) (st) (sL h a 0 x) Q) := (WP_at c_Law_inQueue_10 _ _ _ _).trans (congrArg (fun o => ndX Gm (WP Gm) j_Law_inQueue 10 o Q) (if_pos hk))
theorem c_Law_inQueue_13 : mCode j_Law_inQueue 13 = oGo 24 := (rfl)
theorem e_Law_inQueue_13  : (WP Gm j_Law_inQueue 13 (ls) (st) h Q) = (WP Gm j_Law_inQueue 24 (ls) (st) (h) Q) := (WP_at c_Law_inQueue_13 _ _ _ _)
theorem c_Law_inQueue_16 : mCode j_Law_inQueue 16 = oAst 5 18 := (rfl)
theorem e_Law_inQueue_16 (x : Option Nat) : (WP Gm j_Law_inQueue 16 (ls) (.inr (.inl x) :: st) h Q) = (WP Gm j_Law_inQueue 18 (lSet1 ls 5 (some (.inr (.inl x)))) (st) (h) Q) := (WP_at c_Law_inQueue_16 _ _ _ _)
theorem c_Law_inQueue_18 : mCode j_Law_inQueue 18 = oI 1 19 := (rfl)
theorem e_Law_inQueue_18  : (WP Gm j_Law_inQueue 18 (ls) (st) h Q) = (WP Gm j_Law_inQueue 19 (ls) (.inl 1 :: st) (h) Q) := (WP_at c_Law_inQueue_18 _ _ _ _)
theorem c_Law_inQueue_19 : mCode j_Law_inQueue 19 = oRetI := (rfl)
theorem e_Law_inQueue_19 (x : Int32) : (WP Gm j_Law_inQueue 19 (ls) ([.inl x]) h Q) = (Q (.inl (some (.inl x))) h) := (WP_at c_Law_inQueue_19 _ _ _ _)
theorem c_Law_inQueue_20 : mCode j_Law_inQueue 20 = oAst 5 22 := (rfl)
theorem e_Law_inQueue_20 (x : Option Nat) : (WP Gm j_Law_inQueue 20 (ls) (.inr (.inl x) :: st) h Q) = (WP Gm j_Law_inQueue 22 (lSet1 ls 5 (some (.inr (.inl x)))) (st) (h) Q) := (WP_at c_Law_inQueue_20 _ _ _ _)
theorem c_Law_inQueue_22 : mCode j_Law_inQueue 22 = oI 2 23 := (rfl)
theorem e_Law_inQueue_22  : (WP Gm j_Law_inQueue 22 (ls) (st) h Q) = (WP Gm j_Law_inQueue 23 (ls) (.inl 2 :: st) (h) Q) := (WP_at c_Law_inQueue_22 _ _ _ _)
theorem c_Law_inQueue_23 : mCode j_Law_inQueue 23 = oRetI := (rfl)
theorem e_Law_inQueue_23 (x : Int32) : (WP Gm j_Law_inQueue 23 (ls) ([.inl x]) h Q) = (Q (.inl (some (.inl x))) h) := (WP_at c_Law_inQueue_23 _ _ _ _)
theorem c_Law_inQueue_24 : mCode j_Law_inQueue 24 = oI 0 25 := (rfl)
theorem e_Law_inQueue_24  : (WP Gm j_Law_inQueue 24 (ls) (st) h Q) = (WP Gm j_Law_inQueue 25 (ls) (.inl 0 :: st) (h) Q) := (WP_at c_Law_inQueue_24 _ _ _ _)
theorem c_Law_inQueue_25 : mCode j_Law_inQueue 25 = oRetI := (rfl)
theorem e_Law_inQueue_25 (x : Int32) : (WP Gm j_Law_inQueue 25 (ls) ([.inl x]) h Q) = (Q (.inl (some (.inl x))) h) := (WP_at c_Law_inQueue_25 _ _ _ _)
theorem c_Law_route_0 : mCode j_Law_route 0 = oAld 4 2 := (rfl)
theorem e_Law_route_0 (a0 a1 a2 a3 : Option MV) (x : Option Nat) : (WP Gm j_Law_route 0 (a0 :: a1 :: a2 :: a3 :: some (.inr (.inl x)) :: ls) (st) h Q) = (WP Gm j_Law_route 2 (a0 :: a1 :: a2 :: a3 :: some (.inr (.inl x)) :: ls) (.inr (.inl x) :: st) (h) Q) := (WP_at c_Law_route_0 _ _ _ _)
theorem c_Law_route_2 : mCode j_Law_route 2 = oAld 0 3 := (rfl)
theorem e_Law_route_2 (x : Option Nat) : (WP Gm j_Law_route 2 (some (.inr (.inl x)) :: ls) (st) h Q) = (WP Gm j_Law_route 3 (some (.inr (.inl x)) :: ls) (.inr (.inl x) :: st) (h) Q) := (WP_at c_Law_route_2 _ _ _ _)
theorem c_Law_route_3 : mCode j_Law_route 3 = oIld 1 4 := (rfl)
theorem e_Law_route_3 (a0 : Option MV) (x : Int32) : (WP Gm j_Law_route 3 (a0 :: some (.inl x) :: ls) (st) h Q) = (WP Gm j_Law_route 4 (a0 :: some (.inl x) :: ls) (.inl x :: st) (h) Q) := (WP_at c_Law_route_3 _ _ _ _)
theorem c_Law_route_4 : mCode j_Law_route 4 = oIld 2 5 := (rfl)
theorem e_Law_route_4 (a0 a1 : Option MV) (x : Int32) : (WP Gm j_Law_route 4 (a0 :: a1 :: some (.inl x) :: ls) (st) h Q) = (WP Gm j_Law_route 5 (a0 :: a1 :: some (.inl x) :: ls) (.inl x :: st) (h) Q) := (WP_at c_Law_route_4 _ _ _ _)
theorem c_Law_route_5 : mCode j_Law_route 5 = oIld 3 6 := (rfl)
theorem e_Law_route_5 (a0 a1 a2 : Option MV) (x : Int32) : (WP Gm j_Law_route 5 (a0 :: a1 :: a2 :: some (.inl x) :: ls) (st) h Q) = (WP Gm j_Law_route 6 (a0 :: a1 :: a2 :: some (.inl x) :: ls) (.inl x :: st) (h) Q) := (WP_at c_Law_route_5 _ _ _ _)
theorem c_Law_route_6 : mCode j_Law_route 6 = oCallV kc_S j_S_route 3 (mL j_S_route) 9 := (rfl)
theorem e_Law_route_6 (a : Nat) (x0 : Int32) (x1 : Int32) (x2 : Int32) (hk : isK h a kc_S = true) (hc : c8 st = true) : (WP Gm j_Law_route 6 (ls) (.inl x2 :: .inl x1 :: .inl x0 :: .inr (.inl (some a)) :: st) h Q) = (WP Gm j_S_route 0 [some (.inr (.inl (some a))), some (.inl x0), some (.inl x1), some (.inl x2)] [] h (kC (fun v h2 => WP Gm j_Law_route 9 ls (v.toList ++ st) h2 Q) (fun E h2 => match mHx_Law_route E with | some (npc, k) => npc ≠ 0 ∧ WP Gm j_Law_route npc (lSet1 ls k none) [] h2 Q | none => Q (.inr E) h2))) := (WP_at c_Law_route_6 _ _ _ _).trans (congrArg (fun o => ndX Gm (WP Gm) j_Law_route 6 o Q) (if_pos (by rw [hk, show decide (catS st ≤ 8) = true from hc]; rfl)))
theorem c_Law_route_9 : mCode j_Law_route 9 = oI2L 10 := (rfl)
theorem e_Law_route_9 (x : Int32) : (WP Gm j_Law_route 9 (ls) (.inl x :: st) h Q) = (WP Gm j_Law_route 10 (ls) (.inr (.inr (.inl x.toInt64)) :: st) (h) Q) := (WP_at c_Law_route_9 _ _ _ _)
theorem c_Law_route_10 : mCode j_Law_route 10 = oPutL kc_Out 0 13 := (rfl)
theorem e_Law_route_10 (a : Nat) (x : Int64) (hk : isK h a kc_Out = true) : (WP Gm j_Law_route 10 (ls) (.inr (.inr (.inl x)) :: .inr (.inl (some a)) :: st) h Q) = (WP Gm j_Law_route 13 (ls) (st) (sL h a 0 x) Q) := (WP_at c_Law_route_10 _ _ _ _).trans (congrArg (fun o => ndX Gm (WP Gm) j_Law_route 10 o Q) (if_pos hk))
theorem c_Law_route_13 : mCode j_Law_route 13 = oGo 24 := (rfl)
theorem e_Law_route_13  : (WP Gm j_Law_route 13 (ls) (st) h Q) = (WP Gm j_Law_route 24 (ls) (st) (h) Q) := (WP_at c_Law_route_13 _ _ _ _)
theorem c_Law_route_16 : mCode j_Law_route 16 = oAst 5 18 := (rfl)
theorem e_Law_route_16 (x : Option Nat) : (WP Gm j_Law_route 16 (ls) (.inr (.inl x) :: st) h Q) = (WP Gm j_Law_route 18 (lSet1 ls 5 (some (.inr (.inl x)))) (st) (h) Q) := (WP_at c_Law_route_16 _ _ _ _)
theorem c_Law_route_18 : mCode j_Law_route 18 = oI 1 19 := (rfl)
theorem e_Law_route_18  : (WP Gm j_Law_route 18 (ls) (st) h Q) = (WP Gm j_Law_route 19 (ls) (.inl 1 :: st) (h) Q) := (WP_at c_Law_route_18 _ _ _ _)
theorem c_Law_route_19 : mCode j_Law_route 19 = oRetI := (rfl)
theorem e_Law_route_19 (x : Int32) : (WP Gm j_Law_route 19 (ls) ([.inl x]) h Q) = (Q (.inl (some (.inl x))) h) := (WP_at c_Law_route_19 _ _ _ _)
theorem c_Law_route_20 : mCode j_Law_route 20 = oAst 5 22 := (rfl)
theorem e_Law_route_20 (x : Option Nat) : (WP Gm j_Law_route 20 (ls) (.inr (.inl x) :: st) h Q) = (WP Gm j_Law_route 22 (lSet1 ls 5 (some (.inr (.inl x)))) (st) (h) Q) := (WP_at c_Law_route_20 _ _ _ _)
theorem c_Law_route_22 : mCode j_Law_route 22 = oI 2 23 := (rfl)
theorem e_Law_route_22  : (WP Gm j_Law_route 22 (ls) (st) h Q) = (WP Gm j_Law_route 23 (ls) (.inl 2 :: st) (h) Q) := (WP_at c_Law_route_22 _ _ _ _)
theorem c_Law_route_23 : mCode j_Law_route 23 = oRetI := (rfl)
theorem e_Law_route_23 (x : Int32) : (WP Gm j_Law_route 23 (ls) ([.inl x]) h Q) = (Q (.inl (some (.inl x))) h) := (WP_at c_Law_route_23 _ _ _ _)
theorem c_Law_route_24 : mCode j_Law_route 24 = oI 0 25 := (rfl)
theorem e_Law_route_24  : (WP Gm j_Law_route 24 (ls) (st) h Q) = (WP Gm j_Law_route 25 (ls) (.inl 0 :: st) (h) Q) := (WP_at c_Law_route_24 _ _ _ _)
theorem c_Law_route_25 : mCode j_Law_route 25 = oRetI := (rfl)
theorem e_Law_route_25 (x : Int32) : (WP Gm j_Law_route 25 (ls) ([.inl x]) h Q) = (Q (.inl (some (.inl x))) h) := (WP_at c_Law_route_25 _ _ _ _)
theorem c_Law_air_0 : mCode j_Law_air 0 = oAld 2 1 := (rfl)
theorem e_Law_air_0 (a0 a1 : Option MV) (x : Option Nat) : (WP Gm j_Law_air 0 (a0 :: a1 :: some (.inr (.inl x)) :: ls) (st) h Q) = (WP Gm j_Law_air 1 (a0 :: a1 :: some (.inr (.inl x)) :: ls) (.inr (.inl x) :: st) (h) Q) := (WP_at c_Law_air_0 _ _ _ _)
theorem c_Law_air_1 : mCode j_Law_air 1 = oAld 0 2 := (rfl)
theorem e_Law_air_1 (x : Option Nat) : (WP Gm j_Law_air 1 (some (.inr (.inl x)) :: ls) (st) h Q) = (WP Gm j_Law_air 2 (some (.inr (.inl x)) :: ls) (.inr (.inl x) :: st) (h) Q) := (WP_at c_Law_air_1 _ _ _ _)
theorem c_Law_air_2 : mCode j_Law_air 2 = oIld 1 3 := (rfl)
theorem e_Law_air_2 (a0 : Option MV) (x : Int32) : (WP Gm j_Law_air 2 (a0 :: some (.inl x) :: ls) (st) h Q) = (WP Gm j_Law_air 3 (a0 :: some (.inl x) :: ls) (.inl x :: st) (h) Q) := (WP_at c_Law_air_2 _ _ _ _)
theorem c_Law_air_3 : mCode j_Law_air 3 = oCallV kc_S j_S_air 1 (mL j_S_air) 6 := (rfl)
theorem e_Law_air_3 (a : Nat) (x0 : Int32) (hk : isK h a kc_S = true) (hc : c8 st = true) : (WP Gm j_Law_air 3 (ls) (.inl x0 :: .inr (.inl (some a)) :: st) h Q) = (WP Gm j_S_air 0 [some (.inr (.inl (some a))), some (.inl x0)] [] h (kC (fun v h2 => WP Gm j_Law_air 6 ls (v.toList ++ st) h2 Q) (fun E h2 => match mHx_Law_air E with | some (npc, k) => npc ≠ 0 ∧ WP Gm j_Law_air npc (lSet1 ls k none) [] h2 Q | none => Q (.inr E) h2))) := (WP_at c_Law_air_3 _ _ _ _).trans (congrArg (fun o => ndX Gm (WP Gm) j_Law_air 3 o Q) (if_pos (by rw [hk, show decide (catS st ≤ 8) = true from hc]; rfl)))
theorem c_Law_air_6 : mCode j_Law_air 6 = oI2L 7 := (rfl)
theorem e_Law_air_6 (x : Int32) : (WP Gm j_Law_air 6 (ls) (.inl x :: st) h Q) = (WP Gm j_Law_air 7 (ls) (.inr (.inr (.inl x.toInt64)) :: st) (h) Q) := (WP_at c_Law_air_6 _ _ _ _)
theorem c_Law_air_7 : mCode j_Law_air 7 = oPutL kc_Out 0 10 := (rfl)
theorem e_Law_air_7 (a : Nat) (x : Int64) (hk : isK h a kc_Out = true) : (WP Gm j_Law_air 7 (ls) (.inr (.inr (.inl x)) :: .inr (.inl (some a)) :: st) h Q) = (WP Gm j_Law_air 10 (ls) (st) (sL h a 0 x) Q) := (WP_at c_Law_air_7 _ _ _ _).trans (congrArg (fun o => ndX Gm (WP Gm) j_Law_air 7 o Q) (if_pos hk))
theorem c_Law_air_10 : mCode j_Law_air 10 = oGo 16 := (rfl)
theorem e_Law_air_10  : (WP Gm j_Law_air 10 (ls) (st) h Q) = (WP Gm j_Law_air 16 (ls) (st) (h) Q) := (WP_at c_Law_air_10 _ _ _ _)
theorem c_Law_air_13 : mCode j_Law_air 13 = oAst 3 14 := (rfl)
theorem e_Law_air_13 (x : Option Nat) : (WP Gm j_Law_air 13 (ls) (.inr (.inl x) :: st) h Q) = (WP Gm j_Law_air 14 (lSet1 ls 3 (some (.inr (.inl x)))) (st) (h) Q) := (WP_at c_Law_air_13 _ _ _ _)
theorem c_Law_air_14 : mCode j_Law_air 14 = oI 1 15 := (rfl)
theorem e_Law_air_14  : (WP Gm j_Law_air 14 (ls) (st) h Q) = (WP Gm j_Law_air 15 (ls) (.inl 1 :: st) (h) Q) := (WP_at c_Law_air_14 _ _ _ _)
theorem c_Law_air_15 : mCode j_Law_air 15 = oRetI := (rfl)
theorem e_Law_air_15 (x : Int32) : (WP Gm j_Law_air 15 (ls) ([.inl x]) h Q) = (Q (.inl (some (.inl x))) h) := (WP_at c_Law_air_15 _ _ _ _)
theorem c_Law_air_16 : mCode j_Law_air 16 = oI 0 17 := (rfl)
theorem e_Law_air_16  : (WP Gm j_Law_air 16 (ls) (st) h Q) = (WP Gm j_Law_air 17 (ls) (.inl 0 :: st) (h) Q) := (WP_at c_Law_air_16 _ _ _ _)
theorem c_Law_air_17 : mCode j_Law_air 17 = oRetI := (rfl)
theorem e_Law_air_17 (x : Int32) : (WP Gm j_Law_air 17 (ls) ([.inl x]) h Q) = (Q (.inl (some (.inl x))) h) := (WP_at c_Law_air_17 _ _ _ _)
theorem c_Law_delivered_0 : mCode j_Law_delivered 0 = oAld 3 1 := (rfl)
theorem e_Law_delivered_0 (a0 a1 a2 : Option MV) (x : Option Nat) : (WP Gm j_Law_delivered 0 (a0 :: a1 :: a2 :: some (.inr (.inl x)) :: ls) (st) h Q) = (WP Gm j_Law_delivered 1 (a0 :: a1 :: a2 :: some (.inr (.inl x)) :: ls) (.inr (.inl x) :: st) (h) Q) := (WP_at c_Law_delivered_0 _ _ _ _)
theorem c_Law_delivered_1 : mCode j_Law_delivered 1 = oAld 0 2 := (rfl)
theorem e_Law_delivered_1 (x : Option Nat) : (WP Gm j_Law_delivered 1 (some (.inr (.inl x)) :: ls) (st) h Q) = (WP Gm j_Law_delivered 2 (some (.inr (.inl x)) :: ls) (.inr (.inl x) :: st) (h) Q) := (WP_at c_Law_delivered_1 _ _ _ _)
theorem c_Law_delivered_2 : mCode j_Law_delivered 2 = oIld 1 3 := (rfl)
theorem e_Law_delivered_2 (a0 : Option MV) (x : Int32) : (WP Gm j_Law_delivered 2 (a0 :: some (.inl x) :: ls) (st) h Q) = (WP Gm j_Law_delivered 3 (a0 :: some (.inl x) :: ls) (.inl x :: st) (h) Q) := (WP_at c_Law_delivered_2 _ _ _ _)
theorem c_Law_delivered_3 : mCode j_Law_delivered 3 = oIld 2 4 := (rfl)
theorem e_Law_delivered_3 (a0 a1 : Option MV) (x : Int32) : (WP Gm j_Law_delivered 3 (a0 :: a1 :: some (.inl x) :: ls) (st) h Q) = (WP Gm j_Law_delivered 4 (a0 :: a1 :: some (.inl x) :: ls) (.inl x :: st) (h) Q) := (WP_at c_Law_delivered_3 _ _ _ _)
theorem c_Law_delivered_4 : mCode j_Law_delivered 4 = oCallV kc_S j_S_delivered 2 (mL j_S_delivered) 7 := (rfl)
theorem e_Law_delivered_4 (a : Nat) (x0 : Int32) (x1 : Int32) (hk : isK h a kc_S = true) (hc : c8 st = true) : (WP Gm j_Law_delivered 4 (ls) (.inl x1 :: .inl x0 :: .inr (.inl (some a)) :: st) h Q) = (WP Gm j_S_delivered 0 [some (.inr (.inl (some a))), some (.inl x0), some (.inl x1), none] [] h (kC (fun v h2 => WP Gm j_Law_delivered 7 ls (v.toList ++ st) h2 Q) (fun E h2 => match mHx_Law_delivered E with | some (npc, k) => npc ≠ 0 ∧ WP Gm j_Law_delivered npc (lSet1 ls k none) [] h2 Q | none => Q (.inr E) h2))) := (WP_at c_Law_delivered_4 _ _ _ _).trans (congrArg (fun o => ndX Gm (WP Gm) j_Law_delivered 4 o Q) (if_pos (by rw [hk, show decide (catS st ≤ 8) = true from hc]; rfl)))
theorem c_Law_delivered_7 : mCode j_Law_delivered 7 = oIf (fun x => decide (x = 0)) 14 10 := (rfl)
theorem e_Law_delivered_7 (x : Int32) : (WP Gm j_Law_delivered 7 (ls) (.inl x :: st) h Q) = (if x = 0 then WP Gm j_Law_delivered 14 (ls) (st) (h) Q else WP Gm j_Law_delivered 10 (ls) (st) (h) Q) := (WP_at c_Law_delivered_7 _ _ _ _).trans (nd_if rfl _ _ _ _)
theorem c_Law_delivered_10 : mCode j_Law_delivered 10 = oJ 1 11 := (rfl)
theorem e_Law_delivered_10  : (WP Gm j_Law_delivered 10 (ls) (st) h Q) = (WP Gm j_Law_delivered 11 (ls) (.inr (.inr (.inl 1)) :: st) (h) Q) := (WP_at c_Law_delivered_10 _ _ _ _)
theorem c_Law_delivered_11 : mCode j_Law_delivered 11 = oGo 15 := (rfl)
theorem e_Law_delivered_11  : (WP Gm j_Law_delivered 11 (ls) (st) h Q) = (WP Gm j_Law_delivered 15 (ls) (st) (h) Q) := (WP_at c_Law_delivered_11 _ _ _ _)
theorem c_Law_delivered_14 : mCode j_Law_delivered 14 = oJ 0 15 := (rfl)
theorem e_Law_delivered_14  : (WP Gm j_Law_delivered 14 (ls) (st) h Q) = (WP Gm j_Law_delivered 15 (ls) (.inr (.inr (.inl 0)) :: st) (h) Q) := (WP_at c_Law_delivered_14 _ _ _ _)
theorem c_Law_delivered_15 : mCode j_Law_delivered 15 = oPutL kc_Out 0 18 := (rfl)
theorem e_Law_delivered_15 (a : Nat) (x : Int64) (hk : isK h a kc_Out = true) : (WP Gm j_Law_delivered 15 (ls) (.inr (.inr (.inl x)) :: .inr (.inl (some a)) :: st) h Q) = (WP Gm j_Law_delivered 18 (ls) (st) (sL h a 0 x) Q) := (WP_at c_Law_delivered_15 _ _ _ _).trans (congrArg (fun o => ndX Gm (WP Gm) j_Law_delivered 15 o Q) (if_pos hk))
theorem c_Law_delivered_18 : mCode j_Law_delivered 18 = oGo 25 := (rfl)
theorem e_Law_delivered_18  : (WP Gm j_Law_delivered 18 (ls) (st) h Q) = (WP Gm j_Law_delivered 25 (ls) (st) (h) Q) := (WP_at c_Law_delivered_18 _ _ _ _)
theorem c_Law_delivered_21 : mCode j_Law_delivered 21 = oAst 4 23 := (rfl)
theorem e_Law_delivered_21 (x : Option Nat) : (WP Gm j_Law_delivered 21 (ls) (.inr (.inl x) :: st) h Q) = (WP Gm j_Law_delivered 23 (lSet1 ls 4 (some (.inr (.inl x)))) (st) (h) Q) := (WP_at c_Law_delivered_21 _ _ _ _)
theorem c_Law_delivered_23 : mCode j_Law_delivered 23 = oI 1 24 := (rfl)
theorem e_Law_delivered_23  : (WP Gm j_Law_delivered 23 (ls) (st) h Q) = (WP Gm j_Law_delivered 24 (ls) (.inl 1 :: st) (h) Q) := (WP_at c_Law_delivered_23 _ _ _ _)
theorem c_Law_delivered_24 : mCode j_Law_delivered 24 = oRetI := (rfl)
theorem e_Law_delivered_24 (x : Int32) : (WP Gm j_Law_delivered 24 (ls) ([.inl x]) h Q) = (Q (.inl (some (.inl x))) h) := (WP_at c_Law_delivered_24 _ _ _ _)
theorem c_Law_delivered_25 : mCode j_Law_delivered 25 = oI 0 26 := (rfl)
theorem e_Law_delivered_25  : (WP Gm j_Law_delivered 25 (ls) (st) h Q) = (WP Gm j_Law_delivered 26 (ls) (.inl 0 :: st) (h) Q) := (WP_at c_Law_delivered_25 _ _ _ _)
theorem c_Law_delivered_26 : mCode j_Law_delivered 26 = oRetI := (rfl)
theorem e_Law_delivered_26 (x : Int32) : (WP Gm j_Law_delivered 26 (ls) ([.inl x]) h Q) = (Q (.inl (some (.inl x))) h) := (WP_at c_Law_delivered_26 _ _ _ _)
theorem c_Law_would_0 : mCode j_Law_would 0 = oAld 3 1 := (rfl)
theorem e_Law_would_0 (a0 a1 a2 : Option MV) (x : Option Nat) : (WP Gm j_Law_would 0 (a0 :: a1 :: a2 :: some (.inr (.inl x)) :: ls) (st) h Q) = (WP Gm j_Law_would 1 (a0 :: a1 :: a2 :: some (.inr (.inl x)) :: ls) (.inr (.inl x) :: st) (h) Q) := (WP_at c_Law_would_0 _ _ _ _)
theorem c_Law_would_1 : mCode j_Law_would 1 = oAld 0 2 := (rfl)
theorem e_Law_would_1 (x : Option Nat) : (WP Gm j_Law_would 1 (some (.inr (.inl x)) :: ls) (st) h Q) = (WP Gm j_Law_would 2 (some (.inr (.inl x)) :: ls) (.inr (.inl x) :: st) (h) Q) := (WP_at c_Law_would_1 _ _ _ _)
theorem c_Law_would_2 : mCode j_Law_would 2 = oIld 1 3 := (rfl)
theorem e_Law_would_2 (a0 : Option MV) (x : Int32) : (WP Gm j_Law_would 2 (a0 :: some (.inl x) :: ls) (st) h Q) = (WP Gm j_Law_would 3 (a0 :: some (.inl x) :: ls) (.inl x :: st) (h) Q) := (WP_at c_Law_would_2 _ _ _ _)
theorem c_Law_would_3 : mCode j_Law_would 3 = oIld 2 4 := (rfl)
theorem e_Law_would_3 (a0 a1 : Option MV) (x : Int32) : (WP Gm j_Law_would 3 (a0 :: a1 :: some (.inl x) :: ls) (st) h Q) = (WP Gm j_Law_would 4 (a0 :: a1 :: some (.inl x) :: ls) (.inl x :: st) (h) Q) := (WP_at c_Law_would_3 _ _ _ _)
theorem c_Law_would_4 : mCode j_Law_would 4 = oCallV kc_S j_S_would 2 (mL j_S_would) 7 := (rfl)
theorem e_Law_would_4 (a : Nat) (x0 : Int32) (x1 : Int32) (hk : isK h a kc_S = true) (hc : c8 st = true) : (WP Gm j_Law_would 4 (ls) (.inl x1 :: .inl x0 :: .inr (.inl (some a)) :: st) h Q) = (WP Gm j_S_would 0 [some (.inr (.inl (some a))), some (.inl x0), some (.inl x1), none] [] h (kC (fun v h2 => WP Gm j_Law_would 7 ls (v.toList ++ st) h2 Q) (fun E h2 => match mHx_Law_would E with | some (npc, k) => npc ≠ 0 ∧ WP Gm j_Law_would npc (lSet1 ls k none) [] h2 Q | none => Q (.inr E) h2))) := (WP_at c_Law_would_4 _ _ _ _).trans (congrArg (fun o => ndX Gm (WP Gm) j_Law_would 4 o Q) (if_pos (by rw [hk, show decide (catS st ≤ 8) = true from hc]; rfl)))
theorem c_Law_would_7 : mCode j_Law_would 7 = oI2L 8 := (rfl)
theorem e_Law_would_7 (x : Int32) : (WP Gm j_Law_would 7 (ls) (.inl x :: st) h Q) = (WP Gm j_Law_would 8 (ls) (.inr (.inr (.inl x.toInt64)) :: st) (h) Q) := (WP_at c_Law_would_7 _ _ _ _)
theorem c_Law_would_8 : mCode j_Law_would 8 = oPutL kc_Out 0 11 := (rfl)
theorem e_Law_would_8 (a : Nat) (x : Int64) (hk : isK h a kc_Out = true) : (WP Gm j_Law_would 8 (ls) (.inr (.inr (.inl x)) :: .inr (.inl (some a)) :: st) h Q) = (WP Gm j_Law_would 11 (ls) (st) (sL h a 0 x) Q) := (WP_at c_Law_would_8 _ _ _ _).trans (congrArg (fun o => ndX Gm (WP Gm) j_Law_would 8 o Q) (if_pos hk))
theorem c_Law_would_11 : mCode j_Law_would 11 = oGo 22 := (rfl)
theorem e_Law_would_11  : (WP Gm j_Law_would 11 (ls) (st) h Q) = (WP Gm j_Law_would 22 (ls) (st) (h) Q) := (WP_at c_Law_would_11 _ _ _ _)
theorem c_Law_would_14 : mCode j_Law_would 14 = oAst 4 16 := (rfl)
theorem e_Law_would_14 (x : Option Nat) : (WP Gm j_Law_would 14 (ls) (.inr (.inl x) :: st) h Q) = (WP Gm j_Law_would 16 (lSet1 ls 4 (some (.inr (.inl x)))) (st) (h) Q) := (WP_at c_Law_would_14 _ _ _ _)
theorem c_Law_would_16 : mCode j_Law_would 16 = oI 1 17 := (rfl)
theorem e_Law_would_16  : (WP Gm j_Law_would 16 (ls) (st) h Q) = (WP Gm j_Law_would 17 (ls) (.inl 1 :: st) (h) Q) := (WP_at c_Law_would_16 _ _ _ _)
theorem c_Law_would_17 : mCode j_Law_would 17 = oRetI := (rfl)
theorem e_Law_would_17 (x : Int32) : (WP Gm j_Law_would 17 (ls) ([.inl x]) h Q) = (Q (.inl (some (.inl x))) h) := (WP_at c_Law_would_17 _ _ _ _)
theorem c_Law_would_18 : mCode j_Law_would 18 = oAst 4 20 := (rfl)
theorem e_Law_would_18 (x : Option Nat) : (WP Gm j_Law_would 18 (ls) (.inr (.inl x) :: st) h Q) = (WP Gm j_Law_would 20 (lSet1 ls 4 (some (.inr (.inl x)))) (st) (h) Q) := (WP_at c_Law_would_18 _ _ _ _)
theorem c_Law_would_20 : mCode j_Law_would 20 = oI 2 21 := (rfl)
theorem e_Law_would_20  : (WP Gm j_Law_would 20 (ls) (st) h Q) = (WP Gm j_Law_would 21 (ls) (.inl 2 :: st) (h) Q) := (WP_at c_Law_would_20 _ _ _ _)
theorem c_Law_would_21 : mCode j_Law_would 21 = oRetI := (rfl)
theorem e_Law_would_21 (x : Int32) : (WP Gm j_Law_would 21 (ls) ([.inl x]) h Q) = (Q (.inl (some (.inl x))) h) := (WP_at c_Law_would_21 _ _ _ _)
theorem c_Law_would_22 : mCode j_Law_would 22 = oI 0 23 := (rfl)
theorem e_Law_would_22  : (WP Gm j_Law_would 22 (ls) (st) h Q) = (WP Gm j_Law_would 23 (ls) (.inl 0 :: st) (h) Q) := (WP_at c_Law_would_22 _ _ _ _)
theorem c_Law_would_23 : mCode j_Law_would 23 = oRetI := (rfl)
theorem e_Law_would_23 (x : Int32) : (WP Gm j_Law_would 23 (ls) ([.inl x]) h Q) = (Q (.inl (some (.inl x))) h) := (WP_at c_Law_would_23 _ _ _ _)
theorem c_Law_throughput_0 : mCode j_Law_throughput 0 = oAld 3 1 := (rfl)
theorem e_Law_throughput_0 (a0 a1 a2 : Option MV) (x : Option Nat) : (WP Gm j_Law_throughput 0 (a0 :: a1 :: a2 :: some (.inr (.inl x)) :: ls) (st) h Q) = (WP Gm j_Law_throughput 1 (a0 :: a1 :: a2 :: some (.inr (.inl x)) :: ls) (.inr (.inl x) :: st) (h) Q) := (WP_at c_Law_throughput_0 _ _ _ _)
theorem c_Law_throughput_1 : mCode j_Law_throughput 1 = oAld 0 2 := (rfl)
theorem e_Law_throughput_1 (x : Option Nat) : (WP Gm j_Law_throughput 1 (some (.inr (.inl x)) :: ls) (st) h Q) = (WP Gm j_Law_throughput 2 (some (.inr (.inl x)) :: ls) (.inr (.inl x) :: st) (h) Q) := (WP_at c_Law_throughput_1 _ _ _ _)
theorem c_Law_throughput_2 : mCode j_Law_throughput 2 = oIld 1 3 := (rfl)
theorem e_Law_throughput_2 (a0 : Option MV) (x : Int32) : (WP Gm j_Law_throughput 2 (a0 :: some (.inl x) :: ls) (st) h Q) = (WP Gm j_Law_throughput 3 (a0 :: some (.inl x) :: ls) (.inl x :: st) (h) Q) := (WP_at c_Law_throughput_2 _ _ _ _)
theorem c_Law_throughput_3 : mCode j_Law_throughput 3 = oIld 2 4 := (rfl)
theorem e_Law_throughput_3 (a0 a1 : Option MV) (x : Int32) : (WP Gm j_Law_throughput 3 (a0 :: a1 :: some (.inl x) :: ls) (st) h Q) = (WP Gm j_Law_throughput 4 (a0 :: a1 :: some (.inl x) :: ls) (.inl x :: st) (h) Q) := (WP_at c_Law_throughput_3 _ _ _ _)
theorem c_Law_throughput_4 : mCode j_Law_throughput 4 = oCallV kc_S j_S_throughput 2 (mL j_S_throughput) 7 := (rfl)
theorem e_Law_throughput_4 (a : Nat) (x0 : Int32) (x1 : Int32) (hk : isK h a kc_S = true) (hc : c8 st = true) : (WP Gm j_Law_throughput 4 (ls) (.inl x1 :: .inl x0 :: .inr (.inl (some a)) :: st) h Q) = (WP Gm j_S_throughput 0 [some (.inr (.inl (some a))), some (.inl x0), some (.inl x1)] [] h (kC (fun v h2 => WP Gm j_Law_throughput 7 ls (v.toList ++ st) h2 Q) (fun E h2 => match mHx_Law_throughput E with | some (npc, k) => npc ≠ 0 ∧ WP Gm j_Law_throughput npc (lSet1 ls k none) [] h2 Q | none => Q (.inr E) h2))) := (WP_at c_Law_throughput_4 _ _ _ _).trans (congrArg (fun o => ndX Gm (WP Gm) j_Law_throughput 4 o Q) (if_pos (by rw [hk, show decide (catS st ≤ 8) = true from hc]; rfl)))
theorem c_Law_throughput_7 : mCode j_Law_throughput 7 = oPutD kc_Out 1 10 := (rfl)
theorem e_Law_throughput_7 (a : Nat) (x : UInt64) (hk : isK h a kc_Out = true) : (WP Gm j_Law_throughput 7 (ls) (.inr (.inr (.inr x)) :: .inr (.inl (some a)) :: st) h Q) = (WP Gm j_Law_throughput 10 (ls) (st) (sD h a 1 x) Q) := (WP_at c_Law_throughput_7 _ _ _ _).trans (congrArg (fun o => ndX Gm (WP Gm) j_Law_throughput 7 o Q) (if_pos hk))
theorem c_Law_throughput_10 : mCode j_Law_throughput 10 = oGo 17 := (rfl)
theorem e_Law_throughput_10  : (WP Gm j_Law_throughput 10 (ls) (st) h Q) = (WP Gm j_Law_throughput 17 (ls) (st) (h) Q) := (WP_at c_Law_throughput_10 _ _ _ _)
theorem c_Law_throughput_13 : mCode j_Law_throughput 13 = oAst 4 15 := (rfl)
theorem e_Law_throughput_13 (x : Option Nat) : (WP Gm j_Law_throughput 13 (ls) (.inr (.inl x) :: st) h Q) = (WP Gm j_Law_throughput 15 (lSet1 ls 4 (some (.inr (.inl x)))) (st) (h) Q) := (WP_at c_Law_throughput_13 _ _ _ _)
theorem c_Law_throughput_15 : mCode j_Law_throughput 15 = oI 1 16 := (rfl)
theorem e_Law_throughput_15  : (WP Gm j_Law_throughput 15 (ls) (st) h Q) = (WP Gm j_Law_throughput 16 (ls) (.inl 1 :: st) (h) Q) := (WP_at c_Law_throughput_15 _ _ _ _)
theorem c_Law_throughput_16 : mCode j_Law_throughput 16 = oRetI := (rfl)
theorem e_Law_throughput_16 (x : Int32) : (WP Gm j_Law_throughput 16 (ls) ([.inl x]) h Q) = (Q (.inl (some (.inl x))) h) := (WP_at c_Law_throughput_16 _ _ _ _)
theorem c_Law_throughput_17 : mCode j_Law_throughput 17 = oI 0 18 := (rfl)
theorem e_Law_throughput_17  : (WP Gm j_Law_throughput 17 (ls) (st) h Q) = (WP Gm j_Law_throughput 18 (ls) (.inl 0 :: st) (h) Q) := (WP_at c_Law_throughput_17 _ _ _ _)
theorem c_Law_throughput_18 : mCode j_Law_throughput 18 = oRetI := (rfl)
theorem e_Law_throughput_18 (x : Int32) : (WP Gm j_Law_throughput 18 (ls) ([.inl x]) h Q) = (Q (.inl (some (.inl x))) h) := (WP_at c_Law_throughput_18 _ _ _ _)
theorem c_Law_bestChance_0 : mCode j_Law_bestChance 0 = oAld 2 1 := (rfl)
theorem e_Law_bestChance_0 (a0 a1 : Option MV) (x : Option Nat) : (WP Gm j_Law_bestChance 0 (a0 :: a1 :: some (.inr (.inl x)) :: ls) (st) h Q) = (WP Gm j_Law_bestChance 1 (a0 :: a1 :: some (.inr (.inl x)) :: ls) (.inr (.inl x) :: st) (h) Q) := (WP_at c_Law_bestChance_0 _ _ _ _)
theorem c_Law_bestChance_1 : mCode j_Law_bestChance 1 = oAld 0 2 := (rfl)
theorem e_Law_bestChance_1 (x : Option Nat) : (WP Gm j_Law_bestChance 1 (some (.inr (.inl x)) :: ls) (st) h Q) = (WP Gm j_Law_bestChance 2 (some (.inr (.inl x)) :: ls) (.inr (.inl x) :: st) (h) Q) := (WP_at c_Law_bestChance_1 _ _ _ _)
theorem c_Law_bestChance_2 : mCode j_Law_bestChance 2 = oIld 1 3 := (rfl)
theorem e_Law_bestChance_2 (a0 : Option MV) (x : Int32) : (WP Gm j_Law_bestChance 2 (a0 :: some (.inl x) :: ls) (st) h Q) = (WP Gm j_Law_bestChance 3 (a0 :: some (.inl x) :: ls) (.inl x :: st) (h) Q) := (WP_at c_Law_bestChance_2 _ _ _ _)
theorem c_Law_bestChance_3 : mCode j_Law_bestChance 3 = oCallV kc_S j_S_bestChance 1 (mL j_S_bestChance) 6 := (rfl)
theorem e_Law_bestChance_3 (a : Nat) (x0 : Int32) (hk : isK h a kc_S = true) (hc : c8 st = true) : (WP Gm j_Law_bestChance 3 (ls) (.inl x0 :: .inr (.inl (some a)) :: st) h Q) = (WP Gm j_S_bestChance 0 [some (.inr (.inl (some a))), some (.inl x0), none, none, none, none, none, none] [] h (kC (fun v h2 => WP Gm j_Law_bestChance 6 ls (v.toList ++ st) h2 Q) (fun E h2 => match mHx_Law_bestChance E with | some (npc, k) => npc ≠ 0 ∧ WP Gm j_Law_bestChance npc (lSet1 ls k none) [] h2 Q | none => Q (.inr E) h2))) := (WP_at c_Law_bestChance_3 _ _ _ _).trans (congrArg (fun o => ndX Gm (WP Gm) j_Law_bestChance 3 o Q) (if_pos (by rw [hk, show decide (catS st ≤ 8) = true from hc]; rfl)))
theorem c_Law_bestChance_6 : mCode j_Law_bestChance 6 = oI2L 7 := (rfl)
theorem e_Law_bestChance_6 (x : Int32) : (WP Gm j_Law_bestChance 6 (ls) (.inl x :: st) h Q) = (WP Gm j_Law_bestChance 7 (ls) (.inr (.inr (.inl x.toInt64)) :: st) (h) Q) := (WP_at c_Law_bestChance_6 _ _ _ _)
theorem c_Law_bestChance_7 : mCode j_Law_bestChance 7 = oPutL kc_Out 0 10 := (rfl)
theorem e_Law_bestChance_7 (a : Nat) (x : Int64) (hk : isK h a kc_Out = true) : (WP Gm j_Law_bestChance 7 (ls) (.inr (.inr (.inl x)) :: .inr (.inl (some a)) :: st) h Q) = (WP Gm j_Law_bestChance 10 (ls) (st) (sL h a 0 x) Q) := (WP_at c_Law_bestChance_7 _ _ _ _).trans (congrArg (fun o => ndX Gm (WP Gm) j_Law_bestChance 7 o Q) (if_pos hk))
theorem c_Law_bestChance_10 : mCode j_Law_bestChance 10 = oGo 16 := (rfl)
theorem e_Law_bestChance_10  : (WP Gm j_Law_bestChance 10 (ls) (st) h Q) = (WP Gm j_Law_bestChance 16 (ls) (st) (h) Q) := (WP_at c_Law_bestChance_10 _ _ _ _)
theorem c_Law_bestChance_13 : mCode j_Law_bestChance 13 = oAst 3 14 := (rfl)
theorem e_Law_bestChance_13 (x : Option Nat) : (WP Gm j_Law_bestChance 13 (ls) (.inr (.inl x) :: st) h Q) = (WP Gm j_Law_bestChance 14 (lSet1 ls 3 (some (.inr (.inl x)))) (st) (h) Q) := (WP_at c_Law_bestChance_13 _ _ _ _)
theorem c_Law_bestChance_14 : mCode j_Law_bestChance 14 = oI 1 15 := (rfl)
theorem e_Law_bestChance_14  : (WP Gm j_Law_bestChance 14 (ls) (st) h Q) = (WP Gm j_Law_bestChance 15 (ls) (.inl 1 :: st) (h) Q) := (WP_at c_Law_bestChance_14 _ _ _ _)
theorem c_Law_bestChance_15 : mCode j_Law_bestChance 15 = oRetI := (rfl)
theorem e_Law_bestChance_15 (x : Int32) : (WP Gm j_Law_bestChance 15 (ls) ([.inl x]) h Q) = (Q (.inl (some (.inl x))) h) := (WP_at c_Law_bestChance_15 _ _ _ _)
theorem c_Law_bestChance_16 : mCode j_Law_bestChance 16 = oI 0 17 := (rfl)
theorem e_Law_bestChance_16  : (WP Gm j_Law_bestChance 16 (ls) (st) h Q) = (WP Gm j_Law_bestChance 17 (ls) (.inl 0 :: st) (h) Q) := (WP_at c_Law_bestChance_16 _ _ _ _)
theorem c_Law_bestChance_17 : mCode j_Law_bestChance 17 = oRetI := (rfl)
theorem e_Law_bestChance_17 (x : Int32) : (WP Gm j_Law_bestChance 17 (ls) ([.inl x]) h Q) = (Q (.inl (some (.inl x))) h) := (WP_at c_Law_bestChance_17 _ _ _ _)
theorem c_Law_auction_0 : mCode j_Law_auction 0 = oAld 2 1 := (rfl)
theorem e_Law_auction_0 (a0 a1 : Option MV) (x : Option Nat) : (WP Gm j_Law_auction 0 (a0 :: a1 :: some (.inr (.inl x)) :: ls) (st) h Q) = (WP Gm j_Law_auction 1 (a0 :: a1 :: some (.inr (.inl x)) :: ls) (.inr (.inl x) :: st) (h) Q) := (WP_at c_Law_auction_0 _ _ _ _)
theorem c_Law_auction_1 : mCode j_Law_auction 1 = oAld 0 2 := (rfl)
theorem e_Law_auction_1 (x : Option Nat) : (WP Gm j_Law_auction 1 (some (.inr (.inl x)) :: ls) (st) h Q) = (WP Gm j_Law_auction 2 (some (.inr (.inl x)) :: ls) (.inr (.inl x) :: st) (h) Q) := (WP_at c_Law_auction_1 _ _ _ _)
theorem c_Law_auction_2 : mCode j_Law_auction 2 = oIld 1 3 := (rfl)
theorem e_Law_auction_2 (a0 : Option MV) (x : Int32) : (WP Gm j_Law_auction 2 (a0 :: some (.inl x) :: ls) (st) h Q) = (WP Gm j_Law_auction 3 (a0 :: some (.inl x) :: ls) (.inl x :: st) (h) Q) := (WP_at c_Law_auction_2 _ _ _ _)
theorem c_Law_auction_3 : mCode j_Law_auction 3 = oCallV kc_S j_S_auction 1 (mL j_S_auction) 6 := (rfl)
theorem e_Law_auction_3 (a : Nat) (x0 : Int32) (hk : isK h a kc_S = true) (hc : c8 st = true) : (WP Gm j_Law_auction 3 (ls) (.inl x0 :: .inr (.inl (some a)) :: st) h Q) = (WP Gm j_S_auction 0 [some (.inr (.inl (some a))), some (.inl x0)] [] h (kC (fun v h2 => WP Gm j_Law_auction 6 ls (v.toList ++ st) h2 Q) (fun E h2 => match mHx_Law_auction E with | some (npc, k) => npc ≠ 0 ∧ WP Gm j_Law_auction npc (lSet1 ls k none) [] h2 Q | none => Q (.inr E) h2))) := (WP_at c_Law_auction_3 _ _ _ _).trans (congrArg (fun o => ndX Gm (WP Gm) j_Law_auction 3 o Q) (if_pos (by rw [hk, show decide (catS st ≤ 8) = true from hc]; rfl)))
theorem c_Law_auction_6 : mCode j_Law_auction 6 = oI2L 7 := (rfl)
theorem e_Law_auction_6 (x : Int32) : (WP Gm j_Law_auction 6 (ls) (.inl x :: st) h Q) = (WP Gm j_Law_auction 7 (ls) (.inr (.inr (.inl x.toInt64)) :: st) (h) Q) := (WP_at c_Law_auction_6 _ _ _ _)
theorem c_Law_auction_7 : mCode j_Law_auction 7 = oPutL kc_Out 0 10 := (rfl)
theorem e_Law_auction_7 (a : Nat) (x : Int64) (hk : isK h a kc_Out = true) : (WP Gm j_Law_auction 7 (ls) (.inr (.inr (.inl x)) :: .inr (.inl (some a)) :: st) h Q) = (WP Gm j_Law_auction 10 (ls) (st) (sL h a 0 x) Q) := (WP_at c_Law_auction_7 _ _ _ _).trans (congrArg (fun o => ndX Gm (WP Gm) j_Law_auction 7 o Q) (if_pos hk))
theorem c_Law_auction_10 : mCode j_Law_auction 10 = oGo 16 := (rfl)
theorem e_Law_auction_10  : (WP Gm j_Law_auction 10 (ls) (st) h Q) = (WP Gm j_Law_auction 16 (ls) (st) (h) Q) := (WP_at c_Law_auction_10 _ _ _ _)
theorem c_Law_auction_13 : mCode j_Law_auction 13 = oAst 3 14 := (rfl)
theorem e_Law_auction_13 (x : Option Nat) : (WP Gm j_Law_auction 13 (ls) (.inr (.inl x) :: st) h Q) = (WP Gm j_Law_auction 14 (lSet1 ls 3 (some (.inr (.inl x)))) (st) (h) Q) := (WP_at c_Law_auction_13 _ _ _ _)
theorem c_Law_auction_14 : mCode j_Law_auction 14 = oI 1 15 := (rfl)
theorem e_Law_auction_14  : (WP Gm j_Law_auction 14 (ls) (st) h Q) = (WP Gm j_Law_auction 15 (ls) (.inl 1 :: st) (h) Q) := (WP_at c_Law_auction_14 _ _ _ _)
theorem c_Law_auction_15 : mCode j_Law_auction 15 = oRetI := (rfl)
theorem e_Law_auction_15 (x : Int32) : (WP Gm j_Law_auction 15 (ls) ([.inl x]) h Q) = (Q (.inl (some (.inl x))) h) := (WP_at c_Law_auction_15 _ _ _ _)
theorem c_Law_auction_16 : mCode j_Law_auction 16 = oI 0 17 := (rfl)
theorem e_Law_auction_16  : (WP Gm j_Law_auction 16 (ls) (st) h Q) = (WP Gm j_Law_auction 17 (ls) (.inl 0 :: st) (h) Q) := (WP_at c_Law_auction_16 _ _ _ _)
theorem c_Law_auction_17 : mCode j_Law_auction 17 = oRetI := (rfl)
theorem e_Law_auction_17 (x : Int32) : (WP Gm j_Law_auction 17 (ls) ([.inl x]) h Q) = (Q (.inl (some (.inl x))) h) := (WP_at c_Law_auction_17 _ _ _ _)
set_option maxRecDepth 100000 in
theorem c_Law_law_0 : mCode j_Law_law 0 = oNew cM sM kc_S 5 3 := (rfl)
theorem e_Law_law_0 (hr : okR cM sM h 1 5 = true) : (WP Gm j_Law_law 0 (ls) (st) h Q) = (WP Gm j_Law_law 3 (ls) (.inr (.inl (some (nx h))) :: st) (hN h kc_S 0 5) Q) := (WP_at c_Law_law_0 _ _ _ _).trans (congrArg (fun o => ndX Gm (WP Gm) j_Law_law 0 o Q) (if_pos hr))
set_option maxRecDepth 100000 in
theorem c_Law_law_3 : mCode j_Law_law 3 = oDup 4 := (rfl)
theorem e_Law_law_3 (x : Option Nat) : (WP Gm j_Law_law 3 (ls) (.inr (.inl x) :: st) h Q) = (WP Gm j_Law_law 4 (ls) (.inr (.inl x) :: .inr (.inl x) :: st) (h) Q) := (WP_at c_Law_law_3 _ _ _ _)
set_option maxRecDepth 100000 in
theorem c_Law_law_4 : mCode j_Law_law 4 = oCallV kc_S j_S_init 0 (mL j_S_init) 7 := (rfl)
theorem e_Law_law_4 (a : Nat) (hk : isK h a kc_S = true) (hc : c8 st = true) : (WP Gm j_Law_law 4 (ls) (.inr (.inl (some a)) :: st) h Q) = (WP Gm j_S_init 0 [some (.inr (.inl (some a)))] [] h (kC (fun v h2 => WP Gm j_Law_law 7 ls (v.toList ++ st) h2 Q) (fun E h2 => Q (.inr E) h2))) := (WP_at c_Law_law_4 _ _ _ _).trans (congrArg (fun o => ndX Gm (WP Gm) j_Law_law 4 o Q) (if_pos (by rw [hk, show decide (catS st ≤ 8) = true from hc]; rfl)))
set_option maxRecDepth 100000 in
theorem c_Law_law_7 : mCode j_Law_law 7 = oAst 1 8 := (rfl)
theorem e_Law_law_7 (x : Option Nat) : (WP Gm j_Law_law 7 (ls) (.inr (.inl x) :: st) h Q) = (WP Gm j_Law_law 8 (lSet1 ls 1 (some (.inr (.inl x)))) (st) (h) Q) := (WP_at c_Law_law_7 _ _ _ _)
set_option maxRecDepth 100000 in
theorem c_Law_law_8 : mCode j_Law_law 8 = oNew cM sM kc_Mdl 12 11 := (rfl)
theorem e_Law_law_8 (hr : okR cM sM h 1 12 = true) : (WP Gm j_Law_law 8 (ls) (st) h Q) = (WP Gm j_Law_law 11 (ls) (.inr (.inl (some (nx h))) :: st) (hN h kc_Mdl 0 12) Q) := (WP_at c_Law_law_8 _ _ _ _).trans (congrArg (fun o => ndX Gm (WP Gm) j_Law_law 8 o Q) (if_pos hr))
set_option maxRecDepth 100000 in
theorem c_Law_law_11 : mCode j_Law_law 11 = oDup 12 := (rfl)
theorem e_Law_law_11 (x : Option Nat) : (WP Gm j_Law_law 11 (ls) (.inr (.inl x) :: st) h Q) = (WP Gm j_Law_law 12 (ls) (.inr (.inl x) :: .inr (.inl x) :: st) (h) Q) := (WP_at c_Law_law_11 _ _ _ _)
set_option maxRecDepth 100000 in
theorem c_Law_law_12 : mCode j_Law_law 12 = oCallV kc_Mdl j_Mdl_init 0 (mL j_Mdl_init) 15 := (rfl)
theorem e_Law_law_12 (a : Nat) (hk : isK h a kc_Mdl = true) (hc : c8 st = true) : (WP Gm j_Law_law 12 (ls) (.inr (.inl (some a)) :: st) h Q) = (WP Gm j_Mdl_init 0 [some (.inr (.inl (some a)))] [] h (kC (fun v h2 => WP Gm j_Law_law 15 ls (v.toList ++ st) h2 Q) (fun E h2 => Q (.inr E) h2))) := (WP_at c_Law_law_12 _ _ _ _).trans (congrArg (fun o => ndX Gm (WP Gm) j_Law_law 12 o Q) (if_pos (by rw [hk, show decide (catS st ≤ 8) = true from hc]; rfl)))
set_option maxRecDepth 100000 in
theorem c_Law_law_15 : mCode j_Law_law 15 = oAst 2 16 := (rfl)
theorem e_Law_law_15 (x : Option Nat) : (WP Gm j_Law_law 15 (ls) (.inr (.inl x) :: st) h Q) = (WP Gm j_Law_law 16 (lSet1 ls 2 (some (.inr (.inl x)))) (st) (h) Q) := (WP_at c_Law_law_15 _ _ _ _)
set_option maxRecDepth 100000 in
theorem c_Law_law_16 : mCode j_Law_law 16 = oNew cM sM kc_Out 2 19 := (rfl)
theorem e_Law_law_16 (hr : okR cM sM h 1 2 = true) : (WP Gm j_Law_law 16 (ls) (st) h Q) = (WP Gm j_Law_law 19 (ls) (.inr (.inl (some (nx h))) :: st) (hN h kc_Out 0 2) Q) := (WP_at c_Law_law_16 _ _ _ _).trans (congrArg (fun o => ndX Gm (WP Gm) j_Law_law 16 o Q) (if_pos hr))
set_option maxRecDepth 100000 in
theorem c_Law_law_19 : mCode j_Law_law 19 = oDup 20 := (rfl)
theorem e_Law_law_19 (x : Option Nat) : (WP Gm j_Law_law 19 (ls) (.inr (.inl x) :: st) h Q) = (WP Gm j_Law_law 20 (ls) (.inr (.inl x) :: .inr (.inl x) :: st) (h) Q) := (WP_at c_Law_law_19 _ _ _ _)
set_option maxRecDepth 100000 in
theorem c_Law_law_20 : mCode j_Law_law 20 = oCallV kc_Out j_Out_init 0 (mL j_Out_init) 23 := (rfl)
theorem e_Law_law_20 (a : Nat) (hk : isK h a kc_Out = true) (hc : c8 st = true) : (WP Gm j_Law_law 20 (ls) (.inr (.inl (some a)) :: st) h Q) = (WP Gm j_Out_init 0 [some (.inr (.inl (some a)))] [] h (kC (fun v h2 => WP Gm j_Law_law 23 ls (v.toList ++ st) h2 Q) (fun E h2 => Q (.inr E) h2))) := (WP_at c_Law_law_20 _ _ _ _).trans (congrArg (fun o => ndX Gm (WP Gm) j_Law_law 20 o Q) (if_pos (by rw [hk, show decide (catS st ≤ 8) = true from hc]; rfl)))
set_option maxRecDepth 100000 in
theorem c_Law_law_23 : mCode j_Law_law 23 = oAst 3 24 := (rfl)
theorem e_Law_law_23 (x : Option Nat) : (WP Gm j_Law_law 23 (ls) (.inr (.inl x) :: st) h Q) = (WP Gm j_Law_law 24 (lSet1 ls 3 (some (.inr (.inl x)))) (st) (h) Q) := (WP_at c_Law_law_23 _ _ _ _)
set_option maxRecDepth 100000 in
theorem c_Law_law_24 : mCode j_Law_law 24 = oI 0 25 := (rfl)
theorem e_Law_law_24  : (WP Gm j_Law_law 24 (ls) (st) h Q) = (WP Gm j_Law_law 25 (ls) (.inl 0 :: st) (h) Q) := (WP_at c_Law_law_24 _ _ _ _)
set_option maxRecDepth 100000 in
theorem c_Law_law_25 : mCode j_Law_law 25 = oIst 4 27 := (rfl)
theorem e_Law_law_25 (x : Int32) : (WP Gm j_Law_law 25 (ls) (.inl x :: st) h Q) = (WP Gm j_Law_law 27 (lSet1 ls 4 (some (.inl x))) (st) (h) Q) := (WP_at c_Law_law_25 _ _ _ _)
set_option maxRecDepth 100000 in
theorem c_Law_law_27 : mCode j_Law_law 27 = oIld 4 29 := (rfl)
theorem e_Law_law_27 (a0 a1 a2 a3 : Option MV) (x : Int32) : (WP Gm j_Law_law 27 (a0 :: a1 :: a2 :: a3 :: some (.inl x) :: ls) (st) h Q) = (WP Gm j_Law_law 29 (a0 :: a1 :: a2 :: a3 :: some (.inl x) :: ls) (.inl x :: st) (h) Q) := (WP_at c_Law_law_27 _ _ _ _)
set_option maxRecDepth 100000 in
theorem c_Law_law_29 : mCode j_Law_law 29 = oAld 0 30 := (rfl)
theorem e_Law_law_29 (x : Option Nat) : (WP Gm j_Law_law 29 (some (.inr (.inl x)) :: ls) (st) h Q) = (WP Gm j_Law_law 30 (some (.inr (.inl x)) :: ls) (.inr (.inl x) :: st) (h) Q) := (WP_at c_Law_law_29 _ _ _ _)
set_option maxRecDepth 100000 in
theorem c_Law_law_30 : mCode j_Law_law 30 = oLen 0 31 := (rfl)
theorem e_Law_law_30 (a : Nat) (hk : isK h a 100 = true) : (WP Gm j_Law_law 30 (ls) (.inr (.inl (some a)) :: st) h Q) = (WP Gm j_Law_law 31 (ls) (.inl (Int32.ofNat (ln h a)) :: st) (h) Q) := (WP_at c_Law_law_30 _ _ _ _).trans (congrArg (fun o => ndX Gm (WP Gm) j_Law_law 30 o Q) (if_pos hk))
set_option maxRecDepth 100000 in
theorem c_Law_law_31 : mCode j_Law_law 31 = oI 5 32 := (rfl)
theorem e_Law_law_31  : (WP Gm j_Law_law 31 (ls) (st) h Q) = (WP Gm j_Law_law 32 (ls) (.inl 5 :: st) (h) Q) := (WP_at c_Law_law_31 _ _ _ _)
set_option maxRecDepth 100000 in
theorem c_Law_law_32 : mCode j_Law_law 32 = oII (fun x y => x - y) 33 := (rfl)
theorem e_Law_law_32 (x : Int32) (y : Int32) : (WP Gm j_Law_law 32 (ls) (.inl y :: .inl x :: st) h Q) = (WP Gm j_Law_law 33 (ls) (.inl (x - y) :: st) (h) Q) := (WP_at c_Law_law_32 _ _ _ _)
set_option maxRecDepth 100000 in
theorem c_Law_law_33 : mCode j_Law_law 33 = oIC (fun x y => decide (y < x)) 1002 36 := (rfl)
theorem e_Law_law_33 (x y : Int32) : (WP Gm j_Law_law 33 (ls) (.inl y :: .inl x :: st) h Q) = (if y < x then WP Gm j_Law_law 1002 (ls) (st) (h) Q else WP Gm j_Law_law 36 (ls) (st) (h) Q) := (WP_at c_Law_law_33 _ _ _ _).trans (nd_ic rfl _ _ _ _)
set_option maxRecDepth 100000 in
theorem c_Law_law_36 : mCode j_Law_law 36 = oAld 0 37 := (rfl)
theorem e_Law_law_36 (x : Option Nat) : (WP Gm j_Law_law 36 (some (.inr (.inl x)) :: ls) (st) h Q) = (WP Gm j_Law_law 37 (some (.inr (.inl x)) :: ls) (.inr (.inl x) :: st) (h) Q) := (WP_at c_Law_law_36 _ _ _ _)
set_option maxRecDepth 100000 in
theorem c_Law_law_37 : mCode j_Law_law 37 = oIld 4 39 := (rfl)
theorem e_Law_law_37 (a0 a1 a2 a3 : Option MV) (x : Int32) : (WP Gm j_Law_law 37 (a0 :: a1 :: a2 :: a3 :: some (.inl x) :: ls) (st) h Q) = (WP Gm j_Law_law 39 (a0 :: a1 :: a2 :: a3 :: some (.inl x) :: ls) (.inl x :: st) (h) Q) := (WP_at c_Law_law_37 _ _ _ _)
set_option maxRecDepth 100000 in
theorem c_Law_law_39 : mCode j_Law_law 39 = oIal 0 40 := (rfl)
theorem e_Law_law_39 (a : Nat) (i : Int32) (hk : isK h a 100 = true) (hi : inL h a i = true) : (WP Gm j_Law_law 39 (ls) (.inl i :: .inr (.inl (some a)) :: st) h Q) = (WP Gm j_Law_law 40 (ls) (.inl (gI h a i.toNatClampNeg) :: st) (h) Q) := (WP_at c_Law_law_39 _ _ _ _).trans (congrArg (fun o => ndX Gm (WP Gm) j_Law_law 39 o Q) (if_pos (by rw [hk, hi]; rfl)))
set_option maxRecDepth 100000 in
theorem c_Law_law_40 : mCode j_Law_law 40 = oI 31 42 := (rfl)
theorem e_Law_law_40  : (WP Gm j_Law_law 40 (ls) (st) h Q) = (WP Gm j_Law_law 42 (ls) (.inl 31 :: st) (h) Q) := (WP_at c_Law_law_40 _ _ _ _)
set_option maxRecDepth 100000 in
theorem c_Law_law_42 : mCode j_Law_law 42 = oII (fun x y => x &&& y) 43 := (rfl)
theorem e_Law_law_42 (x : Int32) (y : Int32) : (WP Gm j_Law_law 42 (ls) (.inl y :: .inl x :: st) h Q) = (WP Gm j_Law_law 43 (ls) (.inl (x &&& y) :: st) (h) Q) := (WP_at c_Law_law_42 _ _ _ _)
set_option maxRecDepth 100000 in
theorem c_Law_law_43 : mCode j_Law_law 43 = oTsw 0 [152, 232, 284, 352, 404, 432, 460, 512, 525, 538, 578, 618, 670, 722, 750, 790, 805, 821, 861, 901, 929, 957, 970, 983] 996 := (rfl)
theorem e_Law_law_43 (x : Int32) : (WP Gm j_Law_law 43 (ls) (.inl x :: st) h Q) = (WP Gm j_Law_law (tsw 0 [152, 232, 284, 352, 404, 432, 460, 512, 525, 538, 578, 618, 670, 722, 750, 790, 805, 821, 861, 901, 929, 957, 970, 983] 996 x) (ls) (st) (h) Q) := (WP_at c_Law_law_43 _ _ _ _)
theorem e_Law_law_43c0 : (WP Gm j_Law_law 43 ls (.inl 0 :: st) h Q) = (WP Gm j_Law_law 152 ls st h Q) := by
  rw [e_Law_law_43]
  exact congrArg (fun k => WP Gm j_Law_law k ls st h Q) (by decide)
theorem e_Law_law_43c1 : (WP Gm j_Law_law 43 ls (.inl 1 :: st) h Q) = (WP Gm j_Law_law 232 ls st h Q) := by
  rw [e_Law_law_43]
  exact congrArg (fun k => WP Gm j_Law_law k ls st h Q) (by decide)
theorem e_Law_law_43c2 : (WP Gm j_Law_law 43 ls (.inl 2 :: st) h Q) = (WP Gm j_Law_law 284 ls st h Q) := by
  rw [e_Law_law_43]
  exact congrArg (fun k => WP Gm j_Law_law k ls st h Q) (by decide)
theorem e_Law_law_43c3 : (WP Gm j_Law_law 43 ls (.inl 3 :: st) h Q) = (WP Gm j_Law_law 352 ls st h Q) := by
  rw [e_Law_law_43]
  exact congrArg (fun k => WP Gm j_Law_law k ls st h Q) (by decide)
theorem e_Law_law_43c4 : (WP Gm j_Law_law 43 ls (.inl 4 :: st) h Q) = (WP Gm j_Law_law 404 ls st h Q) := by
  rw [e_Law_law_43]
  exact congrArg (fun k => WP Gm j_Law_law k ls st h Q) (by decide)
theorem e_Law_law_43c5 : (WP Gm j_Law_law 43 ls (.inl 5 :: st) h Q) = (WP Gm j_Law_law 432 ls st h Q) := by
  rw [e_Law_law_43]
  exact congrArg (fun k => WP Gm j_Law_law k ls st h Q) (by decide)
theorem e_Law_law_43c6 : (WP Gm j_Law_law 43 ls (.inl 6 :: st) h Q) = (WP Gm j_Law_law 460 ls st h Q) := by
  rw [e_Law_law_43]
  exact congrArg (fun k => WP Gm j_Law_law k ls st h Q) (by decide)
theorem e_Law_law_43c7 : (WP Gm j_Law_law 43 ls (.inl 7 :: st) h Q) = (WP Gm j_Law_law 512 ls st h Q) := by
  rw [e_Law_law_43]
  exact congrArg (fun k => WP Gm j_Law_law k ls st h Q) (by decide)
theorem e_Law_law_43c8 : (WP Gm j_Law_law 43 ls (.inl 8 :: st) h Q) = (WP Gm j_Law_law 525 ls st h Q) := by
  rw [e_Law_law_43]
  exact congrArg (fun k => WP Gm j_Law_law k ls st h Q) (by decide)
theorem e_Law_law_43c9 : (WP Gm j_Law_law 43 ls (.inl 9 :: st) h Q) = (WP Gm j_Law_law 538 ls st h Q) := by
  rw [e_Law_law_43]
  exact congrArg (fun k => WP Gm j_Law_law k ls st h Q) (by decide)
theorem e_Law_law_43c10 : (WP Gm j_Law_law 43 ls (.inl 10 :: st) h Q) = (WP Gm j_Law_law 578 ls st h Q) := by
  rw [e_Law_law_43]
  exact congrArg (fun k => WP Gm j_Law_law k ls st h Q) (by decide)
theorem e_Law_law_43c11 : (WP Gm j_Law_law 43 ls (.inl 11 :: st) h Q) = (WP Gm j_Law_law 618 ls st h Q) := by
  rw [e_Law_law_43]
  exact congrArg (fun k => WP Gm j_Law_law k ls st h Q) (by decide)
theorem e_Law_law_43c12 : (WP Gm j_Law_law 43 ls (.inl 12 :: st) h Q) = (WP Gm j_Law_law 670 ls st h Q) := by
  rw [e_Law_law_43]
  exact congrArg (fun k => WP Gm j_Law_law k ls st h Q) (by decide)
theorem e_Law_law_43c13 : (WP Gm j_Law_law 43 ls (.inl 13 :: st) h Q) = (WP Gm j_Law_law 722 ls st h Q) := by
  rw [e_Law_law_43]
  exact congrArg (fun k => WP Gm j_Law_law k ls st h Q) (by decide)
theorem e_Law_law_43c14 : (WP Gm j_Law_law 43 ls (.inl 14 :: st) h Q) = (WP Gm j_Law_law 750 ls st h Q) := by
  rw [e_Law_law_43]
  exact congrArg (fun k => WP Gm j_Law_law k ls st h Q) (by decide)
theorem e_Law_law_43c15 : (WP Gm j_Law_law 43 ls (.inl 15 :: st) h Q) = (WP Gm j_Law_law 790 ls st h Q) := by
  rw [e_Law_law_43]
  exact congrArg (fun k => WP Gm j_Law_law k ls st h Q) (by decide)
theorem e_Law_law_43c16 : (WP Gm j_Law_law 43 ls (.inl 16 :: st) h Q) = (WP Gm j_Law_law 805 ls st h Q) := by
  rw [e_Law_law_43]
  exact congrArg (fun k => WP Gm j_Law_law k ls st h Q) (by decide)
theorem e_Law_law_43c17 : (WP Gm j_Law_law 43 ls (.inl 17 :: st) h Q) = (WP Gm j_Law_law 821 ls st h Q) := by
  rw [e_Law_law_43]
  exact congrArg (fun k => WP Gm j_Law_law k ls st h Q) (by decide)
theorem e_Law_law_43c18 : (WP Gm j_Law_law 43 ls (.inl 18 :: st) h Q) = (WP Gm j_Law_law 861 ls st h Q) := by
  rw [e_Law_law_43]
  exact congrArg (fun k => WP Gm j_Law_law k ls st h Q) (by decide)
theorem e_Law_law_43c19 : (WP Gm j_Law_law 43 ls (.inl 19 :: st) h Q) = (WP Gm j_Law_law 901 ls st h Q) := by
  rw [e_Law_law_43]
  exact congrArg (fun k => WP Gm j_Law_law k ls st h Q) (by decide)
theorem e_Law_law_43c20 : (WP Gm j_Law_law 43 ls (.inl 20 :: st) h Q) = (WP Gm j_Law_law 929 ls st h Q) := by
  rw [e_Law_law_43]
  exact congrArg (fun k => WP Gm j_Law_law k ls st h Q) (by decide)
theorem e_Law_law_43c21 : (WP Gm j_Law_law 43 ls (.inl 21 :: st) h Q) = (WP Gm j_Law_law 957 ls st h Q) := by
  rw [e_Law_law_43]
  exact congrArg (fun k => WP Gm j_Law_law k ls st h Q) (by decide)
theorem e_Law_law_43c22 : (WP Gm j_Law_law 43 ls (.inl 22 :: st) h Q) = (WP Gm j_Law_law 970 ls st h Q) := by
  rw [e_Law_law_43]
  exact congrArg (fun k => WP Gm j_Law_law k ls st h Q) (by decide)
theorem e_Law_law_43c23 : (WP Gm j_Law_law 43 ls (.inl 23 :: st) h Q) = (WP Gm j_Law_law 983 ls st h Q) := by
  rw [e_Law_law_43]
  exact congrArg (fun k => WP Gm j_Law_law k ls st h Q) (by decide)
set_option maxRecDepth 100000 in
theorem c_Law_law_152 : mCode j_Law_law 152 = oAld 1 153 := (rfl)
theorem e_Law_law_152 (a0 : Option MV) (x : Option Nat) : (WP Gm j_Law_law 152 (a0 :: some (.inr (.inl x)) :: ls) (st) h Q) = (WP Gm j_Law_law 153 (a0 :: some (.inr (.inl x)) :: ls) (.inr (.inl x) :: st) (h) Q) := (WP_at c_Law_law_152 _ _ _ _)
set_option maxRecDepth 100000 in
theorem c_Law_law_153 : mCode j_Law_law 153 = oAld 0 154 := (rfl)
theorem e_Law_law_153 (x : Option Nat) : (WP Gm j_Law_law 153 (some (.inr (.inl x)) :: ls) (st) h Q) = (WP Gm j_Law_law 154 (some (.inr (.inl x)) :: ls) (.inr (.inl x) :: st) (h) Q) := (WP_at c_Law_law_153 _ _ _ _)
set_option maxRecDepth 100000 in
theorem c_Law_law_154 : mCode j_Law_law 154 = oIld 4 156 := (rfl)
theorem e_Law_law_154 (a0 a1 a2 a3 : Option MV) (x : Int32) : (WP Gm j_Law_law 154 (a0 :: a1 :: a2 :: a3 :: some (.inl x) :: ls) (st) h Q) = (WP Gm j_Law_law 156 (a0 :: a1 :: a2 :: a3 :: some (.inl x) :: ls) (.inl x :: st) (h) Q) := (WP_at c_Law_law_154 _ _ _ _)
set_option maxRecDepth 100000 in
theorem c_Law_law_156 : mCode j_Law_law 156 = oI 1 157 := (rfl)
theorem e_Law_law_156  : (WP Gm j_Law_law 156 (ls) (st) h Q) = (WP Gm j_Law_law 157 (ls) (.inl 1 :: st) (h) Q) := (WP_at c_Law_law_156 _ _ _ _)
set_option maxRecDepth 100000 in
theorem c_Law_law_157 : mCode j_Law_law 157 = oII (fun x y => x + y) 158 := (rfl)
theorem e_Law_law_157 (x : Int32) (y : Int32) : (WP Gm j_Law_law 157 (ls) (.inl y :: .inl x :: st) h Q) = (WP Gm j_Law_law 158 (ls) (.inl (x + y) :: st) (h) Q) := (WP_at c_Law_law_157 _ _ _ _)
set_option maxRecDepth 100000 in
theorem c_Law_law_158 : mCode j_Law_law 158 = oIal 0 159 := (rfl)
theorem e_Law_law_158 (a : Nat) (i : Int32) (hk : isK h a 100 = true) (hi : inL h a i = true) : (WP Gm j_Law_law 158 (ls) (.inl i :: .inr (.inl (some a)) :: st) h Q) = (WP Gm j_Law_law 159 (ls) (.inl (gI h a i.toNatClampNeg) :: st) (h) Q) := (WP_at c_Law_law_158 _ _ _ _).trans (congrArg (fun o => ndX Gm (WP Gm) j_Law_law 158 o Q) (if_pos (by rw [hk, hi]; rfl)))
set_option maxRecDepth 100000 in
theorem c_Law_law_159 : mCode j_Law_law 159 = oAld 0 160 := (rfl)
theorem e_Law_law_159 (x : Option Nat) : (WP Gm j_Law_law 159 (some (.inr (.inl x)) :: ls) (st) h Q) = (WP Gm j_Law_law 160 (some (.inr (.inl x)) :: ls) (.inr (.inl x) :: st) (h) Q) := (WP_at c_Law_law_159 _ _ _ _)
set_option maxRecDepth 100000 in
theorem c_Law_law_160 : mCode j_Law_law 160 = oIld 4 162 := (rfl)
theorem e_Law_law_160 (a0 a1 a2 a3 : Option MV) (x : Int32) : (WP Gm j_Law_law 160 (a0 :: a1 :: a2 :: a3 :: some (.inl x) :: ls) (st) h Q) = (WP Gm j_Law_law 162 (a0 :: a1 :: a2 :: a3 :: some (.inl x) :: ls) (.inl x :: st) (h) Q) := (WP_at c_Law_law_160 _ _ _ _)
set_option maxRecDepth 100000 in
theorem c_Law_law_162 : mCode j_Law_law 162 = oI 2 163 := (rfl)
theorem e_Law_law_162  : (WP Gm j_Law_law 162 (ls) (st) h Q) = (WP Gm j_Law_law 163 (ls) (.inl 2 :: st) (h) Q) := (WP_at c_Law_law_162 _ _ _ _)
set_option maxRecDepth 100000 in
theorem c_Law_law_163 : mCode j_Law_law 163 = oII (fun x y => x + y) 164 := (rfl)
theorem e_Law_law_163 (x : Int32) (y : Int32) : (WP Gm j_Law_law 163 (ls) (.inl y :: .inl x :: st) h Q) = (WP Gm j_Law_law 164 (ls) (.inl (x + y) :: st) (h) Q) := (WP_at c_Law_law_163 _ _ _ _)
set_option maxRecDepth 100000 in
theorem c_Law_law_164 : mCode j_Law_law 164 = oIal 0 165 := (rfl)
theorem e_Law_law_164 (a : Nat) (i : Int32) (hk : isK h a 100 = true) (hi : inL h a i = true) : (WP Gm j_Law_law 164 (ls) (.inl i :: .inr (.inl (some a)) :: st) h Q) = (WP Gm j_Law_law 165 (ls) (.inl (gI h a i.toNatClampNeg) :: st) (h) Q) := (WP_at c_Law_law_164 _ _ _ _).trans (congrArg (fun o => ndX Gm (WP Gm) j_Law_law 164 o Q) (if_pos (by rw [hk, hi]; rfl)))
set_option maxRecDepth 100000 in
theorem c_Law_law_165 : mCode j_Law_law 165 = oAld 0 166 := (rfl)
theorem e_Law_law_165 (x : Option Nat) : (WP Gm j_Law_law 165 (some (.inr (.inl x)) :: ls) (st) h Q) = (WP Gm j_Law_law 166 (some (.inr (.inl x)) :: ls) (.inr (.inl x) :: st) (h) Q) := (WP_at c_Law_law_165 _ _ _ _)
set_option maxRecDepth 100000 in
theorem c_Law_law_166 : mCode j_Law_law 166 = oIld 4 168 := (rfl)
theorem e_Law_law_166 (a0 a1 a2 a3 : Option MV) (x : Int32) : (WP Gm j_Law_law 166 (a0 :: a1 :: a2 :: a3 :: some (.inl x) :: ls) (st) h Q) = (WP Gm j_Law_law 168 (a0 :: a1 :: a2 :: a3 :: some (.inl x) :: ls) (.inl x :: st) (h) Q) := (WP_at c_Law_law_166 _ _ _ _)
set_option maxRecDepth 100000 in
theorem c_Law_law_168 : mCode j_Law_law 168 = oI 3 169 := (rfl)
theorem e_Law_law_168  : (WP Gm j_Law_law 168 (ls) (st) h Q) = (WP Gm j_Law_law 169 (ls) (.inl 3 :: st) (h) Q) := (WP_at c_Law_law_168 _ _ _ _)
set_option maxRecDepth 100000 in
theorem c_Law_law_169 : mCode j_Law_law 169 = oII (fun x y => x + y) 170 := (rfl)
theorem e_Law_law_169 (x : Int32) (y : Int32) : (WP Gm j_Law_law 169 (ls) (.inl y :: .inl x :: st) h Q) = (WP Gm j_Law_law 170 (ls) (.inl (x + y) :: st) (h) Q) := (WP_at c_Law_law_169 _ _ _ _)
set_option maxRecDepth 100000 in
theorem c_Law_law_170 : mCode j_Law_law 170 = oIal 0 171 := (rfl)
theorem e_Law_law_170 (a : Nat) (i : Int32) (hk : isK h a 100 = true) (hi : inL h a i = true) : (WP Gm j_Law_law 170 (ls) (.inl i :: .inr (.inl (some a)) :: st) h Q) = (WP Gm j_Law_law 171 (ls) (.inl (gI h a i.toNatClampNeg) :: st) (h) Q) := (WP_at c_Law_law_170 _ _ _ _).trans (congrArg (fun o => ndX Gm (WP Gm) j_Law_law 170 o Q) (if_pos (by rw [hk, hi]; rfl)))
set_option maxRecDepth 100000 in
theorem c_Law_law_171 : mCode j_Law_law 171 = oAld 0 172 := (rfl)
theorem e_Law_law_171 (x : Option Nat) : (WP Gm j_Law_law 171 (some (.inr (.inl x)) :: ls) (st) h Q) = (WP Gm j_Law_law 172 (some (.inr (.inl x)) :: ls) (.inr (.inl x) :: st) (h) Q) := (WP_at c_Law_law_171 _ _ _ _)
set_option maxRecDepth 100000 in
theorem c_Law_law_172 : mCode j_Law_law 172 = oIld 4 174 := (rfl)
theorem e_Law_law_172 (a0 a1 a2 a3 : Option MV) (x : Int32) : (WP Gm j_Law_law 172 (a0 :: a1 :: a2 :: a3 :: some (.inl x) :: ls) (st) h Q) = (WP Gm j_Law_law 174 (a0 :: a1 :: a2 :: a3 :: some (.inl x) :: ls) (.inl x :: st) (h) Q) := (WP_at c_Law_law_172 _ _ _ _)
set_option maxRecDepth 100000 in
theorem c_Law_law_174 : mCode j_Law_law 174 = oI 4 175 := (rfl)
theorem e_Law_law_174  : (WP Gm j_Law_law 174 (ls) (st) h Q) = (WP Gm j_Law_law 175 (ls) (.inl 4 :: st) (h) Q) := (WP_at c_Law_law_174 _ _ _ _)
set_option maxRecDepth 100000 in
theorem c_Law_law_175 : mCode j_Law_law 175 = oII (fun x y => x + y) 176 := (rfl)
theorem e_Law_law_175 (x : Int32) (y : Int32) : (WP Gm j_Law_law 175 (ls) (.inl y :: .inl x :: st) h Q) = (WP Gm j_Law_law 176 (ls) (.inl (x + y) :: st) (h) Q) := (WP_at c_Law_law_175 _ _ _ _)
set_option maxRecDepth 100000 in
theorem c_Law_law_176 : mCode j_Law_law 176 = oIal 0 177 := (rfl)
theorem e_Law_law_176 (a : Nat) (i : Int32) (hk : isK h a 100 = true) (hi : inL h a i = true) : (WP Gm j_Law_law 176 (ls) (.inl i :: .inr (.inl (some a)) :: st) h Q) = (WP Gm j_Law_law 177 (ls) (.inl (gI h a i.toNatClampNeg) :: st) (h) Q) := (WP_at c_Law_law_176 _ _ _ _).trans (congrArg (fun o => ndX Gm (WP Gm) j_Law_law 176 o Q) (if_pos (by rw [hk, hi]; rfl)))
set_option maxRecDepth 100000 in
theorem c_Law_law_177 : mCode j_Law_law 177 = oIf (fun x => decide (x = 0)) 184 180 := (rfl)
theorem e_Law_law_177 (x : Int32) : (WP Gm j_Law_law 177 (ls) (.inl x :: st) h Q) = (if x = 0 then WP Gm j_Law_law 184 (ls) (st) (h) Q else WP Gm j_Law_law 180 (ls) (st) (h) Q) := (WP_at c_Law_law_177 _ _ _ _).trans (nd_if rfl _ _ _ _)
set_option maxRecDepth 100000 in
theorem c_Law_law_180 : mCode j_Law_law 180 = oI 1 181 := (rfl)
theorem e_Law_law_180  : (WP Gm j_Law_law 180 (ls) (st) h Q) = (WP Gm j_Law_law 181 (ls) (.inl 1 :: st) (h) Q) := (WP_at c_Law_law_180 _ _ _ _)
set_option maxRecDepth 100000 in
theorem c_Law_law_181 : mCode j_Law_law 181 = oGo 185 := (rfl)
theorem e_Law_law_181  : (WP Gm j_Law_law 181 (ls) (st) h Q) = (WP Gm j_Law_law 185 (ls) (st) (h) Q) := (WP_at c_Law_law_181 _ _ _ _)
set_option maxRecDepth 100000 in
theorem c_Law_law_184 : mCode j_Law_law 184 = oI 0 185 := (rfl)
theorem e_Law_law_184  : (WP Gm j_Law_law 184 (ls) (st) h Q) = (WP Gm j_Law_law 185 (ls) (.inl 0 :: st) (h) Q) := (WP_at c_Law_law_184 _ _ _ _)
set_option maxRecDepth 100000 in
theorem c_Law_law_185 : mCode j_Law_law 185 = oAld 3 186 := (rfl)
theorem e_Law_law_185 (a0 a1 a2 : Option MV) (x : Option Nat) : (WP Gm j_Law_law 185 (a0 :: a1 :: a2 :: some (.inr (.inl x)) :: ls) (st) h Q) = (WP Gm j_Law_law 186 (a0 :: a1 :: a2 :: some (.inr (.inl x)) :: ls) (.inr (.inl x) :: st) (h) Q) := (WP_at c_Law_law_185 _ _ _ _)
set_option maxRecDepth 100000 in
theorem c_Law_law_186 : mCode j_Law_law 186 = oCallS j_Law_node 6 (mL j_Law_node) 189 := (rfl)
theorem e_Law_law_186 (x0 : Option Nat) (x1 : Int32) (x2 : Int32) (x3 : Int32) (x4 : Int32) (x5 : Option Nat) (hc : c8 st = true) : (WP Gm j_Law_law 186 (ls) (.inr (.inl x5) :: .inl x4 :: .inl x3 :: .inl x2 :: .inl x1 :: .inr (.inl x0) :: st) h Q) = (WP Gm j_Law_node 0 [some (.inr (.inl x0)), some (.inl x1), some (.inl x2), some (.inl x3), some (.inl x4), some (.inr (.inl x5)), none] [] h (kC (fun v h2 => WP Gm j_Law_law 189 ls (v.toList ++ st) h2 Q) (fun E h2 => Q (.inr E) h2))) := (WP_at c_Law_law_186 _ _ _ _).trans (congrArg (fun o => ndX Gm (WP Gm) j_Law_law 186 o Q) (if_pos (by rw [show decide (catS st ≤ 8) = true from hc]; rfl)))
set_option maxRecDepth 100000 in
theorem c_Law_law_189 : mCode j_Law_law 189 = oIst 5 191 := (rfl)
theorem e_Law_law_189 (x : Int32) : (WP Gm j_Law_law 189 (ls) (.inl x :: st) h Q) = (WP Gm j_Law_law 191 (lSet1 ls 5 (some (.inl x))) (st) (h) Q) := (WP_at c_Law_law_189 _ _ _ _)
set_option maxRecDepth 100000 in
theorem c_Law_law_191 : mCode j_Law_law 191 = oAld 2 192 := (rfl)
theorem e_Law_law_191 (a0 a1 : Option MV) (x : Option Nat) : (WP Gm j_Law_law 191 (a0 :: a1 :: some (.inr (.inl x)) :: ls) (st) h Q) = (WP Gm j_Law_law 192 (a0 :: a1 :: some (.inr (.inl x)) :: ls) (.inr (.inl x) :: st) (h) Q) := (WP_at c_Law_law_191 _ _ _ _)
set_option maxRecDepth 100000 in
theorem c_Law_law_192 : mCode j_Law_law 192 = oAld 0 193 := (rfl)
theorem e_Law_law_192 (x : Option Nat) : (WP Gm j_Law_law 192 (some (.inr (.inl x)) :: ls) (st) h Q) = (WP Gm j_Law_law 193 (some (.inr (.inl x)) :: ls) (.inr (.inl x) :: st) (h) Q) := (WP_at c_Law_law_192 _ _ _ _)
set_option maxRecDepth 100000 in
theorem c_Law_law_193 : mCode j_Law_law 193 = oIld 4 195 := (rfl)
theorem e_Law_law_193 (a0 a1 a2 a3 : Option MV) (x : Int32) : (WP Gm j_Law_law 193 (a0 :: a1 :: a2 :: a3 :: some (.inl x) :: ls) (st) h Q) = (WP Gm j_Law_law 195 (a0 :: a1 :: a2 :: a3 :: some (.inl x) :: ls) (.inl x :: st) (h) Q) := (WP_at c_Law_law_193 _ _ _ _)
set_option maxRecDepth 100000 in
theorem c_Law_law_195 : mCode j_Law_law 195 = oI 1 196 := (rfl)
theorem e_Law_law_195  : (WP Gm j_Law_law 195 (ls) (st) h Q) = (WP Gm j_Law_law 196 (ls) (.inl 1 :: st) (h) Q) := (WP_at c_Law_law_195 _ _ _ _)
set_option maxRecDepth 100000 in
theorem c_Law_law_196 : mCode j_Law_law 196 = oII (fun x y => x + y) 197 := (rfl)
theorem e_Law_law_196 (x : Int32) (y : Int32) : (WP Gm j_Law_law 196 (ls) (.inl y :: .inl x :: st) h Q) = (WP Gm j_Law_law 197 (ls) (.inl (x + y) :: st) (h) Q) := (WP_at c_Law_law_196 _ _ _ _)
set_option maxRecDepth 100000 in
theorem c_Law_law_197 : mCode j_Law_law 197 = oIal 0 198 := (rfl)
theorem e_Law_law_197 (a : Nat) (i : Int32) (hk : isK h a 100 = true) (hi : inL h a i = true) : (WP Gm j_Law_law 197 (ls) (.inl i :: .inr (.inl (some a)) :: st) h Q) = (WP Gm j_Law_law 198 (ls) (.inl (gI h a i.toNatClampNeg) :: st) (h) Q) := (WP_at c_Law_law_197 _ _ _ _).trans (congrArg (fun o => ndX Gm (WP Gm) j_Law_law 197 o Q) (if_pos (by rw [hk, hi]; rfl)))
set_option maxRecDepth 100000 in
theorem c_Law_law_198 : mCode j_Law_law 198 = oAld 0 199 := (rfl)
theorem e_Law_law_198 (x : Option Nat) : (WP Gm j_Law_law 198 (some (.inr (.inl x)) :: ls) (st) h Q) = (WP Gm j_Law_law 199 (some (.inr (.inl x)) :: ls) (.inr (.inl x) :: st) (h) Q) := (WP_at c_Law_law_198 _ _ _ _)
set_option maxRecDepth 100000 in
theorem c_Law_law_199 : mCode j_Law_law 199 = oIld 4 201 := (rfl)
theorem e_Law_law_199 (a0 a1 a2 a3 : Option MV) (x : Int32) : (WP Gm j_Law_law 199 (a0 :: a1 :: a2 :: a3 :: some (.inl x) :: ls) (st) h Q) = (WP Gm j_Law_law 201 (a0 :: a1 :: a2 :: a3 :: some (.inl x) :: ls) (.inl x :: st) (h) Q) := (WP_at c_Law_law_199 _ _ _ _)
set_option maxRecDepth 100000 in
theorem c_Law_law_201 : mCode j_Law_law 201 = oI 2 202 := (rfl)
theorem e_Law_law_201  : (WP Gm j_Law_law 201 (ls) (st) h Q) = (WP Gm j_Law_law 202 (ls) (.inl 2 :: st) (h) Q) := (WP_at c_Law_law_201 _ _ _ _)
set_option maxRecDepth 100000 in
theorem c_Law_law_202 : mCode j_Law_law 202 = oII (fun x y => x + y) 203 := (rfl)
theorem e_Law_law_202 (x : Int32) (y : Int32) : (WP Gm j_Law_law 202 (ls) (.inl y :: .inl x :: st) h Q) = (WP Gm j_Law_law 203 (ls) (.inl (x + y) :: st) (h) Q) := (WP_at c_Law_law_202 _ _ _ _)
set_option maxRecDepth 100000 in
theorem c_Law_law_203 : mCode j_Law_law 203 = oIal 0 204 := (rfl)
theorem e_Law_law_203 (a : Nat) (i : Int32) (hk : isK h a 100 = true) (hi : inL h a i = true) : (WP Gm j_Law_law 203 (ls) (.inl i :: .inr (.inl (some a)) :: st) h Q) = (WP Gm j_Law_law 204 (ls) (.inl (gI h a i.toNatClampNeg) :: st) (h) Q) := (WP_at c_Law_law_203 _ _ _ _).trans (congrArg (fun o => ndX Gm (WP Gm) j_Law_law 203 o Q) (if_pos (by rw [hk, hi]; rfl)))
set_option maxRecDepth 100000 in
theorem c_Law_law_204 : mCode j_Law_law 204 = oAld 0 205 := (rfl)
theorem e_Law_law_204 (x : Option Nat) : (WP Gm j_Law_law 204 (some (.inr (.inl x)) :: ls) (st) h Q) = (WP Gm j_Law_law 205 (some (.inr (.inl x)) :: ls) (.inr (.inl x) :: st) (h) Q) := (WP_at c_Law_law_204 _ _ _ _)
set_option maxRecDepth 100000 in
theorem c_Law_law_205 : mCode j_Law_law 205 = oIld 4 207 := (rfl)
theorem e_Law_law_205 (a0 a1 a2 a3 : Option MV) (x : Int32) : (WP Gm j_Law_law 205 (a0 :: a1 :: a2 :: a3 :: some (.inl x) :: ls) (st) h Q) = (WP Gm j_Law_law 207 (a0 :: a1 :: a2 :: a3 :: some (.inl x) :: ls) (.inl x :: st) (h) Q) := (WP_at c_Law_law_205 _ _ _ _)
set_option maxRecDepth 100000 in
theorem c_Law_law_207 : mCode j_Law_law 207 = oI 3 208 := (rfl)
theorem e_Law_law_207  : (WP Gm j_Law_law 207 (ls) (st) h Q) = (WP Gm j_Law_law 208 (ls) (.inl 3 :: st) (h) Q) := (WP_at c_Law_law_207 _ _ _ _)
set_option maxRecDepth 100000 in
theorem c_Law_law_208 : mCode j_Law_law 208 = oII (fun x y => x + y) 209 := (rfl)
theorem e_Law_law_208 (x : Int32) (y : Int32) : (WP Gm j_Law_law 208 (ls) (.inl y :: .inl x :: st) h Q) = (WP Gm j_Law_law 209 (ls) (.inl (x + y) :: st) (h) Q) := (WP_at c_Law_law_208 _ _ _ _)
set_option maxRecDepth 100000 in
theorem c_Law_law_209 : mCode j_Law_law 209 = oIal 0 210 := (rfl)
theorem e_Law_law_209 (a : Nat) (i : Int32) (hk : isK h a 100 = true) (hi : inL h a i = true) : (WP Gm j_Law_law 209 (ls) (.inl i :: .inr (.inl (some a)) :: st) h Q) = (WP Gm j_Law_law 210 (ls) (.inl (gI h a i.toNatClampNeg) :: st) (h) Q) := (WP_at c_Law_law_209 _ _ _ _).trans (congrArg (fun o => ndX Gm (WP Gm) j_Law_law 209 o Q) (if_pos (by rw [hk, hi]; rfl)))
set_option maxRecDepth 100000 in
theorem c_Law_law_210 : mCode j_Law_law 210 = oAld 0 211 := (rfl)
theorem e_Law_law_210 (x : Option Nat) : (WP Gm j_Law_law 210 (some (.inr (.inl x)) :: ls) (st) h Q) = (WP Gm j_Law_law 211 (some (.inr (.inl x)) :: ls) (.inr (.inl x) :: st) (h) Q) := (WP_at c_Law_law_210 _ _ _ _)
set_option maxRecDepth 100000 in
theorem c_Law_law_211 : mCode j_Law_law 211 = oIld 4 213 := (rfl)
theorem e_Law_law_211 (a0 a1 a2 a3 : Option MV) (x : Int32) : (WP Gm j_Law_law 211 (a0 :: a1 :: a2 :: a3 :: some (.inl x) :: ls) (st) h Q) = (WP Gm j_Law_law 213 (a0 :: a1 :: a2 :: a3 :: some (.inl x) :: ls) (.inl x :: st) (h) Q) := (WP_at c_Law_law_211 _ _ _ _)
set_option maxRecDepth 100000 in
theorem c_Law_law_213 : mCode j_Law_law 213 = oI 4 214 := (rfl)
theorem e_Law_law_213  : (WP Gm j_Law_law 213 (ls) (st) h Q) = (WP Gm j_Law_law 214 (ls) (.inl 4 :: st) (h) Q) := (WP_at c_Law_law_213 _ _ _ _)
set_option maxRecDepth 100000 in
theorem c_Law_law_214 : mCode j_Law_law 214 = oII (fun x y => x + y) 215 := (rfl)
theorem e_Law_law_214 (x : Int32) (y : Int32) : (WP Gm j_Law_law 214 (ls) (.inl y :: .inl x :: st) h Q) = (WP Gm j_Law_law 215 (ls) (.inl (x + y) :: st) (h) Q) := (WP_at c_Law_law_214 _ _ _ _)
set_option maxRecDepth 100000 in
theorem c_Law_law_215 : mCode j_Law_law 215 = oIal 0 216 := (rfl)
theorem e_Law_law_215 (a : Nat) (i : Int32) (hk : isK h a 100 = true) (hi : inL h a i = true) : (WP Gm j_Law_law 215 (ls) (.inl i :: .inr (.inl (some a)) :: st) h Q) = (WP Gm j_Law_law 216 (ls) (.inl (gI h a i.toNatClampNeg) :: st) (h) Q) := (WP_at c_Law_law_215 _ _ _ _).trans (congrArg (fun o => ndX Gm (WP Gm) j_Law_law 215 o Q) (if_pos (by rw [hk, hi]; rfl)))
set_option maxRecDepth 100000 in
theorem c_Law_law_216 : mCode j_Law_law 216 = oIf (fun x => decide (x = 0)) 223 219 := (rfl)
theorem e_Law_law_216 (x : Int32) : (WP Gm j_Law_law 216 (ls) (.inl x :: st) h Q) = (if x = 0 then WP Gm j_Law_law 223 (ls) (st) (h) Q else WP Gm j_Law_law 219 (ls) (st) (h) Q) := (WP_at c_Law_law_216 _ _ _ _).trans (nd_if rfl _ _ _ _)
set_option maxRecDepth 100000 in
theorem c_Law_law_219 : mCode j_Law_law 219 = oI 1 220 := (rfl)
theorem e_Law_law_219  : (WP Gm j_Law_law 219 (ls) (st) h Q) = (WP Gm j_Law_law 220 (ls) (.inl 1 :: st) (h) Q) := (WP_at c_Law_law_219 _ _ _ _)
set_option maxRecDepth 100000 in
theorem c_Law_law_220 : mCode j_Law_law 220 = oGo 224 := (rfl)
theorem e_Law_law_220  : (WP Gm j_Law_law 220 (ls) (st) h Q) = (WP Gm j_Law_law 224 (ls) (st) (h) Q) := (WP_at c_Law_law_220 _ _ _ _)
set_option maxRecDepth 100000 in
theorem c_Law_law_223 : mCode j_Law_law 223 = oI 0 224 := (rfl)
theorem e_Law_law_223  : (WP Gm j_Law_law 223 (ls) (st) h Q) = (WP Gm j_Law_law 224 (ls) (.inl 0 :: st) (h) Q) := (WP_at c_Law_law_223 _ _ _ _)
set_option maxRecDepth 100000 in
theorem c_Law_law_224 : mCode j_Law_law 224 = oCallV kc_Mdl j_Mdl_node 4 (mL j_Mdl_node) 227 := (rfl)
theorem e_Law_law_224 (a : Nat) (x0 : Int32) (x1 : Int32) (x2 : Int32) (x3 : Int32) (hk : isK h a kc_Mdl = true) (hc : c8 st = true) : (WP Gm j_Law_law 224 (ls) (.inl x3 :: .inl x2 :: .inl x1 :: .inl x0 :: .inr (.inl (some a)) :: st) h Q) = (WP Gm j_Mdl_node 0 [some (.inr (.inl (some a))), some (.inl x0), some (.inl x1), some (.inl x2), some (.inl x3)] [] h (kC (fun v h2 => WP Gm j_Law_law 227 ls (v.toList ++ st) h2 Q) (fun E h2 => Q (.inr E) h2))) := (WP_at c_Law_law_224 _ _ _ _).trans (congrArg (fun o => ndX Gm (WP Gm) j_Law_law 224 o Q) (if_pos (by rw [hk, show decide (catS st ≤ 8) = true from hc]; rfl)))
set_option maxRecDepth 100000 in
theorem c_Law_law_227 : mCode j_Law_law 227 = oIst 6 229 := (rfl)
theorem e_Law_law_227 (x : Int32) : (WP Gm j_Law_law 227 (ls) (.inl x :: st) h Q) = (WP Gm j_Law_law 229 (lSet1 ls 6 (some (.inl x))) (st) (h) Q) := (WP_at c_Law_law_227 _ _ _ _)
set_option maxRecDepth 100000 in
theorem c_Law_law_229 : mCode j_Law_law 229 = oGo 996 := (rfl)
theorem e_Law_law_229  : (WP Gm j_Law_law 229 (ls) (st) h Q) = (WP Gm j_Law_law 996 (ls) (st) (h) Q) := (WP_at c_Law_law_229 _ _ _ _)
set_option maxRecDepth 100000 in
theorem c_Law_law_232 : mCode j_Law_law 232 = oAld 1 233 := (rfl)
theorem e_Law_law_232 (a0 : Option MV) (x : Option Nat) : (WP Gm j_Law_law 232 (a0 :: some (.inr (.inl x)) :: ls) (st) h Q) = (WP Gm j_Law_law 233 (a0 :: some (.inr (.inl x)) :: ls) (.inr (.inl x) :: st) (h) Q) := (WP_at c_Law_law_232 _ _ _ _)
set_option maxRecDepth 100000 in
theorem c_Law_law_233 : mCode j_Law_law 233 = oAld 0 234 := (rfl)
theorem e_Law_law_233 (x : Option Nat) : (WP Gm j_Law_law 233 (some (.inr (.inl x)) :: ls) (st) h Q) = (WP Gm j_Law_law 234 (some (.inr (.inl x)) :: ls) (.inr (.inl x) :: st) (h) Q) := (WP_at c_Law_law_233 _ _ _ _)
set_option maxRecDepth 100000 in
theorem c_Law_law_234 : mCode j_Law_law 234 = oIld 4 236 := (rfl)
theorem e_Law_law_234 (a0 a1 a2 a3 : Option MV) (x : Int32) : (WP Gm j_Law_law 234 (a0 :: a1 :: a2 :: a3 :: some (.inl x) :: ls) (st) h Q) = (WP Gm j_Law_law 236 (a0 :: a1 :: a2 :: a3 :: some (.inl x) :: ls) (.inl x :: st) (h) Q) := (WP_at c_Law_law_234 _ _ _ _)
set_option maxRecDepth 100000 in
theorem c_Law_law_236 : mCode j_Law_law 236 = oI 1 237 := (rfl)
theorem e_Law_law_236  : (WP Gm j_Law_law 236 (ls) (st) h Q) = (WP Gm j_Law_law 237 (ls) (.inl 1 :: st) (h) Q) := (WP_at c_Law_law_236 _ _ _ _)
set_option maxRecDepth 100000 in
theorem c_Law_law_237 : mCode j_Law_law 237 = oII (fun x y => x + y) 238 := (rfl)
theorem e_Law_law_237 (x : Int32) (y : Int32) : (WP Gm j_Law_law 237 (ls) (.inl y :: .inl x :: st) h Q) = (WP Gm j_Law_law 238 (ls) (.inl (x + y) :: st) (h) Q) := (WP_at c_Law_law_237 _ _ _ _)
set_option maxRecDepth 100000 in
theorem c_Law_law_238 : mCode j_Law_law 238 = oIal 0 239 := (rfl)
theorem e_Law_law_238 (a : Nat) (i : Int32) (hk : isK h a 100 = true) (hi : inL h a i = true) : (WP Gm j_Law_law 238 (ls) (.inl i :: .inr (.inl (some a)) :: st) h Q) = (WP Gm j_Law_law 239 (ls) (.inl (gI h a i.toNatClampNeg) :: st) (h) Q) := (WP_at c_Law_law_238 _ _ _ _).trans (congrArg (fun o => ndX Gm (WP Gm) j_Law_law 238 o Q) (if_pos (by rw [hk, hi]; rfl)))
set_option maxRecDepth 100000 in
theorem c_Law_law_239 : mCode j_Law_law 239 = oAld 0 240 := (rfl)
theorem e_Law_law_239 (x : Option Nat) : (WP Gm j_Law_law 239 (some (.inr (.inl x)) :: ls) (st) h Q) = (WP Gm j_Law_law 240 (some (.inr (.inl x)) :: ls) (.inr (.inl x) :: st) (h) Q) := (WP_at c_Law_law_239 _ _ _ _)
set_option maxRecDepth 100000 in
theorem c_Law_law_240 : mCode j_Law_law 240 = oIld 4 242 := (rfl)
theorem e_Law_law_240 (a0 a1 a2 a3 : Option MV) (x : Int32) : (WP Gm j_Law_law 240 (a0 :: a1 :: a2 :: a3 :: some (.inl x) :: ls) (st) h Q) = (WP Gm j_Law_law 242 (a0 :: a1 :: a2 :: a3 :: some (.inl x) :: ls) (.inl x :: st) (h) Q) := (WP_at c_Law_law_240 _ _ _ _)
set_option maxRecDepth 100000 in
theorem c_Law_law_242 : mCode j_Law_law 242 = oI 2 243 := (rfl)
theorem e_Law_law_242  : (WP Gm j_Law_law 242 (ls) (st) h Q) = (WP Gm j_Law_law 243 (ls) (.inl 2 :: st) (h) Q) := (WP_at c_Law_law_242 _ _ _ _)
set_option maxRecDepth 100000 in
theorem c_Law_law_243 : mCode j_Law_law 243 = oII (fun x y => x + y) 244 := (rfl)
theorem e_Law_law_243 (x : Int32) (y : Int32) : (WP Gm j_Law_law 243 (ls) (.inl y :: .inl x :: st) h Q) = (WP Gm j_Law_law 244 (ls) (.inl (x + y) :: st) (h) Q) := (WP_at c_Law_law_243 _ _ _ _)
set_option maxRecDepth 100000 in
theorem c_Law_law_244 : mCode j_Law_law 244 = oIal 0 245 := (rfl)
theorem e_Law_law_244 (a : Nat) (i : Int32) (hk : isK h a 100 = true) (hi : inL h a i = true) : (WP Gm j_Law_law 244 (ls) (.inl i :: .inr (.inl (some a)) :: st) h Q) = (WP Gm j_Law_law 245 (ls) (.inl (gI h a i.toNatClampNeg) :: st) (h) Q) := (WP_at c_Law_law_244 _ _ _ _).trans (congrArg (fun o => ndX Gm (WP Gm) j_Law_law 244 o Q) (if_pos (by rw [hk, hi]; rfl)))
set_option maxRecDepth 100000 in
theorem c_Law_law_245 : mCode j_Law_law 245 = oAld 0 246 := (rfl)
theorem e_Law_law_245 (x : Option Nat) : (WP Gm j_Law_law 245 (some (.inr (.inl x)) :: ls) (st) h Q) = (WP Gm j_Law_law 246 (some (.inr (.inl x)) :: ls) (.inr (.inl x) :: st) (h) Q) := (WP_at c_Law_law_245 _ _ _ _)
set_option maxRecDepth 100000 in
theorem c_Law_law_246 : mCode j_Law_law 246 = oIld 4 248 := (rfl)
theorem e_Law_law_246 (a0 a1 a2 a3 : Option MV) (x : Int32) : (WP Gm j_Law_law 246 (a0 :: a1 :: a2 :: a3 :: some (.inl x) :: ls) (st) h Q) = (WP Gm j_Law_law 248 (a0 :: a1 :: a2 :: a3 :: some (.inl x) :: ls) (.inl x :: st) (h) Q) := (WP_at c_Law_law_246 _ _ _ _)
set_option maxRecDepth 100000 in
theorem c_Law_law_248 : mCode j_Law_law 248 = oI 3 249 := (rfl)
theorem e_Law_law_248  : (WP Gm j_Law_law 248 (ls) (st) h Q) = (WP Gm j_Law_law 249 (ls) (.inl 3 :: st) (h) Q) := (WP_at c_Law_law_248 _ _ _ _)
set_option maxRecDepth 100000 in
theorem c_Law_law_249 : mCode j_Law_law 249 = oII (fun x y => x + y) 250 := (rfl)
theorem e_Law_law_249 (x : Int32) (y : Int32) : (WP Gm j_Law_law 249 (ls) (.inl y :: .inl x :: st) h Q) = (WP Gm j_Law_law 250 (ls) (.inl (x + y) :: st) (h) Q) := (WP_at c_Law_law_249 _ _ _ _)
set_option maxRecDepth 100000 in
theorem c_Law_law_250 : mCode j_Law_law 250 = oIal 0 251 := (rfl)
theorem e_Law_law_250 (a : Nat) (i : Int32) (hk : isK h a 100 = true) (hi : inL h a i = true) : (WP Gm j_Law_law 250 (ls) (.inl i :: .inr (.inl (some a)) :: st) h Q) = (WP Gm j_Law_law 251 (ls) (.inl (gI h a i.toNatClampNeg) :: st) (h) Q) := (WP_at c_Law_law_250 _ _ _ _).trans (congrArg (fun o => ndX Gm (WP Gm) j_Law_law 250 o Q) (if_pos (by rw [hk, hi]; rfl)))
set_option maxRecDepth 100000 in
theorem c_Law_law_251 : mCode j_Law_law 251 = oAld 3 252 := (rfl)
theorem e_Law_law_251 (a0 a1 a2 : Option MV) (x : Option Nat) : (WP Gm j_Law_law 251 (a0 :: a1 :: a2 :: some (.inr (.inl x)) :: ls) (st) h Q) = (WP Gm j_Law_law 252 (a0 :: a1 :: a2 :: some (.inr (.inl x)) :: ls) (.inr (.inl x) :: st) (h) Q) := (WP_at c_Law_law_251 _ _ _ _)
set_option maxRecDepth 100000 in
theorem c_Law_law_252 : mCode j_Law_law 252 = oCallS j_Law_move 5 (mL j_Law_move) 255 := (rfl)
theorem e_Law_law_252 (x0 : Option Nat) (x1 : Int32) (x2 : Int32) (x3 : Int32) (x4 : Option Nat) (hc : c8 st = true) : (WP Gm j_Law_law 252 (ls) (.inr (.inl x4) :: .inl x3 :: .inl x2 :: .inl x1 :: .inr (.inl x0) :: st) h Q) = (WP Gm j_Law_move 0 [some (.inr (.inl x0)), some (.inl x1), some (.inl x2), some (.inl x3), some (.inr (.inl x4)), none] [] h (kC (fun v h2 => WP Gm j_Law_law 255 ls (v.toList ++ st) h2 Q) (fun E h2 => Q (.inr E) h2))) := (WP_at c_Law_law_252 _ _ _ _).trans (congrArg (fun o => ndX Gm (WP Gm) j_Law_law 252 o Q) (if_pos (by rw [show decide (catS st ≤ 8) = true from hc]; rfl)))
set_option maxRecDepth 100000 in
theorem c_Law_law_255 : mCode j_Law_law 255 = oIst 5 257 := (rfl)
theorem e_Law_law_255 (x : Int32) : (WP Gm j_Law_law 255 (ls) (.inl x :: st) h Q) = (WP Gm j_Law_law 257 (lSet1 ls 5 (some (.inl x))) (st) (h) Q) := (WP_at c_Law_law_255 _ _ _ _)
set_option maxRecDepth 100000 in
theorem c_Law_law_257 : mCode j_Law_law 257 = oAld 2 258 := (rfl)
theorem e_Law_law_257 (a0 a1 : Option MV) (x : Option Nat) : (WP Gm j_Law_law 257 (a0 :: a1 :: some (.inr (.inl x)) :: ls) (st) h Q) = (WP Gm j_Law_law 258 (a0 :: a1 :: some (.inr (.inl x)) :: ls) (.inr (.inl x) :: st) (h) Q) := (WP_at c_Law_law_257 _ _ _ _)
set_option maxRecDepth 100000 in
theorem c_Law_law_258 : mCode j_Law_law 258 = oAld 0 259 := (rfl)
theorem e_Law_law_258 (x : Option Nat) : (WP Gm j_Law_law 258 (some (.inr (.inl x)) :: ls) (st) h Q) = (WP Gm j_Law_law 259 (some (.inr (.inl x)) :: ls) (.inr (.inl x) :: st) (h) Q) := (WP_at c_Law_law_258 _ _ _ _)
set_option maxRecDepth 100000 in
theorem c_Law_law_259 : mCode j_Law_law 259 = oIld 4 261 := (rfl)
theorem e_Law_law_259 (a0 a1 a2 a3 : Option MV) (x : Int32) : (WP Gm j_Law_law 259 (a0 :: a1 :: a2 :: a3 :: some (.inl x) :: ls) (st) h Q) = (WP Gm j_Law_law 261 (a0 :: a1 :: a2 :: a3 :: some (.inl x) :: ls) (.inl x :: st) (h) Q) := (WP_at c_Law_law_259 _ _ _ _)
set_option maxRecDepth 100000 in
theorem c_Law_law_261 : mCode j_Law_law 261 = oI 1 262 := (rfl)
theorem e_Law_law_261  : (WP Gm j_Law_law 261 (ls) (st) h Q) = (WP Gm j_Law_law 262 (ls) (.inl 1 :: st) (h) Q) := (WP_at c_Law_law_261 _ _ _ _)
set_option maxRecDepth 100000 in
theorem c_Law_law_262 : mCode j_Law_law 262 = oII (fun x y => x + y) 263 := (rfl)
theorem e_Law_law_262 (x : Int32) (y : Int32) : (WP Gm j_Law_law 262 (ls) (.inl y :: .inl x :: st) h Q) = (WP Gm j_Law_law 263 (ls) (.inl (x + y) :: st) (h) Q) := (WP_at c_Law_law_262 _ _ _ _)
set_option maxRecDepth 100000 in
theorem c_Law_law_263 : mCode j_Law_law 263 = oIal 0 264 := (rfl)
theorem e_Law_law_263 (a : Nat) (i : Int32) (hk : isK h a 100 = true) (hi : inL h a i = true) : (WP Gm j_Law_law 263 (ls) (.inl i :: .inr (.inl (some a)) :: st) h Q) = (WP Gm j_Law_law 264 (ls) (.inl (gI h a i.toNatClampNeg) :: st) (h) Q) := (WP_at c_Law_law_263 _ _ _ _).trans (congrArg (fun o => ndX Gm (WP Gm) j_Law_law 263 o Q) (if_pos (by rw [hk, hi]; rfl)))
set_option maxRecDepth 100000 in
theorem c_Law_law_264 : mCode j_Law_law 264 = oAld 0 265 := (rfl)
theorem e_Law_law_264 (x : Option Nat) : (WP Gm j_Law_law 264 (some (.inr (.inl x)) :: ls) (st) h Q) = (WP Gm j_Law_law 265 (some (.inr (.inl x)) :: ls) (.inr (.inl x) :: st) (h) Q) := (WP_at c_Law_law_264 _ _ _ _)
set_option maxRecDepth 100000 in
theorem c_Law_law_265 : mCode j_Law_law 265 = oIld 4 267 := (rfl)
theorem e_Law_law_265 (a0 a1 a2 a3 : Option MV) (x : Int32) : (WP Gm j_Law_law 265 (a0 :: a1 :: a2 :: a3 :: some (.inl x) :: ls) (st) h Q) = (WP Gm j_Law_law 267 (a0 :: a1 :: a2 :: a3 :: some (.inl x) :: ls) (.inl x :: st) (h) Q) := (WP_at c_Law_law_265 _ _ _ _)
set_option maxRecDepth 100000 in
theorem c_Law_law_267 : mCode j_Law_law 267 = oI 2 268 := (rfl)
theorem e_Law_law_267  : (WP Gm j_Law_law 267 (ls) (st) h Q) = (WP Gm j_Law_law 268 (ls) (.inl 2 :: st) (h) Q) := (WP_at c_Law_law_267 _ _ _ _)
set_option maxRecDepth 100000 in
theorem c_Law_law_268 : mCode j_Law_law 268 = oII (fun x y => x + y) 269 := (rfl)
theorem e_Law_law_268 (x : Int32) (y : Int32) : (WP Gm j_Law_law 268 (ls) (.inl y :: .inl x :: st) h Q) = (WP Gm j_Law_law 269 (ls) (.inl (x + y) :: st) (h) Q) := (WP_at c_Law_law_268 _ _ _ _)
set_option maxRecDepth 100000 in
theorem c_Law_law_269 : mCode j_Law_law 269 = oIal 0 270 := (rfl)
theorem e_Law_law_269 (a : Nat) (i : Int32) (hk : isK h a 100 = true) (hi : inL h a i = true) : (WP Gm j_Law_law 269 (ls) (.inl i :: .inr (.inl (some a)) :: st) h Q) = (WP Gm j_Law_law 270 (ls) (.inl (gI h a i.toNatClampNeg) :: st) (h) Q) := (WP_at c_Law_law_269 _ _ _ _).trans (congrArg (fun o => ndX Gm (WP Gm) j_Law_law 269 o Q) (if_pos (by rw [hk, hi]; rfl)))
set_option maxRecDepth 100000 in
theorem c_Law_law_270 : mCode j_Law_law 270 = oAld 0 271 := (rfl)
theorem e_Law_law_270 (x : Option Nat) : (WP Gm j_Law_law 270 (some (.inr (.inl x)) :: ls) (st) h Q) = (WP Gm j_Law_law 271 (some (.inr (.inl x)) :: ls) (.inr (.inl x) :: st) (h) Q) := (WP_at c_Law_law_270 _ _ _ _)
set_option maxRecDepth 100000 in
theorem c_Law_law_271 : mCode j_Law_law 271 = oIld 4 273 := (rfl)
theorem e_Law_law_271 (a0 a1 a2 a3 : Option MV) (x : Int32) : (WP Gm j_Law_law 271 (a0 :: a1 :: a2 :: a3 :: some (.inl x) :: ls) (st) h Q) = (WP Gm j_Law_law 273 (a0 :: a1 :: a2 :: a3 :: some (.inl x) :: ls) (.inl x :: st) (h) Q) := (WP_at c_Law_law_271 _ _ _ _)
set_option maxRecDepth 100000 in
theorem c_Law_law_273 : mCode j_Law_law 273 = oI 3 274 := (rfl)
theorem e_Law_law_273  : (WP Gm j_Law_law 273 (ls) (st) h Q) = (WP Gm j_Law_law 274 (ls) (.inl 3 :: st) (h) Q) := (WP_at c_Law_law_273 _ _ _ _)
set_option maxRecDepth 100000 in
theorem c_Law_law_274 : mCode j_Law_law 274 = oII (fun x y => x + y) 275 := (rfl)
theorem e_Law_law_274 (x : Int32) (y : Int32) : (WP Gm j_Law_law 274 (ls) (.inl y :: .inl x :: st) h Q) = (WP Gm j_Law_law 275 (ls) (.inl (x + y) :: st) (h) Q) := (WP_at c_Law_law_274 _ _ _ _)
set_option maxRecDepth 100000 in
theorem c_Law_law_275 : mCode j_Law_law 275 = oIal 0 276 := (rfl)
theorem e_Law_law_275 (a : Nat) (i : Int32) (hk : isK h a 100 = true) (hi : inL h a i = true) : (WP Gm j_Law_law 275 (ls) (.inl i :: .inr (.inl (some a)) :: st) h Q) = (WP Gm j_Law_law 276 (ls) (.inl (gI h a i.toNatClampNeg) :: st) (h) Q) := (WP_at c_Law_law_275 _ _ _ _).trans (congrArg (fun o => ndX Gm (WP Gm) j_Law_law 275 o Q) (if_pos (by rw [hk, hi]; rfl)))
set_option maxRecDepth 100000 in
theorem c_Law_law_276 : mCode j_Law_law 276 = oCallV kc_Mdl j_Mdl_move 3 (mL j_Mdl_move) 279 := (rfl)
theorem e_Law_law_276 (a : Nat) (x0 : Int32) (x1 : Int32) (x2 : Int32) (hk : isK h a kc_Mdl = true) (hc : c8 st = true) : (WP Gm j_Law_law 276 (ls) (.inl x2 :: .inl x1 :: .inl x0 :: .inr (.inl (some a)) :: st) h Q) = (WP Gm j_Mdl_move 0 [some (.inr (.inl (some a))), some (.inl x0), some (.inl x1), some (.inl x2)] [] h (kC (fun v h2 => WP Gm j_Law_law 279 ls (v.toList ++ st) h2 Q) (fun E h2 => Q (.inr E) h2))) := (WP_at c_Law_law_276 _ _ _ _).trans (congrArg (fun o => ndX Gm (WP Gm) j_Law_law 276 o Q) (if_pos (by rw [hk, show decide (catS st ≤ 8) = true from hc]; rfl)))
set_option maxRecDepth 100000 in
theorem c_Law_law_279 : mCode j_Law_law 279 = oIst 6 281 := (rfl)
theorem e_Law_law_279 (x : Int32) : (WP Gm j_Law_law 279 (ls) (.inl x :: st) h Q) = (WP Gm j_Law_law 281 (lSet1 ls 6 (some (.inl x))) (st) (h) Q) := (WP_at c_Law_law_279 _ _ _ _)
set_option maxRecDepth 100000 in
theorem c_Law_law_281 : mCode j_Law_law 281 = oGo 996 := (rfl)
theorem e_Law_law_281  : (WP Gm j_Law_law 281 (ls) (st) h Q) = (WP Gm j_Law_law 996 (ls) (st) (h) Q) := (WP_at c_Law_law_281 _ _ _ _)
set_option maxRecDepth 100000 in
theorem c_Law_law_284 : mCode j_Law_law 284 = oAld 1 285 := (rfl)
theorem e_Law_law_284 (a0 : Option MV) (x : Option Nat) : (WP Gm j_Law_law 284 (a0 :: some (.inr (.inl x)) :: ls) (st) h Q) = (WP Gm j_Law_law 285 (a0 :: some (.inr (.inl x)) :: ls) (.inr (.inl x) :: st) (h) Q) := (WP_at c_Law_law_284 _ _ _ _)
set_option maxRecDepth 100000 in
theorem c_Law_law_285 : mCode j_Law_law 285 = oAld 0 286 := (rfl)
theorem e_Law_law_285 (x : Option Nat) : (WP Gm j_Law_law 285 (some (.inr (.inl x)) :: ls) (st) h Q) = (WP Gm j_Law_law 286 (some (.inr (.inl x)) :: ls) (.inr (.inl x) :: st) (h) Q) := (WP_at c_Law_law_285 _ _ _ _)
set_option maxRecDepth 100000 in
theorem c_Law_law_286 : mCode j_Law_law 286 = oIld 4 288 := (rfl)
theorem e_Law_law_286 (a0 a1 a2 a3 : Option MV) (x : Int32) : (WP Gm j_Law_law 286 (a0 :: a1 :: a2 :: a3 :: some (.inl x) :: ls) (st) h Q) = (WP Gm j_Law_law 288 (a0 :: a1 :: a2 :: a3 :: some (.inl x) :: ls) (.inl x :: st) (h) Q) := (WP_at c_Law_law_286 _ _ _ _)
set_option maxRecDepth 100000 in
theorem c_Law_law_288 : mCode j_Law_law 288 = oI 1 289 := (rfl)
theorem e_Law_law_288  : (WP Gm j_Law_law 288 (ls) (st) h Q) = (WP Gm j_Law_law 289 (ls) (.inl 1 :: st) (h) Q) := (WP_at c_Law_law_288 _ _ _ _)
set_option maxRecDepth 100000 in
theorem c_Law_law_289 : mCode j_Law_law 289 = oII (fun x y => x + y) 290 := (rfl)
theorem e_Law_law_289 (x : Int32) (y : Int32) : (WP Gm j_Law_law 289 (ls) (.inl y :: .inl x :: st) h Q) = (WP Gm j_Law_law 290 (ls) (.inl (x + y) :: st) (h) Q) := (WP_at c_Law_law_289 _ _ _ _)
set_option maxRecDepth 100000 in
theorem c_Law_law_290 : mCode j_Law_law 290 = oIal 0 291 := (rfl)
theorem e_Law_law_290 (a : Nat) (i : Int32) (hk : isK h a 100 = true) (hi : inL h a i = true) : (WP Gm j_Law_law 290 (ls) (.inl i :: .inr (.inl (some a)) :: st) h Q) = (WP Gm j_Law_law 291 (ls) (.inl (gI h a i.toNatClampNeg) :: st) (h) Q) := (WP_at c_Law_law_290 _ _ _ _).trans (congrArg (fun o => ndX Gm (WP Gm) j_Law_law 290 o Q) (if_pos (by rw [hk, hi]; rfl)))
set_option maxRecDepth 100000 in
theorem c_Law_law_291 : mCode j_Law_law 291 = oAld 0 292 := (rfl)
theorem e_Law_law_291 (x : Option Nat) : (WP Gm j_Law_law 291 (some (.inr (.inl x)) :: ls) (st) h Q) = (WP Gm j_Law_law 292 (some (.inr (.inl x)) :: ls) (.inr (.inl x) :: st) (h) Q) := (WP_at c_Law_law_291 _ _ _ _)
set_option maxRecDepth 100000 in
theorem c_Law_law_292 : mCode j_Law_law 292 = oIld 4 294 := (rfl)
theorem e_Law_law_292 (a0 a1 a2 a3 : Option MV) (x : Int32) : (WP Gm j_Law_law 292 (a0 :: a1 :: a2 :: a3 :: some (.inl x) :: ls) (st) h Q) = (WP Gm j_Law_law 294 (a0 :: a1 :: a2 :: a3 :: some (.inl x) :: ls) (.inl x :: st) (h) Q) := (WP_at c_Law_law_292 _ _ _ _)
set_option maxRecDepth 100000 in
theorem c_Law_law_294 : mCode j_Law_law 294 = oI 2 295 := (rfl)
theorem e_Law_law_294  : (WP Gm j_Law_law 294 (ls) (st) h Q) = (WP Gm j_Law_law 295 (ls) (.inl 2 :: st) (h) Q) := (WP_at c_Law_law_294 _ _ _ _)
set_option maxRecDepth 100000 in
theorem c_Law_law_295 : mCode j_Law_law 295 = oII (fun x y => x + y) 296 := (rfl)
theorem e_Law_law_295 (x : Int32) (y : Int32) : (WP Gm j_Law_law 295 (ls) (.inl y :: .inl x :: st) h Q) = (WP Gm j_Law_law 296 (ls) (.inl (x + y) :: st) (h) Q) := (WP_at c_Law_law_295 _ _ _ _)
set_option maxRecDepth 100000 in
theorem c_Law_law_296 : mCode j_Law_law 296 = oIal 0 297 := (rfl)
theorem e_Law_law_296 (a : Nat) (i : Int32) (hk : isK h a 100 = true) (hi : inL h a i = true) : (WP Gm j_Law_law 296 (ls) (.inl i :: .inr (.inl (some a)) :: st) h Q) = (WP Gm j_Law_law 297 (ls) (.inl (gI h a i.toNatClampNeg) :: st) (h) Q) := (WP_at c_Law_law_296 _ _ _ _).trans (congrArg (fun o => ndX Gm (WP Gm) j_Law_law 296 o Q) (if_pos (by rw [hk, hi]; rfl)))
set_option maxRecDepth 100000 in
theorem c_Law_law_297 : mCode j_Law_law 297 = oAld 0 298 := (rfl)
theorem e_Law_law_297 (x : Option Nat) : (WP Gm j_Law_law 297 (some (.inr (.inl x)) :: ls) (st) h Q) = (WP Gm j_Law_law 298 (some (.inr (.inl x)) :: ls) (.inr (.inl x) :: st) (h) Q) := (WP_at c_Law_law_297 _ _ _ _)
set_option maxRecDepth 100000 in
theorem c_Law_law_298 : mCode j_Law_law 298 = oIld 4 300 := (rfl)
theorem e_Law_law_298 (a0 a1 a2 a3 : Option MV) (x : Int32) : (WP Gm j_Law_law 298 (a0 :: a1 :: a2 :: a3 :: some (.inl x) :: ls) (st) h Q) = (WP Gm j_Law_law 300 (a0 :: a1 :: a2 :: a3 :: some (.inl x) :: ls) (.inl x :: st) (h) Q) := (WP_at c_Law_law_298 _ _ _ _)
set_option maxRecDepth 100000 in
theorem c_Law_law_300 : mCode j_Law_law 300 = oI 3 301 := (rfl)
theorem e_Law_law_300  : (WP Gm j_Law_law 300 (ls) (st) h Q) = (WP Gm j_Law_law 301 (ls) (.inl 3 :: st) (h) Q) := (WP_at c_Law_law_300 _ _ _ _)
set_option maxRecDepth 100000 in
theorem c_Law_law_301 : mCode j_Law_law 301 = oII (fun x y => x + y) 302 := (rfl)
theorem e_Law_law_301 (x : Int32) (y : Int32) : (WP Gm j_Law_law 301 (ls) (.inl y :: .inl x :: st) h Q) = (WP Gm j_Law_law 302 (ls) (.inl (x + y) :: st) (h) Q) := (WP_at c_Law_law_301 _ _ _ _)
set_option maxRecDepth 100000 in
theorem c_Law_law_302 : mCode j_Law_law 302 = oIal 0 303 := (rfl)
theorem e_Law_law_302 (a : Nat) (i : Int32) (hk : isK h a 100 = true) (hi : inL h a i = true) : (WP Gm j_Law_law 302 (ls) (.inl i :: .inr (.inl (some a)) :: st) h Q) = (WP Gm j_Law_law 303 (ls) (.inl (gI h a i.toNatClampNeg) :: st) (h) Q) := (WP_at c_Law_law_302 _ _ _ _).trans (congrArg (fun o => ndX Gm (WP Gm) j_Law_law 302 o Q) (if_pos (by rw [hk, hi]; rfl)))
set_option maxRecDepth 100000 in
theorem c_Law_law_303 : mCode j_Law_law 303 = oIf (fun x => decide (x = 0)) 310 306 := (rfl)
theorem e_Law_law_303 (x : Int32) : (WP Gm j_Law_law 303 (ls) (.inl x :: st) h Q) = (if x = 0 then WP Gm j_Law_law 310 (ls) (st) (h) Q else WP Gm j_Law_law 306 (ls) (st) (h) Q) := (WP_at c_Law_law_303 _ _ _ _).trans (nd_if rfl _ _ _ _)
set_option maxRecDepth 100000 in
theorem c_Law_law_306 : mCode j_Law_law 306 = oI 1 307 := (rfl)
theorem e_Law_law_306  : (WP Gm j_Law_law 306 (ls) (st) h Q) = (WP Gm j_Law_law 307 (ls) (.inl 1 :: st) (h) Q) := (WP_at c_Law_law_306 _ _ _ _)
set_option maxRecDepth 100000 in
theorem c_Law_law_307 : mCode j_Law_law 307 = oGo 311 := (rfl)
theorem e_Law_law_307  : (WP Gm j_Law_law 307 (ls) (st) h Q) = (WP Gm j_Law_law 311 (ls) (st) (h) Q) := (WP_at c_Law_law_307 _ _ _ _)
set_option maxRecDepth 100000 in
theorem c_Law_law_310 : mCode j_Law_law 310 = oI 0 311 := (rfl)
theorem e_Law_law_310  : (WP Gm j_Law_law 310 (ls) (st) h Q) = (WP Gm j_Law_law 311 (ls) (.inl 0 :: st) (h) Q) := (WP_at c_Law_law_310 _ _ _ _)
set_option maxRecDepth 100000 in
theorem c_Law_law_311 : mCode j_Law_law 311 = oAld 3 312 := (rfl)
theorem e_Law_law_311 (a0 a1 a2 : Option MV) (x : Option Nat) : (WP Gm j_Law_law 311 (a0 :: a1 :: a2 :: some (.inr (.inl x)) :: ls) (st) h Q) = (WP Gm j_Law_law 312 (a0 :: a1 :: a2 :: some (.inr (.inl x)) :: ls) (.inr (.inl x) :: st) (h) Q) := (WP_at c_Law_law_311 _ _ _ _)
set_option maxRecDepth 100000 in
theorem c_Law_law_312 : mCode j_Law_law 312 = oCallS j_Law_tune 5 (mL j_Law_tune) 315 := (rfl)
theorem e_Law_law_312 (x0 : Option Nat) (x1 : Int32) (x2 : Int32) (x3 : Int32) (x4 : Option Nat) (hc : c8 st = true) : (WP Gm j_Law_law 312 (ls) (.inr (.inl x4) :: .inl x3 :: .inl x2 :: .inl x1 :: .inr (.inl x0) :: st) h Q) = (WP Gm j_Law_tune 0 [some (.inr (.inl x0)), some (.inl x1), some (.inl x2), some (.inl x3), some (.inr (.inl x4)), none] [] h (kC (fun v h2 => WP Gm j_Law_law 315 ls (v.toList ++ st) h2 Q) (fun E h2 => Q (.inr E) h2))) := (WP_at c_Law_law_312 _ _ _ _).trans (congrArg (fun o => ndX Gm (WP Gm) j_Law_law 312 o Q) (if_pos (by rw [show decide (catS st ≤ 8) = true from hc]; rfl)))
set_option maxRecDepth 100000 in
theorem c_Law_law_315 : mCode j_Law_law 315 = oIst 5 317 := (rfl)
theorem e_Law_law_315 (x : Int32) : (WP Gm j_Law_law 315 (ls) (.inl x :: st) h Q) = (WP Gm j_Law_law 317 (lSet1 ls 5 (some (.inl x))) (st) (h) Q) := (WP_at c_Law_law_315 _ _ _ _)
set_option maxRecDepth 100000 in
theorem c_Law_law_317 : mCode j_Law_law 317 = oAld 2 318 := (rfl)
theorem e_Law_law_317 (a0 a1 : Option MV) (x : Option Nat) : (WP Gm j_Law_law 317 (a0 :: a1 :: some (.inr (.inl x)) :: ls) (st) h Q) = (WP Gm j_Law_law 318 (a0 :: a1 :: some (.inr (.inl x)) :: ls) (.inr (.inl x) :: st) (h) Q) := (WP_at c_Law_law_317 _ _ _ _)
set_option maxRecDepth 100000 in
theorem c_Law_law_318 : mCode j_Law_law 318 = oAld 0 319 := (rfl)
theorem e_Law_law_318 (x : Option Nat) : (WP Gm j_Law_law 318 (some (.inr (.inl x)) :: ls) (st) h Q) = (WP Gm j_Law_law 319 (some (.inr (.inl x)) :: ls) (.inr (.inl x) :: st) (h) Q) := (WP_at c_Law_law_318 _ _ _ _)
set_option maxRecDepth 100000 in
theorem c_Law_law_319 : mCode j_Law_law 319 = oIld 4 321 := (rfl)
theorem e_Law_law_319 (a0 a1 a2 a3 : Option MV) (x : Int32) : (WP Gm j_Law_law 319 (a0 :: a1 :: a2 :: a3 :: some (.inl x) :: ls) (st) h Q) = (WP Gm j_Law_law 321 (a0 :: a1 :: a2 :: a3 :: some (.inl x) :: ls) (.inl x :: st) (h) Q) := (WP_at c_Law_law_319 _ _ _ _)
set_option maxRecDepth 100000 in
theorem c_Law_law_321 : mCode j_Law_law 321 = oI 1 322 := (rfl)
theorem e_Law_law_321  : (WP Gm j_Law_law 321 (ls) (st) h Q) = (WP Gm j_Law_law 322 (ls) (.inl 1 :: st) (h) Q) := (WP_at c_Law_law_321 _ _ _ _)
set_option maxRecDepth 100000 in
theorem c_Law_law_322 : mCode j_Law_law 322 = oII (fun x y => x + y) 323 := (rfl)
theorem e_Law_law_322 (x : Int32) (y : Int32) : (WP Gm j_Law_law 322 (ls) (.inl y :: .inl x :: st) h Q) = (WP Gm j_Law_law 323 (ls) (.inl (x + y) :: st) (h) Q) := (WP_at c_Law_law_322 _ _ _ _)
set_option maxRecDepth 100000 in
theorem c_Law_law_323 : mCode j_Law_law 323 = oIal 0 324 := (rfl)
theorem e_Law_law_323 (a : Nat) (i : Int32) (hk : isK h a 100 = true) (hi : inL h a i = true) : (WP Gm j_Law_law 323 (ls) (.inl i :: .inr (.inl (some a)) :: st) h Q) = (WP Gm j_Law_law 324 (ls) (.inl (gI h a i.toNatClampNeg) :: st) (h) Q) := (WP_at c_Law_law_323 _ _ _ _).trans (congrArg (fun o => ndX Gm (WP Gm) j_Law_law 323 o Q) (if_pos (by rw [hk, hi]; rfl)))
set_option maxRecDepth 100000 in
theorem c_Law_law_324 : mCode j_Law_law 324 = oAld 0 325 := (rfl)
theorem e_Law_law_324 (x : Option Nat) : (WP Gm j_Law_law 324 (some (.inr (.inl x)) :: ls) (st) h Q) = (WP Gm j_Law_law 325 (some (.inr (.inl x)) :: ls) (.inr (.inl x) :: st) (h) Q) := (WP_at c_Law_law_324 _ _ _ _)
set_option maxRecDepth 100000 in
theorem c_Law_law_325 : mCode j_Law_law 325 = oIld 4 327 := (rfl)
theorem e_Law_law_325 (a0 a1 a2 a3 : Option MV) (x : Int32) : (WP Gm j_Law_law 325 (a0 :: a1 :: a2 :: a3 :: some (.inl x) :: ls) (st) h Q) = (WP Gm j_Law_law 327 (a0 :: a1 :: a2 :: a3 :: some (.inl x) :: ls) (.inl x :: st) (h) Q) := (WP_at c_Law_law_325 _ _ _ _)
set_option maxRecDepth 100000 in
theorem c_Law_law_327 : mCode j_Law_law 327 = oI 2 328 := (rfl)
theorem e_Law_law_327  : (WP Gm j_Law_law 327 (ls) (st) h Q) = (WP Gm j_Law_law 328 (ls) (.inl 2 :: st) (h) Q) := (WP_at c_Law_law_327 _ _ _ _)
set_option maxRecDepth 100000 in
theorem c_Law_law_328 : mCode j_Law_law 328 = oII (fun x y => x + y) 329 := (rfl)
theorem e_Law_law_328 (x : Int32) (y : Int32) : (WP Gm j_Law_law 328 (ls) (.inl y :: .inl x :: st) h Q) = (WP Gm j_Law_law 329 (ls) (.inl (x + y) :: st) (h) Q) := (WP_at c_Law_law_328 _ _ _ _)
set_option maxRecDepth 100000 in
theorem c_Law_law_329 : mCode j_Law_law 329 = oIal 0 330 := (rfl)
theorem e_Law_law_329 (a : Nat) (i : Int32) (hk : isK h a 100 = true) (hi : inL h a i = true) : (WP Gm j_Law_law 329 (ls) (.inl i :: .inr (.inl (some a)) :: st) h Q) = (WP Gm j_Law_law 330 (ls) (.inl (gI h a i.toNatClampNeg) :: st) (h) Q) := (WP_at c_Law_law_329 _ _ _ _).trans (congrArg (fun o => ndX Gm (WP Gm) j_Law_law 329 o Q) (if_pos (by rw [hk, hi]; rfl)))
set_option maxRecDepth 100000 in
theorem c_Law_law_330 : mCode j_Law_law 330 = oAld 0 331 := (rfl)
theorem e_Law_law_330 (x : Option Nat) : (WP Gm j_Law_law 330 (some (.inr (.inl x)) :: ls) (st) h Q) = (WP Gm j_Law_law 331 (some (.inr (.inl x)) :: ls) (.inr (.inl x) :: st) (h) Q) := (WP_at c_Law_law_330 _ _ _ _)
set_option maxRecDepth 100000 in
theorem c_Law_law_331 : mCode j_Law_law 331 = oIld 4 333 := (rfl)
theorem e_Law_law_331 (a0 a1 a2 a3 : Option MV) (x : Int32) : (WP Gm j_Law_law 331 (a0 :: a1 :: a2 :: a3 :: some (.inl x) :: ls) (st) h Q) = (WP Gm j_Law_law 333 (a0 :: a1 :: a2 :: a3 :: some (.inl x) :: ls) (.inl x :: st) (h) Q) := (WP_at c_Law_law_331 _ _ _ _)
set_option maxRecDepth 100000 in
theorem c_Law_law_333 : mCode j_Law_law 333 = oI 3 334 := (rfl)
theorem e_Law_law_333  : (WP Gm j_Law_law 333 (ls) (st) h Q) = (WP Gm j_Law_law 334 (ls) (.inl 3 :: st) (h) Q) := (WP_at c_Law_law_333 _ _ _ _)
set_option maxRecDepth 100000 in
theorem c_Law_law_334 : mCode j_Law_law 334 = oII (fun x y => x + y) 335 := (rfl)
theorem e_Law_law_334 (x : Int32) (y : Int32) : (WP Gm j_Law_law 334 (ls) (.inl y :: .inl x :: st) h Q) = (WP Gm j_Law_law 335 (ls) (.inl (x + y) :: st) (h) Q) := (WP_at c_Law_law_334 _ _ _ _)
set_option maxRecDepth 100000 in
theorem c_Law_law_335 : mCode j_Law_law 335 = oIal 0 336 := (rfl)
theorem e_Law_law_335 (a : Nat) (i : Int32) (hk : isK h a 100 = true) (hi : inL h a i = true) : (WP Gm j_Law_law 335 (ls) (.inl i :: .inr (.inl (some a)) :: st) h Q) = (WP Gm j_Law_law 336 (ls) (.inl (gI h a i.toNatClampNeg) :: st) (h) Q) := (WP_at c_Law_law_335 _ _ _ _).trans (congrArg (fun o => ndX Gm (WP Gm) j_Law_law 335 o Q) (if_pos (by rw [hk, hi]; rfl)))
set_option maxRecDepth 100000 in
theorem c_Law_law_336 : mCode j_Law_law 336 = oIf (fun x => decide (x = 0)) 343 339 := (rfl)
theorem e_Law_law_336 (x : Int32) : (WP Gm j_Law_law 336 (ls) (.inl x :: st) h Q) = (if x = 0 then WP Gm j_Law_law 343 (ls) (st) (h) Q else WP Gm j_Law_law 339 (ls) (st) (h) Q) := (WP_at c_Law_law_336 _ _ _ _).trans (nd_if rfl _ _ _ _)
set_option maxRecDepth 100000 in
theorem c_Law_law_339 : mCode j_Law_law 339 = oI 1 340 := (rfl)
theorem e_Law_law_339  : (WP Gm j_Law_law 339 (ls) (st) h Q) = (WP Gm j_Law_law 340 (ls) (.inl 1 :: st) (h) Q) := (WP_at c_Law_law_339 _ _ _ _)
set_option maxRecDepth 100000 in
theorem c_Law_law_340 : mCode j_Law_law 340 = oGo 344 := (rfl)
theorem e_Law_law_340  : (WP Gm j_Law_law 340 (ls) (st) h Q) = (WP Gm j_Law_law 344 (ls) (st) (h) Q) := (WP_at c_Law_law_340 _ _ _ _)
set_option maxRecDepth 100000 in
theorem c_Law_law_343 : mCode j_Law_law 343 = oI 0 344 := (rfl)
theorem e_Law_law_343  : (WP Gm j_Law_law 343 (ls) (st) h Q) = (WP Gm j_Law_law 344 (ls) (.inl 0 :: st) (h) Q) := (WP_at c_Law_law_343 _ _ _ _)
set_option maxRecDepth 100000 in
theorem c_Law_law_344 : mCode j_Law_law 344 = oCallV kc_Mdl j_Mdl_tune 3 (mL j_Mdl_tune) 347 := (rfl)
theorem e_Law_law_344 (a : Nat) (x0 : Int32) (x1 : Int32) (x2 : Int32) (hk : isK h a kc_Mdl = true) (hc : c8 st = true) : (WP Gm j_Law_law 344 (ls) (.inl x2 :: .inl x1 :: .inl x0 :: .inr (.inl (some a)) :: st) h Q) = (WP Gm j_Mdl_tune 0 [some (.inr (.inl (some a))), some (.inl x0), some (.inl x1), some (.inl x2), none] [] h (kC (fun v h2 => WP Gm j_Law_law 347 ls (v.toList ++ st) h2 Q) (fun E h2 => Q (.inr E) h2))) := (WP_at c_Law_law_344 _ _ _ _).trans (congrArg (fun o => ndX Gm (WP Gm) j_Law_law 344 o Q) (if_pos (by rw [hk, show decide (catS st ≤ 8) = true from hc]; rfl)))
set_option maxRecDepth 100000 in
theorem c_Law_law_347 : mCode j_Law_law 347 = oIst 6 349 := (rfl)
theorem e_Law_law_347 (x : Int32) : (WP Gm j_Law_law 347 (ls) (.inl x :: st) h Q) = (WP Gm j_Law_law 349 (lSet1 ls 6 (some (.inl x))) (st) (h) Q) := (WP_at c_Law_law_347 _ _ _ _)
set_option maxRecDepth 100000 in
theorem c_Law_law_349 : mCode j_Law_law 349 = oGo 996 := (rfl)
theorem e_Law_law_349  : (WP Gm j_Law_law 349 (ls) (st) h Q) = (WP Gm j_Law_law 996 (ls) (st) (h) Q) := (WP_at c_Law_law_349 _ _ _ _)
set_option maxRecDepth 100000 in
theorem c_Law_law_352 : mCode j_Law_law 352 = oAld 1 353 := (rfl)
theorem e_Law_law_352 (a0 : Option MV) (x : Option Nat) : (WP Gm j_Law_law 352 (a0 :: some (.inr (.inl x)) :: ls) (st) h Q) = (WP Gm j_Law_law 353 (a0 :: some (.inr (.inl x)) :: ls) (.inr (.inl x) :: st) (h) Q) := (WP_at c_Law_law_352 _ _ _ _)
set_option maxRecDepth 100000 in
theorem c_Law_law_353 : mCode j_Law_law 353 = oAld 0 354 := (rfl)
theorem e_Law_law_353 (x : Option Nat) : (WP Gm j_Law_law 353 (some (.inr (.inl x)) :: ls) (st) h Q) = (WP Gm j_Law_law 354 (some (.inr (.inl x)) :: ls) (.inr (.inl x) :: st) (h) Q) := (WP_at c_Law_law_353 _ _ _ _)
set_option maxRecDepth 100000 in
theorem c_Law_law_354 : mCode j_Law_law 354 = oIld 4 356 := (rfl)
theorem e_Law_law_354 (a0 a1 a2 a3 : Option MV) (x : Int32) : (WP Gm j_Law_law 354 (a0 :: a1 :: a2 :: a3 :: some (.inl x) :: ls) (st) h Q) = (WP Gm j_Law_law 356 (a0 :: a1 :: a2 :: a3 :: some (.inl x) :: ls) (.inl x :: st) (h) Q) := (WP_at c_Law_law_354 _ _ _ _)
set_option maxRecDepth 100000 in
theorem c_Law_law_356 : mCode j_Law_law 356 = oI 1 357 := (rfl)
theorem e_Law_law_356  : (WP Gm j_Law_law 356 (ls) (st) h Q) = (WP Gm j_Law_law 357 (ls) (.inl 1 :: st) (h) Q) := (WP_at c_Law_law_356 _ _ _ _)
set_option maxRecDepth 100000 in
theorem c_Law_law_357 : mCode j_Law_law 357 = oII (fun x y => x + y) 358 := (rfl)
theorem e_Law_law_357 (x : Int32) (y : Int32) : (WP Gm j_Law_law 357 (ls) (.inl y :: .inl x :: st) h Q) = (WP Gm j_Law_law 358 (ls) (.inl (x + y) :: st) (h) Q) := (WP_at c_Law_law_357 _ _ _ _)
set_option maxRecDepth 100000 in
theorem c_Law_law_358 : mCode j_Law_law 358 = oIal 0 359 := (rfl)
theorem e_Law_law_358 (a : Nat) (i : Int32) (hk : isK h a 100 = true) (hi : inL h a i = true) : (WP Gm j_Law_law 358 (ls) (.inl i :: .inr (.inl (some a)) :: st) h Q) = (WP Gm j_Law_law 359 (ls) (.inl (gI h a i.toNatClampNeg) :: st) (h) Q) := (WP_at c_Law_law_358 _ _ _ _).trans (congrArg (fun o => ndX Gm (WP Gm) j_Law_law 358 o Q) (if_pos (by rw [hk, hi]; rfl)))
set_option maxRecDepth 100000 in
theorem c_Law_law_359 : mCode j_Law_law 359 = oAld 0 360 := (rfl)
theorem e_Law_law_359 (x : Option Nat) : (WP Gm j_Law_law 359 (some (.inr (.inl x)) :: ls) (st) h Q) = (WP Gm j_Law_law 360 (some (.inr (.inl x)) :: ls) (.inr (.inl x) :: st) (h) Q) := (WP_at c_Law_law_359 _ _ _ _)
set_option maxRecDepth 100000 in
theorem c_Law_law_360 : mCode j_Law_law 360 = oIld 4 362 := (rfl)
theorem e_Law_law_360 (a0 a1 a2 a3 : Option MV) (x : Int32) : (WP Gm j_Law_law 360 (a0 :: a1 :: a2 :: a3 :: some (.inl x) :: ls) (st) h Q) = (WP Gm j_Law_law 362 (a0 :: a1 :: a2 :: a3 :: some (.inl x) :: ls) (.inl x :: st) (h) Q) := (WP_at c_Law_law_360 _ _ _ _)
set_option maxRecDepth 100000 in
theorem c_Law_law_362 : mCode j_Law_law 362 = oI 2 363 := (rfl)
theorem e_Law_law_362  : (WP Gm j_Law_law 362 (ls) (st) h Q) = (WP Gm j_Law_law 363 (ls) (.inl 2 :: st) (h) Q) := (WP_at c_Law_law_362 _ _ _ _)
set_option maxRecDepth 100000 in
theorem c_Law_law_363 : mCode j_Law_law 363 = oII (fun x y => x + y) 364 := (rfl)
theorem e_Law_law_363 (x : Int32) (y : Int32) : (WP Gm j_Law_law 363 (ls) (.inl y :: .inl x :: st) h Q) = (WP Gm j_Law_law 364 (ls) (.inl (x + y) :: st) (h) Q) := (WP_at c_Law_law_363 _ _ _ _)
set_option maxRecDepth 100000 in
theorem c_Law_law_364 : mCode j_Law_law 364 = oIal 0 365 := (rfl)
theorem e_Law_law_364 (a : Nat) (i : Int32) (hk : isK h a 100 = true) (hi : inL h a i = true) : (WP Gm j_Law_law 364 (ls) (.inl i :: .inr (.inl (some a)) :: st) h Q) = (WP Gm j_Law_law 365 (ls) (.inl (gI h a i.toNatClampNeg) :: st) (h) Q) := (WP_at c_Law_law_364 _ _ _ _).trans (congrArg (fun o => ndX Gm (WP Gm) j_Law_law 364 o Q) (if_pos (by rw [hk, hi]; rfl)))
set_option maxRecDepth 100000 in
theorem c_Law_law_365 : mCode j_Law_law 365 = oAld 0 366 := (rfl)
theorem e_Law_law_365 (x : Option Nat) : (WP Gm j_Law_law 365 (some (.inr (.inl x)) :: ls) (st) h Q) = (WP Gm j_Law_law 366 (some (.inr (.inl x)) :: ls) (.inr (.inl x) :: st) (h) Q) := (WP_at c_Law_law_365 _ _ _ _)
set_option maxRecDepth 100000 in
theorem c_Law_law_366 : mCode j_Law_law 366 = oIld 4 368 := (rfl)
theorem e_Law_law_366 (a0 a1 a2 a3 : Option MV) (x : Int32) : (WP Gm j_Law_law 366 (a0 :: a1 :: a2 :: a3 :: some (.inl x) :: ls) (st) h Q) = (WP Gm j_Law_law 368 (a0 :: a1 :: a2 :: a3 :: some (.inl x) :: ls) (.inl x :: st) (h) Q) := (WP_at c_Law_law_366 _ _ _ _)
set_option maxRecDepth 100000 in
theorem c_Law_law_368 : mCode j_Law_law 368 = oI 3 369 := (rfl)
theorem e_Law_law_368  : (WP Gm j_Law_law 368 (ls) (st) h Q) = (WP Gm j_Law_law 369 (ls) (.inl 3 :: st) (h) Q) := (WP_at c_Law_law_368 _ _ _ _)
set_option maxRecDepth 100000 in
theorem c_Law_law_369 : mCode j_Law_law 369 = oII (fun x y => x + y) 370 := (rfl)
theorem e_Law_law_369 (x : Int32) (y : Int32) : (WP Gm j_Law_law 369 (ls) (.inl y :: .inl x :: st) h Q) = (WP Gm j_Law_law 370 (ls) (.inl (x + y) :: st) (h) Q) := (WP_at c_Law_law_369 _ _ _ _)
set_option maxRecDepth 100000 in
theorem c_Law_law_370 : mCode j_Law_law 370 = oIal 0 371 := (rfl)
theorem e_Law_law_370 (a : Nat) (i : Int32) (hk : isK h a 100 = true) (hi : inL h a i = true) : (WP Gm j_Law_law 370 (ls) (.inl i :: .inr (.inl (some a)) :: st) h Q) = (WP Gm j_Law_law 371 (ls) (.inl (gI h a i.toNatClampNeg) :: st) (h) Q) := (WP_at c_Law_law_370 _ _ _ _).trans (congrArg (fun o => ndX Gm (WP Gm) j_Law_law 370 o Q) (if_pos (by rw [hk, hi]; rfl)))
set_option maxRecDepth 100000 in
theorem c_Law_law_371 : mCode j_Law_law 371 = oAld 3 372 := (rfl)
theorem e_Law_law_371 (a0 a1 a2 : Option MV) (x : Option Nat) : (WP Gm j_Law_law 371 (a0 :: a1 :: a2 :: some (.inr (.inl x)) :: ls) (st) h Q) = (WP Gm j_Law_law 372 (a0 :: a1 :: a2 :: some (.inr (.inl x)) :: ls) (.inr (.inl x) :: st) (h) Q) := (WP_at c_Law_law_371 _ _ _ _)
set_option maxRecDepth 100000 in
theorem c_Law_law_372 : mCode j_Law_law 372 = oCallS j_Law_send 5 (mL j_Law_send) 375 := (rfl)
theorem e_Law_law_372 (x0 : Option Nat) (x1 : Int32) (x2 : Int32) (x3 : Int32) (x4 : Option Nat) (hc : c8 st = true) : (WP Gm j_Law_law 372 (ls) (.inr (.inl x4) :: .inl x3 :: .inl x2 :: .inl x1 :: .inr (.inl x0) :: st) h Q) = (WP Gm j_Law_send 0 [some (.inr (.inl x0)), some (.inl x1), some (.inl x2), some (.inl x3), some (.inr (.inl x4)), none] [] h (kC (fun v h2 => WP Gm j_Law_law 375 ls (v.toList ++ st) h2 Q) (fun E h2 => Q (.inr E) h2))) := (WP_at c_Law_law_372 _ _ _ _).trans (congrArg (fun o => ndX Gm (WP Gm) j_Law_law 372 o Q) (if_pos (by rw [show decide (catS st ≤ 8) = true from hc]; rfl)))
set_option maxRecDepth 100000 in
theorem c_Law_law_375 : mCode j_Law_law 375 = oIst 5 377 := (rfl)
theorem e_Law_law_375 (x : Int32) : (WP Gm j_Law_law 375 (ls) (.inl x :: st) h Q) = (WP Gm j_Law_law 377 (lSet1 ls 5 (some (.inl x))) (st) (h) Q) := (WP_at c_Law_law_375 _ _ _ _)
set_option maxRecDepth 100000 in
theorem c_Law_law_377 : mCode j_Law_law 377 = oAld 2 378 := (rfl)
theorem e_Law_law_377 (a0 a1 : Option MV) (x : Option Nat) : (WP Gm j_Law_law 377 (a0 :: a1 :: some (.inr (.inl x)) :: ls) (st) h Q) = (WP Gm j_Law_law 378 (a0 :: a1 :: some (.inr (.inl x)) :: ls) (.inr (.inl x) :: st) (h) Q) := (WP_at c_Law_law_377 _ _ _ _)
set_option maxRecDepth 100000 in
theorem c_Law_law_378 : mCode j_Law_law 378 = oAld 0 379 := (rfl)
theorem e_Law_law_378 (x : Option Nat) : (WP Gm j_Law_law 378 (some (.inr (.inl x)) :: ls) (st) h Q) = (WP Gm j_Law_law 379 (some (.inr (.inl x)) :: ls) (.inr (.inl x) :: st) (h) Q) := (WP_at c_Law_law_378 _ _ _ _)
set_option maxRecDepth 100000 in
theorem c_Law_law_379 : mCode j_Law_law 379 = oIld 4 381 := (rfl)
theorem e_Law_law_379 (a0 a1 a2 a3 : Option MV) (x : Int32) : (WP Gm j_Law_law 379 (a0 :: a1 :: a2 :: a3 :: some (.inl x) :: ls) (st) h Q) = (WP Gm j_Law_law 381 (a0 :: a1 :: a2 :: a3 :: some (.inl x) :: ls) (.inl x :: st) (h) Q) := (WP_at c_Law_law_379 _ _ _ _)
set_option maxRecDepth 100000 in
theorem c_Law_law_381 : mCode j_Law_law 381 = oI 1 382 := (rfl)
theorem e_Law_law_381  : (WP Gm j_Law_law 381 (ls) (st) h Q) = (WP Gm j_Law_law 382 (ls) (.inl 1 :: st) (h) Q) := (WP_at c_Law_law_381 _ _ _ _)
set_option maxRecDepth 100000 in
theorem c_Law_law_382 : mCode j_Law_law 382 = oII (fun x y => x + y) 383 := (rfl)
theorem e_Law_law_382 (x : Int32) (y : Int32) : (WP Gm j_Law_law 382 (ls) (.inl y :: .inl x :: st) h Q) = (WP Gm j_Law_law 383 (ls) (.inl (x + y) :: st) (h) Q) := (WP_at c_Law_law_382 _ _ _ _)
set_option maxRecDepth 100000 in
theorem c_Law_law_383 : mCode j_Law_law 383 = oIal 0 384 := (rfl)
theorem e_Law_law_383 (a : Nat) (i : Int32) (hk : isK h a 100 = true) (hi : inL h a i = true) : (WP Gm j_Law_law 383 (ls) (.inl i :: .inr (.inl (some a)) :: st) h Q) = (WP Gm j_Law_law 384 (ls) (.inl (gI h a i.toNatClampNeg) :: st) (h) Q) := (WP_at c_Law_law_383 _ _ _ _).trans (congrArg (fun o => ndX Gm (WP Gm) j_Law_law 383 o Q) (if_pos (by rw [hk, hi]; rfl)))
set_option maxRecDepth 100000 in
theorem c_Law_law_384 : mCode j_Law_law 384 = oAld 0 385 := (rfl)
theorem e_Law_law_384 (x : Option Nat) : (WP Gm j_Law_law 384 (some (.inr (.inl x)) :: ls) (st) h Q) = (WP Gm j_Law_law 385 (some (.inr (.inl x)) :: ls) (.inr (.inl x) :: st) (h) Q) := (WP_at c_Law_law_384 _ _ _ _)
set_option maxRecDepth 100000 in
theorem c_Law_law_385 : mCode j_Law_law 385 = oIld 4 387 := (rfl)
theorem e_Law_law_385 (a0 a1 a2 a3 : Option MV) (x : Int32) : (WP Gm j_Law_law 385 (a0 :: a1 :: a2 :: a3 :: some (.inl x) :: ls) (st) h Q) = (WP Gm j_Law_law 387 (a0 :: a1 :: a2 :: a3 :: some (.inl x) :: ls) (.inl x :: st) (h) Q) := (WP_at c_Law_law_385 _ _ _ _)
set_option maxRecDepth 100000 in
theorem c_Law_law_387 : mCode j_Law_law 387 = oI 2 388 := (rfl)
theorem e_Law_law_387  : (WP Gm j_Law_law 387 (ls) (st) h Q) = (WP Gm j_Law_law 388 (ls) (.inl 2 :: st) (h) Q) := (WP_at c_Law_law_387 _ _ _ _)
set_option maxRecDepth 100000 in
theorem c_Law_law_388 : mCode j_Law_law 388 = oII (fun x y => x + y) 389 := (rfl)
theorem e_Law_law_388 (x : Int32) (y : Int32) : (WP Gm j_Law_law 388 (ls) (.inl y :: .inl x :: st) h Q) = (WP Gm j_Law_law 389 (ls) (.inl (x + y) :: st) (h) Q) := (WP_at c_Law_law_388 _ _ _ _)
set_option maxRecDepth 100000 in
theorem c_Law_law_389 : mCode j_Law_law 389 = oIal 0 390 := (rfl)
theorem e_Law_law_389 (a : Nat) (i : Int32) (hk : isK h a 100 = true) (hi : inL h a i = true) : (WP Gm j_Law_law 389 (ls) (.inl i :: .inr (.inl (some a)) :: st) h Q) = (WP Gm j_Law_law 390 (ls) (.inl (gI h a i.toNatClampNeg) :: st) (h) Q) := (WP_at c_Law_law_389 _ _ _ _).trans (congrArg (fun o => ndX Gm (WP Gm) j_Law_law 389 o Q) (if_pos (by rw [hk, hi]; rfl)))
set_option maxRecDepth 100000 in
theorem c_Law_law_390 : mCode j_Law_law 390 = oAld 0 391 := (rfl)
theorem e_Law_law_390 (x : Option Nat) : (WP Gm j_Law_law 390 (some (.inr (.inl x)) :: ls) (st) h Q) = (WP Gm j_Law_law 391 (some (.inr (.inl x)) :: ls) (.inr (.inl x) :: st) (h) Q) := (WP_at c_Law_law_390 _ _ _ _)
set_option maxRecDepth 100000 in
theorem c_Law_law_391 : mCode j_Law_law 391 = oIld 4 393 := (rfl)
theorem e_Law_law_391 (a0 a1 a2 a3 : Option MV) (x : Int32) : (WP Gm j_Law_law 391 (a0 :: a1 :: a2 :: a3 :: some (.inl x) :: ls) (st) h Q) = (WP Gm j_Law_law 393 (a0 :: a1 :: a2 :: a3 :: some (.inl x) :: ls) (.inl x :: st) (h) Q) := (WP_at c_Law_law_391 _ _ _ _)
set_option maxRecDepth 100000 in
theorem c_Law_law_393 : mCode j_Law_law 393 = oI 3 394 := (rfl)
theorem e_Law_law_393  : (WP Gm j_Law_law 393 (ls) (st) h Q) = (WP Gm j_Law_law 394 (ls) (.inl 3 :: st) (h) Q) := (WP_at c_Law_law_393 _ _ _ _)
set_option maxRecDepth 100000 in
theorem c_Law_law_394 : mCode j_Law_law 394 = oII (fun x y => x + y) 395 := (rfl)
theorem e_Law_law_394 (x : Int32) (y : Int32) : (WP Gm j_Law_law 394 (ls) (.inl y :: .inl x :: st) h Q) = (WP Gm j_Law_law 395 (ls) (.inl (x + y) :: st) (h) Q) := (WP_at c_Law_law_394 _ _ _ _)
set_option maxRecDepth 100000 in
theorem c_Law_law_395 : mCode j_Law_law 395 = oIal 0 396 := (rfl)
theorem e_Law_law_395 (a : Nat) (i : Int32) (hk : isK h a 100 = true) (hi : inL h a i = true) : (WP Gm j_Law_law 395 (ls) (.inl i :: .inr (.inl (some a)) :: st) h Q) = (WP Gm j_Law_law 396 (ls) (.inl (gI h a i.toNatClampNeg) :: st) (h) Q) := (WP_at c_Law_law_395 _ _ _ _).trans (congrArg (fun o => ndX Gm (WP Gm) j_Law_law 395 o Q) (if_pos (by rw [hk, hi]; rfl)))
set_option maxRecDepth 100000 in
theorem c_Law_law_396 : mCode j_Law_law 396 = oCallV kc_Mdl j_Mdl_send 3 (mL j_Mdl_send) 399 := (rfl)
theorem e_Law_law_396 (a : Nat) (x0 : Int32) (x1 : Int32) (x2 : Int32) (hk : isK h a kc_Mdl = true) (hc : c8 st = true) : (WP Gm j_Law_law 396 (ls) (.inl x2 :: .inl x1 :: .inl x0 :: .inr (.inl (some a)) :: st) h Q) = (WP Gm j_Mdl_send 0 [some (.inr (.inl (some a))), some (.inl x0), some (.inl x1), some (.inl x2), none] [] h (kC (fun v h2 => WP Gm j_Law_law 399 ls (v.toList ++ st) h2 Q) (fun E h2 => Q (.inr E) h2))) := (WP_at c_Law_law_396 _ _ _ _).trans (congrArg (fun o => ndX Gm (WP Gm) j_Law_law 396 o Q) (if_pos (by rw [hk, show decide (catS st ≤ 8) = true from hc]; rfl)))
set_option maxRecDepth 100000 in
theorem c_Law_law_399 : mCode j_Law_law 399 = oIst 6 401 := (rfl)
theorem e_Law_law_399 (x : Int32) : (WP Gm j_Law_law 399 (ls) (.inl x :: st) h Q) = (WP Gm j_Law_law 401 (lSet1 ls 6 (some (.inl x))) (st) (h) Q) := (WP_at c_Law_law_399 _ _ _ _)
set_option maxRecDepth 100000 in
theorem c_Law_law_401 : mCode j_Law_law 401 = oGo 996 := (rfl)
theorem e_Law_law_401  : (WP Gm j_Law_law 401 (ls) (st) h Q) = (WP Gm j_Law_law 996 (ls) (st) (h) Q) := (WP_at c_Law_law_401 _ _ _ _)
set_option maxRecDepth 100000 in
theorem c_Law_law_404 : mCode j_Law_law 404 = oAld 1 405 := (rfl)
theorem e_Law_law_404 (a0 : Option MV) (x : Option Nat) : (WP Gm j_Law_law 404 (a0 :: some (.inr (.inl x)) :: ls) (st) h Q) = (WP Gm j_Law_law 405 (a0 :: some (.inr (.inl x)) :: ls) (.inr (.inl x) :: st) (h) Q) := (WP_at c_Law_law_404 _ _ _ _)
set_option maxRecDepth 100000 in
theorem c_Law_law_405 : mCode j_Law_law 405 = oAld 0 406 := (rfl)
theorem e_Law_law_405 (x : Option Nat) : (WP Gm j_Law_law 405 (some (.inr (.inl x)) :: ls) (st) h Q) = (WP Gm j_Law_law 406 (some (.inr (.inl x)) :: ls) (.inr (.inl x) :: st) (h) Q) := (WP_at c_Law_law_405 _ _ _ _)
set_option maxRecDepth 100000 in
theorem c_Law_law_406 : mCode j_Law_law 406 = oIld 4 408 := (rfl)
theorem e_Law_law_406 (a0 a1 a2 a3 : Option MV) (x : Int32) : (WP Gm j_Law_law 406 (a0 :: a1 :: a2 :: a3 :: some (.inl x) :: ls) (st) h Q) = (WP Gm j_Law_law 408 (a0 :: a1 :: a2 :: a3 :: some (.inl x) :: ls) (.inl x :: st) (h) Q) := (WP_at c_Law_law_406 _ _ _ _)
set_option maxRecDepth 100000 in
theorem c_Law_law_408 : mCode j_Law_law 408 = oI 1 409 := (rfl)
theorem e_Law_law_408  : (WP Gm j_Law_law 408 (ls) (st) h Q) = (WP Gm j_Law_law 409 (ls) (.inl 1 :: st) (h) Q) := (WP_at c_Law_law_408 _ _ _ _)
set_option maxRecDepth 100000 in
theorem c_Law_law_409 : mCode j_Law_law 409 = oII (fun x y => x + y) 410 := (rfl)
theorem e_Law_law_409 (x : Int32) (y : Int32) : (WP Gm j_Law_law 409 (ls) (.inl y :: .inl x :: st) h Q) = (WP Gm j_Law_law 410 (ls) (.inl (x + y) :: st) (h) Q) := (WP_at c_Law_law_409 _ _ _ _)
set_option maxRecDepth 100000 in
theorem c_Law_law_410 : mCode j_Law_law 410 = oIal 0 411 := (rfl)
theorem e_Law_law_410 (a : Nat) (i : Int32) (hk : isK h a 100 = true) (hi : inL h a i = true) : (WP Gm j_Law_law 410 (ls) (.inl i :: .inr (.inl (some a)) :: st) h Q) = (WP Gm j_Law_law 411 (ls) (.inl (gI h a i.toNatClampNeg) :: st) (h) Q) := (WP_at c_Law_law_410 _ _ _ _).trans (congrArg (fun o => ndX Gm (WP Gm) j_Law_law 410 o Q) (if_pos (by rw [hk, hi]; rfl)))
set_option maxRecDepth 100000 in
theorem c_Law_law_411 : mCode j_Law_law 411 = oAld 3 412 := (rfl)
theorem e_Law_law_411 (a0 a1 a2 : Option MV) (x : Option Nat) : (WP Gm j_Law_law 411 (a0 :: a1 :: a2 :: some (.inr (.inl x)) :: ls) (st) h Q) = (WP Gm j_Law_law 412 (a0 :: a1 :: a2 :: some (.inr (.inl x)) :: ls) (.inr (.inl x) :: st) (h) Q) := (WP_at c_Law_law_411 _ _ _ _)
set_option maxRecDepth 100000 in
theorem c_Law_law_412 : mCode j_Law_law 412 = oCallS j_Law_pass 3 (mL j_Law_pass) 415 := (rfl)
theorem e_Law_law_412 (x0 : Option Nat) (x1 : Int32) (x2 : Option Nat) (hc : c8 st = true) : (WP Gm j_Law_law 412 (ls) (.inr (.inl x2) :: .inl x1 :: .inr (.inl x0) :: st) h Q) = (WP Gm j_Law_pass 0 [some (.inr (.inl x0)), some (.inl x1), some (.inr (.inl x2)), none] [] h (kC (fun v h2 => WP Gm j_Law_law 415 ls (v.toList ++ st) h2 Q) (fun E h2 => Q (.inr E) h2))) := (WP_at c_Law_law_412 _ _ _ _).trans (congrArg (fun o => ndX Gm (WP Gm) j_Law_law 412 o Q) (if_pos (by rw [show decide (catS st ≤ 8) = true from hc]; rfl)))
set_option maxRecDepth 100000 in
theorem c_Law_law_415 : mCode j_Law_law 415 = oIst 5 417 := (rfl)
theorem e_Law_law_415 (x : Int32) : (WP Gm j_Law_law 415 (ls) (.inl x :: st) h Q) = (WP Gm j_Law_law 417 (lSet1 ls 5 (some (.inl x))) (st) (h) Q) := (WP_at c_Law_law_415 _ _ _ _)
set_option maxRecDepth 100000 in
theorem c_Law_law_417 : mCode j_Law_law 417 = oAld 2 418 := (rfl)
theorem e_Law_law_417 (a0 a1 : Option MV) (x : Option Nat) : (WP Gm j_Law_law 417 (a0 :: a1 :: some (.inr (.inl x)) :: ls) (st) h Q) = (WP Gm j_Law_law 418 (a0 :: a1 :: some (.inr (.inl x)) :: ls) (.inr (.inl x) :: st) (h) Q) := (WP_at c_Law_law_417 _ _ _ _)
set_option maxRecDepth 100000 in
theorem c_Law_law_418 : mCode j_Law_law 418 = oAld 0 419 := (rfl)
theorem e_Law_law_418 (x : Option Nat) : (WP Gm j_Law_law 418 (some (.inr (.inl x)) :: ls) (st) h Q) = (WP Gm j_Law_law 419 (some (.inr (.inl x)) :: ls) (.inr (.inl x) :: st) (h) Q) := (WP_at c_Law_law_418 _ _ _ _)
set_option maxRecDepth 100000 in
theorem c_Law_law_419 : mCode j_Law_law 419 = oIld 4 421 := (rfl)
theorem e_Law_law_419 (a0 a1 a2 a3 : Option MV) (x : Int32) : (WP Gm j_Law_law 419 (a0 :: a1 :: a2 :: a3 :: some (.inl x) :: ls) (st) h Q) = (WP Gm j_Law_law 421 (a0 :: a1 :: a2 :: a3 :: some (.inl x) :: ls) (.inl x :: st) (h) Q) := (WP_at c_Law_law_419 _ _ _ _)
set_option maxRecDepth 100000 in
theorem c_Law_law_421 : mCode j_Law_law 421 = oI 1 422 := (rfl)
theorem e_Law_law_421  : (WP Gm j_Law_law 421 (ls) (st) h Q) = (WP Gm j_Law_law 422 (ls) (.inl 1 :: st) (h) Q) := (WP_at c_Law_law_421 _ _ _ _)
set_option maxRecDepth 100000 in
theorem c_Law_law_422 : mCode j_Law_law 422 = oII (fun x y => x + y) 423 := (rfl)
theorem e_Law_law_422 (x : Int32) (y : Int32) : (WP Gm j_Law_law 422 (ls) (.inl y :: .inl x :: st) h Q) = (WP Gm j_Law_law 423 (ls) (.inl (x + y) :: st) (h) Q) := (WP_at c_Law_law_422 _ _ _ _)
set_option maxRecDepth 100000 in
theorem c_Law_law_423 : mCode j_Law_law 423 = oIal 0 424 := (rfl)
theorem e_Law_law_423 (a : Nat) (i : Int32) (hk : isK h a 100 = true) (hi : inL h a i = true) : (WP Gm j_Law_law 423 (ls) (.inl i :: .inr (.inl (some a)) :: st) h Q) = (WP Gm j_Law_law 424 (ls) (.inl (gI h a i.toNatClampNeg) :: st) (h) Q) := (WP_at c_Law_law_423 _ _ _ _).trans (congrArg (fun o => ndX Gm (WP Gm) j_Law_law 423 o Q) (if_pos (by rw [hk, hi]; rfl)))
set_option maxRecDepth 100000 in
theorem c_Law_law_424 : mCode j_Law_law 424 = oCallV kc_Mdl j_Mdl_pass 1 (mL j_Mdl_pass) 427 := (rfl)
theorem e_Law_law_424 (a : Nat) (x0 : Int32) (hk : isK h a kc_Mdl = true) (hc : c8 st = true) : (WP Gm j_Law_law 424 (ls) (.inl x0 :: .inr (.inl (some a)) :: st) h Q) = (WP Gm j_Mdl_pass 0 [some (.inr (.inl (some a))), some (.inl x0), none] [] h (kC (fun v h2 => WP Gm j_Law_law 427 ls (v.toList ++ st) h2 Q) (fun E h2 => Q (.inr E) h2))) := (WP_at c_Law_law_424 _ _ _ _).trans (congrArg (fun o => ndX Gm (WP Gm) j_Law_law 424 o Q) (if_pos (by rw [hk, show decide (catS st ≤ 8) = true from hc]; rfl)))
set_option maxRecDepth 100000 in
theorem c_Law_law_427 : mCode j_Law_law 427 = oIst 6 429 := (rfl)
theorem e_Law_law_427 (x : Int32) : (WP Gm j_Law_law 427 (ls) (.inl x :: st) h Q) = (WP Gm j_Law_law 429 (lSet1 ls 6 (some (.inl x))) (st) (h) Q) := (WP_at c_Law_law_427 _ _ _ _)
set_option maxRecDepth 100000 in
theorem c_Law_law_429 : mCode j_Law_law 429 = oGo 996 := (rfl)
theorem e_Law_law_429  : (WP Gm j_Law_law 429 (ls) (st) h Q) = (WP Gm j_Law_law 996 (ls) (st) (h) Q) := (WP_at c_Law_law_429 _ _ _ _)
set_option maxRecDepth 100000 in
theorem c_Law_law_432 : mCode j_Law_law 432 = oAld 1 433 := (rfl)
theorem e_Law_law_432 (a0 : Option MV) (x : Option Nat) : (WP Gm j_Law_law 432 (a0 :: some (.inr (.inl x)) :: ls) (st) h Q) = (WP Gm j_Law_law 433 (a0 :: some (.inr (.inl x)) :: ls) (.inr (.inl x) :: st) (h) Q) := (WP_at c_Law_law_432 _ _ _ _)
set_option maxRecDepth 100000 in
theorem c_Law_law_433 : mCode j_Law_law 433 = oAld 0 434 := (rfl)
theorem e_Law_law_433 (x : Option Nat) : (WP Gm j_Law_law 433 (some (.inr (.inl x)) :: ls) (st) h Q) = (WP Gm j_Law_law 434 (some (.inr (.inl x)) :: ls) (.inr (.inl x) :: st) (h) Q) := (WP_at c_Law_law_433 _ _ _ _)
set_option maxRecDepth 100000 in
theorem c_Law_law_434 : mCode j_Law_law 434 = oIld 4 436 := (rfl)
theorem e_Law_law_434 (a0 a1 a2 a3 : Option MV) (x : Int32) : (WP Gm j_Law_law 434 (a0 :: a1 :: a2 :: a3 :: some (.inl x) :: ls) (st) h Q) = (WP Gm j_Law_law 436 (a0 :: a1 :: a2 :: a3 :: some (.inl x) :: ls) (.inl x :: st) (h) Q) := (WP_at c_Law_law_434 _ _ _ _)
set_option maxRecDepth 100000 in
theorem c_Law_law_436 : mCode j_Law_law 436 = oI 1 437 := (rfl)
theorem e_Law_law_436  : (WP Gm j_Law_law 436 (ls) (st) h Q) = (WP Gm j_Law_law 437 (ls) (.inl 1 :: st) (h) Q) := (WP_at c_Law_law_436 _ _ _ _)
set_option maxRecDepth 100000 in
theorem c_Law_law_437 : mCode j_Law_law 437 = oII (fun x y => x + y) 438 := (rfl)
theorem e_Law_law_437 (x : Int32) (y : Int32) : (WP Gm j_Law_law 437 (ls) (.inl y :: .inl x :: st) h Q) = (WP Gm j_Law_law 438 (ls) (.inl (x + y) :: st) (h) Q) := (WP_at c_Law_law_437 _ _ _ _)
set_option maxRecDepth 100000 in
theorem c_Law_law_438 : mCode j_Law_law 438 = oIal 0 439 := (rfl)
theorem e_Law_law_438 (a : Nat) (i : Int32) (hk : isK h a 100 = true) (hi : inL h a i = true) : (WP Gm j_Law_law 438 (ls) (.inl i :: .inr (.inl (some a)) :: st) h Q) = (WP Gm j_Law_law 439 (ls) (.inl (gI h a i.toNatClampNeg) :: st) (h) Q) := (WP_at c_Law_law_438 _ _ _ _).trans (congrArg (fun o => ndX Gm (WP Gm) j_Law_law 438 o Q) (if_pos (by rw [hk, hi]; rfl)))
set_option maxRecDepth 100000 in
theorem c_Law_law_439 : mCode j_Law_law 439 = oAld 3 440 := (rfl)
theorem e_Law_law_439 (a0 a1 a2 : Option MV) (x : Option Nat) : (WP Gm j_Law_law 439 (a0 :: a1 :: a2 :: some (.inr (.inl x)) :: ls) (st) h Q) = (WP Gm j_Law_law 440 (a0 :: a1 :: a2 :: some (.inr (.inl x)) :: ls) (.inr (.inl x) :: st) (h) Q) := (WP_at c_Law_law_439 _ _ _ _)
set_option maxRecDepth 100000 in
theorem c_Law_law_440 : mCode j_Law_law 440 = oCallS j_Law_exchange 3 (mL j_Law_exchange) 443 := (rfl)
theorem e_Law_law_440 (x0 : Option Nat) (x1 : Int32) (x2 : Option Nat) (hc : c8 st = true) : (WP Gm j_Law_law 440 (ls) (.inr (.inl x2) :: .inl x1 :: .inr (.inl x0) :: st) h Q) = (WP Gm j_Law_exchange 0 [some (.inr (.inl x0)), some (.inl x1), some (.inr (.inl x2)), none] [] h (kC (fun v h2 => WP Gm j_Law_law 443 ls (v.toList ++ st) h2 Q) (fun E h2 => Q (.inr E) h2))) := (WP_at c_Law_law_440 _ _ _ _).trans (congrArg (fun o => ndX Gm (WP Gm) j_Law_law 440 o Q) (if_pos (by rw [show decide (catS st ≤ 8) = true from hc]; rfl)))
set_option maxRecDepth 100000 in
theorem c_Law_law_443 : mCode j_Law_law 443 = oIst 5 445 := (rfl)
theorem e_Law_law_443 (x : Int32) : (WP Gm j_Law_law 443 (ls) (.inl x :: st) h Q) = (WP Gm j_Law_law 445 (lSet1 ls 5 (some (.inl x))) (st) (h) Q) := (WP_at c_Law_law_443 _ _ _ _)
set_option maxRecDepth 100000 in
theorem c_Law_law_445 : mCode j_Law_law 445 = oAld 2 446 := (rfl)
theorem e_Law_law_445 (a0 a1 : Option MV) (x : Option Nat) : (WP Gm j_Law_law 445 (a0 :: a1 :: some (.inr (.inl x)) :: ls) (st) h Q) = (WP Gm j_Law_law 446 (a0 :: a1 :: some (.inr (.inl x)) :: ls) (.inr (.inl x) :: st) (h) Q) := (WP_at c_Law_law_445 _ _ _ _)
set_option maxRecDepth 100000 in
theorem c_Law_law_446 : mCode j_Law_law 446 = oAld 0 447 := (rfl)
theorem e_Law_law_446 (x : Option Nat) : (WP Gm j_Law_law 446 (some (.inr (.inl x)) :: ls) (st) h Q) = (WP Gm j_Law_law 447 (some (.inr (.inl x)) :: ls) (.inr (.inl x) :: st) (h) Q) := (WP_at c_Law_law_446 _ _ _ _)
set_option maxRecDepth 100000 in
theorem c_Law_law_447 : mCode j_Law_law 447 = oIld 4 449 := (rfl)
theorem e_Law_law_447 (a0 a1 a2 a3 : Option MV) (x : Int32) : (WP Gm j_Law_law 447 (a0 :: a1 :: a2 :: a3 :: some (.inl x) :: ls) (st) h Q) = (WP Gm j_Law_law 449 (a0 :: a1 :: a2 :: a3 :: some (.inl x) :: ls) (.inl x :: st) (h) Q) := (WP_at c_Law_law_447 _ _ _ _)
set_option maxRecDepth 100000 in
theorem c_Law_law_449 : mCode j_Law_law 449 = oI 1 450 := (rfl)
theorem e_Law_law_449  : (WP Gm j_Law_law 449 (ls) (st) h Q) = (WP Gm j_Law_law 450 (ls) (.inl 1 :: st) (h) Q) := (WP_at c_Law_law_449 _ _ _ _)
set_option maxRecDepth 100000 in
theorem c_Law_law_450 : mCode j_Law_law 450 = oII (fun x y => x + y) 451 := (rfl)
theorem e_Law_law_450 (x : Int32) (y : Int32) : (WP Gm j_Law_law 450 (ls) (.inl y :: .inl x :: st) h Q) = (WP Gm j_Law_law 451 (ls) (.inl (x + y) :: st) (h) Q) := (WP_at c_Law_law_450 _ _ _ _)
set_option maxRecDepth 100000 in
theorem c_Law_law_451 : mCode j_Law_law 451 = oIal 0 452 := (rfl)
theorem e_Law_law_451 (a : Nat) (i : Int32) (hk : isK h a 100 = true) (hi : inL h a i = true) : (WP Gm j_Law_law 451 (ls) (.inl i :: .inr (.inl (some a)) :: st) h Q) = (WP Gm j_Law_law 452 (ls) (.inl (gI h a i.toNatClampNeg) :: st) (h) Q) := (WP_at c_Law_law_451 _ _ _ _).trans (congrArg (fun o => ndX Gm (WP Gm) j_Law_law 451 o Q) (if_pos (by rw [hk, hi]; rfl)))
set_option maxRecDepth 100000 in
theorem c_Law_law_452 : mCode j_Law_law 452 = oCallV kc_Mdl j_Mdl_exchange 1 (mL j_Mdl_exchange) 455 := (rfl)
theorem e_Law_law_452 (a : Nat) (x0 : Int32) (hk : isK h a kc_Mdl = true) (hc : c8 st = true) : (WP Gm j_Law_law 452 (ls) (.inl x0 :: .inr (.inl (some a)) :: st) h Q) = (WP Gm j_Mdl_exchange 0 [some (.inr (.inl (some a))), some (.inl x0), none] [] h (kC (fun v h2 => WP Gm j_Law_law 455 ls (v.toList ++ st) h2 Q) (fun E h2 => Q (.inr E) h2))) := (WP_at c_Law_law_452 _ _ _ _).trans (congrArg (fun o => ndX Gm (WP Gm) j_Law_law 452 o Q) (if_pos (by rw [hk, show decide (catS st ≤ 8) = true from hc]; rfl)))
set_option maxRecDepth 100000 in
theorem c_Law_law_455 : mCode j_Law_law 455 = oIst 6 457 := (rfl)
theorem e_Law_law_455 (x : Int32) : (WP Gm j_Law_law 455 (ls) (.inl x :: st) h Q) = (WP Gm j_Law_law 457 (lSet1 ls 6 (some (.inl x))) (st) (h) Q) := (WP_at c_Law_law_455 _ _ _ _)
set_option maxRecDepth 100000 in
theorem c_Law_law_457 : mCode j_Law_law 457 = oGo 996 := (rfl)
theorem e_Law_law_457  : (WP Gm j_Law_law 457 (ls) (st) h Q) = (WP Gm j_Law_law 996 (ls) (st) (h) Q) := (WP_at c_Law_law_457 _ _ _ _)
set_option maxRecDepth 100000 in
theorem c_Law_law_460 : mCode j_Law_law 460 = oAld 1 461 := (rfl)
theorem e_Law_law_460 (a0 : Option MV) (x : Option Nat) : (WP Gm j_Law_law 460 (a0 :: some (.inr (.inl x)) :: ls) (st) h Q) = (WP Gm j_Law_law 461 (a0 :: some (.inr (.inl x)) :: ls) (.inr (.inl x) :: st) (h) Q) := (WP_at c_Law_law_460 _ _ _ _)
set_option maxRecDepth 100000 in
theorem c_Law_law_461 : mCode j_Law_law 461 = oAld 0 462 := (rfl)
theorem e_Law_law_461 (x : Option Nat) : (WP Gm j_Law_law 461 (some (.inr (.inl x)) :: ls) (st) h Q) = (WP Gm j_Law_law 462 (some (.inr (.inl x)) :: ls) (.inr (.inl x) :: st) (h) Q) := (WP_at c_Law_law_461 _ _ _ _)
set_option maxRecDepth 100000 in
theorem c_Law_law_462 : mCode j_Law_law 462 = oIld 4 464 := (rfl)
theorem e_Law_law_462 (a0 a1 a2 a3 : Option MV) (x : Int32) : (WP Gm j_Law_law 462 (a0 :: a1 :: a2 :: a3 :: some (.inl x) :: ls) (st) h Q) = (WP Gm j_Law_law 464 (a0 :: a1 :: a2 :: a3 :: some (.inl x) :: ls) (.inl x :: st) (h) Q) := (WP_at c_Law_law_462 _ _ _ _)
set_option maxRecDepth 100000 in
theorem c_Law_law_464 : mCode j_Law_law 464 = oI 1 465 := (rfl)
theorem e_Law_law_464  : (WP Gm j_Law_law 464 (ls) (st) h Q) = (WP Gm j_Law_law 465 (ls) (.inl 1 :: st) (h) Q) := (WP_at c_Law_law_464 _ _ _ _)
set_option maxRecDepth 100000 in
theorem c_Law_law_465 : mCode j_Law_law 465 = oII (fun x y => x + y) 466 := (rfl)
theorem e_Law_law_465 (x : Int32) (y : Int32) : (WP Gm j_Law_law 465 (ls) (.inl y :: .inl x :: st) h Q) = (WP Gm j_Law_law 466 (ls) (.inl (x + y) :: st) (h) Q) := (WP_at c_Law_law_465 _ _ _ _)
set_option maxRecDepth 100000 in
theorem c_Law_law_466 : mCode j_Law_law 466 = oIal 0 467 := (rfl)
theorem e_Law_law_466 (a : Nat) (i : Int32) (hk : isK h a 100 = true) (hi : inL h a i = true) : (WP Gm j_Law_law 466 (ls) (.inl i :: .inr (.inl (some a)) :: st) h Q) = (WP Gm j_Law_law 467 (ls) (.inl (gI h a i.toNatClampNeg) :: st) (h) Q) := (WP_at c_Law_law_466 _ _ _ _).trans (congrArg (fun o => ndX Gm (WP Gm) j_Law_law 466 o Q) (if_pos (by rw [hk, hi]; rfl)))
set_option maxRecDepth 100000 in
theorem c_Law_law_467 : mCode j_Law_law 467 = oAld 0 468 := (rfl)
theorem e_Law_law_467 (x : Option Nat) : (WP Gm j_Law_law 467 (some (.inr (.inl x)) :: ls) (st) h Q) = (WP Gm j_Law_law 468 (some (.inr (.inl x)) :: ls) (.inr (.inl x) :: st) (h) Q) := (WP_at c_Law_law_467 _ _ _ _)
set_option maxRecDepth 100000 in
theorem c_Law_law_468 : mCode j_Law_law 468 = oIld 4 470 := (rfl)
theorem e_Law_law_468 (a0 a1 a2 a3 : Option MV) (x : Int32) : (WP Gm j_Law_law 468 (a0 :: a1 :: a2 :: a3 :: some (.inl x) :: ls) (st) h Q) = (WP Gm j_Law_law 470 (a0 :: a1 :: a2 :: a3 :: some (.inl x) :: ls) (.inl x :: st) (h) Q) := (WP_at c_Law_law_468 _ _ _ _)
set_option maxRecDepth 100000 in
theorem c_Law_law_470 : mCode j_Law_law 470 = oI 2 471 := (rfl)
theorem e_Law_law_470  : (WP Gm j_Law_law 470 (ls) (st) h Q) = (WP Gm j_Law_law 471 (ls) (.inl 2 :: st) (h) Q) := (WP_at c_Law_law_470 _ _ _ _)
set_option maxRecDepth 100000 in
theorem c_Law_law_471 : mCode j_Law_law 471 = oII (fun x y => x + y) 472 := (rfl)
theorem e_Law_law_471 (x : Int32) (y : Int32) : (WP Gm j_Law_law 471 (ls) (.inl y :: .inl x :: st) h Q) = (WP Gm j_Law_law 472 (ls) (.inl (x + y) :: st) (h) Q) := (WP_at c_Law_law_471 _ _ _ _)
set_option maxRecDepth 100000 in
theorem c_Law_law_472 : mCode j_Law_law 472 = oIal 0 473 := (rfl)
theorem e_Law_law_472 (a : Nat) (i : Int32) (hk : isK h a 100 = true) (hi : inL h a i = true) : (WP Gm j_Law_law 472 (ls) (.inl i :: .inr (.inl (some a)) :: st) h Q) = (WP Gm j_Law_law 473 (ls) (.inl (gI h a i.toNatClampNeg) :: st) (h) Q) := (WP_at c_Law_law_472 _ _ _ _).trans (congrArg (fun o => ndX Gm (WP Gm) j_Law_law 472 o Q) (if_pos (by rw [hk, hi]; rfl)))
set_option maxRecDepth 100000 in
theorem c_Law_law_473 : mCode j_Law_law 473 = oAld 0 474 := (rfl)
theorem e_Law_law_473 (x : Option Nat) : (WP Gm j_Law_law 473 (some (.inr (.inl x)) :: ls) (st) h Q) = (WP Gm j_Law_law 474 (some (.inr (.inl x)) :: ls) (.inr (.inl x) :: st) (h) Q) := (WP_at c_Law_law_473 _ _ _ _)
set_option maxRecDepth 100000 in
theorem c_Law_law_474 : mCode j_Law_law 474 = oIld 4 476 := (rfl)
theorem e_Law_law_474 (a0 a1 a2 a3 : Option MV) (x : Int32) : (WP Gm j_Law_law 474 (a0 :: a1 :: a2 :: a3 :: some (.inl x) :: ls) (st) h Q) = (WP Gm j_Law_law 476 (a0 :: a1 :: a2 :: a3 :: some (.inl x) :: ls) (.inl x :: st) (h) Q) := (WP_at c_Law_law_474 _ _ _ _)
set_option maxRecDepth 100000 in
theorem c_Law_law_476 : mCode j_Law_law 476 = oI 3 477 := (rfl)
theorem e_Law_law_476  : (WP Gm j_Law_law 476 (ls) (st) h Q) = (WP Gm j_Law_law 477 (ls) (.inl 3 :: st) (h) Q) := (WP_at c_Law_law_476 _ _ _ _)
set_option maxRecDepth 100000 in
theorem c_Law_law_477 : mCode j_Law_law 477 = oII (fun x y => x + y) 478 := (rfl)
theorem e_Law_law_477 (x : Int32) (y : Int32) : (WP Gm j_Law_law 477 (ls) (.inl y :: .inl x :: st) h Q) = (WP Gm j_Law_law 478 (ls) (.inl (x + y) :: st) (h) Q) := (WP_at c_Law_law_477 _ _ _ _)
set_option maxRecDepth 100000 in
theorem c_Law_law_478 : mCode j_Law_law 478 = oIal 0 479 := (rfl)
theorem e_Law_law_478 (a : Nat) (i : Int32) (hk : isK h a 100 = true) (hi : inL h a i = true) : (WP Gm j_Law_law 478 (ls) (.inl i :: .inr (.inl (some a)) :: st) h Q) = (WP Gm j_Law_law 479 (ls) (.inl (gI h a i.toNatClampNeg) :: st) (h) Q) := (WP_at c_Law_law_478 _ _ _ _).trans (congrArg (fun o => ndX Gm (WP Gm) j_Law_law 478 o Q) (if_pos (by rw [hk, hi]; rfl)))
set_option maxRecDepth 100000 in
theorem c_Law_law_479 : mCode j_Law_law 479 = oAld 3 480 := (rfl)
theorem e_Law_law_479 (a0 a1 a2 : Option MV) (x : Option Nat) : (WP Gm j_Law_law 479 (a0 :: a1 :: a2 :: some (.inr (.inl x)) :: ls) (st) h Q) = (WP Gm j_Law_law 480 (a0 :: a1 :: a2 :: some (.inr (.inl x)) :: ls) (.inr (.inl x) :: st) (h) Q) := (WP_at c_Law_law_479 _ _ _ _)
set_option maxRecDepth 100000 in
theorem c_Law_law_480 : mCode j_Law_law 480 = oCallS j_Law_bid 5 (mL j_Law_bid) 483 := (rfl)
theorem e_Law_law_480 (x0 : Option Nat) (x1 : Int32) (x2 : Int32) (x3 : Int32) (x4 : Option Nat) (hc : c8 st = true) : (WP Gm j_Law_law 480 (ls) (.inr (.inl x4) :: .inl x3 :: .inl x2 :: .inl x1 :: .inr (.inl x0) :: st) h Q) = (WP Gm j_Law_bid 0 [some (.inr (.inl x0)), some (.inl x1), some (.inl x2), some (.inl x3), some (.inr (.inl x4)), none] [] h (kC (fun v h2 => WP Gm j_Law_law 483 ls (v.toList ++ st) h2 Q) (fun E h2 => Q (.inr E) h2))) := (WP_at c_Law_law_480 _ _ _ _).trans (congrArg (fun o => ndX Gm (WP Gm) j_Law_law 480 o Q) (if_pos (by rw [show decide (catS st ≤ 8) = true from hc]; rfl)))
set_option maxRecDepth 100000 in
theorem c_Law_law_483 : mCode j_Law_law 483 = oIst 5 485 := (rfl)
theorem e_Law_law_483 (x : Int32) : (WP Gm j_Law_law 483 (ls) (.inl x :: st) h Q) = (WP Gm j_Law_law 485 (lSet1 ls 5 (some (.inl x))) (st) (h) Q) := (WP_at c_Law_law_483 _ _ _ _)
set_option maxRecDepth 100000 in
theorem c_Law_law_485 : mCode j_Law_law 485 = oAld 2 486 := (rfl)
theorem e_Law_law_485 (a0 a1 : Option MV) (x : Option Nat) : (WP Gm j_Law_law 485 (a0 :: a1 :: some (.inr (.inl x)) :: ls) (st) h Q) = (WP Gm j_Law_law 486 (a0 :: a1 :: some (.inr (.inl x)) :: ls) (.inr (.inl x) :: st) (h) Q) := (WP_at c_Law_law_485 _ _ _ _)
set_option maxRecDepth 100000 in
theorem c_Law_law_486 : mCode j_Law_law 486 = oAld 0 487 := (rfl)
theorem e_Law_law_486 (x : Option Nat) : (WP Gm j_Law_law 486 (some (.inr (.inl x)) :: ls) (st) h Q) = (WP Gm j_Law_law 487 (some (.inr (.inl x)) :: ls) (.inr (.inl x) :: st) (h) Q) := (WP_at c_Law_law_486 _ _ _ _)
set_option maxRecDepth 100000 in
theorem c_Law_law_487 : mCode j_Law_law 487 = oIld 4 489 := (rfl)
theorem e_Law_law_487 (a0 a1 a2 a3 : Option MV) (x : Int32) : (WP Gm j_Law_law 487 (a0 :: a1 :: a2 :: a3 :: some (.inl x) :: ls) (st) h Q) = (WP Gm j_Law_law 489 (a0 :: a1 :: a2 :: a3 :: some (.inl x) :: ls) (.inl x :: st) (h) Q) := (WP_at c_Law_law_487 _ _ _ _)
set_option maxRecDepth 100000 in
theorem c_Law_law_489 : mCode j_Law_law 489 = oI 1 490 := (rfl)
theorem e_Law_law_489  : (WP Gm j_Law_law 489 (ls) (st) h Q) = (WP Gm j_Law_law 490 (ls) (.inl 1 :: st) (h) Q) := (WP_at c_Law_law_489 _ _ _ _)
set_option maxRecDepth 100000 in
theorem c_Law_law_490 : mCode j_Law_law 490 = oII (fun x y => x + y) 491 := (rfl)
theorem e_Law_law_490 (x : Int32) (y : Int32) : (WP Gm j_Law_law 490 (ls) (.inl y :: .inl x :: st) h Q) = (WP Gm j_Law_law 491 (ls) (.inl (x + y) :: st) (h) Q) := (WP_at c_Law_law_490 _ _ _ _)
set_option maxRecDepth 100000 in
theorem c_Law_law_491 : mCode j_Law_law 491 = oIal 0 492 := (rfl)
theorem e_Law_law_491 (a : Nat) (i : Int32) (hk : isK h a 100 = true) (hi : inL h a i = true) : (WP Gm j_Law_law 491 (ls) (.inl i :: .inr (.inl (some a)) :: st) h Q) = (WP Gm j_Law_law 492 (ls) (.inl (gI h a i.toNatClampNeg) :: st) (h) Q) := (WP_at c_Law_law_491 _ _ _ _).trans (congrArg (fun o => ndX Gm (WP Gm) j_Law_law 491 o Q) (if_pos (by rw [hk, hi]; rfl)))
set_option maxRecDepth 100000 in
theorem c_Law_law_492 : mCode j_Law_law 492 = oAld 0 493 := (rfl)
theorem e_Law_law_492 (x : Option Nat) : (WP Gm j_Law_law 492 (some (.inr (.inl x)) :: ls) (st) h Q) = (WP Gm j_Law_law 493 (some (.inr (.inl x)) :: ls) (.inr (.inl x) :: st) (h) Q) := (WP_at c_Law_law_492 _ _ _ _)
set_option maxRecDepth 100000 in
theorem c_Law_law_493 : mCode j_Law_law 493 = oIld 4 495 := (rfl)
theorem e_Law_law_493 (a0 a1 a2 a3 : Option MV) (x : Int32) : (WP Gm j_Law_law 493 (a0 :: a1 :: a2 :: a3 :: some (.inl x) :: ls) (st) h Q) = (WP Gm j_Law_law 495 (a0 :: a1 :: a2 :: a3 :: some (.inl x) :: ls) (.inl x :: st) (h) Q) := (WP_at c_Law_law_493 _ _ _ _)
set_option maxRecDepth 100000 in
theorem c_Law_law_495 : mCode j_Law_law 495 = oI 2 496 := (rfl)
theorem e_Law_law_495  : (WP Gm j_Law_law 495 (ls) (st) h Q) = (WP Gm j_Law_law 496 (ls) (.inl 2 :: st) (h) Q) := (WP_at c_Law_law_495 _ _ _ _)
set_option maxRecDepth 100000 in
theorem c_Law_law_496 : mCode j_Law_law 496 = oII (fun x y => x + y) 497 := (rfl)
theorem e_Law_law_496 (x : Int32) (y : Int32) : (WP Gm j_Law_law 496 (ls) (.inl y :: .inl x :: st) h Q) = (WP Gm j_Law_law 497 (ls) (.inl (x + y) :: st) (h) Q) := (WP_at c_Law_law_496 _ _ _ _)
set_option maxRecDepth 100000 in
theorem c_Law_law_497 : mCode j_Law_law 497 = oIal 0 498 := (rfl)
theorem e_Law_law_497 (a : Nat) (i : Int32) (hk : isK h a 100 = true) (hi : inL h a i = true) : (WP Gm j_Law_law 497 (ls) (.inl i :: .inr (.inl (some a)) :: st) h Q) = (WP Gm j_Law_law 498 (ls) (.inl (gI h a i.toNatClampNeg) :: st) (h) Q) := (WP_at c_Law_law_497 _ _ _ _).trans (congrArg (fun o => ndX Gm (WP Gm) j_Law_law 497 o Q) (if_pos (by rw [hk, hi]; rfl)))
set_option maxRecDepth 100000 in
theorem c_Law_law_498 : mCode j_Law_law 498 = oAld 0 499 := (rfl)
theorem e_Law_law_498 (x : Option Nat) : (WP Gm j_Law_law 498 (some (.inr (.inl x)) :: ls) (st) h Q) = (WP Gm j_Law_law 499 (some (.inr (.inl x)) :: ls) (.inr (.inl x) :: st) (h) Q) := (WP_at c_Law_law_498 _ _ _ _)
set_option maxRecDepth 100000 in
theorem c_Law_law_499 : mCode j_Law_law 499 = oIld 4 501 := (rfl)
theorem e_Law_law_499 (a0 a1 a2 a3 : Option MV) (x : Int32) : (WP Gm j_Law_law 499 (a0 :: a1 :: a2 :: a3 :: some (.inl x) :: ls) (st) h Q) = (WP Gm j_Law_law 501 (a0 :: a1 :: a2 :: a3 :: some (.inl x) :: ls) (.inl x :: st) (h) Q) := (WP_at c_Law_law_499 _ _ _ _)
set_option maxRecDepth 100000 in
theorem c_Law_law_501 : mCode j_Law_law 501 = oI 3 502 := (rfl)
theorem e_Law_law_501  : (WP Gm j_Law_law 501 (ls) (st) h Q) = (WP Gm j_Law_law 502 (ls) (.inl 3 :: st) (h) Q) := (WP_at c_Law_law_501 _ _ _ _)
set_option maxRecDepth 100000 in
theorem c_Law_law_502 : mCode j_Law_law 502 = oII (fun x y => x + y) 503 := (rfl)
theorem e_Law_law_502 (x : Int32) (y : Int32) : (WP Gm j_Law_law 502 (ls) (.inl y :: .inl x :: st) h Q) = (WP Gm j_Law_law 503 (ls) (.inl (x + y) :: st) (h) Q) := (WP_at c_Law_law_502 _ _ _ _)
set_option maxRecDepth 100000 in
theorem c_Law_law_503 : mCode j_Law_law 503 = oIal 0 504 := (rfl)
theorem e_Law_law_503 (a : Nat) (i : Int32) (hk : isK h a 100 = true) (hi : inL h a i = true) : (WP Gm j_Law_law 503 (ls) (.inl i :: .inr (.inl (some a)) :: st) h Q) = (WP Gm j_Law_law 504 (ls) (.inl (gI h a i.toNatClampNeg) :: st) (h) Q) := (WP_at c_Law_law_503 _ _ _ _).trans (congrArg (fun o => ndX Gm (WP Gm) j_Law_law 503 o Q) (if_pos (by rw [hk, hi]; rfl)))
set_option maxRecDepth 100000 in
theorem c_Law_law_504 : mCode j_Law_law 504 = oCallV kc_Mdl j_Mdl_bid 3 (mL j_Mdl_bid) 507 := (rfl)
theorem e_Law_law_504 (a : Nat) (x0 : Int32) (x1 : Int32) (x2 : Int32) (hk : isK h a kc_Mdl = true) (hc : c8 st = true) : (WP Gm j_Law_law 504 (ls) (.inl x2 :: .inl x1 :: .inl x0 :: .inr (.inl (some a)) :: st) h Q) = (WP Gm j_Mdl_bid 0 [some (.inr (.inl (some a))), some (.inl x0), some (.inl x1), some (.inl x2)] [] h (kC (fun v h2 => WP Gm j_Law_law 507 ls (v.toList ++ st) h2 Q) (fun E h2 => Q (.inr E) h2))) := (WP_at c_Law_law_504 _ _ _ _).trans (congrArg (fun o => ndX Gm (WP Gm) j_Law_law 504 o Q) (if_pos (by rw [hk, show decide (catS st ≤ 8) = true from hc]; rfl)))
set_option maxRecDepth 100000 in
theorem c_Law_law_507 : mCode j_Law_law 507 = oIst 6 509 := (rfl)
theorem e_Law_law_507 (x : Int32) : (WP Gm j_Law_law 507 (ls) (.inl x :: st) h Q) = (WP Gm j_Law_law 509 (lSet1 ls 6 (some (.inl x))) (st) (h) Q) := (WP_at c_Law_law_507 _ _ _ _)
set_option maxRecDepth 100000 in
theorem c_Law_law_509 : mCode j_Law_law 509 = oGo 996 := (rfl)
theorem e_Law_law_509  : (WP Gm j_Law_law 509 (ls) (st) h Q) = (WP Gm j_Law_law 996 (ls) (st) (h) Q) := (WP_at c_Law_law_509 _ _ _ _)
set_option maxRecDepth 100000 in
theorem c_Law_law_512 : mCode j_Law_law 512 = oAld 1 513 := (rfl)
theorem e_Law_law_512 (a0 : Option MV) (x : Option Nat) : (WP Gm j_Law_law 512 (a0 :: some (.inr (.inl x)) :: ls) (st) h Q) = (WP Gm j_Law_law 513 (a0 :: some (.inr (.inl x)) :: ls) (.inr (.inl x) :: st) (h) Q) := (WP_at c_Law_law_512 _ _ _ _)
set_option maxRecDepth 100000 in
theorem c_Law_law_513 : mCode j_Law_law 513 = oCallV kc_S j_S_sell 0 (mL j_S_sell) 516 := (rfl)
theorem e_Law_law_513 (a : Nat) (hk : isK h a kc_S = true) (hc : c8 st = true) : (WP Gm j_Law_law 513 (ls) (.inr (.inl (some a)) :: st) h Q) = (WP Gm j_S_sell 0 [some (.inr (.inl (some a)))] [] h (kC (fun v h2 => WP Gm j_Law_law 516 ls (v.toList ++ st) h2 Q) (fun E h2 => Q (.inr E) h2))) := (WP_at c_Law_law_513 _ _ _ _).trans (congrArg (fun o => ndX Gm (WP Gm) j_Law_law 513 o Q) (if_pos (by rw [hk, show decide (catS st ≤ 8) = true from hc]; rfl)))
set_option maxRecDepth 100000 in
theorem c_Law_law_516 : mCode j_Law_law 516 = oPop 517 := (rfl)
theorem e_Law_law_516 (x : Int32) : (WP Gm j_Law_law 516 (ls) (.inl x :: st) h Q) = (WP Gm j_Law_law 517 (ls) (st) (h) Q) := (WP_at c_Law_law_516 _ _ _ _)
set_option maxRecDepth 100000 in
theorem c_Law_law_517 : mCode j_Law_law 517 = oAld 2 518 := (rfl)
theorem e_Law_law_517 (a0 a1 : Option MV) (x : Option Nat) : (WP Gm j_Law_law 517 (a0 :: a1 :: some (.inr (.inl x)) :: ls) (st) h Q) = (WP Gm j_Law_law 518 (a0 :: a1 :: some (.inr (.inl x)) :: ls) (.inr (.inl x) :: st) (h) Q) := (WP_at c_Law_law_517 _ _ _ _)
set_option maxRecDepth 100000 in
theorem c_Law_law_518 : mCode j_Law_law 518 = oCallV kc_Mdl j_Mdl_sell 0 (mL j_Mdl_sell) 521 := (rfl)
theorem e_Law_law_518 (a : Nat) (hk : isK h a kc_Mdl = true) (hc : c8 st = true) : (WP Gm j_Law_law 518 (ls) (.inr (.inl (some a)) :: st) h Q) = (WP Gm j_Mdl_sell 0 [some (.inr (.inl (some a))), none, none, none] [] h (kC (fun v h2 => WP Gm j_Law_law 521 ls (v.toList ++ st) h2 Q) (fun E h2 => Q (.inr E) h2))) := (WP_at c_Law_law_518 _ _ _ _).trans (congrArg (fun o => ndX Gm (WP Gm) j_Law_law 518 o Q) (if_pos (by rw [hk, show decide (catS st ≤ 8) = true from hc]; rfl)))
set_option maxRecDepth 100000 in
theorem c_Law_law_521 : mCode j_Law_law 521 = oPop 522 := (rfl)
theorem e_Law_law_521 (x : Int32) : (WP Gm j_Law_law 521 (ls) (.inl x :: st) h Q) = (WP Gm j_Law_law 522 (ls) (st) (h) Q) := (WP_at c_Law_law_521 _ _ _ _)
set_option maxRecDepth 100000 in
theorem c_Law_law_522 : mCode j_Law_law 522 = oGo 996 := (rfl)
theorem e_Law_law_522  : (WP Gm j_Law_law 522 (ls) (st) h Q) = (WP Gm j_Law_law 996 (ls) (st) (h) Q) := (WP_at c_Law_law_522 _ _ _ _)
set_option maxRecDepth 100000 in
theorem c_Law_law_525 : mCode j_Law_law 525 = oAld 1 526 := (rfl)
theorem e_Law_law_525 (a0 : Option MV) (x : Option Nat) : (WP Gm j_Law_law 525 (a0 :: some (.inr (.inl x)) :: ls) (st) h Q) = (WP Gm j_Law_law 526 (a0 :: some (.inr (.inl x)) :: ls) (.inr (.inl x) :: st) (h) Q) := (WP_at c_Law_law_525 _ _ _ _)
set_option maxRecDepth 100000 in
theorem c_Law_law_526 : mCode j_Law_law 526 = oCallV kc_S j_S_knock 0 (mL j_S_knock) 529 := (rfl)
theorem e_Law_law_526 (a : Nat) (hk : isK h a kc_S = true) (hc : c8 st = true) : (WP Gm j_Law_law 526 (ls) (.inr (.inl (some a)) :: st) h Q) = (WP Gm j_S_knock 0 [some (.inr (.inl (some a)))] [] h (kC (fun v h2 => WP Gm j_Law_law 529 ls (v.toList ++ st) h2 Q) (fun E h2 => Q (.inr E) h2))) := (WP_at c_Law_law_526 _ _ _ _).trans (congrArg (fun o => ndX Gm (WP Gm) j_Law_law 526 o Q) (if_pos (by rw [hk, show decide (catS st ≤ 8) = true from hc]; rfl)))
set_option maxRecDepth 100000 in
theorem c_Law_law_529 : mCode j_Law_law 529 = oPop 530 := (rfl)
theorem e_Law_law_529 (x : Int32) : (WP Gm j_Law_law 529 (ls) (.inl x :: st) h Q) = (WP Gm j_Law_law 530 (ls) (st) (h) Q) := (WP_at c_Law_law_529 _ _ _ _)
set_option maxRecDepth 100000 in
theorem c_Law_law_530 : mCode j_Law_law 530 = oAld 2 531 := (rfl)
theorem e_Law_law_530 (a0 a1 : Option MV) (x : Option Nat) : (WP Gm j_Law_law 530 (a0 :: a1 :: some (.inr (.inl x)) :: ls) (st) h Q) = (WP Gm j_Law_law 531 (a0 :: a1 :: some (.inr (.inl x)) :: ls) (.inr (.inl x) :: st) (h) Q) := (WP_at c_Law_law_530 _ _ _ _)
set_option maxRecDepth 100000 in
theorem c_Law_law_531 : mCode j_Law_law 531 = oCallV kc_Mdl j_Mdl_knock 0 (mL j_Mdl_knock) 534 := (rfl)
theorem e_Law_law_531 (a : Nat) (hk : isK h a kc_Mdl = true) (hc : c8 st = true) : (WP Gm j_Law_law 531 (ls) (.inr (.inl (some a)) :: st) h Q) = (WP Gm j_Mdl_knock 0 [some (.inr (.inl (some a)))] [] h (kC (fun v h2 => WP Gm j_Law_law 534 ls (v.toList ++ st) h2 Q) (fun E h2 => Q (.inr E) h2))) := (WP_at c_Law_law_531 _ _ _ _).trans (congrArg (fun o => ndX Gm (WP Gm) j_Law_law 531 o Q) (if_pos (by rw [hk, show decide (catS st ≤ 8) = true from hc]; rfl)))
set_option maxRecDepth 100000 in
theorem c_Law_law_534 : mCode j_Law_law 534 = oPop 535 := (rfl)
theorem e_Law_law_534 (x : Int32) : (WP Gm j_Law_law 534 (ls) (.inl x :: st) h Q) = (WP Gm j_Law_law 535 (ls) (st) (h) Q) := (WP_at c_Law_law_534 _ _ _ _)
set_option maxRecDepth 100000 in
theorem c_Law_law_535 : mCode j_Law_law 535 = oGo 996 := (rfl)
theorem e_Law_law_535  : (WP Gm j_Law_law 535 (ls) (st) h Q) = (WP Gm j_Law_law 996 (ls) (st) (h) Q) := (WP_at c_Law_law_535 _ _ _ _)
set_option maxRecDepth 100000 in
theorem c_Law_law_538 : mCode j_Law_law 538 = oAld 1 539 := (rfl)
theorem e_Law_law_538 (a0 : Option MV) (x : Option Nat) : (WP Gm j_Law_law 538 (a0 :: some (.inr (.inl x)) :: ls) (st) h Q) = (WP Gm j_Law_law 539 (a0 :: some (.inr (.inl x)) :: ls) (.inr (.inl x) :: st) (h) Q) := (WP_at c_Law_law_538 _ _ _ _)
set_option maxRecDepth 100000 in
theorem c_Law_law_539 : mCode j_Law_law 539 = oAld 0 540 := (rfl)
theorem e_Law_law_539 (x : Option Nat) : (WP Gm j_Law_law 539 (some (.inr (.inl x)) :: ls) (st) h Q) = (WP Gm j_Law_law 540 (some (.inr (.inl x)) :: ls) (.inr (.inl x) :: st) (h) Q) := (WP_at c_Law_law_539 _ _ _ _)
set_option maxRecDepth 100000 in
theorem c_Law_law_540 : mCode j_Law_law 540 = oIld 4 542 := (rfl)
theorem e_Law_law_540 (a0 a1 a2 a3 : Option MV) (x : Int32) : (WP Gm j_Law_law 540 (a0 :: a1 :: a2 :: a3 :: some (.inl x) :: ls) (st) h Q) = (WP Gm j_Law_law 542 (a0 :: a1 :: a2 :: a3 :: some (.inl x) :: ls) (.inl x :: st) (h) Q) := (WP_at c_Law_law_540 _ _ _ _)
set_option maxRecDepth 100000 in
theorem c_Law_law_542 : mCode j_Law_law 542 = oI 1 543 := (rfl)
theorem e_Law_law_542  : (WP Gm j_Law_law 542 (ls) (st) h Q) = (WP Gm j_Law_law 543 (ls) (.inl 1 :: st) (h) Q) := (WP_at c_Law_law_542 _ _ _ _)
set_option maxRecDepth 100000 in
theorem c_Law_law_543 : mCode j_Law_law 543 = oII (fun x y => x + y) 544 := (rfl)
theorem e_Law_law_543 (x : Int32) (y : Int32) : (WP Gm j_Law_law 543 (ls) (.inl y :: .inl x :: st) h Q) = (WP Gm j_Law_law 544 (ls) (.inl (x + y) :: st) (h) Q) := (WP_at c_Law_law_543 _ _ _ _)
set_option maxRecDepth 100000 in
theorem c_Law_law_544 : mCode j_Law_law 544 = oIal 0 545 := (rfl)
theorem e_Law_law_544 (a : Nat) (i : Int32) (hk : isK h a 100 = true) (hi : inL h a i = true) : (WP Gm j_Law_law 544 (ls) (.inl i :: .inr (.inl (some a)) :: st) h Q) = (WP Gm j_Law_law 545 (ls) (.inl (gI h a i.toNatClampNeg) :: st) (h) Q) := (WP_at c_Law_law_544 _ _ _ _).trans (congrArg (fun o => ndX Gm (WP Gm) j_Law_law 544 o Q) (if_pos (by rw [hk, hi]; rfl)))
set_option maxRecDepth 100000 in
theorem c_Law_law_545 : mCode j_Law_law 545 = oAld 0 546 := (rfl)
theorem e_Law_law_545 (x : Option Nat) : (WP Gm j_Law_law 545 (some (.inr (.inl x)) :: ls) (st) h Q) = (WP Gm j_Law_law 546 (some (.inr (.inl x)) :: ls) (.inr (.inl x) :: st) (h) Q) := (WP_at c_Law_law_545 _ _ _ _)
set_option maxRecDepth 100000 in
theorem c_Law_law_546 : mCode j_Law_law 546 = oIld 4 548 := (rfl)
theorem e_Law_law_546 (a0 a1 a2 a3 : Option MV) (x : Int32) : (WP Gm j_Law_law 546 (a0 :: a1 :: a2 :: a3 :: some (.inl x) :: ls) (st) h Q) = (WP Gm j_Law_law 548 (a0 :: a1 :: a2 :: a3 :: some (.inl x) :: ls) (.inl x :: st) (h) Q) := (WP_at c_Law_law_546 _ _ _ _)
set_option maxRecDepth 100000 in
theorem c_Law_law_548 : mCode j_Law_law 548 = oI 2 549 := (rfl)
theorem e_Law_law_548  : (WP Gm j_Law_law 548 (ls) (st) h Q) = (WP Gm j_Law_law 549 (ls) (.inl 2 :: st) (h) Q) := (WP_at c_Law_law_548 _ _ _ _)
set_option maxRecDepth 100000 in
theorem c_Law_law_549 : mCode j_Law_law 549 = oII (fun x y => x + y) 550 := (rfl)
theorem e_Law_law_549 (x : Int32) (y : Int32) : (WP Gm j_Law_law 549 (ls) (.inl y :: .inl x :: st) h Q) = (WP Gm j_Law_law 550 (ls) (.inl (x + y) :: st) (h) Q) := (WP_at c_Law_law_549 _ _ _ _)
set_option maxRecDepth 100000 in
theorem c_Law_law_550 : mCode j_Law_law 550 = oIal 0 551 := (rfl)
theorem e_Law_law_550 (a : Nat) (i : Int32) (hk : isK h a 100 = true) (hi : inL h a i = true) : (WP Gm j_Law_law 550 (ls) (.inl i :: .inr (.inl (some a)) :: st) h Q) = (WP Gm j_Law_law 551 (ls) (.inl (gI h a i.toNatClampNeg) :: st) (h) Q) := (WP_at c_Law_law_550 _ _ _ _).trans (congrArg (fun o => ndX Gm (WP Gm) j_Law_law 550 o Q) (if_pos (by rw [hk, hi]; rfl)))
set_option maxRecDepth 100000 in
theorem c_Law_law_551 : mCode j_Law_law 551 = oAld 3 552 := (rfl)
theorem e_Law_law_551 (a0 a1 a2 : Option MV) (x : Option Nat) : (WP Gm j_Law_law 551 (a0 :: a1 :: a2 :: some (.inr (.inl x)) :: ls) (st) h Q) = (WP Gm j_Law_law 552 (a0 :: a1 :: a2 :: some (.inr (.inl x)) :: ls) (.inr (.inl x) :: st) (h) Q) := (WP_at c_Law_law_551 _ _ _ _)
set_option maxRecDepth 100000 in
theorem c_Law_law_552 : mCode j_Law_law 552 = oCallS j_Law_hears 4 (mL j_Law_hears) 555 := (rfl)
theorem e_Law_law_552 (x0 : Option Nat) (x1 : Int32) (x2 : Int32) (x3 : Option Nat) (hc : c8 st = true) : (WP Gm j_Law_law 552 (ls) (.inr (.inl x3) :: .inl x2 :: .inl x1 :: .inr (.inl x0) :: st) h Q) = (WP Gm j_Law_hears 0 [some (.inr (.inl x0)), some (.inl x1), some (.inl x2), some (.inr (.inl x3)), none] [] h (kC (fun v h2 => WP Gm j_Law_law 555 ls (v.toList ++ st) h2 Q) (fun E h2 => Q (.inr E) h2))) := (WP_at c_Law_law_552 _ _ _ _).trans (congrArg (fun o => ndX Gm (WP Gm) j_Law_law 552 o Q) (if_pos (by rw [show decide (catS st ≤ 8) = true from hc]; rfl)))
set_option maxRecDepth 100000 in
theorem c_Law_law_555 : mCode j_Law_law 555 = oIst 5 557 := (rfl)
theorem e_Law_law_555 (x : Int32) : (WP Gm j_Law_law 555 (ls) (.inl x :: st) h Q) = (WP Gm j_Law_law 557 (lSet1 ls 5 (some (.inl x))) (st) (h) Q) := (WP_at c_Law_law_555 _ _ _ _)
set_option maxRecDepth 100000 in
theorem c_Law_law_557 : mCode j_Law_law 557 = oAld 2 558 := (rfl)
theorem e_Law_law_557 (a0 a1 : Option MV) (x : Option Nat) : (WP Gm j_Law_law 557 (a0 :: a1 :: some (.inr (.inl x)) :: ls) (st) h Q) = (WP Gm j_Law_law 558 (a0 :: a1 :: some (.inr (.inl x)) :: ls) (.inr (.inl x) :: st) (h) Q) := (WP_at c_Law_law_557 _ _ _ _)
set_option maxRecDepth 100000 in
theorem c_Law_law_558 : mCode j_Law_law 558 = oAld 0 559 := (rfl)
theorem e_Law_law_558 (x : Option Nat) : (WP Gm j_Law_law 558 (some (.inr (.inl x)) :: ls) (st) h Q) = (WP Gm j_Law_law 559 (some (.inr (.inl x)) :: ls) (.inr (.inl x) :: st) (h) Q) := (WP_at c_Law_law_558 _ _ _ _)
set_option maxRecDepth 100000 in
theorem c_Law_law_559 : mCode j_Law_law 559 = oIld 4 561 := (rfl)
theorem e_Law_law_559 (a0 a1 a2 a3 : Option MV) (x : Int32) : (WP Gm j_Law_law 559 (a0 :: a1 :: a2 :: a3 :: some (.inl x) :: ls) (st) h Q) = (WP Gm j_Law_law 561 (a0 :: a1 :: a2 :: a3 :: some (.inl x) :: ls) (.inl x :: st) (h) Q) := (WP_at c_Law_law_559 _ _ _ _)
set_option maxRecDepth 100000 in
theorem c_Law_law_561 : mCode j_Law_law 561 = oI 1 562 := (rfl)
theorem e_Law_law_561  : (WP Gm j_Law_law 561 (ls) (st) h Q) = (WP Gm j_Law_law 562 (ls) (.inl 1 :: st) (h) Q) := (WP_at c_Law_law_561 _ _ _ _)
set_option maxRecDepth 100000 in
theorem c_Law_law_562 : mCode j_Law_law 562 = oII (fun x y => x + y) 563 := (rfl)
theorem e_Law_law_562 (x : Int32) (y : Int32) : (WP Gm j_Law_law 562 (ls) (.inl y :: .inl x :: st) h Q) = (WP Gm j_Law_law 563 (ls) (.inl (x + y) :: st) (h) Q) := (WP_at c_Law_law_562 _ _ _ _)
set_option maxRecDepth 100000 in
theorem c_Law_law_563 : mCode j_Law_law 563 = oIal 0 564 := (rfl)
theorem e_Law_law_563 (a : Nat) (i : Int32) (hk : isK h a 100 = true) (hi : inL h a i = true) : (WP Gm j_Law_law 563 (ls) (.inl i :: .inr (.inl (some a)) :: st) h Q) = (WP Gm j_Law_law 564 (ls) (.inl (gI h a i.toNatClampNeg) :: st) (h) Q) := (WP_at c_Law_law_563 _ _ _ _).trans (congrArg (fun o => ndX Gm (WP Gm) j_Law_law 563 o Q) (if_pos (by rw [hk, hi]; rfl)))
set_option maxRecDepth 100000 in
theorem c_Law_law_564 : mCode j_Law_law 564 = oAld 0 565 := (rfl)
theorem e_Law_law_564 (x : Option Nat) : (WP Gm j_Law_law 564 (some (.inr (.inl x)) :: ls) (st) h Q) = (WP Gm j_Law_law 565 (some (.inr (.inl x)) :: ls) (.inr (.inl x) :: st) (h) Q) := (WP_at c_Law_law_564 _ _ _ _)
set_option maxRecDepth 100000 in
theorem c_Law_law_565 : mCode j_Law_law 565 = oIld 4 567 := (rfl)
theorem e_Law_law_565 (a0 a1 a2 a3 : Option MV) (x : Int32) : (WP Gm j_Law_law 565 (a0 :: a1 :: a2 :: a3 :: some (.inl x) :: ls) (st) h Q) = (WP Gm j_Law_law 567 (a0 :: a1 :: a2 :: a3 :: some (.inl x) :: ls) (.inl x :: st) (h) Q) := (WP_at c_Law_law_565 _ _ _ _)
set_option maxRecDepth 100000 in
theorem c_Law_law_567 : mCode j_Law_law 567 = oI 2 568 := (rfl)
theorem e_Law_law_567  : (WP Gm j_Law_law 567 (ls) (st) h Q) = (WP Gm j_Law_law 568 (ls) (.inl 2 :: st) (h) Q) := (WP_at c_Law_law_567 _ _ _ _)
set_option maxRecDepth 100000 in
theorem c_Law_law_568 : mCode j_Law_law 568 = oII (fun x y => x + y) 569 := (rfl)
theorem e_Law_law_568 (x : Int32) (y : Int32) : (WP Gm j_Law_law 568 (ls) (.inl y :: .inl x :: st) h Q) = (WP Gm j_Law_law 569 (ls) (.inl (x + y) :: st) (h) Q) := (WP_at c_Law_law_568 _ _ _ _)
set_option maxRecDepth 100000 in
theorem c_Law_law_569 : mCode j_Law_law 569 = oIal 0 570 := (rfl)
theorem e_Law_law_569 (a : Nat) (i : Int32) (hk : isK h a 100 = true) (hi : inL h a i = true) : (WP Gm j_Law_law 569 (ls) (.inl i :: .inr (.inl (some a)) :: st) h Q) = (WP Gm j_Law_law 570 (ls) (.inl (gI h a i.toNatClampNeg) :: st) (h) Q) := (WP_at c_Law_law_569 _ _ _ _).trans (congrArg (fun o => ndX Gm (WP Gm) j_Law_law 569 o Q) (if_pos (by rw [hk, hi]; rfl)))
set_option maxRecDepth 100000 in
theorem c_Law_law_570 : mCode j_Law_law 570 = oCallV kc_Mdl j_Mdl_hears 2 (mL j_Mdl_hears) 573 := (rfl)
theorem e_Law_law_570 (a : Nat) (x0 : Int32) (x1 : Int32) (hk : isK h a kc_Mdl = true) (hc : c8 st = true) : (WP Gm j_Law_law 570 (ls) (.inl x1 :: .inl x0 :: .inr (.inl (some a)) :: st) h Q) = (WP Gm j_Mdl_hears 0 [some (.inr (.inl (some a))), some (.inl x0), some (.inl x1)] [] h (kC (fun v h2 => WP Gm j_Law_law 573 ls (v.toList ++ st) h2 Q) (fun E h2 => Q (.inr E) h2))) := (WP_at c_Law_law_570 _ _ _ _).trans (congrArg (fun o => ndX Gm (WP Gm) j_Law_law 570 o Q) (if_pos (by rw [hk, show decide (catS st ≤ 8) = true from hc]; rfl)))
set_option maxRecDepth 100000 in
theorem c_Law_law_573 : mCode j_Law_law 573 = oIst 6 575 := (rfl)
theorem e_Law_law_573 (x : Int32) : (WP Gm j_Law_law 573 (ls) (.inl x :: st) h Q) = (WP Gm j_Law_law 575 (lSet1 ls 6 (some (.inl x))) (st) (h) Q) := (WP_at c_Law_law_573 _ _ _ _)
set_option maxRecDepth 100000 in
theorem c_Law_law_575 : mCode j_Law_law 575 = oGo 996 := (rfl)
theorem e_Law_law_575  : (WP Gm j_Law_law 575 (ls) (st) h Q) = (WP Gm j_Law_law 996 (ls) (st) (h) Q) := (WP_at c_Law_law_575 _ _ _ _)
set_option maxRecDepth 100000 in
theorem c_Law_law_578 : mCode j_Law_law 578 = oAld 1 579 := (rfl)
theorem e_Law_law_578 (a0 : Option MV) (x : Option Nat) : (WP Gm j_Law_law 578 (a0 :: some (.inr (.inl x)) :: ls) (st) h Q) = (WP Gm j_Law_law 579 (a0 :: some (.inr (.inl x)) :: ls) (.inr (.inl x) :: st) (h) Q) := (WP_at c_Law_law_578 _ _ _ _)
set_option maxRecDepth 100000 in
theorem c_Law_law_579 : mCode j_Law_law 579 = oAld 0 580 := (rfl)
theorem e_Law_law_579 (x : Option Nat) : (WP Gm j_Law_law 579 (some (.inr (.inl x)) :: ls) (st) h Q) = (WP Gm j_Law_law 580 (some (.inr (.inl x)) :: ls) (.inr (.inl x) :: st) (h) Q) := (WP_at c_Law_law_579 _ _ _ _)
set_option maxRecDepth 100000 in
theorem c_Law_law_580 : mCode j_Law_law 580 = oIld 4 582 := (rfl)
theorem e_Law_law_580 (a0 a1 a2 a3 : Option MV) (x : Int32) : (WP Gm j_Law_law 580 (a0 :: a1 :: a2 :: a3 :: some (.inl x) :: ls) (st) h Q) = (WP Gm j_Law_law 582 (a0 :: a1 :: a2 :: a3 :: some (.inl x) :: ls) (.inl x :: st) (h) Q) := (WP_at c_Law_law_580 _ _ _ _)
set_option maxRecDepth 100000 in
theorem c_Law_law_582 : mCode j_Law_law 582 = oI 1 583 := (rfl)
theorem e_Law_law_582  : (WP Gm j_Law_law 582 (ls) (st) h Q) = (WP Gm j_Law_law 583 (ls) (.inl 1 :: st) (h) Q) := (WP_at c_Law_law_582 _ _ _ _)
set_option maxRecDepth 100000 in
theorem c_Law_law_583 : mCode j_Law_law 583 = oII (fun x y => x + y) 584 := (rfl)
theorem e_Law_law_583 (x : Int32) (y : Int32) : (WP Gm j_Law_law 583 (ls) (.inl y :: .inl x :: st) h Q) = (WP Gm j_Law_law 584 (ls) (.inl (x + y) :: st) (h) Q) := (WP_at c_Law_law_583 _ _ _ _)
set_option maxRecDepth 100000 in
theorem c_Law_law_584 : mCode j_Law_law 584 = oIal 0 585 := (rfl)
theorem e_Law_law_584 (a : Nat) (i : Int32) (hk : isK h a 100 = true) (hi : inL h a i = true) : (WP Gm j_Law_law 584 (ls) (.inl i :: .inr (.inl (some a)) :: st) h Q) = (WP Gm j_Law_law 585 (ls) (.inl (gI h a i.toNatClampNeg) :: st) (h) Q) := (WP_at c_Law_law_584 _ _ _ _).trans (congrArg (fun o => ndX Gm (WP Gm) j_Law_law 584 o Q) (if_pos (by rw [hk, hi]; rfl)))
set_option maxRecDepth 100000 in
theorem c_Law_law_585 : mCode j_Law_law 585 = oAld 0 586 := (rfl)
theorem e_Law_law_585 (x : Option Nat) : (WP Gm j_Law_law 585 (some (.inr (.inl x)) :: ls) (st) h Q) = (WP Gm j_Law_law 586 (some (.inr (.inl x)) :: ls) (.inr (.inl x) :: st) (h) Q) := (WP_at c_Law_law_585 _ _ _ _)
set_option maxRecDepth 100000 in
theorem c_Law_law_586 : mCode j_Law_law 586 = oIld 4 588 := (rfl)
theorem e_Law_law_586 (a0 a1 a2 a3 : Option MV) (x : Int32) : (WP Gm j_Law_law 586 (a0 :: a1 :: a2 :: a3 :: some (.inl x) :: ls) (st) h Q) = (WP Gm j_Law_law 588 (a0 :: a1 :: a2 :: a3 :: some (.inl x) :: ls) (.inl x :: st) (h) Q) := (WP_at c_Law_law_586 _ _ _ _)
set_option maxRecDepth 100000 in
theorem c_Law_law_588 : mCode j_Law_law 588 = oI 2 589 := (rfl)
theorem e_Law_law_588  : (WP Gm j_Law_law 588 (ls) (st) h Q) = (WP Gm j_Law_law 589 (ls) (.inl 2 :: st) (h) Q) := (WP_at c_Law_law_588 _ _ _ _)
set_option maxRecDepth 100000 in
theorem c_Law_law_589 : mCode j_Law_law 589 = oII (fun x y => x + y) 590 := (rfl)
theorem e_Law_law_589 (x : Int32) (y : Int32) : (WP Gm j_Law_law 589 (ls) (.inl y :: .inl x :: st) h Q) = (WP Gm j_Law_law 590 (ls) (.inl (x + y) :: st) (h) Q) := (WP_at c_Law_law_589 _ _ _ _)
set_option maxRecDepth 100000 in
theorem c_Law_law_590 : mCode j_Law_law 590 = oIal 0 591 := (rfl)
theorem e_Law_law_590 (a : Nat) (i : Int32) (hk : isK h a 100 = true) (hi : inL h a i = true) : (WP Gm j_Law_law 590 (ls) (.inl i :: .inr (.inl (some a)) :: st) h Q) = (WP Gm j_Law_law 591 (ls) (.inl (gI h a i.toNatClampNeg) :: st) (h) Q) := (WP_at c_Law_law_590 _ _ _ _).trans (congrArg (fun o => ndX Gm (WP Gm) j_Law_law 590 o Q) (if_pos (by rw [hk, hi]; rfl)))
set_option maxRecDepth 100000 in
theorem c_Law_law_591 : mCode j_Law_law 591 = oAld 3 592 := (rfl)
theorem e_Law_law_591 (a0 a1 a2 : Option MV) (x : Option Nat) : (WP Gm j_Law_law 591 (a0 :: a1 :: a2 :: some (.inr (.inl x)) :: ls) (st) h Q) = (WP Gm j_Law_law 592 (a0 :: a1 :: a2 :: some (.inr (.inl x)) :: ls) (.inr (.inl x) :: st) (h) Q) := (WP_at c_Law_law_591 _ _ _ _)
set_option maxRecDepth 100000 in
theorem c_Law_law_592 : mCode j_Law_law 592 = oCallS j_Law_ofNode 4 (mL j_Law_ofNode) 595 := (rfl)
theorem e_Law_law_592 (x0 : Option Nat) (x1 : Int32) (x2 : Int32) (x3 : Option Nat) (hc : c8 st = true) : (WP Gm j_Law_law 592 (ls) (.inr (.inl x3) :: .inl x2 :: .inl x1 :: .inr (.inl x0) :: st) h Q) = (WP Gm j_Law_ofNode 0 [some (.inr (.inl x0)), some (.inl x1), some (.inl x2), some (.inr (.inl x3)), none] [] h (kC (fun v h2 => WP Gm j_Law_law 595 ls (v.toList ++ st) h2 Q) (fun E h2 => Q (.inr E) h2))) := (WP_at c_Law_law_592 _ _ _ _).trans (congrArg (fun o => ndX Gm (WP Gm) j_Law_law 592 o Q) (if_pos (by rw [show decide (catS st ≤ 8) = true from hc]; rfl)))
set_option maxRecDepth 100000 in
theorem c_Law_law_595 : mCode j_Law_law 595 = oIst 5 597 := (rfl)
theorem e_Law_law_595 (x : Int32) : (WP Gm j_Law_law 595 (ls) (.inl x :: st) h Q) = (WP Gm j_Law_law 597 (lSet1 ls 5 (some (.inl x))) (st) (h) Q) := (WP_at c_Law_law_595 _ _ _ _)
set_option maxRecDepth 100000 in
theorem c_Law_law_597 : mCode j_Law_law 597 = oAld 2 598 := (rfl)
theorem e_Law_law_597 (a0 a1 : Option MV) (x : Option Nat) : (WP Gm j_Law_law 597 (a0 :: a1 :: some (.inr (.inl x)) :: ls) (st) h Q) = (WP Gm j_Law_law 598 (a0 :: a1 :: some (.inr (.inl x)) :: ls) (.inr (.inl x) :: st) (h) Q) := (WP_at c_Law_law_597 _ _ _ _)
set_option maxRecDepth 100000 in
theorem c_Law_law_598 : mCode j_Law_law 598 = oAld 0 599 := (rfl)
theorem e_Law_law_598 (x : Option Nat) : (WP Gm j_Law_law 598 (some (.inr (.inl x)) :: ls) (st) h Q) = (WP Gm j_Law_law 599 (some (.inr (.inl x)) :: ls) (.inr (.inl x) :: st) (h) Q) := (WP_at c_Law_law_598 _ _ _ _)
set_option maxRecDepth 100000 in
theorem c_Law_law_599 : mCode j_Law_law 599 = oIld 4 601 := (rfl)
theorem e_Law_law_599 (a0 a1 a2 a3 : Option MV) (x : Int32) : (WP Gm j_Law_law 599 (a0 :: a1 :: a2 :: a3 :: some (.inl x) :: ls) (st) h Q) = (WP Gm j_Law_law 601 (a0 :: a1 :: a2 :: a3 :: some (.inl x) :: ls) (.inl x :: st) (h) Q) := (WP_at c_Law_law_599 _ _ _ _)
set_option maxRecDepth 100000 in
theorem c_Law_law_601 : mCode j_Law_law 601 = oI 1 602 := (rfl)
theorem e_Law_law_601  : (WP Gm j_Law_law 601 (ls) (st) h Q) = (WP Gm j_Law_law 602 (ls) (.inl 1 :: st) (h) Q) := (WP_at c_Law_law_601 _ _ _ _)
set_option maxRecDepth 100000 in
theorem c_Law_law_602 : mCode j_Law_law 602 = oII (fun x y => x + y) 603 := (rfl)
theorem e_Law_law_602 (x : Int32) (y : Int32) : (WP Gm j_Law_law 602 (ls) (.inl y :: .inl x :: st) h Q) = (WP Gm j_Law_law 603 (ls) (.inl (x + y) :: st) (h) Q) := (WP_at c_Law_law_602 _ _ _ _)
set_option maxRecDepth 100000 in
theorem c_Law_law_603 : mCode j_Law_law 603 = oIal 0 604 := (rfl)
theorem e_Law_law_603 (a : Nat) (i : Int32) (hk : isK h a 100 = true) (hi : inL h a i = true) : (WP Gm j_Law_law 603 (ls) (.inl i :: .inr (.inl (some a)) :: st) h Q) = (WP Gm j_Law_law 604 (ls) (.inl (gI h a i.toNatClampNeg) :: st) (h) Q) := (WP_at c_Law_law_603 _ _ _ _).trans (congrArg (fun o => ndX Gm (WP Gm) j_Law_law 603 o Q) (if_pos (by rw [hk, hi]; rfl)))
set_option maxRecDepth 100000 in
theorem c_Law_law_604 : mCode j_Law_law 604 = oAld 0 605 := (rfl)
theorem e_Law_law_604 (x : Option Nat) : (WP Gm j_Law_law 604 (some (.inr (.inl x)) :: ls) (st) h Q) = (WP Gm j_Law_law 605 (some (.inr (.inl x)) :: ls) (.inr (.inl x) :: st) (h) Q) := (WP_at c_Law_law_604 _ _ _ _)
set_option maxRecDepth 100000 in
theorem c_Law_law_605 : mCode j_Law_law 605 = oIld 4 607 := (rfl)
theorem e_Law_law_605 (a0 a1 a2 a3 : Option MV) (x : Int32) : (WP Gm j_Law_law 605 (a0 :: a1 :: a2 :: a3 :: some (.inl x) :: ls) (st) h Q) = (WP Gm j_Law_law 607 (a0 :: a1 :: a2 :: a3 :: some (.inl x) :: ls) (.inl x :: st) (h) Q) := (WP_at c_Law_law_605 _ _ _ _)
set_option maxRecDepth 100000 in
theorem c_Law_law_607 : mCode j_Law_law 607 = oI 2 608 := (rfl)
theorem e_Law_law_607  : (WP Gm j_Law_law 607 (ls) (st) h Q) = (WP Gm j_Law_law 608 (ls) (.inl 2 :: st) (h) Q) := (WP_at c_Law_law_607 _ _ _ _)
set_option maxRecDepth 100000 in
theorem c_Law_law_608 : mCode j_Law_law 608 = oII (fun x y => x + y) 609 := (rfl)
theorem e_Law_law_608 (x : Int32) (y : Int32) : (WP Gm j_Law_law 608 (ls) (.inl y :: .inl x :: st) h Q) = (WP Gm j_Law_law 609 (ls) (.inl (x + y) :: st) (h) Q) := (WP_at c_Law_law_608 _ _ _ _)
set_option maxRecDepth 100000 in
theorem c_Law_law_609 : mCode j_Law_law 609 = oIal 0 610 := (rfl)
theorem e_Law_law_609 (a : Nat) (i : Int32) (hk : isK h a 100 = true) (hi : inL h a i = true) : (WP Gm j_Law_law 609 (ls) (.inl i :: .inr (.inl (some a)) :: st) h Q) = (WP Gm j_Law_law 610 (ls) (.inl (gI h a i.toNatClampNeg) :: st) (h) Q) := (WP_at c_Law_law_609 _ _ _ _).trans (congrArg (fun o => ndX Gm (WP Gm) j_Law_law 609 o Q) (if_pos (by rw [hk, hi]; rfl)))
set_option maxRecDepth 100000 in
theorem c_Law_law_610 : mCode j_Law_law 610 = oCallV kc_Mdl j_Mdl_ofNode 2 (mL j_Mdl_ofNode) 613 := (rfl)
theorem e_Law_law_610 (a : Nat) (x0 : Int32) (x1 : Int32) (hk : isK h a kc_Mdl = true) (hc : c8 st = true) : (WP Gm j_Law_law 610 (ls) (.inl x1 :: .inl x0 :: .inr (.inl (some a)) :: st) h Q) = (WP Gm j_Mdl_ofNode 0 [some (.inr (.inl (some a))), some (.inl x0), some (.inl x1)] [] h (kC (fun v h2 => WP Gm j_Law_law 613 ls (v.toList ++ st) h2 Q) (fun E h2 => Q (.inr E) h2))) := (WP_at c_Law_law_610 _ _ _ _).trans (congrArg (fun o => ndX Gm (WP Gm) j_Law_law 610 o Q) (if_pos (by rw [hk, show decide (catS st ≤ 8) = true from hc]; rfl)))
set_option maxRecDepth 100000 in
theorem c_Law_law_613 : mCode j_Law_law 613 = oIst 6 615 := (rfl)
theorem e_Law_law_613 (x : Int32) : (WP Gm j_Law_law 613 (ls) (.inl x :: st) h Q) = (WP Gm j_Law_law 615 (lSet1 ls 6 (some (.inl x))) (st) (h) Q) := (WP_at c_Law_law_613 _ _ _ _)
set_option maxRecDepth 100000 in
theorem c_Law_law_615 : mCode j_Law_law 615 = oGo 996 := (rfl)
theorem e_Law_law_615  : (WP Gm j_Law_law 615 (ls) (st) h Q) = (WP Gm j_Law_law 996 (ls) (st) (h) Q) := (WP_at c_Law_law_615 _ _ _ _)
set_option maxRecDepth 100000 in
theorem c_Law_law_618 : mCode j_Law_law 618 = oAld 1 619 := (rfl)
theorem e_Law_law_618 (a0 : Option MV) (x : Option Nat) : (WP Gm j_Law_law 618 (a0 :: some (.inr (.inl x)) :: ls) (st) h Q) = (WP Gm j_Law_law 619 (a0 :: some (.inr (.inl x)) :: ls) (.inr (.inl x) :: st) (h) Q) := (WP_at c_Law_law_618 _ _ _ _)
set_option maxRecDepth 100000 in
theorem c_Law_law_619 : mCode j_Law_law 619 = oAld 0 620 := (rfl)
theorem e_Law_law_619 (x : Option Nat) : (WP Gm j_Law_law 619 (some (.inr (.inl x)) :: ls) (st) h Q) = (WP Gm j_Law_law 620 (some (.inr (.inl x)) :: ls) (.inr (.inl x) :: st) (h) Q) := (WP_at c_Law_law_619 _ _ _ _)
set_option maxRecDepth 100000 in
theorem c_Law_law_620 : mCode j_Law_law 620 = oIld 4 622 := (rfl)
theorem e_Law_law_620 (a0 a1 a2 a3 : Option MV) (x : Int32) : (WP Gm j_Law_law 620 (a0 :: a1 :: a2 :: a3 :: some (.inl x) :: ls) (st) h Q) = (WP Gm j_Law_law 622 (a0 :: a1 :: a2 :: a3 :: some (.inl x) :: ls) (.inl x :: st) (h) Q) := (WP_at c_Law_law_620 _ _ _ _)
set_option maxRecDepth 100000 in
theorem c_Law_law_622 : mCode j_Law_law 622 = oI 1 623 := (rfl)
theorem e_Law_law_622  : (WP Gm j_Law_law 622 (ls) (st) h Q) = (WP Gm j_Law_law 623 (ls) (.inl 1 :: st) (h) Q) := (WP_at c_Law_law_622 _ _ _ _)
set_option maxRecDepth 100000 in
theorem c_Law_law_623 : mCode j_Law_law 623 = oII (fun x y => x + y) 624 := (rfl)
theorem e_Law_law_623 (x : Int32) (y : Int32) : (WP Gm j_Law_law 623 (ls) (.inl y :: .inl x :: st) h Q) = (WP Gm j_Law_law 624 (ls) (.inl (x + y) :: st) (h) Q) := (WP_at c_Law_law_623 _ _ _ _)
set_option maxRecDepth 100000 in
theorem c_Law_law_624 : mCode j_Law_law 624 = oIal 0 625 := (rfl)
theorem e_Law_law_624 (a : Nat) (i : Int32) (hk : isK h a 100 = true) (hi : inL h a i = true) : (WP Gm j_Law_law 624 (ls) (.inl i :: .inr (.inl (some a)) :: st) h Q) = (WP Gm j_Law_law 625 (ls) (.inl (gI h a i.toNatClampNeg) :: st) (h) Q) := (WP_at c_Law_law_624 _ _ _ _).trans (congrArg (fun o => ndX Gm (WP Gm) j_Law_law 624 o Q) (if_pos (by rw [hk, hi]; rfl)))
set_option maxRecDepth 100000 in
theorem c_Law_law_625 : mCode j_Law_law 625 = oAld 0 626 := (rfl)
theorem e_Law_law_625 (x : Option Nat) : (WP Gm j_Law_law 625 (some (.inr (.inl x)) :: ls) (st) h Q) = (WP Gm j_Law_law 626 (some (.inr (.inl x)) :: ls) (.inr (.inl x) :: st) (h) Q) := (WP_at c_Law_law_625 _ _ _ _)
set_option maxRecDepth 100000 in
theorem c_Law_law_626 : mCode j_Law_law 626 = oIld 4 628 := (rfl)
theorem e_Law_law_626 (a0 a1 a2 a3 : Option MV) (x : Int32) : (WP Gm j_Law_law 626 (a0 :: a1 :: a2 :: a3 :: some (.inl x) :: ls) (st) h Q) = (WP Gm j_Law_law 628 (a0 :: a1 :: a2 :: a3 :: some (.inl x) :: ls) (.inl x :: st) (h) Q) := (WP_at c_Law_law_626 _ _ _ _)
set_option maxRecDepth 100000 in
theorem c_Law_law_628 : mCode j_Law_law 628 = oI 2 629 := (rfl)
theorem e_Law_law_628  : (WP Gm j_Law_law 628 (ls) (st) h Q) = (WP Gm j_Law_law 629 (ls) (.inl 2 :: st) (h) Q) := (WP_at c_Law_law_628 _ _ _ _)
set_option maxRecDepth 100000 in
theorem c_Law_law_629 : mCode j_Law_law 629 = oII (fun x y => x + y) 630 := (rfl)
theorem e_Law_law_629 (x : Int32) (y : Int32) : (WP Gm j_Law_law 629 (ls) (.inl y :: .inl x :: st) h Q) = (WP Gm j_Law_law 630 (ls) (.inl (x + y) :: st) (h) Q) := (WP_at c_Law_law_629 _ _ _ _)
set_option maxRecDepth 100000 in
theorem c_Law_law_630 : mCode j_Law_law 630 = oIal 0 631 := (rfl)
theorem e_Law_law_630 (a : Nat) (i : Int32) (hk : isK h a 100 = true) (hi : inL h a i = true) : (WP Gm j_Law_law 630 (ls) (.inl i :: .inr (.inl (some a)) :: st) h Q) = (WP Gm j_Law_law 631 (ls) (.inl (gI h a i.toNatClampNeg) :: st) (h) Q) := (WP_at c_Law_law_630 _ _ _ _).trans (congrArg (fun o => ndX Gm (WP Gm) j_Law_law 630 o Q) (if_pos (by rw [hk, hi]; rfl)))
set_option maxRecDepth 100000 in
theorem c_Law_law_631 : mCode j_Law_law 631 = oAld 0 632 := (rfl)
theorem e_Law_law_631 (x : Option Nat) : (WP Gm j_Law_law 631 (some (.inr (.inl x)) :: ls) (st) h Q) = (WP Gm j_Law_law 632 (some (.inr (.inl x)) :: ls) (.inr (.inl x) :: st) (h) Q) := (WP_at c_Law_law_631 _ _ _ _)
set_option maxRecDepth 100000 in
theorem c_Law_law_632 : mCode j_Law_law 632 = oIld 4 634 := (rfl)
theorem e_Law_law_632 (a0 a1 a2 a3 : Option MV) (x : Int32) : (WP Gm j_Law_law 632 (a0 :: a1 :: a2 :: a3 :: some (.inl x) :: ls) (st) h Q) = (WP Gm j_Law_law 634 (a0 :: a1 :: a2 :: a3 :: some (.inl x) :: ls) (.inl x :: st) (h) Q) := (WP_at c_Law_law_632 _ _ _ _)
set_option maxRecDepth 100000 in
theorem c_Law_law_634 : mCode j_Law_law 634 = oI 3 635 := (rfl)
theorem e_Law_law_634  : (WP Gm j_Law_law 634 (ls) (st) h Q) = (WP Gm j_Law_law 635 (ls) (.inl 3 :: st) (h) Q) := (WP_at c_Law_law_634 _ _ _ _)
set_option maxRecDepth 100000 in
theorem c_Law_law_635 : mCode j_Law_law 635 = oII (fun x y => x + y) 636 := (rfl)
theorem e_Law_law_635 (x : Int32) (y : Int32) : (WP Gm j_Law_law 635 (ls) (.inl y :: .inl x :: st) h Q) = (WP Gm j_Law_law 636 (ls) (.inl (x + y) :: st) (h) Q) := (WP_at c_Law_law_635 _ _ _ _)
set_option maxRecDepth 100000 in
theorem c_Law_law_636 : mCode j_Law_law 636 = oIal 0 637 := (rfl)
theorem e_Law_law_636 (a : Nat) (i : Int32) (hk : isK h a 100 = true) (hi : inL h a i = true) : (WP Gm j_Law_law 636 (ls) (.inl i :: .inr (.inl (some a)) :: st) h Q) = (WP Gm j_Law_law 637 (ls) (.inl (gI h a i.toNatClampNeg) :: st) (h) Q) := (WP_at c_Law_law_636 _ _ _ _).trans (congrArg (fun o => ndX Gm (WP Gm) j_Law_law 636 o Q) (if_pos (by rw [hk, hi]; rfl)))
set_option maxRecDepth 100000 in
theorem c_Law_law_637 : mCode j_Law_law 637 = oAld 3 638 := (rfl)
theorem e_Law_law_637 (a0 a1 a2 : Option MV) (x : Option Nat) : (WP Gm j_Law_law 637 (a0 :: a1 :: a2 :: some (.inr (.inl x)) :: ls) (st) h Q) = (WP Gm j_Law_law 638 (a0 :: a1 :: a2 :: some (.inr (.inl x)) :: ls) (.inr (.inl x) :: st) (h) Q) := (WP_at c_Law_law_637 _ _ _ _)
set_option maxRecDepth 100000 in
theorem c_Law_law_638 : mCode j_Law_law 638 = oCallS j_Law_inQueue 5 (mL j_Law_inQueue) 641 := (rfl)
theorem e_Law_law_638 (x0 : Option Nat) (x1 : Int32) (x2 : Int32) (x3 : Int32) (x4 : Option Nat) (hc : c8 st = true) : (WP Gm j_Law_law 638 (ls) (.inr (.inl x4) :: .inl x3 :: .inl x2 :: .inl x1 :: .inr (.inl x0) :: st) h Q) = (WP Gm j_Law_inQueue 0 [some (.inr (.inl x0)), some (.inl x1), some (.inl x2), some (.inl x3), some (.inr (.inl x4)), none] [] h (kC (fun v h2 => WP Gm j_Law_law 641 ls (v.toList ++ st) h2 Q) (fun E h2 => Q (.inr E) h2))) := (WP_at c_Law_law_638 _ _ _ _).trans (congrArg (fun o => ndX Gm (WP Gm) j_Law_law 638 o Q) (if_pos (by rw [show decide (catS st ≤ 8) = true from hc]; rfl)))
set_option maxRecDepth 100000 in
theorem c_Law_law_641 : mCode j_Law_law 641 = oIst 5 643 := (rfl)
theorem e_Law_law_641 (x : Int32) : (WP Gm j_Law_law 641 (ls) (.inl x :: st) h Q) = (WP Gm j_Law_law 643 (lSet1 ls 5 (some (.inl x))) (st) (h) Q) := (WP_at c_Law_law_641 _ _ _ _)
set_option maxRecDepth 100000 in
theorem c_Law_law_643 : mCode j_Law_law 643 = oAld 2 644 := (rfl)
theorem e_Law_law_643 (a0 a1 : Option MV) (x : Option Nat) : (WP Gm j_Law_law 643 (a0 :: a1 :: some (.inr (.inl x)) :: ls) (st) h Q) = (WP Gm j_Law_law 644 (a0 :: a1 :: some (.inr (.inl x)) :: ls) (.inr (.inl x) :: st) (h) Q) := (WP_at c_Law_law_643 _ _ _ _)
set_option maxRecDepth 100000 in
theorem c_Law_law_644 : mCode j_Law_law 644 = oAld 0 645 := (rfl)
theorem e_Law_law_644 (x : Option Nat) : (WP Gm j_Law_law 644 (some (.inr (.inl x)) :: ls) (st) h Q) = (WP Gm j_Law_law 645 (some (.inr (.inl x)) :: ls) (.inr (.inl x) :: st) (h) Q) := (WP_at c_Law_law_644 _ _ _ _)
set_option maxRecDepth 100000 in
theorem c_Law_law_645 : mCode j_Law_law 645 = oIld 4 647 := (rfl)
theorem e_Law_law_645 (a0 a1 a2 a3 : Option MV) (x : Int32) : (WP Gm j_Law_law 645 (a0 :: a1 :: a2 :: a3 :: some (.inl x) :: ls) (st) h Q) = (WP Gm j_Law_law 647 (a0 :: a1 :: a2 :: a3 :: some (.inl x) :: ls) (.inl x :: st) (h) Q) := (WP_at c_Law_law_645 _ _ _ _)
set_option maxRecDepth 100000 in
theorem c_Law_law_647 : mCode j_Law_law 647 = oI 1 648 := (rfl)
theorem e_Law_law_647  : (WP Gm j_Law_law 647 (ls) (st) h Q) = (WP Gm j_Law_law 648 (ls) (.inl 1 :: st) (h) Q) := (WP_at c_Law_law_647 _ _ _ _)
set_option maxRecDepth 100000 in
theorem c_Law_law_648 : mCode j_Law_law 648 = oII (fun x y => x + y) 649 := (rfl)
theorem e_Law_law_648 (x : Int32) (y : Int32) : (WP Gm j_Law_law 648 (ls) (.inl y :: .inl x :: st) h Q) = (WP Gm j_Law_law 649 (ls) (.inl (x + y) :: st) (h) Q) := (WP_at c_Law_law_648 _ _ _ _)
set_option maxRecDepth 100000 in
theorem c_Law_law_649 : mCode j_Law_law 649 = oIal 0 650 := (rfl)
theorem e_Law_law_649 (a : Nat) (i : Int32) (hk : isK h a 100 = true) (hi : inL h a i = true) : (WP Gm j_Law_law 649 (ls) (.inl i :: .inr (.inl (some a)) :: st) h Q) = (WP Gm j_Law_law 650 (ls) (.inl (gI h a i.toNatClampNeg) :: st) (h) Q) := (WP_at c_Law_law_649 _ _ _ _).trans (congrArg (fun o => ndX Gm (WP Gm) j_Law_law 649 o Q) (if_pos (by rw [hk, hi]; rfl)))
set_option maxRecDepth 100000 in
theorem c_Law_law_650 : mCode j_Law_law 650 = oAld 0 651 := (rfl)
theorem e_Law_law_650 (x : Option Nat) : (WP Gm j_Law_law 650 (some (.inr (.inl x)) :: ls) (st) h Q) = (WP Gm j_Law_law 651 (some (.inr (.inl x)) :: ls) (.inr (.inl x) :: st) (h) Q) := (WP_at c_Law_law_650 _ _ _ _)
set_option maxRecDepth 100000 in
theorem c_Law_law_651 : mCode j_Law_law 651 = oIld 4 653 := (rfl)
theorem e_Law_law_651 (a0 a1 a2 a3 : Option MV) (x : Int32) : (WP Gm j_Law_law 651 (a0 :: a1 :: a2 :: a3 :: some (.inl x) :: ls) (st) h Q) = (WP Gm j_Law_law 653 (a0 :: a1 :: a2 :: a3 :: some (.inl x) :: ls) (.inl x :: st) (h) Q) := (WP_at c_Law_law_651 _ _ _ _)
set_option maxRecDepth 100000 in
theorem c_Law_law_653 : mCode j_Law_law 653 = oI 2 654 := (rfl)
theorem e_Law_law_653  : (WP Gm j_Law_law 653 (ls) (st) h Q) = (WP Gm j_Law_law 654 (ls) (.inl 2 :: st) (h) Q) := (WP_at c_Law_law_653 _ _ _ _)
set_option maxRecDepth 100000 in
theorem c_Law_law_654 : mCode j_Law_law 654 = oII (fun x y => x + y) 655 := (rfl)
theorem e_Law_law_654 (x : Int32) (y : Int32) : (WP Gm j_Law_law 654 (ls) (.inl y :: .inl x :: st) h Q) = (WP Gm j_Law_law 655 (ls) (.inl (x + y) :: st) (h) Q) := (WP_at c_Law_law_654 _ _ _ _)
set_option maxRecDepth 100000 in
theorem c_Law_law_655 : mCode j_Law_law 655 = oIal 0 656 := (rfl)
theorem e_Law_law_655 (a : Nat) (i : Int32) (hk : isK h a 100 = true) (hi : inL h a i = true) : (WP Gm j_Law_law 655 (ls) (.inl i :: .inr (.inl (some a)) :: st) h Q) = (WP Gm j_Law_law 656 (ls) (.inl (gI h a i.toNatClampNeg) :: st) (h) Q) := (WP_at c_Law_law_655 _ _ _ _).trans (congrArg (fun o => ndX Gm (WP Gm) j_Law_law 655 o Q) (if_pos (by rw [hk, hi]; rfl)))
set_option maxRecDepth 100000 in
theorem c_Law_law_656 : mCode j_Law_law 656 = oAld 0 657 := (rfl)
theorem e_Law_law_656 (x : Option Nat) : (WP Gm j_Law_law 656 (some (.inr (.inl x)) :: ls) (st) h Q) = (WP Gm j_Law_law 657 (some (.inr (.inl x)) :: ls) (.inr (.inl x) :: st) (h) Q) := (WP_at c_Law_law_656 _ _ _ _)
set_option maxRecDepth 100000 in
theorem c_Law_law_657 : mCode j_Law_law 657 = oIld 4 659 := (rfl)
theorem e_Law_law_657 (a0 a1 a2 a3 : Option MV) (x : Int32) : (WP Gm j_Law_law 657 (a0 :: a1 :: a2 :: a3 :: some (.inl x) :: ls) (st) h Q) = (WP Gm j_Law_law 659 (a0 :: a1 :: a2 :: a3 :: some (.inl x) :: ls) (.inl x :: st) (h) Q) := (WP_at c_Law_law_657 _ _ _ _)
set_option maxRecDepth 100000 in
theorem c_Law_law_659 : mCode j_Law_law 659 = oI 3 660 := (rfl)
theorem e_Law_law_659  : (WP Gm j_Law_law 659 (ls) (st) h Q) = (WP Gm j_Law_law 660 (ls) (.inl 3 :: st) (h) Q) := (WP_at c_Law_law_659 _ _ _ _)
set_option maxRecDepth 100000 in
theorem c_Law_law_660 : mCode j_Law_law 660 = oII (fun x y => x + y) 661 := (rfl)
theorem e_Law_law_660 (x : Int32) (y : Int32) : (WP Gm j_Law_law 660 (ls) (.inl y :: .inl x :: st) h Q) = (WP Gm j_Law_law 661 (ls) (.inl (x + y) :: st) (h) Q) := (WP_at c_Law_law_660 _ _ _ _)
set_option maxRecDepth 100000 in
theorem c_Law_law_661 : mCode j_Law_law 661 = oIal 0 662 := (rfl)
theorem e_Law_law_661 (a : Nat) (i : Int32) (hk : isK h a 100 = true) (hi : inL h a i = true) : (WP Gm j_Law_law 661 (ls) (.inl i :: .inr (.inl (some a)) :: st) h Q) = (WP Gm j_Law_law 662 (ls) (.inl (gI h a i.toNatClampNeg) :: st) (h) Q) := (WP_at c_Law_law_661 _ _ _ _).trans (congrArg (fun o => ndX Gm (WP Gm) j_Law_law 661 o Q) (if_pos (by rw [hk, hi]; rfl)))
set_option maxRecDepth 100000 in
theorem c_Law_law_662 : mCode j_Law_law 662 = oCallV kc_Mdl j_Mdl_inQueue 3 (mL j_Mdl_inQueue) 665 := (rfl)
theorem e_Law_law_662 (a : Nat) (x0 : Int32) (x1 : Int32) (x2 : Int32) (hk : isK h a kc_Mdl = true) (hc : c8 st = true) : (WP Gm j_Law_law 662 (ls) (.inl x2 :: .inl x1 :: .inl x0 :: .inr (.inl (some a)) :: st) h Q) = (WP Gm j_Mdl_inQueue 0 [some (.inr (.inl (some a))), some (.inl x0), some (.inl x1), some (.inl x2)] [] h (kC (fun v h2 => WP Gm j_Law_law 665 ls (v.toList ++ st) h2 Q) (fun E h2 => Q (.inr E) h2))) := (WP_at c_Law_law_662 _ _ _ _).trans (congrArg (fun o => ndX Gm (WP Gm) j_Law_law 662 o Q) (if_pos (by rw [hk, show decide (catS st ≤ 8) = true from hc]; rfl)))
set_option maxRecDepth 100000 in
theorem c_Law_law_665 : mCode j_Law_law 665 = oIst 6 667 := (rfl)
theorem e_Law_law_665 (x : Int32) : (WP Gm j_Law_law 665 (ls) (.inl x :: st) h Q) = (WP Gm j_Law_law 667 (lSet1 ls 6 (some (.inl x))) (st) (h) Q) := (WP_at c_Law_law_665 _ _ _ _)
set_option maxRecDepth 100000 in
theorem c_Law_law_667 : mCode j_Law_law 667 = oGo 996 := (rfl)
theorem e_Law_law_667  : (WP Gm j_Law_law 667 (ls) (st) h Q) = (WP Gm j_Law_law 996 (ls) (st) (h) Q) := (WP_at c_Law_law_667 _ _ _ _)
set_option maxRecDepth 100000 in
theorem c_Law_law_670 : mCode j_Law_law 670 = oAld 1 671 := (rfl)
theorem e_Law_law_670 (a0 : Option MV) (x : Option Nat) : (WP Gm j_Law_law 670 (a0 :: some (.inr (.inl x)) :: ls) (st) h Q) = (WP Gm j_Law_law 671 (a0 :: some (.inr (.inl x)) :: ls) (.inr (.inl x) :: st) (h) Q) := (WP_at c_Law_law_670 _ _ _ _)
set_option maxRecDepth 100000 in
theorem c_Law_law_671 : mCode j_Law_law 671 = oAld 0 672 := (rfl)
theorem e_Law_law_671 (x : Option Nat) : (WP Gm j_Law_law 671 (some (.inr (.inl x)) :: ls) (st) h Q) = (WP Gm j_Law_law 672 (some (.inr (.inl x)) :: ls) (.inr (.inl x) :: st) (h) Q) := (WP_at c_Law_law_671 _ _ _ _)
set_option maxRecDepth 100000 in
theorem c_Law_law_672 : mCode j_Law_law 672 = oIld 4 674 := (rfl)
theorem e_Law_law_672 (a0 a1 a2 a3 : Option MV) (x : Int32) : (WP Gm j_Law_law 672 (a0 :: a1 :: a2 :: a3 :: some (.inl x) :: ls) (st) h Q) = (WP Gm j_Law_law 674 (a0 :: a1 :: a2 :: a3 :: some (.inl x) :: ls) (.inl x :: st) (h) Q) := (WP_at c_Law_law_672 _ _ _ _)
set_option maxRecDepth 100000 in
theorem c_Law_law_674 : mCode j_Law_law 674 = oI 1 675 := (rfl)
theorem e_Law_law_674  : (WP Gm j_Law_law 674 (ls) (st) h Q) = (WP Gm j_Law_law 675 (ls) (.inl 1 :: st) (h) Q) := (WP_at c_Law_law_674 _ _ _ _)
set_option maxRecDepth 100000 in
theorem c_Law_law_675 : mCode j_Law_law 675 = oII (fun x y => x + y) 676 := (rfl)
theorem e_Law_law_675 (x : Int32) (y : Int32) : (WP Gm j_Law_law 675 (ls) (.inl y :: .inl x :: st) h Q) = (WP Gm j_Law_law 676 (ls) (.inl (x + y) :: st) (h) Q) := (WP_at c_Law_law_675 _ _ _ _)
set_option maxRecDepth 100000 in
theorem c_Law_law_676 : mCode j_Law_law 676 = oIal 0 677 := (rfl)
theorem e_Law_law_676 (a : Nat) (i : Int32) (hk : isK h a 100 = true) (hi : inL h a i = true) : (WP Gm j_Law_law 676 (ls) (.inl i :: .inr (.inl (some a)) :: st) h Q) = (WP Gm j_Law_law 677 (ls) (.inl (gI h a i.toNatClampNeg) :: st) (h) Q) := (WP_at c_Law_law_676 _ _ _ _).trans (congrArg (fun o => ndX Gm (WP Gm) j_Law_law 676 o Q) (if_pos (by rw [hk, hi]; rfl)))
set_option maxRecDepth 100000 in
theorem c_Law_law_677 : mCode j_Law_law 677 = oAld 0 678 := (rfl)
theorem e_Law_law_677 (x : Option Nat) : (WP Gm j_Law_law 677 (some (.inr (.inl x)) :: ls) (st) h Q) = (WP Gm j_Law_law 678 (some (.inr (.inl x)) :: ls) (.inr (.inl x) :: st) (h) Q) := (WP_at c_Law_law_677 _ _ _ _)
set_option maxRecDepth 100000 in
theorem c_Law_law_678 : mCode j_Law_law 678 = oIld 4 680 := (rfl)
theorem e_Law_law_678 (a0 a1 a2 a3 : Option MV) (x : Int32) : (WP Gm j_Law_law 678 (a0 :: a1 :: a2 :: a3 :: some (.inl x) :: ls) (st) h Q) = (WP Gm j_Law_law 680 (a0 :: a1 :: a2 :: a3 :: some (.inl x) :: ls) (.inl x :: st) (h) Q) := (WP_at c_Law_law_678 _ _ _ _)
set_option maxRecDepth 100000 in
theorem c_Law_law_680 : mCode j_Law_law 680 = oI 2 681 := (rfl)
theorem e_Law_law_680  : (WP Gm j_Law_law 680 (ls) (st) h Q) = (WP Gm j_Law_law 681 (ls) (.inl 2 :: st) (h) Q) := (WP_at c_Law_law_680 _ _ _ _)
set_option maxRecDepth 100000 in
theorem c_Law_law_681 : mCode j_Law_law 681 = oII (fun x y => x + y) 682 := (rfl)
theorem e_Law_law_681 (x : Int32) (y : Int32) : (WP Gm j_Law_law 681 (ls) (.inl y :: .inl x :: st) h Q) = (WP Gm j_Law_law 682 (ls) (.inl (x + y) :: st) (h) Q) := (WP_at c_Law_law_681 _ _ _ _)
set_option maxRecDepth 100000 in
theorem c_Law_law_682 : mCode j_Law_law 682 = oIal 0 683 := (rfl)
theorem e_Law_law_682 (a : Nat) (i : Int32) (hk : isK h a 100 = true) (hi : inL h a i = true) : (WP Gm j_Law_law 682 (ls) (.inl i :: .inr (.inl (some a)) :: st) h Q) = (WP Gm j_Law_law 683 (ls) (.inl (gI h a i.toNatClampNeg) :: st) (h) Q) := (WP_at c_Law_law_682 _ _ _ _).trans (congrArg (fun o => ndX Gm (WP Gm) j_Law_law 682 o Q) (if_pos (by rw [hk, hi]; rfl)))
set_option maxRecDepth 100000 in
theorem c_Law_law_683 : mCode j_Law_law 683 = oAld 0 684 := (rfl)
theorem e_Law_law_683 (x : Option Nat) : (WP Gm j_Law_law 683 (some (.inr (.inl x)) :: ls) (st) h Q) = (WP Gm j_Law_law 684 (some (.inr (.inl x)) :: ls) (.inr (.inl x) :: st) (h) Q) := (WP_at c_Law_law_683 _ _ _ _)
set_option maxRecDepth 100000 in
theorem c_Law_law_684 : mCode j_Law_law 684 = oIld 4 686 := (rfl)
theorem e_Law_law_684 (a0 a1 a2 a3 : Option MV) (x : Int32) : (WP Gm j_Law_law 684 (a0 :: a1 :: a2 :: a3 :: some (.inl x) :: ls) (st) h Q) = (WP Gm j_Law_law 686 (a0 :: a1 :: a2 :: a3 :: some (.inl x) :: ls) (.inl x :: st) (h) Q) := (WP_at c_Law_law_684 _ _ _ _)
set_option maxRecDepth 100000 in
theorem c_Law_law_686 : mCode j_Law_law 686 = oI 3 687 := (rfl)
theorem e_Law_law_686  : (WP Gm j_Law_law 686 (ls) (st) h Q) = (WP Gm j_Law_law 687 (ls) (.inl 3 :: st) (h) Q) := (WP_at c_Law_law_686 _ _ _ _)
set_option maxRecDepth 100000 in
theorem c_Law_law_687 : mCode j_Law_law 687 = oII (fun x y => x + y) 688 := (rfl)
theorem e_Law_law_687 (x : Int32) (y : Int32) : (WP Gm j_Law_law 687 (ls) (.inl y :: .inl x :: st) h Q) = (WP Gm j_Law_law 688 (ls) (.inl (x + y) :: st) (h) Q) := (WP_at c_Law_law_687 _ _ _ _)
set_option maxRecDepth 100000 in
theorem c_Law_law_688 : mCode j_Law_law 688 = oIal 0 689 := (rfl)
theorem e_Law_law_688 (a : Nat) (i : Int32) (hk : isK h a 100 = true) (hi : inL h a i = true) : (WP Gm j_Law_law 688 (ls) (.inl i :: .inr (.inl (some a)) :: st) h Q) = (WP Gm j_Law_law 689 (ls) (.inl (gI h a i.toNatClampNeg) :: st) (h) Q) := (WP_at c_Law_law_688 _ _ _ _).trans (congrArg (fun o => ndX Gm (WP Gm) j_Law_law 688 o Q) (if_pos (by rw [hk, hi]; rfl)))
set_option maxRecDepth 100000 in
theorem c_Law_law_689 : mCode j_Law_law 689 = oAld 3 690 := (rfl)
theorem e_Law_law_689 (a0 a1 a2 : Option MV) (x : Option Nat) : (WP Gm j_Law_law 689 (a0 :: a1 :: a2 :: some (.inr (.inl x)) :: ls) (st) h Q) = (WP Gm j_Law_law 690 (a0 :: a1 :: a2 :: some (.inr (.inl x)) :: ls) (.inr (.inl x) :: st) (h) Q) := (WP_at c_Law_law_689 _ _ _ _)
set_option maxRecDepth 100000 in
theorem c_Law_law_690 : mCode j_Law_law 690 = oCallS j_Law_route 5 (mL j_Law_route) 693 := (rfl)
theorem e_Law_law_690 (x0 : Option Nat) (x1 : Int32) (x2 : Int32) (x3 : Int32) (x4 : Option Nat) (hc : c8 st = true) : (WP Gm j_Law_law 690 (ls) (.inr (.inl x4) :: .inl x3 :: .inl x2 :: .inl x1 :: .inr (.inl x0) :: st) h Q) = (WP Gm j_Law_route 0 [some (.inr (.inl x0)), some (.inl x1), some (.inl x2), some (.inl x3), some (.inr (.inl x4)), none] [] h (kC (fun v h2 => WP Gm j_Law_law 693 ls (v.toList ++ st) h2 Q) (fun E h2 => Q (.inr E) h2))) := (WP_at c_Law_law_690 _ _ _ _).trans (congrArg (fun o => ndX Gm (WP Gm) j_Law_law 690 o Q) (if_pos (by rw [show decide (catS st ≤ 8) = true from hc]; rfl)))
set_option maxRecDepth 100000 in
theorem c_Law_law_693 : mCode j_Law_law 693 = oIst 5 695 := (rfl)
theorem e_Law_law_693 (x : Int32) : (WP Gm j_Law_law 693 (ls) (.inl x :: st) h Q) = (WP Gm j_Law_law 695 (lSet1 ls 5 (some (.inl x))) (st) (h) Q) := (WP_at c_Law_law_693 _ _ _ _)
set_option maxRecDepth 100000 in
theorem c_Law_law_695 : mCode j_Law_law 695 = oAld 2 696 := (rfl)
theorem e_Law_law_695 (a0 a1 : Option MV) (x : Option Nat) : (WP Gm j_Law_law 695 (a0 :: a1 :: some (.inr (.inl x)) :: ls) (st) h Q) = (WP Gm j_Law_law 696 (a0 :: a1 :: some (.inr (.inl x)) :: ls) (.inr (.inl x) :: st) (h) Q) := (WP_at c_Law_law_695 _ _ _ _)
set_option maxRecDepth 100000 in
theorem c_Law_law_696 : mCode j_Law_law 696 = oAld 0 697 := (rfl)
theorem e_Law_law_696 (x : Option Nat) : (WP Gm j_Law_law 696 (some (.inr (.inl x)) :: ls) (st) h Q) = (WP Gm j_Law_law 697 (some (.inr (.inl x)) :: ls) (.inr (.inl x) :: st) (h) Q) := (WP_at c_Law_law_696 _ _ _ _)
set_option maxRecDepth 100000 in
theorem c_Law_law_697 : mCode j_Law_law 697 = oIld 4 699 := (rfl)
theorem e_Law_law_697 (a0 a1 a2 a3 : Option MV) (x : Int32) : (WP Gm j_Law_law 697 (a0 :: a1 :: a2 :: a3 :: some (.inl x) :: ls) (st) h Q) = (WP Gm j_Law_law 699 (a0 :: a1 :: a2 :: a3 :: some (.inl x) :: ls) (.inl x :: st) (h) Q) := (WP_at c_Law_law_697 _ _ _ _)
set_option maxRecDepth 100000 in
theorem c_Law_law_699 : mCode j_Law_law 699 = oI 1 700 := (rfl)
theorem e_Law_law_699  : (WP Gm j_Law_law 699 (ls) (st) h Q) = (WP Gm j_Law_law 700 (ls) (.inl 1 :: st) (h) Q) := (WP_at c_Law_law_699 _ _ _ _)
set_option maxRecDepth 100000 in
theorem c_Law_law_700 : mCode j_Law_law 700 = oII (fun x y => x + y) 701 := (rfl)
theorem e_Law_law_700 (x : Int32) (y : Int32) : (WP Gm j_Law_law 700 (ls) (.inl y :: .inl x :: st) h Q) = (WP Gm j_Law_law 701 (ls) (.inl (x + y) :: st) (h) Q) := (WP_at c_Law_law_700 _ _ _ _)
set_option maxRecDepth 100000 in
theorem c_Law_law_701 : mCode j_Law_law 701 = oIal 0 702 := (rfl)
theorem e_Law_law_701 (a : Nat) (i : Int32) (hk : isK h a 100 = true) (hi : inL h a i = true) : (WP Gm j_Law_law 701 (ls) (.inl i :: .inr (.inl (some a)) :: st) h Q) = (WP Gm j_Law_law 702 (ls) (.inl (gI h a i.toNatClampNeg) :: st) (h) Q) := (WP_at c_Law_law_701 _ _ _ _).trans (congrArg (fun o => ndX Gm (WP Gm) j_Law_law 701 o Q) (if_pos (by rw [hk, hi]; rfl)))
set_option maxRecDepth 100000 in
theorem c_Law_law_702 : mCode j_Law_law 702 = oAld 0 703 := (rfl)
theorem e_Law_law_702 (x : Option Nat) : (WP Gm j_Law_law 702 (some (.inr (.inl x)) :: ls) (st) h Q) = (WP Gm j_Law_law 703 (some (.inr (.inl x)) :: ls) (.inr (.inl x) :: st) (h) Q) := (WP_at c_Law_law_702 _ _ _ _)
set_option maxRecDepth 100000 in
theorem c_Law_law_703 : mCode j_Law_law 703 = oIld 4 705 := (rfl)
theorem e_Law_law_703 (a0 a1 a2 a3 : Option MV) (x : Int32) : (WP Gm j_Law_law 703 (a0 :: a1 :: a2 :: a3 :: some (.inl x) :: ls) (st) h Q) = (WP Gm j_Law_law 705 (a0 :: a1 :: a2 :: a3 :: some (.inl x) :: ls) (.inl x :: st) (h) Q) := (WP_at c_Law_law_703 _ _ _ _)
set_option maxRecDepth 100000 in
theorem c_Law_law_705 : mCode j_Law_law 705 = oI 2 706 := (rfl)
theorem e_Law_law_705  : (WP Gm j_Law_law 705 (ls) (st) h Q) = (WP Gm j_Law_law 706 (ls) (.inl 2 :: st) (h) Q) := (WP_at c_Law_law_705 _ _ _ _)
set_option maxRecDepth 100000 in
theorem c_Law_law_706 : mCode j_Law_law 706 = oII (fun x y => x + y) 707 := (rfl)
theorem e_Law_law_706 (x : Int32) (y : Int32) : (WP Gm j_Law_law 706 (ls) (.inl y :: .inl x :: st) h Q) = (WP Gm j_Law_law 707 (ls) (.inl (x + y) :: st) (h) Q) := (WP_at c_Law_law_706 _ _ _ _)
set_option maxRecDepth 100000 in
theorem c_Law_law_707 : mCode j_Law_law 707 = oIal 0 708 := (rfl)
theorem e_Law_law_707 (a : Nat) (i : Int32) (hk : isK h a 100 = true) (hi : inL h a i = true) : (WP Gm j_Law_law 707 (ls) (.inl i :: .inr (.inl (some a)) :: st) h Q) = (WP Gm j_Law_law 708 (ls) (.inl (gI h a i.toNatClampNeg) :: st) (h) Q) := (WP_at c_Law_law_707 _ _ _ _).trans (congrArg (fun o => ndX Gm (WP Gm) j_Law_law 707 o Q) (if_pos (by rw [hk, hi]; rfl)))
set_option maxRecDepth 100000 in
theorem c_Law_law_708 : mCode j_Law_law 708 = oAld 0 709 := (rfl)
theorem e_Law_law_708 (x : Option Nat) : (WP Gm j_Law_law 708 (some (.inr (.inl x)) :: ls) (st) h Q) = (WP Gm j_Law_law 709 (some (.inr (.inl x)) :: ls) (.inr (.inl x) :: st) (h) Q) := (WP_at c_Law_law_708 _ _ _ _)
set_option maxRecDepth 100000 in
theorem c_Law_law_709 : mCode j_Law_law 709 = oIld 4 711 := (rfl)
theorem e_Law_law_709 (a0 a1 a2 a3 : Option MV) (x : Int32) : (WP Gm j_Law_law 709 (a0 :: a1 :: a2 :: a3 :: some (.inl x) :: ls) (st) h Q) = (WP Gm j_Law_law 711 (a0 :: a1 :: a2 :: a3 :: some (.inl x) :: ls) (.inl x :: st) (h) Q) := (WP_at c_Law_law_709 _ _ _ _)
set_option maxRecDepth 100000 in
theorem c_Law_law_711 : mCode j_Law_law 711 = oI 3 712 := (rfl)
theorem e_Law_law_711  : (WP Gm j_Law_law 711 (ls) (st) h Q) = (WP Gm j_Law_law 712 (ls) (.inl 3 :: st) (h) Q) := (WP_at c_Law_law_711 _ _ _ _)
set_option maxRecDepth 100000 in
theorem c_Law_law_712 : mCode j_Law_law 712 = oII (fun x y => x + y) 713 := (rfl)
theorem e_Law_law_712 (x : Int32) (y : Int32) : (WP Gm j_Law_law 712 (ls) (.inl y :: .inl x :: st) h Q) = (WP Gm j_Law_law 713 (ls) (.inl (x + y) :: st) (h) Q) := (WP_at c_Law_law_712 _ _ _ _)
set_option maxRecDepth 100000 in
theorem c_Law_law_713 : mCode j_Law_law 713 = oIal 0 714 := (rfl)
theorem e_Law_law_713 (a : Nat) (i : Int32) (hk : isK h a 100 = true) (hi : inL h a i = true) : (WP Gm j_Law_law 713 (ls) (.inl i :: .inr (.inl (some a)) :: st) h Q) = (WP Gm j_Law_law 714 (ls) (.inl (gI h a i.toNatClampNeg) :: st) (h) Q) := (WP_at c_Law_law_713 _ _ _ _).trans (congrArg (fun o => ndX Gm (WP Gm) j_Law_law 713 o Q) (if_pos (by rw [hk, hi]; rfl)))
set_option maxRecDepth 100000 in
theorem c_Law_law_714 : mCode j_Law_law 714 = oCallV kc_Mdl j_Mdl_route 3 (mL j_Mdl_route) 717 := (rfl)
theorem e_Law_law_714 (a : Nat) (x0 : Int32) (x1 : Int32) (x2 : Int32) (hk : isK h a kc_Mdl = true) (hc : c8 st = true) : (WP Gm j_Law_law 714 (ls) (.inl x2 :: .inl x1 :: .inl x0 :: .inr (.inl (some a)) :: st) h Q) = (WP Gm j_Mdl_route 0 [some (.inr (.inl (some a))), some (.inl x0), some (.inl x1), some (.inl x2)] [] h (kC (fun v h2 => WP Gm j_Law_law 717 ls (v.toList ++ st) h2 Q) (fun E h2 => Q (.inr E) h2))) := (WP_at c_Law_law_714 _ _ _ _).trans (congrArg (fun o => ndX Gm (WP Gm) j_Law_law 714 o Q) (if_pos (by rw [hk, show decide (catS st ≤ 8) = true from hc]; rfl)))
set_option maxRecDepth 100000 in
theorem c_Law_law_717 : mCode j_Law_law 717 = oIst 6 719 := (rfl)
theorem e_Law_law_717 (x : Int32) : (WP Gm j_Law_law 717 (ls) (.inl x :: st) h Q) = (WP Gm j_Law_law 719 (lSet1 ls 6 (some (.inl x))) (st) (h) Q) := (WP_at c_Law_law_717 _ _ _ _)
set_option maxRecDepth 100000 in
theorem c_Law_law_719 : mCode j_Law_law 719 = oGo 996 := (rfl)
theorem e_Law_law_719  : (WP Gm j_Law_law 719 (ls) (st) h Q) = (WP Gm j_Law_law 996 (ls) (st) (h) Q) := (WP_at c_Law_law_719 _ _ _ _)
set_option maxRecDepth 100000 in
theorem c_Law_law_722 : mCode j_Law_law 722 = oAld 1 723 := (rfl)
theorem e_Law_law_722 (a0 : Option MV) (x : Option Nat) : (WP Gm j_Law_law 722 (a0 :: some (.inr (.inl x)) :: ls) (st) h Q) = (WP Gm j_Law_law 723 (a0 :: some (.inr (.inl x)) :: ls) (.inr (.inl x) :: st) (h) Q) := (WP_at c_Law_law_722 _ _ _ _)
set_option maxRecDepth 100000 in
theorem c_Law_law_723 : mCode j_Law_law 723 = oAld 0 724 := (rfl)
theorem e_Law_law_723 (x : Option Nat) : (WP Gm j_Law_law 723 (some (.inr (.inl x)) :: ls) (st) h Q) = (WP Gm j_Law_law 724 (some (.inr (.inl x)) :: ls) (.inr (.inl x) :: st) (h) Q) := (WP_at c_Law_law_723 _ _ _ _)
set_option maxRecDepth 100000 in
theorem c_Law_law_724 : mCode j_Law_law 724 = oIld 4 726 := (rfl)
theorem e_Law_law_724 (a0 a1 a2 a3 : Option MV) (x : Int32) : (WP Gm j_Law_law 724 (a0 :: a1 :: a2 :: a3 :: some (.inl x) :: ls) (st) h Q) = (WP Gm j_Law_law 726 (a0 :: a1 :: a2 :: a3 :: some (.inl x) :: ls) (.inl x :: st) (h) Q) := (WP_at c_Law_law_724 _ _ _ _)
set_option maxRecDepth 100000 in
theorem c_Law_law_726 : mCode j_Law_law 726 = oI 1 727 := (rfl)
theorem e_Law_law_726  : (WP Gm j_Law_law 726 (ls) (st) h Q) = (WP Gm j_Law_law 727 (ls) (.inl 1 :: st) (h) Q) := (WP_at c_Law_law_726 _ _ _ _)
set_option maxRecDepth 100000 in
theorem c_Law_law_727 : mCode j_Law_law 727 = oII (fun x y => x + y) 728 := (rfl)
theorem e_Law_law_727 (x : Int32) (y : Int32) : (WP Gm j_Law_law 727 (ls) (.inl y :: .inl x :: st) h Q) = (WP Gm j_Law_law 728 (ls) (.inl (x + y) :: st) (h) Q) := (WP_at c_Law_law_727 _ _ _ _)
set_option maxRecDepth 100000 in
theorem c_Law_law_728 : mCode j_Law_law 728 = oIal 0 729 := (rfl)
theorem e_Law_law_728 (a : Nat) (i : Int32) (hk : isK h a 100 = true) (hi : inL h a i = true) : (WP Gm j_Law_law 728 (ls) (.inl i :: .inr (.inl (some a)) :: st) h Q) = (WP Gm j_Law_law 729 (ls) (.inl (gI h a i.toNatClampNeg) :: st) (h) Q) := (WP_at c_Law_law_728 _ _ _ _).trans (congrArg (fun o => ndX Gm (WP Gm) j_Law_law 728 o Q) (if_pos (by rw [hk, hi]; rfl)))
set_option maxRecDepth 100000 in
theorem c_Law_law_729 : mCode j_Law_law 729 = oAld 3 730 := (rfl)
theorem e_Law_law_729 (a0 a1 a2 : Option MV) (x : Option Nat) : (WP Gm j_Law_law 729 (a0 :: a1 :: a2 :: some (.inr (.inl x)) :: ls) (st) h Q) = (WP Gm j_Law_law 730 (a0 :: a1 :: a2 :: some (.inr (.inl x)) :: ls) (.inr (.inl x) :: st) (h) Q) := (WP_at c_Law_law_729 _ _ _ _)
set_option maxRecDepth 100000 in
theorem c_Law_law_730 : mCode j_Law_law 730 = oCallS j_Law_air 3 (mL j_Law_air) 733 := (rfl)
theorem e_Law_law_730 (x0 : Option Nat) (x1 : Int32) (x2 : Option Nat) (hc : c8 st = true) : (WP Gm j_Law_law 730 (ls) (.inr (.inl x2) :: .inl x1 :: .inr (.inl x0) :: st) h Q) = (WP Gm j_Law_air 0 [some (.inr (.inl x0)), some (.inl x1), some (.inr (.inl x2)), none] [] h (kC (fun v h2 => WP Gm j_Law_law 733 ls (v.toList ++ st) h2 Q) (fun E h2 => Q (.inr E) h2))) := (WP_at c_Law_law_730 _ _ _ _).trans (congrArg (fun o => ndX Gm (WP Gm) j_Law_law 730 o Q) (if_pos (by rw [show decide (catS st ≤ 8) = true from hc]; rfl)))
set_option maxRecDepth 100000 in
theorem c_Law_law_733 : mCode j_Law_law 733 = oIst 5 735 := (rfl)
theorem e_Law_law_733 (x : Int32) : (WP Gm j_Law_law 733 (ls) (.inl x :: st) h Q) = (WP Gm j_Law_law 735 (lSet1 ls 5 (some (.inl x))) (st) (h) Q) := (WP_at c_Law_law_733 _ _ _ _)
set_option maxRecDepth 100000 in
theorem c_Law_law_735 : mCode j_Law_law 735 = oAld 2 736 := (rfl)
theorem e_Law_law_735 (a0 a1 : Option MV) (x : Option Nat) : (WP Gm j_Law_law 735 (a0 :: a1 :: some (.inr (.inl x)) :: ls) (st) h Q) = (WP Gm j_Law_law 736 (a0 :: a1 :: some (.inr (.inl x)) :: ls) (.inr (.inl x) :: st) (h) Q) := (WP_at c_Law_law_735 _ _ _ _)
set_option maxRecDepth 100000 in
theorem c_Law_law_736 : mCode j_Law_law 736 = oAld 0 737 := (rfl)
theorem e_Law_law_736 (x : Option Nat) : (WP Gm j_Law_law 736 (some (.inr (.inl x)) :: ls) (st) h Q) = (WP Gm j_Law_law 737 (some (.inr (.inl x)) :: ls) (.inr (.inl x) :: st) (h) Q) := (WP_at c_Law_law_736 _ _ _ _)
set_option maxRecDepth 100000 in
theorem c_Law_law_737 : mCode j_Law_law 737 = oIld 4 739 := (rfl)
theorem e_Law_law_737 (a0 a1 a2 a3 : Option MV) (x : Int32) : (WP Gm j_Law_law 737 (a0 :: a1 :: a2 :: a3 :: some (.inl x) :: ls) (st) h Q) = (WP Gm j_Law_law 739 (a0 :: a1 :: a2 :: a3 :: some (.inl x) :: ls) (.inl x :: st) (h) Q) := (WP_at c_Law_law_737 _ _ _ _)
set_option maxRecDepth 100000 in
theorem c_Law_law_739 : mCode j_Law_law 739 = oI 1 740 := (rfl)
theorem e_Law_law_739  : (WP Gm j_Law_law 739 (ls) (st) h Q) = (WP Gm j_Law_law 740 (ls) (.inl 1 :: st) (h) Q) := (WP_at c_Law_law_739 _ _ _ _)
set_option maxRecDepth 100000 in
theorem c_Law_law_740 : mCode j_Law_law 740 = oII (fun x y => x + y) 741 := (rfl)
theorem e_Law_law_740 (x : Int32) (y : Int32) : (WP Gm j_Law_law 740 (ls) (.inl y :: .inl x :: st) h Q) = (WP Gm j_Law_law 741 (ls) (.inl (x + y) :: st) (h) Q) := (WP_at c_Law_law_740 _ _ _ _)
set_option maxRecDepth 100000 in
theorem c_Law_law_741 : mCode j_Law_law 741 = oIal 0 742 := (rfl)
theorem e_Law_law_741 (a : Nat) (i : Int32) (hk : isK h a 100 = true) (hi : inL h a i = true) : (WP Gm j_Law_law 741 (ls) (.inl i :: .inr (.inl (some a)) :: st) h Q) = (WP Gm j_Law_law 742 (ls) (.inl (gI h a i.toNatClampNeg) :: st) (h) Q) := (WP_at c_Law_law_741 _ _ _ _).trans (congrArg (fun o => ndX Gm (WP Gm) j_Law_law 741 o Q) (if_pos (by rw [hk, hi]; rfl)))
set_option maxRecDepth 100000 in
theorem c_Law_law_742 : mCode j_Law_law 742 = oCallV kc_Mdl j_Mdl_air 1 (mL j_Mdl_air) 745 := (rfl)
theorem e_Law_law_742 (a : Nat) (x0 : Int32) (hk : isK h a kc_Mdl = true) (hc : c8 st = true) : (WP Gm j_Law_law 742 (ls) (.inl x0 :: .inr (.inl (some a)) :: st) h Q) = (WP Gm j_Mdl_air 0 [some (.inr (.inl (some a))), some (.inl x0)] [] h (kC (fun v h2 => WP Gm j_Law_law 745 ls (v.toList ++ st) h2 Q) (fun E h2 => Q (.inr E) h2))) := (WP_at c_Law_law_742 _ _ _ _).trans (congrArg (fun o => ndX Gm (WP Gm) j_Law_law 742 o Q) (if_pos (by rw [hk, show decide (catS st ≤ 8) = true from hc]; rfl)))
set_option maxRecDepth 100000 in
theorem c_Law_law_745 : mCode j_Law_law 745 = oIst 6 747 := (rfl)
theorem e_Law_law_745 (x : Int32) : (WP Gm j_Law_law 745 (ls) (.inl x :: st) h Q) = (WP Gm j_Law_law 747 (lSet1 ls 6 (some (.inl x))) (st) (h) Q) := (WP_at c_Law_law_745 _ _ _ _)
set_option maxRecDepth 100000 in
theorem c_Law_law_747 : mCode j_Law_law 747 = oGo 996 := (rfl)
theorem e_Law_law_747  : (WP Gm j_Law_law 747 (ls) (st) h Q) = (WP Gm j_Law_law 996 (ls) (st) (h) Q) := (WP_at c_Law_law_747 _ _ _ _)
set_option maxRecDepth 100000 in
theorem c_Law_law_750 : mCode j_Law_law 750 = oAld 1 751 := (rfl)
theorem e_Law_law_750 (a0 : Option MV) (x : Option Nat) : (WP Gm j_Law_law 750 (a0 :: some (.inr (.inl x)) :: ls) (st) h Q) = (WP Gm j_Law_law 751 (a0 :: some (.inr (.inl x)) :: ls) (.inr (.inl x) :: st) (h) Q) := (WP_at c_Law_law_750 _ _ _ _)
set_option maxRecDepth 100000 in
theorem c_Law_law_751 : mCode j_Law_law 751 = oAld 0 752 := (rfl)
theorem e_Law_law_751 (x : Option Nat) : (WP Gm j_Law_law 751 (some (.inr (.inl x)) :: ls) (st) h Q) = (WP Gm j_Law_law 752 (some (.inr (.inl x)) :: ls) (.inr (.inl x) :: st) (h) Q) := (WP_at c_Law_law_751 _ _ _ _)
set_option maxRecDepth 100000 in
theorem c_Law_law_752 : mCode j_Law_law 752 = oIld 4 754 := (rfl)
theorem e_Law_law_752 (a0 a1 a2 a3 : Option MV) (x : Int32) : (WP Gm j_Law_law 752 (a0 :: a1 :: a2 :: a3 :: some (.inl x) :: ls) (st) h Q) = (WP Gm j_Law_law 754 (a0 :: a1 :: a2 :: a3 :: some (.inl x) :: ls) (.inl x :: st) (h) Q) := (WP_at c_Law_law_752 _ _ _ _)
set_option maxRecDepth 100000 in
theorem c_Law_law_754 : mCode j_Law_law 754 = oI 1 755 := (rfl)
theorem e_Law_law_754  : (WP Gm j_Law_law 754 (ls) (st) h Q) = (WP Gm j_Law_law 755 (ls) (.inl 1 :: st) (h) Q) := (WP_at c_Law_law_754 _ _ _ _)
set_option maxRecDepth 100000 in
theorem c_Law_law_755 : mCode j_Law_law 755 = oII (fun x y => x + y) 756 := (rfl)
theorem e_Law_law_755 (x : Int32) (y : Int32) : (WP Gm j_Law_law 755 (ls) (.inl y :: .inl x :: st) h Q) = (WP Gm j_Law_law 756 (ls) (.inl (x + y) :: st) (h) Q) := (WP_at c_Law_law_755 _ _ _ _)
set_option maxRecDepth 100000 in
theorem c_Law_law_756 : mCode j_Law_law 756 = oIal 0 757 := (rfl)
theorem e_Law_law_756 (a : Nat) (i : Int32) (hk : isK h a 100 = true) (hi : inL h a i = true) : (WP Gm j_Law_law 756 (ls) (.inl i :: .inr (.inl (some a)) :: st) h Q) = (WP Gm j_Law_law 757 (ls) (.inl (gI h a i.toNatClampNeg) :: st) (h) Q) := (WP_at c_Law_law_756 _ _ _ _).trans (congrArg (fun o => ndX Gm (WP Gm) j_Law_law 756 o Q) (if_pos (by rw [hk, hi]; rfl)))
set_option maxRecDepth 100000 in
theorem c_Law_law_757 : mCode j_Law_law 757 = oAld 0 758 := (rfl)
theorem e_Law_law_757 (x : Option Nat) : (WP Gm j_Law_law 757 (some (.inr (.inl x)) :: ls) (st) h Q) = (WP Gm j_Law_law 758 (some (.inr (.inl x)) :: ls) (.inr (.inl x) :: st) (h) Q) := (WP_at c_Law_law_757 _ _ _ _)
set_option maxRecDepth 100000 in
theorem c_Law_law_758 : mCode j_Law_law 758 = oIld 4 760 := (rfl)
theorem e_Law_law_758 (a0 a1 a2 a3 : Option MV) (x : Int32) : (WP Gm j_Law_law 758 (a0 :: a1 :: a2 :: a3 :: some (.inl x) :: ls) (st) h Q) = (WP Gm j_Law_law 760 (a0 :: a1 :: a2 :: a3 :: some (.inl x) :: ls) (.inl x :: st) (h) Q) := (WP_at c_Law_law_758 _ _ _ _)
set_option maxRecDepth 100000 in
theorem c_Law_law_760 : mCode j_Law_law 760 = oI 2 761 := (rfl)
theorem e_Law_law_760  : (WP Gm j_Law_law 760 (ls) (st) h Q) = (WP Gm j_Law_law 761 (ls) (.inl 2 :: st) (h) Q) := (WP_at c_Law_law_760 _ _ _ _)
set_option maxRecDepth 100000 in
theorem c_Law_law_761 : mCode j_Law_law 761 = oII (fun x y => x + y) 762 := (rfl)
theorem e_Law_law_761 (x : Int32) (y : Int32) : (WP Gm j_Law_law 761 (ls) (.inl y :: .inl x :: st) h Q) = (WP Gm j_Law_law 762 (ls) (.inl (x + y) :: st) (h) Q) := (WP_at c_Law_law_761 _ _ _ _)
set_option maxRecDepth 100000 in
theorem c_Law_law_762 : mCode j_Law_law 762 = oIal 0 763 := (rfl)
theorem e_Law_law_762 (a : Nat) (i : Int32) (hk : isK h a 100 = true) (hi : inL h a i = true) : (WP Gm j_Law_law 762 (ls) (.inl i :: .inr (.inl (some a)) :: st) h Q) = (WP Gm j_Law_law 763 (ls) (.inl (gI h a i.toNatClampNeg) :: st) (h) Q) := (WP_at c_Law_law_762 _ _ _ _).trans (congrArg (fun o => ndX Gm (WP Gm) j_Law_law 762 o Q) (if_pos (by rw [hk, hi]; rfl)))
set_option maxRecDepth 100000 in
theorem c_Law_law_763 : mCode j_Law_law 763 = oAld 3 764 := (rfl)
theorem e_Law_law_763 (a0 a1 a2 : Option MV) (x : Option Nat) : (WP Gm j_Law_law 763 (a0 :: a1 :: a2 :: some (.inr (.inl x)) :: ls) (st) h Q) = (WP Gm j_Law_law 764 (a0 :: a1 :: a2 :: some (.inr (.inl x)) :: ls) (.inr (.inl x) :: st) (h) Q) := (WP_at c_Law_law_763 _ _ _ _)
set_option maxRecDepth 100000 in
theorem c_Law_law_764 : mCode j_Law_law 764 = oCallS j_Law_delivered 4 (mL j_Law_delivered) 767 := (rfl)
theorem e_Law_law_764 (x0 : Option Nat) (x1 : Int32) (x2 : Int32) (x3 : Option Nat) (hc : c8 st = true) : (WP Gm j_Law_law 764 (ls) (.inr (.inl x3) :: .inl x2 :: .inl x1 :: .inr (.inl x0) :: st) h Q) = (WP Gm j_Law_delivered 0 [some (.inr (.inl x0)), some (.inl x1), some (.inl x2), some (.inr (.inl x3)), none] [] h (kC (fun v h2 => WP Gm j_Law_law 767 ls (v.toList ++ st) h2 Q) (fun E h2 => Q (.inr E) h2))) := (WP_at c_Law_law_764 _ _ _ _).trans (congrArg (fun o => ndX Gm (WP Gm) j_Law_law 764 o Q) (if_pos (by rw [show decide (catS st ≤ 8) = true from hc]; rfl)))
set_option maxRecDepth 100000 in
theorem c_Law_law_767 : mCode j_Law_law 767 = oIst 5 769 := (rfl)
theorem e_Law_law_767 (x : Int32) : (WP Gm j_Law_law 767 (ls) (.inl x :: st) h Q) = (WP Gm j_Law_law 769 (lSet1 ls 5 (some (.inl x))) (st) (h) Q) := (WP_at c_Law_law_767 _ _ _ _)
set_option maxRecDepth 100000 in
theorem c_Law_law_769 : mCode j_Law_law 769 = oAld 2 770 := (rfl)
theorem e_Law_law_769 (a0 a1 : Option MV) (x : Option Nat) : (WP Gm j_Law_law 769 (a0 :: a1 :: some (.inr (.inl x)) :: ls) (st) h Q) = (WP Gm j_Law_law 770 (a0 :: a1 :: some (.inr (.inl x)) :: ls) (.inr (.inl x) :: st) (h) Q) := (WP_at c_Law_law_769 _ _ _ _)
set_option maxRecDepth 100000 in
theorem c_Law_law_770 : mCode j_Law_law 770 = oAld 0 771 := (rfl)
theorem e_Law_law_770 (x : Option Nat) : (WP Gm j_Law_law 770 (some (.inr (.inl x)) :: ls) (st) h Q) = (WP Gm j_Law_law 771 (some (.inr (.inl x)) :: ls) (.inr (.inl x) :: st) (h) Q) := (WP_at c_Law_law_770 _ _ _ _)
set_option maxRecDepth 100000 in
theorem c_Law_law_771 : mCode j_Law_law 771 = oIld 4 773 := (rfl)
theorem e_Law_law_771 (a0 a1 a2 a3 : Option MV) (x : Int32) : (WP Gm j_Law_law 771 (a0 :: a1 :: a2 :: a3 :: some (.inl x) :: ls) (st) h Q) = (WP Gm j_Law_law 773 (a0 :: a1 :: a2 :: a3 :: some (.inl x) :: ls) (.inl x :: st) (h) Q) := (WP_at c_Law_law_771 _ _ _ _)
set_option maxRecDepth 100000 in
theorem c_Law_law_773 : mCode j_Law_law 773 = oI 1 774 := (rfl)
theorem e_Law_law_773  : (WP Gm j_Law_law 773 (ls) (st) h Q) = (WP Gm j_Law_law 774 (ls) (.inl 1 :: st) (h) Q) := (WP_at c_Law_law_773 _ _ _ _)
set_option maxRecDepth 100000 in
theorem c_Law_law_774 : mCode j_Law_law 774 = oII (fun x y => x + y) 775 := (rfl)
theorem e_Law_law_774 (x : Int32) (y : Int32) : (WP Gm j_Law_law 774 (ls) (.inl y :: .inl x :: st) h Q) = (WP Gm j_Law_law 775 (ls) (.inl (x + y) :: st) (h) Q) := (WP_at c_Law_law_774 _ _ _ _)
set_option maxRecDepth 100000 in
theorem c_Law_law_775 : mCode j_Law_law 775 = oIal 0 776 := (rfl)
theorem e_Law_law_775 (a : Nat) (i : Int32) (hk : isK h a 100 = true) (hi : inL h a i = true) : (WP Gm j_Law_law 775 (ls) (.inl i :: .inr (.inl (some a)) :: st) h Q) = (WP Gm j_Law_law 776 (ls) (.inl (gI h a i.toNatClampNeg) :: st) (h) Q) := (WP_at c_Law_law_775 _ _ _ _).trans (congrArg (fun o => ndX Gm (WP Gm) j_Law_law 775 o Q) (if_pos (by rw [hk, hi]; rfl)))
set_option maxRecDepth 100000 in
theorem c_Law_law_776 : mCode j_Law_law 776 = oAld 0 777 := (rfl)
theorem e_Law_law_776 (x : Option Nat) : (WP Gm j_Law_law 776 (some (.inr (.inl x)) :: ls) (st) h Q) = (WP Gm j_Law_law 777 (some (.inr (.inl x)) :: ls) (.inr (.inl x) :: st) (h) Q) := (WP_at c_Law_law_776 _ _ _ _)
set_option maxRecDepth 100000 in
theorem c_Law_law_777 : mCode j_Law_law 777 = oIld 4 779 := (rfl)
theorem e_Law_law_777 (a0 a1 a2 a3 : Option MV) (x : Int32) : (WP Gm j_Law_law 777 (a0 :: a1 :: a2 :: a3 :: some (.inl x) :: ls) (st) h Q) = (WP Gm j_Law_law 779 (a0 :: a1 :: a2 :: a3 :: some (.inl x) :: ls) (.inl x :: st) (h) Q) := (WP_at c_Law_law_777 _ _ _ _)
set_option maxRecDepth 100000 in
theorem c_Law_law_779 : mCode j_Law_law 779 = oI 2 780 := (rfl)
theorem e_Law_law_779  : (WP Gm j_Law_law 779 (ls) (st) h Q) = (WP Gm j_Law_law 780 (ls) (.inl 2 :: st) (h) Q) := (WP_at c_Law_law_779 _ _ _ _)
set_option maxRecDepth 100000 in
theorem c_Law_law_780 : mCode j_Law_law 780 = oII (fun x y => x + y) 781 := (rfl)
theorem e_Law_law_780 (x : Int32) (y : Int32) : (WP Gm j_Law_law 780 (ls) (.inl y :: .inl x :: st) h Q) = (WP Gm j_Law_law 781 (ls) (.inl (x + y) :: st) (h) Q) := (WP_at c_Law_law_780 _ _ _ _)
set_option maxRecDepth 100000 in
theorem c_Law_law_781 : mCode j_Law_law 781 = oIal 0 782 := (rfl)
theorem e_Law_law_781 (a : Nat) (i : Int32) (hk : isK h a 100 = true) (hi : inL h a i = true) : (WP Gm j_Law_law 781 (ls) (.inl i :: .inr (.inl (some a)) :: st) h Q) = (WP Gm j_Law_law 782 (ls) (.inl (gI h a i.toNatClampNeg) :: st) (h) Q) := (WP_at c_Law_law_781 _ _ _ _).trans (congrArg (fun o => ndX Gm (WP Gm) j_Law_law 781 o Q) (if_pos (by rw [hk, hi]; rfl)))
set_option maxRecDepth 100000 in
theorem c_Law_law_782 : mCode j_Law_law 782 = oCallV kc_Mdl j_Mdl_delivered 2 (mL j_Mdl_delivered) 785 := (rfl)
theorem e_Law_law_782 (a : Nat) (x0 : Int32) (x1 : Int32) (hk : isK h a kc_Mdl = true) (hc : c8 st = true) : (WP Gm j_Law_law 782 (ls) (.inl x1 :: .inl x0 :: .inr (.inl (some a)) :: st) h Q) = (WP Gm j_Mdl_delivered 0 [some (.inr (.inl (some a))), some (.inl x0), some (.inl x1)] [] h (kC (fun v h2 => WP Gm j_Law_law 785 ls (v.toList ++ st) h2 Q) (fun E h2 => Q (.inr E) h2))) := (WP_at c_Law_law_782 _ _ _ _).trans (congrArg (fun o => ndX Gm (WP Gm) j_Law_law 782 o Q) (if_pos (by rw [hk, show decide (catS st ≤ 8) = true from hc]; rfl)))
set_option maxRecDepth 100000 in
theorem c_Law_law_785 : mCode j_Law_law 785 = oIst 6 787 := (rfl)
theorem e_Law_law_785 (x : Int32) : (WP Gm j_Law_law 785 (ls) (.inl x :: st) h Q) = (WP Gm j_Law_law 787 (lSet1 ls 6 (some (.inl x))) (st) (h) Q) := (WP_at c_Law_law_785 _ _ _ _)
set_option maxRecDepth 100000 in
theorem c_Law_law_787 : mCode j_Law_law 787 = oGo 996 := (rfl)
theorem e_Law_law_787  : (WP Gm j_Law_law 787 (ls) (st) h Q) = (WP Gm j_Law_law 996 (ls) (st) (h) Q) := (WP_at c_Law_law_787 _ _ _ _)
set_option maxRecDepth 100000 in
theorem c_Law_law_790 : mCode j_Law_law 790 = oAld 1 791 := (rfl)
theorem e_Law_law_790 (a0 : Option MV) (x : Option Nat) : (WP Gm j_Law_law 790 (a0 :: some (.inr (.inl x)) :: ls) (st) h Q) = (WP Gm j_Law_law 791 (a0 :: some (.inr (.inl x)) :: ls) (.inr (.inl x) :: st) (h) Q) := (WP_at c_Law_law_790 _ _ _ _)
set_option maxRecDepth 100000 in
theorem c_Law_law_791 : mCode j_Law_law 791 = oCallV kc_S j_S_fairness 0 (mL j_S_fairness) 794 := (rfl)
theorem e_Law_law_791 (a : Nat) (hk : isK h a kc_S = true) (hc : c8 st = true) : (WP Gm j_Law_law 791 (ls) (.inr (.inl (some a)) :: st) h Q) = (WP Gm j_S_fairness 0 [some (.inr (.inl (some a))), none, none, none, none, none, none, none] [] h (kC (fun v h2 => WP Gm j_Law_law 794 ls (v.toList ++ st) h2 Q) (fun E h2 => Q (.inr E) h2))) := (WP_at c_Law_law_791 _ _ _ _).trans (congrArg (fun o => ndX Gm (WP Gm) j_Law_law 791 o Q) (if_pos (by rw [hk, show decide (catS st ≤ 8) = true from hc]; rfl)))
set_option maxRecDepth 100000 in
theorem c_Law_law_794 : mCode j_Law_law 794 = oDst 5 796 := (rfl)
theorem e_Law_law_794 (x : UInt64) : (WP Gm j_Law_law 794 (ls) (.inr (.inr (.inr x)) :: st) h Q) = (WP Gm j_Law_law 796 (lSet2 ls 5 (.inr (.inr (.inr x)))) (st) (h) Q) := (WP_at c_Law_law_794 _ _ _ _)
set_option maxRecDepth 100000 in
theorem c_Law_law_796 : mCode j_Law_law 796 = oAld 2 797 := (rfl)
theorem e_Law_law_796 (a0 a1 : Option MV) (x : Option Nat) : (WP Gm j_Law_law 796 (a0 :: a1 :: some (.inr (.inl x)) :: ls) (st) h Q) = (WP Gm j_Law_law 797 (a0 :: a1 :: some (.inr (.inl x)) :: ls) (.inr (.inl x) :: st) (h) Q) := (WP_at c_Law_law_796 _ _ _ _)
set_option maxRecDepth 100000 in
theorem c_Law_law_797 : mCode j_Law_law 797 = oCallV kc_Mdl j_Mdl_fairness 0 (mL j_Mdl_fairness) 800 := (rfl)
theorem e_Law_law_797 (a : Nat) (hk : isK h a kc_Mdl = true) (hc : c8 st = true) : (WP Gm j_Law_law 797 (ls) (.inr (.inl (some a)) :: st) h Q) = (WP Gm j_Mdl_fairness 0 [some (.inr (.inl (some a)))] [] h (kC (fun v h2 => WP Gm j_Law_law 800 ls (v.toList ++ st) h2 Q) (fun E h2 => Q (.inr E) h2))) := (WP_at c_Law_law_797 _ _ _ _).trans (congrArg (fun o => ndX Gm (WP Gm) j_Law_law 797 o Q) (if_pos (by rw [hk, show decide (catS st ≤ 8) = true from hc]; rfl)))
set_option maxRecDepth 100000 in
theorem c_Law_law_800 : mCode j_Law_law 800 = oDst 7 802 := (rfl)
theorem e_Law_law_800 (x : UInt64) : (WP Gm j_Law_law 800 (ls) (.inr (.inr (.inr x)) :: st) h Q) = (WP Gm j_Law_law 802 (lSet2 ls 7 (.inr (.inr (.inr x)))) (st) (h) Q) := (WP_at c_Law_law_800 _ _ _ _)
set_option maxRecDepth 100000 in
theorem c_Law_law_802 : mCode j_Law_law 802 = oGo 996 := (rfl)
theorem e_Law_law_802  : (WP Gm j_Law_law 802 (ls) (st) h Q) = (WP Gm j_Law_law 996 (ls) (st) (h) Q) := (WP_at c_Law_law_802 _ _ _ _)
set_option maxRecDepth 100000 in
theorem c_Law_law_805 : mCode j_Law_law 805 = oAld 1 806 := (rfl)
theorem e_Law_law_805 (a0 : Option MV) (x : Option Nat) : (WP Gm j_Law_law 805 (a0 :: some (.inr (.inl x)) :: ls) (st) h Q) = (WP Gm j_Law_law 806 (a0 :: some (.inr (.inl x)) :: ls) (.inr (.inl x) :: st) (h) Q) := (WP_at c_Law_law_805 _ _ _ _)
set_option maxRecDepth 100000 in
theorem c_Law_law_806 : mCode j_Law_law 806 = oCallV kc_S j_S_row 0 (mL j_S_row) 809 := (rfl)
theorem e_Law_law_806 (a : Nat) (hk : isK h a kc_S = true) (hc : c8 st = true) : (WP Gm j_Law_law 806 (ls) (.inr (.inl (some a)) :: st) h Q) = (WP Gm j_S_row 0 [some (.inr (.inl (some a))), none, none] [] h (kC (fun v h2 => WP Gm j_Law_law 809 ls (v.toList ++ st) h2 Q) (fun E h2 => Q (.inr E) h2))) := (WP_at c_Law_law_806 _ _ _ _).trans (congrArg (fun o => ndX Gm (WP Gm) j_Law_law 806 o Q) (if_pos (by rw [hk, show decide (catS st ≤ 8) = true from hc]; rfl)))
set_option maxRecDepth 100000 in
theorem c_Law_law_809 : mCode j_Law_law 809 = oAld 2 810 := (rfl)
theorem e_Law_law_809 (a0 a1 : Option MV) (x : Option Nat) : (WP Gm j_Law_law 809 (a0 :: a1 :: some (.inr (.inl x)) :: ls) (st) h Q) = (WP Gm j_Law_law 810 (a0 :: a1 :: some (.inr (.inl x)) :: ls) (.inr (.inl x) :: st) (h) Q) := (WP_at c_Law_law_809 _ _ _ _)
set_option maxRecDepth 100000 in
theorem c_Law_law_810 : mCode j_Law_law 810 = oCallV kc_Mdl j_Mdl_row 0 (mL j_Mdl_row) 813 := (rfl)
theorem e_Law_law_810 (a : Nat) (hk : isK h a kc_Mdl = true) (hc : c8 st = true) : (WP Gm j_Law_law 810 (ls) (.inr (.inl (some a)) :: st) h Q) = (WP Gm j_Mdl_row 0 [some (.inr (.inl (some a))), none, none, none] [] h (kC (fun v h2 => WP Gm j_Law_law 813 ls (v.toList ++ st) h2 Q) (fun E h2 => Q (.inr E) h2))) := (WP_at c_Law_law_810 _ _ _ _).trans (congrArg (fun o => ndX Gm (WP Gm) j_Law_law 810 o Q) (if_pos (by rw [hk, show decide (catS st ≤ 8) = true from hc]; rfl)))
set_option maxRecDepth 100000 in
theorem c_Law_law_813 : mCode j_Law_law 813 = oCallV kc_String j_String_equals 1 (mL j_String_equals) 816 := (rfl)
theorem e_Law_law_813 (a : Nat) (x0 : Option Nat) (hk : isK h a kc_String = true) (hc : c8 st = true) : (WP Gm j_Law_law 813 (ls) (.inr (.inl x0) :: .inr (.inl (some a)) :: st) h Q) = (WP Gm j_String_equals 0 [some (.inr (.inl (some a))), some (.inr (.inl x0)), none] [] h (kC (fun v h2 => WP Gm j_Law_law 816 ls (v.toList ++ st) h2 Q) (fun E h2 => Q (.inr E) h2))) := (WP_at c_Law_law_813 _ _ _ _).trans (congrArg (fun o => ndX Gm (WP Gm) j_Law_law 813 o Q) (if_pos (by rw [hk, show decide (catS st ≤ 8) = true from hc]; rfl)))
set_option maxRecDepth 100000 in
theorem c_Law_law_816 : mCode j_Law_law 816 = oIf (fun x => decide (¬ x = 0)) 996 819 := (rfl)
theorem e_Law_law_816 (x : Int32) : (WP Gm j_Law_law 816 (ls) (.inl x :: st) h Q) = (if ¬ x = 0 then WP Gm j_Law_law 996 (ls) (st) (h) Q else WP Gm j_Law_law 819 (ls) (st) (h) Q) := (WP_at c_Law_law_816 _ _ _ _).trans (nd_if rfl _ _ _ _)
set_option maxRecDepth 100000 in
theorem c_Law_law_819 : mCode j_Law_law 819 = oI 0 820 := (rfl)
theorem e_Law_law_819  : (WP Gm j_Law_law 819 (ls) (st) h Q) = (WP Gm j_Law_law 820 (ls) (.inl 0 :: st) (h) Q) := (WP_at c_Law_law_819 _ _ _ _)
set_option maxRecDepth 100000 in
theorem c_Law_law_820 : mCode j_Law_law 820 = oRetZ := (rfl)
theorem e_Law_law_820 (x : Int32) (hx : x = 0 ∨ x = 1) : (WP Gm j_Law_law 820 (ls) ([.inl x]) h Q) = (Q (.inl (some (.inl x))) h) := (WP_at c_Law_law_820 _ _ _ _).trans (congrArg (fun o => ndX Gm (WP Gm) j_Law_law 820 o Q) (if_pos (by rcases hx with rfl | rfl <;> rfl)))
set_option maxRecDepth 100000 in
theorem c_Law_law_821 : mCode j_Law_law 821 = oAld 1 822 := (rfl)
theorem e_Law_law_821 (a0 : Option MV) (x : Option Nat) : (WP Gm j_Law_law 821 (a0 :: some (.inr (.inl x)) :: ls) (st) h Q) = (WP Gm j_Law_law 822 (a0 :: some (.inr (.inl x)) :: ls) (.inr (.inl x) :: st) (h) Q) := (WP_at c_Law_law_821 _ _ _ _)
set_option maxRecDepth 100000 in
theorem c_Law_law_822 : mCode j_Law_law 822 = oAld 0 823 := (rfl)
theorem e_Law_law_822 (x : Option Nat) : (WP Gm j_Law_law 822 (some (.inr (.inl x)) :: ls) (st) h Q) = (WP Gm j_Law_law 823 (some (.inr (.inl x)) :: ls) (.inr (.inl x) :: st) (h) Q) := (WP_at c_Law_law_822 _ _ _ _)
set_option maxRecDepth 100000 in
theorem c_Law_law_823 : mCode j_Law_law 823 = oIld 4 825 := (rfl)
theorem e_Law_law_823 (a0 a1 a2 a3 : Option MV) (x : Int32) : (WP Gm j_Law_law 823 (a0 :: a1 :: a2 :: a3 :: some (.inl x) :: ls) (st) h Q) = (WP Gm j_Law_law 825 (a0 :: a1 :: a2 :: a3 :: some (.inl x) :: ls) (.inl x :: st) (h) Q) := (WP_at c_Law_law_823 _ _ _ _)
set_option maxRecDepth 100000 in
theorem c_Law_law_825 : mCode j_Law_law 825 = oI 1 826 := (rfl)
theorem e_Law_law_825  : (WP Gm j_Law_law 825 (ls) (st) h Q) = (WP Gm j_Law_law 826 (ls) (.inl 1 :: st) (h) Q) := (WP_at c_Law_law_825 _ _ _ _)
set_option maxRecDepth 100000 in
theorem c_Law_law_826 : mCode j_Law_law 826 = oII (fun x y => x + y) 827 := (rfl)
theorem e_Law_law_826 (x : Int32) (y : Int32) : (WP Gm j_Law_law 826 (ls) (.inl y :: .inl x :: st) h Q) = (WP Gm j_Law_law 827 (ls) (.inl (x + y) :: st) (h) Q) := (WP_at c_Law_law_826 _ _ _ _)
set_option maxRecDepth 100000 in
theorem c_Law_law_827 : mCode j_Law_law 827 = oIal 0 828 := (rfl)
theorem e_Law_law_827 (a : Nat) (i : Int32) (hk : isK h a 100 = true) (hi : inL h a i = true) : (WP Gm j_Law_law 827 (ls) (.inl i :: .inr (.inl (some a)) :: st) h Q) = (WP Gm j_Law_law 828 (ls) (.inl (gI h a i.toNatClampNeg) :: st) (h) Q) := (WP_at c_Law_law_827 _ _ _ _).trans (congrArg (fun o => ndX Gm (WP Gm) j_Law_law 827 o Q) (if_pos (by rw [hk, hi]; rfl)))
set_option maxRecDepth 100000 in
theorem c_Law_law_828 : mCode j_Law_law 828 = oAld 0 829 := (rfl)
theorem e_Law_law_828 (x : Option Nat) : (WP Gm j_Law_law 828 (some (.inr (.inl x)) :: ls) (st) h Q) = (WP Gm j_Law_law 829 (some (.inr (.inl x)) :: ls) (.inr (.inl x) :: st) (h) Q) := (WP_at c_Law_law_828 _ _ _ _)
set_option maxRecDepth 100000 in
theorem c_Law_law_829 : mCode j_Law_law 829 = oIld 4 831 := (rfl)
theorem e_Law_law_829 (a0 a1 a2 a3 : Option MV) (x : Int32) : (WP Gm j_Law_law 829 (a0 :: a1 :: a2 :: a3 :: some (.inl x) :: ls) (st) h Q) = (WP Gm j_Law_law 831 (a0 :: a1 :: a2 :: a3 :: some (.inl x) :: ls) (.inl x :: st) (h) Q) := (WP_at c_Law_law_829 _ _ _ _)
set_option maxRecDepth 100000 in
theorem c_Law_law_831 : mCode j_Law_law 831 = oI 2 832 := (rfl)
theorem e_Law_law_831  : (WP Gm j_Law_law 831 (ls) (st) h Q) = (WP Gm j_Law_law 832 (ls) (.inl 2 :: st) (h) Q) := (WP_at c_Law_law_831 _ _ _ _)
set_option maxRecDepth 100000 in
theorem c_Law_law_832 : mCode j_Law_law 832 = oII (fun x y => x + y) 833 := (rfl)
theorem e_Law_law_832 (x : Int32) (y : Int32) : (WP Gm j_Law_law 832 (ls) (.inl y :: .inl x :: st) h Q) = (WP Gm j_Law_law 833 (ls) (.inl (x + y) :: st) (h) Q) := (WP_at c_Law_law_832 _ _ _ _)
set_option maxRecDepth 100000 in
theorem c_Law_law_833 : mCode j_Law_law 833 = oIal 0 834 := (rfl)
theorem e_Law_law_833 (a : Nat) (i : Int32) (hk : isK h a 100 = true) (hi : inL h a i = true) : (WP Gm j_Law_law 833 (ls) (.inl i :: .inr (.inl (some a)) :: st) h Q) = (WP Gm j_Law_law 834 (ls) (.inl (gI h a i.toNatClampNeg) :: st) (h) Q) := (WP_at c_Law_law_833 _ _ _ _).trans (congrArg (fun o => ndX Gm (WP Gm) j_Law_law 833 o Q) (if_pos (by rw [hk, hi]; rfl)))
set_option maxRecDepth 100000 in
theorem c_Law_law_834 : mCode j_Law_law 834 = oAld 3 835 := (rfl)
theorem e_Law_law_834 (a0 a1 a2 : Option MV) (x : Option Nat) : (WP Gm j_Law_law 834 (a0 :: a1 :: a2 :: some (.inr (.inl x)) :: ls) (st) h Q) = (WP Gm j_Law_law 835 (a0 :: a1 :: a2 :: some (.inr (.inl x)) :: ls) (.inr (.inl x) :: st) (h) Q) := (WP_at c_Law_law_834 _ _ _ _)
set_option maxRecDepth 100000 in
theorem c_Law_law_835 : mCode j_Law_law 835 = oCallS j_Law_would 4 (mL j_Law_would) 838 := (rfl)
theorem e_Law_law_835 (x0 : Option Nat) (x1 : Int32) (x2 : Int32) (x3 : Option Nat) (hc : c8 st = true) : (WP Gm j_Law_law 835 (ls) (.inr (.inl x3) :: .inl x2 :: .inl x1 :: .inr (.inl x0) :: st) h Q) = (WP Gm j_Law_would 0 [some (.inr (.inl x0)), some (.inl x1), some (.inl x2), some (.inr (.inl x3)), none] [] h (kC (fun v h2 => WP Gm j_Law_law 838 ls (v.toList ++ st) h2 Q) (fun E h2 => Q (.inr E) h2))) := (WP_at c_Law_law_835 _ _ _ _).trans (congrArg (fun o => ndX Gm (WP Gm) j_Law_law 835 o Q) (if_pos (by rw [show decide (catS st ≤ 8) = true from hc]; rfl)))
set_option maxRecDepth 100000 in
theorem c_Law_law_838 : mCode j_Law_law 838 = oIst 5 840 := (rfl)
theorem e_Law_law_838 (x : Int32) : (WP Gm j_Law_law 838 (ls) (.inl x :: st) h Q) = (WP Gm j_Law_law 840 (lSet1 ls 5 (some (.inl x))) (st) (h) Q) := (WP_at c_Law_law_838 _ _ _ _)
set_option maxRecDepth 100000 in
theorem c_Law_law_840 : mCode j_Law_law 840 = oAld 2 841 := (rfl)
theorem e_Law_law_840 (a0 a1 : Option MV) (x : Option Nat) : (WP Gm j_Law_law 840 (a0 :: a1 :: some (.inr (.inl x)) :: ls) (st) h Q) = (WP Gm j_Law_law 841 (a0 :: a1 :: some (.inr (.inl x)) :: ls) (.inr (.inl x) :: st) (h) Q) := (WP_at c_Law_law_840 _ _ _ _)
set_option maxRecDepth 100000 in
theorem c_Law_law_841 : mCode j_Law_law 841 = oAld 0 842 := (rfl)
theorem e_Law_law_841 (x : Option Nat) : (WP Gm j_Law_law 841 (some (.inr (.inl x)) :: ls) (st) h Q) = (WP Gm j_Law_law 842 (some (.inr (.inl x)) :: ls) (.inr (.inl x) :: st) (h) Q) := (WP_at c_Law_law_841 _ _ _ _)
set_option maxRecDepth 100000 in
theorem c_Law_law_842 : mCode j_Law_law 842 = oIld 4 844 := (rfl)
theorem e_Law_law_842 (a0 a1 a2 a3 : Option MV) (x : Int32) : (WP Gm j_Law_law 842 (a0 :: a1 :: a2 :: a3 :: some (.inl x) :: ls) (st) h Q) = (WP Gm j_Law_law 844 (a0 :: a1 :: a2 :: a3 :: some (.inl x) :: ls) (.inl x :: st) (h) Q) := (WP_at c_Law_law_842 _ _ _ _)
set_option maxRecDepth 100000 in
theorem c_Law_law_844 : mCode j_Law_law 844 = oI 1 845 := (rfl)
theorem e_Law_law_844  : (WP Gm j_Law_law 844 (ls) (st) h Q) = (WP Gm j_Law_law 845 (ls) (.inl 1 :: st) (h) Q) := (WP_at c_Law_law_844 _ _ _ _)
set_option maxRecDepth 100000 in
theorem c_Law_law_845 : mCode j_Law_law 845 = oII (fun x y => x + y) 846 := (rfl)
theorem e_Law_law_845 (x : Int32) (y : Int32) : (WP Gm j_Law_law 845 (ls) (.inl y :: .inl x :: st) h Q) = (WP Gm j_Law_law 846 (ls) (.inl (x + y) :: st) (h) Q) := (WP_at c_Law_law_845 _ _ _ _)
set_option maxRecDepth 100000 in
theorem c_Law_law_846 : mCode j_Law_law 846 = oIal 0 847 := (rfl)
theorem e_Law_law_846 (a : Nat) (i : Int32) (hk : isK h a 100 = true) (hi : inL h a i = true) : (WP Gm j_Law_law 846 (ls) (.inl i :: .inr (.inl (some a)) :: st) h Q) = (WP Gm j_Law_law 847 (ls) (.inl (gI h a i.toNatClampNeg) :: st) (h) Q) := (WP_at c_Law_law_846 _ _ _ _).trans (congrArg (fun o => ndX Gm (WP Gm) j_Law_law 846 o Q) (if_pos (by rw [hk, hi]; rfl)))
set_option maxRecDepth 100000 in
theorem c_Law_law_847 : mCode j_Law_law 847 = oAld 0 848 := (rfl)
theorem e_Law_law_847 (x : Option Nat) : (WP Gm j_Law_law 847 (some (.inr (.inl x)) :: ls) (st) h Q) = (WP Gm j_Law_law 848 (some (.inr (.inl x)) :: ls) (.inr (.inl x) :: st) (h) Q) := (WP_at c_Law_law_847 _ _ _ _)
set_option maxRecDepth 100000 in
theorem c_Law_law_848 : mCode j_Law_law 848 = oIld 4 850 := (rfl)
theorem e_Law_law_848 (a0 a1 a2 a3 : Option MV) (x : Int32) : (WP Gm j_Law_law 848 (a0 :: a1 :: a2 :: a3 :: some (.inl x) :: ls) (st) h Q) = (WP Gm j_Law_law 850 (a0 :: a1 :: a2 :: a3 :: some (.inl x) :: ls) (.inl x :: st) (h) Q) := (WP_at c_Law_law_848 _ _ _ _)
set_option maxRecDepth 100000 in
theorem c_Law_law_850 : mCode j_Law_law 850 = oI 2 851 := (rfl)
theorem e_Law_law_850  : (WP Gm j_Law_law 850 (ls) (st) h Q) = (WP Gm j_Law_law 851 (ls) (.inl 2 :: st) (h) Q) := (WP_at c_Law_law_850 _ _ _ _)
set_option maxRecDepth 100000 in
theorem c_Law_law_851 : mCode j_Law_law 851 = oII (fun x y => x + y) 852 := (rfl)
theorem e_Law_law_851 (x : Int32) (y : Int32) : (WP Gm j_Law_law 851 (ls) (.inl y :: .inl x :: st) h Q) = (WP Gm j_Law_law 852 (ls) (.inl (x + y) :: st) (h) Q) := (WP_at c_Law_law_851 _ _ _ _)
set_option maxRecDepth 100000 in
theorem c_Law_law_852 : mCode j_Law_law 852 = oIal 0 853 := (rfl)
theorem e_Law_law_852 (a : Nat) (i : Int32) (hk : isK h a 100 = true) (hi : inL h a i = true) : (WP Gm j_Law_law 852 (ls) (.inl i :: .inr (.inl (some a)) :: st) h Q) = (WP Gm j_Law_law 853 (ls) (.inl (gI h a i.toNatClampNeg) :: st) (h) Q) := (WP_at c_Law_law_852 _ _ _ _).trans (congrArg (fun o => ndX Gm (WP Gm) j_Law_law 852 o Q) (if_pos (by rw [hk, hi]; rfl)))
set_option maxRecDepth 100000 in
theorem c_Law_law_853 : mCode j_Law_law 853 = oCallV kc_Mdl j_Mdl_would 2 (mL j_Mdl_would) 856 := (rfl)
theorem e_Law_law_853 (a : Nat) (x0 : Int32) (x1 : Int32) (hk : isK h a kc_Mdl = true) (hc : c8 st = true) : (WP Gm j_Law_law 853 (ls) (.inl x1 :: .inl x0 :: .inr (.inl (some a)) :: st) h Q) = (WP Gm j_Mdl_would 0 [some (.inr (.inl (some a))), some (.inl x0), some (.inl x1), none] [] h (kC (fun v h2 => WP Gm j_Law_law 856 ls (v.toList ++ st) h2 Q) (fun E h2 => Q (.inr E) h2))) := (WP_at c_Law_law_853 _ _ _ _).trans (congrArg (fun o => ndX Gm (WP Gm) j_Law_law 853 o Q) (if_pos (by rw [hk, show decide (catS st ≤ 8) = true from hc]; rfl)))
set_option maxRecDepth 100000 in
theorem c_Law_law_856 : mCode j_Law_law 856 = oIst 6 858 := (rfl)
theorem e_Law_law_856 (x : Int32) : (WP Gm j_Law_law 856 (ls) (.inl x :: st) h Q) = (WP Gm j_Law_law 858 (lSet1 ls 6 (some (.inl x))) (st) (h) Q) := (WP_at c_Law_law_856 _ _ _ _)
set_option maxRecDepth 100000 in
theorem c_Law_law_858 : mCode j_Law_law 858 = oGo 996 := (rfl)
theorem e_Law_law_858  : (WP Gm j_Law_law 858 (ls) (st) h Q) = (WP Gm j_Law_law 996 (ls) (st) (h) Q) := (WP_at c_Law_law_858 _ _ _ _)
set_option maxRecDepth 100000 in
theorem c_Law_law_861 : mCode j_Law_law 861 = oAld 1 862 := (rfl)
theorem e_Law_law_861 (a0 : Option MV) (x : Option Nat) : (WP Gm j_Law_law 861 (a0 :: some (.inr (.inl x)) :: ls) (st) h Q) = (WP Gm j_Law_law 862 (a0 :: some (.inr (.inl x)) :: ls) (.inr (.inl x) :: st) (h) Q) := (WP_at c_Law_law_861 _ _ _ _)
set_option maxRecDepth 100000 in
theorem c_Law_law_862 : mCode j_Law_law 862 = oAld 0 863 := (rfl)
theorem e_Law_law_862 (x : Option Nat) : (WP Gm j_Law_law 862 (some (.inr (.inl x)) :: ls) (st) h Q) = (WP Gm j_Law_law 863 (some (.inr (.inl x)) :: ls) (.inr (.inl x) :: st) (h) Q) := (WP_at c_Law_law_862 _ _ _ _)
set_option maxRecDepth 100000 in
theorem c_Law_law_863 : mCode j_Law_law 863 = oIld 4 865 := (rfl)
theorem e_Law_law_863 (a0 a1 a2 a3 : Option MV) (x : Int32) : (WP Gm j_Law_law 863 (a0 :: a1 :: a2 :: a3 :: some (.inl x) :: ls) (st) h Q) = (WP Gm j_Law_law 865 (a0 :: a1 :: a2 :: a3 :: some (.inl x) :: ls) (.inl x :: st) (h) Q) := (WP_at c_Law_law_863 _ _ _ _)
set_option maxRecDepth 100000 in
theorem c_Law_law_865 : mCode j_Law_law 865 = oI 1 866 := (rfl)
theorem e_Law_law_865  : (WP Gm j_Law_law 865 (ls) (st) h Q) = (WP Gm j_Law_law 866 (ls) (.inl 1 :: st) (h) Q) := (WP_at c_Law_law_865 _ _ _ _)
set_option maxRecDepth 100000 in
theorem c_Law_law_866 : mCode j_Law_law 866 = oII (fun x y => x + y) 867 := (rfl)
theorem e_Law_law_866 (x : Int32) (y : Int32) : (WP Gm j_Law_law 866 (ls) (.inl y :: .inl x :: st) h Q) = (WP Gm j_Law_law 867 (ls) (.inl (x + y) :: st) (h) Q) := (WP_at c_Law_law_866 _ _ _ _)
set_option maxRecDepth 100000 in
theorem c_Law_law_867 : mCode j_Law_law 867 = oIal 0 868 := (rfl)
theorem e_Law_law_867 (a : Nat) (i : Int32) (hk : isK h a 100 = true) (hi : inL h a i = true) : (WP Gm j_Law_law 867 (ls) (.inl i :: .inr (.inl (some a)) :: st) h Q) = (WP Gm j_Law_law 868 (ls) (.inl (gI h a i.toNatClampNeg) :: st) (h) Q) := (WP_at c_Law_law_867 _ _ _ _).trans (congrArg (fun o => ndX Gm (WP Gm) j_Law_law 867 o Q) (if_pos (by rw [hk, hi]; rfl)))
set_option maxRecDepth 100000 in
theorem c_Law_law_868 : mCode j_Law_law 868 = oAld 0 869 := (rfl)
theorem e_Law_law_868 (x : Option Nat) : (WP Gm j_Law_law 868 (some (.inr (.inl x)) :: ls) (st) h Q) = (WP Gm j_Law_law 869 (some (.inr (.inl x)) :: ls) (.inr (.inl x) :: st) (h) Q) := (WP_at c_Law_law_868 _ _ _ _)
set_option maxRecDepth 100000 in
theorem c_Law_law_869 : mCode j_Law_law 869 = oIld 4 871 := (rfl)
theorem e_Law_law_869 (a0 a1 a2 a3 : Option MV) (x : Int32) : (WP Gm j_Law_law 869 (a0 :: a1 :: a2 :: a3 :: some (.inl x) :: ls) (st) h Q) = (WP Gm j_Law_law 871 (a0 :: a1 :: a2 :: a3 :: some (.inl x) :: ls) (.inl x :: st) (h) Q) := (WP_at c_Law_law_869 _ _ _ _)
set_option maxRecDepth 100000 in
theorem c_Law_law_871 : mCode j_Law_law 871 = oI 2 872 := (rfl)
theorem e_Law_law_871  : (WP Gm j_Law_law 871 (ls) (st) h Q) = (WP Gm j_Law_law 872 (ls) (.inl 2 :: st) (h) Q) := (WP_at c_Law_law_871 _ _ _ _)
set_option maxRecDepth 100000 in
theorem c_Law_law_872 : mCode j_Law_law 872 = oII (fun x y => x + y) 873 := (rfl)
theorem e_Law_law_872 (x : Int32) (y : Int32) : (WP Gm j_Law_law 872 (ls) (.inl y :: .inl x :: st) h Q) = (WP Gm j_Law_law 873 (ls) (.inl (x + y) :: st) (h) Q) := (WP_at c_Law_law_872 _ _ _ _)
set_option maxRecDepth 100000 in
theorem c_Law_law_873 : mCode j_Law_law 873 = oIal 0 874 := (rfl)
theorem e_Law_law_873 (a : Nat) (i : Int32) (hk : isK h a 100 = true) (hi : inL h a i = true) : (WP Gm j_Law_law 873 (ls) (.inl i :: .inr (.inl (some a)) :: st) h Q) = (WP Gm j_Law_law 874 (ls) (.inl (gI h a i.toNatClampNeg) :: st) (h) Q) := (WP_at c_Law_law_873 _ _ _ _).trans (congrArg (fun o => ndX Gm (WP Gm) j_Law_law 873 o Q) (if_pos (by rw [hk, hi]; rfl)))
set_option maxRecDepth 100000 in
theorem c_Law_law_874 : mCode j_Law_law 874 = oAld 3 875 := (rfl)
theorem e_Law_law_874 (a0 a1 a2 : Option MV) (x : Option Nat) : (WP Gm j_Law_law 874 (a0 :: a1 :: a2 :: some (.inr (.inl x)) :: ls) (st) h Q) = (WP Gm j_Law_law 875 (a0 :: a1 :: a2 :: some (.inr (.inl x)) :: ls) (.inr (.inl x) :: st) (h) Q) := (WP_at c_Law_law_874 _ _ _ _)
set_option maxRecDepth 100000 in
theorem c_Law_law_875 : mCode j_Law_law 875 = oCallS j_Law_throughput 4 (mL j_Law_throughput) 878 := (rfl)
theorem e_Law_law_875 (x0 : Option Nat) (x1 : Int32) (x2 : Int32) (x3 : Option Nat) (hc : c8 st = true) : (WP Gm j_Law_law 875 (ls) (.inr (.inl x3) :: .inl x2 :: .inl x1 :: .inr (.inl x0) :: st) h Q) = (WP Gm j_Law_throughput 0 [some (.inr (.inl x0)), some (.inl x1), some (.inl x2), some (.inr (.inl x3)), none] [] h (kC (fun v h2 => WP Gm j_Law_law 878 ls (v.toList ++ st) h2 Q) (fun E h2 => Q (.inr E) h2))) := (WP_at c_Law_law_875 _ _ _ _).trans (congrArg (fun o => ndX Gm (WP Gm) j_Law_law 875 o Q) (if_pos (by rw [show decide (catS st ≤ 8) = true from hc]; rfl)))
set_option maxRecDepth 100000 in
theorem c_Law_law_878 : mCode j_Law_law 878 = oIst 5 880 := (rfl)
theorem e_Law_law_878 (x : Int32) : (WP Gm j_Law_law 878 (ls) (.inl x :: st) h Q) = (WP Gm j_Law_law 880 (lSet1 ls 5 (some (.inl x))) (st) (h) Q) := (WP_at c_Law_law_878 _ _ _ _)
set_option maxRecDepth 100000 in
theorem c_Law_law_880 : mCode j_Law_law 880 = oAld 2 881 := (rfl)
theorem e_Law_law_880 (a0 a1 : Option MV) (x : Option Nat) : (WP Gm j_Law_law 880 (a0 :: a1 :: some (.inr (.inl x)) :: ls) (st) h Q) = (WP Gm j_Law_law 881 (a0 :: a1 :: some (.inr (.inl x)) :: ls) (.inr (.inl x) :: st) (h) Q) := (WP_at c_Law_law_880 _ _ _ _)
set_option maxRecDepth 100000 in
theorem c_Law_law_881 : mCode j_Law_law 881 = oAld 0 882 := (rfl)
theorem e_Law_law_881 (x : Option Nat) : (WP Gm j_Law_law 881 (some (.inr (.inl x)) :: ls) (st) h Q) = (WP Gm j_Law_law 882 (some (.inr (.inl x)) :: ls) (.inr (.inl x) :: st) (h) Q) := (WP_at c_Law_law_881 _ _ _ _)
set_option maxRecDepth 100000 in
theorem c_Law_law_882 : mCode j_Law_law 882 = oIld 4 884 := (rfl)
theorem e_Law_law_882 (a0 a1 a2 a3 : Option MV) (x : Int32) : (WP Gm j_Law_law 882 (a0 :: a1 :: a2 :: a3 :: some (.inl x) :: ls) (st) h Q) = (WP Gm j_Law_law 884 (a0 :: a1 :: a2 :: a3 :: some (.inl x) :: ls) (.inl x :: st) (h) Q) := (WP_at c_Law_law_882 _ _ _ _)
set_option maxRecDepth 100000 in
theorem c_Law_law_884 : mCode j_Law_law 884 = oI 1 885 := (rfl)
theorem e_Law_law_884  : (WP Gm j_Law_law 884 (ls) (st) h Q) = (WP Gm j_Law_law 885 (ls) (.inl 1 :: st) (h) Q) := (WP_at c_Law_law_884 _ _ _ _)
set_option maxRecDepth 100000 in
theorem c_Law_law_885 : mCode j_Law_law 885 = oII (fun x y => x + y) 886 := (rfl)
theorem e_Law_law_885 (x : Int32) (y : Int32) : (WP Gm j_Law_law 885 (ls) (.inl y :: .inl x :: st) h Q) = (WP Gm j_Law_law 886 (ls) (.inl (x + y) :: st) (h) Q) := (WP_at c_Law_law_885 _ _ _ _)
set_option maxRecDepth 100000 in
theorem c_Law_law_886 : mCode j_Law_law 886 = oIal 0 887 := (rfl)
theorem e_Law_law_886 (a : Nat) (i : Int32) (hk : isK h a 100 = true) (hi : inL h a i = true) : (WP Gm j_Law_law 886 (ls) (.inl i :: .inr (.inl (some a)) :: st) h Q) = (WP Gm j_Law_law 887 (ls) (.inl (gI h a i.toNatClampNeg) :: st) (h) Q) := (WP_at c_Law_law_886 _ _ _ _).trans (congrArg (fun o => ndX Gm (WP Gm) j_Law_law 886 o Q) (if_pos (by rw [hk, hi]; rfl)))
set_option maxRecDepth 100000 in
theorem c_Law_law_887 : mCode j_Law_law 887 = oAld 0 888 := (rfl)
theorem e_Law_law_887 (x : Option Nat) : (WP Gm j_Law_law 887 (some (.inr (.inl x)) :: ls) (st) h Q) = (WP Gm j_Law_law 888 (some (.inr (.inl x)) :: ls) (.inr (.inl x) :: st) (h) Q) := (WP_at c_Law_law_887 _ _ _ _)
set_option maxRecDepth 100000 in
theorem c_Law_law_888 : mCode j_Law_law 888 = oIld 4 890 := (rfl)
theorem e_Law_law_888 (a0 a1 a2 a3 : Option MV) (x : Int32) : (WP Gm j_Law_law 888 (a0 :: a1 :: a2 :: a3 :: some (.inl x) :: ls) (st) h Q) = (WP Gm j_Law_law 890 (a0 :: a1 :: a2 :: a3 :: some (.inl x) :: ls) (.inl x :: st) (h) Q) := (WP_at c_Law_law_888 _ _ _ _)
set_option maxRecDepth 100000 in
theorem c_Law_law_890 : mCode j_Law_law 890 = oI 2 891 := (rfl)
theorem e_Law_law_890  : (WP Gm j_Law_law 890 (ls) (st) h Q) = (WP Gm j_Law_law 891 (ls) (.inl 2 :: st) (h) Q) := (WP_at c_Law_law_890 _ _ _ _)
set_option maxRecDepth 100000 in
theorem c_Law_law_891 : mCode j_Law_law 891 = oII (fun x y => x + y) 892 := (rfl)
theorem e_Law_law_891 (x : Int32) (y : Int32) : (WP Gm j_Law_law 891 (ls) (.inl y :: .inl x :: st) h Q) = (WP Gm j_Law_law 892 (ls) (.inl (x + y) :: st) (h) Q) := (WP_at c_Law_law_891 _ _ _ _)
set_option maxRecDepth 100000 in
theorem c_Law_law_892 : mCode j_Law_law 892 = oIal 0 893 := (rfl)
theorem e_Law_law_892 (a : Nat) (i : Int32) (hk : isK h a 100 = true) (hi : inL h a i = true) : (WP Gm j_Law_law 892 (ls) (.inl i :: .inr (.inl (some a)) :: st) h Q) = (WP Gm j_Law_law 893 (ls) (.inl (gI h a i.toNatClampNeg) :: st) (h) Q) := (WP_at c_Law_law_892 _ _ _ _).trans (congrArg (fun o => ndX Gm (WP Gm) j_Law_law 892 o Q) (if_pos (by rw [hk, hi]; rfl)))
set_option maxRecDepth 100000 in
theorem c_Law_law_893 : mCode j_Law_law 893 = oCallV kc_Mdl j_Mdl_throughput 2 (mL j_Mdl_throughput) 896 := (rfl)
theorem e_Law_law_893 (a : Nat) (x0 : Int32) (x1 : Int32) (hk : isK h a kc_Mdl = true) (hc : c8 st = true) : (WP Gm j_Law_law 893 (ls) (.inl x1 :: .inl x0 :: .inr (.inl (some a)) :: st) h Q) = (WP Gm j_Mdl_throughput 0 [some (.inr (.inl (some a))), some (.inl x0), some (.inl x1)] [] h (kC (fun v h2 => WP Gm j_Law_law 896 ls (v.toList ++ st) h2 Q) (fun E h2 => Q (.inr E) h2))) := (WP_at c_Law_law_893 _ _ _ _).trans (congrArg (fun o => ndX Gm (WP Gm) j_Law_law 893 o Q) (if_pos (by rw [hk, show decide (catS st ≤ 8) = true from hc]; rfl)))
set_option maxRecDepth 100000 in
theorem c_Law_law_896 : mCode j_Law_law 896 = oDst 6 898 := (rfl)
theorem e_Law_law_896 (x : UInt64) : (WP Gm j_Law_law 896 (ls) (.inr (.inr (.inr x)) :: st) h Q) = (WP Gm j_Law_law 898 (lSet2 ls 6 (.inr (.inr (.inr x)))) (st) (h) Q) := (WP_at c_Law_law_896 _ _ _ _)
set_option maxRecDepth 100000 in
theorem c_Law_law_898 : mCode j_Law_law 898 = oGo 996 := (rfl)
theorem e_Law_law_898  : (WP Gm j_Law_law 898 (ls) (st) h Q) = (WP Gm j_Law_law 996 (ls) (st) (h) Q) := (WP_at c_Law_law_898 _ _ _ _)
set_option maxRecDepth 100000 in
theorem c_Law_law_901 : mCode j_Law_law 901 = oAld 1 902 := (rfl)
theorem e_Law_law_901 (a0 : Option MV) (x : Option Nat) : (WP Gm j_Law_law 901 (a0 :: some (.inr (.inl x)) :: ls) (st) h Q) = (WP Gm j_Law_law 902 (a0 :: some (.inr (.inl x)) :: ls) (.inr (.inl x) :: st) (h) Q) := (WP_at c_Law_law_901 _ _ _ _)
set_option maxRecDepth 100000 in
theorem c_Law_law_902 : mCode j_Law_law 902 = oAld 0 903 := (rfl)
theorem e_Law_law_902 (x : Option Nat) : (WP Gm j_Law_law 902 (some (.inr (.inl x)) :: ls) (st) h Q) = (WP Gm j_Law_law 903 (some (.inr (.inl x)) :: ls) (.inr (.inl x) :: st) (h) Q) := (WP_at c_Law_law_902 _ _ _ _)
set_option maxRecDepth 100000 in
theorem c_Law_law_903 : mCode j_Law_law 903 = oIld 4 905 := (rfl)
theorem e_Law_law_903 (a0 a1 a2 a3 : Option MV) (x : Int32) : (WP Gm j_Law_law 903 (a0 :: a1 :: a2 :: a3 :: some (.inl x) :: ls) (st) h Q) = (WP Gm j_Law_law 905 (a0 :: a1 :: a2 :: a3 :: some (.inl x) :: ls) (.inl x :: st) (h) Q) := (WP_at c_Law_law_903 _ _ _ _)
set_option maxRecDepth 100000 in
theorem c_Law_law_905 : mCode j_Law_law 905 = oI 1 906 := (rfl)
theorem e_Law_law_905  : (WP Gm j_Law_law 905 (ls) (st) h Q) = (WP Gm j_Law_law 906 (ls) (.inl 1 :: st) (h) Q) := (WP_at c_Law_law_905 _ _ _ _)
set_option maxRecDepth 100000 in
theorem c_Law_law_906 : mCode j_Law_law 906 = oII (fun x y => x + y) 907 := (rfl)
theorem e_Law_law_906 (x : Int32) (y : Int32) : (WP Gm j_Law_law 906 (ls) (.inl y :: .inl x :: st) h Q) = (WP Gm j_Law_law 907 (ls) (.inl (x + y) :: st) (h) Q) := (WP_at c_Law_law_906 _ _ _ _)
set_option maxRecDepth 100000 in
theorem c_Law_law_907 : mCode j_Law_law 907 = oIal 0 908 := (rfl)
theorem e_Law_law_907 (a : Nat) (i : Int32) (hk : isK h a 100 = true) (hi : inL h a i = true) : (WP Gm j_Law_law 907 (ls) (.inl i :: .inr (.inl (some a)) :: st) h Q) = (WP Gm j_Law_law 908 (ls) (.inl (gI h a i.toNatClampNeg) :: st) (h) Q) := (WP_at c_Law_law_907 _ _ _ _).trans (congrArg (fun o => ndX Gm (WP Gm) j_Law_law 907 o Q) (if_pos (by rw [hk, hi]; rfl)))
set_option maxRecDepth 100000 in
theorem c_Law_law_908 : mCode j_Law_law 908 = oAld 3 909 := (rfl)
theorem e_Law_law_908 (a0 a1 a2 : Option MV) (x : Option Nat) : (WP Gm j_Law_law 908 (a0 :: a1 :: a2 :: some (.inr (.inl x)) :: ls) (st) h Q) = (WP Gm j_Law_law 909 (a0 :: a1 :: a2 :: some (.inr (.inl x)) :: ls) (.inr (.inl x) :: st) (h) Q) := (WP_at c_Law_law_908 _ _ _ _)
set_option maxRecDepth 100000 in
theorem c_Law_law_909 : mCode j_Law_law 909 = oCallS j_Law_bestChance 3 (mL j_Law_bestChance) 912 := (rfl)
theorem e_Law_law_909 (x0 : Option Nat) (x1 : Int32) (x2 : Option Nat) (hc : c8 st = true) : (WP Gm j_Law_law 909 (ls) (.inr (.inl x2) :: .inl x1 :: .inr (.inl x0) :: st) h Q) = (WP Gm j_Law_bestChance 0 [some (.inr (.inl x0)), some (.inl x1), some (.inr (.inl x2)), none] [] h (kC (fun v h2 => WP Gm j_Law_law 912 ls (v.toList ++ st) h2 Q) (fun E h2 => Q (.inr E) h2))) := (WP_at c_Law_law_909 _ _ _ _).trans (congrArg (fun o => ndX Gm (WP Gm) j_Law_law 909 o Q) (if_pos (by rw [show decide (catS st ≤ 8) = true from hc]; rfl)))
set_option maxRecDepth 100000 in
theorem c_Law_law_912 : mCode j_Law_law 912 = oIst 5 914 := (rfl)
theorem e_Law_law_912 (x : Int32) : (WP Gm j_Law_law 912 (ls) (.inl x :: st) h Q) = (WP Gm j_Law_law 914 (lSet1 ls 5 (some (.inl x))) (st) (h) Q) := (WP_at c_Law_law_912 _ _ _ _)
set_option maxRecDepth 100000 in
theorem c_Law_law_914 : mCode j_Law_law 914 = oAld 2 915 := (rfl)
theorem e_Law_law_914 (a0 a1 : Option MV) (x : Option Nat) : (WP Gm j_Law_law 914 (a0 :: a1 :: some (.inr (.inl x)) :: ls) (st) h Q) = (WP Gm j_Law_law 915 (a0 :: a1 :: some (.inr (.inl x)) :: ls) (.inr (.inl x) :: st) (h) Q) := (WP_at c_Law_law_914 _ _ _ _)
set_option maxRecDepth 100000 in
theorem c_Law_law_915 : mCode j_Law_law 915 = oAld 0 916 := (rfl)
theorem e_Law_law_915 (x : Option Nat) : (WP Gm j_Law_law 915 (some (.inr (.inl x)) :: ls) (st) h Q) = (WP Gm j_Law_law 916 (some (.inr (.inl x)) :: ls) (.inr (.inl x) :: st) (h) Q) := (WP_at c_Law_law_915 _ _ _ _)
set_option maxRecDepth 100000 in
theorem c_Law_law_916 : mCode j_Law_law 916 = oIld 4 918 := (rfl)
theorem e_Law_law_916 (a0 a1 a2 a3 : Option MV) (x : Int32) : (WP Gm j_Law_law 916 (a0 :: a1 :: a2 :: a3 :: some (.inl x) :: ls) (st) h Q) = (WP Gm j_Law_law 918 (a0 :: a1 :: a2 :: a3 :: some (.inl x) :: ls) (.inl x :: st) (h) Q) := (WP_at c_Law_law_916 _ _ _ _)
set_option maxRecDepth 100000 in
theorem c_Law_law_918 : mCode j_Law_law 918 = oI 1 919 := (rfl)
theorem e_Law_law_918  : (WP Gm j_Law_law 918 (ls) (st) h Q) = (WP Gm j_Law_law 919 (ls) (.inl 1 :: st) (h) Q) := (WP_at c_Law_law_918 _ _ _ _)
set_option maxRecDepth 100000 in
theorem c_Law_law_919 : mCode j_Law_law 919 = oII (fun x y => x + y) 920 := (rfl)
theorem e_Law_law_919 (x : Int32) (y : Int32) : (WP Gm j_Law_law 919 (ls) (.inl y :: .inl x :: st) h Q) = (WP Gm j_Law_law 920 (ls) (.inl (x + y) :: st) (h) Q) := (WP_at c_Law_law_919 _ _ _ _)
set_option maxRecDepth 100000 in
theorem c_Law_law_920 : mCode j_Law_law 920 = oIal 0 921 := (rfl)
theorem e_Law_law_920 (a : Nat) (i : Int32) (hk : isK h a 100 = true) (hi : inL h a i = true) : (WP Gm j_Law_law 920 (ls) (.inl i :: .inr (.inl (some a)) :: st) h Q) = (WP Gm j_Law_law 921 (ls) (.inl (gI h a i.toNatClampNeg) :: st) (h) Q) := (WP_at c_Law_law_920 _ _ _ _).trans (congrArg (fun o => ndX Gm (WP Gm) j_Law_law 920 o Q) (if_pos (by rw [hk, hi]; rfl)))
set_option maxRecDepth 100000 in
theorem c_Law_law_921 : mCode j_Law_law 921 = oCallV kc_Mdl j_Mdl_bestChance 1 (mL j_Mdl_bestChance) 924 := (rfl)
theorem e_Law_law_921 (a : Nat) (x0 : Int32) (hk : isK h a kc_Mdl = true) (hc : c8 st = true) : (WP Gm j_Law_law 921 (ls) (.inl x0 :: .inr (.inl (some a)) :: st) h Q) = (WP Gm j_Mdl_bestChance 0 [some (.inr (.inl (some a))), some (.inl x0), none, none] [] h (kC (fun v h2 => WP Gm j_Law_law 924 ls (v.toList ++ st) h2 Q) (fun E h2 => Q (.inr E) h2))) := (WP_at c_Law_law_921 _ _ _ _).trans (congrArg (fun o => ndX Gm (WP Gm) j_Law_law 921 o Q) (if_pos (by rw [hk, show decide (catS st ≤ 8) = true from hc]; rfl)))
set_option maxRecDepth 100000 in
theorem c_Law_law_924 : mCode j_Law_law 924 = oIst 6 926 := (rfl)
theorem e_Law_law_924 (x : Int32) : (WP Gm j_Law_law 924 (ls) (.inl x :: st) h Q) = (WP Gm j_Law_law 926 (lSet1 ls 6 (some (.inl x))) (st) (h) Q) := (WP_at c_Law_law_924 _ _ _ _)
set_option maxRecDepth 100000 in
theorem c_Law_law_926 : mCode j_Law_law 926 = oGo 996 := (rfl)
theorem e_Law_law_926  : (WP Gm j_Law_law 926 (ls) (st) h Q) = (WP Gm j_Law_law 996 (ls) (st) (h) Q) := (WP_at c_Law_law_926 _ _ _ _)
set_option maxRecDepth 100000 in
theorem c_Law_law_929 : mCode j_Law_law 929 = oAld 1 930 := (rfl)
theorem e_Law_law_929 (a0 : Option MV) (x : Option Nat) : (WP Gm j_Law_law 929 (a0 :: some (.inr (.inl x)) :: ls) (st) h Q) = (WP Gm j_Law_law 930 (a0 :: some (.inr (.inl x)) :: ls) (.inr (.inl x) :: st) (h) Q) := (WP_at c_Law_law_929 _ _ _ _)
set_option maxRecDepth 100000 in
theorem c_Law_law_930 : mCode j_Law_law 930 = oAld 0 931 := (rfl)
theorem e_Law_law_930 (x : Option Nat) : (WP Gm j_Law_law 930 (some (.inr (.inl x)) :: ls) (st) h Q) = (WP Gm j_Law_law 931 (some (.inr (.inl x)) :: ls) (.inr (.inl x) :: st) (h) Q) := (WP_at c_Law_law_930 _ _ _ _)
set_option maxRecDepth 100000 in
theorem c_Law_law_931 : mCode j_Law_law 931 = oIld 4 933 := (rfl)
theorem e_Law_law_931 (a0 a1 a2 a3 : Option MV) (x : Int32) : (WP Gm j_Law_law 931 (a0 :: a1 :: a2 :: a3 :: some (.inl x) :: ls) (st) h Q) = (WP Gm j_Law_law 933 (a0 :: a1 :: a2 :: a3 :: some (.inl x) :: ls) (.inl x :: st) (h) Q) := (WP_at c_Law_law_931 _ _ _ _)
set_option maxRecDepth 100000 in
theorem c_Law_law_933 : mCode j_Law_law 933 = oI 1 934 := (rfl)
theorem e_Law_law_933  : (WP Gm j_Law_law 933 (ls) (st) h Q) = (WP Gm j_Law_law 934 (ls) (.inl 1 :: st) (h) Q) := (WP_at c_Law_law_933 _ _ _ _)
set_option maxRecDepth 100000 in
theorem c_Law_law_934 : mCode j_Law_law 934 = oII (fun x y => x + y) 935 := (rfl)
theorem e_Law_law_934 (x : Int32) (y : Int32) : (WP Gm j_Law_law 934 (ls) (.inl y :: .inl x :: st) h Q) = (WP Gm j_Law_law 935 (ls) (.inl (x + y) :: st) (h) Q) := (WP_at c_Law_law_934 _ _ _ _)
set_option maxRecDepth 100000 in
theorem c_Law_law_935 : mCode j_Law_law 935 = oIal 0 936 := (rfl)
theorem e_Law_law_935 (a : Nat) (i : Int32) (hk : isK h a 100 = true) (hi : inL h a i = true) : (WP Gm j_Law_law 935 (ls) (.inl i :: .inr (.inl (some a)) :: st) h Q) = (WP Gm j_Law_law 936 (ls) (.inl (gI h a i.toNatClampNeg) :: st) (h) Q) := (WP_at c_Law_law_935 _ _ _ _).trans (congrArg (fun o => ndX Gm (WP Gm) j_Law_law 935 o Q) (if_pos (by rw [hk, hi]; rfl)))
set_option maxRecDepth 100000 in
theorem c_Law_law_936 : mCode j_Law_law 936 = oAld 3 937 := (rfl)
theorem e_Law_law_936 (a0 a1 a2 : Option MV) (x : Option Nat) : (WP Gm j_Law_law 936 (a0 :: a1 :: a2 :: some (.inr (.inl x)) :: ls) (st) h Q) = (WP Gm j_Law_law 937 (a0 :: a1 :: a2 :: some (.inr (.inl x)) :: ls) (.inr (.inl x) :: st) (h) Q) := (WP_at c_Law_law_936 _ _ _ _)
set_option maxRecDepth 100000 in
theorem c_Law_law_937 : mCode j_Law_law 937 = oCallS j_Law_auction 3 (mL j_Law_auction) 940 := (rfl)
theorem e_Law_law_937 (x0 : Option Nat) (x1 : Int32) (x2 : Option Nat) (hc : c8 st = true) : (WP Gm j_Law_law 937 (ls) (.inr (.inl x2) :: .inl x1 :: .inr (.inl x0) :: st) h Q) = (WP Gm j_Law_auction 0 [some (.inr (.inl x0)), some (.inl x1), some (.inr (.inl x2)), none] [] h (kC (fun v h2 => WP Gm j_Law_law 940 ls (v.toList ++ st) h2 Q) (fun E h2 => Q (.inr E) h2))) := (WP_at c_Law_law_937 _ _ _ _).trans (congrArg (fun o => ndX Gm (WP Gm) j_Law_law 937 o Q) (if_pos (by rw [show decide (catS st ≤ 8) = true from hc]; rfl)))
set_option maxRecDepth 100000 in
theorem c_Law_law_940 : mCode j_Law_law 940 = oIst 5 942 := (rfl)
theorem e_Law_law_940 (x : Int32) : (WP Gm j_Law_law 940 (ls) (.inl x :: st) h Q) = (WP Gm j_Law_law 942 (lSet1 ls 5 (some (.inl x))) (st) (h) Q) := (WP_at c_Law_law_940 _ _ _ _)
set_option maxRecDepth 100000 in
theorem c_Law_law_942 : mCode j_Law_law 942 = oAld 2 943 := (rfl)
theorem e_Law_law_942 (a0 a1 : Option MV) (x : Option Nat) : (WP Gm j_Law_law 942 (a0 :: a1 :: some (.inr (.inl x)) :: ls) (st) h Q) = (WP Gm j_Law_law 943 (a0 :: a1 :: some (.inr (.inl x)) :: ls) (.inr (.inl x) :: st) (h) Q) := (WP_at c_Law_law_942 _ _ _ _)
set_option maxRecDepth 100000 in
theorem c_Law_law_943 : mCode j_Law_law 943 = oAld 0 944 := (rfl)
theorem e_Law_law_943 (x : Option Nat) : (WP Gm j_Law_law 943 (some (.inr (.inl x)) :: ls) (st) h Q) = (WP Gm j_Law_law 944 (some (.inr (.inl x)) :: ls) (.inr (.inl x) :: st) (h) Q) := (WP_at c_Law_law_943 _ _ _ _)
set_option maxRecDepth 100000 in
theorem c_Law_law_944 : mCode j_Law_law 944 = oIld 4 946 := (rfl)
theorem e_Law_law_944 (a0 a1 a2 a3 : Option MV) (x : Int32) : (WP Gm j_Law_law 944 (a0 :: a1 :: a2 :: a3 :: some (.inl x) :: ls) (st) h Q) = (WP Gm j_Law_law 946 (a0 :: a1 :: a2 :: a3 :: some (.inl x) :: ls) (.inl x :: st) (h) Q) := (WP_at c_Law_law_944 _ _ _ _)
set_option maxRecDepth 100000 in
theorem c_Law_law_946 : mCode j_Law_law 946 = oI 1 947 := (rfl)
theorem e_Law_law_946  : (WP Gm j_Law_law 946 (ls) (st) h Q) = (WP Gm j_Law_law 947 (ls) (.inl 1 :: st) (h) Q) := (WP_at c_Law_law_946 _ _ _ _)
set_option maxRecDepth 100000 in
theorem c_Law_law_947 : mCode j_Law_law 947 = oII (fun x y => x + y) 948 := (rfl)
theorem e_Law_law_947 (x : Int32) (y : Int32) : (WP Gm j_Law_law 947 (ls) (.inl y :: .inl x :: st) h Q) = (WP Gm j_Law_law 948 (ls) (.inl (x + y) :: st) (h) Q) := (WP_at c_Law_law_947 _ _ _ _)
set_option maxRecDepth 100000 in
theorem c_Law_law_948 : mCode j_Law_law 948 = oIal 0 949 := (rfl)
theorem e_Law_law_948 (a : Nat) (i : Int32) (hk : isK h a 100 = true) (hi : inL h a i = true) : (WP Gm j_Law_law 948 (ls) (.inl i :: .inr (.inl (some a)) :: st) h Q) = (WP Gm j_Law_law 949 (ls) (.inl (gI h a i.toNatClampNeg) :: st) (h) Q) := (WP_at c_Law_law_948 _ _ _ _).trans (congrArg (fun o => ndX Gm (WP Gm) j_Law_law 948 o Q) (if_pos (by rw [hk, hi]; rfl)))
set_option maxRecDepth 100000 in
theorem c_Law_law_949 : mCode j_Law_law 949 = oCallV kc_Mdl j_Mdl_auction 1 (mL j_Mdl_auction) 952 := (rfl)
theorem e_Law_law_949 (a : Nat) (x0 : Int32) (hk : isK h a kc_Mdl = true) (hc : c8 st = true) : (WP Gm j_Law_law 949 (ls) (.inl x0 :: .inr (.inl (some a)) :: st) h Q) = (WP Gm j_Mdl_auction 0 [some (.inr (.inl (some a))), some (.inl x0)] [] h (kC (fun v h2 => WP Gm j_Law_law 952 ls (v.toList ++ st) h2 Q) (fun E h2 => Q (.inr E) h2))) := (WP_at c_Law_law_949 _ _ _ _).trans (congrArg (fun o => ndX Gm (WP Gm) j_Law_law 949 o Q) (if_pos (by rw [hk, show decide (catS st ≤ 8) = true from hc]; rfl)))
set_option maxRecDepth 100000 in
theorem c_Law_law_952 : mCode j_Law_law 952 = oIst 6 954 := (rfl)
theorem e_Law_law_952 (x : Int32) : (WP Gm j_Law_law 952 (ls) (.inl x :: st) h Q) = (WP Gm j_Law_law 954 (lSet1 ls 6 (some (.inl x))) (st) (h) Q) := (WP_at c_Law_law_952 _ _ _ _)
set_option maxRecDepth 100000 in
theorem c_Law_law_954 : mCode j_Law_law 954 = oGo 996 := (rfl)
theorem e_Law_law_954  : (WP Gm j_Law_law 954 (ls) (st) h Q) = (WP Gm j_Law_law 996 (ls) (st) (h) Q) := (WP_at c_Law_law_954 _ _ _ _)
set_option maxRecDepth 100000 in
theorem c_Law_law_957 : mCode j_Law_law 957 = oAld 1 958 := (rfl)
theorem e_Law_law_957 (a0 : Option MV) (x : Option Nat) : (WP Gm j_Law_law 957 (a0 :: some (.inr (.inl x)) :: ls) (st) h Q) = (WP Gm j_Law_law 958 (a0 :: some (.inr (.inl x)) :: ls) (.inr (.inl x) :: st) (h) Q) := (WP_at c_Law_law_957 _ _ _ _)
set_option maxRecDepth 100000 in
theorem c_Law_law_958 : mCode j_Law_law 958 = oCallV kc_S j_S_cover 0 (mL j_S_cover) 961 := (rfl)
theorem e_Law_law_958 (a : Nat) (hk : isK h a kc_S = true) (hc : c8 st = true) : (WP Gm j_Law_law 958 (ls) (.inr (.inl (some a)) :: st) h Q) = (WP Gm j_S_cover 0 [some (.inr (.inl (some a)))] [] h (kC (fun v h2 => WP Gm j_Law_law 961 ls (v.toList ++ st) h2 Q) (fun E h2 => Q (.inr E) h2))) := (WP_at c_Law_law_958 _ _ _ _).trans (congrArg (fun o => ndX Gm (WP Gm) j_Law_law 958 o Q) (if_pos (by rw [hk, show decide (catS st ≤ 8) = true from hc]; rfl)))
set_option maxRecDepth 100000 in
theorem c_Law_law_961 : mCode j_Law_law 961 = oPop 962 := (rfl)
theorem e_Law_law_961 (x : Int32) : (WP Gm j_Law_law 961 (ls) (.inl x :: st) h Q) = (WP Gm j_Law_law 962 (ls) (st) (h) Q) := (WP_at c_Law_law_961 _ _ _ _)
set_option maxRecDepth 100000 in
theorem c_Law_law_962 : mCode j_Law_law 962 = oAld 2 963 := (rfl)
theorem e_Law_law_962 (a0 a1 : Option MV) (x : Option Nat) : (WP Gm j_Law_law 962 (a0 :: a1 :: some (.inr (.inl x)) :: ls) (st) h Q) = (WP Gm j_Law_law 963 (a0 :: a1 :: some (.inr (.inl x)) :: ls) (.inr (.inl x) :: st) (h) Q) := (WP_at c_Law_law_962 _ _ _ _)
set_option maxRecDepth 100000 in
theorem c_Law_law_963 : mCode j_Law_law 963 = oCallV kc_Mdl j_Mdl_cover 0 (mL j_Mdl_cover) 966 := (rfl)
theorem e_Law_law_963 (a : Nat) (hk : isK h a kc_Mdl = true) (hc : c8 st = true) : (WP Gm j_Law_law 963 (ls) (.inr (.inl (some a)) :: st) h Q) = (WP Gm j_Mdl_cover 0 [some (.inr (.inl (some a)))] [] h (kC (fun v h2 => WP Gm j_Law_law 966 ls (v.toList ++ st) h2 Q) (fun E h2 => Q (.inr E) h2))) := (WP_at c_Law_law_963 _ _ _ _).trans (congrArg (fun o => ndX Gm (WP Gm) j_Law_law 963 o Q) (if_pos (by rw [hk, show decide (catS st ≤ 8) = true from hc]; rfl)))
set_option maxRecDepth 100000 in
theorem c_Law_law_966 : mCode j_Law_law 966 = oPop 967 := (rfl)
theorem e_Law_law_966 (x : Int32) : (WP Gm j_Law_law 966 (ls) (.inl x :: st) h Q) = (WP Gm j_Law_law 967 (ls) (st) (h) Q) := (WP_at c_Law_law_966 _ _ _ _)
set_option maxRecDepth 100000 in
theorem c_Law_law_967 : mCode j_Law_law 967 = oGo 996 := (rfl)
theorem e_Law_law_967  : (WP Gm j_Law_law 967 (ls) (st) h Q) = (WP Gm j_Law_law 996 (ls) (st) (h) Q) := (WP_at c_Law_law_967 _ _ _ _)
set_option maxRecDepth 100000 in
theorem c_Law_law_970 : mCode j_Law_law 970 = oAld 1 971 := (rfl)
theorem e_Law_law_970 (a0 : Option MV) (x : Option Nat) : (WP Gm j_Law_law 970 (a0 :: some (.inr (.inl x)) :: ls) (st) h Q) = (WP Gm j_Law_law 971 (a0 :: some (.inr (.inl x)) :: ls) (.inr (.inl x) :: st) (h) Q) := (WP_at c_Law_law_970 _ _ _ _)
set_option maxRecDepth 100000 in
theorem c_Law_law_971 : mCode j_Law_law 971 = oCallV kc_S j_S_isSound 0 (mL j_S_isSound) 974 := (rfl)
theorem e_Law_law_971 (a : Nat) (hk : isK h a kc_S = true) (hc : c8 st = true) : (WP Gm j_Law_law 971 (ls) (.inr (.inl (some a)) :: st) h Q) = (WP Gm j_S_isSound 0 [some (.inr (.inl (some a))), none, none] [] h (kC (fun v h2 => WP Gm j_Law_law 974 ls (v.toList ++ st) h2 Q) (fun E h2 => Q (.inr E) h2))) := (WP_at c_Law_law_971 _ _ _ _).trans (congrArg (fun o => ndX Gm (WP Gm) j_Law_law 971 o Q) (if_pos (by rw [hk, show decide (catS st ≤ 8) = true from hc]; rfl)))
set_option maxRecDepth 100000 in
theorem c_Law_law_974 : mCode j_Law_law 974 = oPop 975 := (rfl)
theorem e_Law_law_974 (x : Int32) : (WP Gm j_Law_law 974 (ls) (.inl x :: st) h Q) = (WP Gm j_Law_law 975 (ls) (st) (h) Q) := (WP_at c_Law_law_974 _ _ _ _)
set_option maxRecDepth 100000 in
theorem c_Law_law_975 : mCode j_Law_law 975 = oAld 2 976 := (rfl)
theorem e_Law_law_975 (a0 a1 : Option MV) (x : Option Nat) : (WP Gm j_Law_law 975 (a0 :: a1 :: some (.inr (.inl x)) :: ls) (st) h Q) = (WP Gm j_Law_law 976 (a0 :: a1 :: some (.inr (.inl x)) :: ls) (.inr (.inl x) :: st) (h) Q) := (WP_at c_Law_law_975 _ _ _ _)
set_option maxRecDepth 100000 in
theorem c_Law_law_976 : mCode j_Law_law 976 = oCallV kc_Mdl j_Mdl_isSound 0 (mL j_Mdl_isSound) 979 := (rfl)
theorem e_Law_law_976 (a : Nat) (hk : isK h a kc_Mdl = true) (hc : c8 st = true) : (WP Gm j_Law_law 976 (ls) (.inr (.inl (some a)) :: st) h Q) = (WP Gm j_Mdl_isSound 0 [some (.inr (.inl (some a)))] [] h (kC (fun v h2 => WP Gm j_Law_law 979 ls (v.toList ++ st) h2 Q) (fun E h2 => Q (.inr E) h2))) := (WP_at c_Law_law_976 _ _ _ _).trans (congrArg (fun o => ndX Gm (WP Gm) j_Law_law 976 o Q) (if_pos (by rw [hk, show decide (catS st ≤ 8) = true from hc]; rfl)))
set_option maxRecDepth 100000 in
theorem c_Law_law_979 : mCode j_Law_law 979 = oPop 980 := (rfl)
theorem e_Law_law_979 (x : Int32) : (WP Gm j_Law_law 979 (ls) (.inl x :: st) h Q) = (WP Gm j_Law_law 980 (ls) (st) (h) Q) := (WP_at c_Law_law_979 _ _ _ _)
set_option maxRecDepth 100000 in
theorem c_Law_law_980 : mCode j_Law_law 980 = oGo 996 := (rfl)
theorem e_Law_law_980  : (WP Gm j_Law_law 980 (ls) (st) h Q) = (WP Gm j_Law_law 996 (ls) (st) (h) Q) := (WP_at c_Law_law_980 _ _ _ _)
set_option maxRecDepth 100000 in
theorem c_Law_law_983 : mCode j_Law_law 983 = oAld 1 984 := (rfl)
theorem e_Law_law_983 (a0 : Option MV) (x : Option Nat) : (WP Gm j_Law_law 983 (a0 :: some (.inr (.inl x)) :: ls) (st) h Q) = (WP Gm j_Law_law 984 (a0 :: some (.inr (.inl x)) :: ls) (.inr (.inl x) :: st) (h) Q) := (WP_at c_Law_law_983 _ _ _ _)
set_option maxRecDepth 100000 in
theorem c_Law_law_984 : mCode j_Law_law 984 = oCallV kc_S j_S_digest 0 (mL j_S_digest) 987 := (rfl)
theorem e_Law_law_984 (a : Nat) (hk : isK h a kc_S = true) (hc : c8 st = true) : (WP Gm j_Law_law 984 (ls) (.inr (.inl (some a)) :: st) h Q) = (WP Gm j_S_digest 0 [some (.inr (.inl (some a))), none, none, none] [] h (kC (fun v h2 => WP Gm j_Law_law 987 ls (v.toList ++ st) h2 Q) (fun E h2 => Q (.inr E) h2))) := (WP_at c_Law_law_984 _ _ _ _).trans (congrArg (fun o => ndX Gm (WP Gm) j_Law_law 984 o Q) (if_pos (by rw [hk, show decide (catS st ≤ 8) = true from hc]; rfl)))
set_option maxRecDepth 100000 in
theorem c_Law_law_987 : mCode j_Law_law 987 = oPop2 988 := (rfl)
theorem e_Law_law_987 (x : Int64) : (WP Gm j_Law_law 987 (ls) (.inr (.inr (.inl x)) :: st) h Q) = (WP Gm j_Law_law 988 (ls) (st) (h) Q) := (WP_at c_Law_law_987 _ _ _ _)
set_option maxRecDepth 100000 in
theorem c_Law_law_988 : mCode j_Law_law 988 = oAld 2 989 := (rfl)
theorem e_Law_law_988 (a0 a1 : Option MV) (x : Option Nat) : (WP Gm j_Law_law 988 (a0 :: a1 :: some (.inr (.inl x)) :: ls) (st) h Q) = (WP Gm j_Law_law 989 (a0 :: a1 :: some (.inr (.inl x)) :: ls) (.inr (.inl x) :: st) (h) Q) := (WP_at c_Law_law_988 _ _ _ _)
set_option maxRecDepth 100000 in
theorem c_Law_law_989 : mCode j_Law_law 989 = oCallV kc_Mdl j_Mdl_digest 0 (mL j_Mdl_digest) 992 := (rfl)
theorem e_Law_law_989 (a : Nat) (hk : isK h a kc_Mdl = true) (hc : c8 st = true) : (WP Gm j_Law_law 989 (ls) (.inr (.inl (some a)) :: st) h Q) = (WP Gm j_Mdl_digest 0 [some (.inr (.inl (some a))), none, none, none, none, none, none] [] h (kC (fun v h2 => WP Gm j_Law_law 992 ls (v.toList ++ st) h2 Q) (fun E h2 => Q (.inr E) h2))) := (WP_at c_Law_law_989 _ _ _ _).trans (congrArg (fun o => ndX Gm (WP Gm) j_Law_law 989 o Q) (if_pos (by rw [hk, show decide (catS st ≤ 8) = true from hc]; rfl)))
set_option maxRecDepth 100000 in
theorem c_Law_law_992 : mCode j_Law_law 992 = oPop2 993 := (rfl)
theorem e_Law_law_992 (x : Int64) : (WP Gm j_Law_law 992 (ls) (.inr (.inr (.inl x)) :: st) h Q) = (WP Gm j_Law_law 993 (ls) (st) (h) Q) := (WP_at c_Law_law_992 _ _ _ _)
set_option maxRecDepth 100000 in
theorem c_Law_law_993 : mCode j_Law_law 993 = oGo 996 := (rfl)
theorem e_Law_law_993  : (WP Gm j_Law_law 993 (ls) (st) h Q) = (WP Gm j_Law_law 996 (ls) (st) (h) Q) := (WP_at c_Law_law_993 _ _ _ _)
set_option maxRecDepth 100000 in
theorem c_Law_law_996 : mCode j_Law_law 996 = oInc 4 5 999 := (rfl)
theorem e_Law_law_996 (a0 a1 a2 a3 : Option MV) (x : Int32) : (WP Gm j_Law_law 996 (a0 :: a1 :: a2 :: a3 :: some (.inl x) :: ls) (st) h Q) = (WP Gm j_Law_law 999 (lSet1 (a0 :: a1 :: a2 :: a3 :: some (.inl x) :: ls) 4 (some (.inl (x + 5)))) (st) (h) Q) := (WP_at c_Law_law_996 _ _ _ _)
set_option maxRecDepth 100000 in
theorem c_Law_law_999 : mCode j_Law_law 999 = oGo 27 := (rfl)
theorem e_Law_law_999  : (WP Gm j_Law_law 999 (ls) (st) h Q) = (WP Gm j_Law_law 27 (ls) (st) (h) Q) := (WP_at c_Law_law_999 _ _ _ _)
set_option maxRecDepth 100000 in
theorem c_Law_law_1002 : mCode j_Law_law 1002 = oI 1 1003 := (rfl)
theorem e_Law_law_1002  : (WP Gm j_Law_law 1002 (ls) (st) h Q) = (WP Gm j_Law_law 1003 (ls) (.inl 1 :: st) (h) Q) := (WP_at c_Law_law_1002 _ _ _ _)
set_option maxRecDepth 100000 in
theorem c_Law_law_1003 : mCode j_Law_law 1003 = oRetZ := (rfl)
theorem e_Law_law_1003 (x : Int32) (hx : x = 0 ∨ x = 1) : (WP Gm j_Law_law 1003 (ls) ([.inl x]) h Q) = (Q (.inl (some (.inl x))) h) := (WP_at c_Law_law_1003 _ _ _ _).trans (congrArg (fun o => ndX Gm (WP Gm) j_Law_law 1003 o Q) (if_pos (by rcases hx with rfl | rfl <;> rfl)))
end STEPS
