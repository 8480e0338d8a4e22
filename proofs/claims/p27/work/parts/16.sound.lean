theorem lookup_mem {α : Type} : ∀ {l : List (Nat × α)} {k : Nat} {v : α}, l.lookup k = some v → (k, v) ∈ l
  | [], _, _, h => by cases h
  | (a, w) :: l, k, v, h => by
    rw [List.lookup_cons] at h
    by_cases hk : k = a
    · subst hk
      simp at h
      subst h
      exact List.mem_cons_self
    · have : (k == a) = false := by simpa using hk
      rw [this] at h
      exact List.mem_cons_of_mem _ (lookup_mem h)
/-! each instruction is sound (printed by wip/gen.py) -/
section CODE
variable (l : Launch) (D : va_G) (AC : Nat → ClassId) (b z L : Nat) (xs : Nat → Int32)
theorem so_Frame_init_0 : Snd l D AC b z L xs Gm j_Frame_init 0 (oAld 0 1) := sn_aload_n l D AC b z L xs Gm  dX0_init_0 rfl
theorem so_Frame_init_1 : Snd l D AC b z L xs Gm j_Frame_init 1 (oObj 4) := sn_obj l D AC b z L xs Gm  dX0_init_1 (by decide) (by decide) tw_72 tw_45 tw_46
theorem so_Frame_init_4 : Snd l D AC b z L xs Gm j_Frame_init 4 (oAld 0 5) := sn_aload_n l D AC b z L xs Gm  dX0_init_4 rfl
theorem so_Frame_init_5 : Snd l D AC b z L xs Gm j_Frame_init 5 (oI 0 6) := sn_iconst l D AC b z L xs Gm  dX0_init_5 (by decide)
theorem so_Frame_init_6 : Snd l D AC b z L xs Gm j_Frame_init 6 (oPutI kc_Frame 0 9) := sn_putI l D AC b z L xs Gm  dX0_init_6 rfl (by decide) rfl (by decide) kin_0 tyX0_ok nmX0 tw_73 rfl rfl
theorem so_Frame_init_9 : Snd l D AC b z L xs Gm j_Frame_init 9 (oAld 0 10) := sn_aload_n l D AC b z L xs Gm  dX0_init_9 rfl
theorem so_Frame_init_10 : Snd l D AC b z L xs Gm j_Frame_init 10 (oI 0 11) := sn_iconst l D AC b z L xs Gm  dX0_init_10 (by decide)
theorem so_Frame_init_11 : Snd l D AC b z L xs Gm j_Frame_init 11 (oPutI kc_Frame 1 14) := sn_putI l D AC b z L xs Gm  dX0_init_11 rfl (by decide) rfl (by decide) kin_0 tyX0_ok nmX0 tw_77 rfl rfl
theorem so_Frame_init_14 : Snd l D AC b z L xs Gm j_Frame_init 14 (oAld 0 15) := sn_aload_n l D AC b z L xs Gm  dX0_init_14 rfl
theorem so_Frame_init_15 : Snd l D AC b z L xs Gm j_Frame_init 15 (oI 0 16) := sn_iconst l D AC b z L xs Gm  dX0_init_15 (by decide)
theorem so_Frame_init_16 : Snd l D AC b z L xs Gm j_Frame_init 16 (oPutI kc_Frame 2 19) := sn_putI l D AC b z L xs Gm  dX0_init_16 rfl (by decide) rfl (by decide) kin_0 tyX0_ok nmX0 tw_81 rfl rfl
theorem so_Frame_init_19 : Snd l D AC b z L xs Gm j_Frame_init 19 (oAld 0 20) := sn_aload_n l D AC b z L xs Gm  dX0_init_19 rfl
theorem so_Frame_init_20 : Snd l D AC b z L xs Gm j_Frame_init 20 (oI 0 21) := sn_iconst l D AC b z L xs Gm  dX0_init_20 (by decide)
theorem so_Frame_init_21 : Snd l D AC b z L xs Gm j_Frame_init 21 (oPutI kc_Frame 3 24) := sn_putI l D AC b z L xs Gm  dX0_init_21 rfl (by decide) rfl (by decide) kin_0 tyX0_ok nmX0 tw_85 rfl rfl
theorem so_Frame_init_24 : Snd l D AC b z L xs Gm j_Frame_init 24 (oAld 0 25) := sn_aload_n l D AC b z L xs Gm  dX0_init_24 rfl
theorem so_Frame_init_25 : Snd l D AC b z L xs Gm j_Frame_init 25 (oI 0 26) := sn_iconst l D AC b z L xs Gm  dX0_init_25 (by decide)
theorem so_Frame_init_26 : Snd l D AC b z L xs Gm j_Frame_init 26 (oPutI kc_Frame 4 29) := sn_putI l D AC b z L xs Gm  dX0_init_26 rfl (by decide) rfl (by decide) kin_0 tyX0_ok nmX0 tw_89 rfl rfl
theorem so_Frame_init_29 : Snd l D AC b z L xs Gm j_Frame_init 29 (oRet) := sn_ret l D AC b z L xs Gm  dX0_init_29 rfl
set_option maxRecDepth 100000 in
theorem so_Frame_init : ∀ q ∈ tb_Frame_init, Snd l D AC b z L xs Gm j_Frame_init q.1 q.2 := by
  unfold tb_Frame_init
  exact List.forall_mem_cons.mpr ⟨so_Frame_init_0 l D AC b z L xs, List.forall_mem_cons.mpr ⟨so_Frame_init_1 l D AC b z L xs, List.forall_mem_cons.mpr ⟨so_Frame_init_4 l D AC b z L xs, List.forall_mem_cons.mpr ⟨so_Frame_init_5 l D AC b z L xs, List.forall_mem_cons.mpr ⟨so_Frame_init_6 l D AC b z L xs, List.forall_mem_cons.mpr ⟨so_Frame_init_9 l D AC b z L xs, List.forall_mem_cons.mpr ⟨so_Frame_init_10 l D AC b z L xs, List.forall_mem_cons.mpr ⟨so_Frame_init_11 l D AC b z L xs, List.forall_mem_cons.mpr ⟨so_Frame_init_14 l D AC b z L xs, List.forall_mem_cons.mpr ⟨so_Frame_init_15 l D AC b z L xs, List.forall_mem_cons.mpr ⟨so_Frame_init_16 l D AC b z L xs, List.forall_mem_cons.mpr ⟨so_Frame_init_19 l D AC b z L xs, List.forall_mem_cons.mpr ⟨so_Frame_init_20 l D AC b z L xs, List.forall_mem_cons.mpr ⟨so_Frame_init_21 l D AC b z L xs, List.forall_mem_cons.mpr ⟨so_Frame_init_24 l D AC b z L xs, List.forall_mem_cons.mpr ⟨so_Frame_init_25 l D AC b z L xs, List.forall_mem_cons.mpr ⟨so_Frame_init_26 l D AC b z L xs, List.forall_mem_cons.mpr ⟨so_Frame_init_29 l D AC b z L xs, fun _ h => absurd h List.not_mem_nil⟩⟩⟩⟩⟩⟩⟩⟩⟩⟩⟩⟩⟩⟩⟩⟩⟩⟩
theorem so_FrameQueue_init_0 : Snd l D AC b z L xs Gm j_FrameQueue_init 0 (oAld 0 1) := sn_aload_n l D AC b z L xs Gm  dX1_init_0 rfl
theorem so_FrameQueue_init_1 : Snd l D AC b z L xs Gm j_FrameQueue_init 1 (oObj 4) := sn_obj l D AC b z L xs Gm  dX1_init_1 (by decide) (by decide) tw_65 tw_45 tw_46
theorem so_FrameQueue_init_4 : Snd l D AC b z L xs Gm j_FrameQueue_init 4 (oAld 0 5) := sn_aload_n l D AC b z L xs Gm  dX1_init_4 rfl
theorem so_FrameQueue_init_5 : Snd l D AC b z L xs Gm j_FrameQueue_init 5 (oI 4 6) := sn_iconst l D AC b z L xs Gm  dX1_init_5 (by decide)
theorem so_FrameQueue_init_6 : Snd l D AC b z L xs Gm j_FrameQueue_init 6 (oNewA cM sM 3 9) := sn_anewarray l D AC b z L xs Gm  dX1_init_6 (by decide) rfl rfl tw_66 (List.mem_of_getElem? (i := 1) rfl)
theorem so_FrameQueue_init_9 : Snd l D AC b z L xs Gm j_FrameQueue_init 9 (oPutR kc_FrameQueue 0 12) := sn_putRF l D AC b z L xs Gm  dX1_init_9 rfl (by decide) rfl (by decide) kin_1 tyX1_ok nmX1 tw_105 rfl rfl rfl (Or.inr ⟨_, rfl⟩)
theorem so_FrameQueue_init_12 : Snd l D AC b z L xs Gm j_FrameQueue_init 12 (oAld 0 13) := sn_aload_n l D AC b z L xs Gm  dX1_init_12 rfl
theorem so_FrameQueue_init_13 : Snd l D AC b z L xs Gm j_FrameQueue_init 13 (oI 0 14) := sn_iconst l D AC b z L xs Gm  dX1_init_13 (by decide)
theorem so_FrameQueue_init_14 : Snd l D AC b z L xs Gm j_FrameQueue_init 14 (oPutI kc_FrameQueue 1 17) := sn_putI l D AC b z L xs Gm  dX1_init_14 rfl (by decide) rfl (by decide) kin_1 tyX1_ok nmX1 tw_106 rfl rfl
theorem so_FrameQueue_init_17 : Snd l D AC b z L xs Gm j_FrameQueue_init 17 (oI 0 18) := sn_iconst l D AC b z L xs Gm  dX1_init_17 (by decide)
theorem so_FrameQueue_init_18 : Snd l D AC b z L xs Gm j_FrameQueue_init 18 (oIst 1 19) := sn_istore_n l D AC b z L xs Gm  dX1_init_18 rfl (by decide)
theorem so_FrameQueue_init_19 : Snd l D AC b z L xs Gm j_FrameQueue_init 19 (oIld 1 20) := sn_iload_n l D AC b z L xs Gm  dX1_init_19 rfl
theorem so_FrameQueue_init_20 : Snd l D AC b z L xs Gm j_FrameQueue_init 20 (oI 4 21) := sn_iconst l D AC b z L xs Gm  dX1_init_20 (by decide)
theorem so_FrameQueue_init_21 : Snd l D AC b z L xs Gm j_FrameQueue_init 21 (oIC (fun x y => decide (y ≤ x)) 43 24) := sn_icmp_ge l D AC b z L xs Gm  dX1_init_21 (by decide)
theorem so_FrameQueue_init_24 : Snd l D AC b z L xs Gm j_FrameQueue_init 24 (oAld 0 25) := sn_aload_n l D AC b z L xs Gm  dX1_init_24 rfl
theorem so_FrameQueue_init_25 : Snd l D AC b z L xs Gm j_FrameQueue_init 25 (oGetR kc_FrameQueue 0 28) := sn_getR l D AC b z L xs Gm  dX1_init_25 rfl (by decide) rfl (by decide) kin_1 tw_105
theorem so_FrameQueue_init_28 : Snd l D AC b z L xs Gm j_FrameQueue_init 28 (oIld 1 29) := sn_iload_n l D AC b z L xs Gm  dX1_init_28 rfl
theorem so_FrameQueue_init_29 : Snd l D AC b z L xs Gm j_FrameQueue_init 29 (oNew cM sM kc_Frame 5 32) := sn_new l D AC b z L xs Gm  dX1_init_29 rfl (by decide) kin_0 tyX0_ok kdf_0 tw_66 tw_68 tw_26
theorem so_FrameQueue_init_32 : Snd l D AC b z L xs Gm j_FrameQueue_init 32 (oDup 33) := sn_dup l D AC b z L xs Gm  dX1_init_32
theorem so_FrameQueue_init_33 : Snd l D AC b z L xs Gm j_FrameQueue_init 33 (oCallV kc_Frame j_Frame_init 0 (mL j_Frame_init) 36) := sn_callIN l D AC b z L xs Gm  dX1_init_33 rfl (hs0 (fun _ => rfl) rfl) cal_FrameQueue_init_Frame_init rfl rfl (by decide) rfl rfl (List.mem_of_getElem? (i := 1) rfl) tw_70
theorem so_FrameQueue_init_36 : Snd l D AC b z L xs Gm j_FrameQueue_init 36 (oAas 3 kc_Frame 37) := sn_aastore l D AC b z L xs Gm  dX1_init_36 (by decide) rfl rfl (by decide) rfl (by decide)
theorem so_FrameQueue_init_37 : Snd l D AC b z L xs Gm j_FrameQueue_init 37 (oInc 1 1 40) := sn_iinc l D AC b z L xs Gm  dX1_init_37 (by decide) (by decide)
theorem so_FrameQueue_init_40 : Snd l D AC b z L xs Gm j_FrameQueue_init 40 (oGo 19) := sn_goto l D AC b z L xs Gm  dX1_init_40 (by decide)
theorem so_FrameQueue_init_43 : Snd l D AC b z L xs Gm j_FrameQueue_init 43 (oRet) := sn_ret l D AC b z L xs Gm  dX1_init_43 rfl
set_option maxRecDepth 100000 in
theorem so_FrameQueue_init : ∀ q ∈ tb_FrameQueue_init, Snd l D AC b z L xs Gm j_FrameQueue_init q.1 q.2 := by
  unfold tb_FrameQueue_init
  exact List.forall_mem_cons.mpr ⟨so_FrameQueue_init_0 l D AC b z L xs, List.forall_mem_cons.mpr ⟨so_FrameQueue_init_1 l D AC b z L xs, List.forall_mem_cons.mpr ⟨so_FrameQueue_init_4 l D AC b z L xs, List.forall_mem_cons.mpr ⟨so_FrameQueue_init_5 l D AC b z L xs, List.forall_mem_cons.mpr ⟨so_FrameQueue_init_6 l D AC b z L xs, List.forall_mem_cons.mpr ⟨so_FrameQueue_init_9 l D AC b z L xs, List.forall_mem_cons.mpr ⟨so_FrameQueue_init_12 l D AC b z L xs, List.forall_mem_cons.mpr ⟨so_FrameQueue_init_13 l D AC b z L xs, List.forall_mem_cons.mpr ⟨so_FrameQueue_init_14 l D AC b z L xs, List.forall_mem_cons.mpr ⟨so_FrameQueue_init_17 l D AC b z L xs, List.forall_mem_cons.mpr ⟨so_FrameQueue_init_18 l D AC b z L xs, List.forall_mem_cons.mpr ⟨so_FrameQueue_init_19 l D AC b z L xs, List.forall_mem_cons.mpr ⟨so_FrameQueue_init_20 l D AC b z L xs, List.forall_mem_cons.mpr ⟨so_FrameQueue_init_21 l D AC b z L xs, List.forall_mem_cons.mpr ⟨so_FrameQueue_init_24 l D AC b z L xs, List.forall_mem_cons.mpr ⟨so_FrameQueue_init_25 l D AC b z L xs, List.forall_mem_cons.mpr ⟨so_FrameQueue_init_28 l D AC b z L xs, List.forall_mem_cons.mpr ⟨so_FrameQueue_init_29 l D AC b z L xs, List.forall_mem_cons.mpr ⟨so_FrameQueue_init_32 l D AC b z L xs, List.forall_mem_cons.mpr ⟨so_FrameQueue_init_33 l D AC b z L xs, List.forall_mem_cons.mpr ⟨so_FrameQueue_init_36 l D AC b z L xs, List.forall_mem_cons.mpr ⟨so_FrameQueue_init_37 l D AC b z L xs, List.forall_mem_cons.mpr ⟨so_FrameQueue_init_40 l D AC b z L xs, List.forall_mem_cons.mpr ⟨so_FrameQueue_init_43 l D AC b z L xs, fun _ h => absurd h List.not_mem_nil⟩⟩⟩⟩⟩⟩⟩⟩⟩⟩⟩⟩⟩⟩⟩⟩⟩⟩⟩⟩⟩⟩⟩⟩
theorem so_FrameQueue_at_0 : Snd l D AC b z L xs Gm j_FrameQueue_at 0 (oIld 1 1) := sn_iload_n l D AC b z L xs Gm  dX1_at_0 rfl
theorem so_FrameQueue_at_1 : Snd l D AC b z L xs Gm j_FrameQueue_at 1 (oIf (fun x => decide (x < 0)) 21 4) := sn_if_lt l D AC b z L xs Gm  dX1_at_1 (by decide)
theorem so_FrameQueue_at_4 : Snd l D AC b z L xs Gm j_FrameQueue_at 4 (oIld 1 5) := sn_iload_n l D AC b z L xs Gm  dX1_at_4 rfl
theorem so_FrameQueue_at_5 : Snd l D AC b z L xs Gm j_FrameQueue_at 5 (oAld 0 6) := sn_aload_n l D AC b z L xs Gm  dX1_at_5 rfl
theorem so_FrameQueue_at_6 : Snd l D AC b z L xs Gm j_FrameQueue_at 6 (oGetI kc_FrameQueue 1 9) := sn_getI l D AC b z L xs Gm  dX1_at_6 rfl (by decide) rfl (by decide) kin_1 tw_106
theorem so_FrameQueue_at_9 : Snd l D AC b z L xs Gm j_FrameQueue_at 9 (oIC (fun x y => decide (y ≤ x)) 21 12) := sn_icmp_ge l D AC b z L xs Gm  dX1_at_9 (by decide)
theorem so_FrameQueue_at_12 : Snd l D AC b z L xs Gm j_FrameQueue_at 12 (oAld 0 13) := sn_aload_n l D AC b z L xs Gm  dX1_at_12 rfl
theorem so_FrameQueue_at_13 : Snd l D AC b z L xs Gm j_FrameQueue_at 13 (oGetR kc_FrameQueue 0 16) := sn_getR l D AC b z L xs Gm  dX1_at_13 rfl (by decide) rfl (by decide) kin_1 tw_105
theorem so_FrameQueue_at_16 : Snd l D AC b z L xs Gm j_FrameQueue_at 16 (oIld 1 17) := sn_iload_n l D AC b z L xs Gm  dX1_at_16 rfl
theorem so_FrameQueue_at_17 : Snd l D AC b z L xs Gm j_FrameQueue_at 17 (oAal 3 18) := sn_aaload l D AC b z L xs Gm  dX1_at_17 (by decide) rfl rfl (by decide)
theorem so_FrameQueue_at_18 : Snd l D AC b z L xs Gm j_FrameQueue_at 18 (oGo 22) := sn_goto l D AC b z L xs Gm  dX1_at_18 (by decide)
theorem so_FrameQueue_at_21 : Snd l D AC b z L xs Gm j_FrameQueue_at 21 (oN 22) := sn_null l D AC b z L xs Gm  dX1_at_21
theorem so_FrameQueue_at_22 : Snd l D AC b z L xs Gm j_FrameQueue_at 22 (oRetA) := sn_retA l D AC b z L xs Gm  dX1_at_22 rfl (Or.inl ⟨_, rfl⟩)
set_option maxRecDepth 100000 in
theorem so_FrameQueue_at : ∀ q ∈ tb_FrameQueue_at, Snd l D AC b z L xs Gm j_FrameQueue_at q.1 q.2 := by
  unfold tb_FrameQueue_at
  exact List.forall_mem_cons.mpr ⟨so_FrameQueue_at_0 l D AC b z L xs, List.forall_mem_cons.mpr ⟨so_FrameQueue_at_1 l D AC b z L xs, List.forall_mem_cons.mpr ⟨so_FrameQueue_at_4 l D AC b z L xs, List.forall_mem_cons.mpr ⟨so_FrameQueue_at_5 l D AC b z L xs, List.forall_mem_cons.mpr ⟨so_FrameQueue_at_6 l D AC b z L xs, List.forall_mem_cons.mpr ⟨so_FrameQueue_at_9 l D AC b z L xs, List.forall_mem_cons.mpr ⟨so_FrameQueue_at_12 l D AC b z L xs, List.forall_mem_cons.mpr ⟨so_FrameQueue_at_13 l D AC b z L xs, List.forall_mem_cons.mpr ⟨so_FrameQueue_at_16 l D AC b z L xs, List.forall_mem_cons.mpr ⟨so_FrameQueue_at_17 l D AC b z L xs, List.forall_mem_cons.mpr ⟨so_FrameQueue_at_18 l D AC b z L xs, List.forall_mem_cons.mpr ⟨so_FrameQueue_at_21 l D AC b z L xs, List.forall_mem_cons.mpr ⟨so_FrameQueue_at_22 l D AC b z L xs, fun _ h => absurd h List.not_mem_nil⟩⟩⟩⟩⟩⟩⟩⟩⟩⟩⟩⟩⟩
theorem so_FrameQueue_add_0 : Snd l D AC b z L xs Gm j_FrameQueue_add 0 (oAld 0 1) := sn_aload_n l D AC b z L xs Gm  dX1_add_0 rfl
theorem so_FrameQueue_add_1 : Snd l D AC b z L xs Gm j_FrameQueue_add 1 (oGetI kc_FrameQueue 1 4) := sn_getI l D AC b z L xs Gm  dX1_add_1 rfl (by decide) rfl (by decide) kin_1 tw_106
theorem so_FrameQueue_add_4 : Snd l D AC b z L xs Gm j_FrameQueue_add 4 (oI 4 5) := sn_iconst l D AC b z L xs Gm  dX1_add_4 (by decide)
theorem so_FrameQueue_add_5 : Snd l D AC b z L xs Gm j_FrameQueue_add 5 (oIC (fun x y => decide (x < y)) 10 8) := sn_icmp_lt l D AC b z L xs Gm  dX1_add_5 (by decide)
theorem so_FrameQueue_add_8 : Snd l D AC b z L xs Gm j_FrameQueue_add 8 (oI 0 9) := sn_iconst l D AC b z L xs Gm  dX1_add_8 (by decide)
theorem so_FrameQueue_add_9 : Snd l D AC b z L xs Gm j_FrameQueue_add 9 (oRetZ) := sn_retZ l D AC b z L xs Gm  dX1_add_9 rfl
theorem so_FrameQueue_add_10 : Snd l D AC b z L xs Gm j_FrameQueue_add 10 (oAld 0 11) := sn_aload_n l D AC b z L xs Gm  dX1_add_10 rfl
theorem so_FrameQueue_add_11 : Snd l D AC b z L xs Gm j_FrameQueue_add 11 (oGetR kc_FrameQueue 0 14) := sn_getR l D AC b z L xs Gm  dX1_add_11 rfl (by decide) rfl (by decide) kin_1 tw_105
theorem so_FrameQueue_add_14 : Snd l D AC b z L xs Gm j_FrameQueue_add 14 (oAld 0 15) := sn_aload_n l D AC b z L xs Gm  dX1_add_14 rfl
theorem so_FrameQueue_add_15 : Snd l D AC b z L xs Gm j_FrameQueue_add 15 (oGetI kc_FrameQueue 1 18) := sn_getI l D AC b z L xs Gm  dX1_add_15 rfl (by decide) rfl (by decide) kin_1 tw_106
theorem so_FrameQueue_add_18 : Snd l D AC b z L xs Gm j_FrameQueue_add 18 (oAal 3 19) := sn_aaload l D AC b z L xs Gm  dX1_add_18 (by decide) rfl rfl (by decide)
theorem so_FrameQueue_add_19 : Snd l D AC b z L xs Gm j_FrameQueue_add 19 (oAst 6 21) := sn_astore l D AC b z L xs Gm  dX1_add_19 (by decide)
theorem so_FrameQueue_add_21 : Snd l D AC b z L xs Gm j_FrameQueue_add 21 (oAld 6 23) := sn_aload l D AC b z L xs Gm  dX1_add_21
theorem so_FrameQueue_add_23 : Snd l D AC b z L xs Gm j_FrameQueue_add 23 (oIld 1 24) := sn_iload_n l D AC b z L xs Gm  dX1_add_23 rfl
theorem so_FrameQueue_add_24 : Snd l D AC b z L xs Gm j_FrameQueue_add 24 (oPutI kc_Frame 0 27) := sn_putI l D AC b z L xs Gm  dX1_add_24 rfl (by decide) rfl (by decide) kin_0 tyX0_ok nmX0 tw_74 rfl rfl
theorem so_FrameQueue_add_27 : Snd l D AC b z L xs Gm j_FrameQueue_add 27 (oAld 6 29) := sn_aload l D AC b z L xs Gm  dX1_add_27
theorem so_FrameQueue_add_29 : Snd l D AC b z L xs Gm j_FrameQueue_add 29 (oIld 2 30) := sn_iload_n l D AC b z L xs Gm  dX1_add_29 rfl
theorem so_FrameQueue_add_30 : Snd l D AC b z L xs Gm j_FrameQueue_add 30 (oPutI kc_Frame 1 33) := sn_putI l D AC b z L xs Gm  dX1_add_30 rfl (by decide) rfl (by decide) kin_0 tyX0_ok nmX0 tw_78 rfl rfl
theorem so_FrameQueue_add_33 : Snd l D AC b z L xs Gm j_FrameQueue_add 33 (oAld 6 35) := sn_aload l D AC b z L xs Gm  dX1_add_33
theorem so_FrameQueue_add_35 : Snd l D AC b z L xs Gm j_FrameQueue_add 35 (oIld 3 36) := sn_iload_n l D AC b z L xs Gm  dX1_add_35 rfl
theorem so_FrameQueue_add_36 : Snd l D AC b z L xs Gm j_FrameQueue_add 36 (oPutI kc_Frame 2 39) := sn_putI l D AC b z L xs Gm  dX1_add_36 rfl (by decide) rfl (by decide) kin_0 tyX0_ok nmX0 tw_82 rfl rfl
theorem so_FrameQueue_add_39 : Snd l D AC b z L xs Gm j_FrameQueue_add 39 (oAld 6 41) := sn_aload l D AC b z L xs Gm  dX1_add_39
theorem so_FrameQueue_add_41 : Snd l D AC b z L xs Gm j_FrameQueue_add 41 (oIld 4 43) := sn_iload l D AC b z L xs Gm  dX1_add_41
theorem so_FrameQueue_add_43 : Snd l D AC b z L xs Gm j_FrameQueue_add 43 (oPutI kc_Frame 3 46) := sn_putI l D AC b z L xs Gm  dX1_add_43 rfl (by decide) rfl (by decide) kin_0 tyX0_ok nmX0 tw_86 rfl rfl
theorem so_FrameQueue_add_46 : Snd l D AC b z L xs Gm j_FrameQueue_add 46 (oAld 6 48) := sn_aload l D AC b z L xs Gm  dX1_add_46
theorem so_FrameQueue_add_48 : Snd l D AC b z L xs Gm j_FrameQueue_add 48 (oIld 5 50) := sn_iload l D AC b z L xs Gm  dX1_add_48
theorem so_FrameQueue_add_50 : Snd l D AC b z L xs Gm j_FrameQueue_add 50 (oPutI kc_Frame 4 53) := sn_putI l D AC b z L xs Gm  dX1_add_50 rfl (by decide) rfl (by decide) kin_0 tyX0_ok nmX0 tw_90 rfl rfl
theorem so_FrameQueue_add_53 : Snd l D AC b z L xs Gm j_FrameQueue_add 53 (oAld 0 54) := sn_aload_n l D AC b z L xs Gm  dX1_add_53 rfl
theorem so_FrameQueue_add_54 : Snd l D AC b z L xs Gm j_FrameQueue_add 54 (oDup 55) := sn_dup l D AC b z L xs Gm  dX1_add_54
theorem so_FrameQueue_add_55 : Snd l D AC b z L xs Gm j_FrameQueue_add 55 (oGetI kc_FrameQueue 1 58) := sn_getI l D AC b z L xs Gm  dX1_add_55 rfl (by decide) rfl (by decide) kin_1 tw_106
theorem so_FrameQueue_add_58 : Snd l D AC b z L xs Gm j_FrameQueue_add 58 (oI 1 59) := sn_iconst l D AC b z L xs Gm  dX1_add_58 (by decide)
theorem so_FrameQueue_add_59 : Snd l D AC b z L xs Gm j_FrameQueue_add 59 (oII (fun x y => x + y) 60) := sn_iadd l D AC b z L xs Gm  dX1_add_59
theorem so_FrameQueue_add_60 : Snd l D AC b z L xs Gm j_FrameQueue_add 60 (oPutI kc_FrameQueue 1 63) := sn_putI l D AC b z L xs Gm  dX1_add_60 rfl (by decide) rfl (by decide) kin_1 tyX1_ok nmX1 tw_106 rfl rfl
theorem so_FrameQueue_add_63 : Snd l D AC b z L xs Gm j_FrameQueue_add 63 (oI 1 64) := sn_iconst l D AC b z L xs Gm  dX1_add_63 (by decide)
theorem so_FrameQueue_add_64 : Snd l D AC b z L xs Gm j_FrameQueue_add 64 (oRetZ) := sn_retZ l D AC b z L xs Gm  dX1_add_64 rfl
set_option maxRecDepth 100000 in
theorem so_FrameQueue_add : ∀ q ∈ tb_FrameQueue_add, Snd l D AC b z L xs Gm j_FrameQueue_add q.1 q.2 := by
  unfold tb_FrameQueue_add
  exact List.forall_mem_cons.mpr ⟨so_FrameQueue_add_0 l D AC b z L xs, List.forall_mem_cons.mpr ⟨so_FrameQueue_add_1 l D AC b z L xs, List.forall_mem_cons.mpr ⟨so_FrameQueue_add_4 l D AC b z L xs, List.forall_mem_cons.mpr ⟨so_FrameQueue_add_5 l D AC b z L xs, List.forall_mem_cons.mpr ⟨so_FrameQueue_add_8 l D AC b z L xs, List.forall_mem_cons.mpr ⟨so_FrameQueue_add_9 l D AC b z L xs, List.forall_mem_cons.mpr ⟨so_FrameQueue_add_10 l D AC b z L xs, List.forall_mem_cons.mpr ⟨so_FrameQueue_add_11 l D AC b z L xs, List.forall_mem_cons.mpr ⟨so_FrameQueue_add_14 l D AC b z L xs, List.forall_mem_cons.mpr ⟨so_FrameQueue_add_15 l D AC b z L xs, List.forall_mem_cons.mpr ⟨so_FrameQueue_add_18 l D AC b z L xs, List.forall_mem_cons.mpr ⟨so_FrameQueue_add_19 l D AC b z L xs, List.forall_mem_cons.mpr ⟨so_FrameQueue_add_21 l D AC b z L xs, List.forall_mem_cons.mpr ⟨so_FrameQueue_add_23 l D AC b z L xs, List.forall_mem_cons.mpr ⟨so_FrameQueue_add_24 l D AC b z L xs, List.forall_mem_cons.mpr ⟨so_FrameQueue_add_27 l D AC b z L xs, List.forall_mem_cons.mpr ⟨so_FrameQueue_add_29 l D AC b z L xs, List.forall_mem_cons.mpr ⟨so_FrameQueue_add_30 l D AC b z L xs, List.forall_mem_cons.mpr ⟨so_FrameQueue_add_33 l D AC b z L xs, List.forall_mem_cons.mpr ⟨so_FrameQueue_add_35 l D AC b z L xs, List.forall_mem_cons.mpr ⟨so_FrameQueue_add_36 l D AC b z L xs, List.forall_mem_cons.mpr ⟨so_FrameQueue_add_39 l D AC b z L xs, List.forall_mem_cons.mpr ⟨so_FrameQueue_add_41 l D AC b z L xs, List.forall_mem_cons.mpr ⟨so_FrameQueue_add_43 l D AC b z L xs, List.forall_mem_cons.mpr ⟨so_FrameQueue_add_46 l D AC b z L xs, List.forall_mem_cons.mpr ⟨so_FrameQueue_add_48 l D AC b z L xs, List.forall_mem_cons.mpr ⟨so_FrameQueue_add_50 l D AC b z L xs, List.forall_mem_cons.mpr ⟨so_FrameQueue_add_53 l D AC b z L xs, List.forall_mem_cons.mpr ⟨so_FrameQueue_add_54 l D AC b z L xs, List.forall_mem_cons.mpr ⟨so_FrameQueue_add_55 l D AC b z L xs, List.forall_mem_cons.mpr ⟨so_FrameQueue_add_58 l D AC b z L xs, List.forall_mem_cons.mpr ⟨so_FrameQueue_add_59 l D AC b z L xs, List.forall_mem_cons.mpr ⟨so_FrameQueue_add_60 l D AC b z L xs, List.forall_mem_cons.mpr ⟨so_FrameQueue_add_63 l D AC b z L xs, List.forall_mem_cons.mpr ⟨so_FrameQueue_add_64 l D AC b z L xs, fun _ h => absurd h List.not_mem_nil⟩⟩⟩⟩⟩⟩⟩⟩⟩⟩⟩⟩⟩⟩⟩⟩⟩⟩⟩⟩⟩⟩⟩⟩⟩⟩⟩⟩⟩⟩⟩⟩⟩⟩⟩
theorem so_FrameQueue_removeFirst_0 : Snd l D AC b z L xs Gm j_FrameQueue_removeFirst 0 (oAld 0 1) := sn_aload_n l D AC b z L xs Gm  dX1_removeFirst_0 rfl
theorem so_FrameQueue_removeFirst_1 : Snd l D AC b z L xs Gm j_FrameQueue_removeFirst 1 (oGetI kc_FrameQueue 1 4) := sn_getI l D AC b z L xs Gm  dX1_removeFirst_1 rfl (by decide) rfl (by decide) kin_1 tw_106
theorem so_FrameQueue_removeFirst_4 : Snd l D AC b z L xs Gm j_FrameQueue_removeFirst 4 (oIf (fun x => decide (0 < x)) 8 7) := sn_if_gt l D AC b z L xs Gm  dX1_removeFirst_4 (by decide)
theorem so_FrameQueue_removeFirst_7 : Snd l D AC b z L xs Gm j_FrameQueue_removeFirst 7 (oRet) := sn_ret l D AC b z L xs Gm  dX1_removeFirst_7 rfl
theorem so_FrameQueue_removeFirst_8 : Snd l D AC b z L xs Gm j_FrameQueue_removeFirst 8 (oAld 0 9) := sn_aload_n l D AC b z L xs Gm  dX1_removeFirst_8 rfl
theorem so_FrameQueue_removeFirst_9 : Snd l D AC b z L xs Gm j_FrameQueue_removeFirst 9 (oGetR kc_FrameQueue 0 12) := sn_getR l D AC b z L xs Gm  dX1_removeFirst_9 rfl (by decide) rfl (by decide) kin_1 tw_105
theorem so_FrameQueue_removeFirst_12 : Snd l D AC b z L xs Gm j_FrameQueue_removeFirst 12 (oI 0 13) := sn_iconst l D AC b z L xs Gm  dX1_removeFirst_12 (by decide)
theorem so_FrameQueue_removeFirst_13 : Snd l D AC b z L xs Gm j_FrameQueue_removeFirst 13 (oAal 3 14) := sn_aaload l D AC b z L xs Gm  dX1_removeFirst_13 (by decide) rfl rfl (by decide)
theorem so_FrameQueue_removeFirst_14 : Snd l D AC b z L xs Gm j_FrameQueue_removeFirst 14 (oAst 1 15) := sn_astore_n l D AC b z L xs Gm  dX1_removeFirst_14 rfl (by decide)
theorem so_FrameQueue_removeFirst_15 : Snd l D AC b z L xs Gm j_FrameQueue_removeFirst 15 (oI 1 16) := sn_iconst l D AC b z L xs Gm  dX1_removeFirst_15 (by decide)
theorem so_FrameQueue_removeFirst_16 : Snd l D AC b z L xs Gm j_FrameQueue_removeFirst 16 (oIst 2 17) := sn_istore_n l D AC b z L xs Gm  dX1_removeFirst_16 rfl (by decide)
theorem so_FrameQueue_removeFirst_17 : Snd l D AC b z L xs Gm j_FrameQueue_removeFirst 17 (oIld 2 18) := sn_iload_n l D AC b z L xs Gm  dX1_removeFirst_17 rfl
theorem so_FrameQueue_removeFirst_18 : Snd l D AC b z L xs Gm j_FrameQueue_removeFirst 18 (oAld 0 19) := sn_aload_n l D AC b z L xs Gm  dX1_removeFirst_18 rfl
theorem so_FrameQueue_removeFirst_19 : Snd l D AC b z L xs Gm j_FrameQueue_removeFirst 19 (oGetI kc_FrameQueue 1 22) := sn_getI l D AC b z L xs Gm  dX1_removeFirst_19 rfl (by decide) rfl (by decide) kin_1 tw_106
theorem so_FrameQueue_removeFirst_22 : Snd l D AC b z L xs Gm j_FrameQueue_removeFirst 22 (oIC (fun x y => decide (y ≤ x)) 45 25) := sn_icmp_ge l D AC b z L xs Gm  dX1_removeFirst_22 (by decide)
theorem so_FrameQueue_removeFirst_25 : Snd l D AC b z L xs Gm j_FrameQueue_removeFirst 25 (oAld 0 26) := sn_aload_n l D AC b z L xs Gm  dX1_removeFirst_25 rfl
theorem so_FrameQueue_removeFirst_26 : Snd l D AC b z L xs Gm j_FrameQueue_removeFirst 26 (oGetR kc_FrameQueue 0 29) := sn_getR l D AC b z L xs Gm  dX1_removeFirst_26 rfl (by decide) rfl (by decide) kin_1 tw_105
theorem so_FrameQueue_removeFirst_29 : Snd l D AC b z L xs Gm j_FrameQueue_removeFirst 29 (oIld 2 30) := sn_iload_n l D AC b z L xs Gm  dX1_removeFirst_29 rfl
theorem so_FrameQueue_removeFirst_30 : Snd l D AC b z L xs Gm j_FrameQueue_removeFirst 30 (oI 1 31) := sn_iconst l D AC b z L xs Gm  dX1_removeFirst_30 (by decide)
theorem so_FrameQueue_removeFirst_31 : Snd l D AC b z L xs Gm j_FrameQueue_removeFirst 31 (oII (fun x y => x - y) 32) := sn_isub l D AC b z L xs Gm  dX1_removeFirst_31
theorem so_FrameQueue_removeFirst_32 : Snd l D AC b z L xs Gm j_FrameQueue_removeFirst 32 (oAld 0 33) := sn_aload_n l D AC b z L xs Gm  dX1_removeFirst_32 rfl
theorem so_FrameQueue_removeFirst_33 : Snd l D AC b z L xs Gm j_FrameQueue_removeFirst 33 (oGetR kc_FrameQueue 0 36) := sn_getR l D AC b z L xs Gm  dX1_removeFirst_33 rfl (by decide) rfl (by decide) kin_1 tw_105
theorem so_FrameQueue_removeFirst_36 : Snd l D AC b z L xs Gm j_FrameQueue_removeFirst 36 (oIld 2 37) := sn_iload_n l D AC b z L xs Gm  dX1_removeFirst_36 rfl
theorem so_FrameQueue_removeFirst_37 : Snd l D AC b z L xs Gm j_FrameQueue_removeFirst 37 (oAal 3 38) := sn_aaload l D AC b z L xs Gm  dX1_removeFirst_37 (by decide) rfl rfl (by decide)
theorem so_FrameQueue_removeFirst_38 : Snd l D AC b z L xs Gm j_FrameQueue_removeFirst 38 (oAas 3 kc_Frame 39) := sn_aastore l D AC b z L xs Gm  dX1_removeFirst_38 (by decide) rfl rfl (by decide) rfl (by decide)
theorem so_FrameQueue_removeFirst_39 : Snd l D AC b z L xs Gm j_FrameQueue_removeFirst 39 (oInc 2 1 42) := sn_iinc l D AC b z L xs Gm  dX1_removeFirst_39 (by decide) (by decide)
theorem so_FrameQueue_removeFirst_42 : Snd l D AC b z L xs Gm j_FrameQueue_removeFirst 42 (oGo 17) := sn_goto l D AC b z L xs Gm  dX1_removeFirst_42 (by decide)
theorem so_FrameQueue_removeFirst_45 : Snd l D AC b z L xs Gm j_FrameQueue_removeFirst 45 (oAld 0 46) := sn_aload_n l D AC b z L xs Gm  dX1_removeFirst_45 rfl
theorem so_FrameQueue_removeFirst_46 : Snd l D AC b z L xs Gm j_FrameQueue_removeFirst 46 (oDup 47) := sn_dup l D AC b z L xs Gm  dX1_removeFirst_46
theorem so_FrameQueue_removeFirst_47 : Snd l D AC b z L xs Gm j_FrameQueue_removeFirst 47 (oGetI kc_FrameQueue 1 50) := sn_getI l D AC b z L xs Gm  dX1_removeFirst_47 rfl (by decide) rfl (by decide) kin_1 tw_106
theorem so_FrameQueue_removeFirst_50 : Snd l D AC b z L xs Gm j_FrameQueue_removeFirst 50 (oI 1 51) := sn_iconst l D AC b z L xs Gm  dX1_removeFirst_50 (by decide)
theorem so_FrameQueue_removeFirst_51 : Snd l D AC b z L xs Gm j_FrameQueue_removeFirst 51 (oII (fun x y => x - y) 52) := sn_isub l D AC b z L xs Gm  dX1_removeFirst_51
theorem so_FrameQueue_removeFirst_52 : Snd l D AC b z L xs Gm j_FrameQueue_removeFirst 52 (oPutI kc_FrameQueue 1 55) := sn_putI l D AC b z L xs Gm  dX1_removeFirst_52 rfl (by decide) rfl (by decide) kin_1 tyX1_ok nmX1 tw_106 rfl rfl
theorem so_FrameQueue_removeFirst_55 : Snd l D AC b z L xs Gm j_FrameQueue_removeFirst 55 (oAld 0 56) := sn_aload_n l D AC b z L xs Gm  dX1_removeFirst_55 rfl
theorem so_FrameQueue_removeFirst_56 : Snd l D AC b z L xs Gm j_FrameQueue_removeFirst 56 (oGetR kc_FrameQueue 0 59) := sn_getR l D AC b z L xs Gm  dX1_removeFirst_56 rfl (by decide) rfl (by decide) kin_1 tw_105
theorem so_FrameQueue_removeFirst_59 : Snd l D AC b z L xs Gm j_FrameQueue_removeFirst 59 (oAld 0 60) := sn_aload_n l D AC b z L xs Gm  dX1_removeFirst_59 rfl
theorem so_FrameQueue_removeFirst_60 : Snd l D AC b z L xs Gm j_FrameQueue_removeFirst 60 (oGetI kc_FrameQueue 1 63) := sn_getI l D AC b z L xs Gm  dX1_removeFirst_60 rfl (by decide) rfl (by decide) kin_1 tw_106
theorem so_FrameQueue_removeFirst_63 : Snd l D AC b z L xs Gm j_FrameQueue_removeFirst 63 (oAld 1 64) := sn_aload_n l D AC b z L xs Gm  dX1_removeFirst_63 rfl
theorem so_FrameQueue_removeFirst_64 : Snd l D AC b z L xs Gm j_FrameQueue_removeFirst 64 (oAas 3 kc_Frame 65) := sn_aastore l D AC b z L xs Gm  dX1_removeFirst_64 (by decide) rfl rfl (by decide) rfl (by decide)
theorem so_FrameQueue_removeFirst_65 : Snd l D AC b z L xs Gm j_FrameQueue_removeFirst 65 (oRet) := sn_ret l D AC b z L xs Gm  dX1_removeFirst_65 rfl
set_option maxRecDepth 100000 in
theorem so_FrameQueue_removeFirst : ∀ q ∈ tb_FrameQueue_removeFirst, Snd l D AC b z L xs Gm j_FrameQueue_removeFirst q.1 q.2 := by
  unfold tb_FrameQueue_removeFirst
  exact List.forall_mem_cons.mpr ⟨so_FrameQueue_removeFirst_0 l D AC b z L xs, List.forall_mem_cons.mpr ⟨so_FrameQueue_removeFirst_1 l D AC b z L xs, List.forall_mem_cons.mpr ⟨so_FrameQueue_removeFirst_4 l D AC b z L xs, List.forall_mem_cons.mpr ⟨so_FrameQueue_removeFirst_7 l D AC b z L xs, List.forall_mem_cons.mpr ⟨so_FrameQueue_removeFirst_8 l D AC b z L xs, List.forall_mem_cons.mpr ⟨so_FrameQueue_removeFirst_9 l D AC b z L xs, List.forall_mem_cons.mpr ⟨so_FrameQueue_removeFirst_12 l D AC b z L xs, List.forall_mem_cons.mpr ⟨so_FrameQueue_removeFirst_13 l D AC b z L xs, List.forall_mem_cons.mpr ⟨so_FrameQueue_removeFirst_14 l D AC b z L xs, List.forall_mem_cons.mpr ⟨so_FrameQueue_removeFirst_15 l D AC b z L xs, List.forall_mem_cons.mpr ⟨so_FrameQueue_removeFirst_16 l D AC b z L xs, List.forall_mem_cons.mpr ⟨so_FrameQueue_removeFirst_17 l D AC b z L xs, List.forall_mem_cons.mpr ⟨so_FrameQueue_removeFirst_18 l D AC b z L xs, List.forall_mem_cons.mpr ⟨so_FrameQueue_removeFirst_19 l D AC b z L xs, List.forall_mem_cons.mpr ⟨so_FrameQueue_removeFirst_22 l D AC b z L xs, List.forall_mem_cons.mpr ⟨so_FrameQueue_removeFirst_25 l D AC b z L xs, List.forall_mem_cons.mpr ⟨so_FrameQueue_removeFirst_26 l D AC b z L xs, List.forall_mem_cons.mpr ⟨so_FrameQueue_removeFirst_29 l D AC b z L xs, List.forall_mem_cons.mpr ⟨so_FrameQueue_removeFirst_30 l D AC b z L xs, List.forall_mem_cons.mpr ⟨so_FrameQueue_removeFirst_31 l D AC b z L xs, List.forall_mem_cons.mpr ⟨so_FrameQueue_removeFirst_32 l D AC b z L xs, List.forall_mem_cons.mpr ⟨so_FrameQueue_removeFirst_33 l D AC b z L xs, List.forall_mem_cons.mpr ⟨so_FrameQueue_removeFirst_36 l D AC b z L xs, List.forall_mem_cons.mpr ⟨so_FrameQueue_removeFirst_37 l D AC b z L xs, List.forall_mem_cons.mpr ⟨so_FrameQueue_removeFirst_38 l D AC b z L xs, List.forall_mem_cons.mpr ⟨so_FrameQueue_removeFirst_39 l D AC b z L xs, List.forall_mem_cons.mpr ⟨so_FrameQueue_removeFirst_42 l D AC b z L xs, List.forall_mem_cons.mpr ⟨so_FrameQueue_removeFirst_45 l D AC b z L xs, List.forall_mem_cons.mpr ⟨so_FrameQueue_removeFirst_46 l D AC b z L xs, List.forall_mem_cons.mpr ⟨so_FrameQueue_removeFirst_47 l D AC b z L xs, List.forall_mem_cons.mpr ⟨so_FrameQueue_removeFirst_50 l D AC b z L xs, List.forall_mem_cons.mpr ⟨so_FrameQueue_removeFirst_51 l D AC b z L xs, List.forall_mem_cons.mpr ⟨so_FrameQueue_removeFirst_52 l D AC b z L xs, List.forall_mem_cons.mpr ⟨so_FrameQueue_removeFirst_55 l D AC b z L xs, List.forall_mem_cons.mpr ⟨so_FrameQueue_removeFirst_56 l D AC b z L xs, List.forall_mem_cons.mpr ⟨so_FrameQueue_removeFirst_59 l D AC b z L xs, List.forall_mem_cons.mpr ⟨so_FrameQueue_removeFirst_60 l D AC b z L xs, List.forall_mem_cons.mpr ⟨so_FrameQueue_removeFirst_63 l D AC b z L xs, List.forall_mem_cons.mpr ⟨so_FrameQueue_removeFirst_64 l D AC b z L xs, List.forall_mem_cons.mpr ⟨so_FrameQueue_removeFirst_65 l D AC b z L xs, fun _ h => absurd h List.not_mem_nil⟩⟩⟩⟩⟩⟩⟩⟩⟩⟩⟩⟩⟩⟩⟩⟩⟩⟩⟩⟩⟩⟩⟩⟩⟩⟩⟩⟩⟩⟩⟩⟩⟩⟩⟩⟩⟩⟩⟩⟩
theorem so_Land_init_0 : Snd l D AC b z L xs Gm j_Land_init 0 (oAld 0 1) := sn_aload_n l D AC b z L xs Gm  dX2_init_0 rfl
theorem so_Land_init_1 : Snd l D AC b z L xs Gm j_Land_init 1 (oObj 4) := sn_obj l D AC b z L xs Gm  dX2_init_1 (by decide) (by decide) tw_52 tw_45 tw_46
theorem so_Land_init_4 : Snd l D AC b z L xs Gm j_Land_init 4 (oAld 0 5) := sn_aload_n l D AC b z L xs Gm  dX2_init_4 rfl
theorem so_Land_init_5 : Snd l D AC b z L xs Gm j_Land_init 5 (oI 8 7) := sn_bipush l D AC b z L xs Gm  dX2_init_5 (by decide)
theorem so_Land_init_7 : Snd l D AC b z L xs Gm j_Land_init 7 (oNewA cM sM 2 10) := sn_anewarray l D AC b z L xs Gm  dX2_init_7 (by decide) rfl rfl tw_53 (List.mem_of_getElem? (i := 0) rfl)
theorem so_Land_init_10 : Snd l D AC b z L xs Gm j_Land_init 10 (oPutR kc_Land 0 13) := sn_putRF l D AC b z L xs Gm  dX2_init_10 rfl (by decide) rfl (by decide) kin_2 tyX2_ok nmX2 tw_206 rfl rfl rfl (Or.inr ⟨_, rfl⟩)
theorem so_Land_init_13 : Snd l D AC b z L xs Gm j_Land_init 13 (oAld 0 14) := sn_aload_n l D AC b z L xs Gm  dX2_init_13 rfl
theorem so_Land_init_14 : Snd l D AC b z L xs Gm j_Land_init 14 (oI 8 16) := sn_bipush l D AC b z L xs Gm  dX2_init_14 (by decide)
theorem so_Land_init_16 : Snd l D AC b z L xs Gm j_Land_init 16 (oNewA cM sM 0 18) := sn_newarray l D AC b z L xs Gm  dX2_init_16 rfl (by decide) rfl (by decide) (Or.inl ⟨rfl, rfl, fun _ _ h => h⟩) tw_104
theorem so_Land_init_18 : Snd l D AC b z L xs Gm j_Land_init 18 (oPutR kc_Land 1 21) := sn_putRF l D AC b z L xs Gm  dX2_init_18 rfl (by decide) rfl (by decide) kin_2 tyX2_ok nmX2 tw_209 rfl rfl rfl (Or.inr ⟨_, rfl⟩)
theorem so_Land_init_21 : Snd l D AC b z L xs Gm j_Land_init 21 (oAld 0 22) := sn_aload_n l D AC b z L xs Gm  dX2_init_21 rfl
theorem so_Land_init_22 : Snd l D AC b z L xs Gm j_Land_init 22 (oI 0 23) := sn_iconst l D AC b z L xs Gm  dX2_init_22 (by decide)
theorem so_Land_init_23 : Snd l D AC b z L xs Gm j_Land_init 23 (oPutI kc_Land 2 26) := sn_putI l D AC b z L xs Gm  dX2_init_23 rfl (by decide) rfl (by decide) kin_2 tyX2_ok nmX2 tw_210 rfl rfl
theorem so_Land_init_26 : Snd l D AC b z L xs Gm j_Land_init 26 (oI 0 27) := sn_iconst l D AC b z L xs Gm  dX2_init_26 (by decide)
theorem so_Land_init_27 : Snd l D AC b z L xs Gm j_Land_init 27 (oIst 1 28) := sn_istore_n l D AC b z L xs Gm  dX2_init_27 rfl (by decide)
theorem so_Land_init_28 : Snd l D AC b z L xs Gm j_Land_init 28 (oIld 1 29) := sn_iload_n l D AC b z L xs Gm  dX2_init_28 rfl
theorem so_Land_init_29 : Snd l D AC b z L xs Gm j_Land_init 29 (oI 8 31) := sn_bipush l D AC b z L xs Gm  dX2_init_29 (by decide)
theorem so_Land_init_31 : Snd l D AC b z L xs Gm j_Land_init 31 (oIC (fun x y => decide (y ≤ x)) 53 34) := sn_icmp_ge l D AC b z L xs Gm  dX2_init_31 (by decide)
theorem so_Land_init_34 : Snd l D AC b z L xs Gm j_Land_init 34 (oAld 0 35) := sn_aload_n l D AC b z L xs Gm  dX2_init_34 rfl
theorem so_Land_init_35 : Snd l D AC b z L xs Gm j_Land_init 35 (oGetR kc_Land 0 38) := sn_getR l D AC b z L xs Gm  dX2_init_35 rfl (by decide) rfl (by decide) kin_2 tw_206
theorem so_Land_init_38 : Snd l D AC b z L xs Gm j_Land_init 38 (oIld 1 39) := sn_iload_n l D AC b z L xs Gm  dX2_init_38 rfl
theorem so_Land_init_39 : Snd l D AC b z L xs Gm j_Land_init 39 (oNew cM sM kc_Node 16 42) := sn_new l D AC b z L xs Gm  dX2_init_39 rfl (by decide) kin_4 tyX4_ok kdf_4 tw_53 tw_55 tw_24
theorem so_Land_init_42 : Snd l D AC b z L xs Gm j_Land_init 42 (oDup 43) := sn_dup l D AC b z L xs Gm  dX2_init_42
theorem so_Land_init_43 : Snd l D AC b z L xs Gm j_Land_init 43 (oCallV kc_Node j_Node_init 0 (mL j_Node_init) 46) := sn_callIN l D AC b z L xs Gm  dX2_init_43 rfl (hs0 (fun _ => rfl) rfl) cal_Land_init_Node_init rfl rfl (by decide) rfl rfl (List.mem_of_getElem? (i := 0) rfl) tw_57
theorem so_Land_init_46 : Snd l D AC b z L xs Gm j_Land_init 46 (oAas 2 kc_Node 47) := sn_aastore l D AC b z L xs Gm  dX2_init_46 (by decide) rfl rfl (by decide) rfl (by decide)
theorem so_Land_init_47 : Snd l D AC b z L xs Gm j_Land_init 47 (oInc 1 1 50) := sn_iinc l D AC b z L xs Gm  dX2_init_47 (by decide) (by decide)
theorem so_Land_init_50 : Snd l D AC b z L xs Gm j_Land_init 50 (oGo 28) := sn_goto l D AC b z L xs Gm  dX2_init_50 (by decide)
theorem so_Land_init_53 : Snd l D AC b z L xs Gm j_Land_init 53 (oRet) := sn_ret l D AC b z L xs Gm  dX2_init_53 rfl
set_option maxRecDepth 100000 in
theorem so_Land_init : ∀ q ∈ tb_Land_init, Snd l D AC b z L xs Gm j_Land_init q.1 q.2 := by
  unfold tb_Land_init
  exact List.forall_mem_cons.mpr ⟨so_Land_init_0 l D AC b z L xs, List.forall_mem_cons.mpr ⟨so_Land_init_1 l D AC b z L xs, List.forall_mem_cons.mpr ⟨so_Land_init_4 l D AC b z L xs, List.forall_mem_cons.mpr ⟨so_Land_init_5 l D AC b z L xs, List.forall_mem_cons.mpr ⟨so_Land_init_7 l D AC b z L xs, List.forall_mem_cons.mpr ⟨so_Land_init_10 l D AC b z L xs, List.forall_mem_cons.mpr ⟨so_Land_init_13 l D AC b z L xs, List.forall_mem_cons.mpr ⟨so_Land_init_14 l D AC b z L xs, List.forall_mem_cons.mpr ⟨so_Land_init_16 l D AC b z L xs, List.forall_mem_cons.mpr ⟨so_Land_init_18 l D AC b z L xs, List.forall_mem_cons.mpr ⟨so_Land_init_21 l D AC b z L xs, List.forall_mem_cons.mpr ⟨so_Land_init_22 l D AC b z L xs, List.forall_mem_cons.mpr ⟨so_Land_init_23 l D AC b z L xs, List.forall_mem_cons.mpr ⟨so_Land_init_26 l D AC b z L xs, List.forall_mem_cons.mpr ⟨so_Land_init_27 l D AC b z L xs, List.forall_mem_cons.mpr ⟨so_Land_init_28 l D AC b z L xs, List.forall_mem_cons.mpr ⟨so_Land_init_29 l D AC b z L xs, List.forall_mem_cons.mpr ⟨so_Land_init_31 l D AC b z L xs, List.forall_mem_cons.mpr ⟨so_Land_init_34 l D AC b z L xs, List.forall_mem_cons.mpr ⟨so_Land_init_35 l D AC b z L xs, List.forall_mem_cons.mpr ⟨so_Land_init_38 l D AC b z L xs, List.forall_mem_cons.mpr ⟨so_Land_init_39 l D AC b z L xs, List.forall_mem_cons.mpr ⟨so_Land_init_42 l D AC b z L xs, List.forall_mem_cons.mpr ⟨so_Land_init_43 l D AC b z L xs, List.forall_mem_cons.mpr ⟨so_Land_init_46 l D AC b z L xs, List.forall_mem_cons.mpr ⟨so_Land_init_47 l D AC b z L xs, List.forall_mem_cons.mpr ⟨so_Land_init_50 l D AC b z L xs, List.forall_mem_cons.mpr ⟨so_Land_init_53 l D AC b z L xs, fun _ h => absurd h List.not_mem_nil⟩⟩⟩⟩⟩⟩⟩⟩⟩⟩⟩⟩⟩⟩⟩⟩⟩⟩⟩⟩⟩⟩⟩⟩⟩⟩⟩⟩
theorem so_Land_isNode_0 : Snd l D AC b z L xs Gm j_Land_isNode 0 (oIld 1 1) := sn_iload_n l D AC b z L xs Gm  dX2_isNode_0 rfl
theorem so_Land_isNode_1 : Snd l D AC b z L xs Gm j_Land_isNode 1 (oIf (fun x => decide (x < 0)) 16 4) := sn_if_lt l D AC b z L xs Gm  dX2_isNode_1 (by decide)
theorem so_Land_isNode_4 : Snd l D AC b z L xs Gm j_Land_isNode 4 (oIld 1 5) := sn_iload_n l D AC b z L xs Gm  dX2_isNode_4 rfl
theorem so_Land_isNode_5 : Snd l D AC b z L xs Gm j_Land_isNode 5 (oAld 0 6) := sn_aload_n l D AC b z L xs Gm  dX2_isNode_5 rfl
theorem so_Land_isNode_6 : Snd l D AC b z L xs Gm j_Land_isNode 6 (oGetI kc_Land 2 9) := sn_getI l D AC b z L xs Gm  dX2_isNode_6 rfl (by decide) rfl (by decide) kin_2 tw_210
theorem so_Land_isNode_9 : Snd l D AC b z L xs Gm j_Land_isNode 9 (oIC (fun x y => decide (y ≤ x)) 16 12) := sn_icmp_ge l D AC b z L xs Gm  dX2_isNode_9 (by decide)
theorem so_Land_isNode_12 : Snd l D AC b z L xs Gm j_Land_isNode 12 (oI 1 13) := sn_iconst l D AC b z L xs Gm  dX2_isNode_12 (by decide)
theorem so_Land_isNode_13 : Snd l D AC b z L xs Gm j_Land_isNode 13 (oGo 17) := sn_goto l D AC b z L xs Gm  dX2_isNode_13 (by decide)
theorem so_Land_isNode_16 : Snd l D AC b z L xs Gm j_Land_isNode 16 (oI 0 17) := sn_iconst l D AC b z L xs Gm  dX2_isNode_16 (by decide)
theorem so_Land_isNode_17 : Snd l D AC b z L xs Gm j_Land_isNode 17 (oRetZ) := sn_retZ l D AC b z L xs Gm  dX2_isNode_17 rfl
set_option maxRecDepth 100000 in
theorem so_Land_isNode : ∀ q ∈ tb_Land_isNode, Snd l D AC b z L xs Gm j_Land_isNode q.1 q.2 := by
  unfold tb_Land_isNode
  exact List.forall_mem_cons.mpr ⟨so_Land_isNode_0 l D AC b z L xs, List.forall_mem_cons.mpr ⟨so_Land_isNode_1 l D AC b z L xs, List.forall_mem_cons.mpr ⟨so_Land_isNode_4 l D AC b z L xs, List.forall_mem_cons.mpr ⟨so_Land_isNode_5 l D AC b z L xs, List.forall_mem_cons.mpr ⟨so_Land_isNode_6 l D AC b z L xs, List.forall_mem_cons.mpr ⟨so_Land_isNode_9 l D AC b z L xs, List.forall_mem_cons.mpr ⟨so_Land_isNode_12 l D AC b z L xs, List.forall_mem_cons.mpr ⟨so_Land_isNode_13 l D AC b z L xs, List.forall_mem_cons.mpr ⟨so_Land_isNode_16 l D AC b z L xs, List.forall_mem_cons.mpr ⟨so_Land_isNode_17 l D AC b z L xs, fun _ h => absurd h List.not_mem_nil⟩⟩⟩⟩⟩⟩⟩⟩⟩⟩
theorem so_Land_everyone_0 : Snd l D AC b z L xs Gm j_Land_everyone 0 (oI 1 1) := sn_iconst l D AC b z L xs Gm  dX2_everyone_0 (by decide)
theorem so_Land_everyone_1 : Snd l D AC b z L xs Gm j_Land_everyone 1 (oAld 0 2) := sn_aload_n l D AC b z L xs Gm  dX2_everyone_1 rfl
theorem so_Land_everyone_2 : Snd l D AC b z L xs Gm j_Land_everyone 2 (oGetI kc_Land 2 5) := sn_getI l D AC b z L xs Gm  dX2_everyone_2 rfl (by decide) rfl (by decide) kin_2 tw_210
theorem so_Land_everyone_5 : Snd l D AC b z L xs Gm j_Land_everyone 5 (oII (fun x y => x <<< (y &&& 31)) 6) := sn_ishl l D AC b z L xs Gm  dX2_everyone_5
theorem so_Land_everyone_6 : Snd l D AC b z L xs Gm j_Land_everyone 6 (oI 1 7) := sn_iconst l D AC b z L xs Gm  dX2_everyone_6 (by decide)
theorem so_Land_everyone_7 : Snd l D AC b z L xs Gm j_Land_everyone 7 (oII (fun x y => x - y) 8) := sn_isub l D AC b z L xs Gm  dX2_everyone_7
theorem so_Land_everyone_8 : Snd l D AC b z L xs Gm j_Land_everyone 8 (oRetI) := sn_retI l D AC b z L xs Gm  dX2_everyone_8 rfl
set_option maxRecDepth 100000 in
theorem so_Land_everyone : ∀ q ∈ tb_Land_everyone, Snd l D AC b z L xs Gm j_Land_everyone q.1 q.2 := by
  unfold tb_Land_everyone
  exact List.forall_mem_cons.mpr ⟨so_Land_everyone_0 l D AC b z L xs, List.forall_mem_cons.mpr ⟨so_Land_everyone_1 l D AC b z L xs, List.forall_mem_cons.mpr ⟨so_Land_everyone_2 l D AC b z L xs, List.forall_mem_cons.mpr ⟨so_Land_everyone_5 l D AC b z L xs, List.forall_mem_cons.mpr ⟨so_Land_everyone_6 l D AC b z L xs, List.forall_mem_cons.mpr ⟨so_Land_everyone_7 l D AC b z L xs, List.forall_mem_cons.mpr ⟨so_Land_everyone_8 l D AC b z L xs, fun _ h => absurd h List.not_mem_nil⟩⟩⟩⟩⟩⟩⟩
theorem so_Land_add_0 : Snd l D AC b z L xs Gm j_Land_add 0 (oAld 0 1) := sn_aload_n l D AC b z L xs Gm  dX2_add_0 rfl
theorem so_Land_add_1 : Snd l D AC b z L xs Gm j_Land_add 1 (oGetI kc_Land 2 4) := sn_getI l D AC b z L xs Gm  dX2_add_1 rfl (by decide) rfl (by decide) kin_2 tw_210
theorem so_Land_add_4 : Snd l D AC b z L xs Gm j_Land_add 4 (oIst 5 6) := sn_istore l D AC b z L xs Gm  dX2_add_4 (by decide)
theorem so_Land_add_6 : Snd l D AC b z L xs Gm j_Land_add 6 (oAld 0 7) := sn_aload_n l D AC b z L xs Gm  dX2_add_6 rfl
theorem so_Land_add_7 : Snd l D AC b z L xs Gm j_Land_add 7 (oDup 8) := sn_dup l D AC b z L xs Gm  dX2_add_7
theorem so_Land_add_8 : Snd l D AC b z L xs Gm j_Land_add 8 (oGetI kc_Land 2 11) := sn_getI l D AC b z L xs Gm  dX2_add_8 rfl (by decide) rfl (by decide) kin_2 tw_210
theorem so_Land_add_11 : Snd l D AC b z L xs Gm j_Land_add 11 (oI 1 12) := sn_iconst l D AC b z L xs Gm  dX2_add_11 (by decide)
theorem so_Land_add_12 : Snd l D AC b z L xs Gm j_Land_add 12 (oII (fun x y => x + y) 13) := sn_iadd l D AC b z L xs Gm  dX2_add_12
theorem so_Land_add_13 : Snd l D AC b z L xs Gm j_Land_add 13 (oPutI kc_Land 2 16) := sn_putI l D AC b z L xs Gm  dX2_add_13 rfl (by decide) rfl (by decide) kin_2 tyX2_ok nmX2 tw_210 rfl rfl
theorem so_Land_add_16 : Snd l D AC b z L xs Gm j_Land_add 16 (oAld 0 17) := sn_aload_n l D AC b z L xs Gm  dX2_add_16 rfl
theorem so_Land_add_17 : Snd l D AC b z L xs Gm j_Land_add 17 (oGetR kc_Land 0 20) := sn_getR l D AC b z L xs Gm  dX2_add_17 rfl (by decide) rfl (by decide) kin_2 tw_206
theorem so_Land_add_20 : Snd l D AC b z L xs Gm j_Land_add 20 (oIld 5 22) := sn_iload l D AC b z L xs Gm  dX2_add_20
theorem so_Land_add_22 : Snd l D AC b z L xs Gm j_Land_add 22 (oAal 2 23) := sn_aaload l D AC b z L xs Gm  dX2_add_22 (by decide) rfl rfl (by decide)
theorem so_Land_add_23 : Snd l D AC b z L xs Gm j_Land_add 23 (oIld 1 24) := sn_iload_n l D AC b z L xs Gm  dX2_add_23 rfl
theorem so_Land_add_24 : Snd l D AC b z L xs Gm j_Land_add 24 (oPutI kc_Node 0 27) := sn_putI l D AC b z L xs Gm  dX2_add_24 rfl (by decide) rfl (by decide) kin_4 tyX4_ok nmX4 tw_127 rfl rfl
theorem so_Land_add_27 : Snd l D AC b z L xs Gm j_Land_add 27 (oAld 0 28) := sn_aload_n l D AC b z L xs Gm  dX2_add_27 rfl
theorem so_Land_add_28 : Snd l D AC b z L xs Gm j_Land_add 28 (oGetR kc_Land 0 31) := sn_getR l D AC b z L xs Gm  dX2_add_28 rfl (by decide) rfl (by decide) kin_2 tw_206
theorem so_Land_add_31 : Snd l D AC b z L xs Gm j_Land_add 31 (oIld 5 33) := sn_iload l D AC b z L xs Gm  dX2_add_31
theorem so_Land_add_33 : Snd l D AC b z L xs Gm j_Land_add 33 (oAal 2 34) := sn_aaload l D AC b z L xs Gm  dX2_add_33 (by decide) rfl rfl (by decide)
theorem so_Land_add_34 : Snd l D AC b z L xs Gm j_Land_add 34 (oIld 2 35) := sn_iload_n l D AC b z L xs Gm  dX2_add_34 rfl
theorem so_Land_add_35 : Snd l D AC b z L xs Gm j_Land_add 35 (oPutI kc_Node 1 38) := sn_putI l D AC b z L xs Gm  dX2_add_35 rfl (by decide) rfl (by decide) kin_4 tyX4_ok nmX4 tw_130 rfl rfl
theorem so_Land_add_38 : Snd l D AC b z L xs Gm j_Land_add 38 (oAld 0 39) := sn_aload_n l D AC b z L xs Gm  dX2_add_38 rfl
theorem so_Land_add_39 : Snd l D AC b z L xs Gm j_Land_add 39 (oIld 5 41) := sn_iload l D AC b z L xs Gm  dX2_add_39
theorem so_Land_add_41 : Snd l D AC b z L xs Gm j_Land_add 41 (oIld 3 42) := sn_iload_n l D AC b z L xs Gm  dX2_add_41 rfl
theorem so_Land_add_42 : Snd l D AC b z L xs Gm j_Land_add 42 (oIld 4 44) := sn_iload l D AC b z L xs Gm  dX2_add_42
theorem so_Land_add_44 : Snd l D AC b z L xs Gm j_Land_add 44 (oCallV kc_Land j_Land_adjust 3 (mL j_Land_adjust) 47) := sn_callV l D AC b z L xs Gm  dX2_add_44 rfl (hs0 (fun _ => rfl) rfl) cal_Land_add_Land_adjust rfl rfl (by decide) rfl tw_437 tw_438 tw_439
theorem so_Land_add_47 : Snd l D AC b z L xs Gm j_Land_add 47 (oIld 5 49) := sn_iload l D AC b z L xs Gm  dX2_add_47
theorem so_Land_add_49 : Snd l D AC b z L xs Gm j_Land_add 49 (oRetI) := sn_retI l D AC b z L xs Gm  dX2_add_49 rfl
set_option maxRecDepth 100000 in
theorem so_Land_add : ∀ q ∈ tb_Land_add, Snd l D AC b z L xs Gm j_Land_add q.1 q.2 := by
  unfold tb_Land_add
  exact List.forall_mem_cons.mpr ⟨so_Land_add_0 l D AC b z L xs, List.forall_mem_cons.mpr ⟨so_Land_add_1 l D AC b z L xs, List.forall_mem_cons.mpr ⟨so_Land_add_4 l D AC b z L xs, List.forall_mem_cons.mpr ⟨so_Land_add_6 l D AC b z L xs, List.forall_mem_cons.mpr ⟨so_Land_add_7 l D AC b z L xs, List.forall_mem_cons.mpr ⟨so_Land_add_8 l D AC b z L xs, List.forall_mem_cons.mpr ⟨so_Land_add_11 l D AC b z L xs, List.forall_mem_cons.mpr ⟨so_Land_add_12 l D AC b z L xs, List.forall_mem_cons.mpr ⟨so_Land_add_13 l D AC b z L xs, List.forall_mem_cons.mpr ⟨so_Land_add_16 l D AC b z L xs, List.forall_mem_cons.mpr ⟨so_Land_add_17 l D AC b z L xs, List.forall_mem_cons.mpr ⟨so_Land_add_20 l D AC b z L xs, List.forall_mem_cons.mpr ⟨so_Land_add_22 l D AC b z L xs, List.forall_mem_cons.mpr ⟨so_Land_add_23 l D AC b z L xs, List.forall_mem_cons.mpr ⟨so_Land_add_24 l D AC b z L xs, List.forall_mem_cons.mpr ⟨so_Land_add_27 l D AC b z L xs, List.forall_mem_cons.mpr ⟨so_Land_add_28 l D AC b z L xs, List.forall_mem_cons.mpr ⟨so_Land_add_31 l D AC b z L xs, List.forall_mem_cons.mpr ⟨so_Land_add_33 l D AC b z L xs, List.forall_mem_cons.mpr ⟨so_Land_add_34 l D AC b z L xs, List.forall_mem_cons.mpr ⟨so_Land_add_35 l D AC b z L xs, List.forall_mem_cons.mpr ⟨so_Land_add_38 l D AC b z L xs, List.forall_mem_cons.mpr ⟨so_Land_add_39 l D AC b z L xs, List.forall_mem_cons.mpr ⟨so_Land_add_41 l D AC b z L xs, List.forall_mem_cons.mpr ⟨so_Land_add_42 l D AC b z L xs, List.forall_mem_cons.mpr ⟨so_Land_add_44 l D AC b z L xs, List.forall_mem_cons.mpr ⟨so_Land_add_47 l D AC b z L xs, List.forall_mem_cons.mpr ⟨so_Land_add_49 l D AC b z L xs, fun _ h => absurd h List.not_mem_nil⟩⟩⟩⟩⟩⟩⟩⟩⟩⟩⟩⟩⟩⟩⟩⟩⟩⟩⟩⟩⟩⟩⟩⟩⟩⟩⟩⟩
theorem so_Land_put_0 : Snd l D AC b z L xs Gm j_Land_put 0 (oAld 0 1) := sn_aload_n l D AC b z L xs Gm  dX2_put_0 rfl
theorem so_Land_put_1 : Snd l D AC b z L xs Gm j_Land_put 1 (oGetR kc_Land 0 4) := sn_getR l D AC b z L xs Gm  dX2_put_1 rfl (by decide) rfl (by decide) kin_2 tw_206
theorem so_Land_put_4 : Snd l D AC b z L xs Gm j_Land_put 4 (oIld 1 5) := sn_iload_n l D AC b z L xs Gm  dX2_put_4 rfl
theorem so_Land_put_5 : Snd l D AC b z L xs Gm j_Land_put 5 (oAal 2 6) := sn_aaload l D AC b z L xs Gm  dX2_put_5 (by decide) rfl rfl (by decide)
theorem so_Land_put_6 : Snd l D AC b z L xs Gm j_Land_put 6 (oIld 2 7) := sn_iload_n l D AC b z L xs Gm  dX2_put_6 rfl
theorem so_Land_put_7 : Snd l D AC b z L xs Gm j_Land_put 7 (oPutI kc_Node 0 10) := sn_putI l D AC b z L xs Gm  dX2_put_7 rfl (by decide) rfl (by decide) kin_4 tyX4_ok nmX4 tw_127 rfl rfl
theorem so_Land_put_10 : Snd l D AC b z L xs Gm j_Land_put 10 (oAld 0 11) := sn_aload_n l D AC b z L xs Gm  dX2_put_10 rfl
theorem so_Land_put_11 : Snd l D AC b z L xs Gm j_Land_put 11 (oGetR kc_Land 0 14) := sn_getR l D AC b z L xs Gm  dX2_put_11 rfl (by decide) rfl (by decide) kin_2 tw_206
theorem so_Land_put_14 : Snd l D AC b z L xs Gm j_Land_put 14 (oIld 1 15) := sn_iload_n l D AC b z L xs Gm  dX2_put_14 rfl
theorem so_Land_put_15 : Snd l D AC b z L xs Gm j_Land_put 15 (oAal 2 16) := sn_aaload l D AC b z L xs Gm  dX2_put_15 (by decide) rfl rfl (by decide)
theorem so_Land_put_16 : Snd l D AC b z L xs Gm j_Land_put 16 (oIld 3 17) := sn_iload_n l D AC b z L xs Gm  dX2_put_16 rfl
theorem so_Land_put_17 : Snd l D AC b z L xs Gm j_Land_put 17 (oPutI kc_Node 1 20) := sn_putI l D AC b z L xs Gm  dX2_put_17 rfl (by decide) rfl (by decide) kin_4 tyX4_ok nmX4 tw_130 rfl rfl
theorem so_Land_put_20 : Snd l D AC b z L xs Gm j_Land_put 20 (oAld 0 21) := sn_aload_n l D AC b z L xs Gm  dX2_put_20 rfl
theorem so_Land_put_21 : Snd l D AC b z L xs Gm j_Land_put 21 (oCallV kc_Land j_Land_findHearers 0 (mL j_Land_findHearers) 24) := sn_callV l D AC b z L xs Gm  dX2_put_21 rfl (hs0 (fun _ => rfl) rfl) cal_Land_put_Land_findHearers rfl rfl (by decide) rfl tw_441 tw_443 tw_1
theorem so_Land_put_24 : Snd l D AC b z L xs Gm j_Land_put 24 (oRet) := sn_ret l D AC b z L xs Gm  dX2_put_24 rfl
set_option maxRecDepth 100000 in
theorem so_Land_put : ∀ q ∈ tb_Land_put, Snd l D AC b z L xs Gm j_Land_put q.1 q.2 := by
  unfold tb_Land_put
  exact List.forall_mem_cons.mpr ⟨so_Land_put_0 l D AC b z L xs, List.forall_mem_cons.mpr ⟨so_Land_put_1 l D AC b z L xs, List.forall_mem_cons.mpr ⟨so_Land_put_4 l D AC b z L xs, List.forall_mem_cons.mpr ⟨so_Land_put_5 l D AC b z L xs, List.forall_mem_cons.mpr ⟨so_Land_put_6 l D AC b z L xs, List.forall_mem_cons.mpr ⟨so_Land_put_7 l D AC b z L xs, List.forall_mem_cons.mpr ⟨so_Land_put_10 l D AC b z L xs, List.forall_mem_cons.mpr ⟨so_Land_put_11 l D AC b z L xs, List.forall_mem_cons.mpr ⟨so_Land_put_14 l D AC b z L xs, List.forall_mem_cons.mpr ⟨so_Land_put_15 l D AC b z L xs, List.forall_mem_cons.mpr ⟨so_Land_put_16 l D AC b z L xs, List.forall_mem_cons.mpr ⟨so_Land_put_17 l D AC b z L xs, List.forall_mem_cons.mpr ⟨so_Land_put_20 l D AC b z L xs, List.forall_mem_cons.mpr ⟨so_Land_put_21 l D AC b z L xs, List.forall_mem_cons.mpr ⟨so_Land_put_24 l D AC b z L xs, fun _ h => absurd h List.not_mem_nil⟩⟩⟩⟩⟩⟩⟩⟩⟩⟩⟩⟩⟩⟩⟩
theorem so_Land_adjust_0 : Snd l D AC b z L xs Gm j_Land_adjust 0 (oAld 0 1) := sn_aload_n l D AC b z L xs Gm  dX2_adjust_0 rfl
theorem so_Land_adjust_1 : Snd l D AC b z L xs Gm j_Land_adjust 1 (oGetR kc_Land 0 4) := sn_getR l D AC b z L xs Gm  dX2_adjust_1 rfl (by decide) rfl (by decide) kin_2 tw_206
theorem so_Land_adjust_4 : Snd l D AC b z L xs Gm j_Land_adjust 4 (oIld 1 5) := sn_iload_n l D AC b z L xs Gm  dX2_adjust_4 rfl
theorem so_Land_adjust_5 : Snd l D AC b z L xs Gm j_Land_adjust 5 (oAal 2 6) := sn_aaload l D AC b z L xs Gm  dX2_adjust_5 (by decide) rfl rfl (by decide)
theorem so_Land_adjust_6 : Snd l D AC b z L xs Gm j_Land_adjust 6 (oIld 2 7) := sn_iload_n l D AC b z L xs Gm  dX2_adjust_6 rfl
theorem so_Land_adjust_7 : Snd l D AC b z L xs Gm j_Land_adjust 7 (oPutI kc_Node 2 10) := sn_putI l D AC b z L xs Gm  dX2_adjust_7 rfl (by decide) rfl (by decide) kin_4 tyX4_ok nmX4 tw_134 rfl rfl
theorem so_Land_adjust_10 : Snd l D AC b z L xs Gm j_Land_adjust 10 (oAld 0 11) := sn_aload_n l D AC b z L xs Gm  dX2_adjust_10 rfl
theorem so_Land_adjust_11 : Snd l D AC b z L xs Gm j_Land_adjust 11 (oGetR kc_Land 0 14) := sn_getR l D AC b z L xs Gm  dX2_adjust_11 rfl (by decide) rfl (by decide) kin_2 tw_206
theorem so_Land_adjust_14 : Snd l D AC b z L xs Gm j_Land_adjust 14 (oIld 1 15) := sn_iload_n l D AC b z L xs Gm  dX2_adjust_14 rfl
theorem so_Land_adjust_15 : Snd l D AC b z L xs Gm j_Land_adjust 15 (oAal 2 16) := sn_aaload l D AC b z L xs Gm  dX2_adjust_15 (by decide) rfl rfl (by decide)
theorem so_Land_adjust_16 : Snd l D AC b z L xs Gm j_Land_adjust 16 (oIld 3 17) := sn_iload_n l D AC b z L xs Gm  dX2_adjust_16 rfl
theorem so_Land_adjust_17 : Snd l D AC b z L xs Gm j_Land_adjust 17 (oPutZ kc_Node 3 20) := sn_putZ l D AC b z L xs Gm  dX2_adjust_17 rfl (by decide) rfl (by decide) kin_4 tyX4_ok nmX4 tw_136 rfl rfl
theorem so_Land_adjust_20 : Snd l D AC b z L xs Gm j_Land_adjust 20 (oAld 0 21) := sn_aload_n l D AC b z L xs Gm  dX2_adjust_20 rfl
theorem so_Land_adjust_21 : Snd l D AC b z L xs Gm j_Land_adjust 21 (oCallV kc_Land j_Land_findHearers 0 (mL j_Land_findHearers) 24) := sn_callV l D AC b z L xs Gm  dX2_adjust_21 rfl (hs0 (fun _ => rfl) rfl) cal_Land_adjust_Land_findHearers rfl rfl (by decide) rfl tw_441 tw_443 tw_1
theorem so_Land_adjust_24 : Snd l D AC b z L xs Gm j_Land_adjust 24 (oRet) := sn_ret l D AC b z L xs Gm  dX2_adjust_24 rfl
set_option maxRecDepth 100000 in
theorem so_Land_adjust : ∀ q ∈ tb_Land_adjust, Snd l D AC b z L xs Gm j_Land_adjust q.1 q.2 := by
  unfold tb_Land_adjust
  exact List.forall_mem_cons.mpr ⟨so_Land_adjust_0 l D AC b z L xs, List.forall_mem_cons.mpr ⟨so_Land_adjust_1 l D AC b z L xs, List.forall_mem_cons.mpr ⟨so_Land_adjust_4 l D AC b z L xs, List.forall_mem_cons.mpr ⟨so_Land_adjust_5 l D AC b z L xs, List.forall_mem_cons.mpr ⟨so_Land_adjust_6 l D AC b z L xs, List.forall_mem_cons.mpr ⟨so_Land_adjust_7 l D AC b z L xs, List.forall_mem_cons.mpr ⟨so_Land_adjust_10 l D AC b z L xs, List.forall_mem_cons.mpr ⟨so_Land_adjust_11 l D AC b z L xs, List.forall_mem_cons.mpr ⟨so_Land_adjust_14 l D AC b z L xs, List.forall_mem_cons.mpr ⟨so_Land_adjust_15 l D AC b z L xs, List.forall_mem_cons.mpr ⟨so_Land_adjust_16 l D AC b z L xs, List.forall_mem_cons.mpr ⟨so_Land_adjust_17 l D AC b z L xs, List.forall_mem_cons.mpr ⟨so_Land_adjust_20 l D AC b z L xs, List.forall_mem_cons.mpr ⟨so_Land_adjust_21 l D AC b z L xs, List.forall_mem_cons.mpr ⟨so_Land_adjust_24 l D AC b z L xs, fun _ h => absurd h List.not_mem_nil⟩⟩⟩⟩⟩⟩⟩⟩⟩⟩⟩⟩⟩⟩⟩
theorem so_Land_findHearers_0 : Snd l D AC b z L xs Gm j_Land_findHearers 0 (oI 0 1) := sn_iconst l D AC b z L xs Gm  dX2_findHearers_0 (by decide)
theorem so_Land_findHearers_1 : Snd l D AC b z L xs Gm j_Land_findHearers 1 (oIst 1 2) := sn_istore_n l D AC b z L xs Gm  dX2_findHearers_1 rfl (by decide)
theorem so_Land_findHearers_2 : Snd l D AC b z L xs Gm j_Land_findHearers 2 (oIld 1 3) := sn_iload_n l D AC b z L xs Gm  dX2_findHearers_2 rfl
theorem so_Land_findHearers_3 : Snd l D AC b z L xs Gm j_Land_findHearers 3 (oAld 0 4) := sn_aload_n l D AC b z L xs Gm  dX2_findHearers_3 rfl
theorem so_Land_findHearers_4 : Snd l D AC b z L xs Gm j_Land_findHearers 4 (oGetI kc_Land 2 7) := sn_getI l D AC b z L xs Gm  dX2_findHearers_4 rfl (by decide) rfl (by decide) kin_2 tw_210
theorem so_Land_findHearers_7 : Snd l D AC b z L xs Gm j_Land_findHearers 7 (oIC (fun x y => decide (y ≤ x)) 80 10) := sn_icmp_ge l D AC b z L xs Gm  dX2_findHearers_7 (by decide)
theorem so_Land_findHearers_10 : Snd l D AC b z L xs Gm j_Land_findHearers 10 (oI 0 11) := sn_iconst l D AC b z L xs Gm  dX2_findHearers_10 (by decide)
theorem so_Land_findHearers_11 : Snd l D AC b z L xs Gm j_Land_findHearers 11 (oIst 2 12) := sn_istore_n l D AC b z L xs Gm  dX2_findHearers_11 rfl (by decide)
theorem so_Land_findHearers_12 : Snd l D AC b z L xs Gm j_Land_findHearers 12 (oI 0 13) := sn_iconst l D AC b z L xs Gm  dX2_findHearers_12 (by decide)
theorem so_Land_findHearers_13 : Snd l D AC b z L xs Gm j_Land_findHearers 13 (oIst 3 14) := sn_istore_n l D AC b z L xs Gm  dX2_findHearers_13 rfl (by decide)
theorem so_Land_findHearers_14 : Snd l D AC b z L xs Gm j_Land_findHearers 14 (oIld 3 15) := sn_iload_n l D AC b z L xs Gm  dX2_findHearers_14 rfl
theorem so_Land_findHearers_15 : Snd l D AC b z L xs Gm j_Land_findHearers 15 (oAld 0 16) := sn_aload_n l D AC b z L xs Gm  dX2_findHearers_15 rfl
theorem so_Land_findHearers_16 : Snd l D AC b z L xs Gm j_Land_findHearers 16 (oGetI kc_Land 2 19) := sn_getI l D AC b z L xs Gm  dX2_findHearers_16 rfl (by decide) rfl (by decide) kin_2 tw_210
theorem so_Land_findHearers_19 : Snd l D AC b z L xs Gm j_Land_findHearers 19 (oIC (fun x y => decide (y ≤ x)) 67 22) := sn_icmp_ge l D AC b z L xs Gm  dX2_findHearers_19 (by decide)
theorem so_Land_findHearers_22 : Snd l D AC b z L xs Gm j_Land_findHearers 22 (oIld 3 23) := sn_iload_n l D AC b z L xs Gm  dX2_findHearers_22 rfl
theorem so_Land_findHearers_23 : Snd l D AC b z L xs Gm j_Land_findHearers 23 (oIld 1 24) := sn_iload_n l D AC b z L xs Gm  dX2_findHearers_23 rfl
theorem so_Land_findHearers_24 : Snd l D AC b z L xs Gm j_Land_findHearers 24 (oIC (fun x y => decide (x = y)) 61 27) := sn_icmp_eq l D AC b z L xs Gm  dX2_findHearers_24 (by decide)
theorem so_Land_findHearers_27 : Snd l D AC b z L xs Gm j_Land_findHearers 27 (oAld 0 28) := sn_aload_n l D AC b z L xs Gm  dX2_findHearers_27 rfl
theorem so_Land_findHearers_28 : Snd l D AC b z L xs Gm j_Land_findHearers 28 (oIld 3 29) := sn_iload_n l D AC b z L xs Gm  dX2_findHearers_28 rfl
theorem so_Land_findHearers_29 : Snd l D AC b z L xs Gm j_Land_findHearers 29 (oIld 1 30) := sn_iload_n l D AC b z L xs Gm  dX2_findHearers_29 rfl
theorem so_Land_findHearers_30 : Snd l D AC b z L xs Gm j_Land_findHearers 30 (oCallV kc_Land j_Land_far 2 (mL j_Land_far) 33) := sn_callV l D AC b z L xs Gm  dX2_findHearers_30 rfl (hs0 (fun _ => rfl) rfl) cal_Land_findHearers_Land_far rfl rfl (by decide) rfl tw_445 tw_446 tw_447
theorem so_Land_findHearers_33 : Snd l D AC b z L xs Gm j_Land_findHearers 33 (oAld 0 34) := sn_aload_n l D AC b z L xs Gm  dX2_findHearers_33 rfl
theorem so_Land_findHearers_34 : Snd l D AC b z L xs Gm j_Land_findHearers 34 (oGetR kc_Land 0 37) := sn_getR l D AC b z L xs Gm  dX2_findHearers_34 rfl (by decide) rfl (by decide) kin_2 tw_206
theorem so_Land_findHearers_37 : Snd l D AC b z L xs Gm j_Land_findHearers 37 (oIld 1 38) := sn_iload_n l D AC b z L xs Gm  dX2_findHearers_37 rfl
theorem so_Land_findHearers_38 : Snd l D AC b z L xs Gm j_Land_findHearers 38 (oAal 2 39) := sn_aaload l D AC b z L xs Gm  dX2_findHearers_38 (by decide) rfl rfl (by decide)
theorem so_Land_findHearers_39 : Snd l D AC b z L xs Gm j_Land_findHearers 39 (oGetI kc_Node 2 42) := sn_getI l D AC b z L xs Gm  dX2_findHearers_39 rfl (by decide) rfl (by decide) kin_4 tw_134
theorem so_Land_findHearers_42 : Snd l D AC b z L xs Gm j_Land_findHearers 42 (oAld 0 43) := sn_aload_n l D AC b z L xs Gm  dX2_findHearers_42 rfl
theorem so_Land_findHearers_43 : Snd l D AC b z L xs Gm j_Land_findHearers 43 (oGetR kc_Land 0 46) := sn_getR l D AC b z L xs Gm  dX2_findHearers_43 rfl (by decide) rfl (by decide) kin_2 tw_206
theorem so_Land_findHearers_46 : Snd l D AC b z L xs Gm j_Land_findHearers 46 (oIld 1 47) := sn_iload_n l D AC b z L xs Gm  dX2_findHearers_46 rfl
theorem so_Land_findHearers_47 : Snd l D AC b z L xs Gm j_Land_findHearers 47 (oAal 2 48) := sn_aaload l D AC b z L xs Gm  dX2_findHearers_47 (by decide) rfl rfl (by decide)
theorem so_Land_findHearers_48 : Snd l D AC b z L xs Gm j_Land_findHearers 48 (oGetI kc_Node 2 51) := sn_getI l D AC b z L xs Gm  dX2_findHearers_48 rfl (by decide) rfl (by decide) kin_4 tw_134
theorem so_Land_findHearers_51 : Snd l D AC b z L xs Gm j_Land_findHearers 51 (oII (fun x y => x * y) 52) := sn_imul l D AC b z L xs Gm  dX2_findHearers_51
theorem so_Land_findHearers_52 : Snd l D AC b z L xs Gm j_Land_findHearers 52 (oIC (fun x y => decide (y < x)) 61 55) := sn_icmp_gt l D AC b z L xs Gm  dX2_findHearers_52 (by decide)
theorem so_Land_findHearers_55 : Snd l D AC b z L xs Gm j_Land_findHearers 55 (oIld 2 56) := sn_iload_n l D AC b z L xs Gm  dX2_findHearers_55 rfl
theorem so_Land_findHearers_56 : Snd l D AC b z L xs Gm j_Land_findHearers 56 (oI 1 57) := sn_iconst l D AC b z L xs Gm  dX2_findHearers_56 (by decide)
theorem so_Land_findHearers_57 : Snd l D AC b z L xs Gm j_Land_findHearers 57 (oIld 3 58) := sn_iload_n l D AC b z L xs Gm  dX2_findHearers_57 rfl
theorem so_Land_findHearers_58 : Snd l D AC b z L xs Gm j_Land_findHearers 58 (oII (fun x y => x <<< (y &&& 31)) 59) := sn_ishl l D AC b z L xs Gm  dX2_findHearers_58
theorem so_Land_findHearers_59 : Snd l D AC b z L xs Gm j_Land_findHearers 59 (oII (fun x y => x ||| y) 60) := sn_ior l D AC b z L xs Gm  dX2_findHearers_59
theorem so_Land_findHearers_60 : Snd l D AC b z L xs Gm j_Land_findHearers 60 (oIst 2 61) := sn_istore_n l D AC b z L xs Gm  dX2_findHearers_60 rfl (by decide)
theorem so_Land_findHearers_61 : Snd l D AC b z L xs Gm j_Land_findHearers 61 (oInc 3 1 64) := sn_iinc l D AC b z L xs Gm  dX2_findHearers_61 (by decide) (by decide)
theorem so_Land_findHearers_64 : Snd l D AC b z L xs Gm j_Land_findHearers 64 (oGo 14) := sn_goto l D AC b z L xs Gm  dX2_findHearers_64 (by decide)
theorem so_Land_findHearers_67 : Snd l D AC b z L xs Gm j_Land_findHearers 67 (oAld 0 68) := sn_aload_n l D AC b z L xs Gm  dX2_findHearers_67 rfl
theorem so_Land_findHearers_68 : Snd l D AC b z L xs Gm j_Land_findHearers 68 (oGetR kc_Land 1 71) := sn_getR l D AC b z L xs Gm  dX2_findHearers_68 rfl (by decide) rfl (by decide) kin_2 tw_209
theorem so_Land_findHearers_71 : Snd l D AC b z L xs Gm j_Land_findHearers 71 (oIld 1 72) := sn_iload_n l D AC b z L xs Gm  dX2_findHearers_71 rfl
theorem so_Land_findHearers_72 : Snd l D AC b z L xs Gm j_Land_findHearers 72 (oIld 2 73) := sn_iload_n l D AC b z L xs Gm  dX2_findHearers_72 rfl
theorem so_Land_findHearers_73 : Snd l D AC b z L xs Gm j_Land_findHearers 73 (oIas 0 74) := sn_iastore l D AC b z L xs Gm  dX2_findHearers_73 (by decide) rfl rfl
theorem so_Land_findHearers_74 : Snd l D AC b z L xs Gm j_Land_findHearers 74 (oInc 1 1 77) := sn_iinc l D AC b z L xs Gm  dX2_findHearers_74 (by decide) (by decide)
theorem so_Land_findHearers_77 : Snd l D AC b z L xs Gm j_Land_findHearers 77 (oGo 2) := sn_goto l D AC b z L xs Gm  dX2_findHearers_77 (by decide)
theorem so_Land_findHearers_80 : Snd l D AC b z L xs Gm j_Land_findHearers 80 (oRet) := sn_ret l D AC b z L xs Gm  dX2_findHearers_80 rfl
set_option maxRecDepth 100000 in
theorem so_Land_findHearers : ∀ q ∈ tb_Land_findHearers, Snd l D AC b z L xs Gm j_Land_findHearers q.1 q.2 := by
  unfold tb_Land_findHearers
  exact List.forall_mem_cons.mpr ⟨so_Land_findHearers_0 l D AC b z L xs, List.forall_mem_cons.mpr ⟨so_Land_findHearers_1 l D AC b z L xs, List.forall_mem_cons.mpr ⟨so_Land_findHearers_2 l D AC b z L xs, List.forall_mem_cons.mpr ⟨so_Land_findHearers_3 l D AC b z L xs, List.forall_mem_cons.mpr ⟨so_Land_findHearers_4 l D AC b z L xs, List.forall_mem_cons.mpr ⟨so_Land_findHearers_7 l D AC b z L xs, List.forall_mem_cons.mpr ⟨so_Land_findHearers_10 l D AC b z L xs, List.forall_mem_cons.mpr ⟨so_Land_findHearers_11 l D AC b z L xs, List.forall_mem_cons.mpr ⟨so_Land_findHearers_12 l D AC b z L xs, List.forall_mem_cons.mpr ⟨so_Land_findHearers_13 l D AC b z L xs, List.forall_mem_cons.mpr ⟨so_Land_findHearers_14 l D AC b z L xs, List.forall_mem_cons.mpr ⟨so_Land_findHearers_15 l D AC b z L xs, List.forall_mem_cons.mpr ⟨so_Land_findHearers_16 l D AC b z L xs, List.forall_mem_cons.mpr ⟨so_Land_findHearers_19 l D AC b z L xs, List.forall_mem_cons.mpr ⟨so_Land_findHearers_22 l D AC b z L xs, List.forall_mem_cons.mpr ⟨so_Land_findHearers_23 l D AC b z L xs, List.forall_mem_cons.mpr ⟨so_Land_findHearers_24 l D AC b z L xs, List.forall_mem_cons.mpr ⟨so_Land_findHearers_27 l D AC b z L xs, List.forall_mem_cons.mpr ⟨so_Land_findHearers_28 l D AC b z L xs, List.forall_mem_cons.mpr ⟨so_Land_findHearers_29 l D AC b z L xs, List.forall_mem_cons.mpr ⟨so_Land_findHearers_30 l D AC b z L xs, List.forall_mem_cons.mpr ⟨so_Land_findHearers_33 l D AC b z L xs, List.forall_mem_cons.mpr ⟨so_Land_findHearers_34 l D AC b z L xs, List.forall_mem_cons.mpr ⟨so_Land_findHearers_37 l D AC b z L xs, List.forall_mem_cons.mpr ⟨so_Land_findHearers_38 l D AC b z L xs, List.forall_mem_cons.mpr ⟨so_Land_findHearers_39 l D AC b z L xs, List.forall_mem_cons.mpr ⟨so_Land_findHearers_42 l D AC b z L xs, List.forall_mem_cons.mpr ⟨so_Land_findHearers_43 l D AC b z L xs, List.forall_mem_cons.mpr ⟨so_Land_findHearers_46 l D AC b z L xs, List.forall_mem_cons.mpr ⟨so_Land_findHearers_47 l D AC b z L xs, List.forall_mem_cons.mpr ⟨so_Land_findHearers_48 l D AC b z L xs, List.forall_mem_cons.mpr ⟨so_Land_findHearers_51 l D AC b z L xs, List.forall_mem_cons.mpr ⟨so_Land_findHearers_52 l D AC b z L xs, List.forall_mem_cons.mpr ⟨so_Land_findHearers_55 l D AC b z L xs, List.forall_mem_cons.mpr ⟨so_Land_findHearers_56 l D AC b z L xs, List.forall_mem_cons.mpr ⟨so_Land_findHearers_57 l D AC b z L xs, List.forall_mem_cons.mpr ⟨so_Land_findHearers_58 l D AC b z L xs, List.forall_mem_cons.mpr ⟨so_Land_findHearers_59 l D AC b z L xs, List.forall_mem_cons.mpr ⟨so_Land_findHearers_60 l D AC b z L xs, List.forall_mem_cons.mpr ⟨so_Land_findHearers_61 l D AC b z L xs, List.forall_mem_cons.mpr ⟨so_Land_findHearers_64 l D AC b z L xs, List.forall_mem_cons.mpr ⟨so_Land_findHearers_67 l D AC b z L xs, List.forall_mem_cons.mpr ⟨so_Land_findHearers_68 l D AC b z L xs, List.forall_mem_cons.mpr ⟨so_Land_findHearers_71 l D AC b z L xs, List.forall_mem_cons.mpr ⟨so_Land_findHearers_72 l D AC b z L xs, List.forall_mem_cons.mpr ⟨so_Land_findHearers_73 l D AC b z L xs, List.forall_mem_cons.mpr ⟨so_Land_findHearers_74 l D AC b z L xs, List.forall_mem_cons.mpr ⟨so_Land_findHearers_77 l D AC b z L xs, List.forall_mem_cons.mpr ⟨so_Land_findHearers_80 l D AC b z L xs, fun _ h => absurd h List.not_mem_nil⟩⟩⟩⟩⟩⟩⟩⟩⟩⟩⟩⟩⟩⟩⟩⟩⟩⟩⟩⟩⟩⟩⟩⟩⟩⟩⟩⟩⟩⟩⟩⟩⟩⟩⟩⟩⟩⟩⟩⟩⟩⟩⟩⟩⟩⟩⟩⟩⟩
theorem so_Land_far_0 : Snd l D AC b z L xs Gm j_Land_far 0 (oAld 0 1) := sn_aload_n l D AC b z L xs Gm  dX2_far_0 rfl
theorem so_Land_far_1 : Snd l D AC b z L xs Gm j_Land_far 1 (oGetR kc_Land 0 4) := sn_getR l D AC b z L xs Gm  dX2_far_1 rfl (by decide) rfl (by decide) kin_2 tw_206
theorem so_Land_far_4 : Snd l D AC b z L xs Gm j_Land_far 4 (oIld 1 5) := sn_iload_n l D AC b z L xs Gm  dX2_far_4 rfl
theorem so_Land_far_5 : Snd l D AC b z L xs Gm j_Land_far 5 (oAal 2 6) := sn_aaload l D AC b z L xs Gm  dX2_far_5 (by decide) rfl rfl (by decide)
theorem so_Land_far_6 : Snd l D AC b z L xs Gm j_Land_far 6 (oGetI kc_Node 0 9) := sn_getI l D AC b z L xs Gm  dX2_far_6 rfl (by decide) rfl (by decide) kin_4 tw_127
theorem so_Land_far_9 : Snd l D AC b z L xs Gm j_Land_far 9 (oAld 0 10) := sn_aload_n l D AC b z L xs Gm  dX2_far_9 rfl
theorem so_Land_far_10 : Snd l D AC b z L xs Gm j_Land_far 10 (oGetR kc_Land 0 13) := sn_getR l D AC b z L xs Gm  dX2_far_10 rfl (by decide) rfl (by decide) kin_2 tw_206
theorem so_Land_far_13 : Snd l D AC b z L xs Gm j_Land_far 13 (oIld 2 14) := sn_iload_n l D AC b z L xs Gm  dX2_far_13 rfl
theorem so_Land_far_14 : Snd l D AC b z L xs Gm j_Land_far 14 (oAal 2 15) := sn_aaload l D AC b z L xs Gm  dX2_far_14 (by decide) rfl rfl (by decide)
theorem so_Land_far_15 : Snd l D AC b z L xs Gm j_Land_far 15 (oGetI kc_Node 0 18) := sn_getI l D AC b z L xs Gm  dX2_far_15 rfl (by decide) rfl (by decide) kin_4 tw_127
theorem so_Land_far_18 : Snd l D AC b z L xs Gm j_Land_far 18 (oII (fun x y => x - y) 19) := sn_isub l D AC b z L xs Gm  dX2_far_18
theorem so_Land_far_19 : Snd l D AC b z L xs Gm j_Land_far 19 (oIst 3 20) := sn_istore_n l D AC b z L xs Gm  dX2_far_19 rfl (by decide)
theorem so_Land_far_20 : Snd l D AC b z L xs Gm j_Land_far 20 (oAld 0 21) := sn_aload_n l D AC b z L xs Gm  dX2_far_20 rfl
theorem so_Land_far_21 : Snd l D AC b z L xs Gm j_Land_far 21 (oGetR kc_Land 0 24) := sn_getR l D AC b z L xs Gm  dX2_far_21 rfl (by decide) rfl (by decide) kin_2 tw_206
theorem so_Land_far_24 : Snd l D AC b z L xs Gm j_Land_far 24 (oIld 1 25) := sn_iload_n l D AC b z L xs Gm  dX2_far_24 rfl
theorem so_Land_far_25 : Snd l D AC b z L xs Gm j_Land_far 25 (oAal 2 26) := sn_aaload l D AC b z L xs Gm  dX2_far_25 (by decide) rfl rfl (by decide)
theorem so_Land_far_26 : Snd l D AC b z L xs Gm j_Land_far 26 (oGetI kc_Node 1 29) := sn_getI l D AC b z L xs Gm  dX2_far_26 rfl (by decide) rfl (by decide) kin_4 tw_130
theorem so_Land_far_29 : Snd l D AC b z L xs Gm j_Land_far 29 (oAld 0 30) := sn_aload_n l D AC b z L xs Gm  dX2_far_29 rfl
theorem so_Land_far_30 : Snd l D AC b z L xs Gm j_Land_far 30 (oGetR kc_Land 0 33) := sn_getR l D AC b z L xs Gm  dX2_far_30 rfl (by decide) rfl (by decide) kin_2 tw_206
theorem so_Land_far_33 : Snd l D AC b z L xs Gm j_Land_far 33 (oIld 2 34) := sn_iload_n l D AC b z L xs Gm  dX2_far_33 rfl
theorem so_Land_far_34 : Snd l D AC b z L xs Gm j_Land_far 34 (oAal 2 35) := sn_aaload l D AC b z L xs Gm  dX2_far_34 (by decide) rfl rfl (by decide)
theorem so_Land_far_35 : Snd l D AC b z L xs Gm j_Land_far 35 (oGetI kc_Node 1 38) := sn_getI l D AC b z L xs Gm  dX2_far_35 rfl (by decide) rfl (by decide) kin_4 tw_130
theorem so_Land_far_38 : Snd l D AC b z L xs Gm j_Land_far 38 (oII (fun x y => x - y) 39) := sn_isub l D AC b z L xs Gm  dX2_far_38
theorem so_Land_far_39 : Snd l D AC b z L xs Gm j_Land_far 39 (oIst 4 41) := sn_istore l D AC b z L xs Gm  dX2_far_39 (by decide)
theorem so_Land_far_41 : Snd l D AC b z L xs Gm j_Land_far 41 (oIld 3 42) := sn_iload_n l D AC b z L xs Gm  dX2_far_41 rfl
theorem so_Land_far_42 : Snd l D AC b z L xs Gm j_Land_far 42 (oIld 3 43) := sn_iload_n l D AC b z L xs Gm  dX2_far_42 rfl
theorem so_Land_far_43 : Snd l D AC b z L xs Gm j_Land_far 43 (oII (fun x y => x * y) 44) := sn_imul l D AC b z L xs Gm  dX2_far_43
theorem so_Land_far_44 : Snd l D AC b z L xs Gm j_Land_far 44 (oIld 4 46) := sn_iload l D AC b z L xs Gm  dX2_far_44
theorem so_Land_far_46 : Snd l D AC b z L xs Gm j_Land_far 46 (oIld 4 48) := sn_iload l D AC b z L xs Gm  dX2_far_46
theorem so_Land_far_48 : Snd l D AC b z L xs Gm j_Land_far 48 (oII (fun x y => x * y) 49) := sn_imul l D AC b z L xs Gm  dX2_far_48
theorem so_Land_far_49 : Snd l D AC b z L xs Gm j_Land_far 49 (oII (fun x y => x + y) 50) := sn_iadd l D AC b z L xs Gm  dX2_far_49
theorem so_Land_far_50 : Snd l D AC b z L xs Gm j_Land_far 50 (oRetI) := sn_retI l D AC b z L xs Gm  dX2_far_50 rfl
set_option maxRecDepth 100000 in
theorem so_Land_far : ∀ q ∈ tb_Land_far, Snd l D AC b z L xs Gm j_Land_far q.1 q.2 := by
  unfold tb_Land_far
  exact List.forall_mem_cons.mpr ⟨so_Land_far_0 l D AC b z L xs, List.forall_mem_cons.mpr ⟨so_Land_far_1 l D AC b z L xs, List.forall_mem_cons.mpr ⟨so_Land_far_4 l D AC b z L xs, List.forall_mem_cons.mpr ⟨so_Land_far_5 l D AC b z L xs, List.forall_mem_cons.mpr ⟨so_Land_far_6 l D AC b z L xs, List.forall_mem_cons.mpr ⟨so_Land_far_9 l D AC b z L xs, List.forall_mem_cons.mpr ⟨so_Land_far_10 l D AC b z L xs, List.forall_mem_cons.mpr ⟨so_Land_far_13 l D AC b z L xs, List.forall_mem_cons.mpr ⟨so_Land_far_14 l D AC b z L xs, List.forall_mem_cons.mpr ⟨so_Land_far_15 l D AC b z L xs, List.forall_mem_cons.mpr ⟨so_Land_far_18 l D AC b z L xs, List.forall_mem_cons.mpr ⟨so_Land_far_19 l D AC b z L xs, List.forall_mem_cons.mpr ⟨so_Land_far_20 l D AC b z L xs, List.forall_mem_cons.mpr ⟨so_Land_far_21 l D AC b z L xs, List.forall_mem_cons.mpr ⟨so_Land_far_24 l D AC b z L xs, List.forall_mem_cons.mpr ⟨so_Land_far_25 l D AC b z L xs, List.forall_mem_cons.mpr ⟨so_Land_far_26 l D AC b z L xs, List.forall_mem_cons.mpr ⟨so_Land_far_29 l D AC b z L xs, List.forall_mem_cons.mpr ⟨so_Land_far_30 l D AC b z L xs, List.forall_mem_cons.mpr ⟨so_Land_far_33 l D AC b z L xs, List.forall_mem_cons.mpr ⟨so_Land_far_34 l D AC b z L xs, List.forall_mem_cons.mpr ⟨so_Land_far_35 l D AC b z L xs, List.forall_mem_cons.mpr ⟨so_Land_far_38 l D AC b z L xs, List.forall_mem_cons.mpr ⟨so_Land_far_39 l D AC b z L xs, List.forall_mem_cons.mpr ⟨so_Land_far_41 l D AC b z L xs, List.forall_mem_cons.mpr ⟨so_Land_far_42 l D AC b z L xs, List.forall_mem_cons.mpr ⟨so_Land_far_43 l D AC b z L xs, List.forall_mem_cons.mpr ⟨so_Land_far_44 l D AC b z L xs, List.forall_mem_cons.mpr ⟨so_Land_far_46 l D AC b z L xs, List.forall_mem_cons.mpr ⟨so_Land_far_48 l D AC b z L xs, List.forall_mem_cons.mpr ⟨so_Land_far_49 l D AC b z L xs, List.forall_mem_cons.mpr ⟨so_Land_far_50 l D AC b z L xs, fun _ h => absurd h List.not_mem_nil⟩⟩⟩⟩⟩⟩⟩⟩⟩⟩⟩⟩⟩⟩⟩⟩⟩⟩⟩⟩⟩⟩⟩⟩⟩⟩⟩⟩⟩⟩⟩⟩
theorem so_Land_canHear_0 : Snd l D AC b z L xs Gm j_Land_canHear 0 (oAld 0 1) := sn_aload_n l D AC b z L xs Gm  dX2_canHear_0 rfl
theorem so_Land_canHear_1 : Snd l D AC b z L xs Gm j_Land_canHear 1 (oIld 1 2) := sn_iload_n l D AC b z L xs Gm  dX2_canHear_1 rfl
theorem so_Land_canHear_2 : Snd l D AC b z L xs Gm j_Land_canHear 2 (oCallV kc_Land j_Land_isNode 1 (mL j_Land_isNode) 5) := sn_callV l D AC b z L xs Gm  dX2_canHear_2 rfl (hs0 (fun _ => rfl) rfl) cal_Land_canHear_Land_isNode rfl rfl (by decide) rfl tw_470 tw_471 tw_472
theorem so_Land_canHear_5 : Snd l D AC b z L xs Gm j_Land_canHear 5 (oIf (fun x => decide (x = 0)) 33 8) := sn_if_eq l D AC b z L xs Gm  dX2_canHear_5 (by decide)
theorem so_Land_canHear_8 : Snd l D AC b z L xs Gm j_Land_canHear 8 (oAld 0 9) := sn_aload_n l D AC b z L xs Gm  dX2_canHear_8 rfl
theorem so_Land_canHear_9 : Snd l D AC b z L xs Gm j_Land_canHear 9 (oIld 2 10) := sn_iload_n l D AC b z L xs Gm  dX2_canHear_9 rfl
theorem so_Land_canHear_10 : Snd l D AC b z L xs Gm j_Land_canHear 10 (oCallV kc_Land j_Land_isNode 1 (mL j_Land_isNode) 13) := sn_callV l D AC b z L xs Gm  dX2_canHear_10 rfl (hs0 (fun _ => rfl) rfl) cal_Land_canHear_Land_isNode rfl rfl (by decide) rfl tw_470 tw_471 tw_472
theorem so_Land_canHear_13 : Snd l D AC b z L xs Gm j_Land_canHear 13 (oIf (fun x => decide (x = 0)) 33 16) := sn_if_eq l D AC b z L xs Gm  dX2_canHear_13 (by decide)
theorem so_Land_canHear_16 : Snd l D AC b z L xs Gm j_Land_canHear 16 (oAld 0 17) := sn_aload_n l D AC b z L xs Gm  dX2_canHear_16 rfl
theorem so_Land_canHear_17 : Snd l D AC b z L xs Gm j_Land_canHear 17 (oGetR kc_Land 1 20) := sn_getR l D AC b z L xs Gm  dX2_canHear_17 rfl (by decide) rfl (by decide) kin_2 tw_209
theorem so_Land_canHear_20 : Snd l D AC b z L xs Gm j_Land_canHear 20 (oIld 2 21) := sn_iload_n l D AC b z L xs Gm  dX2_canHear_20 rfl
theorem so_Land_canHear_21 : Snd l D AC b z L xs Gm j_Land_canHear 21 (oIal 0 22) := sn_iaload l D AC b z L xs Gm  dX2_canHear_21 (by decide) rfl rfl rfl
theorem so_Land_canHear_22 : Snd l D AC b z L xs Gm j_Land_canHear 22 (oIld 1 23) := sn_iload_n l D AC b z L xs Gm  dX2_canHear_22 rfl
theorem so_Land_canHear_23 : Snd l D AC b z L xs Gm j_Land_canHear 23 (oCallS j_S_isIn 2 (mL j_S_isIn) 26) := sn_callSN l D AC b z L xs Gm  dX2_canHear_23 rfl (hs0 (fun _ => rfl) rfl) cal_Land_canHear_S_isIn rfl (List.mem_of_getElem? (i := 4) rfl) tw_475
theorem so_Land_canHear_26 : Snd l D AC b z L xs Gm j_Land_canHear 26 (oIf (fun x => decide (x = 0)) 33 29) := sn_if_eq l D AC b z L xs Gm  dX2_canHear_26 (by decide)
theorem so_Land_canHear_29 : Snd l D AC b z L xs Gm j_Land_canHear 29 (oI 1 30) := sn_iconst l D AC b z L xs Gm  dX2_canHear_29 (by decide)
theorem so_Land_canHear_30 : Snd l D AC b z L xs Gm j_Land_canHear 30 (oGo 34) := sn_goto l D AC b z L xs Gm  dX2_canHear_30 (by decide)
theorem so_Land_canHear_33 : Snd l D AC b z L xs Gm j_Land_canHear 33 (oI 0 34) := sn_iconst l D AC b z L xs Gm  dX2_canHear_33 (by decide)
theorem so_Land_canHear_34 : Snd l D AC b z L xs Gm j_Land_canHear 34 (oRetZ) := sn_retZ l D AC b z L xs Gm  dX2_canHear_34 rfl
set_option maxRecDepth 100000 in
theorem so_Land_canHear : ∀ q ∈ tb_Land_canHear, Snd l D AC b z L xs Gm j_Land_canHear q.1 q.2 := by
  unfold tb_Land_canHear
  exact List.forall_mem_cons.mpr ⟨so_Land_canHear_0 l D AC b z L xs, List.forall_mem_cons.mpr ⟨so_Land_canHear_1 l D AC b z L xs, List.forall_mem_cons.mpr ⟨so_Land_canHear_2 l D AC b z L xs, List.forall_mem_cons.mpr ⟨so_Land_canHear_5 l D AC b z L xs, List.forall_mem_cons.mpr ⟨so_Land_canHear_8 l D AC b z L xs, List.forall_mem_cons.mpr ⟨so_Land_canHear_9 l D AC b z L xs, List.forall_mem_cons.mpr ⟨so_Land_canHear_10 l D AC b z L xs, List.forall_mem_cons.mpr ⟨so_Land_canHear_13 l D AC b z L xs, List.forall_mem_cons.mpr ⟨so_Land_canHear_16 l D AC b z L xs, List.forall_mem_cons.mpr ⟨so_Land_canHear_17 l D AC b z L xs, List.forall_mem_cons.mpr ⟨so_Land_canHear_20 l D AC b z L xs, List.forall_mem_cons.mpr ⟨so_Land_canHear_21 l D AC b z L xs, List.forall_mem_cons.mpr ⟨so_Land_canHear_22 l D AC b z L xs, List.forall_mem_cons.mpr ⟨so_Land_canHear_23 l D AC b z L xs, List.forall_mem_cons.mpr ⟨so_Land_canHear_26 l D AC b z L xs, List.forall_mem_cons.mpr ⟨so_Land_canHear_29 l D AC b z L xs, List.forall_mem_cons.mpr ⟨so_Land_canHear_30 l D AC b z L xs, List.forall_mem_cons.mpr ⟨so_Land_canHear_33 l D AC b z L xs, List.forall_mem_cons.mpr ⟨so_Land_canHear_34 l D AC b z L xs, fun _ h => absurd h List.not_mem_nil⟩⟩⟩⟩⟩⟩⟩⟩⟩⟩⟩⟩⟩⟩⟩⟩⟩⟩⟩
theorem so_Land_areLinked_0 : Snd l D AC b z L xs Gm j_Land_areLinked 0 (oAld 0 1) := sn_aload_n l D AC b z L xs Gm  dX2_areLinked_0 rfl
theorem so_Land_areLinked_1 : Snd l D AC b z L xs Gm j_Land_areLinked 1 (oIld 1 2) := sn_iload_n l D AC b z L xs Gm  dX2_areLinked_1 rfl
theorem so_Land_areLinked_2 : Snd l D AC b z L xs Gm j_Land_areLinked 2 (oIld 2 3) := sn_iload_n l D AC b z L xs Gm  dX2_areLinked_2 rfl
theorem so_Land_areLinked_3 : Snd l D AC b z L xs Gm j_Land_areLinked 3 (oCallV kc_Land j_Land_canHear 2 (mL j_Land_canHear) 6) := sn_callV l D AC b z L xs Gm  dX2_areLinked_3 rfl (hs0 (fun _ => rfl) rfl) cal_Land_areLinked_Land_canHear rfl rfl (by decide) rfl tw_466 tw_467 tw_468
theorem so_Land_areLinked_6 : Snd l D AC b z L xs Gm j_Land_areLinked 6 (oIf (fun x => decide (x = 0)) 22 9) := sn_if_eq l D AC b z L xs Gm  dX2_areLinked_6 (by decide)
theorem so_Land_areLinked_9 : Snd l D AC b z L xs Gm j_Land_areLinked 9 (oAld 0 10) := sn_aload_n l D AC b z L xs Gm  dX2_areLinked_9 rfl
theorem so_Land_areLinked_10 : Snd l D AC b z L xs Gm j_Land_areLinked 10 (oIld 2 11) := sn_iload_n l D AC b z L xs Gm  dX2_areLinked_10 rfl
theorem so_Land_areLinked_11 : Snd l D AC b z L xs Gm j_Land_areLinked 11 (oIld 1 12) := sn_iload_n l D AC b z L xs Gm  dX2_areLinked_11 rfl
theorem so_Land_areLinked_12 : Snd l D AC b z L xs Gm j_Land_areLinked 12 (oCallV kc_Land j_Land_canHear 2 (mL j_Land_canHear) 15) := sn_callV l D AC b z L xs Gm  dX2_areLinked_12 rfl (hs0 (fun _ => rfl) rfl) cal_Land_areLinked_Land_canHear rfl rfl (by decide) rfl tw_466 tw_467 tw_468
theorem so_Land_areLinked_15 : Snd l D AC b z L xs Gm j_Land_areLinked 15 (oIf (fun x => decide (x = 0)) 22 18) := sn_if_eq l D AC b z L xs Gm  dX2_areLinked_15 (by decide)
theorem so_Land_areLinked_18 : Snd l D AC b z L xs Gm j_Land_areLinked 18 (oI 1 19) := sn_iconst l D AC b z L xs Gm  dX2_areLinked_18 (by decide)
theorem so_Land_areLinked_19 : Snd l D AC b z L xs Gm j_Land_areLinked 19 (oGo 23) := sn_goto l D AC b z L xs Gm  dX2_areLinked_19 (by decide)
theorem so_Land_areLinked_22 : Snd l D AC b z L xs Gm j_Land_areLinked 22 (oI 0 23) := sn_iconst l D AC b z L xs Gm  dX2_areLinked_22 (by decide)
theorem so_Land_areLinked_23 : Snd l D AC b z L xs Gm j_Land_areLinked 23 (oRetZ) := sn_retZ l D AC b z L xs Gm  dX2_areLinked_23 rfl
set_option maxRecDepth 100000 in
theorem so_Land_areLinked : ∀ q ∈ tb_Land_areLinked, Snd l D AC b z L xs Gm j_Land_areLinked q.1 q.2 := by
  unfold tb_Land_areLinked
  exact List.forall_mem_cons.mpr ⟨so_Land_areLinked_0 l D AC b z L xs, List.forall_mem_cons.mpr ⟨so_Land_areLinked_1 l D AC b z L xs, List.forall_mem_cons.mpr ⟨so_Land_areLinked_2 l D AC b z L xs, List.forall_mem_cons.mpr ⟨so_Land_areLinked_3 l D AC b z L xs, List.forall_mem_cons.mpr ⟨so_Land_areLinked_6 l D AC b z L xs, List.forall_mem_cons.mpr ⟨so_Land_areLinked_9 l D AC b z L xs, List.forall_mem_cons.mpr ⟨so_Land_areLinked_10 l D AC b z L xs, List.forall_mem_cons.mpr ⟨so_Land_areLinked_11 l D AC b z L xs, List.forall_mem_cons.mpr ⟨so_Land_areLinked_12 l D AC b z L xs, List.forall_mem_cons.mpr ⟨so_Land_areLinked_15 l D AC b z L xs, List.forall_mem_cons.mpr ⟨so_Land_areLinked_18 l D AC b z L xs, List.forall_mem_cons.mpr ⟨so_Land_areLinked_19 l D AC b z L xs, List.forall_mem_cons.mpr ⟨so_Land_areLinked_22 l D AC b z L xs, List.forall_mem_cons.mpr ⟨so_Land_areLinked_23 l D AC b z L xs, fun _ h => absurd h List.not_mem_nil⟩⟩⟩⟩⟩⟩⟩⟩⟩⟩⟩⟩⟩⟩
theorem so_Land_linkedWith_0 : Snd l D AC b z L xs Gm j_Land_linkedWith 0 (oI 0 1) := sn_iconst l D AC b z L xs Gm  dX2_linkedWith_0 (by decide)
theorem so_Land_linkedWith_1 : Snd l D AC b z L xs Gm j_Land_linkedWith 1 (oIst 2 2) := sn_istore_n l D AC b z L xs Gm  dX2_linkedWith_1 rfl (by decide)
theorem so_Land_linkedWith_2 : Snd l D AC b z L xs Gm j_Land_linkedWith 2 (oI 0 3) := sn_iconst l D AC b z L xs Gm  dX2_linkedWith_2 (by decide)
theorem so_Land_linkedWith_3 : Snd l D AC b z L xs Gm j_Land_linkedWith 3 (oIst 3 4) := sn_istore_n l D AC b z L xs Gm  dX2_linkedWith_3 rfl (by decide)
theorem so_Land_linkedWith_4 : Snd l D AC b z L xs Gm j_Land_linkedWith 4 (oIld 3 5) := sn_iload_n l D AC b z L xs Gm  dX2_linkedWith_4 rfl
theorem so_Land_linkedWith_5 : Snd l D AC b z L xs Gm j_Land_linkedWith 5 (oAld 0 6) := sn_aload_n l D AC b z L xs Gm  dX2_linkedWith_5 rfl
theorem so_Land_linkedWith_6 : Snd l D AC b z L xs Gm j_Land_linkedWith 6 (oGetI kc_Land 2 9) := sn_getI l D AC b z L xs Gm  dX2_linkedWith_6 rfl (by decide) rfl (by decide) kin_2 tw_210
theorem so_Land_linkedWith_9 : Snd l D AC b z L xs Gm j_Land_linkedWith 9 (oIC (fun x y => decide (y ≤ x)) 33 12) := sn_icmp_ge l D AC b z L xs Gm  dX2_linkedWith_9 (by decide)
theorem so_Land_linkedWith_12 : Snd l D AC b z L xs Gm j_Land_linkedWith 12 (oAld 0 13) := sn_aload_n l D AC b z L xs Gm  dX2_linkedWith_12 rfl
theorem so_Land_linkedWith_13 : Snd l D AC b z L xs Gm j_Land_linkedWith 13 (oIld 1 14) := sn_iload_n l D AC b z L xs Gm  dX2_linkedWith_13 rfl
theorem so_Land_linkedWith_14 : Snd l D AC b z L xs Gm j_Land_linkedWith 14 (oIld 3 15) := sn_iload_n l D AC b z L xs Gm  dX2_linkedWith_14 rfl
theorem so_Land_linkedWith_15 : Snd l D AC b z L xs Gm j_Land_linkedWith 15 (oCallV kc_Land j_Land_areLinked 2 (mL j_Land_areLinked) 18) := sn_callV l D AC b z L xs Gm  dX2_linkedWith_15 rfl (hs0 (fun _ => rfl) rfl) cal_Land_linkedWith_Land_areLinked rfl rfl (by decide) rfl tw_520 tw_463 tw_464
theorem so_Land_linkedWith_18 : Snd l D AC b z L xs Gm j_Land_linkedWith 18 (oIf (fun x => decide (x = 0)) 27 21) := sn_if_eq l D AC b z L xs Gm  dX2_linkedWith_18 (by decide)
theorem so_Land_linkedWith_21 : Snd l D AC b z L xs Gm j_Land_linkedWith 21 (oIld 2 22) := sn_iload_n l D AC b z L xs Gm  dX2_linkedWith_21 rfl
theorem so_Land_linkedWith_22 : Snd l D AC b z L xs Gm j_Land_linkedWith 22 (oI 1 23) := sn_iconst l D AC b z L xs Gm  dX2_linkedWith_22 (by decide)
theorem so_Land_linkedWith_23 : Snd l D AC b z L xs Gm j_Land_linkedWith 23 (oIld 3 24) := sn_iload_n l D AC b z L xs Gm  dX2_linkedWith_23 rfl
theorem so_Land_linkedWith_24 : Snd l D AC b z L xs Gm j_Land_linkedWith 24 (oII (fun x y => x <<< (y &&& 31)) 25) := sn_ishl l D AC b z L xs Gm  dX2_linkedWith_24
theorem so_Land_linkedWith_25 : Snd l D AC b z L xs Gm j_Land_linkedWith 25 (oII (fun x y => x ||| y) 26) := sn_ior l D AC b z L xs Gm  dX2_linkedWith_25
theorem so_Land_linkedWith_26 : Snd l D AC b z L xs Gm j_Land_linkedWith 26 (oIst 2 27) := sn_istore_n l D AC b z L xs Gm  dX2_linkedWith_26 rfl (by decide)
theorem so_Land_linkedWith_27 : Snd l D AC b z L xs Gm j_Land_linkedWith 27 (oInc 3 1 30) := sn_iinc l D AC b z L xs Gm  dX2_linkedWith_27 (by decide) (by decide)
theorem so_Land_linkedWith_30 : Snd l D AC b z L xs Gm j_Land_linkedWith 30 (oGo 4) := sn_goto l D AC b z L xs Gm  dX2_linkedWith_30 (by decide)
theorem so_Land_linkedWith_33 : Snd l D AC b z L xs Gm j_Land_linkedWith 33 (oIld 2 34) := sn_iload_n l D AC b z L xs Gm  dX2_linkedWith_33 rfl
theorem so_Land_linkedWith_34 : Snd l D AC b z L xs Gm j_Land_linkedWith 34 (oRetI) := sn_retI l D AC b z L xs Gm  dX2_linkedWith_34 rfl
set_option maxRecDepth 100000 in
theorem so_Land_linkedWith : ∀ q ∈ tb_Land_linkedWith, Snd l D AC b z L xs Gm j_Land_linkedWith q.1 q.2 := by
  unfold tb_Land_linkedWith
  exact List.forall_mem_cons.mpr ⟨so_Land_linkedWith_0 l D AC b z L xs, List.forall_mem_cons.mpr ⟨so_Land_linkedWith_1 l D AC b z L xs, List.forall_mem_cons.mpr ⟨so_Land_linkedWith_2 l D AC b z L xs, List.forall_mem_cons.mpr ⟨so_Land_linkedWith_3 l D AC b z L xs, List.forall_mem_cons.mpr ⟨so_Land_linkedWith_4 l D AC b z L xs, List.forall_mem_cons.mpr ⟨so_Land_linkedWith_5 l D AC b z L xs, List.forall_mem_cons.mpr ⟨so_Land_linkedWith_6 l D AC b z L xs, List.forall_mem_cons.mpr ⟨so_Land_linkedWith_9 l D AC b z L xs, List.forall_mem_cons.mpr ⟨so_Land_linkedWith_12 l D AC b z L xs, List.forall_mem_cons.mpr ⟨so_Land_linkedWith_13 l D AC b z L xs, List.forall_mem_cons.mpr ⟨so_Land_linkedWith_14 l D AC b z L xs, List.forall_mem_cons.mpr ⟨so_Land_linkedWith_15 l D AC b z L xs, List.forall_mem_cons.mpr ⟨so_Land_linkedWith_18 l D AC b z L xs, List.forall_mem_cons.mpr ⟨so_Land_linkedWith_21 l D AC b z L xs, List.forall_mem_cons.mpr ⟨so_Land_linkedWith_22 l D AC b z L xs, List.forall_mem_cons.mpr ⟨so_Land_linkedWith_23 l D AC b z L xs, List.forall_mem_cons.mpr ⟨so_Land_linkedWith_24 l D AC b z L xs, List.forall_mem_cons.mpr ⟨so_Land_linkedWith_25 l D AC b z L xs, List.forall_mem_cons.mpr ⟨so_Land_linkedWith_26 l D AC b z L xs, List.forall_mem_cons.mpr ⟨so_Land_linkedWith_27 l D AC b z L xs, List.forall_mem_cons.mpr ⟨so_Land_linkedWith_30 l D AC b z L xs, List.forall_mem_cons.mpr ⟨so_Land_linkedWith_33 l D AC b z L xs, List.forall_mem_cons.mpr ⟨so_Land_linkedWith_34 l D AC b z L xs, fun _ h => absurd h List.not_mem_nil⟩⟩⟩⟩⟩⟩⟩⟩⟩⟩⟩⟩⟩⟩⟩⟩⟩⟩⟩⟩⟩⟩⟩
theorem so_Land_hearsOneOf_0 : Snd l D AC b z L xs Gm j_Land_hearsOneOf 0 (oI 0 1) := sn_iconst l D AC b z L xs Gm  dX2_hearsOneOf_0 (by decide)
theorem so_Land_hearsOneOf_1 : Snd l D AC b z L xs Gm j_Land_hearsOneOf 1 (oIst 3 2) := sn_istore_n l D AC b z L xs Gm  dX2_hearsOneOf_1 rfl (by decide)
theorem so_Land_hearsOneOf_2 : Snd l D AC b z L xs Gm j_Land_hearsOneOf 2 (oIld 3 3) := sn_iload_n l D AC b z L xs Gm  dX2_hearsOneOf_2 rfl
theorem so_Land_hearsOneOf_3 : Snd l D AC b z L xs Gm j_Land_hearsOneOf 3 (oAld 0 4) := sn_aload_n l D AC b z L xs Gm  dX2_hearsOneOf_3 rfl
theorem so_Land_hearsOneOf_4 : Snd l D AC b z L xs Gm j_Land_hearsOneOf 4 (oGetI kc_Land 2 7) := sn_getI l D AC b z L xs Gm  dX2_hearsOneOf_4 rfl (by decide) rfl (by decide) kin_2 tw_210
theorem so_Land_hearsOneOf_7 : Snd l D AC b z L xs Gm j_Land_hearsOneOf 7 (oIC (fun x y => decide (y ≤ x)) 35 10) := sn_icmp_ge l D AC b z L xs Gm  dX2_hearsOneOf_7 (by decide)
theorem so_Land_hearsOneOf_10 : Snd l D AC b z L xs Gm j_Land_hearsOneOf 10 (oIld 2 11) := sn_iload_n l D AC b z L xs Gm  dX2_hearsOneOf_10 rfl
theorem so_Land_hearsOneOf_11 : Snd l D AC b z L xs Gm j_Land_hearsOneOf 11 (oIld 3 12) := sn_iload_n l D AC b z L xs Gm  dX2_hearsOneOf_11 rfl
theorem so_Land_hearsOneOf_12 : Snd l D AC b z L xs Gm j_Land_hearsOneOf 12 (oCallS j_S_isIn 2 (mL j_S_isIn) 15) := sn_callSN l D AC b z L xs Gm  dX2_hearsOneOf_12 rfl (hs0 (fun _ => rfl) rfl) cal_Land_hearsOneOf_S_isIn rfl (List.mem_of_getElem? (i := 4) rfl) tw_475
theorem so_Land_hearsOneOf_15 : Snd l D AC b z L xs Gm j_Land_hearsOneOf 15 (oIf (fun x => decide (x = 0)) 29 18) := sn_if_eq l D AC b z L xs Gm  dX2_hearsOneOf_15 (by decide)
theorem so_Land_hearsOneOf_18 : Snd l D AC b z L xs Gm j_Land_hearsOneOf 18 (oAld 0 19) := sn_aload_n l D AC b z L xs Gm  dX2_hearsOneOf_18 rfl
theorem so_Land_hearsOneOf_19 : Snd l D AC b z L xs Gm j_Land_hearsOneOf 19 (oIld 1 20) := sn_iload_n l D AC b z L xs Gm  dX2_hearsOneOf_19 rfl
theorem so_Land_hearsOneOf_20 : Snd l D AC b z L xs Gm j_Land_hearsOneOf 20 (oIld 3 21) := sn_iload_n l D AC b z L xs Gm  dX2_hearsOneOf_20 rfl
theorem so_Land_hearsOneOf_21 : Snd l D AC b z L xs Gm j_Land_hearsOneOf 21 (oCallV kc_Land j_Land_canHear 2 (mL j_Land_canHear) 24) := sn_callV l D AC b z L xs Gm  dX2_hearsOneOf_21 rfl (hs0 (fun _ => rfl) rfl) cal_Land_hearsOneOf_Land_canHear rfl rfl (by decide) rfl tw_466 tw_467 tw_468
theorem so_Land_hearsOneOf_24 : Snd l D AC b z L xs Gm j_Land_hearsOneOf 24 (oIf (fun x => decide (x = 0)) 29 27) := sn_if_eq l D AC b z L xs Gm  dX2_hearsOneOf_24 (by decide)
theorem so_Land_hearsOneOf_27 : Snd l D AC b z L xs Gm j_Land_hearsOneOf 27 (oI 1 28) := sn_iconst l D AC b z L xs Gm  dX2_hearsOneOf_27 (by decide)
theorem so_Land_hearsOneOf_28 : Snd l D AC b z L xs Gm j_Land_hearsOneOf 28 (oRetZ) := sn_retZ l D AC b z L xs Gm  dX2_hearsOneOf_28 rfl
theorem so_Land_hearsOneOf_29 : Snd l D AC b z L xs Gm j_Land_hearsOneOf 29 (oInc 3 1 32) := sn_iinc l D AC b z L xs Gm  dX2_hearsOneOf_29 (by decide) (by decide)
theorem so_Land_hearsOneOf_32 : Snd l D AC b z L xs Gm j_Land_hearsOneOf 32 (oGo 2) := sn_goto l D AC b z L xs Gm  dX2_hearsOneOf_32 (by decide)
theorem so_Land_hearsOneOf_35 : Snd l D AC b z L xs Gm j_Land_hearsOneOf 35 (oI 0 36) := sn_iconst l D AC b z L xs Gm  dX2_hearsOneOf_35 (by decide)
theorem so_Land_hearsOneOf_36 : Snd l D AC b z L xs Gm j_Land_hearsOneOf 36 (oRetZ) := sn_retZ l D AC b z L xs Gm  dX2_hearsOneOf_36 rfl
set_option maxRecDepth 100000 in
theorem so_Land_hearsOneOf : ∀ q ∈ tb_Land_hearsOneOf, Snd l D AC b z L xs Gm j_Land_hearsOneOf q.1 q.2 := by
  unfold tb_Land_hearsOneOf
  exact List.forall_mem_cons.mpr ⟨so_Land_hearsOneOf_0 l D AC b z L xs, List.forall_mem_cons.mpr ⟨so_Land_hearsOneOf_1 l D AC b z L xs, List.forall_mem_cons.mpr ⟨so_Land_hearsOneOf_2 l D AC b z L xs, List.forall_mem_cons.mpr ⟨so_Land_hearsOneOf_3 l D AC b z L xs, List.forall_mem_cons.mpr ⟨so_Land_hearsOneOf_4 l D AC b z L xs, List.forall_mem_cons.mpr ⟨so_Land_hearsOneOf_7 l D AC b z L xs, List.forall_mem_cons.mpr ⟨so_Land_hearsOneOf_10 l D AC b z L xs, List.forall_mem_cons.mpr ⟨so_Land_hearsOneOf_11 l D AC b z L xs, List.forall_mem_cons.mpr ⟨so_Land_hearsOneOf_12 l D AC b z L xs, List.forall_mem_cons.mpr ⟨so_Land_hearsOneOf_15 l D AC b z L xs, List.forall_mem_cons.mpr ⟨so_Land_hearsOneOf_18 l D AC b z L xs, List.forall_mem_cons.mpr ⟨so_Land_hearsOneOf_19 l D AC b z L xs, List.forall_mem_cons.mpr ⟨so_Land_hearsOneOf_20 l D AC b z L xs, List.forall_mem_cons.mpr ⟨so_Land_hearsOneOf_21 l D AC b z L xs, List.forall_mem_cons.mpr ⟨so_Land_hearsOneOf_24 l D AC b z L xs, List.forall_mem_cons.mpr ⟨so_Land_hearsOneOf_27 l D AC b z L xs, List.forall_mem_cons.mpr ⟨so_Land_hearsOneOf_28 l D AC b z L xs, List.forall_mem_cons.mpr ⟨so_Land_hearsOneOf_29 l D AC b z L xs, List.forall_mem_cons.mpr ⟨so_Land_hearsOneOf_32 l D AC b z L xs, List.forall_mem_cons.mpr ⟨so_Land_hearsOneOf_35 l D AC b z L xs, List.forall_mem_cons.mpr ⟨so_Land_hearsOneOf_36 l D AC b z L xs, fun _ h => absurd h List.not_mem_nil⟩⟩⟩⟩⟩⟩⟩⟩⟩⟩⟩⟩⟩⟩⟩⟩⟩⟩⟩⟩⟩
theorem so_Land_gets_0 : Snd l D AC b z L xs Gm j_Land_gets 0 (oIld 3 1) := sn_iload_n l D AC b z L xs Gm  dX2_gets_0 rfl
theorem so_Land_gets_1 : Snd l D AC b z L xs Gm j_Land_gets 1 (oIld 1 2) := sn_iload_n l D AC b z L xs Gm  dX2_gets_1 rfl
theorem so_Land_gets_2 : Snd l D AC b z L xs Gm j_Land_gets 2 (oCallS j_S_isIn 2 (mL j_S_isIn) 5) := sn_callSN l D AC b z L xs Gm  dX2_gets_2 rfl (hs0 (fun _ => rfl) rfl) cal_Land_gets_S_isIn rfl (List.mem_of_getElem? (i := 4) rfl) tw_475
theorem so_Land_gets_5 : Snd l D AC b z L xs Gm j_Land_gets 5 (oIf (fun x => decide (¬ x = 0)) 17 8) := sn_if_ne l D AC b z L xs Gm  dX2_gets_5 (by decide)
theorem so_Land_gets_8 : Snd l D AC b z L xs Gm j_Land_gets 8 (oAld 0 9) := sn_aload_n l D AC b z L xs Gm  dX2_gets_8 rfl
theorem so_Land_gets_9 : Snd l D AC b z L xs Gm j_Land_gets 9 (oIld 1 10) := sn_iload_n l D AC b z L xs Gm  dX2_gets_9 rfl
theorem so_Land_gets_10 : Snd l D AC b z L xs Gm j_Land_gets 10 (oIld 2 11) := sn_iload_n l D AC b z L xs Gm  dX2_gets_10 rfl
theorem so_Land_gets_11 : Snd l D AC b z L xs Gm j_Land_gets 11 (oCallV kc_Land j_Land_canHear 2 (mL j_Land_canHear) 14) := sn_callV l D AC b z L xs Gm  dX2_gets_11 rfl (hs0 (fun _ => rfl) rfl) cal_Land_gets_Land_canHear rfl rfl (by decide) rfl tw_466 tw_467 tw_468
theorem so_Land_gets_14 : Snd l D AC b z L xs Gm j_Land_gets 14 (oIf (fun x => decide (¬ x = 0)) 19 17) := sn_if_ne l D AC b z L xs Gm  dX2_gets_14 (by decide)
theorem so_Land_gets_17 : Snd l D AC b z L xs Gm j_Land_gets 17 (oI 0 18) := sn_iconst l D AC b z L xs Gm  dX2_gets_17 (by decide)
theorem so_Land_gets_18 : Snd l D AC b z L xs Gm j_Land_gets 18 (oRetZ) := sn_retZ l D AC b z L xs Gm  dX2_gets_18 rfl
theorem so_Land_gets_19 : Snd l D AC b z L xs Gm j_Land_gets 19 (oI 4 20) := sn_iconst l D AC b z L xs Gm  dX2_gets_19 (by decide)
theorem so_Land_gets_20 : Snd l D AC b z L xs Gm j_Land_gets 20 (oAld 0 21) := sn_aload_n l D AC b z L xs Gm  dX2_gets_20 rfl
theorem so_Land_gets_21 : Snd l D AC b z L xs Gm j_Land_gets 21 (oIld 2 22) := sn_iload_n l D AC b z L xs Gm  dX2_gets_21 rfl
theorem so_Land_gets_22 : Snd l D AC b z L xs Gm j_Land_gets 22 (oIld 1 23) := sn_iload_n l D AC b z L xs Gm  dX2_gets_22 rfl
theorem so_Land_gets_23 : Snd l D AC b z L xs Gm j_Land_gets 23 (oCallV kc_Land j_Land_far 2 (mL j_Land_far) 26) := sn_callV l D AC b z L xs Gm  dX2_gets_23 rfl (hs0 (fun _ => rfl) rfl) cal_Land_gets_Land_far rfl rfl (by decide) rfl tw_445 tw_446 tw_447
theorem so_Land_gets_26 : Snd l D AC b z L xs Gm j_Land_gets 26 (oII (fun x y => x * y) 27) := sn_imul l D AC b z L xs Gm  dX2_gets_26
theorem so_Land_gets_27 : Snd l D AC b z L xs Gm j_Land_gets 27 (oIst 4 29) := sn_istore l D AC b z L xs Gm  dX2_gets_27 (by decide)
theorem so_Land_gets_29 : Snd l D AC b z L xs Gm j_Land_gets 29 (oI 0 30) := sn_iconst l D AC b z L xs Gm  dX2_gets_29 (by decide)
theorem so_Land_gets_30 : Snd l D AC b z L xs Gm j_Land_gets 30 (oIst 5 32) := sn_istore l D AC b z L xs Gm  dX2_gets_30 (by decide)
theorem so_Land_gets_32 : Snd l D AC b z L xs Gm j_Land_gets 32 (oIld 5 34) := sn_iload l D AC b z L xs Gm  dX2_gets_32
theorem so_Land_gets_34 : Snd l D AC b z L xs Gm j_Land_gets 34 (oAld 0 35) := sn_aload_n l D AC b z L xs Gm  dX2_gets_34 rfl
theorem so_Land_gets_35 : Snd l D AC b z L xs Gm j_Land_gets 35 (oGetI kc_Land 2 38) := sn_getI l D AC b z L xs Gm  dX2_gets_35 rfl (by decide) rfl (by decide) kin_2 tw_210
theorem so_Land_gets_38 : Snd l D AC b z L xs Gm j_Land_gets 38 (oIC (fun x y => decide (y ≤ x)) 98 41) := sn_icmp_ge l D AC b z L xs Gm  dX2_gets_38 (by decide)
theorem so_Land_gets_41 : Snd l D AC b z L xs Gm j_Land_gets 41 (oIld 5 43) := sn_iload l D AC b z L xs Gm  dX2_gets_41
theorem so_Land_gets_43 : Snd l D AC b z L xs Gm j_Land_gets 43 (oIld 2 44) := sn_iload_n l D AC b z L xs Gm  dX2_gets_43 rfl
theorem so_Land_gets_44 : Snd l D AC b z L xs Gm j_Land_gets 44 (oIC (fun x y => decide (x = y)) 70 47) := sn_icmp_eq l D AC b z L xs Gm  dX2_gets_44 (by decide)
theorem so_Land_gets_47 : Snd l D AC b z L xs Gm j_Land_gets 47 (oIld 3 48) := sn_iload_n l D AC b z L xs Gm  dX2_gets_47 rfl
theorem so_Land_gets_48 : Snd l D AC b z L xs Gm j_Land_gets 48 (oIld 5 50) := sn_iload l D AC b z L xs Gm  dX2_gets_48
theorem so_Land_gets_50 : Snd l D AC b z L xs Gm j_Land_gets 50 (oCallS j_S_isIn 2 (mL j_S_isIn) 53) := sn_callSN l D AC b z L xs Gm  dX2_gets_50 rfl (hs0 (fun _ => rfl) rfl) cal_Land_gets_S_isIn rfl (List.mem_of_getElem? (i := 4) rfl) tw_475
theorem so_Land_gets_53 : Snd l D AC b z L xs Gm j_Land_gets 53 (oIf (fun x => decide (x = 0)) 70 56) := sn_if_eq l D AC b z L xs Gm  dX2_gets_53 (by decide)
theorem so_Land_gets_56 : Snd l D AC b z L xs Gm j_Land_gets 56 (oAld 0 57) := sn_aload_n l D AC b z L xs Gm  dX2_gets_56 rfl
theorem so_Land_gets_57 : Snd l D AC b z L xs Gm j_Land_gets 57 (oIld 1 58) := sn_iload_n l D AC b z L xs Gm  dX2_gets_57 rfl
theorem so_Land_gets_58 : Snd l D AC b z L xs Gm j_Land_gets 58 (oIld 5 60) := sn_iload l D AC b z L xs Gm  dX2_gets_58
theorem so_Land_gets_60 : Snd l D AC b z L xs Gm j_Land_gets 60 (oCallV kc_Land j_Land_canHear 2 (mL j_Land_canHear) 63) := sn_callV l D AC b z L xs Gm  dX2_gets_60 rfl (hs0 (fun _ => rfl) rfl) cal_Land_gets_Land_canHear rfl rfl (by decide) rfl tw_466 tw_467 tw_468
theorem so_Land_gets_63 : Snd l D AC b z L xs Gm j_Land_gets 63 (oIf (fun x => decide (x = 0)) 70 66) := sn_if_eq l D AC b z L xs Gm  dX2_gets_63 (by decide)
theorem so_Land_gets_66 : Snd l D AC b z L xs Gm j_Land_gets 66 (oI 1 67) := sn_iconst l D AC b z L xs Gm  dX2_gets_66 (by decide)
theorem so_Land_gets_67 : Snd l D AC b z L xs Gm j_Land_gets 67 (oGo 71) := sn_goto l D AC b z L xs Gm  dX2_gets_67 (by decide)
theorem so_Land_gets_70 : Snd l D AC b z L xs Gm j_Land_gets 70 (oI 0 71) := sn_iconst l D AC b z L xs Gm  dX2_gets_70 (by decide)
theorem so_Land_gets_71 : Snd l D AC b z L xs Gm j_Land_gets 71 (oIst 6 73) := sn_istore l D AC b z L xs Gm  dX2_gets_71 (by decide)
theorem so_Land_gets_73 : Snd l D AC b z L xs Gm j_Land_gets 73 (oIld 6 75) := sn_iload l D AC b z L xs Gm  dX2_gets_73
theorem so_Land_gets_75 : Snd l D AC b z L xs Gm j_Land_gets 75 (oIf (fun x => decide (x = 0)) 92 78) := sn_if_eq l D AC b z L xs Gm  dX2_gets_75 (by decide)
theorem so_Land_gets_78 : Snd l D AC b z L xs Gm j_Land_gets 78 (oIld 4 80) := sn_iload l D AC b z L xs Gm  dX2_gets_78
theorem so_Land_gets_80 : Snd l D AC b z L xs Gm j_Land_gets 80 (oAld 0 81) := sn_aload_n l D AC b z L xs Gm  dX2_gets_80 rfl
theorem so_Land_gets_81 : Snd l D AC b z L xs Gm j_Land_gets 81 (oIld 5 83) := sn_iload l D AC b z L xs Gm  dX2_gets_81
theorem so_Land_gets_83 : Snd l D AC b z L xs Gm j_Land_gets 83 (oIld 1 84) := sn_iload_n l D AC b z L xs Gm  dX2_gets_83 rfl
theorem so_Land_gets_84 : Snd l D AC b z L xs Gm j_Land_gets 84 (oCallV kc_Land j_Land_far 2 (mL j_Land_far) 87) := sn_callV l D AC b z L xs Gm  dX2_gets_84 rfl (hs0 (fun _ => rfl) rfl) cal_Land_gets_Land_far rfl rfl (by decide) rfl tw_445 tw_446 tw_447
theorem so_Land_gets_87 : Snd l D AC b z L xs Gm j_Land_gets 87 (oIC (fun x y => decide (x ≤ y)) 92 90) := sn_icmp_le l D AC b z L xs Gm  dX2_gets_87 (by decide)
theorem so_Land_gets_90 : Snd l D AC b z L xs Gm j_Land_gets 90 (oI 0 91) := sn_iconst l D AC b z L xs Gm  dX2_gets_90 (by decide)
theorem so_Land_gets_91 : Snd l D AC b z L xs Gm j_Land_gets 91 (oRetZ) := sn_retZ l D AC b z L xs Gm  dX2_gets_91 rfl
theorem so_Land_gets_92 : Snd l D AC b z L xs Gm j_Land_gets 92 (oInc 5 1 95) := sn_iinc l D AC b z L xs Gm  dX2_gets_92 (by decide) (by decide)
theorem so_Land_gets_95 : Snd l D AC b z L xs Gm j_Land_gets 95 (oGo 32) := sn_goto l D AC b z L xs Gm  dX2_gets_95 (by decide)
theorem so_Land_gets_98 : Snd l D AC b z L xs Gm j_Land_gets 98 (oI 1 99) := sn_iconst l D AC b z L xs Gm  dX2_gets_98 (by decide)
theorem so_Land_gets_99 : Snd l D AC b z L xs Gm j_Land_gets 99 (oRetZ) := sn_retZ l D AC b z L xs Gm  dX2_gets_99 rfl
set_option maxRecDepth 100000 in
theorem so_Land_gets : ∀ q ∈ tb_Land_gets, Snd l D AC b z L xs Gm j_Land_gets q.1 q.2 := by
  unfold tb_Land_gets
  exact List.forall_mem_cons.mpr ⟨so_Land_gets_0 l D AC b z L xs, List.forall_mem_cons.mpr ⟨so_Land_gets_1 l D AC b z L xs, List.forall_mem_cons.mpr ⟨so_Land_gets_2 l D AC b z L xs, List.forall_mem_cons.mpr ⟨so_Land_gets_5 l D AC b z L xs, List.forall_mem_cons.mpr ⟨so_Land_gets_8 l D AC b z L xs, List.forall_mem_cons.mpr ⟨so_Land_gets_9 l D AC b z L xs, List.forall_mem_cons.mpr ⟨so_Land_gets_10 l D AC b z L xs, List.forall_mem_cons.mpr ⟨so_Land_gets_11 l D AC b z L xs, List.forall_mem_cons.mpr ⟨so_Land_gets_14 l D AC b z L xs, List.forall_mem_cons.mpr ⟨so_Land_gets_17 l D AC b z L xs, List.forall_mem_cons.mpr ⟨so_Land_gets_18 l D AC b z L xs, List.forall_mem_cons.mpr ⟨so_Land_gets_19 l D AC b z L xs, List.forall_mem_cons.mpr ⟨so_Land_gets_20 l D AC b z L xs, List.forall_mem_cons.mpr ⟨so_Land_gets_21 l D AC b z L xs, List.forall_mem_cons.mpr ⟨so_Land_gets_22 l D AC b z L xs, List.forall_mem_cons.mpr ⟨so_Land_gets_23 l D AC b z L xs, List.forall_mem_cons.mpr ⟨so_Land_gets_26 l D AC b z L xs, List.forall_mem_cons.mpr ⟨so_Land_gets_27 l D AC b z L xs, List.forall_mem_cons.mpr ⟨so_Land_gets_29 l D AC b z L xs, List.forall_mem_cons.mpr ⟨so_Land_gets_30 l D AC b z L xs, List.forall_mem_cons.mpr ⟨so_Land_gets_32 l D AC b z L xs, List.forall_mem_cons.mpr ⟨so_Land_gets_34 l D AC b z L xs, List.forall_mem_cons.mpr ⟨so_Land_gets_35 l D AC b z L xs, List.forall_mem_cons.mpr ⟨so_Land_gets_38 l D AC b z L xs, List.forall_mem_cons.mpr ⟨so_Land_gets_41 l D AC b z L xs, List.forall_mem_cons.mpr ⟨so_Land_gets_43 l D AC b z L xs, List.forall_mem_cons.mpr ⟨so_Land_gets_44 l D AC b z L xs, List.forall_mem_cons.mpr ⟨so_Land_gets_47 l D AC b z L xs, List.forall_mem_cons.mpr ⟨so_Land_gets_48 l D AC b z L xs, List.forall_mem_cons.mpr ⟨so_Land_gets_50 l D AC b z L xs, List.forall_mem_cons.mpr ⟨so_Land_gets_53 l D AC b z L xs, List.forall_mem_cons.mpr ⟨so_Land_gets_56 l D AC b z L xs, List.forall_mem_cons.mpr ⟨so_Land_gets_57 l D AC b z L xs, List.forall_mem_cons.mpr ⟨so_Land_gets_58 l D AC b z L xs, List.forall_mem_cons.mpr ⟨so_Land_gets_60 l D AC b z L xs, List.forall_mem_cons.mpr ⟨so_Land_gets_63 l D AC b z L xs, List.forall_mem_cons.mpr ⟨so_Land_gets_66 l D AC b z L xs, List.forall_mem_cons.mpr ⟨so_Land_gets_67 l D AC b z L xs, List.forall_mem_cons.mpr ⟨so_Land_gets_70 l D AC b z L xs, List.forall_mem_cons.mpr ⟨so_Land_gets_71 l D AC b z L xs, List.forall_mem_cons.mpr ⟨so_Land_gets_73 l D AC b z L xs, List.forall_mem_cons.mpr ⟨so_Land_gets_75 l D AC b z L xs, List.forall_mem_cons.mpr ⟨so_Land_gets_78 l D AC b z L xs, List.forall_mem_cons.mpr ⟨so_Land_gets_80 l D AC b z L xs, List.forall_mem_cons.mpr ⟨so_Land_gets_81 l D AC b z L xs, List.forall_mem_cons.mpr ⟨so_Land_gets_83 l D AC b z L xs, List.forall_mem_cons.mpr ⟨so_Land_gets_84 l D AC b z L xs, List.forall_mem_cons.mpr ⟨so_Land_gets_87 l D AC b z L xs, List.forall_mem_cons.mpr ⟨so_Land_gets_90 l D AC b z L xs, List.forall_mem_cons.mpr ⟨so_Land_gets_91 l D AC b z L xs, List.forall_mem_cons.mpr ⟨so_Land_gets_92 l D AC b z L xs, List.forall_mem_cons.mpr ⟨so_Land_gets_95 l D AC b z L xs, List.forall_mem_cons.mpr ⟨so_Land_gets_98 l D AC b z L xs, List.forall_mem_cons.mpr ⟨so_Land_gets_99 l D AC b z L xs, fun _ h => absurd h List.not_mem_nil⟩⟩⟩⟩⟩⟩⟩⟩⟩⟩⟩⟩⟩⟩⟩⟩⟩⟩⟩⟩⟩⟩⟩⟩⟩⟩⟩⟩⟩⟩⟩⟩⟩⟩⟩⟩⟩⟩⟩⟩⟩⟩⟩⟩⟩⟩⟩⟩⟩⟩⟩⟩⟩⟩
theorem so_Land_framesInQueues_0 : Snd l D AC b z L xs Gm j_Land_framesInQueues 0 (oI 0 1) := sn_iconst l D AC b z L xs Gm  dX2_framesInQueues_0 (by decide)
theorem so_Land_framesInQueues_1 : Snd l D AC b z L xs Gm j_Land_framesInQueues 1 (oIst 1 2) := sn_istore_n l D AC b z L xs Gm  dX2_framesInQueues_1 rfl (by decide)
theorem so_Land_framesInQueues_2 : Snd l D AC b z L xs Gm j_Land_framesInQueues 2 (oI 0 3) := sn_iconst l D AC b z L xs Gm  dX2_framesInQueues_2 (by decide)
theorem so_Land_framesInQueues_3 : Snd l D AC b z L xs Gm j_Land_framesInQueues 3 (oIst 2 4) := sn_istore_n l D AC b z L xs Gm  dX2_framesInQueues_3 rfl (by decide)
theorem so_Land_framesInQueues_4 : Snd l D AC b z L xs Gm j_Land_framesInQueues 4 (oIld 2 5) := sn_iload_n l D AC b z L xs Gm  dX2_framesInQueues_4 rfl
theorem so_Land_framesInQueues_5 : Snd l D AC b z L xs Gm j_Land_framesInQueues 5 (oAld 0 6) := sn_aload_n l D AC b z L xs Gm  dX2_framesInQueues_5 rfl
theorem so_Land_framesInQueues_6 : Snd l D AC b z L xs Gm j_Land_framesInQueues 6 (oGetI kc_Land 2 9) := sn_getI l D AC b z L xs Gm  dX2_framesInQueues_6 rfl (by decide) rfl (by decide) kin_2 tw_210
theorem so_Land_framesInQueues_9 : Snd l D AC b z L xs Gm j_Land_framesInQueues 9 (oIC (fun x y => decide (y ≤ x)) 33 12) := sn_icmp_ge l D AC b z L xs Gm  dX2_framesInQueues_9 (by decide)
theorem so_Land_framesInQueues_12 : Snd l D AC b z L xs Gm j_Land_framesInQueues 12 (oIld 1 13) := sn_iload_n l D AC b z L xs Gm  dX2_framesInQueues_12 rfl
theorem so_Land_framesInQueues_13 : Snd l D AC b z L xs Gm j_Land_framesInQueues 13 (oAld 0 14) := sn_aload_n l D AC b z L xs Gm  dX2_framesInQueues_13 rfl
theorem so_Land_framesInQueues_14 : Snd l D AC b z L xs Gm j_Land_framesInQueues 14 (oGetR kc_Land 0 17) := sn_getR l D AC b z L xs Gm  dX2_framesInQueues_14 rfl (by decide) rfl (by decide) kin_2 tw_206
theorem so_Land_framesInQueues_17 : Snd l D AC b z L xs Gm j_Land_framesInQueues 17 (oIld 2 18) := sn_iload_n l D AC b z L xs Gm  dX2_framesInQueues_17 rfl
theorem so_Land_framesInQueues_18 : Snd l D AC b z L xs Gm j_Land_framesInQueues 18 (oAal 2 19) := sn_aaload l D AC b z L xs Gm  dX2_framesInQueues_18 (by decide) rfl rfl (by decide)
theorem so_Land_framesInQueues_19 : Snd l D AC b z L xs Gm j_Land_framesInQueues 19 (oGetR kc_Node 4 22) := sn_getR l D AC b z L xs Gm  dX2_framesInQueues_19 rfl (by decide) rfl (by decide) kin_4 tw_142
theorem so_Land_framesInQueues_22 : Snd l D AC b z L xs Gm j_Land_framesInQueues 22 (oGetI kc_FrameQueue 1 25) := sn_getI l D AC b z L xs Gm  dX2_framesInQueues_22 rfl (by decide) rfl (by decide) kin_1 tw_109
theorem so_Land_framesInQueues_25 : Snd l D AC b z L xs Gm j_Land_framesInQueues 25 (oII (fun x y => x + y) 26) := sn_iadd l D AC b z L xs Gm  dX2_framesInQueues_25
theorem so_Land_framesInQueues_26 : Snd l D AC b z L xs Gm j_Land_framesInQueues 26 (oIst 1 27) := sn_istore_n l D AC b z L xs Gm  dX2_framesInQueues_26 rfl (by decide)
theorem so_Land_framesInQueues_27 : Snd l D AC b z L xs Gm j_Land_framesInQueues 27 (oInc 2 1 30) := sn_iinc l D AC b z L xs Gm  dX2_framesInQueues_27 (by decide) (by decide)
theorem so_Land_framesInQueues_30 : Snd l D AC b z L xs Gm j_Land_framesInQueues 30 (oGo 4) := sn_goto l D AC b z L xs Gm  dX2_framesInQueues_30 (by decide)
theorem so_Land_framesInQueues_33 : Snd l D AC b z L xs Gm j_Land_framesInQueues 33 (oIld 1 34) := sn_iload_n l D AC b z L xs Gm  dX2_framesInQueues_33 rfl
theorem so_Land_framesInQueues_34 : Snd l D AC b z L xs Gm j_Land_framesInQueues 34 (oRetI) := sn_retI l D AC b z L xs Gm  dX2_framesInQueues_34 rfl
set_option maxRecDepth 100000 in
theorem so_Land_framesInQueues : ∀ q ∈ tb_Land_framesInQueues, Snd l D AC b z L xs Gm j_Land_framesInQueues q.1 q.2 := by
  unfold tb_Land_framesInQueues
  exact List.forall_mem_cons.mpr ⟨so_Land_framesInQueues_0 l D AC b z L xs, List.forall_mem_cons.mpr ⟨so_Land_framesInQueues_1 l D AC b z L xs, List.forall_mem_cons.mpr ⟨so_Land_framesInQueues_2 l D AC b z L xs, List.forall_mem_cons.mpr ⟨so_Land_framesInQueues_3 l D AC b z L xs, List.forall_mem_cons.mpr ⟨so_Land_framesInQueues_4 l D AC b z L xs, List.forall_mem_cons.mpr ⟨so_Land_framesInQueues_5 l D AC b z L xs, List.forall_mem_cons.mpr ⟨so_Land_framesInQueues_6 l D AC b z L xs, List.forall_mem_cons.mpr ⟨so_Land_framesInQueues_9 l D AC b z L xs, List.forall_mem_cons.mpr ⟨so_Land_framesInQueues_12 l D AC b z L xs, List.forall_mem_cons.mpr ⟨so_Land_framesInQueues_13 l D AC b z L xs, List.forall_mem_cons.mpr ⟨so_Land_framesInQueues_14 l D AC b z L xs, List.forall_mem_cons.mpr ⟨so_Land_framesInQueues_17 l D AC b z L xs, List.forall_mem_cons.mpr ⟨so_Land_framesInQueues_18 l D AC b z L xs, List.forall_mem_cons.mpr ⟨so_Land_framesInQueues_19 l D AC b z L xs, List.forall_mem_cons.mpr ⟨so_Land_framesInQueues_22 l D AC b z L xs, List.forall_mem_cons.mpr ⟨so_Land_framesInQueues_25 l D AC b z L xs, List.forall_mem_cons.mpr ⟨so_Land_framesInQueues_26 l D AC b z L xs, List.forall_mem_cons.mpr ⟨so_Land_framesInQueues_27 l D AC b z L xs, List.forall_mem_cons.mpr ⟨so_Land_framesInQueues_30 l D AC b z L xs, List.forall_mem_cons.mpr ⟨so_Land_framesInQueues_33 l D AC b z L xs, List.forall_mem_cons.mpr ⟨so_Land_framesInQueues_34 l D AC b z L xs, fun _ h => absurd h List.not_mem_nil⟩⟩⟩⟩⟩⟩⟩⟩⟩⟩⟩⟩⟩⟩⟩⟩⟩⟩⟩⟩⟩
theorem so_Land_isSuspect_0 : Snd l D AC b z L xs Gm j_Land_isSuspect 0 (oAld 0 1) := sn_aload_n l D AC b z L xs Gm  dX2_isSuspect_0 rfl
theorem so_Land_isSuspect_1 : Snd l D AC b z L xs Gm j_Land_isSuspect 1 (oGetR kc_Land 0 4) := sn_getR l D AC b z L xs Gm  dX2_isSuspect_1 rfl (by decide) rfl (by decide) kin_2 tw_206
theorem so_Land_isSuspect_4 : Snd l D AC b z L xs Gm j_Land_isSuspect 4 (oIld 1 5) := sn_iload_n l D AC b z L xs Gm  dX2_isSuspect_4 rfl
theorem so_Land_isSuspect_5 : Snd l D AC b z L xs Gm j_Land_isSuspect 5 (oAal 2 6) := sn_aaload l D AC b z L xs Gm  dX2_isSuspect_5 (by decide) rfl rfl (by decide)
theorem so_Land_isSuspect_6 : Snd l D AC b z L xs Gm j_Land_isSuspect 6 (oGetI kc_Node 12 9) := sn_getI l D AC b z L xs Gm  dX2_isSuspect_6 rfl (by decide) rfl (by decide) kin_4 tw_164
theorem so_Land_isSuspect_9 : Snd l D AC b z L xs Gm j_Land_isSuspect 9 (oI2L 10) := sn_i2l l D AC b z L xs Gm  dX2_isSuspect_9
theorem so_Land_isSuspect_10 : Snd l D AC b z L xs Gm j_Land_isSuspect 10 (oLst 2 11) := sn_lstore_n l D AC b z L xs Gm  dX2_isSuspect_10 rfl (by decide)
theorem so_Land_isSuspect_11 : Snd l D AC b z L xs Gm j_Land_isSuspect 11 (oAld 0 12) := sn_aload_n l D AC b z L xs Gm  dX2_isSuspect_11 rfl
theorem so_Land_isSuspect_12 : Snd l D AC b z L xs Gm j_Land_isSuspect 12 (oGetR kc_Land 0 15) := sn_getR l D AC b z L xs Gm  dX2_isSuspect_12 rfl (by decide) rfl (by decide) kin_2 tw_206
theorem so_Land_isSuspect_15 : Snd l D AC b z L xs Gm j_Land_isSuspect 15 (oIld 1 16) := sn_iload_n l D AC b z L xs Gm  dX2_isSuspect_15 rfl
theorem so_Land_isSuspect_16 : Snd l D AC b z L xs Gm j_Land_isSuspect 16 (oAal 2 17) := sn_aaload l D AC b z L xs Gm  dX2_isSuspect_16 (by decide) rfl rfl (by decide)
theorem so_Land_isSuspect_17 : Snd l D AC b z L xs Gm j_Land_isSuspect 17 (oGetI kc_Node 13 20) := sn_getI l D AC b z L xs Gm  dX2_isSuspect_17 rfl (by decide) rfl (by decide) kin_4 tw_167
theorem so_Land_isSuspect_20 : Snd l D AC b z L xs Gm j_Land_isSuspect 20 (oI2L 21) := sn_i2l l D AC b z L xs Gm  dX2_isSuspect_20
theorem so_Land_isSuspect_21 : Snd l D AC b z L xs Gm j_Land_isSuspect 21 (oLst 4 23) := sn_lstore l D AC b z L xs Gm  dX2_isSuspect_21 (by decide)
theorem so_Land_isSuspect_23 : Snd l D AC b z L xs Gm j_Land_isSuspect 23 (oJ 0 24) := sn_lconst l D AC b z L xs Gm  dX2_isSuspect_23 (by decide)
theorem so_Land_isSuspect_24 : Snd l D AC b z L xs Gm j_Land_isSuspect 24 (oLst 6 26) := sn_lstore l D AC b z L xs Gm  dX2_isSuspect_24 (by decide)
theorem so_Land_isSuspect_26 : Snd l D AC b z L xs Gm j_Land_isSuspect 26 (oJ 0 27) := sn_lconst l D AC b z L xs Gm  dX2_isSuspect_26 (by decide)
theorem so_Land_isSuspect_27 : Snd l D AC b z L xs Gm j_Land_isSuspect 27 (oLst 8 29) := sn_lstore l D AC b z L xs Gm  dX2_isSuspect_27 (by decide)
theorem so_Land_isSuspect_29 : Snd l D AC b z L xs Gm j_Land_isSuspect 29 (oI 0 30) := sn_iconst l D AC b z L xs Gm  dX2_isSuspect_29 (by decide)
theorem so_Land_isSuspect_30 : Snd l D AC b z L xs Gm j_Land_isSuspect 30 (oIst 10 32) := sn_istore l D AC b z L xs Gm  dX2_isSuspect_30 (by decide)
theorem so_Land_isSuspect_32 : Snd l D AC b z L xs Gm j_Land_isSuspect 32 (oIld 10 34) := sn_iload l D AC b z L xs Gm  dX2_isSuspect_32
theorem so_Land_isSuspect_34 : Snd l D AC b z L xs Gm j_Land_isSuspect 34 (oAld 0 35) := sn_aload_n l D AC b z L xs Gm  dX2_isSuspect_34 rfl
theorem so_Land_isSuspect_35 : Snd l D AC b z L xs Gm j_Land_isSuspect 35 (oGetI kc_Land 2 38) := sn_getI l D AC b z L xs Gm  dX2_isSuspect_35 rfl (by decide) rfl (by decide) kin_2 tw_210
theorem so_Land_isSuspect_38 : Snd l D AC b z L xs Gm j_Land_isSuspect 38 (oIC (fun x y => decide (y ≤ x)) 85 41) := sn_icmp_ge l D AC b z L xs Gm  dX2_isSuspect_38 (by decide)
theorem so_Land_isSuspect_41 : Snd l D AC b z L xs Gm j_Land_isSuspect 41 (oIld 10 43) := sn_iload l D AC b z L xs Gm  dX2_isSuspect_41
theorem so_Land_isSuspect_43 : Snd l D AC b z L xs Gm j_Land_isSuspect 43 (oIld 1 44) := sn_iload_n l D AC b z L xs Gm  dX2_isSuspect_43 rfl
theorem so_Land_isSuspect_44 : Snd l D AC b z L xs Gm j_Land_isSuspect 44 (oIC (fun x y => decide (x = y)) 79 47) := sn_icmp_eq l D AC b z L xs Gm  dX2_isSuspect_44 (by decide)
theorem so_Land_isSuspect_47 : Snd l D AC b z L xs Gm j_Land_isSuspect 47 (oLld 6 49) := sn_lload l D AC b z L xs Gm  dX2_isSuspect_47
theorem so_Land_isSuspect_49 : Snd l D AC b z L xs Gm j_Land_isSuspect 49 (oAld 0 50) := sn_aload_n l D AC b z L xs Gm  dX2_isSuspect_49 rfl
theorem so_Land_isSuspect_50 : Snd l D AC b z L xs Gm j_Land_isSuspect 50 (oGetR kc_Land 0 53) := sn_getR l D AC b z L xs Gm  dX2_isSuspect_50 rfl (by decide) rfl (by decide) kin_2 tw_206
theorem so_Land_isSuspect_53 : Snd l D AC b z L xs Gm j_Land_isSuspect 53 (oIld 10 55) := sn_iload l D AC b z L xs Gm  dX2_isSuspect_53
theorem so_Land_isSuspect_55 : Snd l D AC b z L xs Gm j_Land_isSuspect 55 (oAal 2 56) := sn_aaload l D AC b z L xs Gm  dX2_isSuspect_55 (by decide) rfl rfl (by decide)
theorem so_Land_isSuspect_56 : Snd l D AC b z L xs Gm j_Land_isSuspect 56 (oGetI kc_Node 12 59) := sn_getI l D AC b z L xs Gm  dX2_isSuspect_56 rfl (by decide) rfl (by decide) kin_4 tw_164
theorem so_Land_isSuspect_59 : Snd l D AC b z L xs Gm j_Land_isSuspect 59 (oI2L 60) := sn_i2l l D AC b z L xs Gm  dX2_isSuspect_59
theorem so_Land_isSuspect_60 : Snd l D AC b z L xs Gm j_Land_isSuspect 60 (oLL (fun x y => x + y) 61) := sn_ladd l D AC b z L xs Gm  dX2_isSuspect_60
theorem so_Land_isSuspect_61 : Snd l D AC b z L xs Gm j_Land_isSuspect 61 (oLst 6 63) := sn_lstore l D AC b z L xs Gm  dX2_isSuspect_61 (by decide)
theorem so_Land_isSuspect_63 : Snd l D AC b z L xs Gm j_Land_isSuspect 63 (oLld 8 65) := sn_lload l D AC b z L xs Gm  dX2_isSuspect_63
theorem so_Land_isSuspect_65 : Snd l D AC b z L xs Gm j_Land_isSuspect 65 (oAld 0 66) := sn_aload_n l D AC b z L xs Gm  dX2_isSuspect_65 rfl
theorem so_Land_isSuspect_66 : Snd l D AC b z L xs Gm j_Land_isSuspect 66 (oGetR kc_Land 0 69) := sn_getR l D AC b z L xs Gm  dX2_isSuspect_66 rfl (by decide) rfl (by decide) kin_2 tw_206
theorem so_Land_isSuspect_69 : Snd l D AC b z L xs Gm j_Land_isSuspect 69 (oIld 10 71) := sn_iload l D AC b z L xs Gm  dX2_isSuspect_69
theorem so_Land_isSuspect_71 : Snd l D AC b z L xs Gm j_Land_isSuspect 71 (oAal 2 72) := sn_aaload l D AC b z L xs Gm  dX2_isSuspect_71 (by decide) rfl rfl (by decide)
theorem so_Land_isSuspect_72 : Snd l D AC b z L xs Gm j_Land_isSuspect 72 (oGetI kc_Node 13 75) := sn_getI l D AC b z L xs Gm  dX2_isSuspect_72 rfl (by decide) rfl (by decide) kin_4 tw_167
theorem so_Land_isSuspect_75 : Snd l D AC b z L xs Gm j_Land_isSuspect 75 (oI2L 76) := sn_i2l l D AC b z L xs Gm  dX2_isSuspect_75
theorem so_Land_isSuspect_76 : Snd l D AC b z L xs Gm j_Land_isSuspect 76 (oLL (fun x y => x + y) 77) := sn_ladd l D AC b z L xs Gm  dX2_isSuspect_76
theorem so_Land_isSuspect_77 : Snd l D AC b z L xs Gm j_Land_isSuspect 77 (oLst 8 79) := sn_lstore l D AC b z L xs Gm  dX2_isSuspect_77 (by decide)
theorem so_Land_isSuspect_79 : Snd l D AC b z L xs Gm j_Land_isSuspect 79 (oInc 10 1 82) := sn_iinc l D AC b z L xs Gm  dX2_isSuspect_79 (by decide) (by decide)
theorem so_Land_isSuspect_82 : Snd l D AC b z L xs Gm j_Land_isSuspect 82 (oGo 32) := sn_goto l D AC b z L xs Gm  dX2_isSuspect_82 (by decide)
theorem so_Land_isSuspect_85 : Snd l D AC b z L xs Gm j_Land_isSuspect 85 (oLld 4 87) := sn_lload l D AC b z L xs Gm  dX2_isSuspect_85
theorem so_Land_isSuspect_87 : Snd l D AC b z L xs Gm j_Land_isSuspect 87 (oJ 3 90) := sn_ldc2 l D AC b z L xs Gm  dX2_isSuspect_87 tw_514
theorem so_Land_isSuspect_90 : Snd l D AC b z L xs Gm j_Land_isSuspect 90 (oLcmp 91) := sn_lcmp l D AC b z L xs Gm  dX2_isSuspect_90
theorem so_Land_isSuspect_91 : Snd l D AC b z L xs Gm j_Land_isSuspect 91 (oIf (fun x => decide (x < 0)) 115 94) := sn_if_lt l D AC b z L xs Gm  dX2_isSuspect_91 (by decide)
theorem so_Land_isSuspect_94 : Snd l D AC b z L xs Gm j_Land_isSuspect 94 (oJ 4 97) := sn_ldc2 l D AC b z L xs Gm  dX2_isSuspect_94 tw_515
theorem so_Land_isSuspect_97 : Snd l D AC b z L xs Gm j_Land_isSuspect 97 (oLld 2 98) := sn_lload_n l D AC b z L xs Gm  dX2_isSuspect_97 rfl
theorem so_Land_isSuspect_98 : Snd l D AC b z L xs Gm j_Land_isSuspect 98 (oLL (fun x y => x * y) 99) := sn_lmul l D AC b z L xs Gm  dX2_isSuspect_98
theorem so_Land_isSuspect_99 : Snd l D AC b z L xs Gm j_Land_isSuspect 99 (oLld 8 101) := sn_lload l D AC b z L xs Gm  dX2_isSuspect_99
theorem so_Land_isSuspect_101 : Snd l D AC b z L xs Gm j_Land_isSuspect 101 (oLL (fun x y => x * y) 102) := sn_lmul l D AC b z L xs Gm  dX2_isSuspect_101
theorem so_Land_isSuspect_102 : Snd l D AC b z L xs Gm j_Land_isSuspect 102 (oLld 6 104) := sn_lload l D AC b z L xs Gm  dX2_isSuspect_102
theorem so_Land_isSuspect_104 : Snd l D AC b z L xs Gm j_Land_isSuspect 104 (oLld 4 106) := sn_lload l D AC b z L xs Gm  dX2_isSuspect_104
theorem so_Land_isSuspect_106 : Snd l D AC b z L xs Gm j_Land_isSuspect 106 (oLL (fun x y => x * y) 107) := sn_lmul l D AC b z L xs Gm  dX2_isSuspect_106
theorem so_Land_isSuspect_107 : Snd l D AC b z L xs Gm j_Land_isSuspect 107 (oLcmp 108) := sn_lcmp l D AC b z L xs Gm  dX2_isSuspect_107
theorem so_Land_isSuspect_108 : Snd l D AC b z L xs Gm j_Land_isSuspect 108 (oIf (fun x => decide (0 ≤ x)) 115 111) := sn_if_ge l D AC b z L xs Gm  dX2_isSuspect_108 (by decide)
theorem so_Land_isSuspect_111 : Snd l D AC b z L xs Gm j_Land_isSuspect 111 (oI 1 112) := sn_iconst l D AC b z L xs Gm  dX2_isSuspect_111 (by decide)
theorem so_Land_isSuspect_112 : Snd l D AC b z L xs Gm j_Land_isSuspect 112 (oGo 116) := sn_goto l D AC b z L xs Gm  dX2_isSuspect_112 (by decide)
theorem so_Land_isSuspect_115 : Snd l D AC b z L xs Gm j_Land_isSuspect 115 (oI 0 116) := sn_iconst l D AC b z L xs Gm  dX2_isSuspect_115 (by decide)
theorem so_Land_isSuspect_116 : Snd l D AC b z L xs Gm j_Land_isSuspect 116 (oRetZ) := sn_retZ l D AC b z L xs Gm  dX2_isSuspect_116 rfl
set_option maxRecDepth 100000 in
theorem so_Land_isSuspect : ∀ q ∈ tb_Land_isSuspect, Snd l D AC b z L xs Gm j_Land_isSuspect q.1 q.2 := by
  unfold tb_Land_isSuspect
  exact List.forall_mem_cons.mpr ⟨so_Land_isSuspect_0 l D AC b z L xs, List.forall_mem_cons.mpr ⟨so_Land_isSuspect_1 l D AC b z L xs, List.forall_mem_cons.mpr ⟨so_Land_isSuspect_4 l D AC b z L xs, List.forall_mem_cons.mpr ⟨so_Land_isSuspect_5 l D AC b z L xs, List.forall_mem_cons.mpr ⟨so_Land_isSuspect_6 l D AC b z L xs, List.forall_mem_cons.mpr ⟨so_Land_isSuspect_9 l D AC b z L xs, List.forall_mem_cons.mpr ⟨so_Land_isSuspect_10 l D AC b z L xs, List.forall_mem_cons.mpr ⟨so_Land_isSuspect_11 l D AC b z L xs, List.forall_mem_cons.mpr ⟨so_Land_isSuspect_12 l D AC b z L xs, List.forall_mem_cons.mpr ⟨so_Land_isSuspect_15 l D AC b z L xs, List.forall_mem_cons.mpr ⟨so_Land_isSuspect_16 l D AC b z L xs, List.forall_mem_cons.mpr ⟨so_Land_isSuspect_17 l D AC b z L xs, List.forall_mem_cons.mpr ⟨so_Land_isSuspect_20 l D AC b z L xs, List.forall_mem_cons.mpr ⟨so_Land_isSuspect_21 l D AC b z L xs, List.forall_mem_cons.mpr ⟨so_Land_isSuspect_23 l D AC b z L xs, List.forall_mem_cons.mpr ⟨so_Land_isSuspect_24 l D AC b z L xs, List.forall_mem_cons.mpr ⟨so_Land_isSuspect_26 l D AC b z L xs, List.forall_mem_cons.mpr ⟨so_Land_isSuspect_27 l D AC b z L xs, List.forall_mem_cons.mpr ⟨so_Land_isSuspect_29 l D AC b z L xs, List.forall_mem_cons.mpr ⟨so_Land_isSuspect_30 l D AC b z L xs, List.forall_mem_cons.mpr ⟨so_Land_isSuspect_32 l D AC b z L xs, List.forall_mem_cons.mpr ⟨so_Land_isSuspect_34 l D AC b z L xs, List.forall_mem_cons.mpr ⟨so_Land_isSuspect_35 l D AC b z L xs, List.forall_mem_cons.mpr ⟨so_Land_isSuspect_38 l D AC b z L xs, List.forall_mem_cons.mpr ⟨so_Land_isSuspect_41 l D AC b z L xs, List.forall_mem_cons.mpr ⟨so_Land_isSuspect_43 l D AC b z L xs, List.forall_mem_cons.mpr ⟨so_Land_isSuspect_44 l D AC b z L xs, List.forall_mem_cons.mpr ⟨so_Land_isSuspect_47 l D AC b z L xs, List.forall_mem_cons.mpr ⟨so_Land_isSuspect_49 l D AC b z L xs, List.forall_mem_cons.mpr ⟨so_Land_isSuspect_50 l D AC b z L xs, List.forall_mem_cons.mpr ⟨so_Land_isSuspect_53 l D AC b z L xs, List.forall_mem_cons.mpr ⟨so_Land_isSuspect_55 l D AC b z L xs, List.forall_mem_cons.mpr ⟨so_Land_isSuspect_56 l D AC b z L xs, List.forall_mem_cons.mpr ⟨so_Land_isSuspect_59 l D AC b z L xs, List.forall_mem_cons.mpr ⟨so_Land_isSuspect_60 l D AC b z L xs, List.forall_mem_cons.mpr ⟨so_Land_isSuspect_61 l D AC b z L xs, List.forall_mem_cons.mpr ⟨so_Land_isSuspect_63 l D AC b z L xs, List.forall_mem_cons.mpr ⟨so_Land_isSuspect_65 l D AC b z L xs, List.forall_mem_cons.mpr ⟨so_Land_isSuspect_66 l D AC b z L xs, List.forall_mem_cons.mpr ⟨so_Land_isSuspect_69 l D AC b z L xs, List.forall_mem_cons.mpr ⟨so_Land_isSuspect_71 l D AC b z L xs, List.forall_mem_cons.mpr ⟨so_Land_isSuspect_72 l D AC b z L xs, List.forall_mem_cons.mpr ⟨so_Land_isSuspect_75 l D AC b z L xs, List.forall_mem_cons.mpr ⟨so_Land_isSuspect_76 l D AC b z L xs, List.forall_mem_cons.mpr ⟨so_Land_isSuspect_77 l D AC b z L xs, List.forall_mem_cons.mpr ⟨so_Land_isSuspect_79 l D AC b z L xs, List.forall_mem_cons.mpr ⟨so_Land_isSuspect_82 l D AC b z L xs, List.forall_mem_cons.mpr ⟨so_Land_isSuspect_85 l D AC b z L xs, List.forall_mem_cons.mpr ⟨so_Land_isSuspect_87 l D AC b z L xs, List.forall_mem_cons.mpr ⟨so_Land_isSuspect_90 l D AC b z L xs, List.forall_mem_cons.mpr ⟨so_Land_isSuspect_91 l D AC b z L xs, List.forall_mem_cons.mpr ⟨so_Land_isSuspect_94 l D AC b z L xs, List.forall_mem_cons.mpr ⟨so_Land_isSuspect_97 l D AC b z L xs, List.forall_mem_cons.mpr ⟨so_Land_isSuspect_98 l D AC b z L xs, List.forall_mem_cons.mpr ⟨so_Land_isSuspect_99 l D AC b z L xs, List.forall_mem_cons.mpr ⟨so_Land_isSuspect_101 l D AC b z L xs, List.forall_mem_cons.mpr ⟨so_Land_isSuspect_102 l D AC b z L xs, List.forall_mem_cons.mpr ⟨so_Land_isSuspect_104 l D AC b z L xs, List.forall_mem_cons.mpr ⟨so_Land_isSuspect_106 l D AC b z L xs, List.forall_mem_cons.mpr ⟨so_Land_isSuspect_107 l D AC b z L xs, List.forall_mem_cons.mpr ⟨so_Land_isSuspect_108 l D AC b z L xs, List.forall_mem_cons.mpr ⟨so_Land_isSuspect_111 l D AC b z L xs, List.forall_mem_cons.mpr ⟨so_Land_isSuspect_112 l D AC b z L xs, List.forall_mem_cons.mpr ⟨so_Land_isSuspect_115 l D AC b z L xs, List.forall_mem_cons.mpr ⟨so_Land_isSuspect_116 l D AC b z L xs, fun _ h => absurd h List.not_mem_nil⟩⟩⟩⟩⟩⟩⟩⟩⟩⟩⟩⟩⟩⟩⟩⟩⟩⟩⟩⟩⟩⟩⟩⟩⟩⟩⟩⟩⟩⟩⟩⟩⟩⟩⟩⟩⟩⟩⟩⟩⟩⟩⟩⟩⟩⟩⟩⟩⟩⟩⟩⟩⟩⟩⟩⟩⟩⟩⟩⟩⟩⟩⟩⟩⟩
theorem so_Land_fewestCovering_0 : Snd l D AC b z L xs Gm j_Land_fewestCovering 0 (oAld 0 1) := sn_aload_n l D AC b z L xs Gm  dX2_fewestCovering_0 rfl
theorem so_Land_fewestCovering_1 : Snd l D AC b z L xs Gm j_Land_fewestCovering 1 (oCallV kc_Land j_Land_everyone 0 (mL j_Land_everyone) 4) := sn_callV l D AC b z L xs Gm  dX2_fewestCovering_1 rfl (hs0 (fun _ => rfl) rfl) cal_Land_fewestCovering_Land_everyone rfl rfl (by decide) rfl tw_792 tw_793 tw_794
theorem so_Land_fewestCovering_4 : Snd l D AC b z L xs Gm j_Land_fewestCovering 4 (oIst 1 5) := sn_istore_n l D AC b z L xs Gm  dX2_fewestCovering_4 rfl (by decide)
theorem so_Land_fewestCovering_5 : Snd l D AC b z L xs Gm j_Land_fewestCovering 5 (oI 0 6) := sn_iconst l D AC b z L xs Gm  dX2_fewestCovering_5 (by decide)
theorem so_Land_fewestCovering_6 : Snd l D AC b z L xs Gm j_Land_fewestCovering 6 (oIst 2 7) := sn_istore_n l D AC b z L xs Gm  dX2_fewestCovering_6 rfl (by decide)
theorem so_Land_fewestCovering_7 : Snd l D AC b z L xs Gm j_Land_fewestCovering 7 (oIld 2 8) := sn_iload_n l D AC b z L xs Gm  dX2_fewestCovering_7 rfl
theorem so_Land_fewestCovering_8 : Snd l D AC b z L xs Gm j_Land_fewestCovering 8 (oAld 0 9) := sn_aload_n l D AC b z L xs Gm  dX2_fewestCovering_8 rfl
theorem so_Land_fewestCovering_9 : Snd l D AC b z L xs Gm j_Land_fewestCovering 9 (oCallV kc_Land j_Land_everyone 0 (mL j_Land_everyone) 12) := sn_callV l D AC b z L xs Gm  dX2_fewestCovering_9 rfl (hs0 (fun _ => rfl) rfl) cal_Land_fewestCovering_Land_everyone rfl rfl (by decide) rfl tw_792 tw_793 tw_794
theorem so_Land_fewestCovering_12 : Snd l D AC b z L xs Gm j_Land_fewestCovering 12 (oIC (fun x y => decide (y ≤ x)) 42 15) := sn_icmp_ge l D AC b z L xs Gm  dX2_fewestCovering_12 (by decide)
theorem so_Land_fewestCovering_15 : Snd l D AC b z L xs Gm j_Land_fewestCovering 15 (oIld 2 16) := sn_iload_n l D AC b z L xs Gm  dX2_fewestCovering_15 rfl
theorem so_Land_fewestCovering_16 : Snd l D AC b z L xs Gm j_Land_fewestCovering 16 (oCallS j_Integer_bitCount 1 (mL j_Integer_bitCount) 19) := sn_callS l D AC b z L xs Gm  dX2_fewestCovering_16 rfl (hs0 (fun _ => rfl) rfl) cal_Land_fewestCovering_Integer_bitCount rfl tw_796 tw_535
theorem so_Land_fewestCovering_19 : Snd l D AC b z L xs Gm j_Land_fewestCovering 19 (oIld 1 20) := sn_iload_n l D AC b z L xs Gm  dX2_fewestCovering_19 rfl
theorem so_Land_fewestCovering_20 : Snd l D AC b z L xs Gm j_Land_fewestCovering 20 (oCallS j_Integer_bitCount 1 (mL j_Integer_bitCount) 23) := sn_callS l D AC b z L xs Gm  dX2_fewestCovering_20 rfl (hs0 (fun _ => rfl) rfl) cal_Land_fewestCovering_Integer_bitCount rfl tw_796 tw_535
theorem so_Land_fewestCovering_23 : Snd l D AC b z L xs Gm j_Land_fewestCovering 23 (oIC (fun x y => decide (y ≤ x)) 36 26) := sn_icmp_ge l D AC b z L xs Gm  dX2_fewestCovering_23 (by decide)
theorem so_Land_fewestCovering_26 : Snd l D AC b z L xs Gm j_Land_fewestCovering 26 (oAld 0 27) := sn_aload_n l D AC b z L xs Gm  dX2_fewestCovering_26 rfl
theorem so_Land_fewestCovering_27 : Snd l D AC b z L xs Gm j_Land_fewestCovering 27 (oIld 2 28) := sn_iload_n l D AC b z L xs Gm  dX2_fewestCovering_27 rfl
theorem so_Land_fewestCovering_28 : Snd l D AC b z L xs Gm j_Land_fewestCovering 28 (oCallV kc_Land j_Land_isCovering 1 (mL j_Land_isCovering) 31) := sn_callV l D AC b z L xs Gm  dX2_fewestCovering_28 rfl (hs0 (fun _ => rfl) rfl) cal_Land_fewestCovering_Land_isCovering rfl rfl (by decide) rfl tw_797 tw_799 tw_20
theorem so_Land_fewestCovering_31 : Snd l D AC b z L xs Gm j_Land_fewestCovering 31 (oIf (fun x => decide (x = 0)) 36 34) := sn_if_eq l D AC b z L xs Gm  dX2_fewestCovering_31 (by decide)
theorem so_Land_fewestCovering_34 : Snd l D AC b z L xs Gm j_Land_fewestCovering 34 (oIld 2 35) := sn_iload_n l D AC b z L xs Gm  dX2_fewestCovering_34 rfl
theorem so_Land_fewestCovering_35 : Snd l D AC b z L xs Gm j_Land_fewestCovering 35 (oIst 1 36) := sn_istore_n l D AC b z L xs Gm  dX2_fewestCovering_35 rfl (by decide)
theorem so_Land_fewestCovering_36 : Snd l D AC b z L xs Gm j_Land_fewestCovering 36 (oInc 2 1 39) := sn_iinc l D AC b z L xs Gm  dX2_fewestCovering_36 (by decide) (by decide)
theorem so_Land_fewestCovering_39 : Snd l D AC b z L xs Gm j_Land_fewestCovering 39 (oGo 7) := sn_goto l D AC b z L xs Gm  dX2_fewestCovering_39 (by decide)
theorem so_Land_fewestCovering_42 : Snd l D AC b z L xs Gm j_Land_fewestCovering 42 (oIld 1 43) := sn_iload_n l D AC b z L xs Gm  dX2_fewestCovering_42 rfl
theorem so_Land_fewestCovering_43 : Snd l D AC b z L xs Gm j_Land_fewestCovering 43 (oRetI) := sn_retI l D AC b z L xs Gm  dX2_fewestCovering_43 rfl
set_option maxRecDepth 100000 in
theorem so_Land_fewestCovering : ∀ q ∈ tb_Land_fewestCovering, Snd l D AC b z L xs Gm j_Land_fewestCovering q.1 q.2 := by
  unfold tb_Land_fewestCovering
  exact List.forall_mem_cons.mpr ⟨so_Land_fewestCovering_0 l D AC b z L xs, List.forall_mem_cons.mpr ⟨so_Land_fewestCovering_1 l D AC b z L xs, List.forall_mem_cons.mpr ⟨so_Land_fewestCovering_4 l D AC b z L xs, List.forall_mem_cons.mpr ⟨so_Land_fewestCovering_5 l D AC b z L xs, List.forall_mem_cons.mpr ⟨so_Land_fewestCovering_6 l D AC b z L xs, List.forall_mem_cons.mpr ⟨so_Land_fewestCovering_7 l D AC b z L xs, List.forall_mem_cons.mpr ⟨so_Land_fewestCovering_8 l D AC b z L xs, List.forall_mem_cons.mpr ⟨so_Land_fewestCovering_9 l D AC b z L xs, List.forall_mem_cons.mpr ⟨so_Land_fewestCovering_12 l D AC b z L xs, List.forall_mem_cons.mpr ⟨so_Land_fewestCovering_15 l D AC b z L xs, List.forall_mem_cons.mpr ⟨so_Land_fewestCovering_16 l D AC b z L xs, List.forall_mem_cons.mpr ⟨so_Land_fewestCovering_19 l D AC b z L xs, List.forall_mem_cons.mpr ⟨so_Land_fewestCovering_20 l D AC b z L xs, List.forall_mem_cons.mpr ⟨so_Land_fewestCovering_23 l D AC b z L xs, List.forall_mem_cons.mpr ⟨so_Land_fewestCovering_26 l D AC b z L xs, List.forall_mem_cons.mpr ⟨so_Land_fewestCovering_27 l D AC b z L xs, List.forall_mem_cons.mpr ⟨so_Land_fewestCovering_28 l D AC b z L xs, List.forall_mem_cons.mpr ⟨so_Land_fewestCovering_31 l D AC b z L xs, List.forall_mem_cons.mpr ⟨so_Land_fewestCovering_34 l D AC b z L xs, List.forall_mem_cons.mpr ⟨so_Land_fewestCovering_35 l D AC b z L xs, List.forall_mem_cons.mpr ⟨so_Land_fewestCovering_36 l D AC b z L xs, List.forall_mem_cons.mpr ⟨so_Land_fewestCovering_39 l D AC b z L xs, List.forall_mem_cons.mpr ⟨so_Land_fewestCovering_42 l D AC b z L xs, List.forall_mem_cons.mpr ⟨so_Land_fewestCovering_43 l D AC b z L xs, fun _ h => absurd h List.not_mem_nil⟩⟩⟩⟩⟩⟩⟩⟩⟩⟩⟩⟩⟩⟩⟩⟩⟩⟩⟩⟩⟩⟩⟩⟩
theorem so_Land_isCovering_0 : Snd l D AC b z L xs Gm j_Land_isCovering 0 (oIld 1 1) := sn_iload_n l D AC b z L xs Gm  dX2_isCovering_0 rfl
theorem so_Land_isCovering_1 : Snd l D AC b z L xs Gm j_Land_isCovering 1 (oIst 2 2) := sn_istore_n l D AC b z L xs Gm  dX2_isCovering_1 rfl (by decide)
theorem so_Land_isCovering_2 : Snd l D AC b z L xs Gm j_Land_isCovering 2 (oI 0 3) := sn_iconst l D AC b z L xs Gm  dX2_isCovering_2 (by decide)
theorem so_Land_isCovering_3 : Snd l D AC b z L xs Gm j_Land_isCovering 3 (oIst 3 4) := sn_istore_n l D AC b z L xs Gm  dX2_isCovering_3 rfl (by decide)
theorem so_Land_isCovering_4 : Snd l D AC b z L xs Gm j_Land_isCovering 4 (oIld 3 5) := sn_iload_n l D AC b z L xs Gm  dX2_isCovering_4 rfl
theorem so_Land_isCovering_5 : Snd l D AC b z L xs Gm j_Land_isCovering 5 (oAld 0 6) := sn_aload_n l D AC b z L xs Gm  dX2_isCovering_5 rfl
theorem so_Land_isCovering_6 : Snd l D AC b z L xs Gm j_Land_isCovering 6 (oGetI kc_Land 2 9) := sn_getI l D AC b z L xs Gm  dX2_isCovering_6 rfl (by decide) rfl (by decide) kin_2 tw_210
theorem so_Land_isCovering_9 : Snd l D AC b z L xs Gm j_Land_isCovering 9 (oIC (fun x y => decide (y ≤ x)) 35 12) := sn_icmp_ge l D AC b z L xs Gm  dX2_isCovering_9 (by decide)
theorem so_Land_isCovering_12 : Snd l D AC b z L xs Gm j_Land_isCovering 12 (oIld 1 13) := sn_iload_n l D AC b z L xs Gm  dX2_isCovering_12 rfl
theorem so_Land_isCovering_13 : Snd l D AC b z L xs Gm j_Land_isCovering 13 (oIld 3 14) := sn_iload_n l D AC b z L xs Gm  dX2_isCovering_13 rfl
theorem so_Land_isCovering_14 : Snd l D AC b z L xs Gm j_Land_isCovering 14 (oCallS j_S_isIn 2 (mL j_S_isIn) 17) := sn_callSN l D AC b z L xs Gm  dX2_isCovering_14 rfl (hs0 (fun _ => rfl) rfl) cal_Land_isCovering_S_isIn rfl (List.mem_of_getElem? (i := 4) rfl) tw_475
theorem so_Land_isCovering_17 : Snd l D AC b z L xs Gm j_Land_isCovering 17 (oIf (fun x => decide (x = 0)) 29 20) := sn_if_eq l D AC b z L xs Gm  dX2_isCovering_17 (by decide)
theorem so_Land_isCovering_20 : Snd l D AC b z L xs Gm j_Land_isCovering 20 (oIld 2 21) := sn_iload_n l D AC b z L xs Gm  dX2_isCovering_20 rfl
theorem so_Land_isCovering_21 : Snd l D AC b z L xs Gm j_Land_isCovering 21 (oAld 0 22) := sn_aload_n l D AC b z L xs Gm  dX2_isCovering_21 rfl
theorem so_Land_isCovering_22 : Snd l D AC b z L xs Gm j_Land_isCovering 22 (oGetR kc_Land 1 25) := sn_getR l D AC b z L xs Gm  dX2_isCovering_22 rfl (by decide) rfl (by decide) kin_2 tw_209
theorem so_Land_isCovering_25 : Snd l D AC b z L xs Gm j_Land_isCovering 25 (oIld 3 26) := sn_iload_n l D AC b z L xs Gm  dX2_isCovering_25 rfl
theorem so_Land_isCovering_26 : Snd l D AC b z L xs Gm j_Land_isCovering 26 (oIal 0 27) := sn_iaload l D AC b z L xs Gm  dX2_isCovering_26 (by decide) rfl rfl rfl
theorem so_Land_isCovering_27 : Snd l D AC b z L xs Gm j_Land_isCovering 27 (oII (fun x y => x ||| y) 28) := sn_ior l D AC b z L xs Gm  dX2_isCovering_27
theorem so_Land_isCovering_28 : Snd l D AC b z L xs Gm j_Land_isCovering 28 (oIst 2 29) := sn_istore_n l D AC b z L xs Gm  dX2_isCovering_28 rfl (by decide)
theorem so_Land_isCovering_29 : Snd l D AC b z L xs Gm j_Land_isCovering 29 (oInc 3 1 32) := sn_iinc l D AC b z L xs Gm  dX2_isCovering_29 (by decide) (by decide)
theorem so_Land_isCovering_32 : Snd l D AC b z L xs Gm j_Land_isCovering 32 (oGo 4) := sn_goto l D AC b z L xs Gm  dX2_isCovering_32 (by decide)
theorem so_Land_isCovering_35 : Snd l D AC b z L xs Gm j_Land_isCovering 35 (oIld 2 36) := sn_iload_n l D AC b z L xs Gm  dX2_isCovering_35 rfl
theorem so_Land_isCovering_36 : Snd l D AC b z L xs Gm j_Land_isCovering 36 (oAld 0 37) := sn_aload_n l D AC b z L xs Gm  dX2_isCovering_36 rfl
theorem so_Land_isCovering_37 : Snd l D AC b z L xs Gm j_Land_isCovering 37 (oCallV kc_Land j_Land_everyone 0 (mL j_Land_everyone) 40) := sn_callV l D AC b z L xs Gm  dX2_isCovering_37 rfl (hs0 (fun _ => rfl) rfl) cal_Land_isCovering_Land_everyone rfl rfl (by decide) rfl tw_792 tw_793 tw_794
theorem so_Land_isCovering_40 : Snd l D AC b z L xs Gm j_Land_isCovering 40 (oIC (fun x y => decide (¬ x = y)) 47 43) := sn_icmp_ne l D AC b z L xs Gm  dX2_isCovering_40 (by decide)
theorem so_Land_isCovering_43 : Snd l D AC b z L xs Gm j_Land_isCovering 43 (oI 1 44) := sn_iconst l D AC b z L xs Gm  dX2_isCovering_43 (by decide)
theorem so_Land_isCovering_44 : Snd l D AC b z L xs Gm j_Land_isCovering 44 (oGo 48) := sn_goto l D AC b z L xs Gm  dX2_isCovering_44 (by decide)
theorem so_Land_isCovering_47 : Snd l D AC b z L xs Gm j_Land_isCovering 47 (oI 0 48) := sn_iconst l D AC b z L xs Gm  dX2_isCovering_47 (by decide)
theorem so_Land_isCovering_48 : Snd l D AC b z L xs Gm j_Land_isCovering 48 (oRetZ) := sn_retZ l D AC b z L xs Gm  dX2_isCovering_48 rfl
set_option maxRecDepth 100000 in
theorem so_Land_isCovering : ∀ q ∈ tb_Land_isCovering, Snd l D AC b z L xs Gm j_Land_isCovering q.1 q.2 := by
  unfold tb_Land_isCovering
  exact List.forall_mem_cons.mpr ⟨so_Land_isCovering_0 l D AC b z L xs, List.forall_mem_cons.mpr ⟨so_Land_isCovering_1 l D AC b z L xs, List.forall_mem_cons.mpr ⟨so_Land_isCovering_2 l D AC b z L xs, List.forall_mem_cons.mpr ⟨so_Land_isCovering_3 l D AC b z L xs, List.forall_mem_cons.mpr ⟨so_Land_isCovering_4 l D AC b z L xs, List.forall_mem_cons.mpr ⟨so_Land_isCovering_5 l D AC b z L xs, List.forall_mem_cons.mpr ⟨so_Land_isCovering_6 l D AC b z L xs, List.forall_mem_cons.mpr ⟨so_Land_isCovering_9 l D AC b z L xs, List.forall_mem_cons.mpr ⟨so_Land_isCovering_12 l D AC b z L xs, List.forall_mem_cons.mpr ⟨so_Land_isCovering_13 l D AC b z L xs, List.forall_mem_cons.mpr ⟨so_Land_isCovering_14 l D AC b z L xs, List.forall_mem_cons.mpr ⟨so_Land_isCovering_17 l D AC b z L xs, List.forall_mem_cons.mpr ⟨so_Land_isCovering_20 l D AC b z L xs, List.forall_mem_cons.mpr ⟨so_Land_isCovering_21 l D AC b z L xs, List.forall_mem_cons.mpr ⟨so_Land_isCovering_22 l D AC b z L xs, List.forall_mem_cons.mpr ⟨so_Land_isCovering_25 l D AC b z L xs, List.forall_mem_cons.mpr ⟨so_Land_isCovering_26 l D AC b z L xs, List.forall_mem_cons.mpr ⟨so_Land_isCovering_27 l D AC b z L xs, List.forall_mem_cons.mpr ⟨so_Land_isCovering_28 l D AC b z L xs, List.forall_mem_cons.mpr ⟨so_Land_isCovering_29 l D AC b z L xs, List.forall_mem_cons.mpr ⟨so_Land_isCovering_32 l D AC b z L xs, List.forall_mem_cons.mpr ⟨so_Land_isCovering_35 l D AC b z L xs, List.forall_mem_cons.mpr ⟨so_Land_isCovering_36 l D AC b z L xs, List.forall_mem_cons.mpr ⟨so_Land_isCovering_37 l D AC b z L xs, List.forall_mem_cons.mpr ⟨so_Land_isCovering_40 l D AC b z L xs, List.forall_mem_cons.mpr ⟨so_Land_isCovering_43 l D AC b z L xs, List.forall_mem_cons.mpr ⟨so_Land_isCovering_44 l D AC b z L xs, List.forall_mem_cons.mpr ⟨so_Land_isCovering_47 l D AC b z L xs, List.forall_mem_cons.mpr ⟨so_Land_isCovering_48 l D AC b z L xs, fun _ h => absurd h List.not_mem_nil⟩⟩⟩⟩⟩⟩⟩⟩⟩⟩⟩⟩⟩⟩⟩⟩⟩⟩⟩⟩⟩⟩⟩⟩⟩⟩⟩⟩⟩
theorem so_Market_init_0 : Snd l D AC b z L xs Gm j_Market_init 0 (oAld 0 1) := sn_aload_n l D AC b z L xs Gm  dX3_init_0 rfl
theorem so_Market_init_1 : Snd l D AC b z L xs Gm j_Market_init 1 (oObj 4) := sn_obj l D AC b z L xs Gm  dX3_init_1 (by decide) (by decide) tw_287 tw_45 tw_46
theorem so_Market_init_4 : Snd l D AC b z L xs Gm j_Market_init 4 (oAld 0 5) := sn_aload_n l D AC b z L xs Gm  dX3_init_4 rfl
theorem so_Market_init_5 : Snd l D AC b z L xs Gm j_Market_init 5 (oI 10 7) := sn_bipush l D AC b z L xs Gm  dX3_init_5 (by decide)
theorem so_Market_init_7 : Snd l D AC b z L xs Gm j_Market_init 7 (oNewA cM sM 0 9) := sn_newarray l D AC b z L xs Gm  dX3_init_7 rfl (by decide) rfl (by decide) (Or.inl ⟨rfl, rfl, fun _ _ h => h⟩) tw_104
theorem so_Market_init_9 : Snd l D AC b z L xs Gm j_Market_init 9 (oPutR kc_Market 0 12) := sn_putRF l D AC b z L xs Gm  dX3_init_9 rfl (by decide) rfl (by decide) kin_3 tyX3_ok nmX3 tw_288 rfl rfl rfl (Or.inr ⟨_, rfl⟩)
theorem so_Market_init_12 : Snd l D AC b z L xs Gm j_Market_init 12 (oAld 0 13) := sn_aload_n l D AC b z L xs Gm  dX3_init_12 rfl
theorem so_Market_init_13 : Snd l D AC b z L xs Gm j_Market_init 13 (oI 10 15) := sn_bipush l D AC b z L xs Gm  dX3_init_13 (by decide)
theorem so_Market_init_15 : Snd l D AC b z L xs Gm j_Market_init 15 (oNewA cM sM 0 17) := sn_newarray l D AC b z L xs Gm  dX3_init_15 rfl (by decide) rfl (by decide) (Or.inl ⟨rfl, rfl, fun _ _ h => h⟩) tw_104
theorem so_Market_init_17 : Snd l D AC b z L xs Gm j_Market_init 17 (oPutR kc_Market 1 20) := sn_putRF l D AC b z L xs Gm  dX3_init_17 rfl (by decide) rfl (by decide) kin_3 tyX3_ok nmX3 tw_289 rfl rfl rfl (Or.inr ⟨_, rfl⟩)
theorem so_Market_init_20 : Snd l D AC b z L xs Gm j_Market_init 20 (oAld 0 21) := sn_aload_n l D AC b z L xs Gm  dX3_init_20 rfl
theorem so_Market_init_21 : Snd l D AC b z L xs Gm j_Market_init 21 (oI 1024 24) := sn_sipush l D AC b z L xs Gm  dX3_init_21 (by decide)
theorem so_Market_init_24 : Snd l D AC b z L xs Gm j_Market_init 24 (oNewA cM sM 0 26) := sn_newarray l D AC b z L xs Gm  dX3_init_24 rfl (by decide) rfl (by decide) (Or.inl ⟨rfl, rfl, fun _ _ h => h⟩) tw_104
theorem so_Market_init_26 : Snd l D AC b z L xs Gm j_Market_init 26 (oPutR kc_Market 2 29) := sn_putRF l D AC b z L xs Gm  dX3_init_26 rfl (by decide) rfl (by decide) kin_3 tyX3_ok nmX3 tw_290 rfl rfl rfl (Or.inr ⟨_, rfl⟩)
theorem so_Market_init_29 : Snd l D AC b z L xs Gm j_Market_init 29 (oAld 0 30) := sn_aload_n l D AC b z L xs Gm  dX3_init_29 rfl
theorem so_Market_init_30 : Snd l D AC b z L xs Gm j_Market_init 30 (oI 1024 33) := sn_sipush l D AC b z L xs Gm  dX3_init_30 (by decide)
theorem so_Market_init_33 : Snd l D AC b z L xs Gm j_Market_init 33 (oNewA cM sM 0 35) := sn_newarray l D AC b z L xs Gm  dX3_init_33 rfl (by decide) rfl (by decide) (Or.inl ⟨rfl, rfl, fun _ _ h => h⟩) tw_104
theorem so_Market_init_35 : Snd l D AC b z L xs Gm j_Market_init 35 (oPutR kc_Market 3 38) := sn_putRF l D AC b z L xs Gm  dX3_init_35 rfl (by decide) rfl (by decide) kin_3 tyX3_ok nmX3 tw_291 rfl rfl rfl (Or.inr ⟨_, rfl⟩)
theorem so_Market_init_38 : Snd l D AC b z L xs Gm j_Market_init 38 (oAld 0 39) := sn_aload_n l D AC b z L xs Gm  dX3_init_38 rfl
theorem so_Market_init_39 : Snd l D AC b z L xs Gm j_Market_init 39 (oI 5 40) := sn_iconst l D AC b z L xs Gm  dX3_init_39 (by decide)
theorem so_Market_init_40 : Snd l D AC b z L xs Gm j_Market_init 40 (oNewA cM sM 0 42) := sn_newarray l D AC b z L xs Gm  dX3_init_40 rfl (by decide) rfl (by decide) (Or.inl ⟨rfl, rfl, fun _ _ h => h⟩) tw_104
theorem so_Market_init_42 : Snd l D AC b z L xs Gm j_Market_init 42 (oPutR kc_Market 4 45) := sn_putRF l D AC b z L xs Gm  dX3_init_42 rfl (by decide) rfl (by decide) kin_3 tyX3_ok nmX3 tw_292 rfl rfl rfl (Or.inr ⟨_, rfl⟩)
theorem so_Market_init_45 : Snd l D AC b z L xs Gm j_Market_init 45 (oAld 0 46) := sn_aload_n l D AC b z L xs Gm  dX3_init_45 rfl
theorem so_Market_init_46 : Snd l D AC b z L xs Gm j_Market_init 46 (oI 0 47) := sn_iconst l D AC b z L xs Gm  dX3_init_46 (by decide)
theorem so_Market_init_47 : Snd l D AC b z L xs Gm j_Market_init 47 (oPutI kc_Market 5 50) := sn_putI l D AC b z L xs Gm  dX3_init_47 rfl (by decide) rfl (by decide) kin_3 tyX3_ok nmX3 tw_293 rfl rfl
theorem so_Market_init_50 : Snd l D AC b z L xs Gm j_Market_init 50 (oAld 0 51) := sn_aload_n l D AC b z L xs Gm  dX3_init_50 rfl
theorem so_Market_init_51 : Snd l D AC b z L xs Gm j_Market_init 51 (oI 0 52) := sn_iconst l D AC b z L xs Gm  dX3_init_51 (by decide)
theorem so_Market_init_52 : Snd l D AC b z L xs Gm j_Market_init 52 (oPutI kc_Market 6 55) := sn_putI l D AC b z L xs Gm  dX3_init_52 rfl (by decide) rfl (by decide) kin_3 tyX3_ok nmX3 tw_295 rfl rfl
theorem so_Market_init_55 : Snd l D AC b z L xs Gm j_Market_init 55 (oAld 0 56) := sn_aload_n l D AC b z L xs Gm  dX3_init_55 rfl
theorem so_Market_init_56 : Snd l D AC b z L xs Gm j_Market_init 56 (oI 0 57) := sn_iconst l D AC b z L xs Gm  dX3_init_56 (by decide)
theorem so_Market_init_57 : Snd l D AC b z L xs Gm j_Market_init 57 (oPutI kc_Market 7 60) := sn_putI l D AC b z L xs Gm  dX3_init_57 rfl (by decide) rfl (by decide) kin_3 tyX3_ok nmX3 tw_297 rfl rfl
theorem so_Market_init_60 : Snd l D AC b z L xs Gm j_Market_init 60 (oAld 0 61) := sn_aload_n l D AC b z L xs Gm  dX3_init_60 rfl
theorem so_Market_init_61 : Snd l D AC b z L xs Gm j_Market_init 61 (oI 0 62) := sn_iconst l D AC b z L xs Gm  dX3_init_61 (by decide)
theorem so_Market_init_62 : Snd l D AC b z L xs Gm j_Market_init 62 (oPutI kc_Market 8 65) := sn_putI l D AC b z L xs Gm  dX3_init_62 rfl (by decide) rfl (by decide) kin_3 tyX3_ok nmX3 tw_299 rfl rfl
theorem so_Market_init_65 : Snd l D AC b z L xs Gm j_Market_init 65 (oRet) := sn_ret l D AC b z L xs Gm  dX3_init_65 rfl
set_option maxRecDepth 100000 in
theorem so_Market_init : ∀ q ∈ tb_Market_init, Snd l D AC b z L xs Gm j_Market_init q.1 q.2 := by
  unfold tb_Market_init
  exact List.forall_mem_cons.mpr ⟨so_Market_init_0 l D AC b z L xs, List.forall_mem_cons.mpr ⟨so_Market_init_1 l D AC b z L xs, List.forall_mem_cons.mpr ⟨so_Market_init_4 l D AC b z L xs, List.forall_mem_cons.mpr ⟨so_Market_init_5 l D AC b z L xs, List.forall_mem_cons.mpr ⟨so_Market_init_7 l D AC b z L xs, List.forall_mem_cons.mpr ⟨so_Market_init_9 l D AC b z L xs, List.forall_mem_cons.mpr ⟨so_Market_init_12 l D AC b z L xs, List.forall_mem_cons.mpr ⟨so_Market_init_13 l D AC b z L xs, List.forall_mem_cons.mpr ⟨so_Market_init_15 l D AC b z L xs, List.forall_mem_cons.mpr ⟨so_Market_init_17 l D AC b z L xs, List.forall_mem_cons.mpr ⟨so_Market_init_20 l D AC b z L xs, List.forall_mem_cons.mpr ⟨so_Market_init_21 l D AC b z L xs, List.forall_mem_cons.mpr ⟨so_Market_init_24 l D AC b z L xs, List.forall_mem_cons.mpr ⟨so_Market_init_26 l D AC b z L xs, List.forall_mem_cons.mpr ⟨so_Market_init_29 l D AC b z L xs, List.forall_mem_cons.mpr ⟨so_Market_init_30 l D AC b z L xs, List.forall_mem_cons.mpr ⟨so_Market_init_33 l D AC b z L xs, List.forall_mem_cons.mpr ⟨so_Market_init_35 l D AC b z L xs, List.forall_mem_cons.mpr ⟨so_Market_init_38 l D AC b z L xs, List.forall_mem_cons.mpr ⟨so_Market_init_39 l D AC b z L xs, List.forall_mem_cons.mpr ⟨so_Market_init_40 l D AC b z L xs, List.forall_mem_cons.mpr ⟨so_Market_init_42 l D AC b z L xs, List.forall_mem_cons.mpr ⟨so_Market_init_45 l D AC b z L xs, List.forall_mem_cons.mpr ⟨so_Market_init_46 l D AC b z L xs, List.forall_mem_cons.mpr ⟨so_Market_init_47 l D AC b z L xs, List.forall_mem_cons.mpr ⟨so_Market_init_50 l D AC b z L xs, List.forall_mem_cons.mpr ⟨so_Market_init_51 l D AC b z L xs, List.forall_mem_cons.mpr ⟨so_Market_init_52 l D AC b z L xs, List.forall_mem_cons.mpr ⟨so_Market_init_55 l D AC b z L xs, List.forall_mem_cons.mpr ⟨so_Market_init_56 l D AC b z L xs, List.forall_mem_cons.mpr ⟨so_Market_init_57 l D AC b z L xs, List.forall_mem_cons.mpr ⟨so_Market_init_60 l D AC b z L xs, List.forall_mem_cons.mpr ⟨so_Market_init_61 l D AC b z L xs, List.forall_mem_cons.mpr ⟨so_Market_init_62 l D AC b z L xs, List.forall_mem_cons.mpr ⟨so_Market_init_65 l D AC b z L xs, fun _ h => absurd h List.not_mem_nil⟩⟩⟩⟩⟩⟩⟩⟩⟩⟩⟩⟩⟩⟩⟩⟩⟩⟩⟩⟩⟩⟩⟩⟩⟩⟩⟩⟩⟩⟩⟩⟩⟩⟩⟩
theorem so_Market_add_0 : Snd l D AC b z L xs Gm j_Market_add 0 (oAld 0 1) := sn_aload_n l D AC b z L xs Gm  dX3_add_0 rfl
theorem so_Market_add_1 : Snd l D AC b z L xs Gm j_Market_add 1 (oGetI kc_Market 5 4) := sn_getI l D AC b z L xs Gm  dX3_add_1 rfl (by decide) rfl (by decide) kin_3 tw_293
theorem so_Market_add_4 : Snd l D AC b z L xs Gm j_Market_add 4 (oIst 4 6) := sn_istore l D AC b z L xs Gm  dX3_add_4 (by decide)
theorem so_Market_add_6 : Snd l D AC b z L xs Gm j_Market_add 6 (oAld 0 7) := sn_aload_n l D AC b z L xs Gm  dX3_add_6 rfl
theorem so_Market_add_7 : Snd l D AC b z L xs Gm j_Market_add 7 (oDup 8) := sn_dup l D AC b z L xs Gm  dX3_add_7
theorem so_Market_add_8 : Snd l D AC b z L xs Gm j_Market_add 8 (oGetI kc_Market 5 11) := sn_getI l D AC b z L xs Gm  dX3_add_8 rfl (by decide) rfl (by decide) kin_3 tw_293
theorem so_Market_add_11 : Snd l D AC b z L xs Gm j_Market_add 11 (oI 1 12) := sn_iconst l D AC b z L xs Gm  dX3_add_11 (by decide)
theorem so_Market_add_12 : Snd l D AC b z L xs Gm j_Market_add 12 (oII (fun x y => x + y) 13) := sn_iadd l D AC b z L xs Gm  dX3_add_12
theorem so_Market_add_13 : Snd l D AC b z L xs Gm j_Market_add 13 (oPutI kc_Market 5 16) := sn_putI l D AC b z L xs Gm  dX3_add_13 rfl (by decide) rfl (by decide) kin_3 tyX3_ok nmX3 tw_293 rfl rfl
theorem so_Market_add_16 : Snd l D AC b z L xs Gm j_Market_add 16 (oAld 0 17) := sn_aload_n l D AC b z L xs Gm  dX3_add_16 rfl
theorem so_Market_add_17 : Snd l D AC b z L xs Gm j_Market_add 17 (oGetR kc_Market 0 20) := sn_getR l D AC b z L xs Gm  dX3_add_17 rfl (by decide) rfl (by decide) kin_3 tw_288
theorem so_Market_add_20 : Snd l D AC b z L xs Gm j_Market_add 20 (oIld 4 22) := sn_iload l D AC b z L xs Gm  dX3_add_20
theorem so_Market_add_22 : Snd l D AC b z L xs Gm j_Market_add 22 (oIld 1 23) := sn_iload_n l D AC b z L xs Gm  dX3_add_22 rfl
theorem so_Market_add_23 : Snd l D AC b z L xs Gm j_Market_add 23 (oIas 0 24) := sn_iastore l D AC b z L xs Gm  dX3_add_23 (by decide) rfl rfl
theorem so_Market_add_24 : Snd l D AC b z L xs Gm j_Market_add 24 (oAld 0 25) := sn_aload_n l D AC b z L xs Gm  dX3_add_24 rfl
theorem so_Market_add_25 : Snd l D AC b z L xs Gm j_Market_add 25 (oGetR kc_Market 1 28) := sn_getR l D AC b z L xs Gm  dX3_add_25 rfl (by decide) rfl (by decide) kin_3 tw_289
theorem so_Market_add_28 : Snd l D AC b z L xs Gm j_Market_add 28 (oIld 4 30) := sn_iload l D AC b z L xs Gm  dX3_add_28
theorem so_Market_add_30 : Snd l D AC b z L xs Gm j_Market_add 30 (oIld 3 31) := sn_iload_n l D AC b z L xs Gm  dX3_add_30 rfl
theorem so_Market_add_31 : Snd l D AC b z L xs Gm j_Market_add 31 (oIas 0 32) := sn_iastore l D AC b z L xs Gm  dX3_add_31 (by decide) rfl rfl
theorem so_Market_add_32 : Snd l D AC b z L xs Gm j_Market_add 32 (oIld 2 33) := sn_iload_n l D AC b z L xs Gm  dX3_add_32 rfl
theorem so_Market_add_33 : Snd l D AC b z L xs Gm j_Market_add 33 (oI 1 34) := sn_iconst l D AC b z L xs Gm  dX3_add_33 (by decide)
theorem so_Market_add_34 : Snd l D AC b z L xs Gm j_Market_add 34 (oI 6 36) := sn_bipush l D AC b z L xs Gm  dX3_add_34 (by decide)
theorem so_Market_add_36 : Snd l D AC b z L xs Gm j_Market_add 36 (oIld 1 37) := sn_iload_n l D AC b z L xs Gm  dX3_add_36 rfl
theorem so_Market_add_37 : Snd l D AC b z L xs Gm j_Market_add 37 (oII (fun x y => x + y) 38) := sn_iadd l D AC b z L xs Gm  dX3_add_37
theorem so_Market_add_38 : Snd l D AC b z L xs Gm j_Market_add 38 (oII (fun x y => x <<< (y &&& 31)) 39) := sn_ishl l D AC b z L xs Gm  dX3_add_38
theorem so_Market_add_39 : Snd l D AC b z L xs Gm j_Market_add 39 (oII (fun x y => x ||| y) 40) := sn_ior l D AC b z L xs Gm  dX3_add_39
theorem so_Market_add_40 : Snd l D AC b z L xs Gm j_Market_add 40 (oIst 5 42) := sn_istore l D AC b z L xs Gm  dX3_add_40 (by decide)
theorem so_Market_add_42 : Snd l D AC b z L xs Gm j_Market_add 42 (oI 1 43) := sn_iconst l D AC b z L xs Gm  dX3_add_42 (by decide)
theorem so_Market_add_43 : Snd l D AC b z L xs Gm j_Market_add 43 (oIld 4 45) := sn_iload l D AC b z L xs Gm  dX3_add_43
theorem so_Market_add_45 : Snd l D AC b z L xs Gm j_Market_add 45 (oII (fun x y => x <<< (y &&& 31)) 46) := sn_ishl l D AC b z L xs Gm  dX3_add_45
theorem so_Market_add_46 : Snd l D AC b z L xs Gm j_Market_add 46 (oIst 6 48) := sn_istore l D AC b z L xs Gm  dX3_add_46 (by decide)
theorem so_Market_add_48 : Snd l D AC b z L xs Gm j_Market_add 48 (oI 0 49) := sn_iconst l D AC b z L xs Gm  dX3_add_48 (by decide)
theorem so_Market_add_49 : Snd l D AC b z L xs Gm j_Market_add 49 (oIst 7 51) := sn_istore l D AC b z L xs Gm  dX3_add_49 (by decide)
theorem so_Market_add_51 : Snd l D AC b z L xs Gm j_Market_add 51 (oIld 7 53) := sn_iload l D AC b z L xs Gm  dX3_add_51
theorem so_Market_add_53 : Snd l D AC b z L xs Gm j_Market_add 53 (oIld 6 55) := sn_iload l D AC b z L xs Gm  dX3_add_53
theorem so_Market_add_55 : Snd l D AC b z L xs Gm j_Market_add 55 (oIC (fun x y => decide (y ≤ x)) 145 58) := sn_icmp_ge l D AC b z L xs Gm  dX3_add_55 (by decide)
theorem so_Market_add_58 : Snd l D AC b z L xs Gm j_Market_add 58 (oIld 7 60) := sn_iload l D AC b z L xs Gm  dX3_add_58
theorem so_Market_add_60 : Snd l D AC b z L xs Gm j_Market_add 60 (oIld 6 62) := sn_iload l D AC b z L xs Gm  dX3_add_60
theorem so_Market_add_62 : Snd l D AC b z L xs Gm j_Market_add 62 (oII (fun x y => x ||| y) 63) := sn_ior l D AC b z L xs Gm  dX3_add_62
theorem so_Market_add_63 : Snd l D AC b z L xs Gm j_Market_add 63 (oIst 8 65) := sn_istore l D AC b z L xs Gm  dX3_add_63 (by decide)
theorem so_Market_add_65 : Snd l D AC b z L xs Gm j_Market_add 65 (oAld 0 66) := sn_aload_n l D AC b z L xs Gm  dX3_add_65 rfl
theorem so_Market_add_66 : Snd l D AC b z L xs Gm j_Market_add 66 (oGetR kc_Market 3 69) := sn_getR l D AC b z L xs Gm  dX3_add_66 rfl (by decide) rfl (by decide) kin_3 tw_291
theorem so_Market_add_69 : Snd l D AC b z L xs Gm j_Market_add 69 (oIld 7 71) := sn_iload l D AC b z L xs Gm  dX3_add_69
theorem so_Market_add_71 : Snd l D AC b z L xs Gm j_Market_add 71 (oIal 0 72) := sn_iaload l D AC b z L xs Gm  dX3_add_71 (by decide) rfl rfl rfl
theorem so_Market_add_72 : Snd l D AC b z L xs Gm j_Market_add 72 (oI (-1) 73) := sn_iconst l D AC b z L xs Gm  dX3_add_72 (by decide)
theorem so_Market_add_73 : Snd l D AC b z L xs Gm j_Market_add 73 (oIC (fun x y => decide (x = y)) 89 76) := sn_icmp_eq l D AC b z L xs Gm  dX3_add_73 (by decide)
theorem so_Market_add_76 : Snd l D AC b z L xs Gm j_Market_add 76 (oAld 0 77) := sn_aload_n l D AC b z L xs Gm  dX3_add_76 rfl
theorem so_Market_add_77 : Snd l D AC b z L xs Gm j_Market_add 77 (oGetR kc_Market 2 80) := sn_getR l D AC b z L xs Gm  dX3_add_77 rfl (by decide) rfl (by decide) kin_3 tw_290
theorem so_Market_add_80 : Snd l D AC b z L xs Gm j_Market_add 80 (oIld 7 82) := sn_iload l D AC b z L xs Gm  dX3_add_80
theorem so_Market_add_82 : Snd l D AC b z L xs Gm j_Market_add 82 (oIal 0 83) := sn_iaload l D AC b z L xs Gm  dX3_add_82 (by decide) rfl rfl rfl
theorem so_Market_add_83 : Snd l D AC b z L xs Gm j_Market_add 83 (oIld 5 85) := sn_iload l D AC b z L xs Gm  dX3_add_83
theorem so_Market_add_85 : Snd l D AC b z L xs Gm j_Market_add 85 (oII (fun x y => x &&& y) 86) := sn_iand l D AC b z L xs Gm  dX3_add_85
theorem so_Market_add_86 : Snd l D AC b z L xs Gm j_Market_add 86 (oIf (fun x => decide (x = 0)) 100 89) := sn_if_eq l D AC b z L xs Gm  dX3_add_86 (by decide)
theorem so_Market_add_89 : Snd l D AC b z L xs Gm j_Market_add 89 (oAld 0 90) := sn_aload_n l D AC b z L xs Gm  dX3_add_89 rfl
theorem so_Market_add_90 : Snd l D AC b z L xs Gm j_Market_add 90 (oGetR kc_Market 3 93) := sn_getR l D AC b z L xs Gm  dX3_add_90 rfl (by decide) rfl (by decide) kin_3 tw_291
theorem so_Market_add_93 : Snd l D AC b z L xs Gm j_Market_add 93 (oIld 8 95) := sn_iload l D AC b z L xs Gm  dX3_add_93
theorem so_Market_add_95 : Snd l D AC b z L xs Gm j_Market_add 95 (oI (-1) 96) := sn_iconst l D AC b z L xs Gm  dX3_add_95 (by decide)
theorem so_Market_add_96 : Snd l D AC b z L xs Gm j_Market_add 96 (oIas 0 97) := sn_iastore l D AC b z L xs Gm  dX3_add_96 (by decide) rfl rfl
theorem so_Market_add_97 : Snd l D AC b z L xs Gm j_Market_add 97 (oGo 139) := sn_goto l D AC b z L xs Gm  dX3_add_97 (by decide)
theorem so_Market_add_100 : Snd l D AC b z L xs Gm j_Market_add 100 (oAld 0 101) := sn_aload_n l D AC b z L xs Gm  dX3_add_100 rfl
theorem so_Market_add_101 : Snd l D AC b z L xs Gm j_Market_add 101 (oGetR kc_Market 3 104) := sn_getR l D AC b z L xs Gm  dX3_add_101 rfl (by decide) rfl (by decide) kin_3 tw_291
theorem so_Market_add_104 : Snd l D AC b z L xs Gm j_Market_add 104 (oIld 8 106) := sn_iload l D AC b z L xs Gm  dX3_add_104
theorem so_Market_add_106 : Snd l D AC b z L xs Gm j_Market_add 106 (oAld 0 107) := sn_aload_n l D AC b z L xs Gm  dX3_add_106 rfl
theorem so_Market_add_107 : Snd l D AC b z L xs Gm j_Market_add 107 (oGetR kc_Market 3 110) := sn_getR l D AC b z L xs Gm  dX3_add_107 rfl (by decide) rfl (by decide) kin_3 tw_291
theorem so_Market_add_110 : Snd l D AC b z L xs Gm j_Market_add 110 (oIld 7 112) := sn_iload l D AC b z L xs Gm  dX3_add_110
theorem so_Market_add_112 : Snd l D AC b z L xs Gm j_Market_add 112 (oIal 0 113) := sn_iaload l D AC b z L xs Gm  dX3_add_112 (by decide) rfl rfl rfl
theorem so_Market_add_113 : Snd l D AC b z L xs Gm j_Market_add 113 (oIld 3 114) := sn_iload_n l D AC b z L xs Gm  dX3_add_113 rfl
theorem so_Market_add_114 : Snd l D AC b z L xs Gm j_Market_add 114 (oII (fun x y => x + y) 115) := sn_iadd l D AC b z L xs Gm  dX3_add_114
theorem so_Market_add_115 : Snd l D AC b z L xs Gm j_Market_add 115 (oIas 0 116) := sn_iastore l D AC b z L xs Gm  dX3_add_115 (by decide) rfl rfl
theorem so_Market_add_116 : Snd l D AC b z L xs Gm j_Market_add 116 (oAld 0 117) := sn_aload_n l D AC b z L xs Gm  dX3_add_116 rfl
theorem so_Market_add_117 : Snd l D AC b z L xs Gm j_Market_add 117 (oGetR kc_Market 2 120) := sn_getR l D AC b z L xs Gm  dX3_add_117 rfl (by decide) rfl (by decide) kin_3 tw_290
theorem so_Market_add_120 : Snd l D AC b z L xs Gm j_Market_add 120 (oIld 8 122) := sn_iload l D AC b z L xs Gm  dX3_add_120
theorem so_Market_add_122 : Snd l D AC b z L xs Gm j_Market_add 122 (oAld 0 123) := sn_aload_n l D AC b z L xs Gm  dX3_add_122 rfl
theorem so_Market_add_123 : Snd l D AC b z L xs Gm j_Market_add 123 (oGetR kc_Market 2 126) := sn_getR l D AC b z L xs Gm  dX3_add_123 rfl (by decide) rfl (by decide) kin_3 tw_290
theorem so_Market_add_126 : Snd l D AC b z L xs Gm j_Market_add 126 (oIld 7 128) := sn_iload l D AC b z L xs Gm  dX3_add_126
theorem so_Market_add_128 : Snd l D AC b z L xs Gm j_Market_add 128 (oIal 0 129) := sn_iaload l D AC b z L xs Gm  dX3_add_128 (by decide) rfl rfl rfl
theorem so_Market_add_129 : Snd l D AC b z L xs Gm j_Market_add 129 (oIld 5 131) := sn_iload l D AC b z L xs Gm  dX3_add_129
theorem so_Market_add_131 : Snd l D AC b z L xs Gm j_Market_add 131 (oII (fun x y => x ||| y) 132) := sn_ior l D AC b z L xs Gm  dX3_add_131
theorem so_Market_add_132 : Snd l D AC b z L xs Gm j_Market_add 132 (oIas 0 133) := sn_iastore l D AC b z L xs Gm  dX3_add_132 (by decide) rfl rfl
theorem so_Market_add_133 : Snd l D AC b z L xs Gm j_Market_add 133 (oAld 0 134) := sn_aload_n l D AC b z L xs Gm  dX3_add_133 rfl
theorem so_Market_add_134 : Snd l D AC b z L xs Gm j_Market_add 134 (oIld 8 136) := sn_iload l D AC b z L xs Gm  dX3_add_134
theorem so_Market_add_136 : Snd l D AC b z L xs Gm j_Market_add 136 (oCallV kc_Market j_Market_weigh 1 (mL j_Market_weigh) 139) := sn_callV l D AC b z L xs Gm  dX3_add_136 rfl (hs0 (fun _ => rfl) rfl) cal_Market_add_Market_weigh rfl rfl (by decide) rfl tw_617 tw_619 tw_7
theorem so_Market_add_139 : Snd l D AC b z L xs Gm j_Market_add 139 (oInc 7 1 142) := sn_iinc l D AC b z L xs Gm  dX3_add_139 (by decide) (by decide)
theorem so_Market_add_142 : Snd l D AC b z L xs Gm j_Market_add 142 (oGo 51) := sn_goto l D AC b z L xs Gm  dX3_add_142 (by decide)
theorem so_Market_add_145 : Snd l D AC b z L xs Gm j_Market_add 145 (oIld 4 147) := sn_iload l D AC b z L xs Gm  dX3_add_145
theorem so_Market_add_147 : Snd l D AC b z L xs Gm j_Market_add 147 (oRetI) := sn_retI l D AC b z L xs Gm  dX3_add_147 rfl
set_option maxRecDepth 100000 in
theorem so_Market_add : ∀ q ∈ tb_Market_add, Snd l D AC b z L xs Gm j_Market_add q.1 q.2 := by
  unfold tb_Market_add
  exact List.forall_mem_cons.mpr ⟨so_Market_add_0 l D AC b z L xs, List.forall_mem_cons.mpr ⟨so_Market_add_1 l D AC b z L xs, List.forall_mem_cons.mpr ⟨so_Market_add_4 l D AC b z L xs, List.forall_mem_cons.mpr ⟨so_Market_add_6 l D AC b z L xs, List.forall_mem_cons.mpr ⟨so_Market_add_7 l D AC b z L xs, List.forall_mem_cons.mpr ⟨so_Market_add_8 l D AC b z L xs, List.forall_mem_cons.mpr ⟨so_Market_add_11 l D AC b z L xs, List.forall_mem_cons.mpr ⟨so_Market_add_12 l D AC b z L xs, List.forall_mem_cons.mpr ⟨so_Market_add_13 l D AC b z L xs, List.forall_mem_cons.mpr ⟨so_Market_add_16 l D AC b z L xs, List.forall_mem_cons.mpr ⟨so_Market_add_17 l D AC b z L xs, List.forall_mem_cons.mpr ⟨so_Market_add_20 l D AC b z L xs, List.forall_mem_cons.mpr ⟨so_Market_add_22 l D AC b z L xs, List.forall_mem_cons.mpr ⟨so_Market_add_23 l D AC b z L xs, List.forall_mem_cons.mpr ⟨so_Market_add_24 l D AC b z L xs, List.forall_mem_cons.mpr ⟨so_Market_add_25 l D AC b z L xs, List.forall_mem_cons.mpr ⟨so_Market_add_28 l D AC b z L xs, List.forall_mem_cons.mpr ⟨so_Market_add_30 l D AC b z L xs, List.forall_mem_cons.mpr ⟨so_Market_add_31 l D AC b z L xs, List.forall_mem_cons.mpr ⟨so_Market_add_32 l D AC b z L xs, List.forall_mem_cons.mpr ⟨so_Market_add_33 l D AC b z L xs, List.forall_mem_cons.mpr ⟨so_Market_add_34 l D AC b z L xs, List.forall_mem_cons.mpr ⟨so_Market_add_36 l D AC b z L xs, List.forall_mem_cons.mpr ⟨so_Market_add_37 l D AC b z L xs, List.forall_mem_cons.mpr ⟨so_Market_add_38 l D AC b z L xs, List.forall_mem_cons.mpr ⟨so_Market_add_39 l D AC b z L xs, List.forall_mem_cons.mpr ⟨so_Market_add_40 l D AC b z L xs, List.forall_mem_cons.mpr ⟨so_Market_add_42 l D AC b z L xs, List.forall_mem_cons.mpr ⟨so_Market_add_43 l D AC b z L xs, List.forall_mem_cons.mpr ⟨so_Market_add_45 l D AC b z L xs, List.forall_mem_cons.mpr ⟨so_Market_add_46 l D AC b z L xs, List.forall_mem_cons.mpr ⟨so_Market_add_48 l D AC b z L xs, List.forall_mem_cons.mpr ⟨so_Market_add_49 l D AC b z L xs, List.forall_mem_cons.mpr ⟨so_Market_add_51 l D AC b z L xs, List.forall_mem_cons.mpr ⟨so_Market_add_53 l D AC b z L xs, List.forall_mem_cons.mpr ⟨so_Market_add_55 l D AC b z L xs, List.forall_mem_cons.mpr ⟨so_Market_add_58 l D AC b z L xs, List.forall_mem_cons.mpr ⟨so_Market_add_60 l D AC b z L xs, List.forall_mem_cons.mpr ⟨so_Market_add_62 l D AC b z L xs, List.forall_mem_cons.mpr ⟨so_Market_add_63 l D AC b z L xs, List.forall_mem_cons.mpr ⟨so_Market_add_65 l D AC b z L xs, List.forall_mem_cons.mpr ⟨so_Market_add_66 l D AC b z L xs, List.forall_mem_cons.mpr ⟨so_Market_add_69 l D AC b z L xs, List.forall_mem_cons.mpr ⟨so_Market_add_71 l D AC b z L xs, List.forall_mem_cons.mpr ⟨so_Market_add_72 l D AC b z L xs, List.forall_mem_cons.mpr ⟨so_Market_add_73 l D AC b z L xs, List.forall_mem_cons.mpr ⟨so_Market_add_76 l D AC b z L xs, List.forall_mem_cons.mpr ⟨so_Market_add_77 l D AC b z L xs, List.forall_mem_cons.mpr ⟨so_Market_add_80 l D AC b z L xs, List.forall_mem_cons.mpr ⟨so_Market_add_82 l D AC b z L xs, List.forall_mem_cons.mpr ⟨so_Market_add_83 l D AC b z L xs, List.forall_mem_cons.mpr ⟨so_Market_add_85 l D AC b z L xs, List.forall_mem_cons.mpr ⟨so_Market_add_86 l D AC b z L xs, List.forall_mem_cons.mpr ⟨so_Market_add_89 l D AC b z L xs, List.forall_mem_cons.mpr ⟨so_Market_add_90 l D AC b z L xs, List.forall_mem_cons.mpr ⟨so_Market_add_93 l D AC b z L xs, List.forall_mem_cons.mpr ⟨so_Market_add_95 l D AC b z L xs, List.forall_mem_cons.mpr ⟨so_Market_add_96 l D AC b z L xs, List.forall_mem_cons.mpr ⟨so_Market_add_97 l D AC b z L xs, List.forall_mem_cons.mpr ⟨so_Market_add_100 l D AC b z L xs, List.forall_mem_cons.mpr ⟨so_Market_add_101 l D AC b z L xs, List.forall_mem_cons.mpr ⟨so_Market_add_104 l D AC b z L xs, List.forall_mem_cons.mpr ⟨so_Market_add_106 l D AC b z L xs, List.forall_mem_cons.mpr ⟨so_Market_add_107 l D AC b z L xs, List.forall_mem_cons.mpr ⟨so_Market_add_110 l D AC b z L xs, List.forall_mem_cons.mpr ⟨so_Market_add_112 l D AC b z L xs, List.forall_mem_cons.mpr ⟨so_Market_add_113 l D AC b z L xs, List.forall_mem_cons.mpr ⟨so_Market_add_114 l D AC b z L xs, List.forall_mem_cons.mpr ⟨so_Market_add_115 l D AC b z L xs, List.forall_mem_cons.mpr ⟨so_Market_add_116 l D AC b z L xs, List.forall_mem_cons.mpr ⟨so_Market_add_117 l D AC b z L xs, List.forall_mem_cons.mpr ⟨so_Market_add_120 l D AC b z L xs, List.forall_mem_cons.mpr ⟨so_Market_add_122 l D AC b z L xs, List.forall_mem_cons.mpr ⟨so_Market_add_123 l D AC b z L xs, List.forall_mem_cons.mpr ⟨so_Market_add_126 l D AC b z L xs, List.forall_mem_cons.mpr ⟨so_Market_add_128 l D AC b z L xs, List.forall_mem_cons.mpr ⟨so_Market_add_129 l D AC b z L xs, List.forall_mem_cons.mpr ⟨so_Market_add_131 l D AC b z L xs, List.forall_mem_cons.mpr ⟨so_Market_add_132 l D AC b z L xs, List.forall_mem_cons.mpr ⟨so_Market_add_133 l D AC b z L xs, List.forall_mem_cons.mpr ⟨so_Market_add_134 l D AC b z L xs, List.forall_mem_cons.mpr ⟨so_Market_add_136 l D AC b z L xs, List.forall_mem_cons.mpr ⟨so_Market_add_139 l D AC b z L xs, List.forall_mem_cons.mpr ⟨so_Market_add_142 l D AC b z L xs, List.forall_mem_cons.mpr ⟨so_Market_add_145 l D AC b z L xs, List.forall_mem_cons.mpr ⟨so_Market_add_147 l D AC b z L xs, fun _ h => absurd h List.not_mem_nil⟩⟩⟩⟩⟩⟩⟩⟩⟩⟩⟩⟩⟩⟩⟩⟩⟩⟩⟩⟩⟩⟩⟩⟩⟩⟩⟩⟩⟩⟩⟩⟩⟩⟩⟩⟩⟩⟩⟩⟩⟩⟩⟩⟩⟩⟩⟩⟩⟩⟩⟩⟩⟩⟩⟩⟩⟩⟩⟩⟩⟩⟩⟩⟩⟩⟩⟩⟩⟩⟩⟩⟩⟩⟩⟩⟩⟩⟩⟩⟩⟩⟩⟩⟩⟩⟩
theorem so_Market_weigh_0 : Snd l D AC b z L xs Gm j_Market_weigh 0 (oAld 0 1) := sn_aload_n l D AC b z L xs Gm  dX3_weigh_0 rfl
theorem so_Market_weigh_1 : Snd l D AC b z L xs Gm j_Market_weigh 1 (oGetR kc_Market 3 4) := sn_getR l D AC b z L xs Gm  dX3_weigh_1 rfl (by decide) rfl (by decide) kin_3 tw_291
theorem so_Market_weigh_4 : Snd l D AC b z L xs Gm j_Market_weigh 4 (oIld 1 5) := sn_iload_n l D AC b z L xs Gm  dX3_weigh_4 rfl
theorem so_Market_weigh_5 : Snd l D AC b z L xs Gm j_Market_weigh 5 (oIal 0 6) := sn_iaload l D AC b z L xs Gm  dX3_weigh_5 (by decide) rfl rfl rfl
theorem so_Market_weigh_6 : Snd l D AC b z L xs Gm j_Market_weigh 6 (oAld 0 7) := sn_aload_n l D AC b z L xs Gm  dX3_weigh_6 rfl
theorem so_Market_weigh_7 : Snd l D AC b z L xs Gm j_Market_weigh 7 (oGetI kc_Market 7 10) := sn_getI l D AC b z L xs Gm  dX3_weigh_7 rfl (by decide) rfl (by decide) kin_3 tw_297
theorem so_Market_weigh_10 : Snd l D AC b z L xs Gm j_Market_weigh 10 (oIC (fun x y => decide (x ≤ y)) 28 13) := sn_icmp_le l D AC b z L xs Gm  dX3_weigh_10 (by decide)
theorem so_Market_weigh_13 : Snd l D AC b z L xs Gm j_Market_weigh 13 (oAld 0 14) := sn_aload_n l D AC b z L xs Gm  dX3_weigh_13 rfl
theorem so_Market_weigh_14 : Snd l D AC b z L xs Gm j_Market_weigh 14 (oAld 0 15) := sn_aload_n l D AC b z L xs Gm  dX3_weigh_14 rfl
theorem so_Market_weigh_15 : Snd l D AC b z L xs Gm j_Market_weigh 15 (oGetR kc_Market 3 18) := sn_getR l D AC b z L xs Gm  dX3_weigh_15 rfl (by decide) rfl (by decide) kin_3 tw_291
theorem so_Market_weigh_18 : Snd l D AC b z L xs Gm j_Market_weigh 18 (oIld 1 19) := sn_iload_n l D AC b z L xs Gm  dX3_weigh_18 rfl
theorem so_Market_weigh_19 : Snd l D AC b z L xs Gm j_Market_weigh 19 (oIal 0 20) := sn_iaload l D AC b z L xs Gm  dX3_weigh_19 (by decide) rfl rfl rfl
theorem so_Market_weigh_20 : Snd l D AC b z L xs Gm j_Market_weigh 20 (oPutI kc_Market 7 23) := sn_putI l D AC b z L xs Gm  dX3_weigh_20 rfl (by decide) rfl (by decide) kin_3 tyX3_ok nmX3 tw_297 rfl rfl
theorem so_Market_weigh_23 : Snd l D AC b z L xs Gm j_Market_weigh 23 (oAld 0 24) := sn_aload_n l D AC b z L xs Gm  dX3_weigh_23 rfl
theorem so_Market_weigh_24 : Snd l D AC b z L xs Gm j_Market_weigh 24 (oIld 1 25) := sn_iload_n l D AC b z L xs Gm  dX3_weigh_24 rfl
theorem so_Market_weigh_25 : Snd l D AC b z L xs Gm j_Market_weigh 25 (oPutI kc_Market 6 28) := sn_putI l D AC b z L xs Gm  dX3_weigh_25 rfl (by decide) rfl (by decide) kin_3 tyX3_ok nmX3 tw_295 rfl rfl
theorem so_Market_weigh_28 : Snd l D AC b z L xs Gm j_Market_weigh 28 (oI 0 29) := sn_iconst l D AC b z L xs Gm  dX3_weigh_28 (by decide)
theorem so_Market_weigh_29 : Snd l D AC b z L xs Gm j_Market_weigh 29 (oIst 2 30) := sn_istore_n l D AC b z L xs Gm  dX3_weigh_29 rfl (by decide)
theorem so_Market_weigh_30 : Snd l D AC b z L xs Gm j_Market_weigh 30 (oIld 2 31) := sn_iload_n l D AC b z L xs Gm  dX3_weigh_30 rfl
theorem so_Market_weigh_31 : Snd l D AC b z L xs Gm j_Market_weigh 31 (oI 5 32) := sn_iconst l D AC b z L xs Gm  dX3_weigh_31 (by decide)
theorem so_Market_weigh_32 : Snd l D AC b z L xs Gm j_Market_weigh 32 (oIC (fun x y => decide (y ≤ x)) 84 35) := sn_icmp_ge l D AC b z L xs Gm  dX3_weigh_32 (by decide)
theorem so_Market_weigh_35 : Snd l D AC b z L xs Gm j_Market_weigh 35 (oAld 0 36) := sn_aload_n l D AC b z L xs Gm  dX3_weigh_35 rfl
theorem so_Market_weigh_36 : Snd l D AC b z L xs Gm j_Market_weigh 36 (oGetR kc_Market 2 39) := sn_getR l D AC b z L xs Gm  dX3_weigh_36 rfl (by decide) rfl (by decide) kin_3 tw_290
theorem so_Market_weigh_39 : Snd l D AC b z L xs Gm j_Market_weigh 39 (oIld 1 40) := sn_iload_n l D AC b z L xs Gm  dX3_weigh_39 rfl
theorem so_Market_weigh_40 : Snd l D AC b z L xs Gm j_Market_weigh 40 (oIal 0 41) := sn_iaload l D AC b z L xs Gm  dX3_weigh_40 (by decide) rfl rfl rfl
theorem so_Market_weigh_41 : Snd l D AC b z L xs Gm j_Market_weigh 41 (oI 6 43) := sn_bipush l D AC b z L xs Gm  dX3_weigh_41 (by decide)
theorem so_Market_weigh_43 : Snd l D AC b z L xs Gm j_Market_weigh 43 (oIld 2 44) := sn_iload_n l D AC b z L xs Gm  dX3_weigh_43 rfl
theorem so_Market_weigh_44 : Snd l D AC b z L xs Gm j_Market_weigh 44 (oII (fun x y => x + y) 45) := sn_iadd l D AC b z L xs Gm  dX3_weigh_44
theorem so_Market_weigh_45 : Snd l D AC b z L xs Gm j_Market_weigh 45 (oCallS j_S_isIn 2 (mL j_S_isIn) 48) := sn_callSN l D AC b z L xs Gm  dX3_weigh_45 rfl (hs0 (fun _ => rfl) rfl) cal_Market_weigh_S_isIn rfl (List.mem_of_getElem? (i := 5) rfl) tw_475
theorem so_Market_weigh_48 : Snd l D AC b z L xs Gm j_Market_weigh 48 (oIf (fun x => decide (¬ x = 0)) 78 51) := sn_if_ne l D AC b z L xs Gm  dX3_weigh_48 (by decide)
theorem so_Market_weigh_51 : Snd l D AC b z L xs Gm j_Market_weigh 51 (oAld 0 52) := sn_aload_n l D AC b z L xs Gm  dX3_weigh_51 rfl
theorem so_Market_weigh_52 : Snd l D AC b z L xs Gm j_Market_weigh 52 (oGetR kc_Market 3 55) := sn_getR l D AC b z L xs Gm  dX3_weigh_52 rfl (by decide) rfl (by decide) kin_3 tw_291
theorem so_Market_weigh_55 : Snd l D AC b z L xs Gm j_Market_weigh 55 (oIld 1 56) := sn_iload_n l D AC b z L xs Gm  dX3_weigh_55 rfl
theorem so_Market_weigh_56 : Snd l D AC b z L xs Gm j_Market_weigh 56 (oIal 0 57) := sn_iaload l D AC b z L xs Gm  dX3_weigh_56 (by decide) rfl rfl rfl
theorem so_Market_weigh_57 : Snd l D AC b z L xs Gm j_Market_weigh 57 (oAld 0 58) := sn_aload_n l D AC b z L xs Gm  dX3_weigh_57 rfl
theorem so_Market_weigh_58 : Snd l D AC b z L xs Gm j_Market_weigh 58 (oGetR kc_Market 4 61) := sn_getR l D AC b z L xs Gm  dX3_weigh_58 rfl (by decide) rfl (by decide) kin_3 tw_292
theorem so_Market_weigh_61 : Snd l D AC b z L xs Gm j_Market_weigh 61 (oIld 2 62) := sn_iload_n l D AC b z L xs Gm  dX3_weigh_61 rfl
theorem so_Market_weigh_62 : Snd l D AC b z L xs Gm j_Market_weigh 62 (oIal 0 63) := sn_iaload l D AC b z L xs Gm  dX3_weigh_62 (by decide) rfl rfl rfl
theorem so_Market_weigh_63 : Snd l D AC b z L xs Gm j_Market_weigh 63 (oIC (fun x y => decide (x ≤ y)) 78 66) := sn_icmp_le l D AC b z L xs Gm  dX3_weigh_63 (by decide)
theorem so_Market_weigh_66 : Snd l D AC b z L xs Gm j_Market_weigh 66 (oAld 0 67) := sn_aload_n l D AC b z L xs Gm  dX3_weigh_66 rfl
theorem so_Market_weigh_67 : Snd l D AC b z L xs Gm j_Market_weigh 67 (oGetR kc_Market 4 70) := sn_getR l D AC b z L xs Gm  dX3_weigh_67 rfl (by decide) rfl (by decide) kin_3 tw_292
theorem so_Market_weigh_70 : Snd l D AC b z L xs Gm j_Market_weigh 70 (oIld 2 71) := sn_iload_n l D AC b z L xs Gm  dX3_weigh_70 rfl
theorem so_Market_weigh_71 : Snd l D AC b z L xs Gm j_Market_weigh 71 (oAld 0 72) := sn_aload_n l D AC b z L xs Gm  dX3_weigh_71 rfl
theorem so_Market_weigh_72 : Snd l D AC b z L xs Gm j_Market_weigh 72 (oGetR kc_Market 3 75) := sn_getR l D AC b z L xs Gm  dX3_weigh_72 rfl (by decide) rfl (by decide) kin_3 tw_291
theorem so_Market_weigh_75 : Snd l D AC b z L xs Gm j_Market_weigh 75 (oIld 1 76) := sn_iload_n l D AC b z L xs Gm  dX3_weigh_75 rfl
theorem so_Market_weigh_76 : Snd l D AC b z L xs Gm j_Market_weigh 76 (oIal 0 77) := sn_iaload l D AC b z L xs Gm  dX3_weigh_76 (by decide) rfl rfl rfl
theorem so_Market_weigh_77 : Snd l D AC b z L xs Gm j_Market_weigh 77 (oIas 0 78) := sn_iastore l D AC b z L xs Gm  dX3_weigh_77 (by decide) rfl rfl
theorem so_Market_weigh_78 : Snd l D AC b z L xs Gm j_Market_weigh 78 (oInc 2 1 81) := sn_iinc l D AC b z L xs Gm  dX3_weigh_78 (by decide) (by decide)
theorem so_Market_weigh_81 : Snd l D AC b z L xs Gm j_Market_weigh 81 (oGo 30) := sn_goto l D AC b z L xs Gm  dX3_weigh_81 (by decide)
theorem so_Market_weigh_84 : Snd l D AC b z L xs Gm j_Market_weigh 84 (oRet) := sn_ret l D AC b z L xs Gm  dX3_weigh_84 rfl
set_option maxRecDepth 100000 in
theorem so_Market_weigh : ∀ q ∈ tb_Market_weigh, Snd l D AC b z L xs Gm j_Market_weigh q.1 q.2 := by
  unfold tb_Market_weigh
  exact List.forall_mem_cons.mpr ⟨so_Market_weigh_0 l D AC b z L xs, List.forall_mem_cons.mpr ⟨so_Market_weigh_1 l D AC b z L xs, List.forall_mem_cons.mpr ⟨so_Market_weigh_4 l D AC b z L xs, List.forall_mem_cons.mpr ⟨so_Market_weigh_5 l D AC b z L xs, List.forall_mem_cons.mpr ⟨so_Market_weigh_6 l D AC b z L xs, List.forall_mem_cons.mpr ⟨so_Market_weigh_7 l D AC b z L xs, List.forall_mem_cons.mpr ⟨so_Market_weigh_10 l D AC b z L xs, List.forall_mem_cons.mpr ⟨so_Market_weigh_13 l D AC b z L xs, List.forall_mem_cons.mpr ⟨so_Market_weigh_14 l D AC b z L xs, List.forall_mem_cons.mpr ⟨so_Market_weigh_15 l D AC b z L xs, List.forall_mem_cons.mpr ⟨so_Market_weigh_18 l D AC b z L xs, List.forall_mem_cons.mpr ⟨so_Market_weigh_19 l D AC b z L xs, List.forall_mem_cons.mpr ⟨so_Market_weigh_20 l D AC b z L xs, List.forall_mem_cons.mpr ⟨so_Market_weigh_23 l D AC b z L xs, List.forall_mem_cons.mpr ⟨so_Market_weigh_24 l D AC b z L xs, List.forall_mem_cons.mpr ⟨so_Market_weigh_25 l D AC b z L xs, List.forall_mem_cons.mpr ⟨so_Market_weigh_28 l D AC b z L xs, List.forall_mem_cons.mpr ⟨so_Market_weigh_29 l D AC b z L xs, List.forall_mem_cons.mpr ⟨so_Market_weigh_30 l D AC b z L xs, List.forall_mem_cons.mpr ⟨so_Market_weigh_31 l D AC b z L xs, List.forall_mem_cons.mpr ⟨so_Market_weigh_32 l D AC b z L xs, List.forall_mem_cons.mpr ⟨so_Market_weigh_35 l D AC b z L xs, List.forall_mem_cons.mpr ⟨so_Market_weigh_36 l D AC b z L xs, List.forall_mem_cons.mpr ⟨so_Market_weigh_39 l D AC b z L xs, List.forall_mem_cons.mpr ⟨so_Market_weigh_40 l D AC b z L xs, List.forall_mem_cons.mpr ⟨so_Market_weigh_41 l D AC b z L xs, List.forall_mem_cons.mpr ⟨so_Market_weigh_43 l D AC b z L xs, List.forall_mem_cons.mpr ⟨so_Market_weigh_44 l D AC b z L xs, List.forall_mem_cons.mpr ⟨so_Market_weigh_45 l D AC b z L xs, List.forall_mem_cons.mpr ⟨so_Market_weigh_48 l D AC b z L xs, List.forall_mem_cons.mpr ⟨so_Market_weigh_51 l D AC b z L xs, List.forall_mem_cons.mpr ⟨so_Market_weigh_52 l D AC b z L xs, List.forall_mem_cons.mpr ⟨so_Market_weigh_55 l D AC b z L xs, List.forall_mem_cons.mpr ⟨so_Market_weigh_56 l D AC b z L xs, List.forall_mem_cons.mpr ⟨so_Market_weigh_57 l D AC b z L xs, List.forall_mem_cons.mpr ⟨so_Market_weigh_58 l D AC b z L xs, List.forall_mem_cons.mpr ⟨so_Market_weigh_61 l D AC b z L xs, List.forall_mem_cons.mpr ⟨so_Market_weigh_62 l D AC b z L xs, List.forall_mem_cons.mpr ⟨so_Market_weigh_63 l D AC b z L xs, List.forall_mem_cons.mpr ⟨so_Market_weigh_66 l D AC b z L xs, List.forall_mem_cons.mpr ⟨so_Market_weigh_67 l D AC b z L xs, List.forall_mem_cons.mpr ⟨so_Market_weigh_70 l D AC b z L xs, List.forall_mem_cons.mpr ⟨so_Market_weigh_71 l D AC b z L xs, List.forall_mem_cons.mpr ⟨so_Market_weigh_72 l D AC b z L xs, List.forall_mem_cons.mpr ⟨so_Market_weigh_75 l D AC b z L xs, List.forall_mem_cons.mpr ⟨so_Market_weigh_76 l D AC b z L xs, List.forall_mem_cons.mpr ⟨so_Market_weigh_77 l D AC b z L xs, List.forall_mem_cons.mpr ⟨so_Market_weigh_78 l D AC b z L xs, List.forall_mem_cons.mpr ⟨so_Market_weigh_81 l D AC b z L xs, List.forall_mem_cons.mpr ⟨so_Market_weigh_84 l D AC b z L xs, fun _ h => absurd h List.not_mem_nil⟩⟩⟩⟩⟩⟩⟩⟩⟩⟩⟩⟩⟩⟩⟩⟩⟩⟩⟩⟩⟩⟩⟩⟩⟩⟩⟩⟩⟩⟩⟩⟩⟩⟩⟩⟩⟩⟩⟩⟩⟩⟩⟩⟩⟩⟩⟩⟩⟩⟩
theorem so_Market_winningPrice_0 : Snd l D AC b z L xs Gm j_Market_winningPrice 0 (oI 0 1) := sn_iconst l D AC b z L xs Gm  dX3_winningPrice_0 (by decide)
theorem so_Market_winningPrice_1 : Snd l D AC b z L xs Gm j_Market_winningPrice 1 (oIst 2 2) := sn_istore_n l D AC b z L xs Gm  dX3_winningPrice_1 rfl (by decide)
theorem so_Market_winningPrice_2 : Snd l D AC b z L xs Gm j_Market_winningPrice 2 (oIld 2 3) := sn_iload_n l D AC b z L xs Gm  dX3_winningPrice_2 rfl
theorem so_Market_winningPrice_3 : Snd l D AC b z L xs Gm j_Market_winningPrice 3 (oAld 0 4) := sn_aload_n l D AC b z L xs Gm  dX3_winningPrice_3 rfl
theorem so_Market_winningPrice_4 : Snd l D AC b z L xs Gm j_Market_winningPrice 4 (oGetI kc_Market 5 7) := sn_getI l D AC b z L xs Gm  dX3_winningPrice_4 rfl (by decide) rfl (by decide) kin_3 tw_293
theorem so_Market_winningPrice_7 : Snd l D AC b z L xs Gm j_Market_winningPrice 7 (oIC (fun x y => decide (y ≤ x)) 44 10) := sn_icmp_ge l D AC b z L xs Gm  dX3_winningPrice_7 (by decide)
theorem so_Market_winningPrice_10 : Snd l D AC b z L xs Gm j_Market_winningPrice 10 (oAld 0 11) := sn_aload_n l D AC b z L xs Gm  dX3_winningPrice_10 rfl
theorem so_Market_winningPrice_11 : Snd l D AC b z L xs Gm j_Market_winningPrice 11 (oGetI kc_Market 6 14) := sn_getI l D AC b z L xs Gm  dX3_winningPrice_11 rfl (by decide) rfl (by decide) kin_3 tw_295
theorem so_Market_winningPrice_14 : Snd l D AC b z L xs Gm j_Market_winningPrice 14 (oIld 2 15) := sn_iload_n l D AC b z L xs Gm  dX3_winningPrice_14 rfl
theorem so_Market_winningPrice_15 : Snd l D AC b z L xs Gm j_Market_winningPrice 15 (oCallS j_S_isIn 2 (mL j_S_isIn) 18) := sn_callSN l D AC b z L xs Gm  dX3_winningPrice_15 rfl (hs0 (fun _ => rfl) rfl) cal_Market_winningPrice_S_isIn rfl (List.mem_of_getElem? (i := 5) rfl) tw_475
theorem so_Market_winningPrice_18 : Snd l D AC b z L xs Gm j_Market_winningPrice 18 (oIf (fun x => decide (x = 0)) 38 21) := sn_if_eq l D AC b z L xs Gm  dX3_winningPrice_18 (by decide)
theorem so_Market_winningPrice_21 : Snd l D AC b z L xs Gm j_Market_winningPrice 21 (oAld 0 22) := sn_aload_n l D AC b z L xs Gm  dX3_winningPrice_21 rfl
theorem so_Market_winningPrice_22 : Snd l D AC b z L xs Gm j_Market_winningPrice 22 (oGetR kc_Market 0 25) := sn_getR l D AC b z L xs Gm  dX3_winningPrice_22 rfl (by decide) rfl (by decide) kin_3 tw_288
theorem so_Market_winningPrice_25 : Snd l D AC b z L xs Gm j_Market_winningPrice 25 (oIld 2 26) := sn_iload_n l D AC b z L xs Gm  dX3_winningPrice_25 rfl
theorem so_Market_winningPrice_26 : Snd l D AC b z L xs Gm j_Market_winningPrice 26 (oIal 0 27) := sn_iaload l D AC b z L xs Gm  dX3_winningPrice_26 (by decide) rfl rfl rfl
theorem so_Market_winningPrice_27 : Snd l D AC b z L xs Gm j_Market_winningPrice 27 (oIld 1 28) := sn_iload_n l D AC b z L xs Gm  dX3_winningPrice_27 rfl
theorem so_Market_winningPrice_28 : Snd l D AC b z L xs Gm j_Market_winningPrice 28 (oIC (fun x y => decide (¬ x = y)) 38 31) := sn_icmp_ne l D AC b z L xs Gm  dX3_winningPrice_28 (by decide)
theorem so_Market_winningPrice_31 : Snd l D AC b z L xs Gm j_Market_winningPrice 31 (oAld 0 32) := sn_aload_n l D AC b z L xs Gm  dX3_winningPrice_31 rfl
theorem so_Market_winningPrice_32 : Snd l D AC b z L xs Gm j_Market_winningPrice 32 (oGetR kc_Market 1 35) := sn_getR l D AC b z L xs Gm  dX3_winningPrice_32 rfl (by decide) rfl (by decide) kin_3 tw_289
theorem so_Market_winningPrice_35 : Snd l D AC b z L xs Gm j_Market_winningPrice 35 (oIld 2 36) := sn_iload_n l D AC b z L xs Gm  dX3_winningPrice_35 rfl
theorem so_Market_winningPrice_36 : Snd l D AC b z L xs Gm j_Market_winningPrice 36 (oIal 0 37) := sn_iaload l D AC b z L xs Gm  dX3_winningPrice_36 (by decide) rfl rfl rfl
theorem so_Market_winningPrice_37 : Snd l D AC b z L xs Gm j_Market_winningPrice 37 (oRetI) := sn_retI l D AC b z L xs Gm  dX3_winningPrice_37 rfl
theorem so_Market_winningPrice_38 : Snd l D AC b z L xs Gm j_Market_winningPrice 38 (oInc 2 1 41) := sn_iinc l D AC b z L xs Gm  dX3_winningPrice_38 (by decide) (by decide)
theorem so_Market_winningPrice_41 : Snd l D AC b z L xs Gm j_Market_winningPrice 41 (oGo 2) := sn_goto l D AC b z L xs Gm  dX3_winningPrice_41 (by decide)
theorem so_Market_winningPrice_44 : Snd l D AC b z L xs Gm j_Market_winningPrice 44 (oI 0 45) := sn_iconst l D AC b z L xs Gm  dX3_winningPrice_44 (by decide)
theorem so_Market_winningPrice_45 : Snd l D AC b z L xs Gm j_Market_winningPrice 45 (oRetI) := sn_retI l D AC b z L xs Gm  dX3_winningPrice_45 rfl
set_option maxRecDepth 100000 in
theorem so_Market_winningPrice : ∀ q ∈ tb_Market_winningPrice, Snd l D AC b z L xs Gm j_Market_winningPrice q.1 q.2 := by
  unfold tb_Market_winningPrice
  exact List.forall_mem_cons.mpr ⟨so_Market_winningPrice_0 l D AC b z L xs, List.forall_mem_cons.mpr ⟨so_Market_winningPrice_1 l D AC b z L xs, List.forall_mem_cons.mpr ⟨so_Market_winningPrice_2 l D AC b z L xs, List.forall_mem_cons.mpr ⟨so_Market_winningPrice_3 l D AC b z L xs, List.forall_mem_cons.mpr ⟨so_Market_winningPrice_4 l D AC b z L xs, List.forall_mem_cons.mpr ⟨so_Market_winningPrice_7 l D AC b z L xs, List.forall_mem_cons.mpr ⟨so_Market_winningPrice_10 l D AC b z L xs, List.forall_mem_cons.mpr ⟨so_Market_winningPrice_11 l D AC b z L xs, List.forall_mem_cons.mpr ⟨so_Market_winningPrice_14 l D AC b z L xs, List.forall_mem_cons.mpr ⟨so_Market_winningPrice_15 l D AC b z L xs, List.forall_mem_cons.mpr ⟨so_Market_winningPrice_18 l D AC b z L xs, List.forall_mem_cons.mpr ⟨so_Market_winningPrice_21 l D AC b z L xs, List.forall_mem_cons.mpr ⟨so_Market_winningPrice_22 l D AC b z L xs, List.forall_mem_cons.mpr ⟨so_Market_winningPrice_25 l D AC b z L xs, List.forall_mem_cons.mpr ⟨so_Market_winningPrice_26 l D AC b z L xs, List.forall_mem_cons.mpr ⟨so_Market_winningPrice_27 l D AC b z L xs, List.forall_mem_cons.mpr ⟨so_Market_winningPrice_28 l D AC b z L xs, List.forall_mem_cons.mpr ⟨so_Market_winningPrice_31 l D AC b z L xs, List.forall_mem_cons.mpr ⟨so_Market_winningPrice_32 l D AC b z L xs, List.forall_mem_cons.mpr ⟨so_Market_winningPrice_35 l D AC b z L xs, List.forall_mem_cons.mpr ⟨so_Market_winningPrice_36 l D AC b z L xs, List.forall_mem_cons.mpr ⟨so_Market_winningPrice_37 l D AC b z L xs, List.forall_mem_cons.mpr ⟨so_Market_winningPrice_38 l D AC b z L xs, List.forall_mem_cons.mpr ⟨so_Market_winningPrice_41 l D AC b z L xs, List.forall_mem_cons.mpr ⟨so_Market_winningPrice_44 l D AC b z L xs, List.forall_mem_cons.mpr ⟨so_Market_winningPrice_45 l D AC b z L xs, fun _ h => absurd h List.not_mem_nil⟩⟩⟩⟩⟩⟩⟩⟩⟩⟩⟩⟩⟩⟩⟩⟩⟩⟩⟩⟩⟩⟩⟩⟩⟩⟩
theorem so_Market_paidBy_0 : Snd l D AC b z L xs Gm j_Market_paidBy 0 (oAld 0 1) := sn_aload_n l D AC b z L xs Gm  dX3_paidBy_0 rfl
theorem so_Market_paidBy_1 : Snd l D AC b z L xs Gm j_Market_paidBy 1 (oIld 1 2) := sn_iload_n l D AC b z L xs Gm  dX3_paidBy_1 rfl
theorem so_Market_paidBy_2 : Snd l D AC b z L xs Gm j_Market_paidBy 2 (oCallV kc_Market j_Market_winningPrice 1 (mL j_Market_winningPrice) 5) := sn_callV l D AC b z L xs Gm  dX3_paidBy_2 rfl (hs0 (fun _ => rfl) rfl) cal_Market_paidBy_Market_winningPrice rfl rfl (by decide) rfl tw_634 tw_636 tw_8
theorem so_Market_paidBy_5 : Snd l D AC b z L xs Gm j_Market_paidBy 5 (oIst 2 6) := sn_istore_n l D AC b z L xs Gm  dX3_paidBy_5 rfl (by decide)
theorem so_Market_paidBy_6 : Snd l D AC b z L xs Gm j_Market_paidBy 6 (oIld 2 7) := sn_iload_n l D AC b z L xs Gm  dX3_paidBy_6 rfl
theorem so_Market_paidBy_7 : Snd l D AC b z L xs Gm j_Market_paidBy 7 (oIf (fun x => decide (¬ x = 0)) 14 10) := sn_if_ne l D AC b z L xs Gm  dX3_paidBy_7 (by decide)
theorem so_Market_paidBy_10 : Snd l D AC b z L xs Gm j_Market_paidBy 10 (oI 0 11) := sn_iconst l D AC b z L xs Gm  dX3_paidBy_10 (by decide)
theorem so_Market_paidBy_11 : Snd l D AC b z L xs Gm j_Market_paidBy 11 (oGo 27) := sn_goto l D AC b z L xs Gm  dX3_paidBy_11 (by decide)
theorem so_Market_paidBy_14 : Snd l D AC b z L xs Gm j_Market_paidBy 14 (oAld 0 15) := sn_aload_n l D AC b z L xs Gm  dX3_paidBy_14 rfl
theorem so_Market_paidBy_15 : Snd l D AC b z L xs Gm j_Market_paidBy 15 (oGetR kc_Market 4 18) := sn_getR l D AC b z L xs Gm  dX3_paidBy_15 rfl (by decide) rfl (by decide) kin_3 tw_292
theorem so_Market_paidBy_18 : Snd l D AC b z L xs Gm j_Market_paidBy 18 (oIld 1 19) := sn_iload_n l D AC b z L xs Gm  dX3_paidBy_18 rfl
theorem so_Market_paidBy_19 : Snd l D AC b z L xs Gm j_Market_paidBy 19 (oIal 0 20) := sn_iaload l D AC b z L xs Gm  dX3_paidBy_19 (by decide) rfl rfl rfl
theorem so_Market_paidBy_20 : Snd l D AC b z L xs Gm j_Market_paidBy 20 (oAld 0 21) := sn_aload_n l D AC b z L xs Gm  dX3_paidBy_20 rfl
theorem so_Market_paidBy_21 : Snd l D AC b z L xs Gm j_Market_paidBy 21 (oGetI kc_Market 7 24) := sn_getI l D AC b z L xs Gm  dX3_paidBy_21 rfl (by decide) rfl (by decide) kin_3 tw_297
theorem so_Market_paidBy_24 : Snd l D AC b z L xs Gm j_Market_paidBy 24 (oIld 2 25) := sn_iload_n l D AC b z L xs Gm  dX3_paidBy_24 rfl
theorem so_Market_paidBy_25 : Snd l D AC b z L xs Gm j_Market_paidBy 25 (oII (fun x y => x - y) 26) := sn_isub l D AC b z L xs Gm  dX3_paidBy_25
theorem so_Market_paidBy_26 : Snd l D AC b z L xs Gm j_Market_paidBy 26 (oII (fun x y => x - y) 27) := sn_isub l D AC b z L xs Gm  dX3_paidBy_26
theorem so_Market_paidBy_27 : Snd l D AC b z L xs Gm j_Market_paidBy 27 (oRetI) := sn_retI l D AC b z L xs Gm  dX3_paidBy_27 rfl
set_option maxRecDepth 100000 in
theorem so_Market_paidBy : ∀ q ∈ tb_Market_paidBy, Snd l D AC b z L xs Gm j_Market_paidBy q.1 q.2 := by
  unfold tb_Market_paidBy
  exact List.forall_mem_cons.mpr ⟨so_Market_paidBy_0 l D AC b z L xs, List.forall_mem_cons.mpr ⟨so_Market_paidBy_1 l D AC b z L xs, List.forall_mem_cons.mpr ⟨so_Market_paidBy_2 l D AC b z L xs, List.forall_mem_cons.mpr ⟨so_Market_paidBy_5 l D AC b z L xs, List.forall_mem_cons.mpr ⟨so_Market_paidBy_6 l D AC b z L xs, List.forall_mem_cons.mpr ⟨so_Market_paidBy_7 l D AC b z L xs, List.forall_mem_cons.mpr ⟨so_Market_paidBy_10 l D AC b z L xs, List.forall_mem_cons.mpr ⟨so_Market_paidBy_11 l D AC b z L xs, List.forall_mem_cons.mpr ⟨so_Market_paidBy_14 l D AC b z L xs, List.forall_mem_cons.mpr ⟨so_Market_paidBy_15 l D AC b z L xs, List.forall_mem_cons.mpr ⟨so_Market_paidBy_18 l D AC b z L xs, List.forall_mem_cons.mpr ⟨so_Market_paidBy_19 l D AC b z L xs, List.forall_mem_cons.mpr ⟨so_Market_paidBy_20 l D AC b z L xs, List.forall_mem_cons.mpr ⟨so_Market_paidBy_21 l D AC b z L xs, List.forall_mem_cons.mpr ⟨so_Market_paidBy_24 l D AC b z L xs, List.forall_mem_cons.mpr ⟨so_Market_paidBy_25 l D AC b z L xs, List.forall_mem_cons.mpr ⟨so_Market_paidBy_26 l D AC b z L xs, List.forall_mem_cons.mpr ⟨so_Market_paidBy_27 l D AC b z L xs, fun _ h => absurd h List.not_mem_nil⟩⟩⟩⟩⟩⟩⟩⟩⟩⟩⟩⟩⟩⟩⟩⟩⟩⟩
theorem so_Market_nobodyOverpays_0 : Snd l D AC b z L xs Gm j_Market_nobodyOverpays 0 (oI 0 1) := sn_iconst l D AC b z L xs Gm  dX3_nobodyOverpays_0 (by decide)
theorem so_Market_nobodyOverpays_1 : Snd l D AC b z L xs Gm j_Market_nobodyOverpays 1 (oIst 1 2) := sn_istore_n l D AC b z L xs Gm  dX3_nobodyOverpays_1 rfl (by decide)
theorem so_Market_nobodyOverpays_2 : Snd l D AC b z L xs Gm j_Market_nobodyOverpays 2 (oIld 1 3) := sn_iload_n l D AC b z L xs Gm  dX3_nobodyOverpays_2 rfl
theorem so_Market_nobodyOverpays_3 : Snd l D AC b z L xs Gm j_Market_nobodyOverpays 3 (oI 5 4) := sn_iconst l D AC b z L xs Gm  dX3_nobodyOverpays_3 (by decide)
theorem so_Market_nobodyOverpays_4 : Snd l D AC b z L xs Gm j_Market_nobodyOverpays 4 (oIC (fun x y => decide (y ≤ x)) 28 7) := sn_icmp_ge l D AC b z L xs Gm  dX3_nobodyOverpays_4 (by decide)
theorem so_Market_nobodyOverpays_7 : Snd l D AC b z L xs Gm j_Market_nobodyOverpays 7 (oAld 0 8) := sn_aload_n l D AC b z L xs Gm  dX3_nobodyOverpays_7 rfl
theorem so_Market_nobodyOverpays_8 : Snd l D AC b z L xs Gm j_Market_nobodyOverpays 8 (oIld 1 9) := sn_iload_n l D AC b z L xs Gm  dX3_nobodyOverpays_8 rfl
theorem so_Market_nobodyOverpays_9 : Snd l D AC b z L xs Gm j_Market_nobodyOverpays 9 (oCallV kc_Market j_Market_paidBy 1 (mL j_Market_paidBy) 12) := sn_callV l D AC b z L xs Gm  dX3_nobodyOverpays_9 rfl (hs0 (fun _ => rfl) rfl) cal_Market_nobodyOverpays_Market_paidBy rfl rfl (by decide) rfl tw_630 tw_631 tw_632
theorem so_Market_nobodyOverpays_12 : Snd l D AC b z L xs Gm j_Market_nobodyOverpays 12 (oAld 0 13) := sn_aload_n l D AC b z L xs Gm  dX3_nobodyOverpays_12 rfl
theorem so_Market_nobodyOverpays_13 : Snd l D AC b z L xs Gm j_Market_nobodyOverpays 13 (oIld 1 14) := sn_iload_n l D AC b z L xs Gm  dX3_nobodyOverpays_13 rfl
theorem so_Market_nobodyOverpays_14 : Snd l D AC b z L xs Gm j_Market_nobodyOverpays 14 (oCallV kc_Market j_Market_winningPrice 1 (mL j_Market_winningPrice) 17) := sn_callV l D AC b z L xs Gm  dX3_nobodyOverpays_14 rfl (hs0 (fun _ => rfl) rfl) cal_Market_nobodyOverpays_Market_winningPrice rfl rfl (by decide) rfl tw_634 tw_636 tw_8
theorem so_Market_nobodyOverpays_17 : Snd l D AC b z L xs Gm j_Market_nobodyOverpays 17 (oIC (fun x y => decide (x ≤ y)) 22 20) := sn_icmp_le l D AC b z L xs Gm  dX3_nobodyOverpays_17 (by decide)
theorem so_Market_nobodyOverpays_20 : Snd l D AC b z L xs Gm j_Market_nobodyOverpays 20 (oI 0 21) := sn_iconst l D AC b z L xs Gm  dX3_nobodyOverpays_20 (by decide)
theorem so_Market_nobodyOverpays_21 : Snd l D AC b z L xs Gm j_Market_nobodyOverpays 21 (oRetZ) := sn_retZ l D AC b z L xs Gm  dX3_nobodyOverpays_21 rfl
theorem so_Market_nobodyOverpays_22 : Snd l D AC b z L xs Gm j_Market_nobodyOverpays 22 (oInc 1 1 25) := sn_iinc l D AC b z L xs Gm  dX3_nobodyOverpays_22 (by decide) (by decide)
theorem so_Market_nobodyOverpays_25 : Snd l D AC b z L xs Gm j_Market_nobodyOverpays 25 (oGo 2) := sn_goto l D AC b z L xs Gm  dX3_nobodyOverpays_25 (by decide)
theorem so_Market_nobodyOverpays_28 : Snd l D AC b z L xs Gm j_Market_nobodyOverpays 28 (oI 1 29) := sn_iconst l D AC b z L xs Gm  dX3_nobodyOverpays_28 (by decide)
theorem so_Market_nobodyOverpays_29 : Snd l D AC b z L xs Gm j_Market_nobodyOverpays 29 (oRetZ) := sn_retZ l D AC b z L xs Gm  dX3_nobodyOverpays_29 rfl
set_option maxRecDepth 100000 in
theorem so_Market_nobodyOverpays : ∀ q ∈ tb_Market_nobodyOverpays, Snd l D AC b z L xs Gm j_Market_nobodyOverpays q.1 q.2 := by
  unfold tb_Market_nobodyOverpays
  exact List.forall_mem_cons.mpr ⟨so_Market_nobodyOverpays_0 l D AC b z L xs, List.forall_mem_cons.mpr ⟨so_Market_nobodyOverpays_1 l D AC b z L xs, List.forall_mem_cons.mpr ⟨so_Market_nobodyOverpays_2 l D AC b z L xs, List.forall_mem_cons.mpr ⟨so_Market_nobodyOverpays_3 l D AC b z L xs, List.forall_mem_cons.mpr ⟨so_Market_nobodyOverpays_4 l D AC b z L xs, List.forall_mem_cons.mpr ⟨so_Market_nobodyOverpays_7 l D AC b z L xs, List.forall_mem_cons.mpr ⟨so_Market_nobodyOverpays_8 l D AC b z L xs, List.forall_mem_cons.mpr ⟨so_Market_nobodyOverpays_9 l D AC b z L xs, List.forall_mem_cons.mpr ⟨so_Market_nobodyOverpays_12 l D AC b z L xs, List.forall_mem_cons.mpr ⟨so_Market_nobodyOverpays_13 l D AC b z L xs, List.forall_mem_cons.mpr ⟨so_Market_nobodyOverpays_14 l D AC b z L xs, List.forall_mem_cons.mpr ⟨so_Market_nobodyOverpays_17 l D AC b z L xs, List.forall_mem_cons.mpr ⟨so_Market_nobodyOverpays_20 l D AC b z L xs, List.forall_mem_cons.mpr ⟨so_Market_nobodyOverpays_21 l D AC b z L xs, List.forall_mem_cons.mpr ⟨so_Market_nobodyOverpays_22 l D AC b z L xs, List.forall_mem_cons.mpr ⟨so_Market_nobodyOverpays_25 l D AC b z L xs, List.forall_mem_cons.mpr ⟨so_Market_nobodyOverpays_28 l D AC b z L xs, List.forall_mem_cons.mpr ⟨so_Market_nobodyOverpays_29 l D AC b z L xs, fun _ h => absurd h List.not_mem_nil⟩⟩⟩⟩⟩⟩⟩⟩⟩⟩⟩⟩⟩⟩⟩⟩⟩⟩
theorem so_Market_sellAll_0 : Snd l D AC b z L xs Gm j_Market_sellAll 0 (oI 0 1) := sn_iconst l D AC b z L xs Gm  dX3_sellAll_0 (by decide)
theorem so_Market_sellAll_1 : Snd l D AC b z L xs Gm j_Market_sellAll 1 (oIst 1 2) := sn_istore_n l D AC b z L xs Gm  dX3_sellAll_1 rfl (by decide)
theorem so_Market_sellAll_2 : Snd l D AC b z L xs Gm j_Market_sellAll 2 (oI 0 3) := sn_iconst l D AC b z L xs Gm  dX3_sellAll_2 (by decide)
theorem so_Market_sellAll_3 : Snd l D AC b z L xs Gm j_Market_sellAll 3 (oIst 2 4) := sn_istore_n l D AC b z L xs Gm  dX3_sellAll_3 rfl (by decide)
theorem so_Market_sellAll_4 : Snd l D AC b z L xs Gm j_Market_sellAll 4 (oIld 2 5) := sn_iload_n l D AC b z L xs Gm  dX3_sellAll_4 rfl
theorem so_Market_sellAll_5 : Snd l D AC b z L xs Gm j_Market_sellAll 5 (oI 5 6) := sn_iconst l D AC b z L xs Gm  dX3_sellAll_5 (by decide)
theorem so_Market_sellAll_6 : Snd l D AC b z L xs Gm j_Market_sellAll 6 (oIC (fun x y => decide (y ≤ x)) 23 9) := sn_icmp_ge l D AC b z L xs Gm  dX3_sellAll_6 (by decide)
theorem so_Market_sellAll_9 : Snd l D AC b z L xs Gm j_Market_sellAll 9 (oIld 1 10) := sn_iload_n l D AC b z L xs Gm  dX3_sellAll_9 rfl
theorem so_Market_sellAll_10 : Snd l D AC b z L xs Gm j_Market_sellAll 10 (oAld 0 11) := sn_aload_n l D AC b z L xs Gm  dX3_sellAll_10 rfl
theorem so_Market_sellAll_11 : Snd l D AC b z L xs Gm j_Market_sellAll 11 (oIld 2 12) := sn_iload_n l D AC b z L xs Gm  dX3_sellAll_11 rfl
theorem so_Market_sellAll_12 : Snd l D AC b z L xs Gm j_Market_sellAll 12 (oCallV kc_Market j_Market_paidBy 1 (mL j_Market_paidBy) 15) := sn_callV l D AC b z L xs Gm  dX3_sellAll_12 rfl (hs0 (fun _ => rfl) rfl) cal_Market_sellAll_Market_paidBy rfl rfl (by decide) rfl tw_630 tw_631 tw_632
theorem so_Market_sellAll_15 : Snd l D AC b z L xs Gm j_Market_sellAll 15 (oII (fun x y => x + y) 16) := sn_iadd l D AC b z L xs Gm  dX3_sellAll_15
theorem so_Market_sellAll_16 : Snd l D AC b z L xs Gm j_Market_sellAll 16 (oIst 1 17) := sn_istore_n l D AC b z L xs Gm  dX3_sellAll_16 rfl (by decide)
theorem so_Market_sellAll_17 : Snd l D AC b z L xs Gm j_Market_sellAll 17 (oInc 2 1 20) := sn_iinc l D AC b z L xs Gm  dX3_sellAll_17 (by decide) (by decide)
theorem so_Market_sellAll_20 : Snd l D AC b z L xs Gm j_Market_sellAll 20 (oGo 4) := sn_goto l D AC b z L xs Gm  dX3_sellAll_20 (by decide)
theorem so_Market_sellAll_23 : Snd l D AC b z L xs Gm j_Market_sellAll 23 (oAld 0 24) := sn_aload_n l D AC b z L xs Gm  dX3_sellAll_23 rfl
theorem so_Market_sellAll_24 : Snd l D AC b z L xs Gm j_Market_sellAll 24 (oDup 25) := sn_dup l D AC b z L xs Gm  dX3_sellAll_24
theorem so_Market_sellAll_25 : Snd l D AC b z L xs Gm j_Market_sellAll 25 (oGetI kc_Market 8 28) := sn_getI l D AC b z L xs Gm  dX3_sellAll_25 rfl (by decide) rfl (by decide) kin_3 tw_299
theorem so_Market_sellAll_28 : Snd l D AC b z L xs Gm j_Market_sellAll 28 (oIld 1 29) := sn_iload_n l D AC b z L xs Gm  dX3_sellAll_28 rfl
theorem so_Market_sellAll_29 : Snd l D AC b z L xs Gm j_Market_sellAll 29 (oII (fun x y => x + y) 30) := sn_iadd l D AC b z L xs Gm  dX3_sellAll_29
theorem so_Market_sellAll_30 : Snd l D AC b z L xs Gm j_Market_sellAll 30 (oPutI kc_Market 8 33) := sn_putI l D AC b z L xs Gm  dX3_sellAll_30 rfl (by decide) rfl (by decide) kin_3 tyX3_ok nmX3 tw_299 rfl rfl
theorem so_Market_sellAll_33 : Snd l D AC b z L xs Gm j_Market_sellAll 33 (oAld 0 34) := sn_aload_n l D AC b z L xs Gm  dX3_sellAll_33 rfl
theorem so_Market_sellAll_34 : Snd l D AC b z L xs Gm j_Market_sellAll 34 (oCallV kc_Market j_Market_forgetBids 0 (mL j_Market_forgetBids) 37) := sn_callV l D AC b z L xs Gm  dX3_sellAll_34 rfl (hs0 (fun _ => rfl) rfl) cal_Market_sellAll_Market_forgetBids rfl rfl (by decide) rfl tw_638 tw_640 tw_9
theorem so_Market_sellAll_37 : Snd l D AC b z L xs Gm j_Market_sellAll 37 (oIld 1 38) := sn_iload_n l D AC b z L xs Gm  dX3_sellAll_37 rfl
theorem so_Market_sellAll_38 : Snd l D AC b z L xs Gm j_Market_sellAll 38 (oRetI) := sn_retI l D AC b z L xs Gm  dX3_sellAll_38 rfl
set_option maxRecDepth 100000 in
theorem so_Market_sellAll : ∀ q ∈ tb_Market_sellAll, Snd l D AC b z L xs Gm j_Market_sellAll q.1 q.2 := by
  unfold tb_Market_sellAll
  exact List.forall_mem_cons.mpr ⟨so_Market_sellAll_0 l D AC b z L xs, List.forall_mem_cons.mpr ⟨so_Market_sellAll_1 l D AC b z L xs, List.forall_mem_cons.mpr ⟨so_Market_sellAll_2 l D AC b z L xs, List.forall_mem_cons.mpr ⟨so_Market_sellAll_3 l D AC b z L xs, List.forall_mem_cons.mpr ⟨so_Market_sellAll_4 l D AC b z L xs, List.forall_mem_cons.mpr ⟨so_Market_sellAll_5 l D AC b z L xs, List.forall_mem_cons.mpr ⟨so_Market_sellAll_6 l D AC b z L xs, List.forall_mem_cons.mpr ⟨so_Market_sellAll_9 l D AC b z L xs, List.forall_mem_cons.mpr ⟨so_Market_sellAll_10 l D AC b z L xs, List.forall_mem_cons.mpr ⟨so_Market_sellAll_11 l D AC b z L xs, List.forall_mem_cons.mpr ⟨so_Market_sellAll_12 l D AC b z L xs, List.forall_mem_cons.mpr ⟨so_Market_sellAll_15 l D AC b z L xs, List.forall_mem_cons.mpr ⟨so_Market_sellAll_16 l D AC b z L xs, List.forall_mem_cons.mpr ⟨so_Market_sellAll_17 l D AC b z L xs, List.forall_mem_cons.mpr ⟨so_Market_sellAll_20 l D AC b z L xs, List.forall_mem_cons.mpr ⟨so_Market_sellAll_23 l D AC b z L xs, List.forall_mem_cons.mpr ⟨so_Market_sellAll_24 l D AC b z L xs, List.forall_mem_cons.mpr ⟨so_Market_sellAll_25 l D AC b z L xs, List.forall_mem_cons.mpr ⟨so_Market_sellAll_28 l D AC b z L xs, List.forall_mem_cons.mpr ⟨so_Market_sellAll_29 l D AC b z L xs, List.forall_mem_cons.mpr ⟨so_Market_sellAll_30 l D AC b z L xs, List.forall_mem_cons.mpr ⟨so_Market_sellAll_33 l D AC b z L xs, List.forall_mem_cons.mpr ⟨so_Market_sellAll_34 l D AC b z L xs, List.forall_mem_cons.mpr ⟨so_Market_sellAll_37 l D AC b z L xs, List.forall_mem_cons.mpr ⟨so_Market_sellAll_38 l D AC b z L xs, fun _ h => absurd h List.not_mem_nil⟩⟩⟩⟩⟩⟩⟩⟩⟩⟩⟩⟩⟩⟩⟩⟩⟩⟩⟩⟩⟩⟩⟩⟩⟩
theorem so_Market_forgetBids_0 : Snd l D AC b z L xs Gm j_Market_forgetBids 0 (oI 0 1) := sn_iconst l D AC b z L xs Gm  dX3_forgetBids_0 (by decide)
theorem so_Market_forgetBids_1 : Snd l D AC b z L xs Gm j_Market_forgetBids 1 (oIst 1 2) := sn_istore_n l D AC b z L xs Gm  dX3_forgetBids_1 rfl (by decide)
theorem so_Market_forgetBids_2 : Snd l D AC b z L xs Gm j_Market_forgetBids 2 (oIld 1 3) := sn_iload_n l D AC b z L xs Gm  dX3_forgetBids_2 rfl
theorem so_Market_forgetBids_3 : Snd l D AC b z L xs Gm j_Market_forgetBids 3 (oI 5 4) := sn_iconst l D AC b z L xs Gm  dX3_forgetBids_3 (by decide)
theorem so_Market_forgetBids_4 : Snd l D AC b z L xs Gm j_Market_forgetBids 4 (oIC (fun x y => decide (y ≤ x)) 20 7) := sn_icmp_ge l D AC b z L xs Gm  dX3_forgetBids_4 (by decide)
theorem so_Market_forgetBids_7 : Snd l D AC b z L xs Gm j_Market_forgetBids 7 (oAld 0 8) := sn_aload_n l D AC b z L xs Gm  dX3_forgetBids_7 rfl
theorem so_Market_forgetBids_8 : Snd l D AC b z L xs Gm j_Market_forgetBids 8 (oGetR kc_Market 4 11) := sn_getR l D AC b z L xs Gm  dX3_forgetBids_8 rfl (by decide) rfl (by decide) kin_3 tw_292
theorem so_Market_forgetBids_11 : Snd l D AC b z L xs Gm j_Market_forgetBids 11 (oIld 1 12) := sn_iload_n l D AC b z L xs Gm  dX3_forgetBids_11 rfl
theorem so_Market_forgetBids_12 : Snd l D AC b z L xs Gm j_Market_forgetBids 12 (oI 0 13) := sn_iconst l D AC b z L xs Gm  dX3_forgetBids_12 (by decide)
theorem so_Market_forgetBids_13 : Snd l D AC b z L xs Gm j_Market_forgetBids 13 (oIas 0 14) := sn_iastore l D AC b z L xs Gm  dX3_forgetBids_13 (by decide) rfl rfl
theorem so_Market_forgetBids_14 : Snd l D AC b z L xs Gm j_Market_forgetBids 14 (oInc 1 1 17) := sn_iinc l D AC b z L xs Gm  dX3_forgetBids_14 (by decide) (by decide)
theorem so_Market_forgetBids_17 : Snd l D AC b z L xs Gm j_Market_forgetBids 17 (oGo 2) := sn_goto l D AC b z L xs Gm  dX3_forgetBids_17 (by decide)
theorem so_Market_forgetBids_20 : Snd l D AC b z L xs Gm j_Market_forgetBids 20 (oAld 0 21) := sn_aload_n l D AC b z L xs Gm  dX3_forgetBids_20 rfl
theorem so_Market_forgetBids_21 : Snd l D AC b z L xs Gm j_Market_forgetBids 21 (oI 0 22) := sn_iconst l D AC b z L xs Gm  dX3_forgetBids_21 (by decide)
theorem so_Market_forgetBids_22 : Snd l D AC b z L xs Gm j_Market_forgetBids 22 (oPutI kc_Market 5 25) := sn_putI l D AC b z L xs Gm  dX3_forgetBids_22 rfl (by decide) rfl (by decide) kin_3 tyX3_ok nmX3 tw_293 rfl rfl
theorem so_Market_forgetBids_25 : Snd l D AC b z L xs Gm j_Market_forgetBids 25 (oAld 0 26) := sn_aload_n l D AC b z L xs Gm  dX3_forgetBids_25 rfl
theorem so_Market_forgetBids_26 : Snd l D AC b z L xs Gm j_Market_forgetBids 26 (oI 0 27) := sn_iconst l D AC b z L xs Gm  dX3_forgetBids_26 (by decide)
theorem so_Market_forgetBids_27 : Snd l D AC b z L xs Gm j_Market_forgetBids 27 (oPutI kc_Market 6 30) := sn_putI l D AC b z L xs Gm  dX3_forgetBids_27 rfl (by decide) rfl (by decide) kin_3 tyX3_ok nmX3 tw_295 rfl rfl
theorem so_Market_forgetBids_30 : Snd l D AC b z L xs Gm j_Market_forgetBids 30 (oAld 0 31) := sn_aload_n l D AC b z L xs Gm  dX3_forgetBids_30 rfl
theorem so_Market_forgetBids_31 : Snd l D AC b z L xs Gm j_Market_forgetBids 31 (oI 0 32) := sn_iconst l D AC b z L xs Gm  dX3_forgetBids_31 (by decide)
theorem so_Market_forgetBids_32 : Snd l D AC b z L xs Gm j_Market_forgetBids 32 (oPutI kc_Market 7 35) := sn_putI l D AC b z L xs Gm  dX3_forgetBids_32 rfl (by decide) rfl (by decide) kin_3 tyX3_ok nmX3 tw_297 rfl rfl
theorem so_Market_forgetBids_35 : Snd l D AC b z L xs Gm j_Market_forgetBids 35 (oRet) := sn_ret l D AC b z L xs Gm  dX3_forgetBids_35 rfl
set_option maxRecDepth 100000 in
theorem so_Market_forgetBids : ∀ q ∈ tb_Market_forgetBids, Snd l D AC b z L xs Gm j_Market_forgetBids q.1 q.2 := by
  unfold tb_Market_forgetBids
  exact List.forall_mem_cons.mpr ⟨so_Market_forgetBids_0 l D AC b z L xs, List.forall_mem_cons.mpr ⟨so_Market_forgetBids_1 l D AC b z L xs, List.forall_mem_cons.mpr ⟨so_Market_forgetBids_2 l D AC b z L xs, List.forall_mem_cons.mpr ⟨so_Market_forgetBids_3 l D AC b z L xs, List.forall_mem_cons.mpr ⟨so_Market_forgetBids_4 l D AC b z L xs, List.forall_mem_cons.mpr ⟨so_Market_forgetBids_7 l D AC b z L xs, List.forall_mem_cons.mpr ⟨so_Market_forgetBids_8 l D AC b z L xs, List.forall_mem_cons.mpr ⟨so_Market_forgetBids_11 l D AC b z L xs, List.forall_mem_cons.mpr ⟨so_Market_forgetBids_12 l D AC b z L xs, List.forall_mem_cons.mpr ⟨so_Market_forgetBids_13 l D AC b z L xs, List.forall_mem_cons.mpr ⟨so_Market_forgetBids_14 l D AC b z L xs, List.forall_mem_cons.mpr ⟨so_Market_forgetBids_17 l D AC b z L xs, List.forall_mem_cons.mpr ⟨so_Market_forgetBids_20 l D AC b z L xs, List.forall_mem_cons.mpr ⟨so_Market_forgetBids_21 l D AC b z L xs, List.forall_mem_cons.mpr ⟨so_Market_forgetBids_22 l D AC b z L xs, List.forall_mem_cons.mpr ⟨so_Market_forgetBids_25 l D AC b z L xs, List.forall_mem_cons.mpr ⟨so_Market_forgetBids_26 l D AC b z L xs, List.forall_mem_cons.mpr ⟨so_Market_forgetBids_27 l D AC b z L xs, List.forall_mem_cons.mpr ⟨so_Market_forgetBids_30 l D AC b z L xs, List.forall_mem_cons.mpr ⟨so_Market_forgetBids_31 l D AC b z L xs, List.forall_mem_cons.mpr ⟨so_Market_forgetBids_32 l D AC b z L xs, List.forall_mem_cons.mpr ⟨so_Market_forgetBids_35 l D AC b z L xs, fun _ h => absurd h List.not_mem_nil⟩⟩⟩⟩⟩⟩⟩⟩⟩⟩⟩⟩⟩⟩⟩⟩⟩⟩⟩⟩⟩⟩
theorem so_Node_init_0 : Snd l D AC b z L xs Gm j_Node_init 0 (oAld 0 1) := sn_aload_n l D AC b z L xs Gm  dX4_init_0 rfl
theorem so_Node_init_1 : Snd l D AC b z L xs Gm j_Node_init 1 (oObj 4) := sn_obj l D AC b z L xs Gm  dX4_init_1 (by decide) (by decide) tw_59 tw_45 tw_46
theorem so_Node_init_4 : Snd l D AC b z L xs Gm j_Node_init 4 (oAld 0 5) := sn_aload_n l D AC b z L xs Gm  dX4_init_4 rfl
theorem so_Node_init_5 : Snd l D AC b z L xs Gm j_Node_init 5 (oI 0 6) := sn_iconst l D AC b z L xs Gm  dX4_init_5 (by decide)
theorem so_Node_init_6 : Snd l D AC b z L xs Gm j_Node_init 6 (oPutI kc_Node 0 9) := sn_putI l D AC b z L xs Gm  dX4_init_6 rfl (by decide) rfl (by decide) kin_4 tyX4_ok nmX4 tw_126 rfl rfl
theorem so_Node_init_9 : Snd l D AC b z L xs Gm j_Node_init 9 (oAld 0 10) := sn_aload_n l D AC b z L xs Gm  dX4_init_9 rfl
theorem so_Node_init_10 : Snd l D AC b z L xs Gm j_Node_init 10 (oI 0 11) := sn_iconst l D AC b z L xs Gm  dX4_init_10 (by decide)
theorem so_Node_init_11 : Snd l D AC b z L xs Gm j_Node_init 11 (oPutI kc_Node 1 14) := sn_putI l D AC b z L xs Gm  dX4_init_11 rfl (by decide) rfl (by decide) kin_4 tyX4_ok nmX4 tw_129 rfl rfl
theorem so_Node_init_14 : Snd l D AC b z L xs Gm j_Node_init 14 (oAld 0 15) := sn_aload_n l D AC b z L xs Gm  dX4_init_14 rfl
theorem so_Node_init_15 : Snd l D AC b z L xs Gm j_Node_init 15 (oI 0 16) := sn_iconst l D AC b z L xs Gm  dX4_init_15 (by decide)
theorem so_Node_init_16 : Snd l D AC b z L xs Gm j_Node_init 16 (oPutI kc_Node 2 19) := sn_putI l D AC b z L xs Gm  dX4_init_16 rfl (by decide) rfl (by decide) kin_4 tyX4_ok nmX4 tw_132 rfl rfl
theorem so_Node_init_19 : Snd l D AC b z L xs Gm j_Node_init 19 (oAld 0 20) := sn_aload_n l D AC b z L xs Gm  dX4_init_19 rfl
theorem so_Node_init_20 : Snd l D AC b z L xs Gm j_Node_init 20 (oI 0 21) := sn_iconst l D AC b z L xs Gm  dX4_init_20 (by decide)
theorem so_Node_init_21 : Snd l D AC b z L xs Gm j_Node_init 21 (oPutZ kc_Node 3 24) := sn_putZ l D AC b z L xs Gm  dX4_init_21 rfl (by decide) rfl (by decide) kin_4 tyX4_ok nmX4 tw_135 rfl rfl
theorem so_Node_init_24 : Snd l D AC b z L xs Gm j_Node_init 24 (oAld 0 25) := sn_aload_n l D AC b z L xs Gm  dX4_init_24 rfl
theorem so_Node_init_25 : Snd l D AC b z L xs Gm j_Node_init 25 (oNew cM sM kc_FrameQueue 2 28) := sn_new l D AC b z L xs Gm  dX4_init_25 rfl (by decide) kin_1 tyX1_ok kdf_1 tw_60 tw_61 tw_25
theorem so_Node_init_28 : Snd l D AC b z L xs Gm j_Node_init 28 (oDup 29) := sn_dup l D AC b z L xs Gm  dX4_init_28
theorem so_Node_init_29 : Snd l D AC b z L xs Gm j_Node_init 29 (oCallV kc_FrameQueue j_FrameQueue_init 0 (mL j_FrameQueue_init) 32) := sn_callI l D AC b z L xs Gm  dX4_init_29 rfl (hs0 (fun _ => rfl) rfl) cal_Node_init_FrameQueue_init rfl rfl (by decide) rfl rfl tw_62 tw_63
theorem so_Node_init_32 : Snd l D AC b z L xs Gm j_Node_init 32 (oPutR kc_Node 4 35) := sn_putRF l D AC b z L xs Gm  dX4_init_32 rfl (by decide) rfl (by decide) kin_4 tyX4_ok nmX4 tw_139 rfl rfl rfl (Or.inl ⟨_, rfl⟩)
theorem so_Node_init_35 : Snd l D AC b z L xs Gm j_Node_init 35 (oAld 0 36) := sn_aload_n l D AC b z L xs Gm  dX4_init_35 rfl
theorem so_Node_init_36 : Snd l D AC b z L xs Gm j_Node_init 36 (oI 0 37) := sn_iconst l D AC b z L xs Gm  dX4_init_36 (by decide)
theorem so_Node_init_37 : Snd l D AC b z L xs Gm j_Node_init 37 (oPutI kc_Node 5 40) := sn_putI l D AC b z L xs Gm  dX4_init_37 rfl (by decide) rfl (by decide) kin_4 tyX4_ok nmX4 tw_143 rfl rfl
theorem so_Node_init_40 : Snd l D AC b z L xs Gm j_Node_init 40 (oAld 0 41) := sn_aload_n l D AC b z L xs Gm  dX4_init_40 rfl
theorem so_Node_init_41 : Snd l D AC b z L xs Gm j_Node_init 41 (oI 0 42) := sn_iconst l D AC b z L xs Gm  dX4_init_41 (by decide)
theorem so_Node_init_42 : Snd l D AC b z L xs Gm j_Node_init 42 (oPutI kc_Node 6 45) := sn_putI l D AC b z L xs Gm  dX4_init_42 rfl (by decide) rfl (by decide) kin_4 tyX4_ok nmX4 tw_146 rfl rfl
theorem so_Node_init_45 : Snd l D AC b z L xs Gm j_Node_init 45 (oAld 0 46) := sn_aload_n l D AC b z L xs Gm  dX4_init_45 rfl
theorem so_Node_init_46 : Snd l D AC b z L xs Gm j_Node_init 46 (oI 0 47) := sn_iconst l D AC b z L xs Gm  dX4_init_46 (by decide)
theorem so_Node_init_47 : Snd l D AC b z L xs Gm j_Node_init 47 (oPutI kc_Node 7 50) := sn_putI l D AC b z L xs Gm  dX4_init_47 rfl (by decide) rfl (by decide) kin_4 tyX4_ok nmX4 tw_149 rfl rfl
theorem so_Node_init_50 : Snd l D AC b z L xs Gm j_Node_init 50 (oAld 0 51) := sn_aload_n l D AC b z L xs Gm  dX4_init_50 rfl
theorem so_Node_init_51 : Snd l D AC b z L xs Gm j_Node_init 51 (oI (-1) 52) := sn_iconst l D AC b z L xs Gm  dX4_init_51 (by decide)
theorem so_Node_init_52 : Snd l D AC b z L xs Gm j_Node_init 52 (oPutI kc_Node 8 55) := sn_putI l D AC b z L xs Gm  dX4_init_52 rfl (by decide) rfl (by decide) kin_4 tyX4_ok nmX4 tw_152 rfl rfl
theorem so_Node_init_55 : Snd l D AC b z L xs Gm j_Node_init 55 (oAld 0 56) := sn_aload_n l D AC b z L xs Gm  dX4_init_55 rfl
theorem so_Node_init_56 : Snd l D AC b z L xs Gm j_Node_init 56 (oI 0 57) := sn_iconst l D AC b z L xs Gm  dX4_init_56 (by decide)
theorem so_Node_init_57 : Snd l D AC b z L xs Gm j_Node_init 57 (oPutZ kc_Node 9 60) := sn_putZ l D AC b z L xs Gm  dX4_init_57 rfl (by decide) rfl (by decide) kin_4 tyX4_ok nmX4 tw_155 rfl rfl
theorem so_Node_init_60 : Snd l D AC b z L xs Gm j_Node_init 60 (oAld 0 61) := sn_aload_n l D AC b z L xs Gm  dX4_init_60 rfl
theorem so_Node_init_61 : Snd l D AC b z L xs Gm j_Node_init 61 (oI 0 62) := sn_iconst l D AC b z L xs Gm  dX4_init_61 (by decide)
theorem so_Node_init_62 : Snd l D AC b z L xs Gm j_Node_init 62 (oPutI kc_Node 10 65) := sn_putI l D AC b z L xs Gm  dX4_init_62 rfl (by decide) rfl (by decide) kin_4 tyX4_ok nmX4 tw_157 rfl rfl
theorem so_Node_init_65 : Snd l D AC b z L xs Gm j_Node_init 65 (oAld 0 66) := sn_aload_n l D AC b z L xs Gm  dX4_init_65 rfl
theorem so_Node_init_66 : Snd l D AC b z L xs Gm j_Node_init 66 (oI 0 67) := sn_iconst l D AC b z L xs Gm  dX4_init_66 (by decide)
theorem so_Node_init_67 : Snd l D AC b z L xs Gm j_Node_init 67 (oPutI kc_Node 11 70) := sn_putI l D AC b z L xs Gm  dX4_init_67 rfl (by decide) rfl (by decide) kin_4 tyX4_ok nmX4 tw_160 rfl rfl
theorem so_Node_init_70 : Snd l D AC b z L xs Gm j_Node_init 70 (oAld 0 71) := sn_aload_n l D AC b z L xs Gm  dX4_init_70 rfl
theorem so_Node_init_71 : Snd l D AC b z L xs Gm j_Node_init 71 (oI 0 72) := sn_iconst l D AC b z L xs Gm  dX4_init_71 (by decide)
theorem so_Node_init_72 : Snd l D AC b z L xs Gm j_Node_init 72 (oPutI kc_Node 12 75) := sn_putI l D AC b z L xs Gm  dX4_init_72 rfl (by decide) rfl (by decide) kin_4 tyX4_ok nmX4 tw_162 rfl rfl
theorem so_Node_init_75 : Snd l D AC b z L xs Gm j_Node_init 75 (oAld 0 76) := sn_aload_n l D AC b z L xs Gm  dX4_init_75 rfl
theorem so_Node_init_76 : Snd l D AC b z L xs Gm j_Node_init 76 (oI 0 77) := sn_iconst l D AC b z L xs Gm  dX4_init_76 (by decide)
theorem so_Node_init_77 : Snd l D AC b z L xs Gm j_Node_init 77 (oPutI kc_Node 13 80) := sn_putI l D AC b z L xs Gm  dX4_init_77 rfl (by decide) rfl (by decide) kin_4 tyX4_ok nmX4 tw_165 rfl rfl
theorem so_Node_init_80 : Snd l D AC b z L xs Gm j_Node_init 80 (oAld 0 81) := sn_aload_n l D AC b z L xs Gm  dX4_init_80 rfl
theorem so_Node_init_81 : Snd l D AC b z L xs Gm j_Node_init 81 (oI 0 82) := sn_iconst l D AC b z L xs Gm  dX4_init_81 (by decide)
theorem so_Node_init_82 : Snd l D AC b z L xs Gm j_Node_init 82 (oPutI kc_Node 14 85) := sn_putI l D AC b z L xs Gm  dX4_init_82 rfl (by decide) rfl (by decide) kin_4 tyX4_ok nmX4 tw_168 rfl rfl
theorem so_Node_init_85 : Snd l D AC b z L xs Gm j_Node_init 85 (oAld 0 86) := sn_aload_n l D AC b z L xs Gm  dX4_init_85 rfl
theorem so_Node_init_86 : Snd l D AC b z L xs Gm j_Node_init 86 (oNew cM sM kc_NumberSet 1 89) := sn_new l D AC b z L xs Gm  dX4_init_86 rfl (by decide) kin_5 tyX5_ok kdf_5 tw_115 tw_116 tw_27
theorem so_Node_init_89 : Snd l D AC b z L xs Gm j_Node_init 89 (oDup 90) := sn_dup l D AC b z L xs Gm  dX4_init_89
theorem so_Node_init_90 : Snd l D AC b z L xs Gm j_Node_init 90 (oCallV kc_NumberSet j_NumberSet_init 0 (mL j_NumberSet_init) 93) := sn_callIN l D AC b z L xs Gm  dX4_init_90 rfl (hs0 (fun _ => rfl) rfl) cal_Node_init_NumberSet_init rfl rfl (by decide) rfl rfl (List.mem_of_getElem? (i := 2) rfl) tw_118
theorem so_Node_init_93 : Snd l D AC b z L xs Gm j_Node_init 93 (oPutR kc_Node 15 96) := sn_putRF l D AC b z L xs Gm  dX4_init_93 rfl (by decide) rfl (by decide) kin_4 tyX4_ok nmX4 tw_170 rfl rfl rfl (Or.inl ⟨_, rfl⟩)
theorem so_Node_init_96 : Snd l D AC b z L xs Gm j_Node_init 96 (oRet) := sn_ret l D AC b z L xs Gm  dX4_init_96 rfl
set_option maxRecDepth 100000 in
theorem so_Node_init : ∀ q ∈ tb_Node_init, Snd l D AC b z L xs Gm j_Node_init q.1 q.2 := by
  unfold tb_Node_init
  exact List.forall_mem_cons.mpr ⟨so_Node_init_0 l D AC b z L xs, List.forall_mem_cons.mpr ⟨so_Node_init_1 l D AC b z L xs, List.forall_mem_cons.mpr ⟨so_Node_init_4 l D AC b z L xs, List.forall_mem_cons.mpr ⟨so_Node_init_5 l D AC b z L xs, List.forall_mem_cons.mpr ⟨so_Node_init_6 l D AC b z L xs, List.forall_mem_cons.mpr ⟨so_Node_init_9 l D AC b z L xs, List.forall_mem_cons.mpr ⟨so_Node_init_10 l D AC b z L xs, List.forall_mem_cons.mpr ⟨so_Node_init_11 l D AC b z L xs, List.forall_mem_cons.mpr ⟨so_Node_init_14 l D AC b z L xs, List.forall_mem_cons.mpr ⟨so_Node_init_15 l D AC b z L xs, List.forall_mem_cons.mpr ⟨so_Node_init_16 l D AC b z L xs, List.forall_mem_cons.mpr ⟨so_Node_init_19 l D AC b z L xs, List.forall_mem_cons.mpr ⟨so_Node_init_20 l D AC b z L xs, List.forall_mem_cons.mpr ⟨so_Node_init_21 l D AC b z L xs, List.forall_mem_cons.mpr ⟨so_Node_init_24 l D AC b z L xs, List.forall_mem_cons.mpr ⟨so_Node_init_25 l D AC b z L xs, List.forall_mem_cons.mpr ⟨so_Node_init_28 l D AC b z L xs, List.forall_mem_cons.mpr ⟨so_Node_init_29 l D AC b z L xs, List.forall_mem_cons.mpr ⟨so_Node_init_32 l D AC b z L xs, List.forall_mem_cons.mpr ⟨so_Node_init_35 l D AC b z L xs, List.forall_mem_cons.mpr ⟨so_Node_init_36 l D AC b z L xs, List.forall_mem_cons.mpr ⟨so_Node_init_37 l D AC b z L xs, List.forall_mem_cons.mpr ⟨so_Node_init_40 l D AC b z L xs, List.forall_mem_cons.mpr ⟨so_Node_init_41 l D AC b z L xs, List.forall_mem_cons.mpr ⟨so_Node_init_42 l D AC b z L xs, List.forall_mem_cons.mpr ⟨so_Node_init_45 l D AC b z L xs, List.forall_mem_cons.mpr ⟨so_Node_init_46 l D AC b z L xs, List.forall_mem_cons.mpr ⟨so_Node_init_47 l D AC b z L xs, List.forall_mem_cons.mpr ⟨so_Node_init_50 l D AC b z L xs, List.forall_mem_cons.mpr ⟨so_Node_init_51 l D AC b z L xs, List.forall_mem_cons.mpr ⟨so_Node_init_52 l D AC b z L xs, List.forall_mem_cons.mpr ⟨so_Node_init_55 l D AC b z L xs, List.forall_mem_cons.mpr ⟨so_Node_init_56 l D AC b z L xs, List.forall_mem_cons.mpr ⟨so_Node_init_57 l D AC b z L xs, List.forall_mem_cons.mpr ⟨so_Node_init_60 l D AC b z L xs, List.forall_mem_cons.mpr ⟨so_Node_init_61 l D AC b z L xs, List.forall_mem_cons.mpr ⟨so_Node_init_62 l D AC b z L xs, List.forall_mem_cons.mpr ⟨so_Node_init_65 l D AC b z L xs, List.forall_mem_cons.mpr ⟨so_Node_init_66 l D AC b z L xs, List.forall_mem_cons.mpr ⟨so_Node_init_67 l D AC b z L xs, List.forall_mem_cons.mpr ⟨so_Node_init_70 l D AC b z L xs, List.forall_mem_cons.mpr ⟨so_Node_init_71 l D AC b z L xs, List.forall_mem_cons.mpr ⟨so_Node_init_72 l D AC b z L xs, List.forall_mem_cons.mpr ⟨so_Node_init_75 l D AC b z L xs, List.forall_mem_cons.mpr ⟨so_Node_init_76 l D AC b z L xs, List.forall_mem_cons.mpr ⟨so_Node_init_77 l D AC b z L xs, List.forall_mem_cons.mpr ⟨so_Node_init_80 l D AC b z L xs, List.forall_mem_cons.mpr ⟨so_Node_init_81 l D AC b z L xs, List.forall_mem_cons.mpr ⟨so_Node_init_82 l D AC b z L xs, List.forall_mem_cons.mpr ⟨so_Node_init_85 l D AC b z L xs, List.forall_mem_cons.mpr ⟨so_Node_init_86 l D AC b z L xs, List.forall_mem_cons.mpr ⟨so_Node_init_89 l D AC b z L xs, List.forall_mem_cons.mpr ⟨so_Node_init_90 l D AC b z L xs, List.forall_mem_cons.mpr ⟨so_Node_init_93 l D AC b z L xs, List.forall_mem_cons.mpr ⟨so_Node_init_96 l D AC b z L xs, fun _ h => absurd h List.not_mem_nil⟩⟩⟩⟩⟩⟩⟩⟩⟩⟩⟩⟩⟩⟩⟩⟩⟩⟩⟩⟩⟩⟩⟩⟩⟩⟩⟩⟩⟩⟩⟩⟩⟩⟩⟩⟩⟩⟩⟩⟩⟩⟩⟩⟩⟩⟩⟩⟩⟩⟩⟩⟩⟩⟩⟩
theorem so_Node_isSending_0 : Snd l D AC b z L xs Gm j_Node_isSending 0 (oAld 0 1) := sn_aload_n l D AC b z L xs Gm  dX4_isSending_0 rfl
theorem so_Node_isSending_1 : Snd l D AC b z L xs Gm j_Node_isSending 1 (oGetI kc_Node 7 4) := sn_getI l D AC b z L xs Gm  dX4_isSending_1 rfl (by decide) rfl (by decide) kin_4 tw_149
theorem so_Node_isSending_4 : Snd l D AC b z L xs Gm j_Node_isSending 4 (oIf (fun x => decide (x ≤ 0)) 11 7) := sn_if_le l D AC b z L xs Gm  dX4_isSending_4 (by decide)
theorem so_Node_isSending_7 : Snd l D AC b z L xs Gm j_Node_isSending 7 (oI 1 8) := sn_iconst l D AC b z L xs Gm  dX4_isSending_7 (by decide)
theorem so_Node_isSending_8 : Snd l D AC b z L xs Gm j_Node_isSending 8 (oGo 12) := sn_goto l D AC b z L xs Gm  dX4_isSending_8 (by decide)
theorem so_Node_isSending_11 : Snd l D AC b z L xs Gm j_Node_isSending 11 (oI 0 12) := sn_iconst l D AC b z L xs Gm  dX4_isSending_11 (by decide)
theorem so_Node_isSending_12 : Snd l D AC b z L xs Gm j_Node_isSending 12 (oRetZ) := sn_retZ l D AC b z L xs Gm  dX4_isSending_12 rfl
set_option maxRecDepth 100000 in
theorem so_Node_isSending : ∀ q ∈ tb_Node_isSending, Snd l D AC b z L xs Gm j_Node_isSending q.1 q.2 := by
  unfold tb_Node_isSending
  exact List.forall_mem_cons.mpr ⟨so_Node_isSending_0 l D AC b z L xs, List.forall_mem_cons.mpr ⟨so_Node_isSending_1 l D AC b z L xs, List.forall_mem_cons.mpr ⟨so_Node_isSending_4 l D AC b z L xs, List.forall_mem_cons.mpr ⟨so_Node_isSending_7 l D AC b z L xs, List.forall_mem_cons.mpr ⟨so_Node_isSending_8 l D AC b z L xs, List.forall_mem_cons.mpr ⟨so_Node_isSending_11 l D AC b z L xs, List.forall_mem_cons.mpr ⟨so_Node_isSending_12 l D AC b z L xs, fun _ h => absurd h List.not_mem_nil⟩⟩⟩⟩⟩⟩⟩
theorem so_Node_begin_0 : Snd l D AC b z L xs Gm j_Node_begin 0 (oAld 0 1) := sn_aload_n l D AC b z L xs Gm  dX4_begin_0 rfl
theorem so_Node_begin_1 : Snd l D AC b z L xs Gm j_Node_begin 1 (oDup 2) := sn_dup l D AC b z L xs Gm  dX4_begin_1
theorem so_Node_begin_2 : Snd l D AC b z L xs Gm j_Node_begin 2 (oGetI kc_Node 11 5) := sn_getI l D AC b z L xs Gm  dX4_begin_2 rfl (by decide) rfl (by decide) kin_4 tw_160
theorem so_Node_begin_5 : Snd l D AC b z L xs Gm j_Node_begin 5 (oI 1 6) := sn_iconst l D AC b z L xs Gm  dX4_begin_5 (by decide)
theorem so_Node_begin_6 : Snd l D AC b z L xs Gm j_Node_begin 6 (oII (fun x y => x + y) 7) := sn_iadd l D AC b z L xs Gm  dX4_begin_6
theorem so_Node_begin_7 : Snd l D AC b z L xs Gm j_Node_begin 7 (oPutI kc_Node 11 10) := sn_putI l D AC b z L xs Gm  dX4_begin_7 rfl (by decide) rfl (by decide) kin_4 tyX4_ok nmX4 tw_160 rfl rfl
theorem so_Node_begin_10 : Snd l D AC b z L xs Gm j_Node_begin 10 (oAld 0 11) := sn_aload_n l D AC b z L xs Gm  dX4_begin_10 rfl
theorem so_Node_begin_11 : Snd l D AC b z L xs Gm j_Node_begin 11 (oIld 1 12) := sn_iload_n l D AC b z L xs Gm  dX4_begin_11 rfl
theorem so_Node_begin_12 : Snd l D AC b z L xs Gm j_Node_begin 12 (oPutI kc_Node 7 15) := sn_putI l D AC b z L xs Gm  dX4_begin_12 rfl (by decide) rfl (by decide) kin_4 tyX4_ok nmX4 tw_149 rfl rfl
theorem so_Node_begin_15 : Snd l D AC b z L xs Gm j_Node_begin 15 (oAld 0 16) := sn_aload_n l D AC b z L xs Gm  dX4_begin_15 rfl
theorem so_Node_begin_16 : Snd l D AC b z L xs Gm j_Node_begin 16 (oIld 2 17) := sn_iload_n l D AC b z L xs Gm  dX4_begin_16 rfl
theorem so_Node_begin_17 : Snd l D AC b z L xs Gm j_Node_begin 17 (oPutI kc_Node 8 20) := sn_putI l D AC b z L xs Gm  dX4_begin_17 rfl (by decide) rfl (by decide) kin_4 tyX4_ok nmX4 tw_152 rfl rfl
theorem so_Node_begin_20 : Snd l D AC b z L xs Gm j_Node_begin 20 (oAld 0 21) := sn_aload_n l D AC b z L xs Gm  dX4_begin_20 rfl
theorem so_Node_begin_21 : Snd l D AC b z L xs Gm j_Node_begin 21 (oI 1 22) := sn_iconst l D AC b z L xs Gm  dX4_begin_21 (by decide)
theorem so_Node_begin_22 : Snd l D AC b z L xs Gm j_Node_begin 22 (oPutZ kc_Node 9 25) := sn_putZ l D AC b z L xs Gm  dX4_begin_22 rfl (by decide) rfl (by decide) kin_4 tyX4_ok nmX4 tw_155 rfl rfl
theorem so_Node_begin_25 : Snd l D AC b z L xs Gm j_Node_begin 25 (oRet) := sn_ret l D AC b z L xs Gm  dX4_begin_25 rfl
set_option maxRecDepth 100000 in
theorem so_Node_begin : ∀ q ∈ tb_Node_begin, Snd l D AC b z L xs Gm j_Node_begin q.1 q.2 := by
  unfold tb_Node_begin
  exact List.forall_mem_cons.mpr ⟨so_Node_begin_0 l D AC b z L xs, List.forall_mem_cons.mpr ⟨so_Node_begin_1 l D AC b z L xs, List.forall_mem_cons.mpr ⟨so_Node_begin_2 l D AC b z L xs, List.forall_mem_cons.mpr ⟨so_Node_begin_5 l D AC b z L xs, List.forall_mem_cons.mpr ⟨so_Node_begin_6 l D AC b z L xs, List.forall_mem_cons.mpr ⟨so_Node_begin_7 l D AC b z L xs, List.forall_mem_cons.mpr ⟨so_Node_begin_10 l D AC b z L xs, List.forall_mem_cons.mpr ⟨so_Node_begin_11 l D AC b z L xs, List.forall_mem_cons.mpr ⟨so_Node_begin_12 l D AC b z L xs, List.forall_mem_cons.mpr ⟨so_Node_begin_15 l D AC b z L xs, List.forall_mem_cons.mpr ⟨so_Node_begin_16 l D AC b z L xs, List.forall_mem_cons.mpr ⟨so_Node_begin_17 l D AC b z L xs, List.forall_mem_cons.mpr ⟨so_Node_begin_20 l D AC b z L xs, List.forall_mem_cons.mpr ⟨so_Node_begin_21 l D AC b z L xs, List.forall_mem_cons.mpr ⟨so_Node_begin_22 l D AC b z L xs, List.forall_mem_cons.mpr ⟨so_Node_begin_25 l D AC b z L xs, fun _ h => absurd h List.not_mem_nil⟩⟩⟩⟩⟩⟩⟩⟩⟩⟩⟩⟩⟩⟩⟩⟩
theorem so_Node_finishFirst_0 : Snd l D AC b z L xs Gm j_Node_finishFirst 0 (oAld 0 1) := sn_aload_n l D AC b z L xs Gm  dX4_finishFirst_0 rfl
theorem so_Node_finishFirst_1 : Snd l D AC b z L xs Gm j_Node_finishFirst 1 (oGetR kc_Node 4 4) := sn_getR l D AC b z L xs Gm  dX4_finishFirst_1 rfl (by decide) rfl (by decide) kin_4 tw_139
theorem so_Node_finishFirst_4 : Snd l D AC b z L xs Gm j_Node_finishFirst 4 (oCallV kc_FrameQueue j_FrameQueue_removeFirst 0 (mL j_FrameQueue_removeFirst) 7) := sn_callV l D AC b z L xs Gm  dX4_finishFirst_4 rfl (hs0 (fun _ => rfl) rfl) cal_Node_finishFirst_FrameQueue_removeFirst rfl rfl (by decide) rfl tw_675 tw_676 tw_677
theorem so_Node_finishFirst_7 : Snd l D AC b z L xs Gm j_Node_finishFirst 7 (oAld 0 8) := sn_aload_n l D AC b z L xs Gm  dX4_finishFirst_7 rfl
theorem so_Node_finishFirst_8 : Snd l D AC b z L xs Gm j_Node_finishFirst 8 (oI 0 9) := sn_iconst l D AC b z L xs Gm  dX4_finishFirst_8 (by decide)
theorem so_Node_finishFirst_9 : Snd l D AC b z L xs Gm j_Node_finishFirst 9 (oPutI kc_Node 6 12) := sn_putI l D AC b z L xs Gm  dX4_finishFirst_9 rfl (by decide) rfl (by decide) kin_4 tyX4_ok nmX4 tw_146 rfl rfl
theorem so_Node_finishFirst_12 : Snd l D AC b z L xs Gm j_Node_finishFirst 12 (oRet) := sn_ret l D AC b z L xs Gm  dX4_finishFirst_12 rfl
set_option maxRecDepth 100000 in
theorem so_Node_finishFirst : ∀ q ∈ tb_Node_finishFirst, Snd l D AC b z L xs Gm j_Node_finishFirst q.1 q.2 := by
  unfold tb_Node_finishFirst
  exact List.forall_mem_cons.mpr ⟨so_Node_finishFirst_0 l D AC b z L xs, List.forall_mem_cons.mpr ⟨so_Node_finishFirst_1 l D AC b z L xs, List.forall_mem_cons.mpr ⟨so_Node_finishFirst_4 l D AC b z L xs, List.forall_mem_cons.mpr ⟨so_Node_finishFirst_7 l D AC b z L xs, List.forall_mem_cons.mpr ⟨so_Node_finishFirst_8 l D AC b z L xs, List.forall_mem_cons.mpr ⟨so_Node_finishFirst_9 l D AC b z L xs, List.forall_mem_cons.mpr ⟨so_Node_finishFirst_12 l D AC b z L xs, fun _ h => absurd h List.not_mem_nil⟩⟩⟩⟩⟩⟩⟩
theorem so_Node_waitAgain_0 : Snd l D AC b z L xs Gm j_Node_waitAgain 0 (oAld 0 1) := sn_aload_n l D AC b z L xs Gm  dX4_waitAgain_0 rfl
theorem so_Node_waitAgain_1 : Snd l D AC b z L xs Gm j_Node_waitAgain 1 (oIld 1 2) := sn_iload_n l D AC b z L xs Gm  dX4_waitAgain_1 rfl
theorem so_Node_waitAgain_2 : Snd l D AC b z L xs Gm j_Node_waitAgain 2 (oPutI kc_Node 5 5) := sn_putI l D AC b z L xs Gm  dX4_waitAgain_2 rfl (by decide) rfl (by decide) kin_4 tyX4_ok nmX4 tw_143 rfl rfl
theorem so_Node_waitAgain_5 : Snd l D AC b z L xs Gm j_Node_waitAgain 5 (oAld 0 6) := sn_aload_n l D AC b z L xs Gm  dX4_waitAgain_5 rfl
theorem so_Node_waitAgain_6 : Snd l D AC b z L xs Gm j_Node_waitAgain 6 (oDup 7) := sn_dup l D AC b z L xs Gm  dX4_waitAgain_6
theorem so_Node_waitAgain_7 : Snd l D AC b z L xs Gm j_Node_waitAgain 7 (oGetI kc_Node 12 10) := sn_getI l D AC b z L xs Gm  dX4_waitAgain_7 rfl (by decide) rfl (by decide) kin_4 tw_162
theorem so_Node_waitAgain_10 : Snd l D AC b z L xs Gm j_Node_waitAgain 10 (oIld 1 11) := sn_iload_n l D AC b z L xs Gm  dX4_waitAgain_10 rfl
theorem so_Node_waitAgain_11 : Snd l D AC b z L xs Gm j_Node_waitAgain 11 (oII (fun x y => x + y) 12) := sn_iadd l D AC b z L xs Gm  dX4_waitAgain_11
theorem so_Node_waitAgain_12 : Snd l D AC b z L xs Gm j_Node_waitAgain 12 (oPutI kc_Node 12 15) := sn_putI l D AC b z L xs Gm  dX4_waitAgain_12 rfl (by decide) rfl (by decide) kin_4 tyX4_ok nmX4 tw_162 rfl rfl
theorem so_Node_waitAgain_15 : Snd l D AC b z L xs Gm j_Node_waitAgain 15 (oAld 0 16) := sn_aload_n l D AC b z L xs Gm  dX4_waitAgain_15 rfl
theorem so_Node_waitAgain_16 : Snd l D AC b z L xs Gm j_Node_waitAgain 16 (oDup 17) := sn_dup l D AC b z L xs Gm  dX4_waitAgain_16
theorem so_Node_waitAgain_17 : Snd l D AC b z L xs Gm j_Node_waitAgain 17 (oGetI kc_Node 13 20) := sn_getI l D AC b z L xs Gm  dX4_waitAgain_17 rfl (by decide) rfl (by decide) kin_4 tw_165
theorem so_Node_waitAgain_20 : Snd l D AC b z L xs Gm j_Node_waitAgain 20 (oI 1 21) := sn_iconst l D AC b z L xs Gm  dX4_waitAgain_20 (by decide)
theorem so_Node_waitAgain_21 : Snd l D AC b z L xs Gm j_Node_waitAgain 21 (oII (fun x y => x + y) 22) := sn_iadd l D AC b z L xs Gm  dX4_waitAgain_21
theorem so_Node_waitAgain_22 : Snd l D AC b z L xs Gm j_Node_waitAgain 22 (oPutI kc_Node 13 25) := sn_putI l D AC b z L xs Gm  dX4_waitAgain_22 rfl (by decide) rfl (by decide) kin_4 tyX4_ok nmX4 tw_165 rfl rfl
theorem so_Node_waitAgain_25 : Snd l D AC b z L xs Gm j_Node_waitAgain 25 (oRet) := sn_ret l D AC b z L xs Gm  dX4_waitAgain_25 rfl
set_option maxRecDepth 100000 in
theorem so_Node_waitAgain : ∀ q ∈ tb_Node_waitAgain, Snd l D AC b z L xs Gm j_Node_waitAgain q.1 q.2 := by
  unfold tb_Node_waitAgain
  exact List.forall_mem_cons.mpr ⟨so_Node_waitAgain_0 l D AC b z L xs, List.forall_mem_cons.mpr ⟨so_Node_waitAgain_1 l D AC b z L xs, List.forall_mem_cons.mpr ⟨so_Node_waitAgain_2 l D AC b z L xs, List.forall_mem_cons.mpr ⟨so_Node_waitAgain_5 l D AC b z L xs, List.forall_mem_cons.mpr ⟨so_Node_waitAgain_6 l D AC b z L xs, List.forall_mem_cons.mpr ⟨so_Node_waitAgain_7 l D AC b z L xs, List.forall_mem_cons.mpr ⟨so_Node_waitAgain_10 l D AC b z L xs, List.forall_mem_cons.mpr ⟨so_Node_waitAgain_11 l D AC b z L xs, List.forall_mem_cons.mpr ⟨so_Node_waitAgain_12 l D AC b z L xs, List.forall_mem_cons.mpr ⟨so_Node_waitAgain_15 l D AC b z L xs, List.forall_mem_cons.mpr ⟨so_Node_waitAgain_16 l D AC b z L xs, List.forall_mem_cons.mpr ⟨so_Node_waitAgain_17 l D AC b z L xs, List.forall_mem_cons.mpr ⟨so_Node_waitAgain_20 l D AC b z L xs, List.forall_mem_cons.mpr ⟨so_Node_waitAgain_21 l D AC b z L xs, List.forall_mem_cons.mpr ⟨so_Node_waitAgain_22 l D AC b z L xs, List.forall_mem_cons.mpr ⟨so_Node_waitAgain_25 l D AC b z L xs, fun _ h => absurd h List.not_mem_nil⟩⟩⟩⟩⟩⟩⟩⟩⟩⟩⟩⟩⟩⟩⟩⟩
theorem so_Node_isInOrder_0 : Snd l D AC b z L xs Gm j_Node_isInOrder 0 (oAld 0 1) := sn_aload_n l D AC b z L xs Gm  dX4_isInOrder_0 rfl
theorem so_Node_isInOrder_1 : Snd l D AC b z L xs Gm j_Node_isInOrder 1 (oGetI kc_Node 7 4) := sn_getI l D AC b z L xs Gm  dX4_isInOrder_1 rfl (by decide) rfl (by decide) kin_4 tw_149
theorem so_Node_isInOrder_4 : Snd l D AC b z L xs Gm j_Node_isInOrder 4 (oIf (fun x => decide (x = 0)) 29 7) := sn_if_eq l D AC b z L xs Gm  dX4_isInOrder_4 (by decide)
theorem so_Node_isInOrder_7 : Snd l D AC b z L xs Gm j_Node_isInOrder 7 (oAld 0 8) := sn_aload_n l D AC b z L xs Gm  dX4_isInOrder_7 rfl
theorem so_Node_isInOrder_8 : Snd l D AC b z L xs Gm j_Node_isInOrder 8 (oGetR kc_Node 4 11) := sn_getR l D AC b z L xs Gm  dX4_isInOrder_8 rfl (by decide) rfl (by decide) kin_4 tw_139
theorem so_Node_isInOrder_11 : Snd l D AC b z L xs Gm j_Node_isInOrder 11 (oGetI kc_FrameQueue 1 14) := sn_getI l D AC b z L xs Gm  dX4_isInOrder_11 rfl (by decide) rfl (by decide) kin_1 tw_107
theorem so_Node_isInOrder_14 : Snd l D AC b z L xs Gm j_Node_isInOrder 14 (oIf (fun x => decide (x ≤ 0)) 33 17) := sn_if_le l D AC b z L xs Gm  dX4_isInOrder_14 (by decide)
theorem so_Node_isInOrder_17 : Snd l D AC b z L xs Gm j_Node_isInOrder 17 (oAld 0 18) := sn_aload_n l D AC b z L xs Gm  dX4_isInOrder_17 rfl
theorem so_Node_isInOrder_18 : Snd l D AC b z L xs Gm j_Node_isInOrder 18 (oGetI kc_Node 7 21) := sn_getI l D AC b z L xs Gm  dX4_isInOrder_18 rfl (by decide) rfl (by decide) kin_4 tw_149
theorem so_Node_isInOrder_21 : Snd l D AC b z L xs Gm j_Node_isInOrder 21 (oI 1 22) := sn_iconst l D AC b z L xs Gm  dX4_isInOrder_21 (by decide)
theorem so_Node_isInOrder_22 : Snd l D AC b z L xs Gm j_Node_isInOrder 22 (oI 3 23) := sn_iconst l D AC b z L xs Gm  dX4_isInOrder_22 (by decide)
theorem so_Node_isInOrder_23 : Snd l D AC b z L xs Gm j_Node_isInOrder 23 (oCallS j_S_isWithin 3 (mL j_S_isWithin) 26) := sn_callSN l D AC b z L xs Gm  dX4_isInOrder_23 rfl (hs0 (fun _ => rfl) rfl) cal_Node_isInOrder_S_isWithin rfl (List.mem_of_getElem? (i := 7) rfl) tw_344
theorem so_Node_isInOrder_26 : Snd l D AC b z L xs Gm j_Node_isInOrder 26 (oIf (fun x => decide (x = 0)) 33 29) := sn_if_eq l D AC b z L xs Gm  dX4_isInOrder_26 (by decide)
theorem so_Node_isInOrder_29 : Snd l D AC b z L xs Gm j_Node_isInOrder 29 (oI 1 30) := sn_iconst l D AC b z L xs Gm  dX4_isInOrder_29 (by decide)
theorem so_Node_isInOrder_30 : Snd l D AC b z L xs Gm j_Node_isInOrder 30 (oGo 34) := sn_goto l D AC b z L xs Gm  dX4_isInOrder_30 (by decide)
theorem so_Node_isInOrder_33 : Snd l D AC b z L xs Gm j_Node_isInOrder 33 (oI 0 34) := sn_iconst l D AC b z L xs Gm  dX4_isInOrder_33 (by decide)
theorem so_Node_isInOrder_34 : Snd l D AC b z L xs Gm j_Node_isInOrder 34 (oIst 1 35) := sn_istore_n l D AC b z L xs Gm  dX4_isInOrder_34 rfl (by decide)
theorem so_Node_isInOrder_35 : Snd l D AC b z L xs Gm j_Node_isInOrder 35 (oIld 1 36) := sn_iload_n l D AC b z L xs Gm  dX4_isInOrder_35 rfl
theorem so_Node_isInOrder_36 : Snd l D AC b z L xs Gm j_Node_isInOrder 36 (oIf (fun x => decide (x = 0)) 66 39) := sn_if_eq l D AC b z L xs Gm  dX4_isInOrder_36 (by decide)
theorem so_Node_isInOrder_39 : Snd l D AC b z L xs Gm j_Node_isInOrder 39 (oAld 0 40) := sn_aload_n l D AC b z L xs Gm  dX4_isInOrder_39 rfl
theorem so_Node_isInOrder_40 : Snd l D AC b z L xs Gm j_Node_isInOrder 40 (oGetR kc_Node 4 43) := sn_getR l D AC b z L xs Gm  dX4_isInOrder_40 rfl (by decide) rfl (by decide) kin_4 tw_139
theorem so_Node_isInOrder_43 : Snd l D AC b z L xs Gm j_Node_isInOrder 43 (oGetI kc_FrameQueue 1 46) := sn_getI l D AC b z L xs Gm  dX4_isInOrder_43 rfl (by decide) rfl (by decide) kin_1 tw_107
theorem so_Node_isInOrder_46 : Snd l D AC b z L xs Gm j_Node_isInOrder 46 (oI 4 47) := sn_iconst l D AC b z L xs Gm  dX4_isInOrder_46 (by decide)
theorem so_Node_isInOrder_47 : Snd l D AC b z L xs Gm j_Node_isInOrder 47 (oIC (fun x y => decide (y < x)) 66 50) := sn_icmp_gt l D AC b z L xs Gm  dX4_isInOrder_47 (by decide)
theorem so_Node_isInOrder_50 : Snd l D AC b z L xs Gm j_Node_isInOrder 50 (oAld 0 51) := sn_aload_n l D AC b z L xs Gm  dX4_isInOrder_50 rfl
theorem so_Node_isInOrder_51 : Snd l D AC b z L xs Gm j_Node_isInOrder 51 (oGetI kc_Node 6 54) := sn_getI l D AC b z L xs Gm  dX4_isInOrder_51 rfl (by decide) rfl (by decide) kin_4 tw_146
theorem so_Node_isInOrder_54 : Snd l D AC b z L xs Gm j_Node_isInOrder 54 (oI 0 55) := sn_iconst l D AC b z L xs Gm  dX4_isInOrder_54 (by decide)
theorem so_Node_isInOrder_55 : Snd l D AC b z L xs Gm j_Node_isInOrder 55 (oI 4 56) := sn_iconst l D AC b z L xs Gm  dX4_isInOrder_55 (by decide)
theorem so_Node_isInOrder_56 : Snd l D AC b z L xs Gm j_Node_isInOrder 56 (oCallS j_S_isWithin 3 (mL j_S_isWithin) 59) := sn_callSN l D AC b z L xs Gm  dX4_isInOrder_56 rfl (hs0 (fun _ => rfl) rfl) cal_Node_isInOrder_S_isWithin rfl (List.mem_of_getElem? (i := 7) rfl) tw_344
theorem so_Node_isInOrder_59 : Snd l D AC b z L xs Gm j_Node_isInOrder 59 (oIf (fun x => decide (x = 0)) 66 62) := sn_if_eq l D AC b z L xs Gm  dX4_isInOrder_59 (by decide)
theorem so_Node_isInOrder_62 : Snd l D AC b z L xs Gm j_Node_isInOrder 62 (oI 1 63) := sn_iconst l D AC b z L xs Gm  dX4_isInOrder_62 (by decide)
theorem so_Node_isInOrder_63 : Snd l D AC b z L xs Gm j_Node_isInOrder 63 (oGo 67) := sn_goto l D AC b z L xs Gm  dX4_isInOrder_63 (by decide)
theorem so_Node_isInOrder_66 : Snd l D AC b z L xs Gm j_Node_isInOrder 66 (oI 0 67) := sn_iconst l D AC b z L xs Gm  dX4_isInOrder_66 (by decide)
theorem so_Node_isInOrder_67 : Snd l D AC b z L xs Gm j_Node_isInOrder 67 (oRetZ) := sn_retZ l D AC b z L xs Gm  dX4_isInOrder_67 rfl
set_option maxRecDepth 100000 in
theorem so_Node_isInOrder : ∀ q ∈ tb_Node_isInOrder, Snd l D AC b z L xs Gm j_Node_isInOrder q.1 q.2 := by
  unfold tb_Node_isInOrder
  exact List.forall_mem_cons.mpr ⟨so_Node_isInOrder_0 l D AC b z L xs, List.forall_mem_cons.mpr ⟨so_Node_isInOrder_1 l D AC b z L xs, List.forall_mem_cons.mpr ⟨so_Node_isInOrder_4 l D AC b z L xs, List.forall_mem_cons.mpr ⟨so_Node_isInOrder_7 l D AC b z L xs, List.forall_mem_cons.mpr ⟨so_Node_isInOrder_8 l D AC b z L xs, List.forall_mem_cons.mpr ⟨so_Node_isInOrder_11 l D AC b z L xs, List.forall_mem_cons.mpr ⟨so_Node_isInOrder_14 l D AC b z L xs, List.forall_mem_cons.mpr ⟨so_Node_isInOrder_17 l D AC b z L xs, List.forall_mem_cons.mpr ⟨so_Node_isInOrder_18 l D AC b z L xs, List.forall_mem_cons.mpr ⟨so_Node_isInOrder_21 l D AC b z L xs, List.forall_mem_cons.mpr ⟨so_Node_isInOrder_22 l D AC b z L xs, List.forall_mem_cons.mpr ⟨so_Node_isInOrder_23 l D AC b z L xs, List.forall_mem_cons.mpr ⟨so_Node_isInOrder_26 l D AC b z L xs, List.forall_mem_cons.mpr ⟨so_Node_isInOrder_29 l D AC b z L xs, List.forall_mem_cons.mpr ⟨so_Node_isInOrder_30 l D AC b z L xs, List.forall_mem_cons.mpr ⟨so_Node_isInOrder_33 l D AC b z L xs, List.forall_mem_cons.mpr ⟨so_Node_isInOrder_34 l D AC b z L xs, List.forall_mem_cons.mpr ⟨so_Node_isInOrder_35 l D AC b z L xs, List.forall_mem_cons.mpr ⟨so_Node_isInOrder_36 l D AC b z L xs, List.forall_mem_cons.mpr ⟨so_Node_isInOrder_39 l D AC b z L xs, List.forall_mem_cons.mpr ⟨so_Node_isInOrder_40 l D AC b z L xs, List.forall_mem_cons.mpr ⟨so_Node_isInOrder_43 l D AC b z L xs, List.forall_mem_cons.mpr ⟨so_Node_isInOrder_46 l D AC b z L xs, List.forall_mem_cons.mpr ⟨so_Node_isInOrder_47 l D AC b z L xs, List.forall_mem_cons.mpr ⟨so_Node_isInOrder_50 l D AC b z L xs, List.forall_mem_cons.mpr ⟨so_Node_isInOrder_51 l D AC b z L xs, List.forall_mem_cons.mpr ⟨so_Node_isInOrder_54 l D AC b z L xs, List.forall_mem_cons.mpr ⟨so_Node_isInOrder_55 l D AC b z L xs, List.forall_mem_cons.mpr ⟨so_Node_isInOrder_56 l D AC b z L xs, List.forall_mem_cons.mpr ⟨so_Node_isInOrder_59 l D AC b z L xs, List.forall_mem_cons.mpr ⟨so_Node_isInOrder_62 l D AC b z L xs, List.forall_mem_cons.mpr ⟨so_Node_isInOrder_63 l D AC b z L xs, List.forall_mem_cons.mpr ⟨so_Node_isInOrder_66 l D AC b z L xs, List.forall_mem_cons.mpr ⟨so_Node_isInOrder_67 l D AC b z L xs, fun _ h => absurd h List.not_mem_nil⟩⟩⟩⟩⟩⟩⟩⟩⟩⟩⟩⟩⟩⟩⟩⟩⟩⟩⟩⟩⟩⟩⟩⟩⟩⟩⟩⟩⟩⟩⟩⟩⟩⟩
theorem so_NumberSet_init_0 : Snd l D AC b z L xs Gm j_NumberSet_init 0 (oAld 0 1) := sn_aload_n l D AC b z L xs Gm  dX5_init_0 rfl
theorem so_NumberSet_init_1 : Snd l D AC b z L xs Gm j_NumberSet_init 1 (oObj 4) := sn_obj l D AC b z L xs Gm  dX5_init_1 (by decide) (by decide) tw_120 tw_45 tw_46
theorem so_NumberSet_init_4 : Snd l D AC b z L xs Gm j_NumberSet_init 4 (oAld 0 5) := sn_aload_n l D AC b z L xs Gm  dX5_init_4 rfl
theorem so_NumberSet_init_5 : Snd l D AC b z L xs Gm j_NumberSet_init 5 (oI 8 7) := sn_bipush l D AC b z L xs Gm  dX5_init_5 (by decide)
theorem so_NumberSet_init_7 : Snd l D AC b z L xs Gm j_NumberSet_init 7 (oNewA cM sM 1 9) := sn_newarray l D AC b z L xs Gm  dX5_init_7 rfl (by decide) rfl (by decide) (Or.inr ⟨rfl, rfl, fun _ _ h => h⟩) tw_125
theorem so_NumberSet_init_9 : Snd l D AC b z L xs Gm j_NumberSet_init 9 (oPutR kc_NumberSet 0 12) := sn_putRF l D AC b z L xs Gm  dX5_init_9 rfl (by decide) rfl (by decide) kin_5 tyX5_ok nmX5 tw_121 rfl rfl rfl (Or.inr ⟨_, rfl⟩)
theorem so_NumberSet_init_12 : Snd l D AC b z L xs Gm j_NumberSet_init 12 (oRet) := sn_ret l D AC b z L xs Gm  dX5_init_12 rfl
set_option maxRecDepth 100000 in
theorem so_NumberSet_init : ∀ q ∈ tb_NumberSet_init, Snd l D AC b z L xs Gm j_NumberSet_init q.1 q.2 := by
  unfold tb_NumberSet_init
  exact List.forall_mem_cons.mpr ⟨so_NumberSet_init_0 l D AC b z L xs, List.forall_mem_cons.mpr ⟨so_NumberSet_init_1 l D AC b z L xs, List.forall_mem_cons.mpr ⟨so_NumberSet_init_4 l D AC b z L xs, List.forall_mem_cons.mpr ⟨so_NumberSet_init_5 l D AC b z L xs, List.forall_mem_cons.mpr ⟨so_NumberSet_init_7 l D AC b z L xs, List.forall_mem_cons.mpr ⟨so_NumberSet_init_9 l D AC b z L xs, List.forall_mem_cons.mpr ⟨so_NumberSet_init_12 l D AC b z L xs, fun _ h => absurd h List.not_mem_nil⟩⟩⟩⟩⟩⟩⟩
theorem so_NumberSet_has_0 : Snd l D AC b z L xs Gm j_NumberSet_has 0 (oIld 1 1) := sn_iload_n l D AC b z L xs Gm  dX5_has_0 rfl
theorem so_NumberSet_has_1 : Snd l D AC b z L xs Gm j_NumberSet_has 1 (oIf (fun x => decide (x < 0)) 36 4) := sn_if_lt l D AC b z L xs Gm  dX5_has_1 (by decide)
theorem so_NumberSet_has_4 : Snd l D AC b z L xs Gm j_NumberSet_has 4 (oIld 1 5) := sn_iload_n l D AC b z L xs Gm  dX5_has_4 rfl
theorem so_NumberSet_has_5 : Snd l D AC b z L xs Gm j_NumberSet_has 5 (oI 512 8) := sn_sipush l D AC b z L xs Gm  dX5_has_5 (by decide)
theorem so_NumberSet_has_8 : Snd l D AC b z L xs Gm j_NumberSet_has 8 (oIC (fun x y => decide (y ≤ x)) 36 11) := sn_icmp_ge l D AC b z L xs Gm  dX5_has_8 (by decide)
theorem so_NumberSet_has_11 : Snd l D AC b z L xs Gm j_NumberSet_has 11 (oAld 0 12) := sn_aload_n l D AC b z L xs Gm  dX5_has_11 rfl
theorem so_NumberSet_has_12 : Snd l D AC b z L xs Gm j_NumberSet_has 12 (oGetR kc_NumberSet 0 15) := sn_getR l D AC b z L xs Gm  dX5_has_12 rfl (by decide) rfl (by decide) kin_5 tw_121
theorem so_NumberSet_has_15 : Snd l D AC b z L xs Gm j_NumberSet_has 15 (oIld 1 16) := sn_iload_n l D AC b z L xs Gm  dX5_has_15 rfl
theorem so_NumberSet_has_16 : Snd l D AC b z L xs Gm j_NumberSet_has 16 (oI 64 18) := sn_bipush l D AC b z L xs Gm  dX5_has_16 (by decide)
theorem so_NumberSet_has_18 : Snd l D AC b z L xs Gm j_NumberSet_has 18 (oIq (fun x y => x / y) 19) := sn_idiv l D AC b z L xs Gm  dX5_has_18
theorem so_NumberSet_has_19 : Snd l D AC b z L xs Gm j_NumberSet_has 19 (oLal 1 20) := sn_laload l D AC b z L xs Gm  dX5_has_19 (by decide) rfl rfl (by decide)
theorem so_NumberSet_has_20 : Snd l D AC b z L xs Gm j_NumberSet_has 20 (oIld 1 21) := sn_iload_n l D AC b z L xs Gm  dX5_has_20 rfl
theorem so_NumberSet_has_21 : Snd l D AC b z L xs Gm j_NumberSet_has 21 (oI 64 23) := sn_bipush l D AC b z L xs Gm  dX5_has_21 (by decide)
theorem so_NumberSet_has_23 : Snd l D AC b z L xs Gm j_NumberSet_has 23 (oIq (fun x y => x - x / y * y) 24) := sn_irem l D AC b z L xs Gm  dX5_has_23
theorem so_NumberSet_has_24 : Snd l D AC b z L xs Gm j_NumberSet_has 24 (oLI (fun x y => x >>> (y.toInt64 &&& 63)) 25) := sn_lshr l D AC b z L xs Gm  dX5_has_24
theorem so_NumberSet_has_25 : Snd l D AC b z L xs Gm j_NumberSet_has 25 (oJ 1 26) := sn_lconst l D AC b z L xs Gm  dX5_has_25 (by decide)
theorem so_NumberSet_has_26 : Snd l D AC b z L xs Gm j_NumberSet_has 26 (oLL (fun x y => x &&& y) 27) := sn_land l D AC b z L xs Gm  dX5_has_26
theorem so_NumberSet_has_27 : Snd l D AC b z L xs Gm j_NumberSet_has 27 (oJ 0 28) := sn_lconst l D AC b z L xs Gm  dX5_has_27 (by decide)
theorem so_NumberSet_has_28 : Snd l D AC b z L xs Gm j_NumberSet_has 28 (oLcmp 29) := sn_lcmp l D AC b z L xs Gm  dX5_has_28
theorem so_NumberSet_has_29 : Snd l D AC b z L xs Gm j_NumberSet_has 29 (oIf (fun x => decide (x = 0)) 36 32) := sn_if_eq l D AC b z L xs Gm  dX5_has_29 (by decide)
theorem so_NumberSet_has_32 : Snd l D AC b z L xs Gm j_NumberSet_has 32 (oI 1 33) := sn_iconst l D AC b z L xs Gm  dX5_has_32 (by decide)
theorem so_NumberSet_has_33 : Snd l D AC b z L xs Gm j_NumberSet_has 33 (oGo 37) := sn_goto l D AC b z L xs Gm  dX5_has_33 (by decide)
theorem so_NumberSet_has_36 : Snd l D AC b z L xs Gm j_NumberSet_has 36 (oI 0 37) := sn_iconst l D AC b z L xs Gm  dX5_has_36 (by decide)
theorem so_NumberSet_has_37 : Snd l D AC b z L xs Gm j_NumberSet_has 37 (oRetZ) := sn_retZ l D AC b z L xs Gm  dX5_has_37 rfl
set_option maxRecDepth 100000 in
theorem so_NumberSet_has : ∀ q ∈ tb_NumberSet_has, Snd l D AC b z L xs Gm j_NumberSet_has q.1 q.2 := by
  unfold tb_NumberSet_has
  exact List.forall_mem_cons.mpr ⟨so_NumberSet_has_0 l D AC b z L xs, List.forall_mem_cons.mpr ⟨so_NumberSet_has_1 l D AC b z L xs, List.forall_mem_cons.mpr ⟨so_NumberSet_has_4 l D AC b z L xs, List.forall_mem_cons.mpr ⟨so_NumberSet_has_5 l D AC b z L xs, List.forall_mem_cons.mpr ⟨so_NumberSet_has_8 l D AC b z L xs, List.forall_mem_cons.mpr ⟨so_NumberSet_has_11 l D AC b z L xs, List.forall_mem_cons.mpr ⟨so_NumberSet_has_12 l D AC b z L xs, List.forall_mem_cons.mpr ⟨so_NumberSet_has_15 l D AC b z L xs, List.forall_mem_cons.mpr ⟨so_NumberSet_has_16 l D AC b z L xs, List.forall_mem_cons.mpr ⟨so_NumberSet_has_18 l D AC b z L xs, List.forall_mem_cons.mpr ⟨so_NumberSet_has_19 l D AC b z L xs, List.forall_mem_cons.mpr ⟨so_NumberSet_has_20 l D AC b z L xs, List.forall_mem_cons.mpr ⟨so_NumberSet_has_21 l D AC b z L xs, List.forall_mem_cons.mpr ⟨so_NumberSet_has_23 l D AC b z L xs, List.forall_mem_cons.mpr ⟨so_NumberSet_has_24 l D AC b z L xs, List.forall_mem_cons.mpr ⟨so_NumberSet_has_25 l D AC b z L xs, List.forall_mem_cons.mpr ⟨so_NumberSet_has_26 l D AC b z L xs, List.forall_mem_cons.mpr ⟨so_NumberSet_has_27 l D AC b z L xs, List.forall_mem_cons.mpr ⟨so_NumberSet_has_28 l D AC b z L xs, List.forall_mem_cons.mpr ⟨so_NumberSet_has_29 l D AC b z L xs, List.forall_mem_cons.mpr ⟨so_NumberSet_has_32 l D AC b z L xs, List.forall_mem_cons.mpr ⟨so_NumberSet_has_33 l D AC b z L xs, List.forall_mem_cons.mpr ⟨so_NumberSet_has_36 l D AC b z L xs, List.forall_mem_cons.mpr ⟨so_NumberSet_has_37 l D AC b z L xs, fun _ h => absurd h List.not_mem_nil⟩⟩⟩⟩⟩⟩⟩⟩⟩⟩⟩⟩⟩⟩⟩⟩⟩⟩⟩⟩⟩⟩⟩⟩
theorem so_NumberSet_put_0 : Snd l D AC b z L xs Gm j_NumberSet_put 0 (oIld 1 1) := sn_iload_n l D AC b z L xs Gm  dX5_put_0 rfl
theorem so_NumberSet_put_1 : Snd l D AC b z L xs Gm j_NumberSet_put 1 (oIf (fun x => decide (x < 0)) 29 4) := sn_if_lt l D AC b z L xs Gm  dX5_put_1 (by decide)
theorem so_NumberSet_put_4 : Snd l D AC b z L xs Gm j_NumberSet_put 4 (oIld 1 5) := sn_iload_n l D AC b z L xs Gm  dX5_put_4 rfl
theorem so_NumberSet_put_5 : Snd l D AC b z L xs Gm j_NumberSet_put 5 (oI 512 8) := sn_sipush l D AC b z L xs Gm  dX5_put_5 (by decide)
theorem so_NumberSet_put_8 : Snd l D AC b z L xs Gm j_NumberSet_put 8 (oIC (fun x y => decide (y ≤ x)) 29 11) := sn_icmp_ge l D AC b z L xs Gm  dX5_put_8 (by decide)
theorem so_NumberSet_put_11 : Snd l D AC b z L xs Gm j_NumberSet_put 11 (oAld 0 12) := sn_aload_n l D AC b z L xs Gm  dX5_put_11 rfl
theorem so_NumberSet_put_12 : Snd l D AC b z L xs Gm j_NumberSet_put 12 (oGetR kc_NumberSet 0 15) := sn_getR l D AC b z L xs Gm  dX5_put_12 rfl (by decide) rfl (by decide) kin_5 tw_121
theorem so_NumberSet_put_15 : Snd l D AC b z L xs Gm j_NumberSet_put 15 (oIld 1 16) := sn_iload_n l D AC b z L xs Gm  dX5_put_15 rfl
theorem so_NumberSet_put_16 : Snd l D AC b z L xs Gm j_NumberSet_put 16 (oI 64 18) := sn_bipush l D AC b z L xs Gm  dX5_put_16 (by decide)
theorem so_NumberSet_put_18 : Snd l D AC b z L xs Gm j_NumberSet_put 18 (oIq (fun x y => x / y) 19) := sn_idiv l D AC b z L xs Gm  dX5_put_18
theorem so_NumberSet_put_19 : Snd l D AC b z L xs Gm j_NumberSet_put 19 (oDup2 20) := sn_dup2 l D AC b z L xs Gm  dX5_put_19
theorem so_NumberSet_put_20 : Snd l D AC b z L xs Gm j_NumberSet_put 20 (oLal 1 21) := sn_laload l D AC b z L xs Gm  dX5_put_20 (by decide) rfl rfl (by decide)
theorem so_NumberSet_put_21 : Snd l D AC b z L xs Gm j_NumberSet_put 21 (oJ 1 22) := sn_lconst l D AC b z L xs Gm  dX5_put_21 (by decide)
theorem so_NumberSet_put_22 : Snd l D AC b z L xs Gm j_NumberSet_put 22 (oIld 1 23) := sn_iload_n l D AC b z L xs Gm  dX5_put_22 rfl
theorem so_NumberSet_put_23 : Snd l D AC b z L xs Gm j_NumberSet_put 23 (oI 64 25) := sn_bipush l D AC b z L xs Gm  dX5_put_23 (by decide)
theorem so_NumberSet_put_25 : Snd l D AC b z L xs Gm j_NumberSet_put 25 (oIq (fun x y => x - x / y * y) 26) := sn_irem l D AC b z L xs Gm  dX5_put_25
theorem so_NumberSet_put_26 : Snd l D AC b z L xs Gm j_NumberSet_put 26 (oLI (fun x y => x <<< (y.toInt64 &&& 63)) 27) := sn_lshl l D AC b z L xs Gm  dX5_put_26
theorem so_NumberSet_put_27 : Snd l D AC b z L xs Gm j_NumberSet_put 27 (oLL (fun x y => x ||| y) 28) := sn_lor l D AC b z L xs Gm  dX5_put_27
theorem so_NumberSet_put_28 : Snd l D AC b z L xs Gm j_NumberSet_put 28 (oLas 1 29) := sn_lastore l D AC b z L xs Gm  dX5_put_28 (by decide) rfl rfl (by decide)
theorem so_NumberSet_put_29 : Snd l D AC b z L xs Gm j_NumberSet_put 29 (oRet) := sn_ret l D AC b z L xs Gm  dX5_put_29 rfl
set_option maxRecDepth 100000 in
theorem so_NumberSet_put : ∀ q ∈ tb_NumberSet_put, Snd l D AC b z L xs Gm j_NumberSet_put q.1 q.2 := by
  unfold tb_NumberSet_put
  exact List.forall_mem_cons.mpr ⟨so_NumberSet_put_0 l D AC b z L xs, List.forall_mem_cons.mpr ⟨so_NumberSet_put_1 l D AC b z L xs, List.forall_mem_cons.mpr ⟨so_NumberSet_put_4 l D AC b z L xs, List.forall_mem_cons.mpr ⟨so_NumberSet_put_5 l D AC b z L xs, List.forall_mem_cons.mpr ⟨so_NumberSet_put_8 l D AC b z L xs, List.forall_mem_cons.mpr ⟨so_NumberSet_put_11 l D AC b z L xs, List.forall_mem_cons.mpr ⟨so_NumberSet_put_12 l D AC b z L xs, List.forall_mem_cons.mpr ⟨so_NumberSet_put_15 l D AC b z L xs, List.forall_mem_cons.mpr ⟨so_NumberSet_put_16 l D AC b z L xs, List.forall_mem_cons.mpr ⟨so_NumberSet_put_18 l D AC b z L xs, List.forall_mem_cons.mpr ⟨so_NumberSet_put_19 l D AC b z L xs, List.forall_mem_cons.mpr ⟨so_NumberSet_put_20 l D AC b z L xs, List.forall_mem_cons.mpr ⟨so_NumberSet_put_21 l D AC b z L xs, List.forall_mem_cons.mpr ⟨so_NumberSet_put_22 l D AC b z L xs, List.forall_mem_cons.mpr ⟨so_NumberSet_put_23 l D AC b z L xs, List.forall_mem_cons.mpr ⟨so_NumberSet_put_25 l D AC b z L xs, List.forall_mem_cons.mpr ⟨so_NumberSet_put_26 l D AC b z L xs, List.forall_mem_cons.mpr ⟨so_NumberSet_put_27 l D AC b z L xs, List.forall_mem_cons.mpr ⟨so_NumberSet_put_28 l D AC b z L xs, List.forall_mem_cons.mpr ⟨so_NumberSet_put_29 l D AC b z L xs, fun _ h => absurd h List.not_mem_nil⟩⟩⟩⟩⟩⟩⟩⟩⟩⟩⟩⟩⟩⟩⟩⟩⟩⟩⟩⟩
theorem so_NumberSet_size_0 : Snd l D AC b z L xs Gm j_NumberSet_size 0 (oI 0 1) := sn_iconst l D AC b z L xs Gm  dX5_size_0 (by decide)
theorem so_NumberSet_size_1 : Snd l D AC b z L xs Gm j_NumberSet_size 1 (oIst 1 2) := sn_istore_n l D AC b z L xs Gm  dX5_size_1 rfl (by decide)
theorem so_NumberSet_size_2 : Snd l D AC b z L xs Gm j_NumberSet_size 2 (oI 0 3) := sn_iconst l D AC b z L xs Gm  dX5_size_2 (by decide)
theorem so_NumberSet_size_3 : Snd l D AC b z L xs Gm j_NumberSet_size 3 (oIst 2 4) := sn_istore_n l D AC b z L xs Gm  dX5_size_3 rfl (by decide)
theorem so_NumberSet_size_4 : Snd l D AC b z L xs Gm j_NumberSet_size 4 (oIld 2 5) := sn_iload_n l D AC b z L xs Gm  dX5_size_4 rfl
theorem so_NumberSet_size_5 : Snd l D AC b z L xs Gm j_NumberSet_size 5 (oAld 0 6) := sn_aload_n l D AC b z L xs Gm  dX5_size_5 rfl
theorem so_NumberSet_size_6 : Snd l D AC b z L xs Gm j_NumberSet_size 6 (oGetR kc_NumberSet 0 9) := sn_getR l D AC b z L xs Gm  dX5_size_6 rfl (by decide) rfl (by decide) kin_5 tw_121
theorem so_NumberSet_size_9 : Snd l D AC b z L xs Gm j_NumberSet_size 9 (oLen 1 10) := sn_alen l D AC b z L xs Gm  dX5_size_9 (by decide)
theorem so_NumberSet_size_10 : Snd l D AC b z L xs Gm j_NumberSet_size 10 (oIC (fun x y => decide (y ≤ x)) 31 13) := sn_icmp_ge l D AC b z L xs Gm  dX5_size_10 (by decide)
theorem so_NumberSet_size_13 : Snd l D AC b z L xs Gm j_NumberSet_size 13 (oIld 1 14) := sn_iload_n l D AC b z L xs Gm  dX5_size_13 rfl
theorem so_NumberSet_size_14 : Snd l D AC b z L xs Gm j_NumberSet_size 14 (oAld 0 15) := sn_aload_n l D AC b z L xs Gm  dX5_size_14 rfl
theorem so_NumberSet_size_15 : Snd l D AC b z L xs Gm j_NumberSet_size 15 (oGetR kc_NumberSet 0 18) := sn_getR l D AC b z L xs Gm  dX5_size_15 rfl (by decide) rfl (by decide) kin_5 tw_121
theorem so_NumberSet_size_18 : Snd l D AC b z L xs Gm j_NumberSet_size 18 (oIld 2 19) := sn_iload_n l D AC b z L xs Gm  dX5_size_18 rfl
theorem so_NumberSet_size_19 : Snd l D AC b z L xs Gm j_NumberSet_size 19 (oLal 1 20) := sn_laload l D AC b z L xs Gm  dX5_size_19 (by decide) rfl rfl (by decide)
theorem so_NumberSet_size_20 : Snd l D AC b z L xs Gm j_NumberSet_size 20 (oCallS j_Long_bitCount 1 (mL j_Long_bitCount) 23) := sn_callS l D AC b z L xs Gm  dX5_size_20 rfl (hs0 (fun _ => rfl) rfl) cal_NumberSet_size_Long_bitCount rfl tw_819 tw_820
theorem so_NumberSet_size_23 : Snd l D AC b z L xs Gm j_NumberSet_size 23 (oII (fun x y => x + y) 24) := sn_iadd l D AC b z L xs Gm  dX5_size_23
theorem so_NumberSet_size_24 : Snd l D AC b z L xs Gm j_NumberSet_size 24 (oIst 1 25) := sn_istore_n l D AC b z L xs Gm  dX5_size_24 rfl (by decide)
theorem so_NumberSet_size_25 : Snd l D AC b z L xs Gm j_NumberSet_size 25 (oInc 2 1 28) := sn_iinc l D AC b z L xs Gm  dX5_size_25 (by decide) (by decide)
theorem so_NumberSet_size_28 : Snd l D AC b z L xs Gm j_NumberSet_size 28 (oGo 4) := sn_goto l D AC b z L xs Gm  dX5_size_28 (by decide)
theorem so_NumberSet_size_31 : Snd l D AC b z L xs Gm j_NumberSet_size 31 (oIld 1 32) := sn_iload_n l D AC b z L xs Gm  dX5_size_31 rfl
theorem so_NumberSet_size_32 : Snd l D AC b z L xs Gm j_NumberSet_size 32 (oRetI) := sn_retI l D AC b z L xs Gm  dX5_size_32 rfl
set_option maxRecDepth 100000 in
theorem so_NumberSet_size : ∀ q ∈ tb_NumberSet_size, Snd l D AC b z L xs Gm j_NumberSet_size q.1 q.2 := by
  unfold tb_NumberSet_size
  exact List.forall_mem_cons.mpr ⟨so_NumberSet_size_0 l D AC b z L xs, List.forall_mem_cons.mpr ⟨so_NumberSet_size_1 l D AC b z L xs, List.forall_mem_cons.mpr ⟨so_NumberSet_size_2 l D AC b z L xs, List.forall_mem_cons.mpr ⟨so_NumberSet_size_3 l D AC b z L xs, List.forall_mem_cons.mpr ⟨so_NumberSet_size_4 l D AC b z L xs, List.forall_mem_cons.mpr ⟨so_NumberSet_size_5 l D AC b z L xs, List.forall_mem_cons.mpr ⟨so_NumberSet_size_6 l D AC b z L xs, List.forall_mem_cons.mpr ⟨so_NumberSet_size_9 l D AC b z L xs, List.forall_mem_cons.mpr ⟨so_NumberSet_size_10 l D AC b z L xs, List.forall_mem_cons.mpr ⟨so_NumberSet_size_13 l D AC b z L xs, List.forall_mem_cons.mpr ⟨so_NumberSet_size_14 l D AC b z L xs, List.forall_mem_cons.mpr ⟨so_NumberSet_size_15 l D AC b z L xs, List.forall_mem_cons.mpr ⟨so_NumberSet_size_18 l D AC b z L xs, List.forall_mem_cons.mpr ⟨so_NumberSet_size_19 l D AC b z L xs, List.forall_mem_cons.mpr ⟨so_NumberSet_size_20 l D AC b z L xs, List.forall_mem_cons.mpr ⟨so_NumberSet_size_23 l D AC b z L xs, List.forall_mem_cons.mpr ⟨so_NumberSet_size_24 l D AC b z L xs, List.forall_mem_cons.mpr ⟨so_NumberSet_size_25 l D AC b z L xs, List.forall_mem_cons.mpr ⟨so_NumberSet_size_28 l D AC b z L xs, List.forall_mem_cons.mpr ⟨so_NumberSet_size_31 l D AC b z L xs, List.forall_mem_cons.mpr ⟨so_NumberSet_size_32 l D AC b z L xs, fun _ h => absurd h List.not_mem_nil⟩⟩⟩⟩⟩⟩⟩⟩⟩⟩⟩⟩⟩⟩⟩⟩⟩⟩⟩⟩⟩
theorem so_Routes_init_0 : Snd l D AC b z L xs Gm j_Routes_init 0 (oAld 0 1) := sn_aload_n l D AC b z L xs Gm  dX6_init_0 rfl
theorem so_Routes_init_1 : Snd l D AC b z L xs Gm j_Routes_init 1 (oObj 4) := sn_obj l D AC b z L xs Gm  dX6_init_1 (by decide) (by decide) tw_226 tw_45 tw_46
theorem so_Routes_init_4 : Snd l D AC b z L xs Gm j_Routes_init 4 (oAld 0 5) := sn_aload_n l D AC b z L xs Gm  dX6_init_4 rfl
theorem so_Routes_init_5 : Snd l D AC b z L xs Gm j_Routes_init 5 (oI 8 7) := sn_bipush l D AC b z L xs Gm  dX6_init_5 (by decide)
theorem so_Routes_init_7 : Snd l D AC b z L xs Gm j_Routes_init 7 (oI 8 9) := sn_bipush l D AC b z L xs Gm  dX6_init_7 (by decide)
theorem so_Routes_init_9 : Snd l D AC b z L xs Gm j_Routes_init 9 (oMul cM sM 4 0 13) := sn_multi l D AC b z L xs Gm  dX6_init_9 (by decide) rfl rfl (by decide) rfl rfl tw_227 tw_104 (List.mem_of_getElem? (i := 2) rfl)
theorem so_Routes_init_13 : Snd l D AC b z L xs Gm j_Routes_init 13 (oPutR kc_Routes 1 16) := sn_putR l D AC b z L xs Gm  dX6_init_13 rfl (by decide) rfl (by decide) kin_6 tyX6_ok nmX6 tw_230 rfl (Or.inr ⟨_, rfl⟩)
theorem so_Routes_init_16 : Snd l D AC b z L xs Gm j_Routes_init 16 (oAld 0 17) := sn_aload_n l D AC b z L xs Gm  dX6_init_16 rfl
theorem so_Routes_init_17 : Snd l D AC b z L xs Gm j_Routes_init 17 (oI 8 19) := sn_bipush l D AC b z L xs Gm  dX6_init_17 (by decide)
theorem so_Routes_init_19 : Snd l D AC b z L xs Gm j_Routes_init 19 (oI 8 21) := sn_bipush l D AC b z L xs Gm  dX6_init_19 (by decide)
theorem so_Routes_init_21 : Snd l D AC b z L xs Gm j_Routes_init 21 (oMul cM sM 4 0 25) := sn_multi l D AC b z L xs Gm  dX6_init_21 (by decide) rfl rfl (by decide) rfl rfl tw_227 tw_104 (List.mem_of_getElem? (i := 2) rfl)
theorem so_Routes_init_25 : Snd l D AC b z L xs Gm j_Routes_init 25 (oPutR kc_Routes 2 28) := sn_putR l D AC b z L xs Gm  dX6_init_25 rfl (by decide) rfl (by decide) kin_6 tyX6_ok nmX6 tw_231 rfl (Or.inr ⟨_, rfl⟩)
theorem so_Routes_init_28 : Snd l D AC b z L xs Gm j_Routes_init 28 (oAld 0 29) := sn_aload_n l D AC b z L xs Gm  dX6_init_28 rfl
theorem so_Routes_init_29 : Snd l D AC b z L xs Gm j_Routes_init 29 (oI 8 31) := sn_bipush l D AC b z L xs Gm  dX6_init_29 (by decide)
theorem so_Routes_init_31 : Snd l D AC b z L xs Gm j_Routes_init 31 (oI 8 33) := sn_bipush l D AC b z L xs Gm  dX6_init_31 (by decide)
theorem so_Routes_init_33 : Snd l D AC b z L xs Gm j_Routes_init 33 (oMul cM sM 4 0 37) := sn_multi l D AC b z L xs Gm  dX6_init_33 (by decide) rfl rfl (by decide) rfl rfl tw_227 tw_104 (List.mem_of_getElem? (i := 2) rfl)
theorem so_Routes_init_37 : Snd l D AC b z L xs Gm j_Routes_init 37 (oPutR kc_Routes 3 40) := sn_putR l D AC b z L xs Gm  dX6_init_37 rfl (by decide) rfl (by decide) kin_6 tyX6_ok nmX6 tw_232 rfl (Or.inr ⟨_, rfl⟩)
theorem so_Routes_init_40 : Snd l D AC b z L xs Gm j_Routes_init 40 (oAld 0 41) := sn_aload_n l D AC b z L xs Gm  dX6_init_40 rfl
theorem so_Routes_init_41 : Snd l D AC b z L xs Gm j_Routes_init 41 (oI 8 43) := sn_bipush l D AC b z L xs Gm  dX6_init_41 (by decide)
theorem so_Routes_init_43 : Snd l D AC b z L xs Gm j_Routes_init 43 (oI 8 45) := sn_bipush l D AC b z L xs Gm  dX6_init_43 (by decide)
theorem so_Routes_init_45 : Snd l D AC b z L xs Gm j_Routes_init 45 (oMul cM sM 4 0 49) := sn_multi l D AC b z L xs Gm  dX6_init_45 (by decide) rfl rfl (by decide) rfl rfl tw_227 tw_104 (List.mem_of_getElem? (i := 2) rfl)
theorem so_Routes_init_49 : Snd l D AC b z L xs Gm j_Routes_init 49 (oPutR kc_Routes 4 52) := sn_putR l D AC b z L xs Gm  dX6_init_49 rfl (by decide) rfl (by decide) kin_6 tyX6_ok nmX6 tw_233 rfl (Or.inr ⟨_, rfl⟩)
theorem so_Routes_init_52 : Snd l D AC b z L xs Gm j_Routes_init 52 (oAld 0 53) := sn_aload_n l D AC b z L xs Gm  dX6_init_52 rfl
theorem so_Routes_init_53 : Snd l D AC b z L xs Gm j_Routes_init 53 (oI 0 54) := sn_iconst l D AC b z L xs Gm  dX6_init_53 (by decide)
theorem so_Routes_init_54 : Snd l D AC b z L xs Gm j_Routes_init 54 (oPutI kc_Routes 5 57) := sn_putI l D AC b z L xs Gm  dX6_init_54 rfl (by decide) rfl (by decide) kin_6 tyX6_ok nmX6 tw_234 rfl rfl
theorem so_Routes_init_57 : Snd l D AC b z L xs Gm j_Routes_init 57 (oAld 0 58) := sn_aload_n l D AC b z L xs Gm  dX6_init_57 rfl
theorem so_Routes_init_58 : Snd l D AC b z L xs Gm j_Routes_init 58 (oAld 1 59) := sn_aload_n l D AC b z L xs Gm  dX6_init_58 rfl
theorem so_Routes_init_59 : Snd l D AC b z L xs Gm j_Routes_init 59 (oPutR kc_Routes 0 62) := sn_putRF l D AC b z L xs Gm  dX6_init_59 rfl (by decide) rfl (by decide) kin_6 tyX6_ok nmX6 tw_229 rfl rfl rfl (Or.inl ⟨_, rfl⟩)
theorem so_Routes_init_62 : Snd l D AC b z L xs Gm j_Routes_init 62 (oI 0 63) := sn_iconst l D AC b z L xs Gm  dX6_init_62 (by decide)
theorem so_Routes_init_63 : Snd l D AC b z L xs Gm j_Routes_init 63 (oIst 2 64) := sn_istore_n l D AC b z L xs Gm  dX6_init_63 rfl (by decide)
theorem so_Routes_init_64 : Snd l D AC b z L xs Gm j_Routes_init 64 (oIld 2 65) := sn_iload_n l D AC b z L xs Gm  dX6_init_64 rfl
theorem so_Routes_init_65 : Snd l D AC b z L xs Gm j_Routes_init 65 (oI 8 67) := sn_bipush l D AC b z L xs Gm  dX6_init_65 (by decide)
theorem so_Routes_init_67 : Snd l D AC b z L xs Gm j_Routes_init 67 (oIC (fun x y => decide (y ≤ x)) 126 70) := sn_icmp_ge l D AC b z L xs Gm  dX6_init_67 (by decide)
theorem so_Routes_init_70 : Snd l D AC b z L xs Gm j_Routes_init 70 (oI 0 71) := sn_iconst l D AC b z L xs Gm  dX6_init_70 (by decide)
theorem so_Routes_init_71 : Snd l D AC b z L xs Gm j_Routes_init 71 (oIst 3 72) := sn_istore_n l D AC b z L xs Gm  dX6_init_71 rfl (by decide)
theorem so_Routes_init_72 : Snd l D AC b z L xs Gm j_Routes_init 72 (oIld 3 73) := sn_iload_n l D AC b z L xs Gm  dX6_init_72 rfl
theorem so_Routes_init_73 : Snd l D AC b z L xs Gm j_Routes_init 73 (oI 8 75) := sn_bipush l D AC b z L xs Gm  dX6_init_73 (by decide)
theorem so_Routes_init_75 : Snd l D AC b z L xs Gm j_Routes_init 75 (oIC (fun x y => decide (y ≤ x)) 120 78) := sn_icmp_ge l D AC b z L xs Gm  dX6_init_75 (by decide)
theorem so_Routes_init_78 : Snd l D AC b z L xs Gm j_Routes_init 78 (oAld 0 79) := sn_aload_n l D AC b z L xs Gm  dX6_init_78 rfl
theorem so_Routes_init_79 : Snd l D AC b z L xs Gm j_Routes_init 79 (oGetR kc_Routes 1 82) := sn_getR l D AC b z L xs Gm  dX6_init_79 rfl (by decide) rfl (by decide) kin_6 tw_230
theorem so_Routes_init_82 : Snd l D AC b z L xs Gm j_Routes_init 82 (oIld 2 83) := sn_iload_n l D AC b z L xs Gm  dX6_init_82 rfl
theorem so_Routes_init_83 : Snd l D AC b z L xs Gm j_Routes_init 83 (oAal 4 84) := sn_aaload l D AC b z L xs Gm  dX6_init_83 (by decide) rfl rfl (by decide)
theorem so_Routes_init_84 : Snd l D AC b z L xs Gm j_Routes_init 84 (oIld 3 85) := sn_iload_n l D AC b z L xs Gm  dX6_init_84 rfl
theorem so_Routes_init_85 : Snd l D AC b z L xs Gm j_Routes_init 85 (oI (-1) 86) := sn_iconst l D AC b z L xs Gm  dX6_init_85 (by decide)
theorem so_Routes_init_86 : Snd l D AC b z L xs Gm j_Routes_init 86 (oIas 0 87) := sn_iastore l D AC b z L xs Gm  dX6_init_86 (by decide) rfl rfl
theorem so_Routes_init_87 : Snd l D AC b z L xs Gm j_Routes_init 87 (oAld 0 88) := sn_aload_n l D AC b z L xs Gm  dX6_init_87 rfl
theorem so_Routes_init_88 : Snd l D AC b z L xs Gm j_Routes_init 88 (oGetR kc_Routes 2 91) := sn_getR l D AC b z L xs Gm  dX6_init_88 rfl (by decide) rfl (by decide) kin_6 tw_231
theorem so_Routes_init_91 : Snd l D AC b z L xs Gm j_Routes_init 91 (oIld 2 92) := sn_iload_n l D AC b z L xs Gm  dX6_init_91 rfl
theorem so_Routes_init_92 : Snd l D AC b z L xs Gm j_Routes_init 92 (oAal 4 93) := sn_aaload l D AC b z L xs Gm  dX6_init_92 (by decide) rfl rfl (by decide)
theorem so_Routes_init_93 : Snd l D AC b z L xs Gm j_Routes_init 93 (oIld 3 94) := sn_iload_n l D AC b z L xs Gm  dX6_init_93 rfl
theorem so_Routes_init_94 : Snd l D AC b z L xs Gm j_Routes_init 94 (oI (-1) 95) := sn_iconst l D AC b z L xs Gm  dX6_init_94 (by decide)
theorem so_Routes_init_95 : Snd l D AC b z L xs Gm j_Routes_init 95 (oIas 0 96) := sn_iastore l D AC b z L xs Gm  dX6_init_95 (by decide) rfl rfl
theorem so_Routes_init_96 : Snd l D AC b z L xs Gm j_Routes_init 96 (oAld 0 97) := sn_aload_n l D AC b z L xs Gm  dX6_init_96 rfl
theorem so_Routes_init_97 : Snd l D AC b z L xs Gm j_Routes_init 97 (oGetR kc_Routes 3 100) := sn_getR l D AC b z L xs Gm  dX6_init_97 rfl (by decide) rfl (by decide) kin_6 tw_232
theorem so_Routes_init_100 : Snd l D AC b z L xs Gm j_Routes_init 100 (oIld 2 101) := sn_iload_n l D AC b z L xs Gm  dX6_init_100 rfl
theorem so_Routes_init_101 : Snd l D AC b z L xs Gm j_Routes_init 101 (oAal 4 102) := sn_aaload l D AC b z L xs Gm  dX6_init_101 (by decide) rfl rfl (by decide)
theorem so_Routes_init_102 : Snd l D AC b z L xs Gm j_Routes_init 102 (oIld 3 103) := sn_iload_n l D AC b z L xs Gm  dX6_init_102 rfl
theorem so_Routes_init_103 : Snd l D AC b z L xs Gm j_Routes_init 103 (oI (-1) 104) := sn_iconst l D AC b z L xs Gm  dX6_init_103 (by decide)
theorem so_Routes_init_104 : Snd l D AC b z L xs Gm j_Routes_init 104 (oIas 0 105) := sn_iastore l D AC b z L xs Gm  dX6_init_104 (by decide) rfl rfl
theorem so_Routes_init_105 : Snd l D AC b z L xs Gm j_Routes_init 105 (oAld 0 106) := sn_aload_n l D AC b z L xs Gm  dX6_init_105 rfl
theorem so_Routes_init_106 : Snd l D AC b z L xs Gm j_Routes_init 106 (oGetR kc_Routes 4 109) := sn_getR l D AC b z L xs Gm  dX6_init_106 rfl (by decide) rfl (by decide) kin_6 tw_233
theorem so_Routes_init_109 : Snd l D AC b z L xs Gm j_Routes_init 109 (oIld 2 110) := sn_iload_n l D AC b z L xs Gm  dX6_init_109 rfl
theorem so_Routes_init_110 : Snd l D AC b z L xs Gm j_Routes_init 110 (oAal 4 111) := sn_aaload l D AC b z L xs Gm  dX6_init_110 (by decide) rfl rfl (by decide)
theorem so_Routes_init_111 : Snd l D AC b z L xs Gm j_Routes_init 111 (oIld 3 112) := sn_iload_n l D AC b z L xs Gm  dX6_init_111 rfl
theorem so_Routes_init_112 : Snd l D AC b z L xs Gm j_Routes_init 112 (oI (-1) 113) := sn_iconst l D AC b z L xs Gm  dX6_init_112 (by decide)
theorem so_Routes_init_113 : Snd l D AC b z L xs Gm j_Routes_init 113 (oIas 0 114) := sn_iastore l D AC b z L xs Gm  dX6_init_113 (by decide) rfl rfl
theorem so_Routes_init_114 : Snd l D AC b z L xs Gm j_Routes_init 114 (oInc 3 1 117) := sn_iinc l D AC b z L xs Gm  dX6_init_114 (by decide) (by decide)
theorem so_Routes_init_117 : Snd l D AC b z L xs Gm j_Routes_init 117 (oGo 72) := sn_goto l D AC b z L xs Gm  dX6_init_117 (by decide)
theorem so_Routes_init_120 : Snd l D AC b z L xs Gm j_Routes_init 120 (oInc 2 1 123) := sn_iinc l D AC b z L xs Gm  dX6_init_120 (by decide) (by decide)
theorem so_Routes_init_123 : Snd l D AC b z L xs Gm j_Routes_init 123 (oGo 64) := sn_goto l D AC b z L xs Gm  dX6_init_123 (by decide)
theorem so_Routes_init_126 : Snd l D AC b z L xs Gm j_Routes_init 126 (oRet) := sn_ret l D AC b z L xs Gm  dX6_init_126 rfl
set_option maxRecDepth 100000 in
theorem so_Routes_init : ∀ q ∈ tb_Routes_init, Snd l D AC b z L xs Gm j_Routes_init q.1 q.2 := by
  unfold tb_Routes_init
  exact List.forall_mem_cons.mpr ⟨so_Routes_init_0 l D AC b z L xs, List.forall_mem_cons.mpr ⟨so_Routes_init_1 l D AC b z L xs, List.forall_mem_cons.mpr ⟨so_Routes_init_4 l D AC b z L xs, List.forall_mem_cons.mpr ⟨so_Routes_init_5 l D AC b z L xs, List.forall_mem_cons.mpr ⟨so_Routes_init_7 l D AC b z L xs, List.forall_mem_cons.mpr ⟨so_Routes_init_9 l D AC b z L xs, List.forall_mem_cons.mpr ⟨so_Routes_init_13 l D AC b z L xs, List.forall_mem_cons.mpr ⟨so_Routes_init_16 l D AC b z L xs, List.forall_mem_cons.mpr ⟨so_Routes_init_17 l D AC b z L xs, List.forall_mem_cons.mpr ⟨so_Routes_init_19 l D AC b z L xs, List.forall_mem_cons.mpr ⟨so_Routes_init_21 l D AC b z L xs, List.forall_mem_cons.mpr ⟨so_Routes_init_25 l D AC b z L xs, List.forall_mem_cons.mpr ⟨so_Routes_init_28 l D AC b z L xs, List.forall_mem_cons.mpr ⟨so_Routes_init_29 l D AC b z L xs, List.forall_mem_cons.mpr ⟨so_Routes_init_31 l D AC b z L xs, List.forall_mem_cons.mpr ⟨so_Routes_init_33 l D AC b z L xs, List.forall_mem_cons.mpr ⟨so_Routes_init_37 l D AC b z L xs, List.forall_mem_cons.mpr ⟨so_Routes_init_40 l D AC b z L xs, List.forall_mem_cons.mpr ⟨so_Routes_init_41 l D AC b z L xs, List.forall_mem_cons.mpr ⟨so_Routes_init_43 l D AC b z L xs, List.forall_mem_cons.mpr ⟨so_Routes_init_45 l D AC b z L xs, List.forall_mem_cons.mpr ⟨so_Routes_init_49 l D AC b z L xs, List.forall_mem_cons.mpr ⟨so_Routes_init_52 l D AC b z L xs, List.forall_mem_cons.mpr ⟨so_Routes_init_53 l D AC b z L xs, List.forall_mem_cons.mpr ⟨so_Routes_init_54 l D AC b z L xs, List.forall_mem_cons.mpr ⟨so_Routes_init_57 l D AC b z L xs, List.forall_mem_cons.mpr ⟨so_Routes_init_58 l D AC b z L xs, List.forall_mem_cons.mpr ⟨so_Routes_init_59 l D AC b z L xs, List.forall_mem_cons.mpr ⟨so_Routes_init_62 l D AC b z L xs, List.forall_mem_cons.mpr ⟨so_Routes_init_63 l D AC b z L xs, List.forall_mem_cons.mpr ⟨so_Routes_init_64 l D AC b z L xs, List.forall_mem_cons.mpr ⟨so_Routes_init_65 l D AC b z L xs, List.forall_mem_cons.mpr ⟨so_Routes_init_67 l D AC b z L xs, List.forall_mem_cons.mpr ⟨so_Routes_init_70 l D AC b z L xs, List.forall_mem_cons.mpr ⟨so_Routes_init_71 l D AC b z L xs, List.forall_mem_cons.mpr ⟨so_Routes_init_72 l D AC b z L xs, List.forall_mem_cons.mpr ⟨so_Routes_init_73 l D AC b z L xs, List.forall_mem_cons.mpr ⟨so_Routes_init_75 l D AC b z L xs, List.forall_mem_cons.mpr ⟨so_Routes_init_78 l D AC b z L xs, List.forall_mem_cons.mpr ⟨so_Routes_init_79 l D AC b z L xs, List.forall_mem_cons.mpr ⟨so_Routes_init_82 l D AC b z L xs, List.forall_mem_cons.mpr ⟨so_Routes_init_83 l D AC b z L xs, List.forall_mem_cons.mpr ⟨so_Routes_init_84 l D AC b z L xs, List.forall_mem_cons.mpr ⟨so_Routes_init_85 l D AC b z L xs, List.forall_mem_cons.mpr ⟨so_Routes_init_86 l D AC b z L xs, List.forall_mem_cons.mpr ⟨so_Routes_init_87 l D AC b z L xs, List.forall_mem_cons.mpr ⟨so_Routes_init_88 l D AC b z L xs, List.forall_mem_cons.mpr ⟨so_Routes_init_91 l D AC b z L xs, List.forall_mem_cons.mpr ⟨so_Routes_init_92 l D AC b z L xs, List.forall_mem_cons.mpr ⟨so_Routes_init_93 l D AC b z L xs, List.forall_mem_cons.mpr ⟨so_Routes_init_94 l D AC b z L xs, List.forall_mem_cons.mpr ⟨so_Routes_init_95 l D AC b z L xs, List.forall_mem_cons.mpr ⟨so_Routes_init_96 l D AC b z L xs, List.forall_mem_cons.mpr ⟨so_Routes_init_97 l D AC b z L xs, List.forall_mem_cons.mpr ⟨so_Routes_init_100 l D AC b z L xs, List.forall_mem_cons.mpr ⟨so_Routes_init_101 l D AC b z L xs, List.forall_mem_cons.mpr ⟨so_Routes_init_102 l D AC b z L xs, List.forall_mem_cons.mpr ⟨so_Routes_init_103 l D AC b z L xs, List.forall_mem_cons.mpr ⟨so_Routes_init_104 l D AC b z L xs, List.forall_mem_cons.mpr ⟨so_Routes_init_105 l D AC b z L xs, List.forall_mem_cons.mpr ⟨so_Routes_init_106 l D AC b z L xs, List.forall_mem_cons.mpr ⟨so_Routes_init_109 l D AC b z L xs, List.forall_mem_cons.mpr ⟨so_Routes_init_110 l D AC b z L xs, List.forall_mem_cons.mpr ⟨so_Routes_init_111 l D AC b z L xs, List.forall_mem_cons.mpr ⟨so_Routes_init_112 l D AC b z L xs, List.forall_mem_cons.mpr ⟨so_Routes_init_113 l D AC b z L xs, List.forall_mem_cons.mpr ⟨so_Routes_init_114 l D AC b z L xs, List.forall_mem_cons.mpr ⟨so_Routes_init_117 l D AC b z L xs, List.forall_mem_cons.mpr ⟨so_Routes_init_120 l D AC b z L xs, List.forall_mem_cons.mpr ⟨so_Routes_init_123 l D AC b z L xs, List.forall_mem_cons.mpr ⟨so_Routes_init_126 l D AC b z L xs, fun _ h => absurd h List.not_mem_nil⟩⟩⟩⟩⟩⟩⟩⟩⟩⟩⟩⟩⟩⟩⟩⟩⟩⟩⟩⟩⟩⟩⟩⟩⟩⟩⟩⟩⟩⟩⟩⟩⟩⟩⟩⟩⟩⟩⟩⟩⟩⟩⟩⟩⟩⟩⟩⟩⟩⟩⟩⟩⟩⟩⟩⟩⟩⟩⟩⟩⟩⟩⟩⟩⟩⟩⟩⟩⟩⟩⟩
theorem so_Routes_costOf_0 : Snd l D AC b z L xs Gm j_Routes_costOf 0 (oAld 0 1) := sn_aload_n l D AC b z L xs Gm  dX6_costOf_0 rfl
theorem so_Routes_costOf_1 : Snd l D AC b z L xs Gm j_Routes_costOf 1 (oGetR kc_Routes 0 4) := sn_getR l D AC b z L xs Gm  dX6_costOf_1 rfl (by decide) rfl (by decide) kin_6 tw_229
theorem so_Routes_costOf_4 : Snd l D AC b z L xs Gm j_Routes_costOf 4 (oIld 1 5) := sn_iload_n l D AC b z L xs Gm  dX6_costOf_4 rfl
theorem so_Routes_costOf_5 : Snd l D AC b z L xs Gm j_Routes_costOf 5 (oCallV kc_Land j_Land_isNode 1 (mL j_Land_isNode) 8) := sn_callV l D AC b z L xs Gm  dX6_costOf_5 rfl (hs0 (fun _ => rfl) rfl) cal_Routes_costOf_Land_isNode rfl rfl (by decide) rfl tw_560 tw_471 tw_472
theorem so_Routes_costOf_8 : Snd l D AC b z L xs Gm j_Routes_costOf 8 (oIf (fun x => decide (x = 0)) 33 11) := sn_if_eq l D AC b z L xs Gm  dX6_costOf_8 (by decide)
theorem so_Routes_costOf_11 : Snd l D AC b z L xs Gm j_Routes_costOf 11 (oAld 0 12) := sn_aload_n l D AC b z L xs Gm  dX6_costOf_11 rfl
theorem so_Routes_costOf_12 : Snd l D AC b z L xs Gm j_Routes_costOf 12 (oGetR kc_Routes 0 15) := sn_getR l D AC b z L xs Gm  dX6_costOf_12 rfl (by decide) rfl (by decide) kin_6 tw_229
theorem so_Routes_costOf_15 : Snd l D AC b z L xs Gm j_Routes_costOf 15 (oIld 2 16) := sn_iload_n l D AC b z L xs Gm  dX6_costOf_15 rfl
theorem so_Routes_costOf_16 : Snd l D AC b z L xs Gm j_Routes_costOf 16 (oCallV kc_Land j_Land_isNode 1 (mL j_Land_isNode) 19) := sn_callV l D AC b z L xs Gm  dX6_costOf_16 rfl (hs0 (fun _ => rfl) rfl) cal_Routes_costOf_Land_isNode rfl rfl (by decide) rfl tw_560 tw_471 tw_472
theorem so_Routes_costOf_19 : Snd l D AC b z L xs Gm j_Routes_costOf 19 (oIf (fun x => decide (x = 0)) 33 22) := sn_if_eq l D AC b z L xs Gm  dX6_costOf_19 (by decide)
theorem so_Routes_costOf_22 : Snd l D AC b z L xs Gm j_Routes_costOf 22 (oAld 0 23) := sn_aload_n l D AC b z L xs Gm  dX6_costOf_22 rfl
theorem so_Routes_costOf_23 : Snd l D AC b z L xs Gm j_Routes_costOf 23 (oGetR kc_Routes 1 26) := sn_getR l D AC b z L xs Gm  dX6_costOf_23 rfl (by decide) rfl (by decide) kin_6 tw_230
theorem so_Routes_costOf_26 : Snd l D AC b z L xs Gm j_Routes_costOf 26 (oIld 1 27) := sn_iload_n l D AC b z L xs Gm  dX6_costOf_26 rfl
theorem so_Routes_costOf_27 : Snd l D AC b z L xs Gm j_Routes_costOf 27 (oAal 4 28) := sn_aaload l D AC b z L xs Gm  dX6_costOf_27 (by decide) rfl rfl (by decide)
theorem so_Routes_costOf_28 : Snd l D AC b z L xs Gm j_Routes_costOf 28 (oIld 2 29) := sn_iload_n l D AC b z L xs Gm  dX6_costOf_28 rfl
theorem so_Routes_costOf_29 : Snd l D AC b z L xs Gm j_Routes_costOf 29 (oIal 0 30) := sn_iaload l D AC b z L xs Gm  dX6_costOf_29 (by decide) rfl rfl rfl
theorem so_Routes_costOf_30 : Snd l D AC b z L xs Gm j_Routes_costOf 30 (oGo 34) := sn_goto l D AC b z L xs Gm  dX6_costOf_30 (by decide)
theorem so_Routes_costOf_33 : Snd l D AC b z L xs Gm j_Routes_costOf 33 (oI (-1) 34) := sn_iconst l D AC b z L xs Gm  dX6_costOf_33 (by decide)
theorem so_Routes_costOf_34 : Snd l D AC b z L xs Gm j_Routes_costOf 34 (oRetI) := sn_retI l D AC b z L xs Gm  dX6_costOf_34 rfl
set_option maxRecDepth 100000 in
theorem so_Routes_costOf : ∀ q ∈ tb_Routes_costOf, Snd l D AC b z L xs Gm j_Routes_costOf q.1 q.2 := by
  unfold tb_Routes_costOf
  exact List.forall_mem_cons.mpr ⟨so_Routes_costOf_0 l D AC b z L xs, List.forall_mem_cons.mpr ⟨so_Routes_costOf_1 l D AC b z L xs, List.forall_mem_cons.mpr ⟨so_Routes_costOf_4 l D AC b z L xs, List.forall_mem_cons.mpr ⟨so_Routes_costOf_5 l D AC b z L xs, List.forall_mem_cons.mpr ⟨so_Routes_costOf_8 l D AC b z L xs, List.forall_mem_cons.mpr ⟨so_Routes_costOf_11 l D AC b z L xs, List.forall_mem_cons.mpr ⟨so_Routes_costOf_12 l D AC b z L xs, List.forall_mem_cons.mpr ⟨so_Routes_costOf_15 l D AC b z L xs, List.forall_mem_cons.mpr ⟨so_Routes_costOf_16 l D AC b z L xs, List.forall_mem_cons.mpr ⟨so_Routes_costOf_19 l D AC b z L xs, List.forall_mem_cons.mpr ⟨so_Routes_costOf_22 l D AC b z L xs, List.forall_mem_cons.mpr ⟨so_Routes_costOf_23 l D AC b z L xs, List.forall_mem_cons.mpr ⟨so_Routes_costOf_26 l D AC b z L xs, List.forall_mem_cons.mpr ⟨so_Routes_costOf_27 l D AC b z L xs, List.forall_mem_cons.mpr ⟨so_Routes_costOf_28 l D AC b z L xs, List.forall_mem_cons.mpr ⟨so_Routes_costOf_29 l D AC b z L xs, List.forall_mem_cons.mpr ⟨so_Routes_costOf_30 l D AC b z L xs, List.forall_mem_cons.mpr ⟨so_Routes_costOf_33 l D AC b z L xs, List.forall_mem_cons.mpr ⟨so_Routes_costOf_34 l D AC b z L xs, fun _ h => absurd h List.not_mem_nil⟩⟩⟩⟩⟩⟩⟩⟩⟩⟩⟩⟩⟩⟩⟩⟩⟩⟩⟩
theorem so_Routes_nextOf_0 : Snd l D AC b z L xs Gm j_Routes_nextOf 0 (oAld 0 1) := sn_aload_n l D AC b z L xs Gm  dX6_nextOf_0 rfl
theorem so_Routes_nextOf_1 : Snd l D AC b z L xs Gm j_Routes_nextOf 1 (oGetR kc_Routes 0 4) := sn_getR l D AC b z L xs Gm  dX6_nextOf_1 rfl (by decide) rfl (by decide) kin_6 tw_229
theorem so_Routes_nextOf_4 : Snd l D AC b z L xs Gm j_Routes_nextOf 4 (oIld 1 5) := sn_iload_n l D AC b z L xs Gm  dX6_nextOf_4 rfl
theorem so_Routes_nextOf_5 : Snd l D AC b z L xs Gm j_Routes_nextOf 5 (oCallV kc_Land j_Land_isNode 1 (mL j_Land_isNode) 8) := sn_callV l D AC b z L xs Gm  dX6_nextOf_5 rfl (hs0 (fun _ => rfl) rfl) cal_Routes_nextOf_Land_isNode rfl rfl (by decide) rfl tw_560 tw_471 tw_472
theorem so_Routes_nextOf_8 : Snd l D AC b z L xs Gm j_Routes_nextOf 8 (oIf (fun x => decide (x = 0)) 33 11) := sn_if_eq l D AC b z L xs Gm  dX6_nextOf_8 (by decide)
theorem so_Routes_nextOf_11 : Snd l D AC b z L xs Gm j_Routes_nextOf 11 (oAld 0 12) := sn_aload_n l D AC b z L xs Gm  dX6_nextOf_11 rfl
theorem so_Routes_nextOf_12 : Snd l D AC b z L xs Gm j_Routes_nextOf 12 (oGetR kc_Routes 0 15) := sn_getR l D AC b z L xs Gm  dX6_nextOf_12 rfl (by decide) rfl (by decide) kin_6 tw_229
theorem so_Routes_nextOf_15 : Snd l D AC b z L xs Gm j_Routes_nextOf 15 (oIld 2 16) := sn_iload_n l D AC b z L xs Gm  dX6_nextOf_15 rfl
theorem so_Routes_nextOf_16 : Snd l D AC b z L xs Gm j_Routes_nextOf 16 (oCallV kc_Land j_Land_isNode 1 (mL j_Land_isNode) 19) := sn_callV l D AC b z L xs Gm  dX6_nextOf_16 rfl (hs0 (fun _ => rfl) rfl) cal_Routes_nextOf_Land_isNode rfl rfl (by decide) rfl tw_560 tw_471 tw_472
theorem so_Routes_nextOf_19 : Snd l D AC b z L xs Gm j_Routes_nextOf 19 (oIf (fun x => decide (x = 0)) 33 22) := sn_if_eq l D AC b z L xs Gm  dX6_nextOf_19 (by decide)
theorem so_Routes_nextOf_22 : Snd l D AC b z L xs Gm j_Routes_nextOf 22 (oAld 0 23) := sn_aload_n l D AC b z L xs Gm  dX6_nextOf_22 rfl
theorem so_Routes_nextOf_23 : Snd l D AC b z L xs Gm j_Routes_nextOf 23 (oGetR kc_Routes 2 26) := sn_getR l D AC b z L xs Gm  dX6_nextOf_23 rfl (by decide) rfl (by decide) kin_6 tw_231
theorem so_Routes_nextOf_26 : Snd l D AC b z L xs Gm j_Routes_nextOf 26 (oIld 1 27) := sn_iload_n l D AC b z L xs Gm  dX6_nextOf_26 rfl
theorem so_Routes_nextOf_27 : Snd l D AC b z L xs Gm j_Routes_nextOf 27 (oAal 4 28) := sn_aaload l D AC b z L xs Gm  dX6_nextOf_27 (by decide) rfl rfl (by decide)
theorem so_Routes_nextOf_28 : Snd l D AC b z L xs Gm j_Routes_nextOf 28 (oIld 2 29) := sn_iload_n l D AC b z L xs Gm  dX6_nextOf_28 rfl
theorem so_Routes_nextOf_29 : Snd l D AC b z L xs Gm j_Routes_nextOf 29 (oIal 0 30) := sn_iaload l D AC b z L xs Gm  dX6_nextOf_29 (by decide) rfl rfl rfl
theorem so_Routes_nextOf_30 : Snd l D AC b z L xs Gm j_Routes_nextOf 30 (oGo 34) := sn_goto l D AC b z L xs Gm  dX6_nextOf_30 (by decide)
theorem so_Routes_nextOf_33 : Snd l D AC b z L xs Gm j_Routes_nextOf 33 (oI (-1) 34) := sn_iconst l D AC b z L xs Gm  dX6_nextOf_33 (by decide)
theorem so_Routes_nextOf_34 : Snd l D AC b z L xs Gm j_Routes_nextOf 34 (oRetI) := sn_retI l D AC b z L xs Gm  dX6_nextOf_34 rfl
set_option maxRecDepth 100000 in
theorem so_Routes_nextOf : ∀ q ∈ tb_Routes_nextOf, Snd l D AC b z L xs Gm j_Routes_nextOf q.1 q.2 := by
  unfold tb_Routes_nextOf
  exact List.forall_mem_cons.mpr ⟨so_Routes_nextOf_0 l D AC b z L xs, List.forall_mem_cons.mpr ⟨so_Routes_nextOf_1 l D AC b z L xs, List.forall_mem_cons.mpr ⟨so_Routes_nextOf_4 l D AC b z L xs, List.forall_mem_cons.mpr ⟨so_Routes_nextOf_5 l D AC b z L xs, List.forall_mem_cons.mpr ⟨so_Routes_nextOf_8 l D AC b z L xs, List.forall_mem_cons.mpr ⟨so_Routes_nextOf_11 l D AC b z L xs, List.forall_mem_cons.mpr ⟨so_Routes_nextOf_12 l D AC b z L xs, List.forall_mem_cons.mpr ⟨so_Routes_nextOf_15 l D AC b z L xs, List.forall_mem_cons.mpr ⟨so_Routes_nextOf_16 l D AC b z L xs, List.forall_mem_cons.mpr ⟨so_Routes_nextOf_19 l D AC b z L xs, List.forall_mem_cons.mpr ⟨so_Routes_nextOf_22 l D AC b z L xs, List.forall_mem_cons.mpr ⟨so_Routes_nextOf_23 l D AC b z L xs, List.forall_mem_cons.mpr ⟨so_Routes_nextOf_26 l D AC b z L xs, List.forall_mem_cons.mpr ⟨so_Routes_nextOf_27 l D AC b z L xs, List.forall_mem_cons.mpr ⟨so_Routes_nextOf_28 l D AC b z L xs, List.forall_mem_cons.mpr ⟨so_Routes_nextOf_29 l D AC b z L xs, List.forall_mem_cons.mpr ⟨so_Routes_nextOf_30 l D AC b z L xs, List.forall_mem_cons.mpr ⟨so_Routes_nextOf_33 l D AC b z L xs, List.forall_mem_cons.mpr ⟨so_Routes_nextOf_34 l D AC b z L xs, fun _ h => absurd h List.not_mem_nil⟩⟩⟩⟩⟩⟩⟩⟩⟩⟩⟩⟩⟩⟩⟩⟩⟩⟩⟩
theorem so_Routes_renew_0 : Snd l D AC b z L xs Gm j_Routes_renew 0 (oI 0 1) := sn_iconst l D AC b z L xs Gm  dX6_renew_0 (by decide)
theorem so_Routes_renew_1 : Snd l D AC b z L xs Gm j_Routes_renew 1 (oIst 1 2) := sn_istore_n l D AC b z L xs Gm  dX6_renew_1 rfl (by decide)
theorem so_Routes_renew_2 : Snd l D AC b z L xs Gm j_Routes_renew 2 (oIld 1 3) := sn_iload_n l D AC b z L xs Gm  dX6_renew_2 rfl
theorem so_Routes_renew_3 : Snd l D AC b z L xs Gm j_Routes_renew 3 (oAld 0 4) := sn_aload_n l D AC b z L xs Gm  dX6_renew_3 rfl
theorem so_Routes_renew_4 : Snd l D AC b z L xs Gm j_Routes_renew 4 (oGetR kc_Routes 0 7) := sn_getR l D AC b z L xs Gm  dX6_renew_4 rfl (by decide) rfl (by decide) kin_6 tw_229
theorem so_Routes_renew_7 : Snd l D AC b z L xs Gm j_Routes_renew 7 (oGetI kc_Land 2 10) := sn_getI l D AC b z L xs Gm  dX6_renew_7 rfl (by decide) rfl (by decide) kin_2 tw_213
theorem so_Routes_renew_10 : Snd l D AC b z L xs Gm j_Routes_renew 10 (oIC (fun x y => decide (y ≤ x)) 49 13) := sn_icmp_ge l D AC b z L xs Gm  dX6_renew_10 (by decide)
theorem so_Routes_renew_13 : Snd l D AC b z L xs Gm j_Routes_renew 13 (oI 0 14) := sn_iconst l D AC b z L xs Gm  dX6_renew_13 (by decide)
theorem so_Routes_renew_14 : Snd l D AC b z L xs Gm j_Routes_renew 14 (oIst 2 15) := sn_istore_n l D AC b z L xs Gm  dX6_renew_14 rfl (by decide)
theorem so_Routes_renew_15 : Snd l D AC b z L xs Gm j_Routes_renew 15 (oIld 2 16) := sn_iload_n l D AC b z L xs Gm  dX6_renew_15 rfl
theorem so_Routes_renew_16 : Snd l D AC b z L xs Gm j_Routes_renew 16 (oAld 0 17) := sn_aload_n l D AC b z L xs Gm  dX6_renew_16 rfl
theorem so_Routes_renew_17 : Snd l D AC b z L xs Gm j_Routes_renew 17 (oGetR kc_Routes 0 20) := sn_getR l D AC b z L xs Gm  dX6_renew_17 rfl (by decide) rfl (by decide) kin_6 tw_229
theorem so_Routes_renew_20 : Snd l D AC b z L xs Gm j_Routes_renew 20 (oGetI kc_Land 2 23) := sn_getI l D AC b z L xs Gm  dX6_renew_20 rfl (by decide) rfl (by decide) kin_2 tw_213
theorem so_Routes_renew_23 : Snd l D AC b z L xs Gm j_Routes_renew 23 (oIC (fun x y => decide (y ≤ x)) 43 26) := sn_icmp_ge l D AC b z L xs Gm  dX6_renew_23 (by decide)
theorem so_Routes_renew_26 : Snd l D AC b z L xs Gm j_Routes_renew 26 (oIld 1 27) := sn_iload_n l D AC b z L xs Gm  dX6_renew_26 rfl
theorem so_Routes_renew_27 : Snd l D AC b z L xs Gm j_Routes_renew 27 (oIld 2 28) := sn_iload_n l D AC b z L xs Gm  dX6_renew_27 rfl
theorem so_Routes_renew_28 : Snd l D AC b z L xs Gm j_Routes_renew 28 (oIC (fun x y => decide (x = y)) 37 31) := sn_icmp_eq l D AC b z L xs Gm  dX6_renew_28 (by decide)
theorem so_Routes_renew_31 : Snd l D AC b z L xs Gm j_Routes_renew 31 (oAld 0 32) := sn_aload_n l D AC b z L xs Gm  dX6_renew_31 rfl
theorem so_Routes_renew_32 : Snd l D AC b z L xs Gm j_Routes_renew 32 (oIld 1 33) := sn_iload_n l D AC b z L xs Gm  dX6_renew_32 rfl
theorem so_Routes_renew_33 : Snd l D AC b z L xs Gm j_Routes_renew 33 (oIld 2 34) := sn_iload_n l D AC b z L xs Gm  dX6_renew_33 rfl
theorem so_Routes_renew_34 : Snd l D AC b z L xs Gm j_Routes_renew 34 (oCallV kc_Routes j_Routes_renewPair 2 (mL j_Routes_renewPair) 37) := sn_callV l D AC b z L xs Gm  dX6_renew_34 rfl (hs0 (fun _ => rfl) rfl) cal_Routes_renew_Routes_renewPair rfl rfl (by decide) rfl tw_458 tw_460 tw_2
theorem so_Routes_renew_37 : Snd l D AC b z L xs Gm j_Routes_renew 37 (oInc 2 1 40) := sn_iinc l D AC b z L xs Gm  dX6_renew_37 (by decide) (by decide)
theorem so_Routes_renew_40 : Snd l D AC b z L xs Gm j_Routes_renew 40 (oGo 15) := sn_goto l D AC b z L xs Gm  dX6_renew_40 (by decide)
theorem so_Routes_renew_43 : Snd l D AC b z L xs Gm j_Routes_renew 43 (oInc 1 1 46) := sn_iinc l D AC b z L xs Gm  dX6_renew_43 (by decide) (by decide)
theorem so_Routes_renew_46 : Snd l D AC b z L xs Gm j_Routes_renew 46 (oGo 2) := sn_goto l D AC b z L xs Gm  dX6_renew_46 (by decide)
theorem so_Routes_renew_49 : Snd l D AC b z L xs Gm j_Routes_renew 49 (oAld 0 50) := sn_aload_n l D AC b z L xs Gm  dX6_renew_49 rfl
theorem so_Routes_renew_50 : Snd l D AC b z L xs Gm j_Routes_renew 50 (oGetR kc_Routes 1 53) := sn_getR l D AC b z L xs Gm  dX6_renew_50 rfl (by decide) rfl (by decide) kin_6 tw_230
theorem so_Routes_renew_53 : Snd l D AC b z L xs Gm j_Routes_renew 53 (oAst 1 54) := sn_astore_n l D AC b z L xs Gm  dX6_renew_53 rfl (by decide)
theorem so_Routes_renew_54 : Snd l D AC b z L xs Gm j_Routes_renew 54 (oAld 0 55) := sn_aload_n l D AC b z L xs Gm  dX6_renew_54 rfl
theorem so_Routes_renew_55 : Snd l D AC b z L xs Gm j_Routes_renew 55 (oGetR kc_Routes 2 58) := sn_getR l D AC b z L xs Gm  dX6_renew_55 rfl (by decide) rfl (by decide) kin_6 tw_231
theorem so_Routes_renew_58 : Snd l D AC b z L xs Gm j_Routes_renew 58 (oAst 2 59) := sn_astore_n l D AC b z L xs Gm  dX6_renew_58 rfl (by decide)
theorem so_Routes_renew_59 : Snd l D AC b z L xs Gm j_Routes_renew 59 (oAld 0 60) := sn_aload_n l D AC b z L xs Gm  dX6_renew_59 rfl
theorem so_Routes_renew_60 : Snd l D AC b z L xs Gm j_Routes_renew 60 (oAld 0 61) := sn_aload_n l D AC b z L xs Gm  dX6_renew_60 rfl
theorem so_Routes_renew_61 : Snd l D AC b z L xs Gm j_Routes_renew 61 (oGetR kc_Routes 3 64) := sn_getR l D AC b z L xs Gm  dX6_renew_61 rfl (by decide) rfl (by decide) kin_6 tw_232
theorem so_Routes_renew_64 : Snd l D AC b z L xs Gm j_Routes_renew 64 (oPutR kc_Routes 1 67) := sn_putR l D AC b z L xs Gm  dX6_renew_64 rfl (by decide) rfl (by decide) kin_6 tyX6_ok nmX6 tw_230 rfl (Or.inr ⟨_, rfl⟩)
theorem so_Routes_renew_67 : Snd l D AC b z L xs Gm j_Routes_renew 67 (oAld 0 68) := sn_aload_n l D AC b z L xs Gm  dX6_renew_67 rfl
theorem so_Routes_renew_68 : Snd l D AC b z L xs Gm j_Routes_renew 68 (oAld 0 69) := sn_aload_n l D AC b z L xs Gm  dX6_renew_68 rfl
theorem so_Routes_renew_69 : Snd l D AC b z L xs Gm j_Routes_renew 69 (oGetR kc_Routes 4 72) := sn_getR l D AC b z L xs Gm  dX6_renew_69 rfl (by decide) rfl (by decide) kin_6 tw_233
theorem so_Routes_renew_72 : Snd l D AC b z L xs Gm j_Routes_renew 72 (oPutR kc_Routes 2 75) := sn_putR l D AC b z L xs Gm  dX6_renew_72 rfl (by decide) rfl (by decide) kin_6 tyX6_ok nmX6 tw_231 rfl (Or.inr ⟨_, rfl⟩)
theorem so_Routes_renew_75 : Snd l D AC b z L xs Gm j_Routes_renew 75 (oAld 0 76) := sn_aload_n l D AC b z L xs Gm  dX6_renew_75 rfl
theorem so_Routes_renew_76 : Snd l D AC b z L xs Gm j_Routes_renew 76 (oAld 1 77) := sn_aload_n l D AC b z L xs Gm  dX6_renew_76 rfl
theorem so_Routes_renew_77 : Snd l D AC b z L xs Gm j_Routes_renew 77 (oPutR kc_Routes 3 80) := sn_putR l D AC b z L xs Gm  dX6_renew_77 rfl (by decide) rfl (by decide) kin_6 tyX6_ok nmX6 tw_232 rfl (Or.inr ⟨_, rfl⟩)
theorem so_Routes_renew_80 : Snd l D AC b z L xs Gm j_Routes_renew 80 (oAld 0 81) := sn_aload_n l D AC b z L xs Gm  dX6_renew_80 rfl
theorem so_Routes_renew_81 : Snd l D AC b z L xs Gm j_Routes_renew 81 (oAld 2 82) := sn_aload_n l D AC b z L xs Gm  dX6_renew_81 rfl
theorem so_Routes_renew_82 : Snd l D AC b z L xs Gm j_Routes_renew 82 (oPutR kc_Routes 4 85) := sn_putR l D AC b z L xs Gm  dX6_renew_82 rfl (by decide) rfl (by decide) kin_6 tyX6_ok nmX6 tw_233 rfl (Or.inr ⟨_, rfl⟩)
theorem so_Routes_renew_85 : Snd l D AC b z L xs Gm j_Routes_renew 85 (oAld 0 86) := sn_aload_n l D AC b z L xs Gm  dX6_renew_85 rfl
theorem so_Routes_renew_86 : Snd l D AC b z L xs Gm j_Routes_renew 86 (oDup 87) := sn_dup l D AC b z L xs Gm  dX6_renew_86
theorem so_Routes_renew_87 : Snd l D AC b z L xs Gm j_Routes_renew 87 (oGetI kc_Routes 5 90) := sn_getI l D AC b z L xs Gm  dX6_renew_87 rfl (by decide) rfl (by decide) kin_6 tw_234
theorem so_Routes_renew_90 : Snd l D AC b z L xs Gm j_Routes_renew 90 (oI 1 91) := sn_iconst l D AC b z L xs Gm  dX6_renew_90 (by decide)
theorem so_Routes_renew_91 : Snd l D AC b z L xs Gm j_Routes_renew 91 (oII (fun x y => x + y) 92) := sn_iadd l D AC b z L xs Gm  dX6_renew_91
theorem so_Routes_renew_92 : Snd l D AC b z L xs Gm j_Routes_renew 92 (oPutI kc_Routes 5 95) := sn_putI l D AC b z L xs Gm  dX6_renew_92 rfl (by decide) rfl (by decide) kin_6 tyX6_ok nmX6 tw_234 rfl rfl
theorem so_Routes_renew_95 : Snd l D AC b z L xs Gm j_Routes_renew 95 (oRet) := sn_ret l D AC b z L xs Gm  dX6_renew_95 rfl
set_option maxRecDepth 100000 in
theorem so_Routes_renew : ∀ q ∈ tb_Routes_renew, Snd l D AC b z L xs Gm j_Routes_renew q.1 q.2 := by
  unfold tb_Routes_renew
  exact List.forall_mem_cons.mpr ⟨so_Routes_renew_0 l D AC b z L xs, List.forall_mem_cons.mpr ⟨so_Routes_renew_1 l D AC b z L xs, List.forall_mem_cons.mpr ⟨so_Routes_renew_2 l D AC b z L xs, List.forall_mem_cons.mpr ⟨so_Routes_renew_3 l D AC b z L xs, List.forall_mem_cons.mpr ⟨so_Routes_renew_4 l D AC b z L xs, List.forall_mem_cons.mpr ⟨so_Routes_renew_7 l D AC b z L xs, List.forall_mem_cons.mpr ⟨so_Routes_renew_10 l D AC b z L xs, List.forall_mem_cons.mpr ⟨so_Routes_renew_13 l D AC b z L xs, List.forall_mem_cons.mpr ⟨so_Routes_renew_14 l D AC b z L xs, List.forall_mem_cons.mpr ⟨so_Routes_renew_15 l D AC b z L xs, List.forall_mem_cons.mpr ⟨so_Routes_renew_16 l D AC b z L xs, List.forall_mem_cons.mpr ⟨so_Routes_renew_17 l D AC b z L xs, List.forall_mem_cons.mpr ⟨so_Routes_renew_20 l D AC b z L xs, List.forall_mem_cons.mpr ⟨so_Routes_renew_23 l D AC b z L xs, List.forall_mem_cons.mpr ⟨so_Routes_renew_26 l D AC b z L xs, List.forall_mem_cons.mpr ⟨so_Routes_renew_27 l D AC b z L xs, List.forall_mem_cons.mpr ⟨so_Routes_renew_28 l D AC b z L xs, List.forall_mem_cons.mpr ⟨so_Routes_renew_31 l D AC b z L xs, List.forall_mem_cons.mpr ⟨so_Routes_renew_32 l D AC b z L xs, List.forall_mem_cons.mpr ⟨so_Routes_renew_33 l D AC b z L xs, List.forall_mem_cons.mpr ⟨so_Routes_renew_34 l D AC b z L xs, List.forall_mem_cons.mpr ⟨so_Routes_renew_37 l D AC b z L xs, List.forall_mem_cons.mpr ⟨so_Routes_renew_40 l D AC b z L xs, List.forall_mem_cons.mpr ⟨so_Routes_renew_43 l D AC b z L xs, List.forall_mem_cons.mpr ⟨so_Routes_renew_46 l D AC b z L xs, List.forall_mem_cons.mpr ⟨so_Routes_renew_49 l D AC b z L xs, List.forall_mem_cons.mpr ⟨so_Routes_renew_50 l D AC b z L xs, List.forall_mem_cons.mpr ⟨so_Routes_renew_53 l D AC b z L xs, List.forall_mem_cons.mpr ⟨so_Routes_renew_54 l D AC b z L xs, List.forall_mem_cons.mpr ⟨so_Routes_renew_55 l D AC b z L xs, List.forall_mem_cons.mpr ⟨so_Routes_renew_58 l D AC b z L xs, List.forall_mem_cons.mpr ⟨so_Routes_renew_59 l D AC b z L xs, List.forall_mem_cons.mpr ⟨so_Routes_renew_60 l D AC b z L xs, List.forall_mem_cons.mpr ⟨so_Routes_renew_61 l D AC b z L xs, List.forall_mem_cons.mpr ⟨so_Routes_renew_64 l D AC b z L xs, List.forall_mem_cons.mpr ⟨so_Routes_renew_67 l D AC b z L xs, List.forall_mem_cons.mpr ⟨so_Routes_renew_68 l D AC b z L xs, List.forall_mem_cons.mpr ⟨so_Routes_renew_69 l D AC b z L xs, List.forall_mem_cons.mpr ⟨so_Routes_renew_72 l D AC b z L xs, List.forall_mem_cons.mpr ⟨so_Routes_renew_75 l D AC b z L xs, List.forall_mem_cons.mpr ⟨so_Routes_renew_76 l D AC b z L xs, List.forall_mem_cons.mpr ⟨so_Routes_renew_77 l D AC b z L xs, List.forall_mem_cons.mpr ⟨so_Routes_renew_80 l D AC b z L xs, List.forall_mem_cons.mpr ⟨so_Routes_renew_81 l D AC b z L xs, List.forall_mem_cons.mpr ⟨so_Routes_renew_82 l D AC b z L xs, List.forall_mem_cons.mpr ⟨so_Routes_renew_85 l D AC b z L xs, List.forall_mem_cons.mpr ⟨so_Routes_renew_86 l D AC b z L xs, List.forall_mem_cons.mpr ⟨so_Routes_renew_87 l D AC b z L xs, List.forall_mem_cons.mpr ⟨so_Routes_renew_90 l D AC b z L xs, List.forall_mem_cons.mpr ⟨so_Routes_renew_91 l D AC b z L xs, List.forall_mem_cons.mpr ⟨so_Routes_renew_92 l D AC b z L xs, List.forall_mem_cons.mpr ⟨so_Routes_renew_95 l D AC b z L xs, fun _ h => absurd h List.not_mem_nil⟩⟩⟩⟩⟩⟩⟩⟩⟩⟩⟩⟩⟩⟩⟩⟩⟩⟩⟩⟩⟩⟩⟩⟩⟩⟩⟩⟩⟩⟩⟩⟩⟩⟩⟩⟩⟩⟩⟩⟩⟩⟩⟩⟩⟩⟩⟩⟩⟩⟩⟩⟩
theorem so_Routes_renewPair_0 : Snd l D AC b z L xs Gm j_Routes_renewPair 0 (oI (-1) 1) := sn_iconst l D AC b z L xs Gm  dX6_renewPair_0 (by decide)
theorem so_Routes_renewPair_1 : Snd l D AC b z L xs Gm j_Routes_renewPair 1 (oIst 3 2) := sn_istore_n l D AC b z L xs Gm  dX6_renewPair_1 rfl (by decide)
theorem so_Routes_renewPair_2 : Snd l D AC b z L xs Gm j_Routes_renewPair 2 (oI (-1) 3) := sn_iconst l D AC b z L xs Gm  dX6_renewPair_2 (by decide)
theorem so_Routes_renewPair_3 : Snd l D AC b z L xs Gm j_Routes_renewPair 3 (oIst 4 5) := sn_istore l D AC b z L xs Gm  dX6_renewPair_3 (by decide)
theorem so_Routes_renewPair_5 : Snd l D AC b z L xs Gm j_Routes_renewPair 5 (oAld 0 6) := sn_aload_n l D AC b z L xs Gm  dX6_renewPair_5 rfl
theorem so_Routes_renewPair_6 : Snd l D AC b z L xs Gm j_Routes_renewPair 6 (oGetR kc_Routes 0 9) := sn_getR l D AC b z L xs Gm  dX6_renewPair_6 rfl (by decide) rfl (by decide) kin_6 tw_229
theorem so_Routes_renewPair_9 : Snd l D AC b z L xs Gm j_Routes_renewPair 9 (oIld 1 10) := sn_iload_n l D AC b z L xs Gm  dX6_renewPair_9 rfl
theorem so_Routes_renewPair_10 : Snd l D AC b z L xs Gm j_Routes_renewPair 10 (oIld 2 11) := sn_iload_n l D AC b z L xs Gm  dX6_renewPair_10 rfl
theorem so_Routes_renewPair_11 : Snd l D AC b z L xs Gm j_Routes_renewPair 11 (oCallV kc_Land j_Land_areLinked 2 (mL j_Land_areLinked) 14) := sn_callV l D AC b z L xs Gm  dX6_renewPair_11 rfl (hs0 (fun _ => rfl) rfl) cal_Routes_renewPair_Land_areLinked rfl rfl (by decide) rfl tw_462 tw_463 tw_464
theorem so_Routes_renewPair_14 : Snd l D AC b z L xs Gm j_Routes_renewPair 14 (oIf (fun x => decide (x = 0)) 25 17) := sn_if_eq l D AC b z L xs Gm  dX6_renewPair_14 (by decide)
theorem so_Routes_renewPair_17 : Snd l D AC b z L xs Gm j_Routes_renewPair 17 (oIld 2 18) := sn_iload_n l D AC b z L xs Gm  dX6_renewPair_17 rfl
theorem so_Routes_renewPair_18 : Snd l D AC b z L xs Gm j_Routes_renewPair 18 (oIst 3 19) := sn_istore_n l D AC b z L xs Gm  dX6_renewPair_18 rfl (by decide)
theorem so_Routes_renewPair_19 : Snd l D AC b z L xs Gm j_Routes_renewPair 19 (oI 1 20) := sn_iconst l D AC b z L xs Gm  dX6_renewPair_19 (by decide)
theorem so_Routes_renewPair_20 : Snd l D AC b z L xs Gm j_Routes_renewPair 20 (oIst 4 22) := sn_istore l D AC b z L xs Gm  dX6_renewPair_20 (by decide)
theorem so_Routes_renewPair_22 : Snd l D AC b z L xs Gm j_Routes_renewPair 22 (oGo 71) := sn_goto l D AC b z L xs Gm  dX6_renewPair_22 (by decide)
theorem so_Routes_renewPair_25 : Snd l D AC b z L xs Gm j_Routes_renewPair 25 (oAld 0 26) := sn_aload_n l D AC b z L xs Gm  dX6_renewPair_25 rfl
theorem so_Routes_renewPair_26 : Snd l D AC b z L xs Gm j_Routes_renewPair 26 (oIld 1 27) := sn_iload_n l D AC b z L xs Gm  dX6_renewPair_26 rfl
theorem so_Routes_renewPair_27 : Snd l D AC b z L xs Gm j_Routes_renewPair 27 (oIld 2 28) := sn_iload_n l D AC b z L xs Gm  dX6_renewPair_27 rfl
theorem so_Routes_renewPair_28 : Snd l D AC b z L xs Gm j_Routes_renewPair 28 (oCallV kc_Routes j_Routes_cheapestNeighbour 2 (mL j_Routes_cheapestNeighbour) 31) := sn_callV l D AC b z L xs Gm  dX6_renewPair_28 rfl (hs0 (fun _ => rfl) rfl) cal_Routes_renewPair_Routes_cheapestNeighbour rfl rfl (by decide) rfl tw_477 tw_479 tw_3
theorem so_Routes_renewPair_31 : Snd l D AC b z L xs Gm j_Routes_renewPair 31 (oIst 5 33) := sn_istore l D AC b z L xs Gm  dX6_renewPair_31 (by decide)
theorem so_Routes_renewPair_33 : Snd l D AC b z L xs Gm j_Routes_renewPair 33 (oIld 5 35) := sn_iload l D AC b z L xs Gm  dX6_renewPair_33
theorem so_Routes_renewPair_35 : Snd l D AC b z L xs Gm j_Routes_renewPair 35 (oI (-1) 36) := sn_iconst l D AC b z L xs Gm  dX6_renewPair_35 (by decide)
theorem so_Routes_renewPair_36 : Snd l D AC b z L xs Gm j_Routes_renewPair 36 (oIC (fun x y => decide (x = y)) 71 39) := sn_icmp_eq l D AC b z L xs Gm  dX6_renewPair_36 (by decide)
theorem so_Routes_renewPair_39 : Snd l D AC b z L xs Gm j_Routes_renewPair 39 (oAld 0 40) := sn_aload_n l D AC b z L xs Gm  dX6_renewPair_39 rfl
theorem so_Routes_renewPair_40 : Snd l D AC b z L xs Gm j_Routes_renewPair 40 (oGetR kc_Routes 1 43) := sn_getR l D AC b z L xs Gm  dX6_renewPair_40 rfl (by decide) rfl (by decide) kin_6 tw_230
theorem so_Routes_renewPair_43 : Snd l D AC b z L xs Gm j_Routes_renewPair 43 (oIld 5 45) := sn_iload l D AC b z L xs Gm  dX6_renewPair_43
theorem so_Routes_renewPair_45 : Snd l D AC b z L xs Gm j_Routes_renewPair 45 (oAal 4 46) := sn_aaload l D AC b z L xs Gm  dX6_renewPair_45 (by decide) rfl rfl (by decide)
theorem so_Routes_renewPair_46 : Snd l D AC b z L xs Gm j_Routes_renewPair 46 (oIld 2 47) := sn_iload_n l D AC b z L xs Gm  dX6_renewPair_46 rfl
theorem so_Routes_renewPair_47 : Snd l D AC b z L xs Gm j_Routes_renewPair 47 (oIal 0 48) := sn_iaload l D AC b z L xs Gm  dX6_renewPair_47 (by decide) rfl rfl rfl
theorem so_Routes_renewPair_48 : Snd l D AC b z L xs Gm j_Routes_renewPair 48 (oI 1 49) := sn_iconst l D AC b z L xs Gm  dX6_renewPair_48 (by decide)
theorem so_Routes_renewPair_49 : Snd l D AC b z L xs Gm j_Routes_renewPair 49 (oII (fun x y => x + y) 50) := sn_iadd l D AC b z L xs Gm  dX6_renewPair_49
theorem so_Routes_renewPair_50 : Snd l D AC b z L xs Gm j_Routes_renewPair 50 (oI 8 52) := sn_bipush l D AC b z L xs Gm  dX6_renewPair_50 (by decide)
theorem so_Routes_renewPair_52 : Snd l D AC b z L xs Gm j_Routes_renewPair 52 (oIC (fun x y => decide (y < x)) 71 55) := sn_icmp_gt l D AC b z L xs Gm  dX6_renewPair_52 (by decide)
theorem so_Routes_renewPair_55 : Snd l D AC b z L xs Gm j_Routes_renewPair 55 (oIld 5 57) := sn_iload l D AC b z L xs Gm  dX6_renewPair_55
theorem so_Routes_renewPair_57 : Snd l D AC b z L xs Gm j_Routes_renewPair 57 (oIst 3 58) := sn_istore_n l D AC b z L xs Gm  dX6_renewPair_57 rfl (by decide)
theorem so_Routes_renewPair_58 : Snd l D AC b z L xs Gm j_Routes_renewPair 58 (oAld 0 59) := sn_aload_n l D AC b z L xs Gm  dX6_renewPair_58 rfl
theorem so_Routes_renewPair_59 : Snd l D AC b z L xs Gm j_Routes_renewPair 59 (oGetR kc_Routes 1 62) := sn_getR l D AC b z L xs Gm  dX6_renewPair_59 rfl (by decide) rfl (by decide) kin_6 tw_230
theorem so_Routes_renewPair_62 : Snd l D AC b z L xs Gm j_Routes_renewPair 62 (oIld 5 64) := sn_iload l D AC b z L xs Gm  dX6_renewPair_62
theorem so_Routes_renewPair_64 : Snd l D AC b z L xs Gm j_Routes_renewPair 64 (oAal 4 65) := sn_aaload l D AC b z L xs Gm  dX6_renewPair_64 (by decide) rfl rfl (by decide)
theorem so_Routes_renewPair_65 : Snd l D AC b z L xs Gm j_Routes_renewPair 65 (oIld 2 66) := sn_iload_n l D AC b z L xs Gm  dX6_renewPair_65 rfl
theorem so_Routes_renewPair_66 : Snd l D AC b z L xs Gm j_Routes_renewPair 66 (oIal 0 67) := sn_iaload l D AC b z L xs Gm  dX6_renewPair_66 (by decide) rfl rfl rfl
theorem so_Routes_renewPair_67 : Snd l D AC b z L xs Gm j_Routes_renewPair 67 (oI 1 68) := sn_iconst l D AC b z L xs Gm  dX6_renewPair_67 (by decide)
theorem so_Routes_renewPair_68 : Snd l D AC b z L xs Gm j_Routes_renewPair 68 (oII (fun x y => x + y) 69) := sn_iadd l D AC b z L xs Gm  dX6_renewPair_68
theorem so_Routes_renewPair_69 : Snd l D AC b z L xs Gm j_Routes_renewPair 69 (oIst 4 71) := sn_istore l D AC b z L xs Gm  dX6_renewPair_69 (by decide)
theorem so_Routes_renewPair_71 : Snd l D AC b z L xs Gm j_Routes_renewPair 71 (oAld 0 72) := sn_aload_n l D AC b z L xs Gm  dX6_renewPair_71 rfl
theorem so_Routes_renewPair_72 : Snd l D AC b z L xs Gm j_Routes_renewPair 72 (oGetR kc_Routes 4 75) := sn_getR l D AC b z L xs Gm  dX6_renewPair_72 rfl (by decide) rfl (by decide) kin_6 tw_233
theorem so_Routes_renewPair_75 : Snd l D AC b z L xs Gm j_Routes_renewPair 75 (oIld 1 76) := sn_iload_n l D AC b z L xs Gm  dX6_renewPair_75 rfl
theorem so_Routes_renewPair_76 : Snd l D AC b z L xs Gm j_Routes_renewPair 76 (oAal 4 77) := sn_aaload l D AC b z L xs Gm  dX6_renewPair_76 (by decide) rfl rfl (by decide)
theorem so_Routes_renewPair_77 : Snd l D AC b z L xs Gm j_Routes_renewPair 77 (oIld 2 78) := sn_iload_n l D AC b z L xs Gm  dX6_renewPair_77 rfl
theorem so_Routes_renewPair_78 : Snd l D AC b z L xs Gm j_Routes_renewPair 78 (oIld 3 79) := sn_iload_n l D AC b z L xs Gm  dX6_renewPair_78 rfl
theorem so_Routes_renewPair_79 : Snd l D AC b z L xs Gm j_Routes_renewPair 79 (oIas 0 80) := sn_iastore l D AC b z L xs Gm  dX6_renewPair_79 (by decide) rfl rfl
theorem so_Routes_renewPair_80 : Snd l D AC b z L xs Gm j_Routes_renewPair 80 (oAld 0 81) := sn_aload_n l D AC b z L xs Gm  dX6_renewPair_80 rfl
theorem so_Routes_renewPair_81 : Snd l D AC b z L xs Gm j_Routes_renewPair 81 (oGetR kc_Routes 3 84) := sn_getR l D AC b z L xs Gm  dX6_renewPair_81 rfl (by decide) rfl (by decide) kin_6 tw_232
theorem so_Routes_renewPair_84 : Snd l D AC b z L xs Gm j_Routes_renewPair 84 (oIld 1 85) := sn_iload_n l D AC b z L xs Gm  dX6_renewPair_84 rfl
theorem so_Routes_renewPair_85 : Snd l D AC b z L xs Gm j_Routes_renewPair 85 (oAal 4 86) := sn_aaload l D AC b z L xs Gm  dX6_renewPair_85 (by decide) rfl rfl (by decide)
theorem so_Routes_renewPair_86 : Snd l D AC b z L xs Gm j_Routes_renewPair 86 (oIld 2 87) := sn_iload_n l D AC b z L xs Gm  dX6_renewPair_86 rfl
theorem so_Routes_renewPair_87 : Snd l D AC b z L xs Gm j_Routes_renewPair 87 (oIld 4 89) := sn_iload l D AC b z L xs Gm  dX6_renewPair_87
theorem so_Routes_renewPair_89 : Snd l D AC b z L xs Gm j_Routes_renewPair 89 (oIas 0 90) := sn_iastore l D AC b z L xs Gm  dX6_renewPair_89 (by decide) rfl rfl
theorem so_Routes_renewPair_90 : Snd l D AC b z L xs Gm j_Routes_renewPair 90 (oRet) := sn_ret l D AC b z L xs Gm  dX6_renewPair_90 rfl
set_option maxRecDepth 100000 in
theorem so_Routes_renewPair : ∀ q ∈ tb_Routes_renewPair, Snd l D AC b z L xs Gm j_Routes_renewPair q.1 q.2 := by
  unfold tb_Routes_renewPair
  exact List.forall_mem_cons.mpr ⟨so_Routes_renewPair_0 l D AC b z L xs, List.forall_mem_cons.mpr ⟨so_Routes_renewPair_1 l D AC b z L xs, List.forall_mem_cons.mpr ⟨so_Routes_renewPair_2 l D AC b z L xs, List.forall_mem_cons.mpr ⟨so_Routes_renewPair_3 l D AC b z L xs, List.forall_mem_cons.mpr ⟨so_Routes_renewPair_5 l D AC b z L xs, List.forall_mem_cons.mpr ⟨so_Routes_renewPair_6 l D AC b z L xs, List.forall_mem_cons.mpr ⟨so_Routes_renewPair_9 l D AC b z L xs, List.forall_mem_cons.mpr ⟨so_Routes_renewPair_10 l D AC b z L xs, List.forall_mem_cons.mpr ⟨so_Routes_renewPair_11 l D AC b z L xs, List.forall_mem_cons.mpr ⟨so_Routes_renewPair_14 l D AC b z L xs, List.forall_mem_cons.mpr ⟨so_Routes_renewPair_17 l D AC b z L xs, List.forall_mem_cons.mpr ⟨so_Routes_renewPair_18 l D AC b z L xs, List.forall_mem_cons.mpr ⟨so_Routes_renewPair_19 l D AC b z L xs, List.forall_mem_cons.mpr ⟨so_Routes_renewPair_20 l D AC b z L xs, List.forall_mem_cons.mpr ⟨so_Routes_renewPair_22 l D AC b z L xs, List.forall_mem_cons.mpr ⟨so_Routes_renewPair_25 l D AC b z L xs, List.forall_mem_cons.mpr ⟨so_Routes_renewPair_26 l D AC b z L xs, List.forall_mem_cons.mpr ⟨so_Routes_renewPair_27 l D AC b z L xs, List.forall_mem_cons.mpr ⟨so_Routes_renewPair_28 l D AC b z L xs, List.forall_mem_cons.mpr ⟨so_Routes_renewPair_31 l D AC b z L xs, List.forall_mem_cons.mpr ⟨so_Routes_renewPair_33 l D AC b z L xs, List.forall_mem_cons.mpr ⟨so_Routes_renewPair_35 l D AC b z L xs, List.forall_mem_cons.mpr ⟨so_Routes_renewPair_36 l D AC b z L xs, List.forall_mem_cons.mpr ⟨so_Routes_renewPair_39 l D AC b z L xs, List.forall_mem_cons.mpr ⟨so_Routes_renewPair_40 l D AC b z L xs, List.forall_mem_cons.mpr ⟨so_Routes_renewPair_43 l D AC b z L xs, List.forall_mem_cons.mpr ⟨so_Routes_renewPair_45 l D AC b z L xs, List.forall_mem_cons.mpr ⟨so_Routes_renewPair_46 l D AC b z L xs, List.forall_mem_cons.mpr ⟨so_Routes_renewPair_47 l D AC b z L xs, List.forall_mem_cons.mpr ⟨so_Routes_renewPair_48 l D AC b z L xs, List.forall_mem_cons.mpr ⟨so_Routes_renewPair_49 l D AC b z L xs, List.forall_mem_cons.mpr ⟨so_Routes_renewPair_50 l D AC b z L xs, List.forall_mem_cons.mpr ⟨so_Routes_renewPair_52 l D AC b z L xs, List.forall_mem_cons.mpr ⟨so_Routes_renewPair_55 l D AC b z L xs, List.forall_mem_cons.mpr ⟨so_Routes_renewPair_57 l D AC b z L xs, List.forall_mem_cons.mpr ⟨so_Routes_renewPair_58 l D AC b z L xs, List.forall_mem_cons.mpr ⟨so_Routes_renewPair_59 l D AC b z L xs, List.forall_mem_cons.mpr ⟨so_Routes_renewPair_62 l D AC b z L xs, List.forall_mem_cons.mpr ⟨so_Routes_renewPair_64 l D AC b z L xs, List.forall_mem_cons.mpr ⟨so_Routes_renewPair_65 l D AC b z L xs, List.forall_mem_cons.mpr ⟨so_Routes_renewPair_66 l D AC b z L xs, List.forall_mem_cons.mpr ⟨so_Routes_renewPair_67 l D AC b z L xs, List.forall_mem_cons.mpr ⟨so_Routes_renewPair_68 l D AC b z L xs, List.forall_mem_cons.mpr ⟨so_Routes_renewPair_69 l D AC b z L xs, List.forall_mem_cons.mpr ⟨so_Routes_renewPair_71 l D AC b z L xs, List.forall_mem_cons.mpr ⟨so_Routes_renewPair_72 l D AC b z L xs, List.forall_mem_cons.mpr ⟨so_Routes_renewPair_75 l D AC b z L xs, List.forall_mem_cons.mpr ⟨so_Routes_renewPair_76 l D AC b z L xs, List.forall_mem_cons.mpr ⟨so_Routes_renewPair_77 l D AC b z L xs, List.forall_mem_cons.mpr ⟨so_Routes_renewPair_78 l D AC b z L xs, List.forall_mem_cons.mpr ⟨so_Routes_renewPair_79 l D AC b z L xs, List.forall_mem_cons.mpr ⟨so_Routes_renewPair_80 l D AC b z L xs, List.forall_mem_cons.mpr ⟨so_Routes_renewPair_81 l D AC b z L xs, List.forall_mem_cons.mpr ⟨so_Routes_renewPair_84 l D AC b z L xs, List.forall_mem_cons.mpr ⟨so_Routes_renewPair_85 l D AC b z L xs, List.forall_mem_cons.mpr ⟨so_Routes_renewPair_86 l D AC b z L xs, List.forall_mem_cons.mpr ⟨so_Routes_renewPair_87 l D AC b z L xs, List.forall_mem_cons.mpr ⟨so_Routes_renewPair_89 l D AC b z L xs, List.forall_mem_cons.mpr ⟨so_Routes_renewPair_90 l D AC b z L xs, fun _ h => absurd h List.not_mem_nil⟩⟩⟩⟩⟩⟩⟩⟩⟩⟩⟩⟩⟩⟩⟩⟩⟩⟩⟩⟩⟩⟩⟩⟩⟩⟩⟩⟩⟩⟩⟩⟩⟩⟩⟩⟩⟩⟩⟩⟩⟩⟩⟩⟩⟩⟩⟩⟩⟩⟩⟩⟩⟩⟩⟩⟩⟩⟩⟩
theorem so_Routes_cheapestNeighbour_0 : Snd l D AC b z L xs Gm j_Routes_cheapestNeighbour 0 (oI (-1) 1) := sn_iconst l D AC b z L xs Gm  dX6_cheapestNeighbour_0 (by decide)
theorem so_Routes_cheapestNeighbour_1 : Snd l D AC b z L xs Gm j_Routes_cheapestNeighbour 1 (oIst 3 2) := sn_istore_n l D AC b z L xs Gm  dX6_cheapestNeighbour_1 rfl (by decide)
theorem so_Routes_cheapestNeighbour_2 : Snd l D AC b z L xs Gm j_Routes_cheapestNeighbour 2 (oI 0 3) := sn_iconst l D AC b z L xs Gm  dX6_cheapestNeighbour_2 (by decide)
theorem so_Routes_cheapestNeighbour_3 : Snd l D AC b z L xs Gm j_Routes_cheapestNeighbour 3 (oIst 4 5) := sn_istore l D AC b z L xs Gm  dX6_cheapestNeighbour_3 (by decide)
theorem so_Routes_cheapestNeighbour_5 : Snd l D AC b z L xs Gm j_Routes_cheapestNeighbour 5 (oIld 4 7) := sn_iload l D AC b z L xs Gm  dX6_cheapestNeighbour_5
theorem so_Routes_cheapestNeighbour_7 : Snd l D AC b z L xs Gm j_Routes_cheapestNeighbour 7 (oAld 0 8) := sn_aload_n l D AC b z L xs Gm  dX6_cheapestNeighbour_7 rfl
theorem so_Routes_cheapestNeighbour_8 : Snd l D AC b z L xs Gm j_Routes_cheapestNeighbour 8 (oGetR kc_Routes 0 11) := sn_getR l D AC b z L xs Gm  dX6_cheapestNeighbour_8 rfl (by decide) rfl (by decide) kin_6 tw_229
theorem so_Routes_cheapestNeighbour_11 : Snd l D AC b z L xs Gm j_Routes_cheapestNeighbour 11 (oGetI kc_Land 2 14) := sn_getI l D AC b z L xs Gm  dX6_cheapestNeighbour_11 rfl (by decide) rfl (by decide) kin_2 tw_213
theorem so_Routes_cheapestNeighbour_14 : Snd l D AC b z L xs Gm j_Routes_cheapestNeighbour 14 (oIC (fun x y => decide (y ≤ x)) 102 17) := sn_icmp_ge l D AC b z L xs Gm  dX6_cheapestNeighbour_14 (by decide)
theorem so_Routes_cheapestNeighbour_17 : Snd l D AC b z L xs Gm j_Routes_cheapestNeighbour 17 (oAld 0 18) := sn_aload_n l D AC b z L xs Gm  dX6_cheapestNeighbour_17 rfl
theorem so_Routes_cheapestNeighbour_18 : Snd l D AC b z L xs Gm j_Routes_cheapestNeighbour 18 (oGetR kc_Routes 2 21) := sn_getR l D AC b z L xs Gm  dX6_cheapestNeighbour_18 rfl (by decide) rfl (by decide) kin_6 tw_231
theorem so_Routes_cheapestNeighbour_21 : Snd l D AC b z L xs Gm j_Routes_cheapestNeighbour 21 (oIld 4 23) := sn_iload l D AC b z L xs Gm  dX6_cheapestNeighbour_21
theorem so_Routes_cheapestNeighbour_23 : Snd l D AC b z L xs Gm j_Routes_cheapestNeighbour 23 (oAal 4 24) := sn_aaload l D AC b z L xs Gm  dX6_cheapestNeighbour_23 (by decide) rfl rfl (by decide)
theorem so_Routes_cheapestNeighbour_24 : Snd l D AC b z L xs Gm j_Routes_cheapestNeighbour 24 (oIld 2 25) := sn_iload_n l D AC b z L xs Gm  dX6_cheapestNeighbour_24 rfl
theorem so_Routes_cheapestNeighbour_25 : Snd l D AC b z L xs Gm j_Routes_cheapestNeighbour 25 (oIal 0 26) := sn_iaload l D AC b z L xs Gm  dX6_cheapestNeighbour_25 (by decide) rfl rfl rfl
theorem so_Routes_cheapestNeighbour_26 : Snd l D AC b z L xs Gm j_Routes_cheapestNeighbour 26 (oI (-1) 27) := sn_iconst l D AC b z L xs Gm  dX6_cheapestNeighbour_26 (by decide)
theorem so_Routes_cheapestNeighbour_27 : Snd l D AC b z L xs Gm j_Routes_cheapestNeighbour 27 (oIC (fun x y => decide (x = y)) 60 30) := sn_icmp_eq l D AC b z L xs Gm  dX6_cheapestNeighbour_27 (by decide)
theorem so_Routes_cheapestNeighbour_30 : Snd l D AC b z L xs Gm j_Routes_cheapestNeighbour 30 (oAld 0 31) := sn_aload_n l D AC b z L xs Gm  dX6_cheapestNeighbour_30 rfl
theorem so_Routes_cheapestNeighbour_31 : Snd l D AC b z L xs Gm j_Routes_cheapestNeighbour 31 (oGetR kc_Routes 2 34) := sn_getR l D AC b z L xs Gm  dX6_cheapestNeighbour_31 rfl (by decide) rfl (by decide) kin_6 tw_231
theorem so_Routes_cheapestNeighbour_34 : Snd l D AC b z L xs Gm j_Routes_cheapestNeighbour 34 (oIld 4 36) := sn_iload l D AC b z L xs Gm  dX6_cheapestNeighbour_34
theorem so_Routes_cheapestNeighbour_36 : Snd l D AC b z L xs Gm j_Routes_cheapestNeighbour 36 (oAal 4 37) := sn_aaload l D AC b z L xs Gm  dX6_cheapestNeighbour_36 (by decide) rfl rfl (by decide)
theorem so_Routes_cheapestNeighbour_37 : Snd l D AC b z L xs Gm j_Routes_cheapestNeighbour 37 (oIld 2 38) := sn_iload_n l D AC b z L xs Gm  dX6_cheapestNeighbour_37 rfl
theorem so_Routes_cheapestNeighbour_38 : Snd l D AC b z L xs Gm j_Routes_cheapestNeighbour 38 (oIal 0 39) := sn_iaload l D AC b z L xs Gm  dX6_cheapestNeighbour_38 (by decide) rfl rfl rfl
theorem so_Routes_cheapestNeighbour_39 : Snd l D AC b z L xs Gm j_Routes_cheapestNeighbour 39 (oIld 1 40) := sn_iload_n l D AC b z L xs Gm  dX6_cheapestNeighbour_39 rfl
theorem so_Routes_cheapestNeighbour_40 : Snd l D AC b z L xs Gm j_Routes_cheapestNeighbour 40 (oIC (fun x y => decide (x = y)) 60 43) := sn_icmp_eq l D AC b z L xs Gm  dX6_cheapestNeighbour_40 (by decide)
theorem so_Routes_cheapestNeighbour_43 : Snd l D AC b z L xs Gm j_Routes_cheapestNeighbour 43 (oAld 0 44) := sn_aload_n l D AC b z L xs Gm  dX6_cheapestNeighbour_43 rfl
theorem so_Routes_cheapestNeighbour_44 : Snd l D AC b z L xs Gm j_Routes_cheapestNeighbour 44 (oGetR kc_Routes 0 47) := sn_getR l D AC b z L xs Gm  dX6_cheapestNeighbour_44 rfl (by decide) rfl (by decide) kin_6 tw_229
theorem so_Routes_cheapestNeighbour_47 : Snd l D AC b z L xs Gm j_Routes_cheapestNeighbour 47 (oIld 4 49) := sn_iload l D AC b z L xs Gm  dX6_cheapestNeighbour_47
theorem so_Routes_cheapestNeighbour_49 : Snd l D AC b z L xs Gm j_Routes_cheapestNeighbour 49 (oIld 1 50) := sn_iload_n l D AC b z L xs Gm  dX6_cheapestNeighbour_49 rfl
theorem so_Routes_cheapestNeighbour_50 : Snd l D AC b z L xs Gm j_Routes_cheapestNeighbour 50 (oCallV kc_Land j_Land_areLinked 2 (mL j_Land_areLinked) 53) := sn_callV l D AC b z L xs Gm  dX6_cheapestNeighbour_50 rfl (hs0 (fun _ => rfl) rfl) cal_Routes_cheapestNeighbour_Land_areLinked rfl rfl (by decide) rfl tw_462 tw_463 tw_464
theorem so_Routes_cheapestNeighbour_53 : Snd l D AC b z L xs Gm j_Routes_cheapestNeighbour 53 (oIf (fun x => decide (x = 0)) 60 56) := sn_if_eq l D AC b z L xs Gm  dX6_cheapestNeighbour_53 (by decide)
theorem so_Routes_cheapestNeighbour_56 : Snd l D AC b z L xs Gm j_Routes_cheapestNeighbour 56 (oI 1 57) := sn_iconst l D AC b z L xs Gm  dX6_cheapestNeighbour_56 (by decide)
theorem so_Routes_cheapestNeighbour_57 : Snd l D AC b z L xs Gm j_Routes_cheapestNeighbour 57 (oGo 61) := sn_goto l D AC b z L xs Gm  dX6_cheapestNeighbour_57 (by decide)
theorem so_Routes_cheapestNeighbour_60 : Snd l D AC b z L xs Gm j_Routes_cheapestNeighbour 60 (oI 0 61) := sn_iconst l D AC b z L xs Gm  dX6_cheapestNeighbour_60 (by decide)
theorem so_Routes_cheapestNeighbour_61 : Snd l D AC b z L xs Gm j_Routes_cheapestNeighbour 61 (oIst 5 63) := sn_istore l D AC b z L xs Gm  dX6_cheapestNeighbour_61 (by decide)
theorem so_Routes_cheapestNeighbour_63 : Snd l D AC b z L xs Gm j_Routes_cheapestNeighbour 63 (oIld 5 65) := sn_iload l D AC b z L xs Gm  dX6_cheapestNeighbour_63
theorem so_Routes_cheapestNeighbour_65 : Snd l D AC b z L xs Gm j_Routes_cheapestNeighbour 65 (oIf (fun x => decide (x = 0)) 96 68) := sn_if_eq l D AC b z L xs Gm  dX6_cheapestNeighbour_65 (by decide)
theorem so_Routes_cheapestNeighbour_68 : Snd l D AC b z L xs Gm j_Routes_cheapestNeighbour 68 (oIld 3 69) := sn_iload_n l D AC b z L xs Gm  dX6_cheapestNeighbour_68 rfl
theorem so_Routes_cheapestNeighbour_69 : Snd l D AC b z L xs Gm j_Routes_cheapestNeighbour 69 (oI (-1) 70) := sn_iconst l D AC b z L xs Gm  dX6_cheapestNeighbour_69 (by decide)
theorem so_Routes_cheapestNeighbour_70 : Snd l D AC b z L xs Gm j_Routes_cheapestNeighbour 70 (oIC (fun x y => decide (x = y)) 93 73) := sn_icmp_eq l D AC b z L xs Gm  dX6_cheapestNeighbour_70 (by decide)
theorem so_Routes_cheapestNeighbour_73 : Snd l D AC b z L xs Gm j_Routes_cheapestNeighbour 73 (oAld 0 74) := sn_aload_n l D AC b z L xs Gm  dX6_cheapestNeighbour_73 rfl
theorem so_Routes_cheapestNeighbour_74 : Snd l D AC b z L xs Gm j_Routes_cheapestNeighbour 74 (oGetR kc_Routes 1 77) := sn_getR l D AC b z L xs Gm  dX6_cheapestNeighbour_74 rfl (by decide) rfl (by decide) kin_6 tw_230
theorem so_Routes_cheapestNeighbour_77 : Snd l D AC b z L xs Gm j_Routes_cheapestNeighbour 77 (oIld 4 79) := sn_iload l D AC b z L xs Gm  dX6_cheapestNeighbour_77
theorem so_Routes_cheapestNeighbour_79 : Snd l D AC b z L xs Gm j_Routes_cheapestNeighbour 79 (oAal 4 80) := sn_aaload l D AC b z L xs Gm  dX6_cheapestNeighbour_79 (by decide) rfl rfl (by decide)
theorem so_Routes_cheapestNeighbour_80 : Snd l D AC b z L xs Gm j_Routes_cheapestNeighbour 80 (oIld 2 81) := sn_iload_n l D AC b z L xs Gm  dX6_cheapestNeighbour_80 rfl
theorem so_Routes_cheapestNeighbour_81 : Snd l D AC b z L xs Gm j_Routes_cheapestNeighbour 81 (oIal 0 82) := sn_iaload l D AC b z L xs Gm  dX6_cheapestNeighbour_81 (by decide) rfl rfl rfl
theorem so_Routes_cheapestNeighbour_82 : Snd l D AC b z L xs Gm j_Routes_cheapestNeighbour 82 (oAld 0 83) := sn_aload_n l D AC b z L xs Gm  dX6_cheapestNeighbour_82 rfl
theorem so_Routes_cheapestNeighbour_83 : Snd l D AC b z L xs Gm j_Routes_cheapestNeighbour 83 (oGetR kc_Routes 1 86) := sn_getR l D AC b z L xs Gm  dX6_cheapestNeighbour_83 rfl (by decide) rfl (by decide) kin_6 tw_230
theorem so_Routes_cheapestNeighbour_86 : Snd l D AC b z L xs Gm j_Routes_cheapestNeighbour 86 (oIld 3 87) := sn_iload_n l D AC b z L xs Gm  dX6_cheapestNeighbour_86 rfl
theorem so_Routes_cheapestNeighbour_87 : Snd l D AC b z L xs Gm j_Routes_cheapestNeighbour 87 (oAal 4 88) := sn_aaload l D AC b z L xs Gm  dX6_cheapestNeighbour_87 (by decide) rfl rfl (by decide)
theorem so_Routes_cheapestNeighbour_88 : Snd l D AC b z L xs Gm j_Routes_cheapestNeighbour 88 (oIld 2 89) := sn_iload_n l D AC b z L xs Gm  dX6_cheapestNeighbour_88 rfl
theorem so_Routes_cheapestNeighbour_89 : Snd l D AC b z L xs Gm j_Routes_cheapestNeighbour 89 (oIal 0 90) := sn_iaload l D AC b z L xs Gm  dX6_cheapestNeighbour_89 (by decide) rfl rfl rfl
theorem so_Routes_cheapestNeighbour_90 : Snd l D AC b z L xs Gm j_Routes_cheapestNeighbour 90 (oIC (fun x y => decide (y ≤ x)) 96 93) := sn_icmp_ge l D AC b z L xs Gm  dX6_cheapestNeighbour_90 (by decide)
theorem so_Routes_cheapestNeighbour_93 : Snd l D AC b z L xs Gm j_Routes_cheapestNeighbour 93 (oIld 4 95) := sn_iload l D AC b z L xs Gm  dX6_cheapestNeighbour_93
theorem so_Routes_cheapestNeighbour_95 : Snd l D AC b z L xs Gm j_Routes_cheapestNeighbour 95 (oIst 3 96) := sn_istore_n l D AC b z L xs Gm  dX6_cheapestNeighbour_95 rfl (by decide)
theorem so_Routes_cheapestNeighbour_96 : Snd l D AC b z L xs Gm j_Routes_cheapestNeighbour 96 (oInc 4 1 99) := sn_iinc l D AC b z L xs Gm  dX6_cheapestNeighbour_96 (by decide) (by decide)
theorem so_Routes_cheapestNeighbour_99 : Snd l D AC b z L xs Gm j_Routes_cheapestNeighbour 99 (oGo 5) := sn_goto l D AC b z L xs Gm  dX6_cheapestNeighbour_99 (by decide)
theorem so_Routes_cheapestNeighbour_102 : Snd l D AC b z L xs Gm j_Routes_cheapestNeighbour 102 (oIld 3 103) := sn_iload_n l D AC b z L xs Gm  dX6_cheapestNeighbour_102 rfl
theorem so_Routes_cheapestNeighbour_103 : Snd l D AC b z L xs Gm j_Routes_cheapestNeighbour 103 (oRetI) := sn_retI l D AC b z L xs Gm  dX6_cheapestNeighbour_103 rfl
set_option maxRecDepth 100000 in
theorem so_Routes_cheapestNeighbour : ∀ q ∈ tb_Routes_cheapestNeighbour, Snd l D AC b z L xs Gm j_Routes_cheapestNeighbour q.1 q.2 := by
  unfold tb_Routes_cheapestNeighbour
  exact List.forall_mem_cons.mpr ⟨so_Routes_cheapestNeighbour_0 l D AC b z L xs, List.forall_mem_cons.mpr ⟨so_Routes_cheapestNeighbour_1 l D AC b z L xs, List.forall_mem_cons.mpr ⟨so_Routes_cheapestNeighbour_2 l D AC b z L xs, List.forall_mem_cons.mpr ⟨so_Routes_cheapestNeighbour_3 l D AC b z L xs, List.forall_mem_cons.mpr ⟨so_Routes_cheapestNeighbour_5 l D AC b z L xs, List.forall_mem_cons.mpr ⟨so_Routes_cheapestNeighbour_7 l D AC b z L xs, List.forall_mem_cons.mpr ⟨so_Routes_cheapestNeighbour_8 l D AC b z L xs, List.forall_mem_cons.mpr ⟨so_Routes_cheapestNeighbour_11 l D AC b z L xs, List.forall_mem_cons.mpr ⟨so_Routes_cheapestNeighbour_14 l D AC b z L xs, List.forall_mem_cons.mpr ⟨so_Routes_cheapestNeighbour_17 l D AC b z L xs, List.forall_mem_cons.mpr ⟨so_Routes_cheapestNeighbour_18 l D AC b z L xs, List.forall_mem_cons.mpr ⟨so_Routes_cheapestNeighbour_21 l D AC b z L xs, List.forall_mem_cons.mpr ⟨so_Routes_cheapestNeighbour_23 l D AC b z L xs, List.forall_mem_cons.mpr ⟨so_Routes_cheapestNeighbour_24 l D AC b z L xs, List.forall_mem_cons.mpr ⟨so_Routes_cheapestNeighbour_25 l D AC b z L xs, List.forall_mem_cons.mpr ⟨so_Routes_cheapestNeighbour_26 l D AC b z L xs, List.forall_mem_cons.mpr ⟨so_Routes_cheapestNeighbour_27 l D AC b z L xs, List.forall_mem_cons.mpr ⟨so_Routes_cheapestNeighbour_30 l D AC b z L xs, List.forall_mem_cons.mpr ⟨so_Routes_cheapestNeighbour_31 l D AC b z L xs, List.forall_mem_cons.mpr ⟨so_Routes_cheapestNeighbour_34 l D AC b z L xs, List.forall_mem_cons.mpr ⟨so_Routes_cheapestNeighbour_36 l D AC b z L xs, List.forall_mem_cons.mpr ⟨so_Routes_cheapestNeighbour_37 l D AC b z L xs, List.forall_mem_cons.mpr ⟨so_Routes_cheapestNeighbour_38 l D AC b z L xs, List.forall_mem_cons.mpr ⟨so_Routes_cheapestNeighbour_39 l D AC b z L xs, List.forall_mem_cons.mpr ⟨so_Routes_cheapestNeighbour_40 l D AC b z L xs, List.forall_mem_cons.mpr ⟨so_Routes_cheapestNeighbour_43 l D AC b z L xs, List.forall_mem_cons.mpr ⟨so_Routes_cheapestNeighbour_44 l D AC b z L xs, List.forall_mem_cons.mpr ⟨so_Routes_cheapestNeighbour_47 l D AC b z L xs, List.forall_mem_cons.mpr ⟨so_Routes_cheapestNeighbour_49 l D AC b z L xs, List.forall_mem_cons.mpr ⟨so_Routes_cheapestNeighbour_50 l D AC b z L xs, List.forall_mem_cons.mpr ⟨so_Routes_cheapestNeighbour_53 l D AC b z L xs, List.forall_mem_cons.mpr ⟨so_Routes_cheapestNeighbour_56 l D AC b z L xs, List.forall_mem_cons.mpr ⟨so_Routes_cheapestNeighbour_57 l D AC b z L xs, List.forall_mem_cons.mpr ⟨so_Routes_cheapestNeighbour_60 l D AC b z L xs, List.forall_mem_cons.mpr ⟨so_Routes_cheapestNeighbour_61 l D AC b z L xs, List.forall_mem_cons.mpr ⟨so_Routes_cheapestNeighbour_63 l D AC b z L xs, List.forall_mem_cons.mpr ⟨so_Routes_cheapestNeighbour_65 l D AC b z L xs, List.forall_mem_cons.mpr ⟨so_Routes_cheapestNeighbour_68 l D AC b z L xs, List.forall_mem_cons.mpr ⟨so_Routes_cheapestNeighbour_69 l D AC b z L xs, List.forall_mem_cons.mpr ⟨so_Routes_cheapestNeighbour_70 l D AC b z L xs, List.forall_mem_cons.mpr ⟨so_Routes_cheapestNeighbour_73 l D AC b z L xs, List.forall_mem_cons.mpr ⟨so_Routes_cheapestNeighbour_74 l D AC b z L xs, List.forall_mem_cons.mpr ⟨so_Routes_cheapestNeighbour_77 l D AC b z L xs, List.forall_mem_cons.mpr ⟨so_Routes_cheapestNeighbour_79 l D AC b z L xs, List.forall_mem_cons.mpr ⟨so_Routes_cheapestNeighbour_80 l D AC b z L xs, List.forall_mem_cons.mpr ⟨so_Routes_cheapestNeighbour_81 l D AC b z L xs, List.forall_mem_cons.mpr ⟨so_Routes_cheapestNeighbour_82 l D AC b z L xs, List.forall_mem_cons.mpr ⟨so_Routes_cheapestNeighbour_83 l D AC b z L xs, List.forall_mem_cons.mpr ⟨so_Routes_cheapestNeighbour_86 l D AC b z L xs, List.forall_mem_cons.mpr ⟨so_Routes_cheapestNeighbour_87 l D AC b z L xs, List.forall_mem_cons.mpr ⟨so_Routes_cheapestNeighbour_88 l D AC b z L xs, List.forall_mem_cons.mpr ⟨so_Routes_cheapestNeighbour_89 l D AC b z L xs, List.forall_mem_cons.mpr ⟨so_Routes_cheapestNeighbour_90 l D AC b z L xs, List.forall_mem_cons.mpr ⟨so_Routes_cheapestNeighbour_93 l D AC b z L xs, List.forall_mem_cons.mpr ⟨so_Routes_cheapestNeighbour_95 l D AC b z L xs, List.forall_mem_cons.mpr ⟨so_Routes_cheapestNeighbour_96 l D AC b z L xs, List.forall_mem_cons.mpr ⟨so_Routes_cheapestNeighbour_99 l D AC b z L xs, List.forall_mem_cons.mpr ⟨so_Routes_cheapestNeighbour_102 l D AC b z L xs, List.forall_mem_cons.mpr ⟨so_Routes_cheapestNeighbour_103 l D AC b z L xs, fun _ h => absurd h List.not_mem_nil⟩⟩⟩⟩⟩⟩⟩⟩⟩⟩⟩⟩⟩⟩⟩⟩⟩⟩⟩⟩⟩⟩⟩⟩⟩⟩⟩⟩⟩⟩⟩⟩⟩⟩⟩⟩⟩⟩⟩⟩⟩⟩⟩⟩⟩⟩⟩⟩⟩⟩⟩⟩⟩⟩⟩⟩⟩⟩⟩
theorem so_Routes_wayLength_0 : Snd l D AC b z L xs Gm j_Routes_wayLength 0 (oAld 0 1) := sn_aload_n l D AC b z L xs Gm  dX6_wayLength_0 rfl
theorem so_Routes_wayLength_1 : Snd l D AC b z L xs Gm j_Routes_wayLength 1 (oIld 1 2) := sn_iload_n l D AC b z L xs Gm  dX6_wayLength_1 rfl
theorem so_Routes_wayLength_2 : Snd l D AC b z L xs Gm j_Routes_wayLength 2 (oIld 2 3) := sn_iload_n l D AC b z L xs Gm  dX6_wayLength_2 rfl
theorem so_Routes_wayLength_3 : Snd l D AC b z L xs Gm j_Routes_wayLength 3 (oCallV kc_Routes j_Routes_follow 2 (mL j_Routes_follow) 6) := sn_callV l D AC b z L xs Gm  dX6_wayLength_3 rfl (hs0 (fun _ => rfl) rfl) cal_Routes_wayLength_Routes_follow rfl rfl (by decide) rfl tw_552 tw_554 tw_5
theorem so_Routes_wayLength_6 : Snd l D AC b z L xs Gm j_Routes_wayLength 6 (oIst 3 7) := sn_istore_n l D AC b z L xs Gm  dX6_wayLength_6 rfl (by decide)
theorem so_Routes_wayLength_7 : Snd l D AC b z L xs Gm j_Routes_wayLength 7 (oIld 3 8) := sn_iload_n l D AC b z L xs Gm  dX6_wayLength_7 rfl
theorem so_Routes_wayLength_8 : Snd l D AC b z L xs Gm j_Routes_wayLength 8 (oI (-2) 10) := sn_bipush l D AC b z L xs Gm  dX6_wayLength_8 (by decide)
theorem so_Routes_wayLength_10 : Snd l D AC b z L xs Gm j_Routes_wayLength 10 (oIC (fun x y => decide (¬ x = y)) 17 13) := sn_icmp_ne l D AC b z L xs Gm  dX6_wayLength_10 (by decide)
theorem so_Routes_wayLength_13 : Snd l D AC b z L xs Gm j_Routes_wayLength 13 (oI (-1) 14) := sn_iconst l D AC b z L xs Gm  dX6_wayLength_13 (by decide)
theorem so_Routes_wayLength_14 : Snd l D AC b z L xs Gm j_Routes_wayLength 14 (oGo 18) := sn_goto l D AC b z L xs Gm  dX6_wayLength_14 (by decide)
theorem so_Routes_wayLength_17 : Snd l D AC b z L xs Gm j_Routes_wayLength 17 (oIld 3 18) := sn_iload_n l D AC b z L xs Gm  dX6_wayLength_17 rfl
theorem so_Routes_wayLength_18 : Snd l D AC b z L xs Gm j_Routes_wayLength 18 (oRetI) := sn_retI l D AC b z L xs Gm  dX6_wayLength_18 rfl
set_option maxRecDepth 100000 in
theorem so_Routes_wayLength : ∀ q ∈ tb_Routes_wayLength, Snd l D AC b z L xs Gm j_Routes_wayLength q.1 q.2 := by
  unfold tb_Routes_wayLength
  exact List.forall_mem_cons.mpr ⟨so_Routes_wayLength_0 l D AC b z L xs, List.forall_mem_cons.mpr ⟨so_Routes_wayLength_1 l D AC b z L xs, List.forall_mem_cons.mpr ⟨so_Routes_wayLength_2 l D AC b z L xs, List.forall_mem_cons.mpr ⟨so_Routes_wayLength_3 l D AC b z L xs, List.forall_mem_cons.mpr ⟨so_Routes_wayLength_6 l D AC b z L xs, List.forall_mem_cons.mpr ⟨so_Routes_wayLength_7 l D AC b z L xs, List.forall_mem_cons.mpr ⟨so_Routes_wayLength_8 l D AC b z L xs, List.forall_mem_cons.mpr ⟨so_Routes_wayLength_10 l D AC b z L xs, List.forall_mem_cons.mpr ⟨so_Routes_wayLength_13 l D AC b z L xs, List.forall_mem_cons.mpr ⟨so_Routes_wayLength_14 l D AC b z L xs, List.forall_mem_cons.mpr ⟨so_Routes_wayLength_17 l D AC b z L xs, List.forall_mem_cons.mpr ⟨so_Routes_wayLength_18 l D AC b z L xs, fun _ h => absurd h List.not_mem_nil⟩⟩⟩⟩⟩⟩⟩⟩⟩⟩⟩⟩
theorem so_Routes_hasCircle_0 : Snd l D AC b z L xs Gm j_Routes_hasCircle 0 (oAld 0 1) := sn_aload_n l D AC b z L xs Gm  dX6_hasCircle_0 rfl
theorem so_Routes_hasCircle_1 : Snd l D AC b z L xs Gm j_Routes_hasCircle 1 (oIld 1 2) := sn_iload_n l D AC b z L xs Gm  dX6_hasCircle_1 rfl
theorem so_Routes_hasCircle_2 : Snd l D AC b z L xs Gm j_Routes_hasCircle 2 (oIld 2 3) := sn_iload_n l D AC b z L xs Gm  dX6_hasCircle_2 rfl
theorem so_Routes_hasCircle_3 : Snd l D AC b z L xs Gm j_Routes_hasCircle 3 (oCallV kc_Routes j_Routes_follow 2 (mL j_Routes_follow) 6) := sn_callV l D AC b z L xs Gm  dX6_hasCircle_3 rfl (hs0 (fun _ => rfl) rfl) cal_Routes_hasCircle_Routes_follow rfl rfl (by decide) rfl tw_552 tw_554 tw_5
theorem so_Routes_hasCircle_6 : Snd l D AC b z L xs Gm j_Routes_hasCircle 6 (oI (-2) 8) := sn_bipush l D AC b z L xs Gm  dX6_hasCircle_6 (by decide)
theorem so_Routes_hasCircle_8 : Snd l D AC b z L xs Gm j_Routes_hasCircle 8 (oIC (fun x y => decide (¬ x = y)) 15 11) := sn_icmp_ne l D AC b z L xs Gm  dX6_hasCircle_8 (by decide)
theorem so_Routes_hasCircle_11 : Snd l D AC b z L xs Gm j_Routes_hasCircle 11 (oI 1 12) := sn_iconst l D AC b z L xs Gm  dX6_hasCircle_11 (by decide)
theorem so_Routes_hasCircle_12 : Snd l D AC b z L xs Gm j_Routes_hasCircle 12 (oGo 16) := sn_goto l D AC b z L xs Gm  dX6_hasCircle_12 (by decide)
theorem so_Routes_hasCircle_15 : Snd l D AC b z L xs Gm j_Routes_hasCircle 15 (oI 0 16) := sn_iconst l D AC b z L xs Gm  dX6_hasCircle_15 (by decide)
theorem so_Routes_hasCircle_16 : Snd l D AC b z L xs Gm j_Routes_hasCircle 16 (oRetZ) := sn_retZ l D AC b z L xs Gm  dX6_hasCircle_16 rfl
set_option maxRecDepth 100000 in
theorem so_Routes_hasCircle : ∀ q ∈ tb_Routes_hasCircle, Snd l D AC b z L xs Gm j_Routes_hasCircle q.1 q.2 := by
  unfold tb_Routes_hasCircle
  exact List.forall_mem_cons.mpr ⟨so_Routes_hasCircle_0 l D AC b z L xs, List.forall_mem_cons.mpr ⟨so_Routes_hasCircle_1 l D AC b z L xs, List.forall_mem_cons.mpr ⟨so_Routes_hasCircle_2 l D AC b z L xs, List.forall_mem_cons.mpr ⟨so_Routes_hasCircle_3 l D AC b z L xs, List.forall_mem_cons.mpr ⟨so_Routes_hasCircle_6 l D AC b z L xs, List.forall_mem_cons.mpr ⟨so_Routes_hasCircle_8 l D AC b z L xs, List.forall_mem_cons.mpr ⟨so_Routes_hasCircle_11 l D AC b z L xs, List.forall_mem_cons.mpr ⟨so_Routes_hasCircle_12 l D AC b z L xs, List.forall_mem_cons.mpr ⟨so_Routes_hasCircle_15 l D AC b z L xs, List.forall_mem_cons.mpr ⟨so_Routes_hasCircle_16 l D AC b z L xs, fun _ h => absurd h List.not_mem_nil⟩⟩⟩⟩⟩⟩⟩⟩⟩⟩
theorem so_Routes_follow_0 : Snd l D AC b z L xs Gm j_Routes_follow 0 (oIld 1 1) := sn_iload_n l D AC b z L xs Gm  dX6_follow_0 rfl
theorem so_Routes_follow_1 : Snd l D AC b z L xs Gm j_Routes_follow 1 (oIst 3 2) := sn_istore_n l D AC b z L xs Gm  dX6_follow_1 rfl (by decide)
theorem so_Routes_follow_2 : Snd l D AC b z L xs Gm j_Routes_follow 2 (oI 1 3) := sn_iconst l D AC b z L xs Gm  dX6_follow_2 (by decide)
theorem so_Routes_follow_3 : Snd l D AC b z L xs Gm j_Routes_follow 3 (oIst 4 5) := sn_istore l D AC b z L xs Gm  dX6_follow_3 (by decide)
theorem so_Routes_follow_5 : Snd l D AC b z L xs Gm j_Routes_follow 5 (oIld 4 7) := sn_iload l D AC b z L xs Gm  dX6_follow_5
theorem so_Routes_follow_7 : Snd l D AC b z L xs Gm j_Routes_follow 7 (oI 8 9) := sn_bipush l D AC b z L xs Gm  dX6_follow_7 (by decide)
theorem so_Routes_follow_9 : Snd l D AC b z L xs Gm j_Routes_follow 9 (oIC (fun x y => decide (y < x)) 46 12) := sn_icmp_gt l D AC b z L xs Gm  dX6_follow_9 (by decide)
theorem so_Routes_follow_12 : Snd l D AC b z L xs Gm j_Routes_follow 12 (oIld 3 13) := sn_iload_n l D AC b z L xs Gm  dX6_follow_12 rfl
theorem so_Routes_follow_13 : Snd l D AC b z L xs Gm j_Routes_follow 13 (oIld 2 14) := sn_iload_n l D AC b z L xs Gm  dX6_follow_13 rfl
theorem so_Routes_follow_14 : Snd l D AC b z L xs Gm j_Routes_follow 14 (oIC (fun x y => decide (¬ x = y)) 20 17) := sn_icmp_ne l D AC b z L xs Gm  dX6_follow_14 (by decide)
theorem so_Routes_follow_17 : Snd l D AC b z L xs Gm j_Routes_follow 17 (oIld 4 19) := sn_iload l D AC b z L xs Gm  dX6_follow_17
theorem so_Routes_follow_19 : Snd l D AC b z L xs Gm j_Routes_follow 19 (oRetI) := sn_retI l D AC b z L xs Gm  dX6_follow_19 rfl
theorem so_Routes_follow_20 : Snd l D AC b z L xs Gm j_Routes_follow 20 (oAld 0 21) := sn_aload_n l D AC b z L xs Gm  dX6_follow_20 rfl
theorem so_Routes_follow_21 : Snd l D AC b z L xs Gm j_Routes_follow 21 (oIld 3 22) := sn_iload_n l D AC b z L xs Gm  dX6_follow_21 rfl
theorem so_Routes_follow_22 : Snd l D AC b z L xs Gm j_Routes_follow 22 (oIld 2 23) := sn_iload_n l D AC b z L xs Gm  dX6_follow_22 rfl
theorem so_Routes_follow_23 : Snd l D AC b z L xs Gm j_Routes_follow 23 (oCallV kc_Routes j_Routes_nextOf 2 (mL j_Routes_nextOf) 26) := sn_callV l D AC b z L xs Gm  dX6_follow_23 rfl (hs0 (fun _ => rfl) rfl) cal_Routes_follow_Routes_nextOf rfl rfl (by decide) rfl tw_556 tw_557 tw_558
theorem so_Routes_follow_26 : Snd l D AC b z L xs Gm j_Routes_follow 26 (oIst 3 27) := sn_istore_n l D AC b z L xs Gm  dX6_follow_26 rfl (by decide)
theorem so_Routes_follow_27 : Snd l D AC b z L xs Gm j_Routes_follow 27 (oAld 0 28) := sn_aload_n l D AC b z L xs Gm  dX6_follow_27 rfl
theorem so_Routes_follow_28 : Snd l D AC b z L xs Gm j_Routes_follow 28 (oGetR kc_Routes 0 31) := sn_getR l D AC b z L xs Gm  dX6_follow_28 rfl (by decide) rfl (by decide) kin_6 tw_229
theorem so_Routes_follow_31 : Snd l D AC b z L xs Gm j_Routes_follow 31 (oIld 3 32) := sn_iload_n l D AC b z L xs Gm  dX6_follow_31 rfl
theorem so_Routes_follow_32 : Snd l D AC b z L xs Gm j_Routes_follow 32 (oCallV kc_Land j_Land_isNode 1 (mL j_Land_isNode) 35) := sn_callV l D AC b z L xs Gm  dX6_follow_32 rfl (hs0 (fun _ => rfl) rfl) cal_Routes_follow_Land_isNode rfl rfl (by decide) rfl tw_560 tw_471 tw_472
theorem so_Routes_follow_35 : Snd l D AC b z L xs Gm j_Routes_follow 35 (oIf (fun x => decide (¬ x = 0)) 40 38) := sn_if_ne l D AC b z L xs Gm  dX6_follow_35 (by decide)
theorem so_Routes_follow_38 : Snd l D AC b z L xs Gm j_Routes_follow 38 (oI (-1) 39) := sn_iconst l D AC b z L xs Gm  dX6_follow_38 (by decide)
theorem so_Routes_follow_39 : Snd l D AC b z L xs Gm j_Routes_follow 39 (oRetI) := sn_retI l D AC b z L xs Gm  dX6_follow_39 rfl
theorem so_Routes_follow_40 : Snd l D AC b z L xs Gm j_Routes_follow 40 (oInc 4 1 43) := sn_iinc l D AC b z L xs Gm  dX6_follow_40 (by decide) (by decide)
theorem so_Routes_follow_43 : Snd l D AC b z L xs Gm j_Routes_follow 43 (oGo 5) := sn_goto l D AC b z L xs Gm  dX6_follow_43 (by decide)
theorem so_Routes_follow_46 : Snd l D AC b z L xs Gm j_Routes_follow 46 (oI (-2) 48) := sn_bipush l D AC b z L xs Gm  dX6_follow_46 (by decide)
theorem so_Routes_follow_48 : Snd l D AC b z L xs Gm j_Routes_follow 48 (oRetI) := sn_retI l D AC b z L xs Gm  dX6_follow_48 rfl
set_option maxRecDepth 100000 in
theorem so_Routes_follow : ∀ q ∈ tb_Routes_follow, Snd l D AC b z L xs Gm j_Routes_follow q.1 q.2 := by
  unfold tb_Routes_follow
  exact List.forall_mem_cons.mpr ⟨so_Routes_follow_0 l D AC b z L xs, List.forall_mem_cons.mpr ⟨so_Routes_follow_1 l D AC b z L xs, List.forall_mem_cons.mpr ⟨so_Routes_follow_2 l D AC b z L xs, List.forall_mem_cons.mpr ⟨so_Routes_follow_3 l D AC b z L xs, List.forall_mem_cons.mpr ⟨so_Routes_follow_5 l D AC b z L xs, List.forall_mem_cons.mpr ⟨so_Routes_follow_7 l D AC b z L xs, List.forall_mem_cons.mpr ⟨so_Routes_follow_9 l D AC b z L xs, List.forall_mem_cons.mpr ⟨so_Routes_follow_12 l D AC b z L xs, List.forall_mem_cons.mpr ⟨so_Routes_follow_13 l D AC b z L xs, List.forall_mem_cons.mpr ⟨so_Routes_follow_14 l D AC b z L xs, List.forall_mem_cons.mpr ⟨so_Routes_follow_17 l D AC b z L xs, List.forall_mem_cons.mpr ⟨so_Routes_follow_19 l D AC b z L xs, List.forall_mem_cons.mpr ⟨so_Routes_follow_20 l D AC b z L xs, List.forall_mem_cons.mpr ⟨so_Routes_follow_21 l D AC b z L xs, List.forall_mem_cons.mpr ⟨so_Routes_follow_22 l D AC b z L xs, List.forall_mem_cons.mpr ⟨so_Routes_follow_23 l D AC b z L xs, List.forall_mem_cons.mpr ⟨so_Routes_follow_26 l D AC b z L xs, List.forall_mem_cons.mpr ⟨so_Routes_follow_27 l D AC b z L xs, List.forall_mem_cons.mpr ⟨so_Routes_follow_28 l D AC b z L xs, List.forall_mem_cons.mpr ⟨so_Routes_follow_31 l D AC b z L xs, List.forall_mem_cons.mpr ⟨so_Routes_follow_32 l D AC b z L xs, List.forall_mem_cons.mpr ⟨so_Routes_follow_35 l D AC b z L xs, List.forall_mem_cons.mpr ⟨so_Routes_follow_38 l D AC b z L xs, List.forall_mem_cons.mpr ⟨so_Routes_follow_39 l D AC b z L xs, List.forall_mem_cons.mpr ⟨so_Routes_follow_40 l D AC b z L xs, List.forall_mem_cons.mpr ⟨so_Routes_follow_43 l D AC b z L xs, List.forall_mem_cons.mpr ⟨so_Routes_follow_46 l D AC b z L xs, List.forall_mem_cons.mpr ⟨so_Routes_follow_48 l D AC b z L xs, fun _ h => absurd h List.not_mem_nil⟩⟩⟩⟩⟩⟩⟩⟩⟩⟩⟩⟩⟩⟩⟩⟩⟩⟩⟩⟩⟩⟩⟩⟩⟩⟩⟩⟩
theorem so_Routes_pairsWithRoute_0 : Snd l D AC b z L xs Gm j_Routes_pairsWithRoute 0 (oI 0 1) := sn_iconst l D AC b z L xs Gm  dX6_pairsWithRoute_0 (by decide)
theorem so_Routes_pairsWithRoute_1 : Snd l D AC b z L xs Gm j_Routes_pairsWithRoute 1 (oIst 1 2) := sn_istore_n l D AC b z L xs Gm  dX6_pairsWithRoute_1 rfl (by decide)
theorem so_Routes_pairsWithRoute_2 : Snd l D AC b z L xs Gm j_Routes_pairsWithRoute 2 (oI 0 3) := sn_iconst l D AC b z L xs Gm  dX6_pairsWithRoute_2 (by decide)
theorem so_Routes_pairsWithRoute_3 : Snd l D AC b z L xs Gm j_Routes_pairsWithRoute 3 (oIst 2 4) := sn_istore_n l D AC b z L xs Gm  dX6_pairsWithRoute_3 rfl (by decide)
theorem so_Routes_pairsWithRoute_4 : Snd l D AC b z L xs Gm j_Routes_pairsWithRoute 4 (oIld 2 5) := sn_iload_n l D AC b z L xs Gm  dX6_pairsWithRoute_4 rfl
theorem so_Routes_pairsWithRoute_5 : Snd l D AC b z L xs Gm j_Routes_pairsWithRoute 5 (oAld 0 6) := sn_aload_n l D AC b z L xs Gm  dX6_pairsWithRoute_5 rfl
theorem so_Routes_pairsWithRoute_6 : Snd l D AC b z L xs Gm j_Routes_pairsWithRoute 6 (oGetR kc_Routes 0 9) := sn_getR l D AC b z L xs Gm  dX6_pairsWithRoute_6 rfl (by decide) rfl (by decide) kin_6 tw_229
theorem so_Routes_pairsWithRoute_9 : Snd l D AC b z L xs Gm j_Routes_pairsWithRoute 9 (oGetI kc_Land 2 12) := sn_getI l D AC b z L xs Gm  dX6_pairsWithRoute_9 rfl (by decide) rfl (by decide) kin_2 tw_213
theorem so_Routes_pairsWithRoute_12 : Snd l D AC b z L xs Gm j_Routes_pairsWithRoute 12 (oIC (fun x y => decide (y ≤ x)) 60 15) := sn_icmp_ge l D AC b z L xs Gm  dX6_pairsWithRoute_12 (by decide)
theorem so_Routes_pairsWithRoute_15 : Snd l D AC b z L xs Gm j_Routes_pairsWithRoute 15 (oI 0 16) := sn_iconst l D AC b z L xs Gm  dX6_pairsWithRoute_15 (by decide)
theorem so_Routes_pairsWithRoute_16 : Snd l D AC b z L xs Gm j_Routes_pairsWithRoute 16 (oIst 3 17) := sn_istore_n l D AC b z L xs Gm  dX6_pairsWithRoute_16 rfl (by decide)
theorem so_Routes_pairsWithRoute_17 : Snd l D AC b z L xs Gm j_Routes_pairsWithRoute 17 (oIld 3 18) := sn_iload_n l D AC b z L xs Gm  dX6_pairsWithRoute_17 rfl
theorem so_Routes_pairsWithRoute_18 : Snd l D AC b z L xs Gm j_Routes_pairsWithRoute 18 (oAld 0 19) := sn_aload_n l D AC b z L xs Gm  dX6_pairsWithRoute_18 rfl
theorem so_Routes_pairsWithRoute_19 : Snd l D AC b z L xs Gm j_Routes_pairsWithRoute 19 (oGetR kc_Routes 0 22) := sn_getR l D AC b z L xs Gm  dX6_pairsWithRoute_19 rfl (by decide) rfl (by decide) kin_6 tw_229
theorem so_Routes_pairsWithRoute_22 : Snd l D AC b z L xs Gm j_Routes_pairsWithRoute 22 (oGetI kc_Land 2 25) := sn_getI l D AC b z L xs Gm  dX6_pairsWithRoute_22 rfl (by decide) rfl (by decide) kin_2 tw_213
theorem so_Routes_pairsWithRoute_25 : Snd l D AC b z L xs Gm j_Routes_pairsWithRoute 25 (oIC (fun x y => decide (y ≤ x)) 54 28) := sn_icmp_ge l D AC b z L xs Gm  dX6_pairsWithRoute_25 (by decide)
theorem so_Routes_pairsWithRoute_28 : Snd l D AC b z L xs Gm j_Routes_pairsWithRoute 28 (oIld 2 29) := sn_iload_n l D AC b z L xs Gm  dX6_pairsWithRoute_28 rfl
theorem so_Routes_pairsWithRoute_29 : Snd l D AC b z L xs Gm j_Routes_pairsWithRoute 29 (oIld 3 30) := sn_iload_n l D AC b z L xs Gm  dX6_pairsWithRoute_29 rfl
theorem so_Routes_pairsWithRoute_30 : Snd l D AC b z L xs Gm j_Routes_pairsWithRoute 30 (oIC (fun x y => decide (x = y)) 48 33) := sn_icmp_eq l D AC b z L xs Gm  dX6_pairsWithRoute_30 (by decide)
theorem so_Routes_pairsWithRoute_33 : Snd l D AC b z L xs Gm j_Routes_pairsWithRoute 33 (oAld 0 34) := sn_aload_n l D AC b z L xs Gm  dX6_pairsWithRoute_33 rfl
theorem so_Routes_pairsWithRoute_34 : Snd l D AC b z L xs Gm j_Routes_pairsWithRoute 34 (oGetR kc_Routes 2 37) := sn_getR l D AC b z L xs Gm  dX6_pairsWithRoute_34 rfl (by decide) rfl (by decide) kin_6 tw_231
theorem so_Routes_pairsWithRoute_37 : Snd l D AC b z L xs Gm j_Routes_pairsWithRoute 37 (oIld 2 38) := sn_iload_n l D AC b z L xs Gm  dX6_pairsWithRoute_37 rfl
theorem so_Routes_pairsWithRoute_38 : Snd l D AC b z L xs Gm j_Routes_pairsWithRoute 38 (oAal 4 39) := sn_aaload l D AC b z L xs Gm  dX6_pairsWithRoute_38 (by decide) rfl rfl (by decide)
theorem so_Routes_pairsWithRoute_39 : Snd l D AC b z L xs Gm j_Routes_pairsWithRoute 39 (oIld 3 40) := sn_iload_n l D AC b z L xs Gm  dX6_pairsWithRoute_39 rfl
theorem so_Routes_pairsWithRoute_40 : Snd l D AC b z L xs Gm j_Routes_pairsWithRoute 40 (oIal 0 41) := sn_iaload l D AC b z L xs Gm  dX6_pairsWithRoute_40 (by decide) rfl rfl rfl
theorem so_Routes_pairsWithRoute_41 : Snd l D AC b z L xs Gm j_Routes_pairsWithRoute 41 (oI (-1) 42) := sn_iconst l D AC b z L xs Gm  dX6_pairsWithRoute_41 (by decide)
theorem so_Routes_pairsWithRoute_42 : Snd l D AC b z L xs Gm j_Routes_pairsWithRoute 42 (oIC (fun x y => decide (x = y)) 48 45) := sn_icmp_eq l D AC b z L xs Gm  dX6_pairsWithRoute_42 (by decide)
theorem so_Routes_pairsWithRoute_45 : Snd l D AC b z L xs Gm j_Routes_pairsWithRoute 45 (oInc 1 1 48) := sn_iinc l D AC b z L xs Gm  dX6_pairsWithRoute_45 (by decide) (by decide)
theorem so_Routes_pairsWithRoute_48 : Snd l D AC b z L xs Gm j_Routes_pairsWithRoute 48 (oInc 3 1 51) := sn_iinc l D AC b z L xs Gm  dX6_pairsWithRoute_48 (by decide) (by decide)
theorem so_Routes_pairsWithRoute_51 : Snd l D AC b z L xs Gm j_Routes_pairsWithRoute 51 (oGo 17) := sn_goto l D AC b z L xs Gm  dX6_pairsWithRoute_51 (by decide)
theorem so_Routes_pairsWithRoute_54 : Snd l D AC b z L xs Gm j_Routes_pairsWithRoute 54 (oInc 2 1 57) := sn_iinc l D AC b z L xs Gm  dX6_pairsWithRoute_54 (by decide) (by decide)
theorem so_Routes_pairsWithRoute_57 : Snd l D AC b z L xs Gm j_Routes_pairsWithRoute 57 (oGo 4) := sn_goto l D AC b z L xs Gm  dX6_pairsWithRoute_57 (by decide)
theorem so_Routes_pairsWithRoute_60 : Snd l D AC b z L xs Gm j_Routes_pairsWithRoute 60 (oIld 1 61) := sn_iload_n l D AC b z L xs Gm  dX6_pairsWithRoute_60 rfl
theorem so_Routes_pairsWithRoute_61 : Snd l D AC b z L xs Gm j_Routes_pairsWithRoute 61 (oRetI) := sn_retI l D AC b z L xs Gm  dX6_pairsWithRoute_61 rfl
set_option maxRecDepth 100000 in
theorem so_Routes_pairsWithRoute : ∀ q ∈ tb_Routes_pairsWithRoute, Snd l D AC b z L xs Gm j_Routes_pairsWithRoute q.1 q.2 := by
  unfold tb_Routes_pairsWithRoute
  exact List.forall_mem_cons.mpr ⟨so_Routes_pairsWithRoute_0 l D AC b z L xs, List.forall_mem_cons.mpr ⟨so_Routes_pairsWithRoute_1 l D AC b z L xs, List.forall_mem_cons.mpr ⟨so_Routes_pairsWithRoute_2 l D AC b z L xs, List.forall_mem_cons.mpr ⟨so_Routes_pairsWithRoute_3 l D AC b z L xs, List.forall_mem_cons.mpr ⟨so_Routes_pairsWithRoute_4 l D AC b z L xs, List.forall_mem_cons.mpr ⟨so_Routes_pairsWithRoute_5 l D AC b z L xs, List.forall_mem_cons.mpr ⟨so_Routes_pairsWithRoute_6 l D AC b z L xs, List.forall_mem_cons.mpr ⟨so_Routes_pairsWithRoute_9 l D AC b z L xs, List.forall_mem_cons.mpr ⟨so_Routes_pairsWithRoute_12 l D AC b z L xs, List.forall_mem_cons.mpr ⟨so_Routes_pairsWithRoute_15 l D AC b z L xs, List.forall_mem_cons.mpr ⟨so_Routes_pairsWithRoute_16 l D AC b z L xs, List.forall_mem_cons.mpr ⟨so_Routes_pairsWithRoute_17 l D AC b z L xs, List.forall_mem_cons.mpr ⟨so_Routes_pairsWithRoute_18 l D AC b z L xs, List.forall_mem_cons.mpr ⟨so_Routes_pairsWithRoute_19 l D AC b z L xs, List.forall_mem_cons.mpr ⟨so_Routes_pairsWithRoute_22 l D AC b z L xs, List.forall_mem_cons.mpr ⟨so_Routes_pairsWithRoute_25 l D AC b z L xs, List.forall_mem_cons.mpr ⟨so_Routes_pairsWithRoute_28 l D AC b z L xs, List.forall_mem_cons.mpr ⟨so_Routes_pairsWithRoute_29 l D AC b z L xs, List.forall_mem_cons.mpr ⟨so_Routes_pairsWithRoute_30 l D AC b z L xs, List.forall_mem_cons.mpr ⟨so_Routes_pairsWithRoute_33 l D AC b z L xs, List.forall_mem_cons.mpr ⟨so_Routes_pairsWithRoute_34 l D AC b z L xs, List.forall_mem_cons.mpr ⟨so_Routes_pairsWithRoute_37 l D AC b z L xs, List.forall_mem_cons.mpr ⟨so_Routes_pairsWithRoute_38 l D AC b z L xs, List.forall_mem_cons.mpr ⟨so_Routes_pairsWithRoute_39 l D AC b z L xs, List.forall_mem_cons.mpr ⟨so_Routes_pairsWithRoute_40 l D AC b z L xs, List.forall_mem_cons.mpr ⟨so_Routes_pairsWithRoute_41 l D AC b z L xs, List.forall_mem_cons.mpr ⟨so_Routes_pairsWithRoute_42 l D AC b z L xs, List.forall_mem_cons.mpr ⟨so_Routes_pairsWithRoute_45 l D AC b z L xs, List.forall_mem_cons.mpr ⟨so_Routes_pairsWithRoute_48 l D AC b z L xs, List.forall_mem_cons.mpr ⟨so_Routes_pairsWithRoute_51 l D AC b z L xs, List.forall_mem_cons.mpr ⟨so_Routes_pairsWithRoute_54 l D AC b z L xs, List.forall_mem_cons.mpr ⟨so_Routes_pairsWithRoute_57 l D AC b z L xs, List.forall_mem_cons.mpr ⟨so_Routes_pairsWithRoute_60 l D AC b z L xs, List.forall_mem_cons.mpr ⟨so_Routes_pairsWithRoute_61 l D AC b z L xs, fun _ h => absurd h List.not_mem_nil⟩⟩⟩⟩⟩⟩⟩⟩⟩⟩⟩⟩⟩⟩⟩⟩⟩⟩⟩⟩⟩⟩⟩⟩⟩⟩⟩⟩⟩⟩⟩⟩⟩⟩
theorem so_Routes_pairsWithCircle_0 : Snd l D AC b z L xs Gm j_Routes_pairsWithCircle 0 (oI 0 1) := sn_iconst l D AC b z L xs Gm  dX6_pairsWithCircle_0 (by decide)
theorem so_Routes_pairsWithCircle_1 : Snd l D AC b z L xs Gm j_Routes_pairsWithCircle 1 (oIst 1 2) := sn_istore_n l D AC b z L xs Gm  dX6_pairsWithCircle_1 rfl (by decide)
theorem so_Routes_pairsWithCircle_2 : Snd l D AC b z L xs Gm j_Routes_pairsWithCircle 2 (oI 0 3) := sn_iconst l D AC b z L xs Gm  dX6_pairsWithCircle_2 (by decide)
theorem so_Routes_pairsWithCircle_3 : Snd l D AC b z L xs Gm j_Routes_pairsWithCircle 3 (oIst 2 4) := sn_istore_n l D AC b z L xs Gm  dX6_pairsWithCircle_3 rfl (by decide)
theorem so_Routes_pairsWithCircle_4 : Snd l D AC b z L xs Gm j_Routes_pairsWithCircle 4 (oIld 2 5) := sn_iload_n l D AC b z L xs Gm  dX6_pairsWithCircle_4 rfl
theorem so_Routes_pairsWithCircle_5 : Snd l D AC b z L xs Gm j_Routes_pairsWithCircle 5 (oAld 0 6) := sn_aload_n l D AC b z L xs Gm  dX6_pairsWithCircle_5 rfl
theorem so_Routes_pairsWithCircle_6 : Snd l D AC b z L xs Gm j_Routes_pairsWithCircle 6 (oGetR kc_Routes 0 9) := sn_getR l D AC b z L xs Gm  dX6_pairsWithCircle_6 rfl (by decide) rfl (by decide) kin_6 tw_229
theorem so_Routes_pairsWithCircle_9 : Snd l D AC b z L xs Gm j_Routes_pairsWithCircle 9 (oGetI kc_Land 2 12) := sn_getI l D AC b z L xs Gm  dX6_pairsWithCircle_9 rfl (by decide) rfl (by decide) kin_2 tw_213
theorem so_Routes_pairsWithCircle_12 : Snd l D AC b z L xs Gm j_Routes_pairsWithCircle 12 (oIC (fun x y => decide (y ≤ x)) 57 15) := sn_icmp_ge l D AC b z L xs Gm  dX6_pairsWithCircle_12 (by decide)
theorem so_Routes_pairsWithCircle_15 : Snd l D AC b z L xs Gm j_Routes_pairsWithCircle 15 (oI 0 16) := sn_iconst l D AC b z L xs Gm  dX6_pairsWithCircle_15 (by decide)
theorem so_Routes_pairsWithCircle_16 : Snd l D AC b z L xs Gm j_Routes_pairsWithCircle 16 (oIst 3 17) := sn_istore_n l D AC b z L xs Gm  dX6_pairsWithCircle_16 rfl (by decide)
theorem so_Routes_pairsWithCircle_17 : Snd l D AC b z L xs Gm j_Routes_pairsWithCircle 17 (oIld 3 18) := sn_iload_n l D AC b z L xs Gm  dX6_pairsWithCircle_17 rfl
theorem so_Routes_pairsWithCircle_18 : Snd l D AC b z L xs Gm j_Routes_pairsWithCircle 18 (oAld 0 19) := sn_aload_n l D AC b z L xs Gm  dX6_pairsWithCircle_18 rfl
theorem so_Routes_pairsWithCircle_19 : Snd l D AC b z L xs Gm j_Routes_pairsWithCircle 19 (oGetR kc_Routes 0 22) := sn_getR l D AC b z L xs Gm  dX6_pairsWithCircle_19 rfl (by decide) rfl (by decide) kin_6 tw_229
theorem so_Routes_pairsWithCircle_22 : Snd l D AC b z L xs Gm j_Routes_pairsWithCircle 22 (oGetI kc_Land 2 25) := sn_getI l D AC b z L xs Gm  dX6_pairsWithCircle_22 rfl (by decide) rfl (by decide) kin_2 tw_213
theorem so_Routes_pairsWithCircle_25 : Snd l D AC b z L xs Gm j_Routes_pairsWithCircle 25 (oIC (fun x y => decide (y ≤ x)) 51 28) := sn_icmp_ge l D AC b z L xs Gm  dX6_pairsWithCircle_25 (by decide)
theorem so_Routes_pairsWithCircle_28 : Snd l D AC b z L xs Gm j_Routes_pairsWithCircle 28 (oIld 2 29) := sn_iload_n l D AC b z L xs Gm  dX6_pairsWithCircle_28 rfl
theorem so_Routes_pairsWithCircle_29 : Snd l D AC b z L xs Gm j_Routes_pairsWithCircle 29 (oIld 3 30) := sn_iload_n l D AC b z L xs Gm  dX6_pairsWithCircle_29 rfl
theorem so_Routes_pairsWithCircle_30 : Snd l D AC b z L xs Gm j_Routes_pairsWithCircle 30 (oIC (fun x y => decide (x = y)) 45 33) := sn_icmp_eq l D AC b z L xs Gm  dX6_pairsWithCircle_30 (by decide)
theorem so_Routes_pairsWithCircle_33 : Snd l D AC b z L xs Gm j_Routes_pairsWithCircle 33 (oAld 0 34) := sn_aload_n l D AC b z L xs Gm  dX6_pairsWithCircle_33 rfl
theorem so_Routes_pairsWithCircle_34 : Snd l D AC b z L xs Gm j_Routes_pairsWithCircle 34 (oIld 2 35) := sn_iload_n l D AC b z L xs Gm  dX6_pairsWithCircle_34 rfl
theorem so_Routes_pairsWithCircle_35 : Snd l D AC b z L xs Gm j_Routes_pairsWithCircle 35 (oIld 3 36) := sn_iload_n l D AC b z L xs Gm  dX6_pairsWithCircle_35 rfl
theorem so_Routes_pairsWithCircle_36 : Snd l D AC b z L xs Gm j_Routes_pairsWithCircle 36 (oCallV kc_Routes j_Routes_hasCircle 2 (mL j_Routes_hasCircle) 39) := sn_callV l D AC b z L xs Gm  dX6_pairsWithCircle_36 rfl (hs0 (fun _ => rfl) rfl) cal_Routes_pairsWithCircle_Routes_hasCircle rfl rfl (by decide) rfl tw_548 tw_549 tw_550
theorem so_Routes_pairsWithCircle_39 : Snd l D AC b z L xs Gm j_Routes_pairsWithCircle 39 (oIf (fun x => decide (x = 0)) 45 42) := sn_if_eq l D AC b z L xs Gm  dX6_pairsWithCircle_39 (by decide)
theorem so_Routes_pairsWithCircle_42 : Snd l D AC b z L xs Gm j_Routes_pairsWithCircle 42 (oInc 1 1 45) := sn_iinc l D AC b z L xs Gm  dX6_pairsWithCircle_42 (by decide) (by decide)
theorem so_Routes_pairsWithCircle_45 : Snd l D AC b z L xs Gm j_Routes_pairsWithCircle 45 (oInc 3 1 48) := sn_iinc l D AC b z L xs Gm  dX6_pairsWithCircle_45 (by decide) (by decide)
theorem so_Routes_pairsWithCircle_48 : Snd l D AC b z L xs Gm j_Routes_pairsWithCircle 48 (oGo 17) := sn_goto l D AC b z L xs Gm  dX6_pairsWithCircle_48 (by decide)
theorem so_Routes_pairsWithCircle_51 : Snd l D AC b z L xs Gm j_Routes_pairsWithCircle 51 (oInc 2 1 54) := sn_iinc l D AC b z L xs Gm  dX6_pairsWithCircle_51 (by decide) (by decide)
theorem so_Routes_pairsWithCircle_54 : Snd l D AC b z L xs Gm j_Routes_pairsWithCircle 54 (oGo 4) := sn_goto l D AC b z L xs Gm  dX6_pairsWithCircle_54 (by decide)
theorem so_Routes_pairsWithCircle_57 : Snd l D AC b z L xs Gm j_Routes_pairsWithCircle 57 (oIld 1 58) := sn_iload_n l D AC b z L xs Gm  dX6_pairsWithCircle_57 rfl
theorem so_Routes_pairsWithCircle_58 : Snd l D AC b z L xs Gm j_Routes_pairsWithCircle 58 (oRetI) := sn_retI l D AC b z L xs Gm  dX6_pairsWithCircle_58 rfl
set_option maxRecDepth 100000 in
theorem so_Routes_pairsWithCircle : ∀ q ∈ tb_Routes_pairsWithCircle, Snd l D AC b z L xs Gm j_Routes_pairsWithCircle q.1 q.2 := by
  unfold tb_Routes_pairsWithCircle
  exact List.forall_mem_cons.mpr ⟨so_Routes_pairsWithCircle_0 l D AC b z L xs, List.forall_mem_cons.mpr ⟨so_Routes_pairsWithCircle_1 l D AC b z L xs, List.forall_mem_cons.mpr ⟨so_Routes_pairsWithCircle_2 l D AC b z L xs, List.forall_mem_cons.mpr ⟨so_Routes_pairsWithCircle_3 l D AC b z L xs, List.forall_mem_cons.mpr ⟨so_Routes_pairsWithCircle_4 l D AC b z L xs, List.forall_mem_cons.mpr ⟨so_Routes_pairsWithCircle_5 l D AC b z L xs, List.forall_mem_cons.mpr ⟨so_Routes_pairsWithCircle_6 l D AC b z L xs, List.forall_mem_cons.mpr ⟨so_Routes_pairsWithCircle_9 l D AC b z L xs, List.forall_mem_cons.mpr ⟨so_Routes_pairsWithCircle_12 l D AC b z L xs, List.forall_mem_cons.mpr ⟨so_Routes_pairsWithCircle_15 l D AC b z L xs, List.forall_mem_cons.mpr ⟨so_Routes_pairsWithCircle_16 l D AC b z L xs, List.forall_mem_cons.mpr ⟨so_Routes_pairsWithCircle_17 l D AC b z L xs, List.forall_mem_cons.mpr ⟨so_Routes_pairsWithCircle_18 l D AC b z L xs, List.forall_mem_cons.mpr ⟨so_Routes_pairsWithCircle_19 l D AC b z L xs, List.forall_mem_cons.mpr ⟨so_Routes_pairsWithCircle_22 l D AC b z L xs, List.forall_mem_cons.mpr ⟨so_Routes_pairsWithCircle_25 l D AC b z L xs, List.forall_mem_cons.mpr ⟨so_Routes_pairsWithCircle_28 l D AC b z L xs, List.forall_mem_cons.mpr ⟨so_Routes_pairsWithCircle_29 l D AC b z L xs, List.forall_mem_cons.mpr ⟨so_Routes_pairsWithCircle_30 l D AC b z L xs, List.forall_mem_cons.mpr ⟨so_Routes_pairsWithCircle_33 l D AC b z L xs, List.forall_mem_cons.mpr ⟨so_Routes_pairsWithCircle_34 l D AC b z L xs, List.forall_mem_cons.mpr ⟨so_Routes_pairsWithCircle_35 l D AC b z L xs, List.forall_mem_cons.mpr ⟨so_Routes_pairsWithCircle_36 l D AC b z L xs, List.forall_mem_cons.mpr ⟨so_Routes_pairsWithCircle_39 l D AC b z L xs, List.forall_mem_cons.mpr ⟨so_Routes_pairsWithCircle_42 l D AC b z L xs, List.forall_mem_cons.mpr ⟨so_Routes_pairsWithCircle_45 l D AC b z L xs, List.forall_mem_cons.mpr ⟨so_Routes_pairsWithCircle_48 l D AC b z L xs, List.forall_mem_cons.mpr ⟨so_Routes_pairsWithCircle_51 l D AC b z L xs, List.forall_mem_cons.mpr ⟨so_Routes_pairsWithCircle_54 l D AC b z L xs, List.forall_mem_cons.mpr ⟨so_Routes_pairsWithCircle_57 l D AC b z L xs, List.forall_mem_cons.mpr ⟨so_Routes_pairsWithCircle_58 l D AC b z L xs, fun _ h => absurd h List.not_mem_nil⟩⟩⟩⟩⟩⟩⟩⟩⟩⟩⟩⟩⟩⟩⟩⟩⟩⟩⟩⟩⟩⟩⟩⟩⟩⟩⟩⟩⟩⟩⟩
theorem so_Routes_areInOrder_0 : Snd l D AC b z L xs Gm j_Routes_areInOrder 0 (oI 0 1) := sn_iconst l D AC b z L xs Gm  dX6_areInOrder_0 (by decide)
theorem so_Routes_areInOrder_1 : Snd l D AC b z L xs Gm j_Routes_areInOrder 1 (oIst 2 2) := sn_istore_n l D AC b z L xs Gm  dX6_areInOrder_1 rfl (by decide)
theorem so_Routes_areInOrder_2 : Snd l D AC b z L xs Gm j_Routes_areInOrder 2 (oIld 2 3) := sn_iload_n l D AC b z L xs Gm  dX6_areInOrder_2 rfl
theorem so_Routes_areInOrder_3 : Snd l D AC b z L xs Gm j_Routes_areInOrder 3 (oAld 0 4) := sn_aload_n l D AC b z L xs Gm  dX6_areInOrder_3 rfl
theorem so_Routes_areInOrder_4 : Snd l D AC b z L xs Gm j_Routes_areInOrder 4 (oGetR kc_Routes 0 7) := sn_getR l D AC b z L xs Gm  dX6_areInOrder_4 rfl (by decide) rfl (by decide) kin_6 tw_229
theorem so_Routes_areInOrder_7 : Snd l D AC b z L xs Gm j_Routes_areInOrder 7 (oGetI kc_Land 2 10) := sn_getI l D AC b z L xs Gm  dX6_areInOrder_7 rfl (by decide) rfl (by decide) kin_2 tw_213
theorem so_Routes_areInOrder_10 : Snd l D AC b z L xs Gm j_Routes_areInOrder 10 (oIC (fun x y => decide (y ≤ x)) 71 13) := sn_icmp_ge l D AC b z L xs Gm  dX6_areInOrder_10 (by decide)
theorem so_Routes_areInOrder_13 : Snd l D AC b z L xs Gm j_Routes_areInOrder 13 (oAld 0 14) := sn_aload_n l D AC b z L xs Gm  dX6_areInOrder_13 rfl
theorem so_Routes_areInOrder_14 : Snd l D AC b z L xs Gm j_Routes_areInOrder 14 (oGetR kc_Routes 2 17) := sn_getR l D AC b z L xs Gm  dX6_areInOrder_14 rfl (by decide) rfl (by decide) kin_6 tw_231
theorem so_Routes_areInOrder_17 : Snd l D AC b z L xs Gm j_Routes_areInOrder 17 (oIld 1 18) := sn_iload_n l D AC b z L xs Gm  dX6_areInOrder_17 rfl
theorem so_Routes_areInOrder_18 : Snd l D AC b z L xs Gm j_Routes_areInOrder 18 (oAal 4 19) := sn_aaload l D AC b z L xs Gm  dX6_areInOrder_18 (by decide) rfl rfl (by decide)
theorem so_Routes_areInOrder_19 : Snd l D AC b z L xs Gm j_Routes_areInOrder 19 (oIld 2 20) := sn_iload_n l D AC b z L xs Gm  dX6_areInOrder_19 rfl
theorem so_Routes_areInOrder_20 : Snd l D AC b z L xs Gm j_Routes_areInOrder 20 (oIal 0 21) := sn_iaload l D AC b z L xs Gm  dX6_areInOrder_20 (by decide) rfl rfl rfl
theorem so_Routes_areInOrder_21 : Snd l D AC b z L xs Gm j_Routes_areInOrder 21 (oIst 3 22) := sn_istore_n l D AC b z L xs Gm  dX6_areInOrder_21 rfl (by decide)
theorem so_Routes_areInOrder_22 : Snd l D AC b z L xs Gm j_Routes_areInOrder 22 (oIld 3 23) := sn_iload_n l D AC b z L xs Gm  dX6_areInOrder_22 rfl
theorem so_Routes_areInOrder_23 : Snd l D AC b z L xs Gm j_Routes_areInOrder 23 (oI (-1) 24) := sn_iconst l D AC b z L xs Gm  dX6_areInOrder_23 (by decide)
theorem so_Routes_areInOrder_24 : Snd l D AC b z L xs Gm j_Routes_areInOrder 24 (oIC (fun x y => decide (¬ x = y)) 30 27) := sn_icmp_ne l D AC b z L xs Gm  dX6_areInOrder_24 (by decide)
theorem so_Routes_areInOrder_27 : Snd l D AC b z L xs Gm j_Routes_areInOrder 27 (oGo 65) := sn_goto l D AC b z L xs Gm  dX6_areInOrder_27 (by decide)
theorem so_Routes_areInOrder_30 : Snd l D AC b z L xs Gm j_Routes_areInOrder 30 (oAld 0 31) := sn_aload_n l D AC b z L xs Gm  dX6_areInOrder_30 rfl
theorem so_Routes_areInOrder_31 : Snd l D AC b z L xs Gm j_Routes_areInOrder 31 (oGetR kc_Routes 0 34) := sn_getR l D AC b z L xs Gm  dX6_areInOrder_31 rfl (by decide) rfl (by decide) kin_6 tw_229
theorem so_Routes_areInOrder_34 : Snd l D AC b z L xs Gm j_Routes_areInOrder 34 (oIld 3 35) := sn_iload_n l D AC b z L xs Gm  dX6_areInOrder_34 rfl
theorem so_Routes_areInOrder_35 : Snd l D AC b z L xs Gm j_Routes_areInOrder 35 (oCallV kc_Land j_Land_isNode 1 (mL j_Land_isNode) 38) := sn_callV l D AC b z L xs Gm  dX6_areInOrder_35 rfl (hs0 (fun _ => rfl) rfl) cal_Routes_areInOrder_Land_isNode rfl rfl (by decide) rfl tw_560 tw_471 tw_472
theorem so_Routes_areInOrder_38 : Snd l D AC b z L xs Gm j_Routes_areInOrder 38 (oIf (fun x => decide (x = 0)) 63 41) := sn_if_eq l D AC b z L xs Gm  dX6_areInOrder_38 (by decide)
theorem so_Routes_areInOrder_41 : Snd l D AC b z L xs Gm j_Routes_areInOrder 41 (oIld 3 42) := sn_iload_n l D AC b z L xs Gm  dX6_areInOrder_41 rfl
theorem so_Routes_areInOrder_42 : Snd l D AC b z L xs Gm j_Routes_areInOrder 42 (oIld 1 43) := sn_iload_n l D AC b z L xs Gm  dX6_areInOrder_42 rfl
theorem so_Routes_areInOrder_43 : Snd l D AC b z L xs Gm j_Routes_areInOrder 43 (oIC (fun x y => decide (x = y)) 63 46) := sn_icmp_eq l D AC b z L xs Gm  dX6_areInOrder_43 (by decide)
theorem so_Routes_areInOrder_46 : Snd l D AC b z L xs Gm j_Routes_areInOrder 46 (oAld 0 47) := sn_aload_n l D AC b z L xs Gm  dX6_areInOrder_46 rfl
theorem so_Routes_areInOrder_47 : Snd l D AC b z L xs Gm j_Routes_areInOrder 47 (oGetR kc_Routes 1 50) := sn_getR l D AC b z L xs Gm  dX6_areInOrder_47 rfl (by decide) rfl (by decide) kin_6 tw_230
theorem so_Routes_areInOrder_50 : Snd l D AC b z L xs Gm j_Routes_areInOrder 50 (oIld 1 51) := sn_iload_n l D AC b z L xs Gm  dX6_areInOrder_50 rfl
theorem so_Routes_areInOrder_51 : Snd l D AC b z L xs Gm j_Routes_areInOrder 51 (oAal 4 52) := sn_aaload l D AC b z L xs Gm  dX6_areInOrder_51 (by decide) rfl rfl (by decide)
theorem so_Routes_areInOrder_52 : Snd l D AC b z L xs Gm j_Routes_areInOrder 52 (oIld 2 53) := sn_iload_n l D AC b z L xs Gm  dX6_areInOrder_52 rfl
theorem so_Routes_areInOrder_53 : Snd l D AC b z L xs Gm j_Routes_areInOrder 53 (oIal 0 54) := sn_iaload l D AC b z L xs Gm  dX6_areInOrder_53 (by decide) rfl rfl rfl
theorem so_Routes_areInOrder_54 : Snd l D AC b z L xs Gm j_Routes_areInOrder 54 (oI 1 55) := sn_iconst l D AC b z L xs Gm  dX6_areInOrder_54 (by decide)
theorem so_Routes_areInOrder_55 : Snd l D AC b z L xs Gm j_Routes_areInOrder 55 (oI 8 57) := sn_bipush l D AC b z L xs Gm  dX6_areInOrder_55 (by decide)
theorem so_Routes_areInOrder_57 : Snd l D AC b z L xs Gm j_Routes_areInOrder 57 (oCallS j_S_isWithin 3 (mL j_S_isWithin) 60) := sn_callSN l D AC b z L xs Gm  dX6_areInOrder_57 rfl (hs0 (fun _ => rfl) rfl) cal_Routes_areInOrder_S_isWithin rfl (List.mem_of_getElem? (i := 8) rfl) tw_344
theorem so_Routes_areInOrder_60 : Snd l D AC b z L xs Gm j_Routes_areInOrder 60 (oIf (fun x => decide (¬ x = 0)) 65 63) := sn_if_ne l D AC b z L xs Gm  dX6_areInOrder_60 (by decide)
theorem so_Routes_areInOrder_63 : Snd l D AC b z L xs Gm j_Routes_areInOrder 63 (oI 0 64) := sn_iconst l D AC b z L xs Gm  dX6_areInOrder_63 (by decide)
theorem so_Routes_areInOrder_64 : Snd l D AC b z L xs Gm j_Routes_areInOrder 64 (oRetZ) := sn_retZ l D AC b z L xs Gm  dX6_areInOrder_64 rfl
theorem so_Routes_areInOrder_65 : Snd l D AC b z L xs Gm j_Routes_areInOrder 65 (oInc 2 1 68) := sn_iinc l D AC b z L xs Gm  dX6_areInOrder_65 (by decide) (by decide)
theorem so_Routes_areInOrder_68 : Snd l D AC b z L xs Gm j_Routes_areInOrder 68 (oGo 2) := sn_goto l D AC b z L xs Gm  dX6_areInOrder_68 (by decide)
theorem so_Routes_areInOrder_71 : Snd l D AC b z L xs Gm j_Routes_areInOrder 71 (oI 1 72) := sn_iconst l D AC b z L xs Gm  dX6_areInOrder_71 (by decide)
theorem so_Routes_areInOrder_72 : Snd l D AC b z L xs Gm j_Routes_areInOrder 72 (oRetZ) := sn_retZ l D AC b z L xs Gm  dX6_areInOrder_72 rfl
set_option maxRecDepth 100000 in
theorem so_Routes_areInOrder : ∀ q ∈ tb_Routes_areInOrder, Snd l D AC b z L xs Gm j_Routes_areInOrder q.1 q.2 := by
  unfold tb_Routes_areInOrder
  exact List.forall_mem_cons.mpr ⟨so_Routes_areInOrder_0 l D AC b z L xs, List.forall_mem_cons.mpr ⟨so_Routes_areInOrder_1 l D AC b z L xs, List.forall_mem_cons.mpr ⟨so_Routes_areInOrder_2 l D AC b z L xs, List.forall_mem_cons.mpr ⟨so_Routes_areInOrder_3 l D AC b z L xs, List.forall_mem_cons.mpr ⟨so_Routes_areInOrder_4 l D AC b z L xs, List.forall_mem_cons.mpr ⟨so_Routes_areInOrder_7 l D AC b z L xs, List.forall_mem_cons.mpr ⟨so_Routes_areInOrder_10 l D AC b z L xs, List.forall_mem_cons.mpr ⟨so_Routes_areInOrder_13 l D AC b z L xs, List.forall_mem_cons.mpr ⟨so_Routes_areInOrder_14 l D AC b z L xs, List.forall_mem_cons.mpr ⟨so_Routes_areInOrder_17 l D AC b z L xs, List.forall_mem_cons.mpr ⟨so_Routes_areInOrder_18 l D AC b z L xs, List.forall_mem_cons.mpr ⟨so_Routes_areInOrder_19 l D AC b z L xs, List.forall_mem_cons.mpr ⟨so_Routes_areInOrder_20 l D AC b z L xs, List.forall_mem_cons.mpr ⟨so_Routes_areInOrder_21 l D AC b z L xs, List.forall_mem_cons.mpr ⟨so_Routes_areInOrder_22 l D AC b z L xs, List.forall_mem_cons.mpr ⟨so_Routes_areInOrder_23 l D AC b z L xs, List.forall_mem_cons.mpr ⟨so_Routes_areInOrder_24 l D AC b z L xs, List.forall_mem_cons.mpr ⟨so_Routes_areInOrder_27 l D AC b z L xs, List.forall_mem_cons.mpr ⟨so_Routes_areInOrder_30 l D AC b z L xs, List.forall_mem_cons.mpr ⟨so_Routes_areInOrder_31 l D AC b z L xs, List.forall_mem_cons.mpr ⟨so_Routes_areInOrder_34 l D AC b z L xs, List.forall_mem_cons.mpr ⟨so_Routes_areInOrder_35 l D AC b z L xs, List.forall_mem_cons.mpr ⟨so_Routes_areInOrder_38 l D AC b z L xs, List.forall_mem_cons.mpr ⟨so_Routes_areInOrder_41 l D AC b z L xs, List.forall_mem_cons.mpr ⟨so_Routes_areInOrder_42 l D AC b z L xs, List.forall_mem_cons.mpr ⟨so_Routes_areInOrder_43 l D AC b z L xs, List.forall_mem_cons.mpr ⟨so_Routes_areInOrder_46 l D AC b z L xs, List.forall_mem_cons.mpr ⟨so_Routes_areInOrder_47 l D AC b z L xs, List.forall_mem_cons.mpr ⟨so_Routes_areInOrder_50 l D AC b z L xs, List.forall_mem_cons.mpr ⟨so_Routes_areInOrder_51 l D AC b z L xs, List.forall_mem_cons.mpr ⟨so_Routes_areInOrder_52 l D AC b z L xs, List.forall_mem_cons.mpr ⟨so_Routes_areInOrder_53 l D AC b z L xs, List.forall_mem_cons.mpr ⟨so_Routes_areInOrder_54 l D AC b z L xs, List.forall_mem_cons.mpr ⟨so_Routes_areInOrder_55 l D AC b z L xs, List.forall_mem_cons.mpr ⟨so_Routes_areInOrder_57 l D AC b z L xs, List.forall_mem_cons.mpr ⟨so_Routes_areInOrder_60 l D AC b z L xs, List.forall_mem_cons.mpr ⟨so_Routes_areInOrder_63 l D AC b z L xs, List.forall_mem_cons.mpr ⟨so_Routes_areInOrder_64 l D AC b z L xs, List.forall_mem_cons.mpr ⟨so_Routes_areInOrder_65 l D AC b z L xs, List.forall_mem_cons.mpr ⟨so_Routes_areInOrder_68 l D AC b z L xs, List.forall_mem_cons.mpr ⟨so_Routes_areInOrder_71 l D AC b z L xs, List.forall_mem_cons.mpr ⟨so_Routes_areInOrder_72 l D AC b z L xs, fun _ h => absurd h List.not_mem_nil⟩⟩⟩⟩⟩⟩⟩⟩⟩⟩⟩⟩⟩⟩⟩⟩⟩⟩⟩⟩⟩⟩⟩⟩⟩⟩⟩⟩⟩⟩⟩⟩⟩⟩⟩⟩⟩⟩⟩⟩⟩⟩
theorem so_Traffic_init_0 : Snd l D AC b z L xs Gm j_Traffic_init 0 (oAld 0 1) := sn_aload_n l D AC b z L xs Gm  dX7_init_0 rfl
theorem so_Traffic_init_1 : Snd l D AC b z L xs Gm j_Traffic_init 1 (oObj 4) := sn_obj l D AC b z L xs Gm  dX7_init_1 (by decide) (by decide) tw_254 tw_45 tw_46
theorem so_Traffic_init_4 : Snd l D AC b z L xs Gm j_Traffic_init 4 (oAld 0 5) := sn_aload_n l D AC b z L xs Gm  dX7_init_4 rfl
theorem so_Traffic_init_5 : Snd l D AC b z L xs Gm j_Traffic_init 5 (oI 0 6) := sn_iconst l D AC b z L xs Gm  dX7_init_5 (by decide)
theorem so_Traffic_init_6 : Snd l D AC b z L xs Gm j_Traffic_init 6 (oPutI kc_Traffic 2 9) := sn_putI l D AC b z L xs Gm  dX7_init_6 rfl (by decide) rfl (by decide) kin_7 tyX7_ok nmX7 tw_257 rfl rfl
theorem so_Traffic_init_9 : Snd l D AC b z L xs Gm j_Traffic_init 9 (oAld 0 10) := sn_aload_n l D AC b z L xs Gm  dX7_init_9 rfl
theorem so_Traffic_init_10 : Snd l D AC b z L xs Gm j_Traffic_init 10 (oI 41 12) := sn_bipush l D AC b z L xs Gm  dX7_init_10 (by decide)
theorem so_Traffic_init_12 : Snd l D AC b z L xs Gm j_Traffic_init 12 (oPutI kc_Traffic 3 15) := sn_putI l D AC b z L xs Gm  dX7_init_12 rfl (by decide) rfl (by decide) kin_7 tyX7_ok nmX7 tw_259 rfl rfl
theorem so_Traffic_init_15 : Snd l D AC b z L xs Gm j_Traffic_init 15 (oAld 0 16) := sn_aload_n l D AC b z L xs Gm  dX7_init_15 rfl
theorem so_Traffic_init_16 : Snd l D AC b z L xs Gm j_Traffic_init 16 (oI 0 17) := sn_iconst l D AC b z L xs Gm  dX7_init_16 (by decide)
theorem so_Traffic_init_17 : Snd l D AC b z L xs Gm j_Traffic_init 17 (oPutI kc_Traffic 4 20) := sn_putI l D AC b z L xs Gm  dX7_init_17 rfl (by decide) rfl (by decide) kin_7 tyX7_ok nmX7 tw_261 rfl rfl
theorem so_Traffic_init_20 : Snd l D AC b z L xs Gm j_Traffic_init 20 (oAld 0 21) := sn_aload_n l D AC b z L xs Gm  dX7_init_20 rfl
theorem so_Traffic_init_21 : Snd l D AC b z L xs Gm j_Traffic_init 21 (oI 0 22) := sn_iconst l D AC b z L xs Gm  dX7_init_21 (by decide)
theorem so_Traffic_init_22 : Snd l D AC b z L xs Gm j_Traffic_init 22 (oPutI kc_Traffic 5 25) := sn_putI l D AC b z L xs Gm  dX7_init_22 rfl (by decide) rfl (by decide) kin_7 tyX7_ok nmX7 tw_263 rfl rfl
theorem so_Traffic_init_25 : Snd l D AC b z L xs Gm j_Traffic_init 25 (oAld 0 26) := sn_aload_n l D AC b z L xs Gm  dX7_init_25 rfl
theorem so_Traffic_init_26 : Snd l D AC b z L xs Gm j_Traffic_init 26 (oI 0 27) := sn_iconst l D AC b z L xs Gm  dX7_init_26 (by decide)
theorem so_Traffic_init_27 : Snd l D AC b z L xs Gm j_Traffic_init 27 (oPutI kc_Traffic 6 30) := sn_putI l D AC b z L xs Gm  dX7_init_27 rfl (by decide) rfl (by decide) kin_7 tyX7_ok nmX7 tw_265 rfl rfl
theorem so_Traffic_init_30 : Snd l D AC b z L xs Gm j_Traffic_init 30 (oAld 0 31) := sn_aload_n l D AC b z L xs Gm  dX7_init_30 rfl
theorem so_Traffic_init_31 : Snd l D AC b z L xs Gm j_Traffic_init 31 (oAld 1 32) := sn_aload_n l D AC b z L xs Gm  dX7_init_31 rfl
theorem so_Traffic_init_32 : Snd l D AC b z L xs Gm j_Traffic_init 32 (oPutR kc_Traffic 0 35) := sn_putRF l D AC b z L xs Gm  dX7_init_32 rfl (by decide) rfl (by decide) kin_7 tyX7_ok nmX7 tw_255 rfl rfl rfl (Or.inl ⟨_, rfl⟩)
theorem so_Traffic_init_35 : Snd l D AC b z L xs Gm j_Traffic_init 35 (oAld 0 36) := sn_aload_n l D AC b z L xs Gm  dX7_init_35 rfl
theorem so_Traffic_init_36 : Snd l D AC b z L xs Gm j_Traffic_init 36 (oAld 2 37) := sn_aload_n l D AC b z L xs Gm  dX7_init_36 rfl
theorem so_Traffic_init_37 : Snd l D AC b z L xs Gm j_Traffic_init 37 (oPutR kc_Traffic 1 40) := sn_putRF l D AC b z L xs Gm  dX7_init_37 rfl (by decide) rfl (by decide) kin_7 tyX7_ok nmX7 tw_256 rfl rfl rfl (Or.inl ⟨_, rfl⟩)
theorem so_Traffic_init_40 : Snd l D AC b z L xs Gm j_Traffic_init 40 (oRet) := sn_ret l D AC b z L xs Gm  dX7_init_40 rfl
set_option maxRecDepth 100000 in
theorem so_Traffic_init : ∀ q ∈ tb_Traffic_init, Snd l D AC b z L xs Gm j_Traffic_init q.1 q.2 := by
  unfold tb_Traffic_init
  exact List.forall_mem_cons.mpr ⟨so_Traffic_init_0 l D AC b z L xs, List.forall_mem_cons.mpr ⟨so_Traffic_init_1 l D AC b z L xs, List.forall_mem_cons.mpr ⟨so_Traffic_init_4 l D AC b z L xs, List.forall_mem_cons.mpr ⟨so_Traffic_init_5 l D AC b z L xs, List.forall_mem_cons.mpr ⟨so_Traffic_init_6 l D AC b z L xs, List.forall_mem_cons.mpr ⟨so_Traffic_init_9 l D AC b z L xs, List.forall_mem_cons.mpr ⟨so_Traffic_init_10 l D AC b z L xs, List.forall_mem_cons.mpr ⟨so_Traffic_init_12 l D AC b z L xs, List.forall_mem_cons.mpr ⟨so_Traffic_init_15 l D AC b z L xs, List.forall_mem_cons.mpr ⟨so_Traffic_init_16 l D AC b z L xs, List.forall_mem_cons.mpr ⟨so_Traffic_init_17 l D AC b z L xs, List.forall_mem_cons.mpr ⟨so_Traffic_init_20 l D AC b z L xs, List.forall_mem_cons.mpr ⟨so_Traffic_init_21 l D AC b z L xs, List.forall_mem_cons.mpr ⟨so_Traffic_init_22 l D AC b z L xs, List.forall_mem_cons.mpr ⟨so_Traffic_init_25 l D AC b z L xs, List.forall_mem_cons.mpr ⟨so_Traffic_init_26 l D AC b z L xs, List.forall_mem_cons.mpr ⟨so_Traffic_init_27 l D AC b z L xs, List.forall_mem_cons.mpr ⟨so_Traffic_init_30 l D AC b z L xs, List.forall_mem_cons.mpr ⟨so_Traffic_init_31 l D AC b z L xs, List.forall_mem_cons.mpr ⟨so_Traffic_init_32 l D AC b z L xs, List.forall_mem_cons.mpr ⟨so_Traffic_init_35 l D AC b z L xs, List.forall_mem_cons.mpr ⟨so_Traffic_init_36 l D AC b z L xs, List.forall_mem_cons.mpr ⟨so_Traffic_init_37 l D AC b z L xs, List.forall_mem_cons.mpr ⟨so_Traffic_init_40 l D AC b z L xs, fun _ h => absurd h List.not_mem_nil⟩⟩⟩⟩⟩⟩⟩⟩⟩⟩⟩⟩⟩⟩⟩⟩⟩⟩⟩⟩⟩⟩⟩⟩
theorem so_Traffic_senders_0 : Snd l D AC b z L xs Gm j_Traffic_senders 0 (oI 0 1) := sn_iconst l D AC b z L xs Gm  dX7_senders_0 (by decide)
theorem so_Traffic_senders_1 : Snd l D AC b z L xs Gm j_Traffic_senders 1 (oIst 1 2) := sn_istore_n l D AC b z L xs Gm  dX7_senders_1 rfl (by decide)
theorem so_Traffic_senders_2 : Snd l D AC b z L xs Gm j_Traffic_senders 2 (oI 0 3) := sn_iconst l D AC b z L xs Gm  dX7_senders_2 (by decide)
theorem so_Traffic_senders_3 : Snd l D AC b z L xs Gm j_Traffic_senders 3 (oIst 2 4) := sn_istore_n l D AC b z L xs Gm  dX7_senders_3 rfl (by decide)
theorem so_Traffic_senders_4 : Snd l D AC b z L xs Gm j_Traffic_senders 4 (oIld 2 5) := sn_iload_n l D AC b z L xs Gm  dX7_senders_4 rfl
theorem so_Traffic_senders_5 : Snd l D AC b z L xs Gm j_Traffic_senders 5 (oAld 0 6) := sn_aload_n l D AC b z L xs Gm  dX7_senders_5 rfl
theorem so_Traffic_senders_6 : Snd l D AC b z L xs Gm j_Traffic_senders 6 (oGetR kc_Traffic 0 9) := sn_getR l D AC b z L xs Gm  dX7_senders_6 rfl (by decide) rfl (by decide) kin_7 tw_255
theorem so_Traffic_senders_9 : Snd l D AC b z L xs Gm j_Traffic_senders 9 (oGetI kc_Land 2 12) := sn_getI l D AC b z L xs Gm  dX7_senders_9 rfl (by decide) rfl (by decide) kin_2 tw_211
theorem so_Traffic_senders_12 : Snd l D AC b z L xs Gm j_Traffic_senders 12 (oIC (fun x y => decide (y ≤ x)) 42 15) := sn_icmp_ge l D AC b z L xs Gm  dX7_senders_12 (by decide)
theorem so_Traffic_senders_15 : Snd l D AC b z L xs Gm j_Traffic_senders 15 (oAld 0 16) := sn_aload_n l D AC b z L xs Gm  dX7_senders_15 rfl
theorem so_Traffic_senders_16 : Snd l D AC b z L xs Gm j_Traffic_senders 16 (oGetR kc_Traffic 0 19) := sn_getR l D AC b z L xs Gm  dX7_senders_16 rfl (by decide) rfl (by decide) kin_7 tw_255
theorem so_Traffic_senders_19 : Snd l D AC b z L xs Gm j_Traffic_senders 19 (oGetR kc_Land 0 22) := sn_getR l D AC b z L xs Gm  dX7_senders_19 rfl (by decide) rfl (by decide) kin_2 tw_207
theorem so_Traffic_senders_22 : Snd l D AC b z L xs Gm j_Traffic_senders 22 (oIld 2 23) := sn_iload_n l D AC b z L xs Gm  dX7_senders_22 rfl
theorem so_Traffic_senders_23 : Snd l D AC b z L xs Gm j_Traffic_senders 23 (oAal 2 24) := sn_aaload l D AC b z L xs Gm  dX7_senders_23 (by decide) rfl rfl (by decide)
theorem so_Traffic_senders_24 : Snd l D AC b z L xs Gm j_Traffic_senders 24 (oCallV kc_Node j_Node_isSending 0 (mL j_Node_isSending) 27) := sn_callV l D AC b z L xs Gm  dX7_senders_24 rfl (hs0 (fun _ => rfl) rfl) cal_Traffic_senders_Node_isSending rfl rfl (by decide) rfl tw_530 tw_531 tw_532
theorem so_Traffic_senders_27 : Snd l D AC b z L xs Gm j_Traffic_senders 27 (oIf (fun x => decide (x = 0)) 36 30) := sn_if_eq l D AC b z L xs Gm  dX7_senders_27 (by decide)
theorem so_Traffic_senders_30 : Snd l D AC b z L xs Gm j_Traffic_senders 30 (oIld 1 31) := sn_iload_n l D AC b z L xs Gm  dX7_senders_30 rfl
theorem so_Traffic_senders_31 : Snd l D AC b z L xs Gm j_Traffic_senders 31 (oI 1 32) := sn_iconst l D AC b z L xs Gm  dX7_senders_31 (by decide)
theorem so_Traffic_senders_32 : Snd l D AC b z L xs Gm j_Traffic_senders 32 (oIld 2 33) := sn_iload_n l D AC b z L xs Gm  dX7_senders_32 rfl
theorem so_Traffic_senders_33 : Snd l D AC b z L xs Gm j_Traffic_senders 33 (oII (fun x y => x <<< (y &&& 31)) 34) := sn_ishl l D AC b z L xs Gm  dX7_senders_33
theorem so_Traffic_senders_34 : Snd l D AC b z L xs Gm j_Traffic_senders 34 (oII (fun x y => x ||| y) 35) := sn_ior l D AC b z L xs Gm  dX7_senders_34
theorem so_Traffic_senders_35 : Snd l D AC b z L xs Gm j_Traffic_senders 35 (oIst 1 36) := sn_istore_n l D AC b z L xs Gm  dX7_senders_35 rfl (by decide)
theorem so_Traffic_senders_36 : Snd l D AC b z L xs Gm j_Traffic_senders 36 (oInc 2 1 39) := sn_iinc l D AC b z L xs Gm  dX7_senders_36 (by decide) (by decide)
theorem so_Traffic_senders_39 : Snd l D AC b z L xs Gm j_Traffic_senders 39 (oGo 4) := sn_goto l D AC b z L xs Gm  dX7_senders_39 (by decide)
theorem so_Traffic_senders_42 : Snd l D AC b z L xs Gm j_Traffic_senders 42 (oIld 1 43) := sn_iload_n l D AC b z L xs Gm  dX7_senders_42 rfl
theorem so_Traffic_senders_43 : Snd l D AC b z L xs Gm j_Traffic_senders 43 (oRetI) := sn_retI l D AC b z L xs Gm  dX7_senders_43 rfl
set_option maxRecDepth 100000 in
theorem so_Traffic_senders : ∀ q ∈ tb_Traffic_senders, Snd l D AC b z L xs Gm j_Traffic_senders q.1 q.2 := by
  unfold tb_Traffic_senders
  exact List.forall_mem_cons.mpr ⟨so_Traffic_senders_0 l D AC b z L xs, List.forall_mem_cons.mpr ⟨so_Traffic_senders_1 l D AC b z L xs, List.forall_mem_cons.mpr ⟨so_Traffic_senders_2 l D AC b z L xs, List.forall_mem_cons.mpr ⟨so_Traffic_senders_3 l D AC b z L xs, List.forall_mem_cons.mpr ⟨so_Traffic_senders_4 l D AC b z L xs, List.forall_mem_cons.mpr ⟨so_Traffic_senders_5 l D AC b z L xs, List.forall_mem_cons.mpr ⟨so_Traffic_senders_6 l D AC b z L xs, List.forall_mem_cons.mpr ⟨so_Traffic_senders_9 l D AC b z L xs, List.forall_mem_cons.mpr ⟨so_Traffic_senders_12 l D AC b z L xs, List.forall_mem_cons.mpr ⟨so_Traffic_senders_15 l D AC b z L xs, List.forall_mem_cons.mpr ⟨so_Traffic_senders_16 l D AC b z L xs, List.forall_mem_cons.mpr ⟨so_Traffic_senders_19 l D AC b z L xs, List.forall_mem_cons.mpr ⟨so_Traffic_senders_22 l D AC b z L xs, List.forall_mem_cons.mpr ⟨so_Traffic_senders_23 l D AC b z L xs, List.forall_mem_cons.mpr ⟨so_Traffic_senders_24 l D AC b z L xs, List.forall_mem_cons.mpr ⟨so_Traffic_senders_27 l D AC b z L xs, List.forall_mem_cons.mpr ⟨so_Traffic_senders_30 l D AC b z L xs, List.forall_mem_cons.mpr ⟨so_Traffic_senders_31 l D AC b z L xs, List.forall_mem_cons.mpr ⟨so_Traffic_senders_32 l D AC b z L xs, List.forall_mem_cons.mpr ⟨so_Traffic_senders_33 l D AC b z L xs, List.forall_mem_cons.mpr ⟨so_Traffic_senders_34 l D AC b z L xs, List.forall_mem_cons.mpr ⟨so_Traffic_senders_35 l D AC b z L xs, List.forall_mem_cons.mpr ⟨so_Traffic_senders_36 l D AC b z L xs, List.forall_mem_cons.mpr ⟨so_Traffic_senders_39 l D AC b z L xs, List.forall_mem_cons.mpr ⟨so_Traffic_senders_42 l D AC b z L xs, List.forall_mem_cons.mpr ⟨so_Traffic_senders_43 l D AC b z L xs, fun _ h => absurd h List.not_mem_nil⟩⟩⟩⟩⟩⟩⟩⟩⟩⟩⟩⟩⟩⟩⟩⟩⟩⟩⟩⟩⟩⟩⟩⟩⟩⟩
theorem so_Traffic_goBy_0 : Snd l D AC b z L xs Gm j_Traffic_goBy 0 (oAld 0 1) := sn_aload_n l D AC b z L xs Gm  dX7_goBy_0 rfl
theorem so_Traffic_goBy_1 : Snd l D AC b z L xs Gm j_Traffic_goBy 1 (oDup 2) := sn_dup l D AC b z L xs Gm  dX7_goBy_1
theorem so_Traffic_goBy_2 : Snd l D AC b z L xs Gm j_Traffic_goBy 2 (oGetI kc_Traffic 2 5) := sn_getI l D AC b z L xs Gm  dX7_goBy_2 rfl (by decide) rfl (by decide) kin_7 tw_257
theorem so_Traffic_goBy_5 : Snd l D AC b z L xs Gm j_Traffic_goBy 5 (oI 1 6) := sn_iconst l D AC b z L xs Gm  dX7_goBy_5 (by decide)
theorem so_Traffic_goBy_6 : Snd l D AC b z L xs Gm j_Traffic_goBy 6 (oII (fun x y => x + y) 7) := sn_iadd l D AC b z L xs Gm  dX7_goBy_6
theorem so_Traffic_goBy_7 : Snd l D AC b z L xs Gm j_Traffic_goBy 7 (oPutI kc_Traffic 2 10) := sn_putI l D AC b z L xs Gm  dX7_goBy_7 rfl (by decide) rfl (by decide) kin_7 tyX7_ok nmX7 tw_257 rfl rfl
theorem so_Traffic_goBy_10 : Snd l D AC b z L xs Gm j_Traffic_goBy 10 (oAld 0 11) := sn_aload_n l D AC b z L xs Gm  dX7_goBy_10 rfl
theorem so_Traffic_goBy_11 : Snd l D AC b z L xs Gm j_Traffic_goBy 11 (oCallV kc_Traffic j_Traffic_senders 0 (mL j_Traffic_senders) 14) := sn_callV l D AC b z L xs Gm  dX7_goBy_11 rfl (hs0 (fun _ => rfl) rfl) cal_Traffic_goBy_Traffic_senders rfl rfl (by decide) rfl tw_652 tw_527 tw_528
theorem so_Traffic_goBy_14 : Snd l D AC b z L xs Gm j_Traffic_goBy 14 (oIst 1 15) := sn_istore_n l D AC b z L xs Gm  dX7_goBy_14 rfl (by decide)
theorem so_Traffic_goBy_15 : Snd l D AC b z L xs Gm j_Traffic_goBy 15 (oI 0 16) := sn_iconst l D AC b z L xs Gm  dX7_goBy_15 (by decide)
theorem so_Traffic_goBy_16 : Snd l D AC b z L xs Gm j_Traffic_goBy 16 (oIst 2 17) := sn_istore_n l D AC b z L xs Gm  dX7_goBy_16 rfl (by decide)
theorem so_Traffic_goBy_17 : Snd l D AC b z L xs Gm j_Traffic_goBy 17 (oIld 2 18) := sn_iload_n l D AC b z L xs Gm  dX7_goBy_17 rfl
theorem so_Traffic_goBy_18 : Snd l D AC b z L xs Gm j_Traffic_goBy 18 (oAld 0 19) := sn_aload_n l D AC b z L xs Gm  dX7_goBy_18 rfl
theorem so_Traffic_goBy_19 : Snd l D AC b z L xs Gm j_Traffic_goBy 19 (oGetR kc_Traffic 0 22) := sn_getR l D AC b z L xs Gm  dX7_goBy_19 rfl (by decide) rfl (by decide) kin_7 tw_255
theorem so_Traffic_goBy_22 : Snd l D AC b z L xs Gm j_Traffic_goBy 22 (oGetI kc_Land 2 25) := sn_getI l D AC b z L xs Gm  dX7_goBy_22 rfl (by decide) rfl (by decide) kin_2 tw_211
theorem so_Traffic_goBy_25 : Snd l D AC b z L xs Gm j_Traffic_goBy 25 (oIC (fun x y => decide (y ≤ x)) 59 28) := sn_icmp_ge l D AC b z L xs Gm  dX7_goBy_25 (by decide)
theorem so_Traffic_goBy_28 : Snd l D AC b z L xs Gm j_Traffic_goBy 28 (oIld 1 29) := sn_iload_n l D AC b z L xs Gm  dX7_goBy_28 rfl
theorem so_Traffic_goBy_29 : Snd l D AC b z L xs Gm j_Traffic_goBy 29 (oIld 2 30) := sn_iload_n l D AC b z L xs Gm  dX7_goBy_29 rfl
theorem so_Traffic_goBy_30 : Snd l D AC b z L xs Gm j_Traffic_goBy 30 (oCallS j_S_isIn 2 (mL j_S_isIn) 33) := sn_callSN l D AC b z L xs Gm  dX7_goBy_30 rfl (hs0 (fun _ => rfl) rfl) cal_Traffic_goBy_S_isIn rfl (List.mem_of_getElem? (i := 6) rfl) tw_475
theorem so_Traffic_goBy_33 : Snd l D AC b z L xs Gm j_Traffic_goBy 33 (oIf (fun x => decide (¬ x = 0)) 53 36) := sn_if_ne l D AC b z L xs Gm  dX7_goBy_33 (by decide)
theorem so_Traffic_goBy_36 : Snd l D AC b z L xs Gm j_Traffic_goBy 36 (oAld 0 37) := sn_aload_n l D AC b z L xs Gm  dX7_goBy_36 rfl
theorem so_Traffic_goBy_37 : Snd l D AC b z L xs Gm j_Traffic_goBy 37 (oGetR kc_Traffic 0 40) := sn_getR l D AC b z L xs Gm  dX7_goBy_37 rfl (by decide) rfl (by decide) kin_7 tw_255
theorem so_Traffic_goBy_40 : Snd l D AC b z L xs Gm j_Traffic_goBy 40 (oIld 2 41) := sn_iload_n l D AC b z L xs Gm  dX7_goBy_40 rfl
theorem so_Traffic_goBy_41 : Snd l D AC b z L xs Gm j_Traffic_goBy 41 (oIld 1 42) := sn_iload_n l D AC b z L xs Gm  dX7_goBy_41 rfl
theorem so_Traffic_goBy_42 : Snd l D AC b z L xs Gm j_Traffic_goBy 42 (oCallV kc_Land j_Land_hearsOneOf 2 (mL j_Land_hearsOneOf) 45) := sn_callV l D AC b z L xs Gm  dX7_goBy_42 rfl (hs0 (fun _ => rfl) rfl) cal_Traffic_goBy_Land_hearsOneOf rfl rfl (by decide) rfl tw_654 tw_655 tw_656
theorem so_Traffic_goBy_45 : Snd l D AC b z L xs Gm j_Traffic_goBy 45 (oIf (fun x => decide (¬ x = 0)) 53 48) := sn_if_ne l D AC b z L xs Gm  dX7_goBy_45 (by decide)
theorem so_Traffic_goBy_48 : Snd l D AC b z L xs Gm j_Traffic_goBy 48 (oAld 0 49) := sn_aload_n l D AC b z L xs Gm  dX7_goBy_48 rfl
theorem so_Traffic_goBy_49 : Snd l D AC b z L xs Gm j_Traffic_goBy 49 (oIld 2 50) := sn_iload_n l D AC b z L xs Gm  dX7_goBy_49 rfl
theorem so_Traffic_goBy_50 : Snd l D AC b z L xs Gm j_Traffic_goBy 50 (oCallV kc_Traffic j_Traffic_takeTurn 1 (mL j_Traffic_takeTurn) 53) := sn_callV l D AC b z L xs Gm  dX7_goBy_50 rfl (hs0 (fun _ => rfl) rfl) cal_Traffic_goBy_Traffic_takeTurn rfl rfl (by decide) rfl tw_658 tw_660 tw_10
theorem so_Traffic_goBy_53 : Snd l D AC b z L xs Gm j_Traffic_goBy 53 (oInc 2 1 56) := sn_iinc l D AC b z L xs Gm  dX7_goBy_53 (by decide) (by decide)
theorem so_Traffic_goBy_56 : Snd l D AC b z L xs Gm j_Traffic_goBy 56 (oGo 17) := sn_goto l D AC b z L xs Gm  dX7_goBy_56 (by decide)
theorem so_Traffic_goBy_59 : Snd l D AC b z L xs Gm j_Traffic_goBy 59 (oAld 0 60) := sn_aload_n l D AC b z L xs Gm  dX7_goBy_59 rfl
theorem so_Traffic_goBy_60 : Snd l D AC b z L xs Gm j_Traffic_goBy 60 (oCallV kc_Traffic j_Traffic_senders 0 (mL j_Traffic_senders) 63) := sn_callV l D AC b z L xs Gm  dX7_goBy_60 rfl (hs0 (fun _ => rfl) rfl) cal_Traffic_goBy_Traffic_senders rfl rfl (by decide) rfl tw_652 tw_527 tw_528
theorem so_Traffic_goBy_63 : Snd l D AC b z L xs Gm j_Traffic_goBy 63 (oIst 2 64) := sn_istore_n l D AC b z L xs Gm  dX7_goBy_63 rfl (by decide)
theorem so_Traffic_goBy_64 : Snd l D AC b z L xs Gm j_Traffic_goBy 64 (oI 0 65) := sn_iconst l D AC b z L xs Gm  dX7_goBy_64 (by decide)
theorem so_Traffic_goBy_65 : Snd l D AC b z L xs Gm j_Traffic_goBy 65 (oIst 3 66) := sn_istore_n l D AC b z L xs Gm  dX7_goBy_65 rfl (by decide)
theorem so_Traffic_goBy_66 : Snd l D AC b z L xs Gm j_Traffic_goBy 66 (oIld 3 67) := sn_iload_n l D AC b z L xs Gm  dX7_goBy_66 rfl
theorem so_Traffic_goBy_67 : Snd l D AC b z L xs Gm j_Traffic_goBy 67 (oAld 0 68) := sn_aload_n l D AC b z L xs Gm  dX7_goBy_67 rfl
theorem so_Traffic_goBy_68 : Snd l D AC b z L xs Gm j_Traffic_goBy 68 (oGetR kc_Traffic 0 71) := sn_getR l D AC b z L xs Gm  dX7_goBy_68 rfl (by decide) rfl (by decide) kin_7 tw_255
theorem so_Traffic_goBy_71 : Snd l D AC b z L xs Gm j_Traffic_goBy 71 (oGetI kc_Land 2 74) := sn_getI l D AC b z L xs Gm  dX7_goBy_71 rfl (by decide) rfl (by decide) kin_2 tw_211
theorem so_Traffic_goBy_74 : Snd l D AC b z L xs Gm j_Traffic_goBy 74 (oIC (fun x y => decide (y ≤ x)) 97 77) := sn_icmp_ge l D AC b z L xs Gm  dX7_goBy_74 (by decide)
theorem so_Traffic_goBy_77 : Snd l D AC b z L xs Gm j_Traffic_goBy 77 (oIld 2 78) := sn_iload_n l D AC b z L xs Gm  dX7_goBy_77 rfl
theorem so_Traffic_goBy_78 : Snd l D AC b z L xs Gm j_Traffic_goBy 78 (oIld 3 79) := sn_iload_n l D AC b z L xs Gm  dX7_goBy_78 rfl
theorem so_Traffic_goBy_79 : Snd l D AC b z L xs Gm j_Traffic_goBy 79 (oCallS j_S_isIn 2 (mL j_S_isIn) 82) := sn_callSN l D AC b z L xs Gm  dX7_goBy_79 rfl (hs0 (fun _ => rfl) rfl) cal_Traffic_goBy_S_isIn rfl (List.mem_of_getElem? (i := 6) rfl) tw_475
theorem so_Traffic_goBy_82 : Snd l D AC b z L xs Gm j_Traffic_goBy 82 (oIf (fun x => decide (x = 0)) 91 85) := sn_if_eq l D AC b z L xs Gm  dX7_goBy_82 (by decide)
theorem so_Traffic_goBy_85 : Snd l D AC b z L xs Gm j_Traffic_goBy 85 (oAld 0 86) := sn_aload_n l D AC b z L xs Gm  dX7_goBy_85 rfl
theorem so_Traffic_goBy_86 : Snd l D AC b z L xs Gm j_Traffic_goBy 86 (oIld 3 87) := sn_iload_n l D AC b z L xs Gm  dX7_goBy_86 rfl
theorem so_Traffic_goBy_87 : Snd l D AC b z L xs Gm j_Traffic_goBy 87 (oIld 2 88) := sn_iload_n l D AC b z L xs Gm  dX7_goBy_87 rfl
theorem so_Traffic_goBy_88 : Snd l D AC b z L xs Gm j_Traffic_goBy 88 (oCallV kc_Traffic j_Traffic_goOn 2 (mL j_Traffic_goOn) 91) := sn_callV l D AC b z L xs Gm  dX7_goBy_88 rfl (hs0 (fun _ => rfl) rfl) cal_Traffic_goBy_Traffic_goOn rfl rfl (by decide) rfl tw_683 tw_685 tw_12
theorem so_Traffic_goBy_91 : Snd l D AC b z L xs Gm j_Traffic_goBy 91 (oInc 3 1 94) := sn_iinc l D AC b z L xs Gm  dX7_goBy_91 (by decide) (by decide)
theorem so_Traffic_goBy_94 : Snd l D AC b z L xs Gm j_Traffic_goBy 94 (oGo 66) := sn_goto l D AC b z L xs Gm  dX7_goBy_94 (by decide)
theorem so_Traffic_goBy_97 : Snd l D AC b z L xs Gm j_Traffic_goBy 97 (oI 0 98) := sn_iconst l D AC b z L xs Gm  dX7_goBy_97 (by decide)
theorem so_Traffic_goBy_98 : Snd l D AC b z L xs Gm j_Traffic_goBy 98 (oIst 3 99) := sn_istore_n l D AC b z L xs Gm  dX7_goBy_98 rfl (by decide)
theorem so_Traffic_goBy_99 : Snd l D AC b z L xs Gm j_Traffic_goBy 99 (oIld 3 100) := sn_iload_n l D AC b z L xs Gm  dX7_goBy_99 rfl
theorem so_Traffic_goBy_100 : Snd l D AC b z L xs Gm j_Traffic_goBy 100 (oAld 0 101) := sn_aload_n l D AC b z L xs Gm  dX7_goBy_100 rfl
theorem so_Traffic_goBy_101 : Snd l D AC b z L xs Gm j_Traffic_goBy 101 (oGetR kc_Traffic 0 104) := sn_getR l D AC b z L xs Gm  dX7_goBy_101 rfl (by decide) rfl (by decide) kin_7 tw_255
theorem so_Traffic_goBy_104 : Snd l D AC b z L xs Gm j_Traffic_goBy 104 (oGetI kc_Land 2 107) := sn_getI l D AC b z L xs Gm  dX7_goBy_104 rfl (by decide) rfl (by decide) kin_2 tw_211
theorem so_Traffic_goBy_107 : Snd l D AC b z L xs Gm j_Traffic_goBy 107 (oIC (fun x y => decide (y ≤ x)) 144 110) := sn_icmp_ge l D AC b z L xs Gm  dX7_goBy_107 (by decide)
theorem so_Traffic_goBy_110 : Snd l D AC b z L xs Gm j_Traffic_goBy 110 (oIld 2 111) := sn_iload_n l D AC b z L xs Gm  dX7_goBy_110 rfl
theorem so_Traffic_goBy_111 : Snd l D AC b z L xs Gm j_Traffic_goBy 111 (oIld 3 112) := sn_iload_n l D AC b z L xs Gm  dX7_goBy_111 rfl
theorem so_Traffic_goBy_112 : Snd l D AC b z L xs Gm j_Traffic_goBy 112 (oCallS j_S_isIn 2 (mL j_S_isIn) 115) := sn_callSN l D AC b z L xs Gm  dX7_goBy_112 rfl (hs0 (fun _ => rfl) rfl) cal_Traffic_goBy_S_isIn rfl (List.mem_of_getElem? (i := 6) rfl) tw_475
theorem so_Traffic_goBy_115 : Snd l D AC b z L xs Gm j_Traffic_goBy 115 (oIf (fun x => decide (x = 0)) 138 118) := sn_if_eq l D AC b z L xs Gm  dX7_goBy_115 (by decide)
theorem so_Traffic_goBy_118 : Snd l D AC b z L xs Gm j_Traffic_goBy 118 (oAld 0 119) := sn_aload_n l D AC b z L xs Gm  dX7_goBy_118 rfl
theorem so_Traffic_goBy_119 : Snd l D AC b z L xs Gm j_Traffic_goBy 119 (oGetR kc_Traffic 0 122) := sn_getR l D AC b z L xs Gm  dX7_goBy_119 rfl (by decide) rfl (by decide) kin_7 tw_255
theorem so_Traffic_goBy_122 : Snd l D AC b z L xs Gm j_Traffic_goBy 122 (oGetR kc_Land 0 125) := sn_getR l D AC b z L xs Gm  dX7_goBy_122 rfl (by decide) rfl (by decide) kin_2 tw_207
theorem so_Traffic_goBy_125 : Snd l D AC b z L xs Gm j_Traffic_goBy 125 (oIld 3 126) := sn_iload_n l D AC b z L xs Gm  dX7_goBy_125 rfl
theorem so_Traffic_goBy_126 : Snd l D AC b z L xs Gm j_Traffic_goBy 126 (oAal 2 127) := sn_aaload l D AC b z L xs Gm  dX7_goBy_126 (by decide) rfl rfl (by decide)
theorem so_Traffic_goBy_127 : Snd l D AC b z L xs Gm j_Traffic_goBy 127 (oCallV kc_Node j_Node_isSending 0 (mL j_Node_isSending) 130) := sn_callV l D AC b z L xs Gm  dX7_goBy_127 rfl (hs0 (fun _ => rfl) rfl) cal_Traffic_goBy_Node_isSending rfl rfl (by decide) rfl tw_530 tw_531 tw_532
theorem so_Traffic_goBy_130 : Snd l D AC b z L xs Gm j_Traffic_goBy 130 (oIf (fun x => decide (¬ x = 0)) 138 133) := sn_if_ne l D AC b z L xs Gm  dX7_goBy_130 (by decide)
theorem so_Traffic_goBy_133 : Snd l D AC b z L xs Gm j_Traffic_goBy 133 (oAld 0 134) := sn_aload_n l D AC b z L xs Gm  dX7_goBy_133 rfl
theorem so_Traffic_goBy_134 : Snd l D AC b z L xs Gm j_Traffic_goBy 134 (oIld 3 135) := sn_iload_n l D AC b z L xs Gm  dX7_goBy_134 rfl
theorem so_Traffic_goBy_135 : Snd l D AC b z L xs Gm j_Traffic_goBy 135 (oCallV kc_Traffic j_Traffic_end 1 (mL j_Traffic_end) 138) := sn_callV l D AC b z L xs Gm  dX7_goBy_135 rfl (hs0 (fun _ => rfl) rfl) cal_Traffic_goBy_Traffic_end rfl rfl (by decide) rfl tw_692 tw_694 tw_13
theorem so_Traffic_goBy_138 : Snd l D AC b z L xs Gm j_Traffic_goBy 138 (oInc 3 1 141) := sn_iinc l D AC b z L xs Gm  dX7_goBy_138 (by decide) (by decide)
theorem so_Traffic_goBy_141 : Snd l D AC b z L xs Gm j_Traffic_goBy 141 (oGo 99) := sn_goto l D AC b z L xs Gm  dX7_goBy_141 (by decide)
theorem so_Traffic_goBy_144 : Snd l D AC b z L xs Gm j_Traffic_goBy 144 (oRet) := sn_ret l D AC b z L xs Gm  dX7_goBy_144 rfl
set_option maxRecDepth 100000 in
theorem so_Traffic_goBy : ∀ q ∈ tb_Traffic_goBy, Snd l D AC b z L xs Gm j_Traffic_goBy q.1 q.2 := by
  unfold tb_Traffic_goBy
  exact List.forall_mem_cons.mpr ⟨so_Traffic_goBy_0 l D AC b z L xs, List.forall_mem_cons.mpr ⟨so_Traffic_goBy_1 l D AC b z L xs, List.forall_mem_cons.mpr ⟨so_Traffic_goBy_2 l D AC b z L xs, List.forall_mem_cons.mpr ⟨so_Traffic_goBy_5 l D AC b z L xs, List.forall_mem_cons.mpr ⟨so_Traffic_goBy_6 l D AC b z L xs, List.forall_mem_cons.mpr ⟨so_Traffic_goBy_7 l D AC b z L xs, List.forall_mem_cons.mpr ⟨so_Traffic_goBy_10 l D AC b z L xs, List.forall_mem_cons.mpr ⟨so_Traffic_goBy_11 l D AC b z L xs, List.forall_mem_cons.mpr ⟨so_Traffic_goBy_14 l D AC b z L xs, List.forall_mem_cons.mpr ⟨so_Traffic_goBy_15 l D AC b z L xs, List.forall_mem_cons.mpr ⟨so_Traffic_goBy_16 l D AC b z L xs, List.forall_mem_cons.mpr ⟨so_Traffic_goBy_17 l D AC b z L xs, List.forall_mem_cons.mpr ⟨so_Traffic_goBy_18 l D AC b z L xs, List.forall_mem_cons.mpr ⟨so_Traffic_goBy_19 l D AC b z L xs, List.forall_mem_cons.mpr ⟨so_Traffic_goBy_22 l D AC b z L xs, List.forall_mem_cons.mpr ⟨so_Traffic_goBy_25 l D AC b z L xs, List.forall_mem_cons.mpr ⟨so_Traffic_goBy_28 l D AC b z L xs, List.forall_mem_cons.mpr ⟨so_Traffic_goBy_29 l D AC b z L xs, List.forall_mem_cons.mpr ⟨so_Traffic_goBy_30 l D AC b z L xs, List.forall_mem_cons.mpr ⟨so_Traffic_goBy_33 l D AC b z L xs, List.forall_mem_cons.mpr ⟨so_Traffic_goBy_36 l D AC b z L xs, List.forall_mem_cons.mpr ⟨so_Traffic_goBy_37 l D AC b z L xs, List.forall_mem_cons.mpr ⟨so_Traffic_goBy_40 l D AC b z L xs, List.forall_mem_cons.mpr ⟨so_Traffic_goBy_41 l D AC b z L xs, List.forall_mem_cons.mpr ⟨so_Traffic_goBy_42 l D AC b z L xs, List.forall_mem_cons.mpr ⟨so_Traffic_goBy_45 l D AC b z L xs, List.forall_mem_cons.mpr ⟨so_Traffic_goBy_48 l D AC b z L xs, List.forall_mem_cons.mpr ⟨so_Traffic_goBy_49 l D AC b z L xs, List.forall_mem_cons.mpr ⟨so_Traffic_goBy_50 l D AC b z L xs, List.forall_mem_cons.mpr ⟨so_Traffic_goBy_53 l D AC b z L xs, List.forall_mem_cons.mpr ⟨so_Traffic_goBy_56 l D AC b z L xs, List.forall_mem_cons.mpr ⟨so_Traffic_goBy_59 l D AC b z L xs, List.forall_mem_cons.mpr ⟨so_Traffic_goBy_60 l D AC b z L xs, List.forall_mem_cons.mpr ⟨so_Traffic_goBy_63 l D AC b z L xs, List.forall_mem_cons.mpr ⟨so_Traffic_goBy_64 l D AC b z L xs, List.forall_mem_cons.mpr ⟨so_Traffic_goBy_65 l D AC b z L xs, List.forall_mem_cons.mpr ⟨so_Traffic_goBy_66 l D AC b z L xs, List.forall_mem_cons.mpr ⟨so_Traffic_goBy_67 l D AC b z L xs, List.forall_mem_cons.mpr ⟨so_Traffic_goBy_68 l D AC b z L xs, List.forall_mem_cons.mpr ⟨so_Traffic_goBy_71 l D AC b z L xs, List.forall_mem_cons.mpr ⟨so_Traffic_goBy_74 l D AC b z L xs, List.forall_mem_cons.mpr ⟨so_Traffic_goBy_77 l D AC b z L xs, List.forall_mem_cons.mpr ⟨so_Traffic_goBy_78 l D AC b z L xs, List.forall_mem_cons.mpr ⟨so_Traffic_goBy_79 l D AC b z L xs, List.forall_mem_cons.mpr ⟨so_Traffic_goBy_82 l D AC b z L xs, List.forall_mem_cons.mpr ⟨so_Traffic_goBy_85 l D AC b z L xs, List.forall_mem_cons.mpr ⟨so_Traffic_goBy_86 l D AC b z L xs, List.forall_mem_cons.mpr ⟨so_Traffic_goBy_87 l D AC b z L xs, List.forall_mem_cons.mpr ⟨so_Traffic_goBy_88 l D AC b z L xs, List.forall_mem_cons.mpr ⟨so_Traffic_goBy_91 l D AC b z L xs, List.forall_mem_cons.mpr ⟨so_Traffic_goBy_94 l D AC b z L xs, List.forall_mem_cons.mpr ⟨so_Traffic_goBy_97 l D AC b z L xs, List.forall_mem_cons.mpr ⟨so_Traffic_goBy_98 l D AC b z L xs, List.forall_mem_cons.mpr ⟨so_Traffic_goBy_99 l D AC b z L xs, List.forall_mem_cons.mpr ⟨so_Traffic_goBy_100 l D AC b z L xs, List.forall_mem_cons.mpr ⟨so_Traffic_goBy_101 l D AC b z L xs, List.forall_mem_cons.mpr ⟨so_Traffic_goBy_104 l D AC b z L xs, List.forall_mem_cons.mpr ⟨so_Traffic_goBy_107 l D AC b z L xs, List.forall_mem_cons.mpr ⟨so_Traffic_goBy_110 l D AC b z L xs, List.forall_mem_cons.mpr ⟨so_Traffic_goBy_111 l D AC b z L xs, List.forall_mem_cons.mpr ⟨so_Traffic_goBy_112 l D AC b z L xs, List.forall_mem_cons.mpr ⟨so_Traffic_goBy_115 l D AC b z L xs, List.forall_mem_cons.mpr ⟨so_Traffic_goBy_118 l D AC b z L xs, List.forall_mem_cons.mpr ⟨so_Traffic_goBy_119 l D AC b z L xs, List.forall_mem_cons.mpr ⟨so_Traffic_goBy_122 l D AC b z L xs, List.forall_mem_cons.mpr ⟨so_Traffic_goBy_125 l D AC b z L xs, List.forall_mem_cons.mpr ⟨so_Traffic_goBy_126 l D AC b z L xs, List.forall_mem_cons.mpr ⟨so_Traffic_goBy_127 l D AC b z L xs, List.forall_mem_cons.mpr ⟨so_Traffic_goBy_130 l D AC b z L xs, List.forall_mem_cons.mpr ⟨so_Traffic_goBy_133 l D AC b z L xs, List.forall_mem_cons.mpr ⟨so_Traffic_goBy_134 l D AC b z L xs, List.forall_mem_cons.mpr ⟨so_Traffic_goBy_135 l D AC b z L xs, List.forall_mem_cons.mpr ⟨so_Traffic_goBy_138 l D AC b z L xs, List.forall_mem_cons.mpr ⟨so_Traffic_goBy_141 l D AC b z L xs, List.forall_mem_cons.mpr ⟨so_Traffic_goBy_144 l D AC b z L xs, fun _ h => absurd h List.not_mem_nil⟩⟩⟩⟩⟩⟩⟩⟩⟩⟩⟩⟩⟩⟩⟩⟩⟩⟩⟩⟩⟩⟩⟩⟩⟩⟩⟩⟩⟩⟩⟩⟩⟩⟩⟩⟩⟩⟩⟩⟩⟩⟩⟩⟩⟩⟩⟩⟩⟩⟩⟩⟩⟩⟩⟩⟩⟩⟩⟩⟩⟩⟩⟩⟩⟩⟩⟩⟩⟩⟩⟩⟩⟩⟩⟩
theorem so_Traffic_takeTurn_0 : Snd l D AC b z L xs Gm j_Traffic_takeTurn 0 (oAld 0 1) := sn_aload_n l D AC b z L xs Gm  dX7_takeTurn_0 rfl
theorem so_Traffic_takeTurn_1 : Snd l D AC b z L xs Gm j_Traffic_takeTurn 1 (oGetR kc_Traffic 0 4) := sn_getR l D AC b z L xs Gm  dX7_takeTurn_1 rfl (by decide) rfl (by decide) kin_7 tw_255
theorem so_Traffic_takeTurn_4 : Snd l D AC b z L xs Gm j_Traffic_takeTurn 4 (oGetR kc_Land 0 7) := sn_getR l D AC b z L xs Gm  dX7_takeTurn_4 rfl (by decide) rfl (by decide) kin_2 tw_207
theorem so_Traffic_takeTurn_7 : Snd l D AC b z L xs Gm j_Traffic_takeTurn 7 (oIld 1 8) := sn_iload_n l D AC b z L xs Gm  dX7_takeTurn_7 rfl
theorem so_Traffic_takeTurn_8 : Snd l D AC b z L xs Gm j_Traffic_takeTurn 8 (oAal 2 9) := sn_aaload l D AC b z L xs Gm  dX7_takeTurn_8 (by decide) rfl rfl (by decide)
theorem so_Traffic_takeTurn_9 : Snd l D AC b z L xs Gm j_Traffic_takeTurn 9 (oAst 2 10) := sn_astore_n l D AC b z L xs Gm  dX7_takeTurn_9 rfl (by decide)
theorem so_Traffic_takeTurn_10 : Snd l D AC b z L xs Gm j_Traffic_takeTurn 10 (oAld 2 11) := sn_aload_n l D AC b z L xs Gm  dX7_takeTurn_10 rfl
theorem so_Traffic_takeTurn_11 : Snd l D AC b z L xs Gm j_Traffic_takeTurn 11 (oGetR kc_Node 4 14) := sn_getR l D AC b z L xs Gm  dX7_takeTurn_11 rfl (by decide) rfl (by decide) kin_4 tw_140
theorem so_Traffic_takeTurn_14 : Snd l D AC b z L xs Gm j_Traffic_takeTurn 14 (oI 0 15) := sn_iconst l D AC b z L xs Gm  dX7_takeTurn_14 (by decide)
theorem so_Traffic_takeTurn_15 : Snd l D AC b z L xs Gm j_Traffic_takeTurn 15 (oCallV kc_FrameQueue j_FrameQueue_at 1 (mL j_FrameQueue_at) 18) := sn_callV l D AC b z L xs Gm  dX7_takeTurn_15 rfl (hs0 (fun _ => rfl) rfl) cal_Traffic_takeTurn_FrameQueue_at rfl rfl (by decide) rfl tw_662 tw_663 tw_664
theorem so_Traffic_takeTurn_18 : Snd l D AC b z L xs Gm j_Traffic_takeTurn 18 (oAst 3 19) := sn_astore_n l D AC b z L xs Gm  dX7_takeTurn_18 rfl (by decide)
theorem so_Traffic_takeTurn_19 : Snd l D AC b z L xs Gm j_Traffic_takeTurn 19 (oAld 3 20) := sn_aload_n l D AC b z L xs Gm  dX7_takeTurn_19 rfl
theorem so_Traffic_takeTurn_20 : Snd l D AC b z L xs Gm j_Traffic_takeTurn 20 (oIfNN 24 23) := sn_ifnonnull l D AC b z L xs Gm  dX7_takeTurn_20 (by decide)
theorem so_Traffic_takeTurn_23 : Snd l D AC b z L xs Gm j_Traffic_takeTurn 23 (oRet) := sn_ret l D AC b z L xs Gm  dX7_takeTurn_23 rfl
theorem so_Traffic_takeTurn_24 : Snd l D AC b z L xs Gm j_Traffic_takeTurn 24 (oAld 2 25) := sn_aload_n l D AC b z L xs Gm  dX7_takeTurn_24 rfl
theorem so_Traffic_takeTurn_25 : Snd l D AC b z L xs Gm j_Traffic_takeTurn 25 (oGetI kc_Node 5 28) := sn_getI l D AC b z L xs Gm  dX7_takeTurn_25 rfl (by decide) rfl (by decide) kin_4 tw_144
theorem so_Traffic_takeTurn_28 : Snd l D AC b z L xs Gm j_Traffic_takeTurn 28 (oIf (fun x => decide (x ≤ 0)) 42 31) := sn_if_le l D AC b z L xs Gm  dX7_takeTurn_28 (by decide)
theorem so_Traffic_takeTurn_31 : Snd l D AC b z L xs Gm j_Traffic_takeTurn 31 (oAld 2 32) := sn_aload_n l D AC b z L xs Gm  dX7_takeTurn_31 rfl
theorem so_Traffic_takeTurn_32 : Snd l D AC b z L xs Gm j_Traffic_takeTurn 32 (oDup 33) := sn_dup l D AC b z L xs Gm  dX7_takeTurn_32
theorem so_Traffic_takeTurn_33 : Snd l D AC b z L xs Gm j_Traffic_takeTurn 33 (oGetI kc_Node 5 36) := sn_getI l D AC b z L xs Gm  dX7_takeTurn_33 rfl (by decide) rfl (by decide) kin_4 tw_144
theorem so_Traffic_takeTurn_36 : Snd l D AC b z L xs Gm j_Traffic_takeTurn 36 (oI 1 37) := sn_iconst l D AC b z L xs Gm  dX7_takeTurn_36 (by decide)
theorem so_Traffic_takeTurn_37 : Snd l D AC b z L xs Gm j_Traffic_takeTurn 37 (oII (fun x y => x - y) 38) := sn_isub l D AC b z L xs Gm  dX7_takeTurn_37
theorem so_Traffic_takeTurn_38 : Snd l D AC b z L xs Gm j_Traffic_takeTurn 38 (oPutI kc_Node 5 41) := sn_putI l D AC b z L xs Gm  dX7_takeTurn_38 rfl (by decide) rfl (by decide) kin_4 tyX4_ok nmX4 tw_144 rfl rfl
theorem so_Traffic_takeTurn_41 : Snd l D AC b z L xs Gm j_Traffic_takeTurn 41 (oRet) := sn_ret l D AC b z L xs Gm  dX7_takeTurn_41 rfl
theorem so_Traffic_takeTurn_42 : Snd l D AC b z L xs Gm j_Traffic_takeTurn 42 (oAld 0 43) := sn_aload_n l D AC b z L xs Gm  dX7_takeTurn_42 rfl
theorem so_Traffic_takeTurn_43 : Snd l D AC b z L xs Gm j_Traffic_takeTurn 43 (oGetR kc_Traffic 1 46) := sn_getR l D AC b z L xs Gm  dX7_takeTurn_43 rfl (by decide) rfl (by decide) kin_7 tw_256
theorem so_Traffic_takeTurn_46 : Snd l D AC b z L xs Gm j_Traffic_takeTurn 46 (oIld 1 47) := sn_iload_n l D AC b z L xs Gm  dX7_takeTurn_46 rfl
theorem so_Traffic_takeTurn_47 : Snd l D AC b z L xs Gm j_Traffic_takeTurn 47 (oAld 3 48) := sn_aload_n l D AC b z L xs Gm  dX7_takeTurn_47 rfl
theorem so_Traffic_takeTurn_48 : Snd l D AC b z L xs Gm j_Traffic_takeTurn 48 (oGetI kc_Frame 1 51) := sn_getI l D AC b z L xs Gm  dX7_takeTurn_48 rfl (by decide) rfl (by decide) kin_0 tw_79
theorem so_Traffic_takeTurn_51 : Snd l D AC b z L xs Gm j_Traffic_takeTurn 51 (oCallV kc_Routes j_Routes_nextOf 2 (mL j_Routes_nextOf) 54) := sn_callV l D AC b z L xs Gm  dX7_takeTurn_51 rfl (hs0 (fun _ => rfl) rfl) cal_Traffic_takeTurn_Routes_nextOf rfl rfl (by decide) rfl tw_666 tw_557 tw_558
theorem so_Traffic_takeTurn_54 : Snd l D AC b z L xs Gm j_Traffic_takeTurn 54 (oIst 4 56) := sn_istore l D AC b z L xs Gm  dX7_takeTurn_54 (by decide)
theorem so_Traffic_takeTurn_56 : Snd l D AC b z L xs Gm j_Traffic_takeTurn 56 (oIld 4 58) := sn_iload l D AC b z L xs Gm  dX7_takeTurn_56
theorem so_Traffic_takeTurn_58 : Snd l D AC b z L xs Gm j_Traffic_takeTurn 58 (oI (-1) 59) := sn_iconst l D AC b z L xs Gm  dX7_takeTurn_58 (by decide)
theorem so_Traffic_takeTurn_59 : Snd l D AC b z L xs Gm j_Traffic_takeTurn 59 (oIC (fun x y => decide (¬ x = y)) 70 62) := sn_icmp_ne l D AC b z L xs Gm  dX7_takeTurn_59 (by decide)
theorem so_Traffic_takeTurn_62 : Snd l D AC b z L xs Gm j_Traffic_takeTurn 62 (oAld 0 63) := sn_aload_n l D AC b z L xs Gm  dX7_takeTurn_62 rfl
theorem so_Traffic_takeTurn_63 : Snd l D AC b z L xs Gm j_Traffic_takeTurn 63 (oAld 2 64) := sn_aload_n l D AC b z L xs Gm  dX7_takeTurn_63 rfl
theorem so_Traffic_takeTurn_64 : Snd l D AC b z L xs Gm j_Traffic_takeTurn 64 (oCallV kc_Traffic j_Traffic_dropFirst 1 (mL j_Traffic_dropFirst) 67) := sn_callV l D AC b z L xs Gm  dX7_takeTurn_64 rfl (hs0 (fun _ => rfl) rfl) cal_Traffic_takeTurn_Traffic_dropFirst rfl rfl (by decide) rfl tw_667 tw_669 tw_11
theorem so_Traffic_takeTurn_67 : Snd l D AC b z L xs Gm j_Traffic_takeTurn 67 (oGo 80) := sn_goto l D AC b z L xs Gm  dX7_takeTurn_67 (by decide)
theorem so_Traffic_takeTurn_70 : Snd l D AC b z L xs Gm j_Traffic_takeTurn 70 (oAld 2 71) := sn_aload_n l D AC b z L xs Gm  dX7_takeTurn_70 rfl
theorem so_Traffic_takeTurn_71 : Snd l D AC b z L xs Gm j_Traffic_takeTurn 71 (oAld 3 72) := sn_aload_n l D AC b z L xs Gm  dX7_takeTurn_71 rfl
theorem so_Traffic_takeTurn_72 : Snd l D AC b z L xs Gm j_Traffic_takeTurn 72 (oGetI kc_Frame 2 75) := sn_getI l D AC b z L xs Gm  dX7_takeTurn_72 rfl (by decide) rfl (by decide) kin_0 tw_83
theorem so_Traffic_takeTurn_75 : Snd l D AC b z L xs Gm j_Traffic_takeTurn 75 (oIld 4 77) := sn_iload l D AC b z L xs Gm  dX7_takeTurn_75
theorem so_Traffic_takeTurn_77 : Snd l D AC b z L xs Gm j_Traffic_takeTurn 77 (oCallV kc_Node j_Node_begin 2 (mL j_Node_begin) 80) := sn_callV l D AC b z L xs Gm  dX7_takeTurn_77 rfl (hs0 (fun _ => rfl) rfl) cal_Traffic_takeTurn_Node_begin rfl rfl (by decide) rfl tw_679 tw_680 tw_681
theorem so_Traffic_takeTurn_80 : Snd l D AC b z L xs Gm j_Traffic_takeTurn 80 (oRet) := sn_ret l D AC b z L xs Gm  dX7_takeTurn_80 rfl
set_option maxRecDepth 100000 in
theorem so_Traffic_takeTurn : ∀ q ∈ tb_Traffic_takeTurn, Snd l D AC b z L xs Gm j_Traffic_takeTurn q.1 q.2 := by
  unfold tb_Traffic_takeTurn
  exact List.forall_mem_cons.mpr ⟨so_Traffic_takeTurn_0 l D AC b z L xs, List.forall_mem_cons.mpr ⟨so_Traffic_takeTurn_1 l D AC b z L xs, List.forall_mem_cons.mpr ⟨so_Traffic_takeTurn_4 l D AC b z L xs, List.forall_mem_cons.mpr ⟨so_Traffic_takeTurn_7 l D AC b z L xs, List.forall_mem_cons.mpr ⟨so_Traffic_takeTurn_8 l D AC b z L xs, List.forall_mem_cons.mpr ⟨so_Traffic_takeTurn_9 l D AC b z L xs, List.forall_mem_cons.mpr ⟨so_Traffic_takeTurn_10 l D AC b z L xs, List.forall_mem_cons.mpr ⟨so_Traffic_takeTurn_11 l D AC b z L xs, List.forall_mem_cons.mpr ⟨so_Traffic_takeTurn_14 l D AC b z L xs, List.forall_mem_cons.mpr ⟨so_Traffic_takeTurn_15 l D AC b z L xs, List.forall_mem_cons.mpr ⟨so_Traffic_takeTurn_18 l D AC b z L xs, List.forall_mem_cons.mpr ⟨so_Traffic_takeTurn_19 l D AC b z L xs, List.forall_mem_cons.mpr ⟨so_Traffic_takeTurn_20 l D AC b z L xs, List.forall_mem_cons.mpr ⟨so_Traffic_takeTurn_23 l D AC b z L xs, List.forall_mem_cons.mpr ⟨so_Traffic_takeTurn_24 l D AC b z L xs, List.forall_mem_cons.mpr ⟨so_Traffic_takeTurn_25 l D AC b z L xs, List.forall_mem_cons.mpr ⟨so_Traffic_takeTurn_28 l D AC b z L xs, List.forall_mem_cons.mpr ⟨so_Traffic_takeTurn_31 l D AC b z L xs, List.forall_mem_cons.mpr ⟨so_Traffic_takeTurn_32 l D AC b z L xs, List.forall_mem_cons.mpr ⟨so_Traffic_takeTurn_33 l D AC b z L xs, List.forall_mem_cons.mpr ⟨so_Traffic_takeTurn_36 l D AC b z L xs, List.forall_mem_cons.mpr ⟨so_Traffic_takeTurn_37 l D AC b z L xs, List.forall_mem_cons.mpr ⟨so_Traffic_takeTurn_38 l D AC b z L xs, List.forall_mem_cons.mpr ⟨so_Traffic_takeTurn_41 l D AC b z L xs, List.forall_mem_cons.mpr ⟨so_Traffic_takeTurn_42 l D AC b z L xs, List.forall_mem_cons.mpr ⟨so_Traffic_takeTurn_43 l D AC b z L xs, List.forall_mem_cons.mpr ⟨so_Traffic_takeTurn_46 l D AC b z L xs, List.forall_mem_cons.mpr ⟨so_Traffic_takeTurn_47 l D AC b z L xs, List.forall_mem_cons.mpr ⟨so_Traffic_takeTurn_48 l D AC b z L xs, List.forall_mem_cons.mpr ⟨so_Traffic_takeTurn_51 l D AC b z L xs, List.forall_mem_cons.mpr ⟨so_Traffic_takeTurn_54 l D AC b z L xs, List.forall_mem_cons.mpr ⟨so_Traffic_takeTurn_56 l D AC b z L xs, List.forall_mem_cons.mpr ⟨so_Traffic_takeTurn_58 l D AC b z L xs, List.forall_mem_cons.mpr ⟨so_Traffic_takeTurn_59 l D AC b z L xs, List.forall_mem_cons.mpr ⟨so_Traffic_takeTurn_62 l D AC b z L xs, List.forall_mem_cons.mpr ⟨so_Traffic_takeTurn_63 l D AC b z L xs, List.forall_mem_cons.mpr ⟨so_Traffic_takeTurn_64 l D AC b z L xs, List.forall_mem_cons.mpr ⟨so_Traffic_takeTurn_67 l D AC b z L xs, List.forall_mem_cons.mpr ⟨so_Traffic_takeTurn_70 l D AC b z L xs, List.forall_mem_cons.mpr ⟨so_Traffic_takeTurn_71 l D AC b z L xs, List.forall_mem_cons.mpr ⟨so_Traffic_takeTurn_72 l D AC b z L xs, List.forall_mem_cons.mpr ⟨so_Traffic_takeTurn_75 l D AC b z L xs, List.forall_mem_cons.mpr ⟨so_Traffic_takeTurn_77 l D AC b z L xs, List.forall_mem_cons.mpr ⟨so_Traffic_takeTurn_80 l D AC b z L xs, fun _ h => absurd h List.not_mem_nil⟩⟩⟩⟩⟩⟩⟩⟩⟩⟩⟩⟩⟩⟩⟩⟩⟩⟩⟩⟩⟩⟩⟩⟩⟩⟩⟩⟩⟩⟩⟩⟩⟩⟩⟩⟩⟩⟩⟩⟩⟩⟩⟩⟩
theorem so_Traffic_goOn_0 : Snd l D AC b z L xs Gm j_Traffic_goOn 0 (oAld 0 1) := sn_aload_n l D AC b z L xs Gm  dX7_goOn_0 rfl
theorem so_Traffic_goOn_1 : Snd l D AC b z L xs Gm j_Traffic_goOn 1 (oGetR kc_Traffic 0 4) := sn_getR l D AC b z L xs Gm  dX7_goOn_1 rfl (by decide) rfl (by decide) kin_7 tw_255
theorem so_Traffic_goOn_4 : Snd l D AC b z L xs Gm j_Traffic_goOn 4 (oGetR kc_Land 0 7) := sn_getR l D AC b z L xs Gm  dX7_goOn_4 rfl (by decide) rfl (by decide) kin_2 tw_207
theorem so_Traffic_goOn_7 : Snd l D AC b z L xs Gm j_Traffic_goOn 7 (oIld 1 8) := sn_iload_n l D AC b z L xs Gm  dX7_goOn_7 rfl
theorem so_Traffic_goOn_8 : Snd l D AC b z L xs Gm j_Traffic_goOn 8 (oAal 2 9) := sn_aaload l D AC b z L xs Gm  dX7_goOn_8 (by decide) rfl rfl (by decide)
theorem so_Traffic_goOn_9 : Snd l D AC b z L xs Gm j_Traffic_goOn 9 (oAst 3 10) := sn_astore_n l D AC b z L xs Gm  dX7_goOn_9 rfl (by decide)
theorem so_Traffic_goOn_10 : Snd l D AC b z L xs Gm j_Traffic_goOn 10 (oAld 3 11) := sn_aload_n l D AC b z L xs Gm  dX7_goOn_10 rfl
theorem so_Traffic_goOn_11 : Snd l D AC b z L xs Gm j_Traffic_goOn 11 (oDup 12) := sn_dup l D AC b z L xs Gm  dX7_goOn_11
theorem so_Traffic_goOn_12 : Snd l D AC b z L xs Gm j_Traffic_goOn 12 (oGetI kc_Node 10 15) := sn_getI l D AC b z L xs Gm  dX7_goOn_12 rfl (by decide) rfl (by decide) kin_4 tw_158
theorem so_Traffic_goOn_15 : Snd l D AC b z L xs Gm j_Traffic_goOn 15 (oI 1 16) := sn_iconst l D AC b z L xs Gm  dX7_goOn_15 (by decide)
theorem so_Traffic_goOn_16 : Snd l D AC b z L xs Gm j_Traffic_goOn 16 (oII (fun x y => x + y) 17) := sn_iadd l D AC b z L xs Gm  dX7_goOn_16
theorem so_Traffic_goOn_17 : Snd l D AC b z L xs Gm j_Traffic_goOn 17 (oPutI kc_Node 10 20) := sn_putI l D AC b z L xs Gm  dX7_goOn_17 rfl (by decide) rfl (by decide) kin_4 tyX4_ok nmX4 tw_158 rfl rfl
theorem so_Traffic_goOn_20 : Snd l D AC b z L xs Gm j_Traffic_goOn 20 (oAld 3 21) := sn_aload_n l D AC b z L xs Gm  dX7_goOn_20 rfl
theorem so_Traffic_goOn_21 : Snd l D AC b z L xs Gm j_Traffic_goOn 21 (oDup 22) := sn_dup l D AC b z L xs Gm  dX7_goOn_21
theorem so_Traffic_goOn_22 : Snd l D AC b z L xs Gm j_Traffic_goOn 22 (oGetI kc_Node 7 25) := sn_getI l D AC b z L xs Gm  dX7_goOn_22 rfl (by decide) rfl (by decide) kin_4 tw_150
theorem so_Traffic_goOn_25 : Snd l D AC b z L xs Gm j_Traffic_goOn 25 (oI 1 26) := sn_iconst l D AC b z L xs Gm  dX7_goOn_25 (by decide)
theorem so_Traffic_goOn_26 : Snd l D AC b z L xs Gm j_Traffic_goOn 26 (oII (fun x y => x - y) 27) := sn_isub l D AC b z L xs Gm  dX7_goOn_26
theorem so_Traffic_goOn_27 : Snd l D AC b z L xs Gm j_Traffic_goOn 27 (oPutI kc_Node 7 30) := sn_putI l D AC b z L xs Gm  dX7_goOn_27 rfl (by decide) rfl (by decide) kin_4 tyX4_ok nmX4 tw_150 rfl rfl
theorem so_Traffic_goOn_30 : Snd l D AC b z L xs Gm j_Traffic_goOn 30 (oAld 0 31) := sn_aload_n l D AC b z L xs Gm  dX7_goOn_30 rfl
theorem so_Traffic_goOn_31 : Snd l D AC b z L xs Gm j_Traffic_goOn 31 (oGetR kc_Traffic 0 34) := sn_getR l D AC b z L xs Gm  dX7_goOn_31 rfl (by decide) rfl (by decide) kin_7 tw_255
theorem so_Traffic_goOn_34 : Snd l D AC b z L xs Gm j_Traffic_goOn 34 (oAld 3 35) := sn_aload_n l D AC b z L xs Gm  dX7_goOn_34 rfl
theorem so_Traffic_goOn_35 : Snd l D AC b z L xs Gm j_Traffic_goOn 35 (oGetI kc_Node 8 38) := sn_getI l D AC b z L xs Gm  dX7_goOn_35 rfl (by decide) rfl (by decide) kin_4 tw_153
theorem so_Traffic_goOn_38 : Snd l D AC b z L xs Gm j_Traffic_goOn 38 (oCallV kc_Land j_Land_isNode 1 (mL j_Land_isNode) 41) := sn_callV l D AC b z L xs Gm  dX7_goOn_38 rfl (hs0 (fun _ => rfl) rfl) cal_Traffic_goOn_Land_isNode rfl rfl (by decide) rfl tw_687 tw_471 tw_472
theorem so_Traffic_goOn_41 : Snd l D AC b z L xs Gm j_Traffic_goOn 41 (oIf (fun x => decide (x = 0)) 60 44) := sn_if_eq l D AC b z L xs Gm  dX7_goOn_41 (by decide)
theorem so_Traffic_goOn_44 : Snd l D AC b z L xs Gm j_Traffic_goOn 44 (oAld 0 45) := sn_aload_n l D AC b z L xs Gm  dX7_goOn_44 rfl
theorem so_Traffic_goOn_45 : Snd l D AC b z L xs Gm j_Traffic_goOn 45 (oGetR kc_Traffic 0 48) := sn_getR l D AC b z L xs Gm  dX7_goOn_45 rfl (by decide) rfl (by decide) kin_7 tw_255
theorem so_Traffic_goOn_48 : Snd l D AC b z L xs Gm j_Traffic_goOn 48 (oAld 3 49) := sn_aload_n l D AC b z L xs Gm  dX7_goOn_48 rfl
theorem so_Traffic_goOn_49 : Snd l D AC b z L xs Gm j_Traffic_goOn 49 (oGetI kc_Node 8 52) := sn_getI l D AC b z L xs Gm  dX7_goOn_49 rfl (by decide) rfl (by decide) kin_4 tw_153
theorem so_Traffic_goOn_52 : Snd l D AC b z L xs Gm j_Traffic_goOn 52 (oIld 1 53) := sn_iload_n l D AC b z L xs Gm  dX7_goOn_52 rfl
theorem so_Traffic_goOn_53 : Snd l D AC b z L xs Gm j_Traffic_goOn 53 (oIld 2 54) := sn_iload_n l D AC b z L xs Gm  dX7_goOn_53 rfl
theorem so_Traffic_goOn_54 : Snd l D AC b z L xs Gm j_Traffic_goOn 54 (oCallV kc_Land j_Land_gets 3 (mL j_Land_gets) 57) := sn_callV l D AC b z L xs Gm  dX7_goOn_54 rfl (hs0 (fun _ => rfl) rfl) cal_Traffic_goOn_Land_gets rfl rfl (by decide) rfl tw_688 tw_689 tw_690
theorem so_Traffic_goOn_57 : Snd l D AC b z L xs Gm j_Traffic_goOn 57 (oIf (fun x => decide (¬ x = 0)) 65 60) := sn_if_ne l D AC b z L xs Gm  dX7_goOn_57 (by decide)
theorem so_Traffic_goOn_60 : Snd l D AC b z L xs Gm j_Traffic_goOn 60 (oAld 3 61) := sn_aload_n l D AC b z L xs Gm  dX7_goOn_60 rfl
theorem so_Traffic_goOn_61 : Snd l D AC b z L xs Gm j_Traffic_goOn 61 (oI 0 62) := sn_iconst l D AC b z L xs Gm  dX7_goOn_61 (by decide)
theorem so_Traffic_goOn_62 : Snd l D AC b z L xs Gm j_Traffic_goOn 62 (oPutZ kc_Node 9 65) := sn_putZ l D AC b z L xs Gm  dX7_goOn_62 rfl (by decide) rfl (by decide) kin_4 tyX4_ok nmX4 tw_156 rfl rfl
theorem so_Traffic_goOn_65 : Snd l D AC b z L xs Gm j_Traffic_goOn 65 (oRet) := sn_ret l D AC b z L xs Gm  dX7_goOn_65 rfl
set_option maxRecDepth 100000 in
theorem so_Traffic_goOn : ∀ q ∈ tb_Traffic_goOn, Snd l D AC b z L xs Gm j_Traffic_goOn q.1 q.2 := by
  unfold tb_Traffic_goOn
  exact List.forall_mem_cons.mpr ⟨so_Traffic_goOn_0 l D AC b z L xs, List.forall_mem_cons.mpr ⟨so_Traffic_goOn_1 l D AC b z L xs, List.forall_mem_cons.mpr ⟨so_Traffic_goOn_4 l D AC b z L xs, List.forall_mem_cons.mpr ⟨so_Traffic_goOn_7 l D AC b z L xs, List.forall_mem_cons.mpr ⟨so_Traffic_goOn_8 l D AC b z L xs, List.forall_mem_cons.mpr ⟨so_Traffic_goOn_9 l D AC b z L xs, List.forall_mem_cons.mpr ⟨so_Traffic_goOn_10 l D AC b z L xs, List.forall_mem_cons.mpr ⟨so_Traffic_goOn_11 l D AC b z L xs, List.forall_mem_cons.mpr ⟨so_Traffic_goOn_12 l D AC b z L xs, List.forall_mem_cons.mpr ⟨so_Traffic_goOn_15 l D AC b z L xs, List.forall_mem_cons.mpr ⟨so_Traffic_goOn_16 l D AC b z L xs, List.forall_mem_cons.mpr ⟨so_Traffic_goOn_17 l D AC b z L xs, List.forall_mem_cons.mpr ⟨so_Traffic_goOn_20 l D AC b z L xs, List.forall_mem_cons.mpr ⟨so_Traffic_goOn_21 l D AC b z L xs, List.forall_mem_cons.mpr ⟨so_Traffic_goOn_22 l D AC b z L xs, List.forall_mem_cons.mpr ⟨so_Traffic_goOn_25 l D AC b z L xs, List.forall_mem_cons.mpr ⟨so_Traffic_goOn_26 l D AC b z L xs, List.forall_mem_cons.mpr ⟨so_Traffic_goOn_27 l D AC b z L xs, List.forall_mem_cons.mpr ⟨so_Traffic_goOn_30 l D AC b z L xs, List.forall_mem_cons.mpr ⟨so_Traffic_goOn_31 l D AC b z L xs, List.forall_mem_cons.mpr ⟨so_Traffic_goOn_34 l D AC b z L xs, List.forall_mem_cons.mpr ⟨so_Traffic_goOn_35 l D AC b z L xs, List.forall_mem_cons.mpr ⟨so_Traffic_goOn_38 l D AC b z L xs, List.forall_mem_cons.mpr ⟨so_Traffic_goOn_41 l D AC b z L xs, List.forall_mem_cons.mpr ⟨so_Traffic_goOn_44 l D AC b z L xs, List.forall_mem_cons.mpr ⟨so_Traffic_goOn_45 l D AC b z L xs, List.forall_mem_cons.mpr ⟨so_Traffic_goOn_48 l D AC b z L xs, List.forall_mem_cons.mpr ⟨so_Traffic_goOn_49 l D AC b z L xs, List.forall_mem_cons.mpr ⟨so_Traffic_goOn_52 l D AC b z L xs, List.forall_mem_cons.mpr ⟨so_Traffic_goOn_53 l D AC b z L xs, List.forall_mem_cons.mpr ⟨so_Traffic_goOn_54 l D AC b z L xs, List.forall_mem_cons.mpr ⟨so_Traffic_goOn_57 l D AC b z L xs, List.forall_mem_cons.mpr ⟨so_Traffic_goOn_60 l D AC b z L xs, List.forall_mem_cons.mpr ⟨so_Traffic_goOn_61 l D AC b z L xs, List.forall_mem_cons.mpr ⟨so_Traffic_goOn_62 l D AC b z L xs, List.forall_mem_cons.mpr ⟨so_Traffic_goOn_65 l D AC b z L xs, fun _ h => absurd h List.not_mem_nil⟩⟩⟩⟩⟩⟩⟩⟩⟩⟩⟩⟩⟩⟩⟩⟩⟩⟩⟩⟩⟩⟩⟩⟩⟩⟩⟩⟩⟩⟩⟩⟩⟩⟩⟩⟩
theorem so_Traffic_end_0 : Snd l D AC b z L xs Gm j_Traffic_end 0 (oAld 0 1) := sn_aload_n l D AC b z L xs Gm  dX7_end_0 rfl
theorem so_Traffic_end_1 : Snd l D AC b z L xs Gm j_Traffic_end 1 (oGetR kc_Traffic 0 4) := sn_getR l D AC b z L xs Gm  dX7_end_1 rfl (by decide) rfl (by decide) kin_7 tw_255
theorem so_Traffic_end_4 : Snd l D AC b z L xs Gm j_Traffic_end 4 (oGetR kc_Land 0 7) := sn_getR l D AC b z L xs Gm  dX7_end_4 rfl (by decide) rfl (by decide) kin_2 tw_207
theorem so_Traffic_end_7 : Snd l D AC b z L xs Gm j_Traffic_end 7 (oIld 1 8) := sn_iload_n l D AC b z L xs Gm  dX7_end_7 rfl
theorem so_Traffic_end_8 : Snd l D AC b z L xs Gm j_Traffic_end 8 (oAal 2 9) := sn_aaload l D AC b z L xs Gm  dX7_end_8 (by decide) rfl rfl (by decide)
theorem so_Traffic_end_9 : Snd l D AC b z L xs Gm j_Traffic_end 9 (oAst 2 10) := sn_astore_n l D AC b z L xs Gm  dX7_end_9 rfl (by decide)
theorem so_Traffic_end_10 : Snd l D AC b z L xs Gm j_Traffic_end 10 (oAld 2 11) := sn_aload_n l D AC b z L xs Gm  dX7_end_10 rfl
theorem so_Traffic_end_11 : Snd l D AC b z L xs Gm j_Traffic_end 11 (oGetI kc_Node 8 14) := sn_getI l D AC b z L xs Gm  dX7_end_11 rfl (by decide) rfl (by decide) kin_4 tw_153
theorem so_Traffic_end_14 : Snd l D AC b z L xs Gm j_Traffic_end 14 (oIst 3 15) := sn_istore_n l D AC b z L xs Gm  dX7_end_14 rfl (by decide)
theorem so_Traffic_end_15 : Snd l D AC b z L xs Gm j_Traffic_end 15 (oAld 2 16) := sn_aload_n l D AC b z L xs Gm  dX7_end_15 rfl
theorem so_Traffic_end_16 : Snd l D AC b z L xs Gm j_Traffic_end 16 (oI (-1) 17) := sn_iconst l D AC b z L xs Gm  dX7_end_16 (by decide)
theorem so_Traffic_end_17 : Snd l D AC b z L xs Gm j_Traffic_end 17 (oPutI kc_Node 8 20) := sn_putI l D AC b z L xs Gm  dX7_end_17 rfl (by decide) rfl (by decide) kin_4 tyX4_ok nmX4 tw_153 rfl rfl
theorem so_Traffic_end_20 : Snd l D AC b z L xs Gm j_Traffic_end 20 (oAld 2 21) := sn_aload_n l D AC b z L xs Gm  dX7_end_20 rfl
theorem so_Traffic_end_21 : Snd l D AC b z L xs Gm j_Traffic_end 21 (oGetR kc_Node 4 24) := sn_getR l D AC b z L xs Gm  dX7_end_21 rfl (by decide) rfl (by decide) kin_4 tw_140
theorem so_Traffic_end_24 : Snd l D AC b z L xs Gm j_Traffic_end 24 (oI 0 25) := sn_iconst l D AC b z L xs Gm  dX7_end_24 (by decide)
theorem so_Traffic_end_25 : Snd l D AC b z L xs Gm j_Traffic_end 25 (oCallV kc_FrameQueue j_FrameQueue_at 1 (mL j_FrameQueue_at) 28) := sn_callV l D AC b z L xs Gm  dX7_end_25 rfl (hs0 (fun _ => rfl) rfl) cal_Traffic_end_FrameQueue_at rfl rfl (by decide) rfl tw_662 tw_663 tw_664
theorem so_Traffic_end_28 : Snd l D AC b z L xs Gm j_Traffic_end 28 (oAst 4 30) := sn_astore l D AC b z L xs Gm  dX7_end_28 (by decide)
theorem so_Traffic_end_30 : Snd l D AC b z L xs Gm j_Traffic_end 30 (oAld 4 32) := sn_aload l D AC b z L xs Gm  dX7_end_30
theorem so_Traffic_end_32 : Snd l D AC b z L xs Gm j_Traffic_end 32 (oIfN 46 35) := sn_ifnull l D AC b z L xs Gm  dX7_end_32 (by decide)
theorem so_Traffic_end_35 : Snd l D AC b z L xs Gm j_Traffic_end 35 (oAld 0 36) := sn_aload_n l D AC b z L xs Gm  dX7_end_35 rfl
theorem so_Traffic_end_36 : Snd l D AC b z L xs Gm j_Traffic_end 36 (oGetR kc_Traffic 0 39) := sn_getR l D AC b z L xs Gm  dX7_end_36 rfl (by decide) rfl (by decide) kin_7 tw_255
theorem so_Traffic_end_39 : Snd l D AC b z L xs Gm j_Traffic_end 39 (oIld 3 40) := sn_iload_n l D AC b z L xs Gm  dX7_end_39 rfl
theorem so_Traffic_end_40 : Snd l D AC b z L xs Gm j_Traffic_end 40 (oCallV kc_Land j_Land_isNode 1 (mL j_Land_isNode) 43) := sn_callV l D AC b z L xs Gm  dX7_end_40 rfl (hs0 (fun _ => rfl) rfl) cal_Traffic_end_Land_isNode rfl rfl (by decide) rfl tw_687 tw_471 tw_472
theorem so_Traffic_end_43 : Snd l D AC b z L xs Gm j_Traffic_end 43 (oIf (fun x => decide (¬ x = 0)) 47 46) := sn_if_ne l D AC b z L xs Gm  dX7_end_43 (by decide)
theorem so_Traffic_end_46 : Snd l D AC b z L xs Gm j_Traffic_end 46 (oRet) := sn_ret l D AC b z L xs Gm  dX7_end_46 rfl
theorem so_Traffic_end_47 : Snd l D AC b z L xs Gm j_Traffic_end 47 (oAld 2 48) := sn_aload_n l D AC b z L xs Gm  dX7_end_47 rfl
theorem so_Traffic_end_48 : Snd l D AC b z L xs Gm j_Traffic_end 48 (oGetI kc_Node 9 51) := sn_getI l D AC b z L xs Gm  dX7_end_48 rfl (by decide) rfl (by decide) kin_4 tw_156
theorem so_Traffic_end_51 : Snd l D AC b z L xs Gm j_Traffic_end 51 (oIf (fun x => decide (x = 0)) 61 54) := sn_if_eq l D AC b z L xs Gm  dX7_end_51 (by decide)
theorem so_Traffic_end_54 : Snd l D AC b z L xs Gm j_Traffic_end 54 (oAld 0 55) := sn_aload_n l D AC b z L xs Gm  dX7_end_54 rfl
theorem so_Traffic_end_55 : Snd l D AC b z L xs Gm j_Traffic_end 55 (oIld 3 56) := sn_iload_n l D AC b z L xs Gm  dX7_end_55 rfl
theorem so_Traffic_end_56 : Snd l D AC b z L xs Gm j_Traffic_end 56 (oAld 4 58) := sn_aload l D AC b z L xs Gm  dX7_end_56
theorem so_Traffic_end_58 : Snd l D AC b z L xs Gm j_Traffic_end 58 (oCallV kc_Traffic j_Traffic_receive 2 (mL j_Traffic_receive) 61) := sn_callV l D AC b z L xs Gm  dX7_end_58 rfl (hs0 (fun _ => rfl) rfl) cal_Traffic_end_Traffic_receive rfl rfl (by decide) rfl tw_696 tw_698 tw_14
theorem so_Traffic_end_61 : Snd l D AC b z L xs Gm j_Traffic_end 61 (oAld 2 62) := sn_aload_n l D AC b z L xs Gm  dX7_end_61 rfl
theorem so_Traffic_end_62 : Snd l D AC b z L xs Gm j_Traffic_end 62 (oGetI kc_Node 9 65) := sn_getI l D AC b z L xs Gm  dX7_end_62 rfl (by decide) rfl (by decide) kin_4 tw_156
theorem so_Traffic_end_65 : Snd l D AC b z L xs Gm j_Traffic_end 65 (oIf (fun x => decide (x = 0)) 87 68) := sn_if_eq l D AC b z L xs Gm  dX7_end_65 (by decide)
theorem so_Traffic_end_68 : Snd l D AC b z L xs Gm j_Traffic_end 68 (oAld 0 69) := sn_aload_n l D AC b z L xs Gm  dX7_end_68 rfl
theorem so_Traffic_end_69 : Snd l D AC b z L xs Gm j_Traffic_end 69 (oGetR kc_Traffic 0 72) := sn_getR l D AC b z L xs Gm  dX7_end_69 rfl (by decide) rfl (by decide) kin_7 tw_255
theorem so_Traffic_end_72 : Snd l D AC b z L xs Gm j_Traffic_end 72 (oIld 1 73) := sn_iload_n l D AC b z L xs Gm  dX7_end_72 rfl
theorem so_Traffic_end_73 : Snd l D AC b z L xs Gm j_Traffic_end 73 (oIld 3 74) := sn_iload_n l D AC b z L xs Gm  dX7_end_73 rfl
theorem so_Traffic_end_74 : Snd l D AC b z L xs Gm j_Traffic_end 74 (oCallV kc_Land j_Land_canHear 2 (mL j_Land_canHear) 77) := sn_callV l D AC b z L xs Gm  dX7_end_74 rfl (hs0 (fun _ => rfl) rfl) cal_Traffic_end_Land_canHear rfl rfl (by decide) rfl tw_716 tw_467 tw_468
theorem so_Traffic_end_77 : Snd l D AC b z L xs Gm j_Traffic_end 77 (oIf (fun x => decide (x = 0)) 87 80) := sn_if_eq l D AC b z L xs Gm  dX7_end_77 (by decide)
theorem so_Traffic_end_80 : Snd l D AC b z L xs Gm j_Traffic_end 80 (oAld 2 81) := sn_aload_n l D AC b z L xs Gm  dX7_end_80 rfl
theorem so_Traffic_end_81 : Snd l D AC b z L xs Gm j_Traffic_end 81 (oCallV kc_Node j_Node_finishFirst 0 (mL j_Node_finishFirst) 84) := sn_callV l D AC b z L xs Gm  dX7_end_81 rfl (hs0 (fun _ => rfl) rfl) cal_Traffic_end_Node_finishFirst rfl rfl (by decide) rfl tw_671 tw_672 tw_673
theorem so_Traffic_end_84 : Snd l D AC b z L xs Gm j_Traffic_end 84 (oGo 92) := sn_goto l D AC b z L xs Gm  dX7_end_84 (by decide)
theorem so_Traffic_end_87 : Snd l D AC b z L xs Gm j_Traffic_end 87 (oAld 0 88) := sn_aload_n l D AC b z L xs Gm  dX7_end_87 rfl
theorem so_Traffic_end_88 : Snd l D AC b z L xs Gm j_Traffic_end 88 (oAld 2 89) := sn_aload_n l D AC b z L xs Gm  dX7_end_88 rfl
theorem so_Traffic_end_89 : Snd l D AC b z L xs Gm j_Traffic_end 89 (oCallV kc_Traffic j_Traffic_tryAgain 1 (mL j_Traffic_tryAgain) 92) := sn_callV l D AC b z L xs Gm  dX7_end_89 rfl (hs0 (fun _ => rfl) rfl) cal_Traffic_end_Traffic_tryAgain rfl rfl (by decide) rfl tw_717 tw_719 tw_16
theorem so_Traffic_end_92 : Snd l D AC b z L xs Gm j_Traffic_end 92 (oRet) := sn_ret l D AC b z L xs Gm  dX7_end_92 rfl
set_option maxRecDepth 100000 in
theorem so_Traffic_end : ∀ q ∈ tb_Traffic_end, Snd l D AC b z L xs Gm j_Traffic_end q.1 q.2 := by
  unfold tb_Traffic_end
  exact List.forall_mem_cons.mpr ⟨so_Traffic_end_0 l D AC b z L xs, List.forall_mem_cons.mpr ⟨so_Traffic_end_1 l D AC b z L xs, List.forall_mem_cons.mpr ⟨so_Traffic_end_4 l D AC b z L xs, List.forall_mem_cons.mpr ⟨so_Traffic_end_7 l D AC b z L xs, List.forall_mem_cons.mpr ⟨so_Traffic_end_8 l D AC b z L xs, List.forall_mem_cons.mpr ⟨so_Traffic_end_9 l D AC b z L xs, List.forall_mem_cons.mpr ⟨so_Traffic_end_10 l D AC b z L xs, List.forall_mem_cons.mpr ⟨so_Traffic_end_11 l D AC b z L xs, List.forall_mem_cons.mpr ⟨so_Traffic_end_14 l D AC b z L xs, List.forall_mem_cons.mpr ⟨so_Traffic_end_15 l D AC b z L xs, List.forall_mem_cons.mpr ⟨so_Traffic_end_16 l D AC b z L xs, List.forall_mem_cons.mpr ⟨so_Traffic_end_17 l D AC b z L xs, List.forall_mem_cons.mpr ⟨so_Traffic_end_20 l D AC b z L xs, List.forall_mem_cons.mpr ⟨so_Traffic_end_21 l D AC b z L xs, List.forall_mem_cons.mpr ⟨so_Traffic_end_24 l D AC b z L xs, List.forall_mem_cons.mpr ⟨so_Traffic_end_25 l D AC b z L xs, List.forall_mem_cons.mpr ⟨so_Traffic_end_28 l D AC b z L xs, List.forall_mem_cons.mpr ⟨so_Traffic_end_30 l D AC b z L xs, List.forall_mem_cons.mpr ⟨so_Traffic_end_32 l D AC b z L xs, List.forall_mem_cons.mpr ⟨so_Traffic_end_35 l D AC b z L xs, List.forall_mem_cons.mpr ⟨so_Traffic_end_36 l D AC b z L xs, List.forall_mem_cons.mpr ⟨so_Traffic_end_39 l D AC b z L xs, List.forall_mem_cons.mpr ⟨so_Traffic_end_40 l D AC b z L xs, List.forall_mem_cons.mpr ⟨so_Traffic_end_43 l D AC b z L xs, List.forall_mem_cons.mpr ⟨so_Traffic_end_46 l D AC b z L xs, List.forall_mem_cons.mpr ⟨so_Traffic_end_47 l D AC b z L xs, List.forall_mem_cons.mpr ⟨so_Traffic_end_48 l D AC b z L xs, List.forall_mem_cons.mpr ⟨so_Traffic_end_51 l D AC b z L xs, List.forall_mem_cons.mpr ⟨so_Traffic_end_54 l D AC b z L xs, List.forall_mem_cons.mpr ⟨so_Traffic_end_55 l D AC b z L xs, List.forall_mem_cons.mpr ⟨so_Traffic_end_56 l D AC b z L xs, List.forall_mem_cons.mpr ⟨so_Traffic_end_58 l D AC b z L xs, List.forall_mem_cons.mpr ⟨so_Traffic_end_61 l D AC b z L xs, List.forall_mem_cons.mpr ⟨so_Traffic_end_62 l D AC b z L xs, List.forall_mem_cons.mpr ⟨so_Traffic_end_65 l D AC b z L xs, List.forall_mem_cons.mpr ⟨so_Traffic_end_68 l D AC b z L xs, List.forall_mem_cons.mpr ⟨so_Traffic_end_69 l D AC b z L xs, List.forall_mem_cons.mpr ⟨so_Traffic_end_72 l D AC b z L xs, List.forall_mem_cons.mpr ⟨so_Traffic_end_73 l D AC b z L xs, List.forall_mem_cons.mpr ⟨so_Traffic_end_74 l D AC b z L xs, List.forall_mem_cons.mpr ⟨so_Traffic_end_77 l D AC b z L xs, List.forall_mem_cons.mpr ⟨so_Traffic_end_80 l D AC b z L xs, List.forall_mem_cons.mpr ⟨so_Traffic_end_81 l D AC b z L xs, List.forall_mem_cons.mpr ⟨so_Traffic_end_84 l D AC b z L xs, List.forall_mem_cons.mpr ⟨so_Traffic_end_87 l D AC b z L xs, List.forall_mem_cons.mpr ⟨so_Traffic_end_88 l D AC b z L xs, List.forall_mem_cons.mpr ⟨so_Traffic_end_89 l D AC b z L xs, List.forall_mem_cons.mpr ⟨so_Traffic_end_92 l D AC b z L xs, fun _ h => absurd h List.not_mem_nil⟩⟩⟩⟩⟩⟩⟩⟩⟩⟩⟩⟩⟩⟩⟩⟩⟩⟩⟩⟩⟩⟩⟩⟩⟩⟩⟩⟩⟩⟩⟩⟩⟩⟩⟩⟩⟩⟩⟩⟩⟩⟩⟩⟩⟩⟩⟩⟩
theorem so_Traffic_tryAgain_0 : Snd l D AC b z L xs Gm j_Traffic_tryAgain 0 (oAld 1 1) := sn_aload_n l D AC b z L xs Gm  dX7_tryAgain_0 rfl
theorem so_Traffic_tryAgain_1 : Snd l D AC b z L xs Gm j_Traffic_tryAgain 1 (oDup 2) := sn_dup l D AC b z L xs Gm  dX7_tryAgain_1
theorem so_Traffic_tryAgain_2 : Snd l D AC b z L xs Gm j_Traffic_tryAgain 2 (oGetI kc_Node 6 5) := sn_getI l D AC b z L xs Gm  dX7_tryAgain_2 rfl (by decide) rfl (by decide) kin_4 tw_147
theorem so_Traffic_tryAgain_5 : Snd l D AC b z L xs Gm j_Traffic_tryAgain 5 (oI 1 6) := sn_iconst l D AC b z L xs Gm  dX7_tryAgain_5 (by decide)
theorem so_Traffic_tryAgain_6 : Snd l D AC b z L xs Gm j_Traffic_tryAgain 6 (oII (fun x y => x + y) 7) := sn_iadd l D AC b z L xs Gm  dX7_tryAgain_6
theorem so_Traffic_tryAgain_7 : Snd l D AC b z L xs Gm j_Traffic_tryAgain 7 (oPutI kc_Node 6 10) := sn_putI l D AC b z L xs Gm  dX7_tryAgain_7 rfl (by decide) rfl (by decide) kin_4 tyX4_ok nmX4 tw_147 rfl rfl
theorem so_Traffic_tryAgain_10 : Snd l D AC b z L xs Gm j_Traffic_tryAgain 10 (oAld 1 11) := sn_aload_n l D AC b z L xs Gm  dX7_tryAgain_10 rfl
theorem so_Traffic_tryAgain_11 : Snd l D AC b z L xs Gm j_Traffic_tryAgain 11 (oGetI kc_Node 6 14) := sn_getI l D AC b z L xs Gm  dX7_tryAgain_11 rfl (by decide) rfl (by decide) kin_4 tw_147
theorem so_Traffic_tryAgain_14 : Snd l D AC b z L xs Gm j_Traffic_tryAgain 14 (oI 5 15) := sn_iconst l D AC b z L xs Gm  dX7_tryAgain_14 (by decide)
theorem so_Traffic_tryAgain_15 : Snd l D AC b z L xs Gm j_Traffic_tryAgain 15 (oIC (fun x y => decide (x < y)) 26 18) := sn_icmp_lt l D AC b z L xs Gm  dX7_tryAgain_15 (by decide)
theorem so_Traffic_tryAgain_18 : Snd l D AC b z L xs Gm j_Traffic_tryAgain 18 (oAld 0 19) := sn_aload_n l D AC b z L xs Gm  dX7_tryAgain_18 rfl
theorem so_Traffic_tryAgain_19 : Snd l D AC b z L xs Gm j_Traffic_tryAgain 19 (oAld 1 20) := sn_aload_n l D AC b z L xs Gm  dX7_tryAgain_19 rfl
theorem so_Traffic_tryAgain_20 : Snd l D AC b z L xs Gm j_Traffic_tryAgain 20 (oCallV kc_Traffic j_Traffic_dropFirst 1 (mL j_Traffic_dropFirst) 23) := sn_callV l D AC b z L xs Gm  dX7_tryAgain_20 rfl (hs0 (fun _ => rfl) rfl) cal_Traffic_tryAgain_Traffic_dropFirst rfl rfl (by decide) rfl tw_667 tw_669 tw_11
theorem so_Traffic_tryAgain_23 : Snd l D AC b z L xs Gm j_Traffic_tryAgain 23 (oGo 53) := sn_goto l D AC b z L xs Gm  dX7_tryAgain_23 (by decide)
theorem so_Traffic_tryAgain_26 : Snd l D AC b z L xs Gm j_Traffic_tryAgain 26 (oAld 1 27) := sn_aload_n l D AC b z L xs Gm  dX7_tryAgain_26 rfl
theorem so_Traffic_tryAgain_27 : Snd l D AC b z L xs Gm j_Traffic_tryAgain 27 (oAld 1 28) := sn_aload_n l D AC b z L xs Gm  dX7_tryAgain_27 rfl
theorem so_Traffic_tryAgain_28 : Snd l D AC b z L xs Gm j_Traffic_tryAgain 28 (oGetI kc_Node 3 31) := sn_getI l D AC b z L xs Gm  dX7_tryAgain_28 rfl (by decide) rfl (by decide) kin_4 tw_137
theorem so_Traffic_tryAgain_31 : Snd l D AC b z L xs Gm j_Traffic_tryAgain 31 (oIf (fun x => decide (x = 0)) 38 34) := sn_if_eq l D AC b z L xs Gm  dX7_tryAgain_31 (by decide)
theorem so_Traffic_tryAgain_34 : Snd l D AC b z L xs Gm j_Traffic_tryAgain 34 (oI 0 35) := sn_iconst l D AC b z L xs Gm  dX7_tryAgain_34 (by decide)
theorem so_Traffic_tryAgain_35 : Snd l D AC b z L xs Gm j_Traffic_tryAgain 35 (oGo 50) := sn_goto l D AC b z L xs Gm  dX7_tryAgain_35 (by decide)
theorem so_Traffic_tryAgain_38 : Snd l D AC b z L xs Gm j_Traffic_tryAgain 38 (oAld 0 39) := sn_aload_n l D AC b z L xs Gm  dX7_tryAgain_38 rfl
theorem so_Traffic_tryAgain_39 : Snd l D AC b z L xs Gm j_Traffic_tryAgain 39 (oI 1 40) := sn_iconst l D AC b z L xs Gm  dX7_tryAgain_39 (by decide)
theorem so_Traffic_tryAgain_40 : Snd l D AC b z L xs Gm j_Traffic_tryAgain 40 (oAld 1 41) := sn_aload_n l D AC b z L xs Gm  dX7_tryAgain_40 rfl
theorem so_Traffic_tryAgain_41 : Snd l D AC b z L xs Gm j_Traffic_tryAgain 41 (oGetI kc_Node 6 44) := sn_getI l D AC b z L xs Gm  dX7_tryAgain_41 rfl (by decide) rfl (by decide) kin_4 tw_147
theorem so_Traffic_tryAgain_44 : Snd l D AC b z L xs Gm j_Traffic_tryAgain 44 (oI 1 45) := sn_iconst l D AC b z L xs Gm  dX7_tryAgain_44 (by decide)
theorem so_Traffic_tryAgain_45 : Snd l D AC b z L xs Gm j_Traffic_tryAgain 45 (oII (fun x y => x + y) 46) := sn_iadd l D AC b z L xs Gm  dX7_tryAgain_45
theorem so_Traffic_tryAgain_46 : Snd l D AC b z L xs Gm j_Traffic_tryAgain 46 (oII (fun x y => x <<< (y &&& 31)) 47) := sn_ishl l D AC b z L xs Gm  dX7_tryAgain_46
theorem so_Traffic_tryAgain_47 : Snd l D AC b z L xs Gm j_Traffic_tryAgain 47 (oCallV kc_Traffic j_Traffic_draw 1 (mL j_Traffic_draw) 50) := sn_callV l D AC b z L xs Gm  dX7_tryAgain_47 rfl (hs0 (fun _ => rfl) rfl) cal_Traffic_tryAgain_Traffic_draw rfl rfl (by decide) rfl tw_721 tw_723 tw_17
theorem so_Traffic_tryAgain_50 : Snd l D AC b z L xs Gm j_Traffic_tryAgain 50 (oCallV kc_Node j_Node_waitAgain 1 (mL j_Node_waitAgain) 53) := sn_callV l D AC b z L xs Gm  dX7_tryAgain_50 rfl (hs0 (fun _ => rfl) rfl) cal_Traffic_tryAgain_Node_waitAgain rfl rfl (by decide) rfl tw_725 tw_726 tw_727
theorem so_Traffic_tryAgain_53 : Snd l D AC b z L xs Gm j_Traffic_tryAgain 53 (oRet) := sn_ret l D AC b z L xs Gm  dX7_tryAgain_53 rfl
set_option maxRecDepth 100000 in
theorem so_Traffic_tryAgain : ∀ q ∈ tb_Traffic_tryAgain, Snd l D AC b z L xs Gm j_Traffic_tryAgain q.1 q.2 := by
  unfold tb_Traffic_tryAgain
  exact List.forall_mem_cons.mpr ⟨so_Traffic_tryAgain_0 l D AC b z L xs, List.forall_mem_cons.mpr ⟨so_Traffic_tryAgain_1 l D AC b z L xs, List.forall_mem_cons.mpr ⟨so_Traffic_tryAgain_2 l D AC b z L xs, List.forall_mem_cons.mpr ⟨so_Traffic_tryAgain_5 l D AC b z L xs, List.forall_mem_cons.mpr ⟨so_Traffic_tryAgain_6 l D AC b z L xs, List.forall_mem_cons.mpr ⟨so_Traffic_tryAgain_7 l D AC b z L xs, List.forall_mem_cons.mpr ⟨so_Traffic_tryAgain_10 l D AC b z L xs, List.forall_mem_cons.mpr ⟨so_Traffic_tryAgain_11 l D AC b z L xs, List.forall_mem_cons.mpr ⟨so_Traffic_tryAgain_14 l D AC b z L xs, List.forall_mem_cons.mpr ⟨so_Traffic_tryAgain_15 l D AC b z L xs, List.forall_mem_cons.mpr ⟨so_Traffic_tryAgain_18 l D AC b z L xs, List.forall_mem_cons.mpr ⟨so_Traffic_tryAgain_19 l D AC b z L xs, List.forall_mem_cons.mpr ⟨so_Traffic_tryAgain_20 l D AC b z L xs, List.forall_mem_cons.mpr ⟨so_Traffic_tryAgain_23 l D AC b z L xs, List.forall_mem_cons.mpr ⟨so_Traffic_tryAgain_26 l D AC b z L xs, List.forall_mem_cons.mpr ⟨so_Traffic_tryAgain_27 l D AC b z L xs, List.forall_mem_cons.mpr ⟨so_Traffic_tryAgain_28 l D AC b z L xs, List.forall_mem_cons.mpr ⟨so_Traffic_tryAgain_31 l D AC b z L xs, List.forall_mem_cons.mpr ⟨so_Traffic_tryAgain_34 l D AC b z L xs, List.forall_mem_cons.mpr ⟨so_Traffic_tryAgain_35 l D AC b z L xs, List.forall_mem_cons.mpr ⟨so_Traffic_tryAgain_38 l D AC b z L xs, List.forall_mem_cons.mpr ⟨so_Traffic_tryAgain_39 l D AC b z L xs, List.forall_mem_cons.mpr ⟨so_Traffic_tryAgain_40 l D AC b z L xs, List.forall_mem_cons.mpr ⟨so_Traffic_tryAgain_41 l D AC b z L xs, List.forall_mem_cons.mpr ⟨so_Traffic_tryAgain_44 l D AC b z L xs, List.forall_mem_cons.mpr ⟨so_Traffic_tryAgain_45 l D AC b z L xs, List.forall_mem_cons.mpr ⟨so_Traffic_tryAgain_46 l D AC b z L xs, List.forall_mem_cons.mpr ⟨so_Traffic_tryAgain_47 l D AC b z L xs, List.forall_mem_cons.mpr ⟨so_Traffic_tryAgain_50 l D AC b z L xs, List.forall_mem_cons.mpr ⟨so_Traffic_tryAgain_53 l D AC b z L xs, fun _ h => absurd h List.not_mem_nil⟩⟩⟩⟩⟩⟩⟩⟩⟩⟩⟩⟩⟩⟩⟩⟩⟩⟩⟩⟩⟩⟩⟩⟩⟩⟩⟩⟩⟩⟩
theorem so_Traffic_receive_0 : Snd l D AC b z L xs Gm j_Traffic_receive 0 (oAld 2 1) := sn_aload_n l D AC b z L xs Gm  dX7_receive_0 rfl
theorem so_Traffic_receive_1 : Snd l D AC b z L xs Gm j_Traffic_receive 1 (oGetI kc_Frame 1 4) := sn_getI l D AC b z L xs Gm  dX7_receive_1 rfl (by decide) rfl (by decide) kin_0 tw_79
theorem so_Traffic_receive_4 : Snd l D AC b z L xs Gm j_Traffic_receive 4 (oIld 1 5) := sn_iload_n l D AC b z L xs Gm  dX7_receive_4 rfl
theorem so_Traffic_receive_5 : Snd l D AC b z L xs Gm j_Traffic_receive 5 (oIC (fun x y => decide (¬ x = y)) 14 8) := sn_icmp_ne l D AC b z L xs Gm  dX7_receive_5 (by decide)
theorem so_Traffic_receive_8 : Snd l D AC b z L xs Gm j_Traffic_receive 8 (oAld 0 9) := sn_aload_n l D AC b z L xs Gm  dX7_receive_8 rfl
theorem so_Traffic_receive_9 : Snd l D AC b z L xs Gm j_Traffic_receive 9 (oAld 2 10) := sn_aload_n l D AC b z L xs Gm  dX7_receive_9 rfl
theorem so_Traffic_receive_10 : Snd l D AC b z L xs Gm j_Traffic_receive 10 (oCallV kc_Traffic j_Traffic_arrive 1 (mL j_Traffic_arrive) 13) := sn_callV l D AC b z L xs Gm  dX7_receive_10 rfl (hs0 (fun _ => rfl) rfl) cal_Traffic_receive_Traffic_arrive rfl rfl (by decide) rfl tw_700 tw_702 tw_15
theorem so_Traffic_receive_13 : Snd l D AC b z L xs Gm j_Traffic_receive 13 (oRet) := sn_ret l D AC b z L xs Gm  dX7_receive_13 rfl
theorem so_Traffic_receive_14 : Snd l D AC b z L xs Gm j_Traffic_receive 14 (oAld 2 15) := sn_aload_n l D AC b z L xs Gm  dX7_receive_14 rfl
theorem so_Traffic_receive_15 : Snd l D AC b z L xs Gm j_Traffic_receive 15 (oGetI kc_Frame 4 18) := sn_getI l D AC b z L xs Gm  dX7_receive_15 rfl (by decide) rfl (by decide) kin_0 tw_91
theorem so_Traffic_receive_18 : Snd l D AC b z L xs Gm j_Traffic_receive 18 (oI 7 20) := sn_bipush l D AC b z L xs Gm  dX7_receive_18 (by decide)
theorem so_Traffic_receive_20 : Snd l D AC b z L xs Gm j_Traffic_receive 20 (oIC (fun x y => decide (y ≤ x)) 42 23) := sn_icmp_ge l D AC b z L xs Gm  dX7_receive_20 (by decide)
theorem so_Traffic_receive_23 : Snd l D AC b z L xs Gm j_Traffic_receive 23 (oAld 0 24) := sn_aload_n l D AC b z L xs Gm  dX7_receive_23 rfl
theorem so_Traffic_receive_24 : Snd l D AC b z L xs Gm j_Traffic_receive 24 (oGetR kc_Traffic 0 27) := sn_getR l D AC b z L xs Gm  dX7_receive_24 rfl (by decide) rfl (by decide) kin_7 tw_255
theorem so_Traffic_receive_27 : Snd l D AC b z L xs Gm j_Traffic_receive 27 (oGetR kc_Land 0 30) := sn_getR l D AC b z L xs Gm  dX7_receive_27 rfl (by decide) rfl (by decide) kin_2 tw_207
theorem so_Traffic_receive_30 : Snd l D AC b z L xs Gm j_Traffic_receive 30 (oIld 1 31) := sn_iload_n l D AC b z L xs Gm  dX7_receive_30 rfl
theorem so_Traffic_receive_31 : Snd l D AC b z L xs Gm j_Traffic_receive 31 (oAal 2 32) := sn_aaload l D AC b z L xs Gm  dX7_receive_31 (by decide) rfl rfl (by decide)
theorem so_Traffic_receive_32 : Snd l D AC b z L xs Gm j_Traffic_receive 32 (oGetR kc_Node 4 35) := sn_getR l D AC b z L xs Gm  dX7_receive_32 rfl (by decide) rfl (by decide) kin_4 tw_140
theorem so_Traffic_receive_35 : Snd l D AC b z L xs Gm j_Traffic_receive 35 (oAld 2 36) := sn_aload_n l D AC b z L xs Gm  dX7_receive_35 rfl
theorem so_Traffic_receive_36 : Snd l D AC b z L xs Gm j_Traffic_receive 36 (oCallS j_Traffic_pushCopy 2 (mL j_Traffic_pushCopy) 39) := sn_callS l D AC b z L xs Gm  dX7_receive_36 rfl (hs0 (fun _ => rfl) rfl) cal_Traffic_receive_Traffic_pushCopy rfl tw_712 tw_713
theorem so_Traffic_receive_39 : Snd l D AC b z L xs Gm j_Traffic_receive 39 (oIf (fun x => decide (¬ x = 0)) 52 42) := sn_if_ne l D AC b z L xs Gm  dX7_receive_39 (by decide)
theorem so_Traffic_receive_42 : Snd l D AC b z L xs Gm j_Traffic_receive 42 (oAld 0 43) := sn_aload_n l D AC b z L xs Gm  dX7_receive_42 rfl
theorem so_Traffic_receive_43 : Snd l D AC b z L xs Gm j_Traffic_receive 43 (oDup 44) := sn_dup l D AC b z L xs Gm  dX7_receive_43
theorem so_Traffic_receive_44 : Snd l D AC b z L xs Gm j_Traffic_receive 44 (oGetI kc_Traffic 6 47) := sn_getI l D AC b z L xs Gm  dX7_receive_44 rfl (by decide) rfl (by decide) kin_7 tw_265
theorem so_Traffic_receive_47 : Snd l D AC b z L xs Gm j_Traffic_receive 47 (oI 1 48) := sn_iconst l D AC b z L xs Gm  dX7_receive_47 (by decide)
theorem so_Traffic_receive_48 : Snd l D AC b z L xs Gm j_Traffic_receive 48 (oII (fun x y => x + y) 49) := sn_iadd l D AC b z L xs Gm  dX7_receive_48
theorem so_Traffic_receive_49 : Snd l D AC b z L xs Gm j_Traffic_receive 49 (oPutI kc_Traffic 6 52) := sn_putI l D AC b z L xs Gm  dX7_receive_49 rfl (by decide) rfl (by decide) kin_7 tyX7_ok nmX7 tw_265 rfl rfl
theorem so_Traffic_receive_52 : Snd l D AC b z L xs Gm j_Traffic_receive 52 (oRet) := sn_ret l D AC b z L xs Gm  dX7_receive_52 rfl
set_option maxRecDepth 100000 in
theorem so_Traffic_receive : ∀ q ∈ tb_Traffic_receive, Snd l D AC b z L xs Gm j_Traffic_receive q.1 q.2 := by
  unfold tb_Traffic_receive
  exact List.forall_mem_cons.mpr ⟨so_Traffic_receive_0 l D AC b z L xs, List.forall_mem_cons.mpr ⟨so_Traffic_receive_1 l D AC b z L xs, List.forall_mem_cons.mpr ⟨so_Traffic_receive_4 l D AC b z L xs, List.forall_mem_cons.mpr ⟨so_Traffic_receive_5 l D AC b z L xs, List.forall_mem_cons.mpr ⟨so_Traffic_receive_8 l D AC b z L xs, List.forall_mem_cons.mpr ⟨so_Traffic_receive_9 l D AC b z L xs, List.forall_mem_cons.mpr ⟨so_Traffic_receive_10 l D AC b z L xs, List.forall_mem_cons.mpr ⟨so_Traffic_receive_13 l D AC b z L xs, List.forall_mem_cons.mpr ⟨so_Traffic_receive_14 l D AC b z L xs, List.forall_mem_cons.mpr ⟨so_Traffic_receive_15 l D AC b z L xs, List.forall_mem_cons.mpr ⟨so_Traffic_receive_18 l D AC b z L xs, List.forall_mem_cons.mpr ⟨so_Traffic_receive_20 l D AC b z L xs, List.forall_mem_cons.mpr ⟨so_Traffic_receive_23 l D AC b z L xs, List.forall_mem_cons.mpr ⟨so_Traffic_receive_24 l D AC b z L xs, List.forall_mem_cons.mpr ⟨so_Traffic_receive_27 l D AC b z L xs, List.forall_mem_cons.mpr ⟨so_Traffic_receive_30 l D AC b z L xs, List.forall_mem_cons.mpr ⟨so_Traffic_receive_31 l D AC b z L xs, List.forall_mem_cons.mpr ⟨so_Traffic_receive_32 l D AC b z L xs, List.forall_mem_cons.mpr ⟨so_Traffic_receive_35 l D AC b z L xs, List.forall_mem_cons.mpr ⟨so_Traffic_receive_36 l D AC b z L xs, List.forall_mem_cons.mpr ⟨so_Traffic_receive_39 l D AC b z L xs, List.forall_mem_cons.mpr ⟨so_Traffic_receive_42 l D AC b z L xs, List.forall_mem_cons.mpr ⟨so_Traffic_receive_43 l D AC b z L xs, List.forall_mem_cons.mpr ⟨so_Traffic_receive_44 l D AC b z L xs, List.forall_mem_cons.mpr ⟨so_Traffic_receive_47 l D AC b z L xs, List.forall_mem_cons.mpr ⟨so_Traffic_receive_48 l D AC b z L xs, List.forall_mem_cons.mpr ⟨so_Traffic_receive_49 l D AC b z L xs, List.forall_mem_cons.mpr ⟨so_Traffic_receive_52 l D AC b z L xs, fun _ h => absurd h List.not_mem_nil⟩⟩⟩⟩⟩⟩⟩⟩⟩⟩⟩⟩⟩⟩⟩⟩⟩⟩⟩⟩⟩⟩⟩⟩⟩⟩⟩⟩
theorem so_Traffic_pushCopy_0 : Snd l D AC b z L xs Gm j_Traffic_pushCopy 0 (oAld 0 1) := sn_aload_n l D AC b z L xs Gm  dX7_pushCopy_0 rfl
theorem so_Traffic_pushCopy_1 : Snd l D AC b z L xs Gm j_Traffic_pushCopy 1 (oAld 1 2) := sn_aload_n l D AC b z L xs Gm  dX7_pushCopy_1 rfl
theorem so_Traffic_pushCopy_2 : Snd l D AC b z L xs Gm j_Traffic_pushCopy 2 (oGetI kc_Frame 0 5) := sn_getI l D AC b z L xs Gm  dX7_pushCopy_2 rfl (by decide) rfl (by decide) kin_0 tw_75
theorem so_Traffic_pushCopy_5 : Snd l D AC b z L xs Gm j_Traffic_pushCopy 5 (oAld 1 6) := sn_aload_n l D AC b z L xs Gm  dX7_pushCopy_5 rfl
theorem so_Traffic_pushCopy_6 : Snd l D AC b z L xs Gm j_Traffic_pushCopy 6 (oGetI kc_Frame 1 9) := sn_getI l D AC b z L xs Gm  dX7_pushCopy_6 rfl (by decide) rfl (by decide) kin_0 tw_79
theorem so_Traffic_pushCopy_9 : Snd l D AC b z L xs Gm j_Traffic_pushCopy 9 (oAld 1 10) := sn_aload_n l D AC b z L xs Gm  dX7_pushCopy_9 rfl
theorem so_Traffic_pushCopy_10 : Snd l D AC b z L xs Gm j_Traffic_pushCopy 10 (oGetI kc_Frame 2 13) := sn_getI l D AC b z L xs Gm  dX7_pushCopy_10 rfl (by decide) rfl (by decide) kin_0 tw_83
theorem so_Traffic_pushCopy_13 : Snd l D AC b z L xs Gm j_Traffic_pushCopy 13 (oAld 1 14) := sn_aload_n l D AC b z L xs Gm  dX7_pushCopy_13 rfl
theorem so_Traffic_pushCopy_14 : Snd l D AC b z L xs Gm j_Traffic_pushCopy 14 (oGetI kc_Frame 3 17) := sn_getI l D AC b z L xs Gm  dX7_pushCopy_14 rfl (by decide) rfl (by decide) kin_0 tw_87
theorem so_Traffic_pushCopy_17 : Snd l D AC b z L xs Gm j_Traffic_pushCopy 17 (oAld 1 18) := sn_aload_n l D AC b z L xs Gm  dX7_pushCopy_17 rfl
theorem so_Traffic_pushCopy_18 : Snd l D AC b z L xs Gm j_Traffic_pushCopy 18 (oGetI kc_Frame 4 21) := sn_getI l D AC b z L xs Gm  dX7_pushCopy_18 rfl (by decide) rfl (by decide) kin_0 tw_91
theorem so_Traffic_pushCopy_21 : Snd l D AC b z L xs Gm j_Traffic_pushCopy 21 (oI 1 22) := sn_iconst l D AC b z L xs Gm  dX7_pushCopy_21 (by decide)
theorem so_Traffic_pushCopy_22 : Snd l D AC b z L xs Gm j_Traffic_pushCopy 22 (oII (fun x y => x + y) 23) := sn_iadd l D AC b z L xs Gm  dX7_pushCopy_22
theorem so_Traffic_pushCopy_23 : Snd l D AC b z L xs Gm j_Traffic_pushCopy 23 (oCallV kc_FrameQueue j_FrameQueue_add 5 (mL j_FrameQueue_add) 26) := sn_callV l D AC b z L xs Gm  dX7_pushCopy_23 rfl (hs0 (fun _ => rfl) rfl) cal_Traffic_pushCopy_FrameQueue_add rfl rfl (by decide) rfl tw_715 tw_582 tw_583
theorem so_Traffic_pushCopy_26 : Snd l D AC b z L xs Gm j_Traffic_pushCopy 26 (oRetZ) := sn_retZ l D AC b z L xs Gm  dX7_pushCopy_26 rfl
set_option maxRecDepth 100000 in
theorem so_Traffic_pushCopy : ∀ q ∈ tb_Traffic_pushCopy, Snd l D AC b z L xs Gm j_Traffic_pushCopy q.1 q.2 := by
  unfold tb_Traffic_pushCopy
  exact List.forall_mem_cons.mpr ⟨so_Traffic_pushCopy_0 l D AC b z L xs, List.forall_mem_cons.mpr ⟨so_Traffic_pushCopy_1 l D AC b z L xs, List.forall_mem_cons.mpr ⟨so_Traffic_pushCopy_2 l D AC b z L xs, List.forall_mem_cons.mpr ⟨so_Traffic_pushCopy_5 l D AC b z L xs, List.forall_mem_cons.mpr ⟨so_Traffic_pushCopy_6 l D AC b z L xs, List.forall_mem_cons.mpr ⟨so_Traffic_pushCopy_9 l D AC b z L xs, List.forall_mem_cons.mpr ⟨so_Traffic_pushCopy_10 l D AC b z L xs, List.forall_mem_cons.mpr ⟨so_Traffic_pushCopy_13 l D AC b z L xs, List.forall_mem_cons.mpr ⟨so_Traffic_pushCopy_14 l D AC b z L xs, List.forall_mem_cons.mpr ⟨so_Traffic_pushCopy_17 l D AC b z L xs, List.forall_mem_cons.mpr ⟨so_Traffic_pushCopy_18 l D AC b z L xs, List.forall_mem_cons.mpr ⟨so_Traffic_pushCopy_21 l D AC b z L xs, List.forall_mem_cons.mpr ⟨so_Traffic_pushCopy_22 l D AC b z L xs, List.forall_mem_cons.mpr ⟨so_Traffic_pushCopy_23 l D AC b z L xs, List.forall_mem_cons.mpr ⟨so_Traffic_pushCopy_26 l D AC b z L xs, fun _ h => absurd h List.not_mem_nil⟩⟩⟩⟩⟩⟩⟩⟩⟩⟩⟩⟩⟩⟩⟩
theorem so_Traffic_arrive_0 : Snd l D AC b z L xs Gm j_Traffic_arrive 0 (oAld 0 1) := sn_aload_n l D AC b z L xs Gm  dX7_arrive_0 rfl
theorem so_Traffic_arrive_1 : Snd l D AC b z L xs Gm j_Traffic_arrive 1 (oGetR kc_Traffic 0 4) := sn_getR l D AC b z L xs Gm  dX7_arrive_1 rfl (by decide) rfl (by decide) kin_7 tw_255
theorem so_Traffic_arrive_4 : Snd l D AC b z L xs Gm j_Traffic_arrive 4 (oAld 1 5) := sn_aload_n l D AC b z L xs Gm  dX7_arrive_4 rfl
theorem so_Traffic_arrive_5 : Snd l D AC b z L xs Gm j_Traffic_arrive 5 (oGetI kc_Frame 0 8) := sn_getI l D AC b z L xs Gm  dX7_arrive_5 rfl (by decide) rfl (by decide) kin_0 tw_75
theorem so_Traffic_arrive_8 : Snd l D AC b z L xs Gm j_Traffic_arrive 8 (oCallV kc_Land j_Land_isNode 1 (mL j_Land_isNode) 11) := sn_callV l D AC b z L xs Gm  dX7_arrive_8 rfl (hs0 (fun _ => rfl) rfl) cal_Traffic_arrive_Land_isNode rfl rfl (by decide) rfl tw_687 tw_471 tw_472
theorem so_Traffic_arrive_11 : Snd l D AC b z L xs Gm j_Traffic_arrive 11 (oIf (fun x => decide (¬ x = 0)) 15 14) := sn_if_ne l D AC b z L xs Gm  dX7_arrive_11 (by decide)
theorem so_Traffic_arrive_14 : Snd l D AC b z L xs Gm j_Traffic_arrive 14 (oRet) := sn_ret l D AC b z L xs Gm  dX7_arrive_14 rfl
theorem so_Traffic_arrive_15 : Snd l D AC b z L xs Gm j_Traffic_arrive 15 (oAld 0 16) := sn_aload_n l D AC b z L xs Gm  dX7_arrive_15 rfl
theorem so_Traffic_arrive_16 : Snd l D AC b z L xs Gm j_Traffic_arrive 16 (oGetR kc_Traffic 0 19) := sn_getR l D AC b z L xs Gm  dX7_arrive_16 rfl (by decide) rfl (by decide) kin_7 tw_255
theorem so_Traffic_arrive_19 : Snd l D AC b z L xs Gm j_Traffic_arrive 19 (oGetR kc_Land 0 22) := sn_getR l D AC b z L xs Gm  dX7_arrive_19 rfl (by decide) rfl (by decide) kin_2 tw_207
theorem so_Traffic_arrive_22 : Snd l D AC b z L xs Gm j_Traffic_arrive 22 (oAld 1 23) := sn_aload_n l D AC b z L xs Gm  dX7_arrive_22 rfl
theorem so_Traffic_arrive_23 : Snd l D AC b z L xs Gm j_Traffic_arrive 23 (oGetI kc_Frame 0 26) := sn_getI l D AC b z L xs Gm  dX7_arrive_23 rfl (by decide) rfl (by decide) kin_0 tw_75
theorem so_Traffic_arrive_26 : Snd l D AC b z L xs Gm j_Traffic_arrive 26 (oAal 2 27) := sn_aaload l D AC b z L xs Gm  dX7_arrive_26 (by decide) rfl rfl (by decide)
theorem so_Traffic_arrive_27 : Snd l D AC b z L xs Gm j_Traffic_arrive 27 (oGetR kc_Node 15 30) := sn_getR l D AC b z L xs Gm  dX7_arrive_27 rfl (by decide) rfl (by decide) kin_4 tw_171
theorem so_Traffic_arrive_30 : Snd l D AC b z L xs Gm j_Traffic_arrive 30 (oAst 2 31) := sn_astore_n l D AC b z L xs Gm  dX7_arrive_30 rfl (by decide)
theorem so_Traffic_arrive_31 : Snd l D AC b z L xs Gm j_Traffic_arrive 31 (oAld 2 32) := sn_aload_n l D AC b z L xs Gm  dX7_arrive_31 rfl
theorem so_Traffic_arrive_32 : Snd l D AC b z L xs Gm j_Traffic_arrive 32 (oAld 1 33) := sn_aload_n l D AC b z L xs Gm  dX7_arrive_32 rfl
theorem so_Traffic_arrive_33 : Snd l D AC b z L xs Gm j_Traffic_arrive 33 (oGetI kc_Frame 3 36) := sn_getI l D AC b z L xs Gm  dX7_arrive_33 rfl (by decide) rfl (by decide) kin_0 tw_87
theorem so_Traffic_arrive_36 : Snd l D AC b z L xs Gm j_Traffic_arrive 36 (oCallV kc_NumberSet j_NumberSet_has 1 (mL j_NumberSet_has) 39) := sn_callV l D AC b z L xs Gm  dX7_arrive_36 rfl (hs0 (fun _ => rfl) rfl) cal_Traffic_arrive_NumberSet_has rfl rfl (by decide) rfl tw_704 tw_705 tw_706
theorem so_Traffic_arrive_39 : Snd l D AC b z L xs Gm j_Traffic_arrive 39 (oIf (fun x => decide (x = 0)) 55 42) := sn_if_eq l D AC b z L xs Gm  dX7_arrive_39 (by decide)
theorem so_Traffic_arrive_42 : Snd l D AC b z L xs Gm j_Traffic_arrive 42 (oAld 0 43) := sn_aload_n l D AC b z L xs Gm  dX7_arrive_42 rfl
theorem so_Traffic_arrive_43 : Snd l D AC b z L xs Gm j_Traffic_arrive 43 (oDup 44) := sn_dup l D AC b z L xs Gm  dX7_arrive_43
theorem so_Traffic_arrive_44 : Snd l D AC b z L xs Gm j_Traffic_arrive 44 (oGetI kc_Traffic 5 47) := sn_getI l D AC b z L xs Gm  dX7_arrive_44 rfl (by decide) rfl (by decide) kin_7 tw_263
theorem so_Traffic_arrive_47 : Snd l D AC b z L xs Gm j_Traffic_arrive 47 (oI 1 48) := sn_iconst l D AC b z L xs Gm  dX7_arrive_47 (by decide)
theorem so_Traffic_arrive_48 : Snd l D AC b z L xs Gm j_Traffic_arrive 48 (oII (fun x y => x + y) 49) := sn_iadd l D AC b z L xs Gm  dX7_arrive_48
theorem so_Traffic_arrive_49 : Snd l D AC b z L xs Gm j_Traffic_arrive 49 (oPutI kc_Traffic 5 52) := sn_putI l D AC b z L xs Gm  dX7_arrive_49 rfl (by decide) rfl (by decide) kin_7 tyX7_ok nmX7 tw_263 rfl rfl
theorem so_Traffic_arrive_52 : Snd l D AC b z L xs Gm j_Traffic_arrive 52 (oGo 73) := sn_goto l D AC b z L xs Gm  dX7_arrive_52 (by decide)
theorem so_Traffic_arrive_55 : Snd l D AC b z L xs Gm j_Traffic_arrive 55 (oAld 2 56) := sn_aload_n l D AC b z L xs Gm  dX7_arrive_55 rfl
theorem so_Traffic_arrive_56 : Snd l D AC b z L xs Gm j_Traffic_arrive 56 (oAld 1 57) := sn_aload_n l D AC b z L xs Gm  dX7_arrive_56 rfl
theorem so_Traffic_arrive_57 : Snd l D AC b z L xs Gm j_Traffic_arrive 57 (oGetI kc_Frame 3 60) := sn_getI l D AC b z L xs Gm  dX7_arrive_57 rfl (by decide) rfl (by decide) kin_0 tw_87
theorem so_Traffic_arrive_60 : Snd l D AC b z L xs Gm j_Traffic_arrive 60 (oCallV kc_NumberSet j_NumberSet_put 1 (mL j_NumberSet_put) 63) := sn_callV l D AC b z L xs Gm  dX7_arrive_60 rfl (hs0 (fun _ => rfl) rfl) cal_Traffic_arrive_NumberSet_put rfl rfl (by decide) rfl tw_708 tw_709 tw_710
theorem so_Traffic_arrive_63 : Snd l D AC b z L xs Gm j_Traffic_arrive 63 (oAld 0 64) := sn_aload_n l D AC b z L xs Gm  dX7_arrive_63 rfl
theorem so_Traffic_arrive_64 : Snd l D AC b z L xs Gm j_Traffic_arrive 64 (oDup 65) := sn_dup l D AC b z L xs Gm  dX7_arrive_64
theorem so_Traffic_arrive_65 : Snd l D AC b z L xs Gm j_Traffic_arrive 65 (oGetI kc_Traffic 4 68) := sn_getI l D AC b z L xs Gm  dX7_arrive_65 rfl (by decide) rfl (by decide) kin_7 tw_261
theorem so_Traffic_arrive_68 : Snd l D AC b z L xs Gm j_Traffic_arrive 68 (oI 1 69) := sn_iconst l D AC b z L xs Gm  dX7_arrive_68 (by decide)
theorem so_Traffic_arrive_69 : Snd l D AC b z L xs Gm j_Traffic_arrive 69 (oII (fun x y => x + y) 70) := sn_iadd l D AC b z L xs Gm  dX7_arrive_69
theorem so_Traffic_arrive_70 : Snd l D AC b z L xs Gm j_Traffic_arrive 70 (oPutI kc_Traffic 4 73) := sn_putI l D AC b z L xs Gm  dX7_arrive_70 rfl (by decide) rfl (by decide) kin_7 tyX7_ok nmX7 tw_261 rfl rfl
theorem so_Traffic_arrive_73 : Snd l D AC b z L xs Gm j_Traffic_arrive 73 (oRet) := sn_ret l D AC b z L xs Gm  dX7_arrive_73 rfl
set_option maxRecDepth 100000 in
theorem so_Traffic_arrive : ∀ q ∈ tb_Traffic_arrive, Snd l D AC b z L xs Gm j_Traffic_arrive q.1 q.2 := by
  unfold tb_Traffic_arrive
  exact List.forall_mem_cons.mpr ⟨so_Traffic_arrive_0 l D AC b z L xs, List.forall_mem_cons.mpr ⟨so_Traffic_arrive_1 l D AC b z L xs, List.forall_mem_cons.mpr ⟨so_Traffic_arrive_4 l D AC b z L xs, List.forall_mem_cons.mpr ⟨so_Traffic_arrive_5 l D AC b z L xs, List.forall_mem_cons.mpr ⟨so_Traffic_arrive_8 l D AC b z L xs, List.forall_mem_cons.mpr ⟨so_Traffic_arrive_11 l D AC b z L xs, List.forall_mem_cons.mpr ⟨so_Traffic_arrive_14 l D AC b z L xs, List.forall_mem_cons.mpr ⟨so_Traffic_arrive_15 l D AC b z L xs, List.forall_mem_cons.mpr ⟨so_Traffic_arrive_16 l D AC b z L xs, List.forall_mem_cons.mpr ⟨so_Traffic_arrive_19 l D AC b z L xs, List.forall_mem_cons.mpr ⟨so_Traffic_arrive_22 l D AC b z L xs, List.forall_mem_cons.mpr ⟨so_Traffic_arrive_23 l D AC b z L xs, List.forall_mem_cons.mpr ⟨so_Traffic_arrive_26 l D AC b z L xs, List.forall_mem_cons.mpr ⟨so_Traffic_arrive_27 l D AC b z L xs, List.forall_mem_cons.mpr ⟨so_Traffic_arrive_30 l D AC b z L xs, List.forall_mem_cons.mpr ⟨so_Traffic_arrive_31 l D AC b z L xs, List.forall_mem_cons.mpr ⟨so_Traffic_arrive_32 l D AC b z L xs, List.forall_mem_cons.mpr ⟨so_Traffic_arrive_33 l D AC b z L xs, List.forall_mem_cons.mpr ⟨so_Traffic_arrive_36 l D AC b z L xs, List.forall_mem_cons.mpr ⟨so_Traffic_arrive_39 l D AC b z L xs, List.forall_mem_cons.mpr ⟨so_Traffic_arrive_42 l D AC b z L xs, List.forall_mem_cons.mpr ⟨so_Traffic_arrive_43 l D AC b z L xs, List.forall_mem_cons.mpr ⟨so_Traffic_arrive_44 l D AC b z L xs, List.forall_mem_cons.mpr ⟨so_Traffic_arrive_47 l D AC b z L xs, List.forall_mem_cons.mpr ⟨so_Traffic_arrive_48 l D AC b z L xs, List.forall_mem_cons.mpr ⟨so_Traffic_arrive_49 l D AC b z L xs, List.forall_mem_cons.mpr ⟨so_Traffic_arrive_52 l D AC b z L xs, List.forall_mem_cons.mpr ⟨so_Traffic_arrive_55 l D AC b z L xs, List.forall_mem_cons.mpr ⟨so_Traffic_arrive_56 l D AC b z L xs, List.forall_mem_cons.mpr ⟨so_Traffic_arrive_57 l D AC b z L xs, List.forall_mem_cons.mpr ⟨so_Traffic_arrive_60 l D AC b z L xs, List.forall_mem_cons.mpr ⟨so_Traffic_arrive_63 l D AC b z L xs, List.forall_mem_cons.mpr ⟨so_Traffic_arrive_64 l D AC b z L xs, List.forall_mem_cons.mpr ⟨so_Traffic_arrive_65 l D AC b z L xs, List.forall_mem_cons.mpr ⟨so_Traffic_arrive_68 l D AC b z L xs, List.forall_mem_cons.mpr ⟨so_Traffic_arrive_69 l D AC b z L xs, List.forall_mem_cons.mpr ⟨so_Traffic_arrive_70 l D AC b z L xs, List.forall_mem_cons.mpr ⟨so_Traffic_arrive_73 l D AC b z L xs, fun _ h => absurd h List.not_mem_nil⟩⟩⟩⟩⟩⟩⟩⟩⟩⟩⟩⟩⟩⟩⟩⟩⟩⟩⟩⟩⟩⟩⟩⟩⟩⟩⟩⟩⟩⟩⟩⟩⟩⟩⟩⟩⟩⟩
theorem so_Traffic_dropFirst_0 : Snd l D AC b z L xs Gm j_Traffic_dropFirst 0 (oAld 1 1) := sn_aload_n l D AC b z L xs Gm  dX7_dropFirst_0 rfl
theorem so_Traffic_dropFirst_1 : Snd l D AC b z L xs Gm j_Traffic_dropFirst 1 (oCallV kc_Node j_Node_finishFirst 0 (mL j_Node_finishFirst) 4) := sn_callV l D AC b z L xs Gm  dX7_dropFirst_1 rfl (hs0 (fun _ => rfl) rfl) cal_Traffic_dropFirst_Node_finishFirst rfl rfl (by decide) rfl tw_671 tw_672 tw_673
theorem so_Traffic_dropFirst_4 : Snd l D AC b z L xs Gm j_Traffic_dropFirst 4 (oAld 0 5) := sn_aload_n l D AC b z L xs Gm  dX7_dropFirst_4 rfl
theorem so_Traffic_dropFirst_5 : Snd l D AC b z L xs Gm j_Traffic_dropFirst 5 (oDup 6) := sn_dup l D AC b z L xs Gm  dX7_dropFirst_5
theorem so_Traffic_dropFirst_6 : Snd l D AC b z L xs Gm j_Traffic_dropFirst 6 (oGetI kc_Traffic 6 9) := sn_getI l D AC b z L xs Gm  dX7_dropFirst_6 rfl (by decide) rfl (by decide) kin_7 tw_265
theorem so_Traffic_dropFirst_9 : Snd l D AC b z L xs Gm j_Traffic_dropFirst 9 (oI 1 10) := sn_iconst l D AC b z L xs Gm  dX7_dropFirst_9 (by decide)
theorem so_Traffic_dropFirst_10 : Snd l D AC b z L xs Gm j_Traffic_dropFirst 10 (oII (fun x y => x + y) 11) := sn_iadd l D AC b z L xs Gm  dX7_dropFirst_10
theorem so_Traffic_dropFirst_11 : Snd l D AC b z L xs Gm j_Traffic_dropFirst 11 (oPutI kc_Traffic 6 14) := sn_putI l D AC b z L xs Gm  dX7_dropFirst_11 rfl (by decide) rfl (by decide) kin_7 tyX7_ok nmX7 tw_265 rfl rfl
theorem so_Traffic_dropFirst_14 : Snd l D AC b z L xs Gm j_Traffic_dropFirst 14 (oRet) := sn_ret l D AC b z L xs Gm  dX7_dropFirst_14 rfl
set_option maxRecDepth 100000 in
theorem so_Traffic_dropFirst : ∀ q ∈ tb_Traffic_dropFirst, Snd l D AC b z L xs Gm j_Traffic_dropFirst q.1 q.2 := by
  unfold tb_Traffic_dropFirst
  exact List.forall_mem_cons.mpr ⟨so_Traffic_dropFirst_0 l D AC b z L xs, List.forall_mem_cons.mpr ⟨so_Traffic_dropFirst_1 l D AC b z L xs, List.forall_mem_cons.mpr ⟨so_Traffic_dropFirst_4 l D AC b z L xs, List.forall_mem_cons.mpr ⟨so_Traffic_dropFirst_5 l D AC b z L xs, List.forall_mem_cons.mpr ⟨so_Traffic_dropFirst_6 l D AC b z L xs, List.forall_mem_cons.mpr ⟨so_Traffic_dropFirst_9 l D AC b z L xs, List.forall_mem_cons.mpr ⟨so_Traffic_dropFirst_10 l D AC b z L xs, List.forall_mem_cons.mpr ⟨so_Traffic_dropFirst_11 l D AC b z L xs, List.forall_mem_cons.mpr ⟨so_Traffic_dropFirst_14 l D AC b z L xs, fun _ h => absurd h List.not_mem_nil⟩⟩⟩⟩⟩⟩⟩⟩⟩
theorem so_Traffic_draw_0 : Snd l D AC b z L xs Gm j_Traffic_draw 0 (oAld 0 1) := sn_aload_n l D AC b z L xs Gm  dX7_draw_0 rfl
theorem so_Traffic_draw_1 : Snd l D AC b z L xs Gm j_Traffic_draw 1 (oI 109 3) := sn_bipush l D AC b z L xs Gm  dX7_draw_1 (by decide)
theorem so_Traffic_draw_3 : Snd l D AC b z L xs Gm j_Traffic_draw 3 (oAld 0 4) := sn_aload_n l D AC b z L xs Gm  dX7_draw_3 rfl
theorem so_Traffic_draw_4 : Snd l D AC b z L xs Gm j_Traffic_draw 4 (oGetI kc_Traffic 3 7) := sn_getI l D AC b z L xs Gm  dX7_draw_4 rfl (by decide) rfl (by decide) kin_7 tw_259
theorem so_Traffic_draw_7 : Snd l D AC b z L xs Gm j_Traffic_draw 7 (oII (fun x y => x * y) 8) := sn_imul l D AC b z L xs Gm  dX7_draw_7
theorem so_Traffic_draw_8 : Snd l D AC b z L xs Gm j_Traffic_draw 8 (oI 57 10) := sn_bipush l D AC b z L xs Gm  dX7_draw_8 (by decide)
theorem so_Traffic_draw_10 : Snd l D AC b z L xs Gm j_Traffic_draw 10 (oII (fun x y => x + y) 11) := sn_iadd l D AC b z L xs Gm  dX7_draw_10
theorem so_Traffic_draw_11 : Snd l D AC b z L xs Gm j_Traffic_draw 11 (oI 512 14) := sn_sipush l D AC b z L xs Gm  dX7_draw_11 (by decide)
theorem so_Traffic_draw_14 : Snd l D AC b z L xs Gm j_Traffic_draw 14 (oIq (fun x y => x - x / y * y) 15) := sn_irem l D AC b z L xs Gm  dX7_draw_14
theorem so_Traffic_draw_15 : Snd l D AC b z L xs Gm j_Traffic_draw 15 (oPutI kc_Traffic 3 18) := sn_putI l D AC b z L xs Gm  dX7_draw_15 rfl (by decide) rfl (by decide) kin_7 tyX7_ok nmX7 tw_259 rfl rfl
theorem so_Traffic_draw_18 : Snd l D AC b z L xs Gm j_Traffic_draw 18 (oAld 0 19) := sn_aload_n l D AC b z L xs Gm  dX7_draw_18 rfl
theorem so_Traffic_draw_19 : Snd l D AC b z L xs Gm j_Traffic_draw 19 (oGetI kc_Traffic 3 22) := sn_getI l D AC b z L xs Gm  dX7_draw_19 rfl (by decide) rfl (by decide) kin_7 tw_259
theorem so_Traffic_draw_22 : Snd l D AC b z L xs Gm j_Traffic_draw 22 (oIld 1 23) := sn_iload_n l D AC b z L xs Gm  dX7_draw_22 rfl
theorem so_Traffic_draw_23 : Snd l D AC b z L xs Gm j_Traffic_draw 23 (oII (fun x y => x * y) 24) := sn_imul l D AC b z L xs Gm  dX7_draw_23
theorem so_Traffic_draw_24 : Snd l D AC b z L xs Gm j_Traffic_draw 24 (oI 512 27) := sn_sipush l D AC b z L xs Gm  dX7_draw_24 (by decide)
theorem so_Traffic_draw_27 : Snd l D AC b z L xs Gm j_Traffic_draw 27 (oIq (fun x y => x / y) 28) := sn_idiv l D AC b z L xs Gm  dX7_draw_27
theorem so_Traffic_draw_28 : Snd l D AC b z L xs Gm j_Traffic_draw 28 (oRetI) := sn_retI l D AC b z L xs Gm  dX7_draw_28 rfl
set_option maxRecDepth 100000 in
theorem so_Traffic_draw : ∀ q ∈ tb_Traffic_draw, Snd l D AC b z L xs Gm j_Traffic_draw q.1 q.2 := by
  unfold tb_Traffic_draw
  exact List.forall_mem_cons.mpr ⟨so_Traffic_draw_0 l D AC b z L xs, List.forall_mem_cons.mpr ⟨so_Traffic_draw_1 l D AC b z L xs, List.forall_mem_cons.mpr ⟨so_Traffic_draw_3 l D AC b z L xs, List.forall_mem_cons.mpr ⟨so_Traffic_draw_4 l D AC b z L xs, List.forall_mem_cons.mpr ⟨so_Traffic_draw_7 l D AC b z L xs, List.forall_mem_cons.mpr ⟨so_Traffic_draw_8 l D AC b z L xs, List.forall_mem_cons.mpr ⟨so_Traffic_draw_10 l D AC b z L xs, List.forall_mem_cons.mpr ⟨so_Traffic_draw_11 l D AC b z L xs, List.forall_mem_cons.mpr ⟨so_Traffic_draw_14 l D AC b z L xs, List.forall_mem_cons.mpr ⟨so_Traffic_draw_15 l D AC b z L xs, List.forall_mem_cons.mpr ⟨so_Traffic_draw_18 l D AC b z L xs, List.forall_mem_cons.mpr ⟨so_Traffic_draw_19 l D AC b z L xs, List.forall_mem_cons.mpr ⟨so_Traffic_draw_22 l D AC b z L xs, List.forall_mem_cons.mpr ⟨so_Traffic_draw_23 l D AC b z L xs, List.forall_mem_cons.mpr ⟨so_Traffic_draw_24 l D AC b z L xs, List.forall_mem_cons.mpr ⟨so_Traffic_draw_27 l D AC b z L xs, List.forall_mem_cons.mpr ⟨so_Traffic_draw_28 l D AC b z L xs, fun _ h => absurd h List.not_mem_nil⟩⟩⟩⟩⟩⟩⟩⟩⟩⟩⟩⟩⟩⟩⟩⟩⟩
theorem so_S_init_0 : Snd l D AC b z L xs Gm j_S_init 0 (oAld 0 1) := sn_aload_n l D AC b z L xs Gm  dX8_init_0 rfl
theorem so_S_init_1 : Snd l D AC b z L xs Gm j_S_init 1 (oObj 4) := sn_obj l D AC b z L xs Gm  dX8_init_1 (by decide) (by decide) tw_44 tw_45 tw_46
theorem so_S_init_4 : Snd l D AC b z L xs Gm j_S_init 4 (oAld 0 5) := sn_aload_n l D AC b z L xs Gm  dX8_init_4 rfl
theorem so_S_init_5 : Snd l D AC b z L xs Gm j_S_init 5 (oNew cM sM kc_Land 3 8) := sn_new l D AC b z L xs Gm  dX8_init_5 rfl (by decide) kin_2 tyX2_ok kdf_2 tw_47 tw_48 tw_23
theorem so_S_init_8 : Snd l D AC b z L xs Gm j_S_init 8 (oDup 9) := sn_dup l D AC b z L xs Gm  dX8_init_8
theorem so_S_init_9 : Snd l D AC b z L xs Gm j_S_init 9 (oCallV kc_Land j_Land_init 0 (mL j_Land_init) 12) := sn_callI l D AC b z L xs Gm  dX8_init_9 rfl (hs0 (fun _ => rfl) rfl) cal_S_init_Land_init rfl rfl (by decide) rfl rfl tw_49 tw_50
theorem so_S_init_12 : Snd l D AC b z L xs Gm j_S_init 12 (oPutR kc_S 0 15) := sn_putRF l D AC b z L xs Gm  dX8_init_12 rfl (by decide) rfl (by decide) kin_8 tyX8_ok nmX8 tw_320 rfl rfl rfl (Or.inl ⟨_, rfl⟩)
theorem so_S_init_15 : Snd l D AC b z L xs Gm j_S_init 15 (oAld 0 16) := sn_aload_n l D AC b z L xs Gm  dX8_init_15 rfl
theorem so_S_init_16 : Snd l D AC b z L xs Gm j_S_init 16 (oNew cM sM kc_Routes 6 19) := sn_new l D AC b z L xs Gm  dX8_init_16 rfl (by decide) kin_6 tyX6_ok kdf_6 tw_221 tw_222 tw_28
theorem so_S_init_19 : Snd l D AC b z L xs Gm j_S_init 19 (oDup 20) := sn_dup l D AC b z L xs Gm  dX8_init_19
theorem so_S_init_20 : Snd l D AC b z L xs Gm j_S_init 20 (oAld 0 21) := sn_aload_n l D AC b z L xs Gm  dX8_init_20 rfl
theorem so_S_init_21 : Snd l D AC b z L xs Gm j_S_init 21 (oGetR kc_S 0 24) := sn_getR l D AC b z L xs Gm  dX8_init_21 rfl (by decide) rfl (by decide) kin_8 tw_320
theorem so_S_init_24 : Snd l D AC b z L xs Gm j_S_init 24 (oCallV kc_Routes j_Routes_init 1 (mL j_Routes_init) 27) := sn_callI l D AC b z L xs Gm  dX8_init_24 rfl (hs0 (fun _ => rfl) rfl) cal_S_init_Routes_init rfl rfl (by decide) rfl rfl tw_223 tw_224
theorem so_S_init_27 : Snd l D AC b z L xs Gm j_S_init 27 (oPutR kc_S 1 30) := sn_putRF l D AC b z L xs Gm  dX8_init_27 rfl (by decide) rfl (by decide) kin_8 tyX8_ok nmX8 tw_321 rfl rfl rfl (Or.inl ⟨_, rfl⟩)
theorem so_S_init_30 : Snd l D AC b z L xs Gm j_S_init 30 (oAld 0 31) := sn_aload_n l D AC b z L xs Gm  dX8_init_30 rfl
theorem so_S_init_31 : Snd l D AC b z L xs Gm j_S_init 31 (oNew cM sM kc_Traffic 7 34) := sn_new l D AC b z L xs Gm  dX8_init_31 rfl (by decide) kin_7 tyX7_ok kdf_7 tw_249 tw_250 tw_29
theorem so_S_init_34 : Snd l D AC b z L xs Gm j_S_init 34 (oDup 35) := sn_dup l D AC b z L xs Gm  dX8_init_34
theorem so_S_init_35 : Snd l D AC b z L xs Gm j_S_init 35 (oAld 0 36) := sn_aload_n l D AC b z L xs Gm  dX8_init_35 rfl
theorem so_S_init_36 : Snd l D AC b z L xs Gm j_S_init 36 (oGetR kc_S 0 39) := sn_getR l D AC b z L xs Gm  dX8_init_36 rfl (by decide) rfl (by decide) kin_8 tw_320
theorem so_S_init_39 : Snd l D AC b z L xs Gm j_S_init 39 (oAld 0 40) := sn_aload_n l D AC b z L xs Gm  dX8_init_39 rfl
theorem so_S_init_40 : Snd l D AC b z L xs Gm j_S_init 40 (oGetR kc_S 1 43) := sn_getR l D AC b z L xs Gm  dX8_init_40 rfl (by decide) rfl (by decide) kin_8 tw_321
theorem so_S_init_43 : Snd l D AC b z L xs Gm j_S_init 43 (oCallV kc_Traffic j_Traffic_init 2 (mL j_Traffic_init) 46) := sn_callI l D AC b z L xs Gm  dX8_init_43 rfl (hs0 (fun _ => rfl) rfl) cal_S_init_Traffic_init rfl rfl (by decide) rfl rfl tw_251 tw_252
theorem so_S_init_46 : Snd l D AC b z L xs Gm j_S_init 46 (oPutR kc_S 2 49) := sn_putRF l D AC b z L xs Gm  dX8_init_46 rfl (by decide) rfl (by decide) kin_8 tyX8_ok nmX8 tw_322 rfl rfl rfl (Or.inl ⟨_, rfl⟩)
theorem so_S_init_49 : Snd l D AC b z L xs Gm j_S_init 49 (oAld 0 50) := sn_aload_n l D AC b z L xs Gm  dX8_init_49 rfl
theorem so_S_init_50 : Snd l D AC b z L xs Gm j_S_init 50 (oNew cM sM kc_Market 9 53) := sn_new l D AC b z L xs Gm  dX8_init_50 rfl (by decide) kin_3 tyX3_ok kdf_3 tw_282 tw_283 tw_30
theorem so_S_init_53 : Snd l D AC b z L xs Gm j_S_init 53 (oDup 54) := sn_dup l D AC b z L xs Gm  dX8_init_53
theorem so_S_init_54 : Snd l D AC b z L xs Gm j_S_init 54 (oCallV kc_Market j_Market_init 0 (mL j_Market_init) 57) := sn_callIN l D AC b z L xs Gm  dX8_init_54 rfl (hs0 (fun _ => rfl) rfl) cal_S_init_Market_init rfl rfl (by decide) rfl rfl (List.mem_of_getElem? (i := 3) rfl) tw_285
theorem so_S_init_57 : Snd l D AC b z L xs Gm j_S_init 57 (oPutR kc_S 3 60) := sn_putRF l D AC b z L xs Gm  dX8_init_57 rfl (by decide) rfl (by decide) kin_8 tyX8_ok nmX8 tw_323 rfl rfl rfl (Or.inl ⟨_, rfl⟩)
theorem so_S_init_60 : Snd l D AC b z L xs Gm j_S_init 60 (oAld 0 61) := sn_aload_n l D AC b z L xs Gm  dX8_init_60 rfl
theorem so_S_init_61 : Snd l D AC b z L xs Gm j_S_init 61 (oI 0 62) := sn_iconst l D AC b z L xs Gm  dX8_init_61 (by decide)
theorem so_S_init_62 : Snd l D AC b z L xs Gm j_S_init 62 (oPutI kc_S 4 65) := sn_putI l D AC b z L xs Gm  dX8_init_62 rfl (by decide) rfl (by decide) kin_8 tyX8_ok nmX8 tw_324 rfl rfl
theorem so_S_init_65 : Snd l D AC b z L xs Gm j_S_init 65 (oRet) := sn_ret l D AC b z L xs Gm  dX8_init_65 rfl
set_option maxRecDepth 100000 in
theorem so_S_init : ∀ q ∈ tb_S_init, Snd l D AC b z L xs Gm j_S_init q.1 q.2 := by
  unfold tb_S_init
  exact List.forall_mem_cons.mpr ⟨so_S_init_0 l D AC b z L xs, List.forall_mem_cons.mpr ⟨so_S_init_1 l D AC b z L xs, List.forall_mem_cons.mpr ⟨so_S_init_4 l D AC b z L xs, List.forall_mem_cons.mpr ⟨so_S_init_5 l D AC b z L xs, List.forall_mem_cons.mpr ⟨so_S_init_8 l D AC b z L xs, List.forall_mem_cons.mpr ⟨so_S_init_9 l D AC b z L xs, List.forall_mem_cons.mpr ⟨so_S_init_12 l D AC b z L xs, List.forall_mem_cons.mpr ⟨so_S_init_15 l D AC b z L xs, List.forall_mem_cons.mpr ⟨so_S_init_16 l D AC b z L xs, List.forall_mem_cons.mpr ⟨so_S_init_19 l D AC b z L xs, List.forall_mem_cons.mpr ⟨so_S_init_20 l D AC b z L xs, List.forall_mem_cons.mpr ⟨so_S_init_21 l D AC b z L xs, List.forall_mem_cons.mpr ⟨so_S_init_24 l D AC b z L xs, List.forall_mem_cons.mpr ⟨so_S_init_27 l D AC b z L xs, List.forall_mem_cons.mpr ⟨so_S_init_30 l D AC b z L xs, List.forall_mem_cons.mpr ⟨so_S_init_31 l D AC b z L xs, List.forall_mem_cons.mpr ⟨so_S_init_34 l D AC b z L xs, List.forall_mem_cons.mpr ⟨so_S_init_35 l D AC b z L xs, List.forall_mem_cons.mpr ⟨so_S_init_36 l D AC b z L xs, List.forall_mem_cons.mpr ⟨so_S_init_39 l D AC b z L xs, List.forall_mem_cons.mpr ⟨so_S_init_40 l D AC b z L xs, List.forall_mem_cons.mpr ⟨so_S_init_43 l D AC b z L xs, List.forall_mem_cons.mpr ⟨so_S_init_46 l D AC b z L xs, List.forall_mem_cons.mpr ⟨so_S_init_49 l D AC b z L xs, List.forall_mem_cons.mpr ⟨so_S_init_50 l D AC b z L xs, List.forall_mem_cons.mpr ⟨so_S_init_53 l D AC b z L xs, List.forall_mem_cons.mpr ⟨so_S_init_54 l D AC b z L xs, List.forall_mem_cons.mpr ⟨so_S_init_57 l D AC b z L xs, List.forall_mem_cons.mpr ⟨so_S_init_60 l D AC b z L xs, List.forall_mem_cons.mpr ⟨so_S_init_61 l D AC b z L xs, List.forall_mem_cons.mpr ⟨so_S_init_62 l D AC b z L xs, List.forall_mem_cons.mpr ⟨so_S_init_65 l D AC b z L xs, fun _ h => absurd h List.not_mem_nil⟩⟩⟩⟩⟩⟩⟩⟩⟩⟩⟩⟩⟩⟩⟩⟩⟩⟩⟩⟩⟩⟩⟩⟩⟩⟩⟩⟩⟩⟩⟩⟩
theorem so_S_node_0 : Snd l D AC b z L xs Gm j_S_node 0 (oIld 1 1) := sn_iload_n l D AC b z L xs Gm  dX8_node_0 rfl
theorem so_S_node_1 : Snd l D AC b z L xs Gm j_S_node 1 (oIld 2 2) := sn_iload_n l D AC b z L xs Gm  dX8_node_1 rfl
theorem so_S_node_2 : Snd l D AC b z L xs Gm j_S_node 2 (oCallS j_S_isPlace 2 (mL j_S_isPlace) 5) := sn_callS l D AC b z L xs Gm  dX8_node_2 rfl (hs0 (fun _ => rfl) rfl) cal_S_node_S_isPlace rfl tw_340 tw_341
theorem so_S_node_5 : Snd l D AC b z L xs Gm j_S_node 5 (oIf (fun x => decide (x = 0)) 15 8) := sn_if_eq l D AC b z L xs Gm  dX8_node_5 (by decide)
theorem so_S_node_8 : Snd l D AC b z L xs Gm j_S_node 8 (oIld 3 9) := sn_iload_n l D AC b z L xs Gm  dX8_node_8 rfl
theorem so_S_node_9 : Snd l D AC b z L xs Gm j_S_node 9 (oCallS j_S_isReach 1 (mL j_S_isReach) 12) := sn_callS l D AC b z L xs Gm  dX8_node_9 rfl (hs0 (fun _ => rfl) rfl) cal_S_node_S_isReach rfl tw_346 tw_347
theorem so_S_node_12 : Snd l D AC b z L xs Gm j_S_node 12 (oIf (fun x => decide (¬ x = 0)) 25 15) := sn_if_ne l D AC b z L xs Gm  dX8_node_12 (by decide)
theorem so_S_node_15 : Snd l D AC b z L xs Gm j_S_node 15 (oThr cM sM 0 kc_IllegalArgumentException) := sn_throw (T0 := kT0) (nms := kNms) (text := "x or y is not 0 to 29, or reach not 1 to 42") l D AC b z L xs Gm  rfl rfl rfl (by decide) (by decide) (by decide) rfl kfit_0 kfit_n tw_349 tw_34 (List.mem_of_getElem? (i := 0) rfl) khg_0_57 (List.mem_of_getElem? (i := 0) rfl) khn_0_57 kho_0_57 rfl dX8_node_15 dX8_node_18 (Or.inl ⟨dX8_node_19, dX8_node_21, dX8_node_24⟩)
theorem so_S_node_25 : Snd l D AC b z L xs Gm j_S_node 25 (oAld 0 26) := sn_aload_n l D AC b z L xs Gm  dX8_node_25 rfl
theorem so_S_node_26 : Snd l D AC b z L xs Gm j_S_node 26 (oGetR kc_S 0 29) := sn_getR l D AC b z L xs Gm  dX8_node_26 rfl (by decide) rfl (by decide) kin_8 tw_320
theorem so_S_node_29 : Snd l D AC b z L xs Gm j_S_node 29 (oGetI kc_Land 2 32) := sn_getI l D AC b z L xs Gm  dX8_node_29 rfl (by decide) rfl (by decide) kin_2 tw_212
theorem so_S_node_32 : Snd l D AC b z L xs Gm j_S_node 32 (oI 8 34) := sn_bipush l D AC b z L xs Gm  dX8_node_32 (by decide)
theorem so_S_node_34 : Snd l D AC b z L xs Gm j_S_node 34 (oIC (fun x y => decide (x < y)) 47 37) := sn_icmp_lt l D AC b z L xs Gm  dX8_node_34 (by decide)
theorem so_S_node_37 : Snd l D AC b z L xs Gm j_S_node 37 (oThr cM sM 1 kc_IllegalStateException) := sn_throw (T0 := kT0) (nms := kNms) (text := "there are 8 nodes") l D AC b z L xs Gm  rfl rfl rfl (by decide) (by decide) (by decide) rfl kfit_1 kfit_n tw_417 tw_35 (List.mem_of_getElem? (i := 1) rfl) khg_1_67 (List.mem_of_getElem? (i := 1) rfl) khn_1_67 kho_1_67 rfl dX8_node_37 dX8_node_40 (Or.inl ⟨dX8_node_41, dX8_node_43, dX8_node_46⟩)
theorem so_S_node_47 : Snd l D AC b z L xs Gm j_S_node 47 (oAld 0 48) := sn_aload_n l D AC b z L xs Gm  dX8_node_47 rfl
theorem so_S_node_48 : Snd l D AC b z L xs Gm j_S_node 48 (oGetR kc_S 0 51) := sn_getR l D AC b z L xs Gm  dX8_node_48 rfl (by decide) rfl (by decide) kin_8 tw_320
theorem so_S_node_51 : Snd l D AC b z L xs Gm j_S_node 51 (oIld 1 52) := sn_iload_n l D AC b z L xs Gm  dX8_node_51 rfl
theorem so_S_node_52 : Snd l D AC b z L xs Gm j_S_node 52 (oIld 2 53) := sn_iload_n l D AC b z L xs Gm  dX8_node_52 rfl
theorem so_S_node_53 : Snd l D AC b z L xs Gm j_S_node 53 (oIld 3 54) := sn_iload_n l D AC b z L xs Gm  dX8_node_53 rfl
theorem so_S_node_54 : Snd l D AC b z L xs Gm j_S_node 54 (oIld 4 56) := sn_iload l D AC b z L xs Gm  dX8_node_54
theorem so_S_node_56 : Snd l D AC b z L xs Gm j_S_node 56 (oCallV kc_Land j_Land_add 4 (mL j_Land_add) 59) := sn_callV l D AC b z L xs Gm  dX8_node_56 rfl (hs0 (fun _ => rfl) rfl) cal_S_node_Land_add rfl rfl (by decide) rfl tw_433 tw_434 tw_435
theorem so_S_node_59 : Snd l D AC b z L xs Gm j_S_node 59 (oRetI) := sn_retI l D AC b z L xs Gm  dX8_node_59 rfl
set_option maxRecDepth 100000 in
theorem so_S_node : ∀ q ∈ tb_S_node, Snd l D AC b z L xs Gm j_S_node q.1 q.2 := by
  unfold tb_S_node
  exact List.forall_mem_cons.mpr ⟨so_S_node_0 l D AC b z L xs, List.forall_mem_cons.mpr ⟨so_S_node_1 l D AC b z L xs, List.forall_mem_cons.mpr ⟨so_S_node_2 l D AC b z L xs, List.forall_mem_cons.mpr ⟨so_S_node_5 l D AC b z L xs, List.forall_mem_cons.mpr ⟨so_S_node_8 l D AC b z L xs, List.forall_mem_cons.mpr ⟨so_S_node_9 l D AC b z L xs, List.forall_mem_cons.mpr ⟨so_S_node_12 l D AC b z L xs, List.forall_mem_cons.mpr ⟨so_S_node_15 l D AC b z L xs, List.forall_mem_cons.mpr ⟨so_S_node_25 l D AC b z L xs, List.forall_mem_cons.mpr ⟨so_S_node_26 l D AC b z L xs, List.forall_mem_cons.mpr ⟨so_S_node_29 l D AC b z L xs, List.forall_mem_cons.mpr ⟨so_S_node_32 l D AC b z L xs, List.forall_mem_cons.mpr ⟨so_S_node_34 l D AC b z L xs, List.forall_mem_cons.mpr ⟨so_S_node_37 l D AC b z L xs, List.forall_mem_cons.mpr ⟨so_S_node_47 l D AC b z L xs, List.forall_mem_cons.mpr ⟨so_S_node_48 l D AC b z L xs, List.forall_mem_cons.mpr ⟨so_S_node_51 l D AC b z L xs, List.forall_mem_cons.mpr ⟨so_S_node_52 l D AC b z L xs, List.forall_mem_cons.mpr ⟨so_S_node_53 l D AC b z L xs, List.forall_mem_cons.mpr ⟨so_S_node_54 l D AC b z L xs, List.forall_mem_cons.mpr ⟨so_S_node_56 l D AC b z L xs, List.forall_mem_cons.mpr ⟨so_S_node_59 l D AC b z L xs, fun _ h => absurd h List.not_mem_nil⟩⟩⟩⟩⟩⟩⟩⟩⟩⟩⟩⟩⟩⟩⟩⟩⟩⟩⟩⟩⟩⟩
theorem so_S_move_0 : Snd l D AC b z L xs Gm j_S_move 0 (oAld 0 1) := sn_aload_n l D AC b z L xs Gm  dX8_move_0 rfl
theorem so_S_move_1 : Snd l D AC b z L xs Gm j_S_move 1 (oIld 1 2) := sn_iload_n l D AC b z L xs Gm  dX8_move_1 rfl
theorem so_S_move_2 : Snd l D AC b z L xs Gm j_S_move 2 (oCallV kc_S j_S_checkNode 1 (mL j_S_checkNode) 5) := sn_callV l D AC b z L xs Gm  dX8_move_2 rfl (hs0 (fun _ => rfl) rfl) cal_S_move_S_checkNode rfl rfl (by decide) rfl tw_489 tw_491 tw_4
theorem so_S_move_5 : Snd l D AC b z L xs Gm j_S_move 5 (oIld 2 6) := sn_iload_n l D AC b z L xs Gm  dX8_move_5 rfl
theorem so_S_move_6 : Snd l D AC b z L xs Gm j_S_move 6 (oIld 3 7) := sn_iload_n l D AC b z L xs Gm  dX8_move_6 rfl
theorem so_S_move_7 : Snd l D AC b z L xs Gm j_S_move 7 (oCallS j_S_isPlace 2 (mL j_S_isPlace) 10) := sn_callS l D AC b z L xs Gm  dX8_move_7 rfl (hs0 (fun _ => rfl) rfl) cal_S_move_S_isPlace rfl tw_340 tw_341
theorem so_S_move_10 : Snd l D AC b z L xs Gm j_S_move 10 (oIf (fun x => decide (¬ x = 0)) 23 13) := sn_if_ne l D AC b z L xs Gm  dX8_move_10 (by decide)
theorem so_S_move_13 : Snd l D AC b z L xs Gm j_S_move 13 (oThr cM sM 0 kc_IllegalArgumentException) := sn_throw (T0 := kT0) (nms := kNms) (text := "x or y is not 0 to 29") l D AC b z L xs Gm  rfl rfl rfl (by decide) (by decide) (by decide) rfl kfit_0 kfit_n tw_349 tw_34 (List.mem_of_getElem? (i := 8) rfl) khg_0_57 (List.mem_of_getElem? (i := 0) rfl) khn_0_57 kho_0_57 rfl dX8_move_13 dX8_move_16 (Or.inl ⟨dX8_move_17, dX8_move_19, dX8_move_22⟩)
theorem so_S_move_23 : Snd l D AC b z L xs Gm j_S_move 23 (oAld 0 24) := sn_aload_n l D AC b z L xs Gm  dX8_move_23 rfl
theorem so_S_move_24 : Snd l D AC b z L xs Gm j_S_move 24 (oIld 1 25) := sn_iload_n l D AC b z L xs Gm  dX8_move_24 rfl
theorem so_S_move_25 : Snd l D AC b z L xs Gm j_S_move 25 (oCallV kc_S j_S_checkSilent 1 (mL j_S_checkSilent) 28) := sn_callV l D AC b z L xs Gm  dX8_move_25 rfl (hs0 (fun _ => rfl) rfl) cal_S_move_S_checkSilent rfl rfl (by decide) rfl tw_591 tw_593 tw_6
theorem so_S_move_28 : Snd l D AC b z L xs Gm j_S_move 28 (oAld 0 29) := sn_aload_n l D AC b z L xs Gm  dX8_move_28 rfl
theorem so_S_move_29 : Snd l D AC b z L xs Gm j_S_move 29 (oGetR kc_S 0 32) := sn_getR l D AC b z L xs Gm  dX8_move_29 rfl (by decide) rfl (by decide) kin_8 tw_320
theorem so_S_move_32 : Snd l D AC b z L xs Gm j_S_move 32 (oIld 1 33) := sn_iload_n l D AC b z L xs Gm  dX8_move_32 rfl
theorem so_S_move_33 : Snd l D AC b z L xs Gm j_S_move 33 (oIld 2 34) := sn_iload_n l D AC b z L xs Gm  dX8_move_33 rfl
theorem so_S_move_34 : Snd l D AC b z L xs Gm j_S_move 34 (oIld 3 35) := sn_iload_n l D AC b z L xs Gm  dX8_move_34 rfl
theorem so_S_move_35 : Snd l D AC b z L xs Gm j_S_move 35 (oCallV kc_Land j_Land_put 3 (mL j_Land_put) 38) := sn_callV l D AC b z L xs Gm  dX8_move_35 rfl (hs0 (fun _ => rfl) rfl) cal_S_move_Land_put rfl rfl (by decide) rfl tw_597 tw_598 tw_599
theorem so_S_move_38 : Snd l D AC b z L xs Gm j_S_move 38 (oAld 0 39) := sn_aload_n l D AC b z L xs Gm  dX8_move_38 rfl
theorem so_S_move_39 : Snd l D AC b z L xs Gm j_S_move 39 (oGetR kc_S 0 42) := sn_getR l D AC b z L xs Gm  dX8_move_39 rfl (by decide) rfl (by decide) kin_8 tw_320
theorem so_S_move_42 : Snd l D AC b z L xs Gm j_S_move 42 (oIld 1 43) := sn_iload_n l D AC b z L xs Gm  dX8_move_42 rfl
theorem so_S_move_43 : Snd l D AC b z L xs Gm j_S_move 43 (oCallV kc_Land j_Land_linkedWith 1 (mL j_Land_linkedWith) 46) := sn_callV l D AC b z L xs Gm  dX8_move_43 rfl (hs0 (fun _ => rfl) rfl) cal_S_move_Land_linkedWith rfl rfl (by decide) rfl tw_516 tw_517 tw_518
theorem so_S_move_46 : Snd l D AC b z L xs Gm j_S_move 46 (oCallS j_Integer_bitCount 1 (mL j_Integer_bitCount) 49) := sn_callS l D AC b z L xs Gm  dX8_move_46 rfl (hs0 (fun _ => rfl) rfl) cal_S_move_Integer_bitCount rfl tw_534 tw_535
theorem so_S_move_49 : Snd l D AC b z L xs Gm j_S_move 49 (oRetI) := sn_retI l D AC b z L xs Gm  dX8_move_49 rfl
set_option maxRecDepth 100000 in
theorem so_S_move : ∀ q ∈ tb_S_move, Snd l D AC b z L xs Gm j_S_move q.1 q.2 := by
  unfold tb_S_move
  exact List.forall_mem_cons.mpr ⟨so_S_move_0 l D AC b z L xs, List.forall_mem_cons.mpr ⟨so_S_move_1 l D AC b z L xs, List.forall_mem_cons.mpr ⟨so_S_move_2 l D AC b z L xs, List.forall_mem_cons.mpr ⟨so_S_move_5 l D AC b z L xs, List.forall_mem_cons.mpr ⟨so_S_move_6 l D AC b z L xs, List.forall_mem_cons.mpr ⟨so_S_move_7 l D AC b z L xs, List.forall_mem_cons.mpr ⟨so_S_move_10 l D AC b z L xs, List.forall_mem_cons.mpr ⟨so_S_move_13 l D AC b z L xs, List.forall_mem_cons.mpr ⟨so_S_move_23 l D AC b z L xs, List.forall_mem_cons.mpr ⟨so_S_move_24 l D AC b z L xs, List.forall_mem_cons.mpr ⟨so_S_move_25 l D AC b z L xs, List.forall_mem_cons.mpr ⟨so_S_move_28 l D AC b z L xs, List.forall_mem_cons.mpr ⟨so_S_move_29 l D AC b z L xs, List.forall_mem_cons.mpr ⟨so_S_move_32 l D AC b z L xs, List.forall_mem_cons.mpr ⟨so_S_move_33 l D AC b z L xs, List.forall_mem_cons.mpr ⟨so_S_move_34 l D AC b z L xs, List.forall_mem_cons.mpr ⟨so_S_move_35 l D AC b z L xs, List.forall_mem_cons.mpr ⟨so_S_move_38 l D AC b z L xs, List.forall_mem_cons.mpr ⟨so_S_move_39 l D AC b z L xs, List.forall_mem_cons.mpr ⟨so_S_move_42 l D AC b z L xs, List.forall_mem_cons.mpr ⟨so_S_move_43 l D AC b z L xs, List.forall_mem_cons.mpr ⟨so_S_move_46 l D AC b z L xs, List.forall_mem_cons.mpr ⟨so_S_move_49 l D AC b z L xs, fun _ h => absurd h List.not_mem_nil⟩⟩⟩⟩⟩⟩⟩⟩⟩⟩⟩⟩⟩⟩⟩⟩⟩⟩⟩⟩⟩⟩⟩
theorem so_S_tune_0 : Snd l D AC b z L xs Gm j_S_tune 0 (oAld 0 1) := sn_aload_n l D AC b z L xs Gm  dX8_tune_0 rfl
theorem so_S_tune_1 : Snd l D AC b z L xs Gm j_S_tune 1 (oIld 1 2) := sn_iload_n l D AC b z L xs Gm  dX8_tune_1 rfl
theorem so_S_tune_2 : Snd l D AC b z L xs Gm j_S_tune 2 (oCallV kc_S j_S_checkNode 1 (mL j_S_checkNode) 5) := sn_callV l D AC b z L xs Gm  dX8_tune_2 rfl (hs0 (fun _ => rfl) rfl) cal_S_tune_S_checkNode rfl rfl (by decide) rfl tw_489 tw_491 tw_4
theorem so_S_tune_5 : Snd l D AC b z L xs Gm j_S_tune 5 (oIld 2 6) := sn_iload_n l D AC b z L xs Gm  dX8_tune_5 rfl
theorem so_S_tune_6 : Snd l D AC b z L xs Gm j_S_tune 6 (oCallS j_S_isReach 1 (mL j_S_isReach) 9) := sn_callS l D AC b z L xs Gm  dX8_tune_6 rfl (hs0 (fun _ => rfl) rfl) cal_S_tune_S_isReach rfl tw_346 tw_347
theorem so_S_tune_9 : Snd l D AC b z L xs Gm j_S_tune 9 (oIf (fun x => decide (¬ x = 0)) 22 12) := sn_if_ne l D AC b z L xs Gm  dX8_tune_9 (by decide)
theorem so_S_tune_12 : Snd l D AC b z L xs Gm j_S_tune 12 (oThr cM sM 0 kc_IllegalArgumentException) := sn_throw (T0 := kT0) (nms := kNms) (text := "reach is not 1 to 42") l D AC b z L xs Gm  rfl rfl rfl (by decide) (by decide) (by decide) rfl kfit_0 kfit_n tw_349 tw_34 (List.mem_of_getElem? (i := 10) rfl) khg_0_57 (List.mem_of_getElem? (i := 0) rfl) khn_0_57 kho_0_57 rfl dX8_tune_12 dX8_tune_15 (Or.inl ⟨dX8_tune_16, dX8_tune_18, dX8_tune_21⟩)
theorem so_S_tune_22 : Snd l D AC b z L xs Gm j_S_tune 22 (oAld 0 23) := sn_aload_n l D AC b z L xs Gm  dX8_tune_22 rfl
theorem so_S_tune_23 : Snd l D AC b z L xs Gm j_S_tune 23 (oIld 1 24) := sn_iload_n l D AC b z L xs Gm  dX8_tune_23 rfl
theorem so_S_tune_24 : Snd l D AC b z L xs Gm j_S_tune 24 (oCallV kc_S j_S_checkSilent 1 (mL j_S_checkSilent) 27) := sn_callV l D AC b z L xs Gm  dX8_tune_24 rfl (hs0 (fun _ => rfl) rfl) cal_S_tune_S_checkSilent rfl rfl (by decide) rfl tw_591 tw_593 tw_6
theorem so_S_tune_27 : Snd l D AC b z L xs Gm j_S_tune 27 (oAld 0 28) := sn_aload_n l D AC b z L xs Gm  dX8_tune_27 rfl
theorem so_S_tune_28 : Snd l D AC b z L xs Gm j_S_tune 28 (oGetR kc_S 0 31) := sn_getR l D AC b z L xs Gm  dX8_tune_28 rfl (by decide) rfl (by decide) kin_8 tw_320
theorem so_S_tune_31 : Snd l D AC b z L xs Gm j_S_tune 31 (oGetR kc_Land 0 34) := sn_getR l D AC b z L xs Gm  dX8_tune_31 rfl (by decide) rfl (by decide) kin_2 tw_208
theorem so_S_tune_34 : Snd l D AC b z L xs Gm j_S_tune 34 (oIld 1 35) := sn_iload_n l D AC b z L xs Gm  dX8_tune_34 rfl
theorem so_S_tune_35 : Snd l D AC b z L xs Gm j_S_tune 35 (oAal 2 36) := sn_aaload l D AC b z L xs Gm  dX8_tune_35 (by decide) rfl rfl (by decide)
theorem so_S_tune_36 : Snd l D AC b z L xs Gm j_S_tune 36 (oGetI kc_Node 2 39) := sn_getI l D AC b z L xs Gm  dX8_tune_36 rfl (by decide) rfl (by decide) kin_4 tw_133
theorem so_S_tune_39 : Snd l D AC b z L xs Gm j_S_tune 39 (oIst 4 41) := sn_istore l D AC b z L xs Gm  dX8_tune_39 (by decide)
theorem so_S_tune_41 : Snd l D AC b z L xs Gm j_S_tune 41 (oAld 0 42) := sn_aload_n l D AC b z L xs Gm  dX8_tune_41 rfl
theorem so_S_tune_42 : Snd l D AC b z L xs Gm j_S_tune 42 (oGetR kc_S 0 45) := sn_getR l D AC b z L xs Gm  dX8_tune_42 rfl (by decide) rfl (by decide) kin_8 tw_320
theorem so_S_tune_45 : Snd l D AC b z L xs Gm j_S_tune 45 (oIld 1 46) := sn_iload_n l D AC b z L xs Gm  dX8_tune_45 rfl
theorem so_S_tune_46 : Snd l D AC b z L xs Gm j_S_tune 46 (oIld 2 47) := sn_iload_n l D AC b z L xs Gm  dX8_tune_46 rfl
theorem so_S_tune_47 : Snd l D AC b z L xs Gm j_S_tune 47 (oIld 3 48) := sn_iload_n l D AC b z L xs Gm  dX8_tune_47 rfl
theorem so_S_tune_48 : Snd l D AC b z L xs Gm j_S_tune 48 (oCallV kc_Land j_Land_adjust 3 (mL j_Land_adjust) 51) := sn_callV l D AC b z L xs Gm  dX8_tune_48 rfl (hs0 (fun _ => rfl) rfl) cal_S_tune_Land_adjust rfl rfl (by decide) rfl tw_606 tw_438 tw_439
theorem so_S_tune_51 : Snd l D AC b z L xs Gm j_S_tune 51 (oIld 4 53) := sn_iload l D AC b z L xs Gm  dX8_tune_51
theorem so_S_tune_53 : Snd l D AC b z L xs Gm j_S_tune 53 (oRetI) := sn_retI l D AC b z L xs Gm  dX8_tune_53 rfl
set_option maxRecDepth 100000 in
theorem so_S_tune : ∀ q ∈ tb_S_tune, Snd l D AC b z L xs Gm j_S_tune q.1 q.2 := by
  unfold tb_S_tune
  exact List.forall_mem_cons.mpr ⟨so_S_tune_0 l D AC b z L xs, List.forall_mem_cons.mpr ⟨so_S_tune_1 l D AC b z L xs, List.forall_mem_cons.mpr ⟨so_S_tune_2 l D AC b z L xs, List.forall_mem_cons.mpr ⟨so_S_tune_5 l D AC b z L xs, List.forall_mem_cons.mpr ⟨so_S_tune_6 l D AC b z L xs, List.forall_mem_cons.mpr ⟨so_S_tune_9 l D AC b z L xs, List.forall_mem_cons.mpr ⟨so_S_tune_12 l D AC b z L xs, List.forall_mem_cons.mpr ⟨so_S_tune_22 l D AC b z L xs, List.forall_mem_cons.mpr ⟨so_S_tune_23 l D AC b z L xs, List.forall_mem_cons.mpr ⟨so_S_tune_24 l D AC b z L xs, List.forall_mem_cons.mpr ⟨so_S_tune_27 l D AC b z L xs, List.forall_mem_cons.mpr ⟨so_S_tune_28 l D AC b z L xs, List.forall_mem_cons.mpr ⟨so_S_tune_31 l D AC b z L xs, List.forall_mem_cons.mpr ⟨so_S_tune_34 l D AC b z L xs, List.forall_mem_cons.mpr ⟨so_S_tune_35 l D AC b z L xs, List.forall_mem_cons.mpr ⟨so_S_tune_36 l D AC b z L xs, List.forall_mem_cons.mpr ⟨so_S_tune_39 l D AC b z L xs, List.forall_mem_cons.mpr ⟨so_S_tune_41 l D AC b z L xs, List.forall_mem_cons.mpr ⟨so_S_tune_42 l D AC b z L xs, List.forall_mem_cons.mpr ⟨so_S_tune_45 l D AC b z L xs, List.forall_mem_cons.mpr ⟨so_S_tune_46 l D AC b z L xs, List.forall_mem_cons.mpr ⟨so_S_tune_47 l D AC b z L xs, List.forall_mem_cons.mpr ⟨so_S_tune_48 l D AC b z L xs, List.forall_mem_cons.mpr ⟨so_S_tune_51 l D AC b z L xs, List.forall_mem_cons.mpr ⟨so_S_tune_53 l D AC b z L xs, fun _ h => absurd h List.not_mem_nil⟩⟩⟩⟩⟩⟩⟩⟩⟩⟩⟩⟩⟩⟩⟩⟩⟩⟩⟩⟩⟩⟩⟩⟩⟩
theorem so_S_send_0 : Snd l D AC b z L xs Gm j_S_send 0 (oAld 0 1) := sn_aload_n l D AC b z L xs Gm  dX8_send_0 rfl
theorem so_S_send_1 : Snd l D AC b z L xs Gm j_S_send 1 (oIld 1 2) := sn_iload_n l D AC b z L xs Gm  dX8_send_1 rfl
theorem so_S_send_2 : Snd l D AC b z L xs Gm j_S_send 2 (oCallV kc_S j_S_checkNode 1 (mL j_S_checkNode) 5) := sn_callV l D AC b z L xs Gm  dX8_send_2 rfl (hs0 (fun _ => rfl) rfl) cal_S_send_S_checkNode rfl rfl (by decide) rfl tw_489 tw_491 tw_4
theorem so_S_send_5 : Snd l D AC b z L xs Gm j_S_send 5 (oAld 0 6) := sn_aload_n l D AC b z L xs Gm  dX8_send_5 rfl
theorem so_S_send_6 : Snd l D AC b z L xs Gm j_S_send 6 (oIld 2 7) := sn_iload_n l D AC b z L xs Gm  dX8_send_6 rfl
theorem so_S_send_7 : Snd l D AC b z L xs Gm j_S_send 7 (oCallV kc_S j_S_checkNode 1 (mL j_S_checkNode) 10) := sn_callV l D AC b z L xs Gm  dX8_send_7 rfl (hs0 (fun _ => rfl) rfl) cal_S_send_S_checkNode rfl rfl (by decide) rfl tw_489 tw_491 tw_4
theorem so_S_send_10 : Snd l D AC b z L xs Gm j_S_send 10 (oIld 1 11) := sn_iload_n l D AC b z L xs Gm  dX8_send_10 rfl
theorem so_S_send_11 : Snd l D AC b z L xs Gm j_S_send 11 (oIld 2 12) := sn_iload_n l D AC b z L xs Gm  dX8_send_11 rfl
theorem so_S_send_12 : Snd l D AC b z L xs Gm j_S_send 12 (oIC (fun x y => decide (x = y)) 24 15) := sn_icmp_eq l D AC b z L xs Gm  dX8_send_12 (by decide)
theorem so_S_send_15 : Snd l D AC b z L xs Gm j_S_send 15 (oIld 3 16) := sn_iload_n l D AC b z L xs Gm  dX8_send_15 rfl
theorem so_S_send_16 : Snd l D AC b z L xs Gm j_S_send 16 (oI 1 17) := sn_iconst l D AC b z L xs Gm  dX8_send_16 (by decide)
theorem so_S_send_17 : Snd l D AC b z L xs Gm j_S_send 17 (oI 3 18) := sn_iconst l D AC b z L xs Gm  dX8_send_17 (by decide)
theorem so_S_send_18 : Snd l D AC b z L xs Gm j_S_send 18 (oCallS j_S_isWithin 3 (mL j_S_isWithin) 21) := sn_callS l D AC b z L xs Gm  dX8_send_18 rfl (hs0 (fun _ => rfl) rfl) cal_S_send_S_isWithin rfl tw_343 tw_344
theorem so_S_send_21 : Snd l D AC b z L xs Gm j_S_send 21 (oIf (fun x => decide (¬ x = 0)) 34 24) := sn_if_ne l D AC b z L xs Gm  dX8_send_21 (by decide)
theorem so_S_send_24 : Snd l D AC b z L xs Gm j_S_send 24 (oThr cM sM 0 kc_IllegalArgumentException) := sn_throw (T0 := kT0) (nms := kNms) (text := "both nodes are the same, or length is not 1 to 3") l D AC b z L xs Gm  rfl rfl rfl (by decide) (by decide) (by decide) rfl kfit_0 kfit_n tw_349 tw_34 (List.mem_of_getElem? (i := 6) rfl) khg_0_57 (List.mem_of_getElem? (i := 0) rfl) khn_0_57 kho_0_57 rfl dX8_send_24 dX8_send_27 (Or.inl ⟨dX8_send_28, dX8_send_30, dX8_send_33⟩)
theorem so_S_send_34 : Snd l D AC b z L xs Gm j_S_send 34 (oAld 0 35) := sn_aload_n l D AC b z L xs Gm  dX8_send_34 rfl
theorem so_S_send_35 : Snd l D AC b z L xs Gm j_S_send 35 (oGetR kc_S 0 38) := sn_getR l D AC b z L xs Gm  dX8_send_35 rfl (by decide) rfl (by decide) kin_8 tw_320
theorem so_S_send_38 : Snd l D AC b z L xs Gm j_S_send 38 (oGetR kc_Land 0 41) := sn_getR l D AC b z L xs Gm  dX8_send_38 rfl (by decide) rfl (by decide) kin_2 tw_208
theorem so_S_send_41 : Snd l D AC b z L xs Gm j_S_send 41 (oIld 1 42) := sn_iload_n l D AC b z L xs Gm  dX8_send_41 rfl
theorem so_S_send_42 : Snd l D AC b z L xs Gm j_S_send 42 (oAal 2 43) := sn_aaload l D AC b z L xs Gm  dX8_send_42 (by decide) rfl rfl (by decide)
theorem so_S_send_43 : Snd l D AC b z L xs Gm j_S_send 43 (oAst 4 45) := sn_astore l D AC b z L xs Gm  dX8_send_43 (by decide)
theorem so_S_send_45 : Snd l D AC b z L xs Gm j_S_send 45 (oAld 4 47) := sn_aload l D AC b z L xs Gm  dX8_send_45
theorem so_S_send_47 : Snd l D AC b z L xs Gm j_S_send 47 (oGetI kc_Node 14 50) := sn_getI l D AC b z L xs Gm  dX8_send_47 rfl (by decide) rfl (by decide) kin_4 tw_169
theorem so_S_send_50 : Snd l D AC b z L xs Gm j_S_send 50 (oIst 5 52) := sn_istore l D AC b z L xs Gm  dX8_send_50 (by decide)
theorem so_S_send_52 : Snd l D AC b z L xs Gm j_S_send 52 (oAld 4 54) := sn_aload l D AC b z L xs Gm  dX8_send_52
theorem so_S_send_54 : Snd l D AC b z L xs Gm j_S_send 54 (oGetR kc_Node 4 57) := sn_getR l D AC b z L xs Gm  dX8_send_54 rfl (by decide) rfl (by decide) kin_4 tw_141
theorem so_S_send_57 : Snd l D AC b z L xs Gm j_S_send 57 (oIld 1 58) := sn_iload_n l D AC b z L xs Gm  dX8_send_57 rfl
theorem so_S_send_58 : Snd l D AC b z L xs Gm j_S_send 58 (oIld 2 59) := sn_iload_n l D AC b z L xs Gm  dX8_send_58 rfl
theorem so_S_send_59 : Snd l D AC b z L xs Gm j_S_send 59 (oIld 3 60) := sn_iload_n l D AC b z L xs Gm  dX8_send_59 rfl
theorem so_S_send_60 : Snd l D AC b z L xs Gm j_S_send 60 (oIld 5 62) := sn_iload l D AC b z L xs Gm  dX8_send_60
theorem so_S_send_62 : Snd l D AC b z L xs Gm j_S_send 62 (oI 0 63) := sn_iconst l D AC b z L xs Gm  dX8_send_62 (by decide)
theorem so_S_send_63 : Snd l D AC b z L xs Gm j_S_send 63 (oCallV kc_FrameQueue j_FrameQueue_add 5 (mL j_FrameQueue_add) 66) := sn_callV l D AC b z L xs Gm  dX8_send_63 rfl (hs0 (fun _ => rfl) rfl) cal_S_send_FrameQueue_add rfl rfl (by decide) rfl tw_581 tw_582 tw_583
theorem so_S_send_66 : Snd l D AC b z L xs Gm j_S_send 66 (oIf (fun x => decide (¬ x = 0)) 79 69) := sn_if_ne l D AC b z L xs Gm  dX8_send_66 (by decide)
theorem so_S_send_69 : Snd l D AC b z L xs Gm j_S_send 69 (oThr cM sM 1 kc_IllegalStateException) := sn_throw (T0 := kT0) (nms := kNms) (text := "the queue is full") l D AC b z L xs Gm  rfl rfl rfl (by decide) (by decide) (by decide) rfl kfit_1 kfit_n tw_417 tw_35 (List.mem_of_getElem? (i := 7) rfl) khg_1_67 (List.mem_of_getElem? (i := 1) rfl) khn_1_67 kho_1_67 rfl dX8_send_69 dX8_send_72 (Or.inl ⟨dX8_send_73, dX8_send_75, dX8_send_78⟩)
theorem so_S_send_79 : Snd l D AC b z L xs Gm j_S_send 79 (oAld 4 81) := sn_aload l D AC b z L xs Gm  dX8_send_79
theorem so_S_send_81 : Snd l D AC b z L xs Gm j_S_send 81 (oDup 82) := sn_dup l D AC b z L xs Gm  dX8_send_81
theorem so_S_send_82 : Snd l D AC b z L xs Gm j_S_send 82 (oGetI kc_Node 14 85) := sn_getI l D AC b z L xs Gm  dX8_send_82 rfl (by decide) rfl (by decide) kin_4 tw_169
theorem so_S_send_85 : Snd l D AC b z L xs Gm j_S_send 85 (oI 1 86) := sn_iconst l D AC b z L xs Gm  dX8_send_85 (by decide)
theorem so_S_send_86 : Snd l D AC b z L xs Gm j_S_send 86 (oII (fun x y => x + y) 87) := sn_iadd l D AC b z L xs Gm  dX8_send_86
theorem so_S_send_87 : Snd l D AC b z L xs Gm j_S_send 87 (oPutI kc_Node 14 90) := sn_putI l D AC b z L xs Gm  dX8_send_87 rfl (by decide) rfl (by decide) kin_4 tyX4_ok nmX4 tw_169 rfl rfl
theorem so_S_send_90 : Snd l D AC b z L xs Gm j_S_send 90 (oIld 5 92) := sn_iload l D AC b z L xs Gm  dX8_send_90
theorem so_S_send_92 : Snd l D AC b z L xs Gm j_S_send 92 (oRetI) := sn_retI l D AC b z L xs Gm  dX8_send_92 rfl
set_option maxRecDepth 100000 in
theorem so_S_send : ∀ q ∈ tb_S_send, Snd l D AC b z L xs Gm j_S_send q.1 q.2 := by
  unfold tb_S_send
  exact List.forall_mem_cons.mpr ⟨so_S_send_0 l D AC b z L xs, List.forall_mem_cons.mpr ⟨so_S_send_1 l D AC b z L xs, List.forall_mem_cons.mpr ⟨so_S_send_2 l D AC b z L xs, List.forall_mem_cons.mpr ⟨so_S_send_5 l D AC b z L xs, List.forall_mem_cons.mpr ⟨so_S_send_6 l D AC b z L xs, List.forall_mem_cons.mpr ⟨so_S_send_7 l D AC b z L xs, List.forall_mem_cons.mpr ⟨so_S_send_10 l D AC b z L xs, List.forall_mem_cons.mpr ⟨so_S_send_11 l D AC b z L xs, List.forall_mem_cons.mpr ⟨so_S_send_12 l D AC b z L xs, List.forall_mem_cons.mpr ⟨so_S_send_15 l D AC b z L xs, List.forall_mem_cons.mpr ⟨so_S_send_16 l D AC b z L xs, List.forall_mem_cons.mpr ⟨so_S_send_17 l D AC b z L xs, List.forall_mem_cons.mpr ⟨so_S_send_18 l D AC b z L xs, List.forall_mem_cons.mpr ⟨so_S_send_21 l D AC b z L xs, List.forall_mem_cons.mpr ⟨so_S_send_24 l D AC b z L xs, List.forall_mem_cons.mpr ⟨so_S_send_34 l D AC b z L xs, List.forall_mem_cons.mpr ⟨so_S_send_35 l D AC b z L xs, List.forall_mem_cons.mpr ⟨so_S_send_38 l D AC b z L xs, List.forall_mem_cons.mpr ⟨so_S_send_41 l D AC b z L xs, List.forall_mem_cons.mpr ⟨so_S_send_42 l D AC b z L xs, List.forall_mem_cons.mpr ⟨so_S_send_43 l D AC b z L xs, List.forall_mem_cons.mpr ⟨so_S_send_45 l D AC b z L xs, List.forall_mem_cons.mpr ⟨so_S_send_47 l D AC b z L xs, List.forall_mem_cons.mpr ⟨so_S_send_50 l D AC b z L xs, List.forall_mem_cons.mpr ⟨so_S_send_52 l D AC b z L xs, List.forall_mem_cons.mpr ⟨so_S_send_54 l D AC b z L xs, List.forall_mem_cons.mpr ⟨so_S_send_57 l D AC b z L xs, List.forall_mem_cons.mpr ⟨so_S_send_58 l D AC b z L xs, List.forall_mem_cons.mpr ⟨so_S_send_59 l D AC b z L xs, List.forall_mem_cons.mpr ⟨so_S_send_60 l D AC b z L xs, List.forall_mem_cons.mpr ⟨so_S_send_62 l D AC b z L xs, List.forall_mem_cons.mpr ⟨so_S_send_63 l D AC b z L xs, List.forall_mem_cons.mpr ⟨so_S_send_66 l D AC b z L xs, List.forall_mem_cons.mpr ⟨so_S_send_69 l D AC b z L xs, List.forall_mem_cons.mpr ⟨so_S_send_79 l D AC b z L xs, List.forall_mem_cons.mpr ⟨so_S_send_81 l D AC b z L xs, List.forall_mem_cons.mpr ⟨so_S_send_82 l D AC b z L xs, List.forall_mem_cons.mpr ⟨so_S_send_85 l D AC b z L xs, List.forall_mem_cons.mpr ⟨so_S_send_86 l D AC b z L xs, List.forall_mem_cons.mpr ⟨so_S_send_87 l D AC b z L xs, List.forall_mem_cons.mpr ⟨so_S_send_90 l D AC b z L xs, List.forall_mem_cons.mpr ⟨so_S_send_92 l D AC b z L xs, fun _ h => absurd h List.not_mem_nil⟩⟩⟩⟩⟩⟩⟩⟩⟩⟩⟩⟩⟩⟩⟩⟩⟩⟩⟩⟩⟩⟩⟩⟩⟩⟩⟩⟩⟩⟩⟩⟩⟩⟩⟩⟩⟩⟩⟩⟩⟩⟩
theorem so_S_pass_0 : Snd l D AC b z L xs Gm j_S_pass 0 (oIld 1 1) := sn_iload_n l D AC b z L xs Gm  dX8_pass_0 rfl
theorem so_S_pass_1 : Snd l D AC b z L xs Gm j_S_pass 1 (oI 1 2) := sn_iconst l D AC b z L xs Gm  dX8_pass_1 (by decide)
theorem so_S_pass_2 : Snd l D AC b z L xs Gm j_S_pass 2 (oI 200 5) := sn_sipush l D AC b z L xs Gm  dX8_pass_2 (by decide)
theorem so_S_pass_5 : Snd l D AC b z L xs Gm j_S_pass 5 (oCallS j_S_isWithin 3 (mL j_S_isWithin) 8) := sn_callS l D AC b z L xs Gm  dX8_pass_5 rfl (hs0 (fun _ => rfl) rfl) cal_S_pass_S_isWithin rfl tw_343 tw_344
theorem so_S_pass_8 : Snd l D AC b z L xs Gm j_S_pass 8 (oIf (fun x => decide (¬ x = 0)) 21 11) := sn_if_ne l D AC b z L xs Gm  dX8_pass_8 (by decide)
theorem so_S_pass_11 : Snd l D AC b z L xs Gm j_S_pass 11 (oThr cM sM 0 kc_IllegalArgumentException) := sn_throw (T0 := kT0) (nms := kNms) (text := "slots is not 1 to 200") l D AC b z L xs Gm  rfl rfl rfl (by decide) (by decide) (by decide) rfl kfit_0 kfit_n tw_349 tw_34 (List.mem_of_getElem? (i := 13) rfl) khg_0_57 (List.mem_of_getElem? (i := 0) rfl) khn_0_57 kho_0_57 rfl dX8_pass_11 dX8_pass_14 (Or.inl ⟨dX8_pass_15, dX8_pass_17, dX8_pass_20⟩)
theorem so_S_pass_21 : Snd l D AC b z L xs Gm j_S_pass 21 (oAld 0 22) := sn_aload_n l D AC b z L xs Gm  dX8_pass_21 rfl
theorem so_S_pass_22 : Snd l D AC b z L xs Gm j_S_pass 22 (oGetR kc_S 2 25) := sn_getR l D AC b z L xs Gm  dX8_pass_22 rfl (by decide) rfl (by decide) kin_8 tw_322
theorem so_S_pass_25 : Snd l D AC b z L xs Gm j_S_pass 25 (oGetI kc_Traffic 2 28) := sn_getI l D AC b z L xs Gm  dX8_pass_25 rfl (by decide) rfl (by decide) kin_7 tw_258
theorem so_S_pass_28 : Snd l D AC b z L xs Gm j_S_pass 28 (oIld 1 29) := sn_iload_n l D AC b z L xs Gm  dX8_pass_28 rfl
theorem so_S_pass_29 : Snd l D AC b z L xs Gm j_S_pass 29 (oII (fun x y => x + y) 30) := sn_iadd l D AC b z L xs Gm  dX8_pass_29
theorem so_S_pass_30 : Snd l D AC b z L xs Gm j_S_pass 30 (oI 2000 33) := sn_sipush l D AC b z L xs Gm  dX8_pass_30 (by decide)
theorem so_S_pass_33 : Snd l D AC b z L xs Gm j_S_pass 33 (oIC (fun x y => decide (x ≤ y)) 46 36) := sn_icmp_le l D AC b z L xs Gm  dX8_pass_33 (by decide)
theorem so_S_pass_36 : Snd l D AC b z L xs Gm j_S_pass 36 (oThr cM sM 1 kc_IllegalStateException) := sn_throw (T0 := kT0) (nms := kNms) (text := "the slot would be above 2000") l D AC b z L xs Gm  rfl rfl rfl (by decide) (by decide) (by decide) rfl kfit_1 kfit_n tw_417 tw_35 (List.mem_of_getElem? (i := 14) rfl) khg_1_67 (List.mem_of_getElem? (i := 1) rfl) khn_1_67 kho_1_67 rfl dX8_pass_36 dX8_pass_39 (Or.inl ⟨dX8_pass_40, dX8_pass_42, dX8_pass_45⟩)
theorem so_S_pass_46 : Snd l D AC b z L xs Gm j_S_pass 46 (oI 0 47) := sn_iconst l D AC b z L xs Gm  dX8_pass_46 (by decide)
theorem so_S_pass_47 : Snd l D AC b z L xs Gm j_S_pass 47 (oIst 2 48) := sn_istore_n l D AC b z L xs Gm  dX8_pass_47 rfl (by decide)
theorem so_S_pass_48 : Snd l D AC b z L xs Gm j_S_pass 48 (oIld 2 49) := sn_iload_n l D AC b z L xs Gm  dX8_pass_48 rfl
theorem so_S_pass_49 : Snd l D AC b z L xs Gm j_S_pass 49 (oIld 1 50) := sn_iload_n l D AC b z L xs Gm  dX8_pass_49 rfl
theorem so_S_pass_50 : Snd l D AC b z L xs Gm j_S_pass 50 (oIC (fun x y => decide (y ≤ x)) 66 53) := sn_icmp_ge l D AC b z L xs Gm  dX8_pass_50 (by decide)
theorem so_S_pass_53 : Snd l D AC b z L xs Gm j_S_pass 53 (oAld 0 54) := sn_aload_n l D AC b z L xs Gm  dX8_pass_53 rfl
theorem so_S_pass_54 : Snd l D AC b z L xs Gm j_S_pass 54 (oGetR kc_S 2 57) := sn_getR l D AC b z L xs Gm  dX8_pass_54 rfl (by decide) rfl (by decide) kin_8 tw_322
theorem so_S_pass_57 : Snd l D AC b z L xs Gm j_S_pass 57 (oCallV kc_Traffic j_Traffic_goBy 0 (mL j_Traffic_goBy) 60) := sn_callV l D AC b z L xs Gm  dX8_pass_57 rfl (hs0 (fun _ => rfl) rfl) cal_S_pass_Traffic_goBy rfl rfl (by decide) rfl tw_648 tw_649 tw_650
theorem so_S_pass_60 : Snd l D AC b z L xs Gm j_S_pass 60 (oInc 2 1 63) := sn_iinc l D AC b z L xs Gm  dX8_pass_60 (by decide) (by decide)
theorem so_S_pass_63 : Snd l D AC b z L xs Gm j_S_pass 63 (oGo 48) := sn_goto l D AC b z L xs Gm  dX8_pass_63 (by decide)
theorem so_S_pass_66 : Snd l D AC b z L xs Gm j_S_pass 66 (oAld 0 67) := sn_aload_n l D AC b z L xs Gm  dX8_pass_66 rfl
theorem so_S_pass_67 : Snd l D AC b z L xs Gm j_S_pass 67 (oGetR kc_S 2 70) := sn_getR l D AC b z L xs Gm  dX8_pass_67 rfl (by decide) rfl (by decide) kin_8 tw_322
theorem so_S_pass_70 : Snd l D AC b z L xs Gm j_S_pass 70 (oGetI kc_Traffic 2 73) := sn_getI l D AC b z L xs Gm  dX8_pass_70 rfl (by decide) rfl (by decide) kin_7 tw_258
theorem so_S_pass_73 : Snd l D AC b z L xs Gm j_S_pass 73 (oRetI) := sn_retI l D AC b z L xs Gm  dX8_pass_73 rfl
set_option maxRecDepth 100000 in
theorem so_S_pass : ∀ q ∈ tb_S_pass, Snd l D AC b z L xs Gm j_S_pass q.1 q.2 := by
  unfold tb_S_pass
  exact List.forall_mem_cons.mpr ⟨so_S_pass_0 l D AC b z L xs, List.forall_mem_cons.mpr ⟨so_S_pass_1 l D AC b z L xs, List.forall_mem_cons.mpr ⟨so_S_pass_2 l D AC b z L xs, List.forall_mem_cons.mpr ⟨so_S_pass_5 l D AC b z L xs, List.forall_mem_cons.mpr ⟨so_S_pass_8 l D AC b z L xs, List.forall_mem_cons.mpr ⟨so_S_pass_11 l D AC b z L xs, List.forall_mem_cons.mpr ⟨so_S_pass_21 l D AC b z L xs, List.forall_mem_cons.mpr ⟨so_S_pass_22 l D AC b z L xs, List.forall_mem_cons.mpr ⟨so_S_pass_25 l D AC b z L xs, List.forall_mem_cons.mpr ⟨so_S_pass_28 l D AC b z L xs, List.forall_mem_cons.mpr ⟨so_S_pass_29 l D AC b z L xs, List.forall_mem_cons.mpr ⟨so_S_pass_30 l D AC b z L xs, List.forall_mem_cons.mpr ⟨so_S_pass_33 l D AC b z L xs, List.forall_mem_cons.mpr ⟨so_S_pass_36 l D AC b z L xs, List.forall_mem_cons.mpr ⟨so_S_pass_46 l D AC b z L xs, List.forall_mem_cons.mpr ⟨so_S_pass_47 l D AC b z L xs, List.forall_mem_cons.mpr ⟨so_S_pass_48 l D AC b z L xs, List.forall_mem_cons.mpr ⟨so_S_pass_49 l D AC b z L xs, List.forall_mem_cons.mpr ⟨so_S_pass_50 l D AC b z L xs, List.forall_mem_cons.mpr ⟨so_S_pass_53 l D AC b z L xs, List.forall_mem_cons.mpr ⟨so_S_pass_54 l D AC b z L xs, List.forall_mem_cons.mpr ⟨so_S_pass_57 l D AC b z L xs, List.forall_mem_cons.mpr ⟨so_S_pass_60 l D AC b z L xs, List.forall_mem_cons.mpr ⟨so_S_pass_63 l D AC b z L xs, List.forall_mem_cons.mpr ⟨so_S_pass_66 l D AC b z L xs, List.forall_mem_cons.mpr ⟨so_S_pass_67 l D AC b z L xs, List.forall_mem_cons.mpr ⟨so_S_pass_70 l D AC b z L xs, List.forall_mem_cons.mpr ⟨so_S_pass_73 l D AC b z L xs, fun _ h => absurd h List.not_mem_nil⟩⟩⟩⟩⟩⟩⟩⟩⟩⟩⟩⟩⟩⟩⟩⟩⟩⟩⟩⟩⟩⟩⟩⟩⟩⟩⟩⟩
theorem so_S_exchange_0 : Snd l D AC b z L xs Gm j_S_exchange 0 (oIld 1 1) := sn_iload_n l D AC b z L xs Gm  dX8_exchange_0 rfl
theorem so_S_exchange_1 : Snd l D AC b z L xs Gm j_S_exchange 1 (oI 1 2) := sn_iconst l D AC b z L xs Gm  dX8_exchange_1 (by decide)
theorem so_S_exchange_2 : Snd l D AC b z L xs Gm j_S_exchange 2 (oI 10 4) := sn_bipush l D AC b z L xs Gm  dX8_exchange_2 (by decide)
theorem so_S_exchange_4 : Snd l D AC b z L xs Gm j_S_exchange 4 (oCallS j_S_isWithin 3 (mL j_S_isWithin) 7) := sn_callS l D AC b z L xs Gm  dX8_exchange_4 rfl (hs0 (fun _ => rfl) rfl) cal_S_exchange_S_isWithin rfl tw_343 tw_344
theorem so_S_exchange_7 : Snd l D AC b z L xs Gm j_S_exchange 7 (oIf (fun x => decide (¬ x = 0)) 20 10) := sn_if_ne l D AC b z L xs Gm  dX8_exchange_7 (by decide)
theorem so_S_exchange_10 : Snd l D AC b z L xs Gm j_S_exchange 10 (oThr cM sM 0 kc_IllegalArgumentException) := sn_throw (T0 := kT0) (nms := kNms) (text := "times is not 1 to 10") l D AC b z L xs Gm  rfl rfl rfl (by decide) (by decide) (by decide) rfl kfit_0 kfit_n tw_349 tw_34 (List.mem_of_getElem? (i := 2) rfl) khg_0_57 (List.mem_of_getElem? (i := 0) rfl) khn_0_57 kho_0_57 rfl dX8_exchange_10 dX8_exchange_13 (Or.inl ⟨dX8_exchange_14, dX8_exchange_16, dX8_exchange_19⟩)
theorem so_S_exchange_20 : Snd l D AC b z L xs Gm j_S_exchange 20 (oI 0 21) := sn_iconst l D AC b z L xs Gm  dX8_exchange_20 (by decide)
theorem so_S_exchange_21 : Snd l D AC b z L xs Gm j_S_exchange 21 (oIst 2 22) := sn_istore_n l D AC b z L xs Gm  dX8_exchange_21 rfl (by decide)
theorem so_S_exchange_22 : Snd l D AC b z L xs Gm j_S_exchange 22 (oIld 2 23) := sn_iload_n l D AC b z L xs Gm  dX8_exchange_22 rfl
theorem so_S_exchange_23 : Snd l D AC b z L xs Gm j_S_exchange 23 (oIld 1 24) := sn_iload_n l D AC b z L xs Gm  dX8_exchange_23 rfl
theorem so_S_exchange_24 : Snd l D AC b z L xs Gm j_S_exchange 24 (oIC (fun x y => decide (y ≤ x)) 40 27) := sn_icmp_ge l D AC b z L xs Gm  dX8_exchange_24 (by decide)
theorem so_S_exchange_27 : Snd l D AC b z L xs Gm j_S_exchange 27 (oAld 0 28) := sn_aload_n l D AC b z L xs Gm  dX8_exchange_27 rfl
theorem so_S_exchange_28 : Snd l D AC b z L xs Gm j_S_exchange 28 (oGetR kc_S 1 31) := sn_getR l D AC b z L xs Gm  dX8_exchange_28 rfl (by decide) rfl (by decide) kin_8 tw_321
theorem so_S_exchange_31 : Snd l D AC b z L xs Gm j_S_exchange 31 (oCallV kc_Routes j_Routes_renew 0 (mL j_Routes_renew) 34) := sn_callV l D AC b z L xs Gm  dX8_exchange_31 rfl (hs0 (fun _ => rfl) rfl) cal_S_exchange_Routes_renew rfl rfl (by decide) rfl tw_454 tw_455 tw_456
theorem so_S_exchange_34 : Snd l D AC b z L xs Gm j_S_exchange 34 (oInc 2 1 37) := sn_iinc l D AC b z L xs Gm  dX8_exchange_34 (by decide) (by decide)
theorem so_S_exchange_37 : Snd l D AC b z L xs Gm j_S_exchange 37 (oGo 22) := sn_goto l D AC b z L xs Gm  dX8_exchange_37 (by decide)
theorem so_S_exchange_40 : Snd l D AC b z L xs Gm j_S_exchange 40 (oAld 0 41) := sn_aload_n l D AC b z L xs Gm  dX8_exchange_40 rfl
theorem so_S_exchange_41 : Snd l D AC b z L xs Gm j_S_exchange 41 (oGetR kc_S 1 44) := sn_getR l D AC b z L xs Gm  dX8_exchange_41 rfl (by decide) rfl (by decide) kin_8 tw_321
theorem so_S_exchange_44 : Snd l D AC b z L xs Gm j_S_exchange 44 (oCallV kc_Routes j_Routes_pairsWithRoute 0 (mL j_Routes_pairsWithRoute) 47) := sn_callV l D AC b z L xs Gm  dX8_exchange_44 rfl (hs0 (fun _ => rfl) rfl) cal_S_exchange_Routes_pairsWithRoute rfl rfl (by decide) rfl tw_481 tw_482 tw_483
theorem so_S_exchange_47 : Snd l D AC b z L xs Gm j_S_exchange 47 (oRetI) := sn_retI l D AC b z L xs Gm  dX8_exchange_47 rfl
set_option maxRecDepth 100000 in
theorem so_S_exchange : ∀ q ∈ tb_S_exchange, Snd l D AC b z L xs Gm j_S_exchange q.1 q.2 := by
  unfold tb_S_exchange
  exact List.forall_mem_cons.mpr ⟨so_S_exchange_0 l D AC b z L xs, List.forall_mem_cons.mpr ⟨so_S_exchange_1 l D AC b z L xs, List.forall_mem_cons.mpr ⟨so_S_exchange_2 l D AC b z L xs, List.forall_mem_cons.mpr ⟨so_S_exchange_4 l D AC b z L xs, List.forall_mem_cons.mpr ⟨so_S_exchange_7 l D AC b z L xs, List.forall_mem_cons.mpr ⟨so_S_exchange_10 l D AC b z L xs, List.forall_mem_cons.mpr ⟨so_S_exchange_20 l D AC b z L xs, List.forall_mem_cons.mpr ⟨so_S_exchange_21 l D AC b z L xs, List.forall_mem_cons.mpr ⟨so_S_exchange_22 l D AC b z L xs, List.forall_mem_cons.mpr ⟨so_S_exchange_23 l D AC b z L xs, List.forall_mem_cons.mpr ⟨so_S_exchange_24 l D AC b z L xs, List.forall_mem_cons.mpr ⟨so_S_exchange_27 l D AC b z L xs, List.forall_mem_cons.mpr ⟨so_S_exchange_28 l D AC b z L xs, List.forall_mem_cons.mpr ⟨so_S_exchange_31 l D AC b z L xs, List.forall_mem_cons.mpr ⟨so_S_exchange_34 l D AC b z L xs, List.forall_mem_cons.mpr ⟨so_S_exchange_37 l D AC b z L xs, List.forall_mem_cons.mpr ⟨so_S_exchange_40 l D AC b z L xs, List.forall_mem_cons.mpr ⟨so_S_exchange_41 l D AC b z L xs, List.forall_mem_cons.mpr ⟨so_S_exchange_44 l D AC b z L xs, List.forall_mem_cons.mpr ⟨so_S_exchange_47 l D AC b z L xs, fun _ h => absurd h List.not_mem_nil⟩⟩⟩⟩⟩⟩⟩⟩⟩⟩⟩⟩⟩⟩⟩⟩⟩⟩⟩⟩
theorem so_S_bid_0 : Snd l D AC b z L xs Gm j_S_bid 0 (oIld 1 1) := sn_iload_n l D AC b z L xs Gm  dX8_bid_0 rfl
theorem so_S_bid_1 : Snd l D AC b z L xs Gm j_S_bid 1 (oI 0 2) := sn_iconst l D AC b z L xs Gm  dX8_bid_1 (by decide)
theorem so_S_bid_2 : Snd l D AC b z L xs Gm j_S_bid 2 (oI 4 3) := sn_iconst l D AC b z L xs Gm  dX8_bid_2 (by decide)
theorem so_S_bid_3 : Snd l D AC b z L xs Gm j_S_bid 3 (oCallS j_S_isWithin 3 (mL j_S_isWithin) 6) := sn_callS l D AC b z L xs Gm  dX8_bid_3 rfl (hs0 (fun _ => rfl) rfl) cal_S_bid_S_isWithin rfl tw_343 tw_344
theorem so_S_bid_6 : Snd l D AC b z L xs Gm j_S_bid 6 (oIf (fun x => decide (x = 0)) 30 9) := sn_if_eq l D AC b z L xs Gm  dX8_bid_6 (by decide)
theorem so_S_bid_9 : Snd l D AC b z L xs Gm j_S_bid 9 (oIld 2 10) := sn_iload_n l D AC b z L xs Gm  dX8_bid_9 rfl
theorem so_S_bid_10 : Snd l D AC b z L xs Gm j_S_bid 10 (oI 1 11) := sn_iconst l D AC b z L xs Gm  dX8_bid_10 (by decide)
theorem so_S_bid_11 : Snd l D AC b z L xs Gm j_S_bid 11 (oI 63 13) := sn_bipush l D AC b z L xs Gm  dX8_bid_11 (by decide)
theorem so_S_bid_13 : Snd l D AC b z L xs Gm j_S_bid 13 (oCallS j_S_isWithin 3 (mL j_S_isWithin) 16) := sn_callS l D AC b z L xs Gm  dX8_bid_13 rfl (hs0 (fun _ => rfl) rfl) cal_S_bid_S_isWithin rfl tw_343 tw_344
theorem so_S_bid_16 : Snd l D AC b z L xs Gm j_S_bid 16 (oIf (fun x => decide (x = 0)) 30 19) := sn_if_eq l D AC b z L xs Gm  dX8_bid_16 (by decide)
theorem so_S_bid_19 : Snd l D AC b z L xs Gm j_S_bid 19 (oIld 3 20) := sn_iload_n l D AC b z L xs Gm  dX8_bid_19 rfl
theorem so_S_bid_20 : Snd l D AC b z L xs Gm j_S_bid 20 (oI 1 21) := sn_iconst l D AC b z L xs Gm  dX8_bid_20 (by decide)
theorem so_S_bid_21 : Snd l D AC b z L xs Gm j_S_bid 21 (oI 999 24) := sn_sipush l D AC b z L xs Gm  dX8_bid_21 (by decide)
theorem so_S_bid_24 : Snd l D AC b z L xs Gm j_S_bid 24 (oCallS j_S_isWithin 3 (mL j_S_isWithin) 27) := sn_callS l D AC b z L xs Gm  dX8_bid_24 rfl (hs0 (fun _ => rfl) rfl) cal_S_bid_S_isWithin rfl tw_343 tw_344
theorem so_S_bid_27 : Snd l D AC b z L xs Gm j_S_bid 27 (oIf (fun x => decide (¬ x = 0)) 40 30) := sn_if_ne l D AC b z L xs Gm  dX8_bid_27 (by decide)
theorem so_S_bid_30 : Snd l D AC b z L xs Gm j_S_bid 30 (oThr cM sM 0 kc_IllegalArgumentException) := sn_throw (T0 := kT0) (nms := kNms) (text := "bidder is not 0 to 4, channels not 1 to 63, or price not 1 to 999") l D AC b z L xs Gm  rfl rfl rfl (by decide) (by decide) (by decide) rfl kfit_0 kfit_n tw_349 tw_34 (List.mem_of_getElem? (i := 11) rfl) khg_0_57 (List.mem_of_getElem? (i := 0) rfl) khn_0_57 kho_0_57 rfl dX8_bid_30 dX8_bid_33 (Or.inl ⟨dX8_bid_34, dX8_bid_36, dX8_bid_39⟩)
theorem so_S_bid_40 : Snd l D AC b z L xs Gm j_S_bid 40 (oAld 0 41) := sn_aload_n l D AC b z L xs Gm  dX8_bid_40 rfl
theorem so_S_bid_41 : Snd l D AC b z L xs Gm j_S_bid 41 (oGetR kc_S 3 44) := sn_getR l D AC b z L xs Gm  dX8_bid_41 rfl (by decide) rfl (by decide) kin_8 tw_323
theorem so_S_bid_44 : Snd l D AC b z L xs Gm j_S_bid 44 (oGetI kc_Market 5 47) := sn_getI l D AC b z L xs Gm  dX8_bid_44 rfl (by decide) rfl (by decide) kin_3 tw_294
theorem so_S_bid_47 : Snd l D AC b z L xs Gm j_S_bid 47 (oI 10 49) := sn_bipush l D AC b z L xs Gm  dX8_bid_47 (by decide)
theorem so_S_bid_49 : Snd l D AC b z L xs Gm j_S_bid 49 (oIC (fun x y => decide (x < y)) 62 52) := sn_icmp_lt l D AC b z L xs Gm  dX8_bid_49 (by decide)
theorem so_S_bid_52 : Snd l D AC b z L xs Gm j_S_bid 52 (oThr cM sM 1 kc_IllegalStateException) := sn_throw (T0 := kT0) (nms := kNms) (text := "there are 10 bids") l D AC b z L xs Gm  rfl rfl rfl (by decide) (by decide) (by decide) rfl kfit_1 kfit_n tw_417 tw_35 (List.mem_of_getElem? (i := 12) rfl) khg_1_67 (List.mem_of_getElem? (i := 1) rfl) khn_1_67 kho_1_67 rfl dX8_bid_52 dX8_bid_55 (Or.inl ⟨dX8_bid_56, dX8_bid_58, dX8_bid_61⟩)
theorem so_S_bid_62 : Snd l D AC b z L xs Gm j_S_bid 62 (oAld 0 63) := sn_aload_n l D AC b z L xs Gm  dX8_bid_62 rfl
theorem so_S_bid_63 : Snd l D AC b z L xs Gm j_S_bid 63 (oGetR kc_S 3 66) := sn_getR l D AC b z L xs Gm  dX8_bid_63 rfl (by decide) rfl (by decide) kin_8 tw_323
theorem so_S_bid_66 : Snd l D AC b z L xs Gm j_S_bid 66 (oIld 1 67) := sn_iload_n l D AC b z L xs Gm  dX8_bid_66 rfl
theorem so_S_bid_67 : Snd l D AC b z L xs Gm j_S_bid 67 (oIld 2 68) := sn_iload_n l D AC b z L xs Gm  dX8_bid_67 rfl
theorem so_S_bid_68 : Snd l D AC b z L xs Gm j_S_bid 68 (oIld 3 69) := sn_iload_n l D AC b z L xs Gm  dX8_bid_68 rfl
theorem so_S_bid_69 : Snd l D AC b z L xs Gm j_S_bid 69 (oCallV kc_Market j_Market_add 3 (mL j_Market_add) 72) := sn_callV l D AC b z L xs Gm  dX8_bid_69 rfl (hs0 (fun _ => rfl) rfl) cal_S_bid_Market_add rfl rfl (by decide) rfl tw_613 tw_614 tw_615
theorem so_S_bid_72 : Snd l D AC b z L xs Gm j_S_bid 72 (oRetI) := sn_retI l D AC b z L xs Gm  dX8_bid_72 rfl
set_option maxRecDepth 100000 in
theorem so_S_bid : ∀ q ∈ tb_S_bid, Snd l D AC b z L xs Gm j_S_bid q.1 q.2 := by
  unfold tb_S_bid
  exact List.forall_mem_cons.mpr ⟨so_S_bid_0 l D AC b z L xs, List.forall_mem_cons.mpr ⟨so_S_bid_1 l D AC b z L xs, List.forall_mem_cons.mpr ⟨so_S_bid_2 l D AC b z L xs, List.forall_mem_cons.mpr ⟨so_S_bid_3 l D AC b z L xs, List.forall_mem_cons.mpr ⟨so_S_bid_6 l D AC b z L xs, List.forall_mem_cons.mpr ⟨so_S_bid_9 l D AC b z L xs, List.forall_mem_cons.mpr ⟨so_S_bid_10 l D AC b z L xs, List.forall_mem_cons.mpr ⟨so_S_bid_11 l D AC b z L xs, List.forall_mem_cons.mpr ⟨so_S_bid_13 l D AC b z L xs, List.forall_mem_cons.mpr ⟨so_S_bid_16 l D AC b z L xs, List.forall_mem_cons.mpr ⟨so_S_bid_19 l D AC b z L xs, List.forall_mem_cons.mpr ⟨so_S_bid_20 l D AC b z L xs, List.forall_mem_cons.mpr ⟨so_S_bid_21 l D AC b z L xs, List.forall_mem_cons.mpr ⟨so_S_bid_24 l D AC b z L xs, List.forall_mem_cons.mpr ⟨so_S_bid_27 l D AC b z L xs, List.forall_mem_cons.mpr ⟨so_S_bid_30 l D AC b z L xs, List.forall_mem_cons.mpr ⟨so_S_bid_40 l D AC b z L xs, List.forall_mem_cons.mpr ⟨so_S_bid_41 l D AC b z L xs, List.forall_mem_cons.mpr ⟨so_S_bid_44 l D AC b z L xs, List.forall_mem_cons.mpr ⟨so_S_bid_47 l D AC b z L xs, List.forall_mem_cons.mpr ⟨so_S_bid_49 l D AC b z L xs, List.forall_mem_cons.mpr ⟨so_S_bid_52 l D AC b z L xs, List.forall_mem_cons.mpr ⟨so_S_bid_62 l D AC b z L xs, List.forall_mem_cons.mpr ⟨so_S_bid_63 l D AC b z L xs, List.forall_mem_cons.mpr ⟨so_S_bid_66 l D AC b z L xs, List.forall_mem_cons.mpr ⟨so_S_bid_67 l D AC b z L xs, List.forall_mem_cons.mpr ⟨so_S_bid_68 l D AC b z L xs, List.forall_mem_cons.mpr ⟨so_S_bid_69 l D AC b z L xs, List.forall_mem_cons.mpr ⟨so_S_bid_72 l D AC b z L xs, fun _ h => absurd h List.not_mem_nil⟩⟩⟩⟩⟩⟩⟩⟩⟩⟩⟩⟩⟩⟩⟩⟩⟩⟩⟩⟩⟩⟩⟩⟩⟩⟩⟩⟩⟩
theorem so_S_sell_0 : Snd l D AC b z L xs Gm j_S_sell 0 (oAld 0 1) := sn_aload_n l D AC b z L xs Gm  dX8_sell_0 rfl
theorem so_S_sell_1 : Snd l D AC b z L xs Gm j_S_sell 1 (oGetR kc_S 3 4) := sn_getR l D AC b z L xs Gm  dX8_sell_1 rfl (by decide) rfl (by decide) kin_8 tw_323
theorem so_S_sell_4 : Snd l D AC b z L xs Gm j_S_sell 4 (oCallV kc_Market j_Market_sellAll 0 (mL j_Market_sellAll) 7) := sn_callV l D AC b z L xs Gm  dX8_sell_4 rfl (hs0 (fun _ => rfl) rfl) cal_S_sell_Market_sellAll rfl rfl (by decide) rfl tw_626 tw_627 tw_628
theorem so_S_sell_7 : Snd l D AC b z L xs Gm j_S_sell 7 (oRetI) := sn_retI l D AC b z L xs Gm  dX8_sell_7 rfl
set_option maxRecDepth 100000 in
theorem so_S_sell : ∀ q ∈ tb_S_sell, Snd l D AC b z L xs Gm j_S_sell q.1 q.2 := by
  unfold tb_S_sell
  exact List.forall_mem_cons.mpr ⟨so_S_sell_0 l D AC b z L xs, List.forall_mem_cons.mpr ⟨so_S_sell_1 l D AC b z L xs, List.forall_mem_cons.mpr ⟨so_S_sell_4 l D AC b z L xs, List.forall_mem_cons.mpr ⟨so_S_sell_7 l D AC b z L xs, fun _ h => absurd h List.not_mem_nil⟩⟩⟩⟩
theorem so_S_hears_0 : Snd l D AC b z L xs Gm j_S_hears 0 (oAld 0 1) := sn_aload_n l D AC b z L xs Gm  dX8_hears_0 rfl
theorem so_S_hears_1 : Snd l D AC b z L xs Gm j_S_hears 1 (oIld 1 2) := sn_iload_n l D AC b z L xs Gm  dX8_hears_1 rfl
theorem so_S_hears_2 : Snd l D AC b z L xs Gm j_S_hears 2 (oIld 2 3) := sn_iload_n l D AC b z L xs Gm  dX8_hears_2 rfl
theorem so_S_hears_3 : Snd l D AC b z L xs Gm j_S_hears 3 (oCallV kc_S j_S_checkPair 2 (mL j_S_checkPair) 6) := sn_callV l D AC b z L xs Gm  dX8_hears_3 rfl (hs0 (fun _ => rfl) rfl) cal_S_hears_S_checkPair rfl rfl (by decide) rfl tw_757 tw_759 tw_19
theorem so_S_hears_6 : Snd l D AC b z L xs Gm j_S_hears 6 (oAld 0 7) := sn_aload_n l D AC b z L xs Gm  dX8_hears_6 rfl
theorem so_S_hears_7 : Snd l D AC b z L xs Gm j_S_hears 7 (oGetR kc_S 0 10) := sn_getR l D AC b z L xs Gm  dX8_hears_7 rfl (by decide) rfl (by decide) kin_8 tw_320
theorem so_S_hears_10 : Snd l D AC b z L xs Gm j_S_hears 10 (oIld 1 11) := sn_iload_n l D AC b z L xs Gm  dX8_hears_10 rfl
theorem so_S_hears_11 : Snd l D AC b z L xs Gm j_S_hears 11 (oIld 2 12) := sn_iload_n l D AC b z L xs Gm  dX8_hears_11 rfl
theorem so_S_hears_12 : Snd l D AC b z L xs Gm j_S_hears 12 (oCallV kc_Land j_Land_canHear 2 (mL j_Land_canHear) 15) := sn_callV l D AC b z L xs Gm  dX8_hears_12 rfl (hs0 (fun _ => rfl) rfl) cal_S_hears_Land_canHear rfl rfl (by decide) rfl tw_841 tw_467 tw_468
theorem so_S_hears_15 : Snd l D AC b z L xs Gm j_S_hears 15 (oRetZ) := sn_retZ l D AC b z L xs Gm  dX8_hears_15 rfl
set_option maxRecDepth 100000 in
theorem so_S_hears : ∀ q ∈ tb_S_hears, Snd l D AC b z L xs Gm j_S_hears q.1 q.2 := by
  unfold tb_S_hears
  exact List.forall_mem_cons.mpr ⟨so_S_hears_0 l D AC b z L xs, List.forall_mem_cons.mpr ⟨so_S_hears_1 l D AC b z L xs, List.forall_mem_cons.mpr ⟨so_S_hears_2 l D AC b z L xs, List.forall_mem_cons.mpr ⟨so_S_hears_3 l D AC b z L xs, List.forall_mem_cons.mpr ⟨so_S_hears_6 l D AC b z L xs, List.forall_mem_cons.mpr ⟨so_S_hears_7 l D AC b z L xs, List.forall_mem_cons.mpr ⟨so_S_hears_10 l D AC b z L xs, List.forall_mem_cons.mpr ⟨so_S_hears_11 l D AC b z L xs, List.forall_mem_cons.mpr ⟨so_S_hears_12 l D AC b z L xs, List.forall_mem_cons.mpr ⟨so_S_hears_15 l D AC b z L xs, fun _ h => absurd h List.not_mem_nil⟩⟩⟩⟩⟩⟩⟩⟩⟩⟩
theorem so_S_ofNode_0 : Snd l D AC b z L xs Gm j_S_ofNode 0 (oAld 0 1) := sn_aload_n l D AC b z L xs Gm  dX8_ofNode_0 rfl
theorem so_S_ofNode_1 : Snd l D AC b z L xs Gm j_S_ofNode 1 (oIld 1 2) := sn_iload_n l D AC b z L xs Gm  dX8_ofNode_1 rfl
theorem so_S_ofNode_2 : Snd l D AC b z L xs Gm j_S_ofNode 2 (oCallV kc_S j_S_checkNode 1 (mL j_S_checkNode) 5) := sn_callV l D AC b z L xs Gm  dX8_ofNode_2 rfl (hs0 (fun _ => rfl) rfl) cal_S_ofNode_S_checkNode rfl rfl (by decide) rfl tw_489 tw_491 tw_4
theorem so_S_ofNode_5 : Snd l D AC b z L xs Gm j_S_ofNode 5 (oAld 0 6) := sn_aload_n l D AC b z L xs Gm  dX8_ofNode_5 rfl
theorem so_S_ofNode_6 : Snd l D AC b z L xs Gm j_S_ofNode 6 (oGetR kc_S 0 9) := sn_getR l D AC b z L xs Gm  dX8_ofNode_6 rfl (by decide) rfl (by decide) kin_8 tw_320
theorem so_S_ofNode_9 : Snd l D AC b z L xs Gm j_S_ofNode 9 (oGetR kc_Land 0 12) := sn_getR l D AC b z L xs Gm  dX8_ofNode_9 rfl (by decide) rfl (by decide) kin_2 tw_208
theorem so_S_ofNode_12 : Snd l D AC b z L xs Gm j_S_ofNode 12 (oIld 1 13) := sn_iload_n l D AC b z L xs Gm  dX8_ofNode_12 rfl
theorem so_S_ofNode_13 : Snd l D AC b z L xs Gm j_S_ofNode 13 (oAal 2 14) := sn_aaload l D AC b z L xs Gm  dX8_ofNode_13 (by decide) rfl rfl (by decide)
theorem so_S_ofNode_14 : Snd l D AC b z L xs Gm j_S_ofNode 14 (oAst 3 15) := sn_astore_n l D AC b z L xs Gm  dX8_ofNode_14 rfl (by decide)
theorem so_S_ofNode_15 : Snd l D AC b z L xs Gm j_S_ofNode 15 (oIld 2 16) := sn_iload_n l D AC b z L xs Gm  dX8_ofNode_15 rfl
theorem so_S_ofNode_16 : Snd l D AC b z L xs Gm j_S_ofNode 16 (oTsw 0 [96, 101, 106, 111, 124, 132, 137, 142, 147, 152, 157, 162, 167, 172, 189, 198] 203) := sn_tsw l D AC b z L xs Gm  dX8_ofNode_16 (by decide) (by decide) (by decide)
theorem so_S_ofNode_96 : Snd l D AC b z L xs Gm j_S_ofNode 96 (oAld 3 97) := sn_aload_n l D AC b z L xs Gm  dX8_ofNode_96 rfl
theorem so_S_ofNode_97 : Snd l D AC b z L xs Gm j_S_ofNode 97 (oGetI kc_Node 0 100) := sn_getI l D AC b z L xs Gm  dX8_ofNode_97 rfl (by decide) rfl (by decide) kin_4 tw_128
theorem so_S_ofNode_100 : Snd l D AC b z L xs Gm j_S_ofNode 100 (oRetI) := sn_retI l D AC b z L xs Gm  dX8_ofNode_100 rfl
theorem so_S_ofNode_101 : Snd l D AC b z L xs Gm j_S_ofNode 101 (oAld 3 102) := sn_aload_n l D AC b z L xs Gm  dX8_ofNode_101 rfl
theorem so_S_ofNode_102 : Snd l D AC b z L xs Gm j_S_ofNode 102 (oGetI kc_Node 1 105) := sn_getI l D AC b z L xs Gm  dX8_ofNode_102 rfl (by decide) rfl (by decide) kin_4 tw_131
theorem so_S_ofNode_105 : Snd l D AC b z L xs Gm j_S_ofNode 105 (oRetI) := sn_retI l D AC b z L xs Gm  dX8_ofNode_105 rfl
theorem so_S_ofNode_106 : Snd l D AC b z L xs Gm j_S_ofNode 106 (oAld 3 107) := sn_aload_n l D AC b z L xs Gm  dX8_ofNode_106 rfl
theorem so_S_ofNode_107 : Snd l D AC b z L xs Gm j_S_ofNode 107 (oGetI kc_Node 2 110) := sn_getI l D AC b z L xs Gm  dX8_ofNode_107 rfl (by decide) rfl (by decide) kin_4 tw_133
theorem so_S_ofNode_110 : Snd l D AC b z L xs Gm j_S_ofNode 110 (oRetI) := sn_retI l D AC b z L xs Gm  dX8_ofNode_110 rfl
theorem so_S_ofNode_111 : Snd l D AC b z L xs Gm j_S_ofNode 111 (oAld 3 112) := sn_aload_n l D AC b z L xs Gm  dX8_ofNode_111 rfl
theorem so_S_ofNode_112 : Snd l D AC b z L xs Gm j_S_ofNode 112 (oGetI kc_Node 3 115) := sn_getI l D AC b z L xs Gm  dX8_ofNode_112 rfl (by decide) rfl (by decide) kin_4 tw_138
theorem so_S_ofNode_115 : Snd l D AC b z L xs Gm j_S_ofNode 115 (oIf (fun x => decide (x = 0)) 122 118) := sn_if_eq l D AC b z L xs Gm  dX8_ofNode_115 (by decide)
theorem so_S_ofNode_118 : Snd l D AC b z L xs Gm j_S_ofNode 118 (oI 1 119) := sn_iconst l D AC b z L xs Gm  dX8_ofNode_118 (by decide)
theorem so_S_ofNode_119 : Snd l D AC b z L xs Gm j_S_ofNode 119 (oGo 123) := sn_goto l D AC b z L xs Gm  dX8_ofNode_119 (by decide)
theorem so_S_ofNode_122 : Snd l D AC b z L xs Gm j_S_ofNode 122 (oI 0 123) := sn_iconst l D AC b z L xs Gm  dX8_ofNode_122 (by decide)
theorem so_S_ofNode_123 : Snd l D AC b z L xs Gm j_S_ofNode 123 (oRetI) := sn_retI l D AC b z L xs Gm  dX8_ofNode_123 rfl
theorem so_S_ofNode_124 : Snd l D AC b z L xs Gm j_S_ofNode 124 (oAld 3 125) := sn_aload_n l D AC b z L xs Gm  dX8_ofNode_124 rfl
theorem so_S_ofNode_125 : Snd l D AC b z L xs Gm j_S_ofNode 125 (oGetR kc_Node 4 128) := sn_getR l D AC b z L xs Gm  dX8_ofNode_125 rfl (by decide) rfl (by decide) kin_4 tw_141
theorem so_S_ofNode_128 : Snd l D AC b z L xs Gm j_S_ofNode 128 (oGetI kc_FrameQueue 1 131) := sn_getI l D AC b z L xs Gm  dX8_ofNode_128 rfl (by decide) rfl (by decide) kin_1 tw_108
theorem so_S_ofNode_131 : Snd l D AC b z L xs Gm j_S_ofNode 131 (oRetI) := sn_retI l D AC b z L xs Gm  dX8_ofNode_131 rfl
theorem so_S_ofNode_132 : Snd l D AC b z L xs Gm j_S_ofNode 132 (oAld 3 133) := sn_aload_n l D AC b z L xs Gm  dX8_ofNode_132 rfl
theorem so_S_ofNode_133 : Snd l D AC b z L xs Gm j_S_ofNode 133 (oGetI kc_Node 5 136) := sn_getI l D AC b z L xs Gm  dX8_ofNode_133 rfl (by decide) rfl (by decide) kin_4 tw_145
theorem so_S_ofNode_136 : Snd l D AC b z L xs Gm j_S_ofNode 136 (oRetI) := sn_retI l D AC b z L xs Gm  dX8_ofNode_136 rfl
theorem so_S_ofNode_137 : Snd l D AC b z L xs Gm j_S_ofNode 137 (oAld 3 138) := sn_aload_n l D AC b z L xs Gm  dX8_ofNode_137 rfl
theorem so_S_ofNode_138 : Snd l D AC b z L xs Gm j_S_ofNode 138 (oGetI kc_Node 6 141) := sn_getI l D AC b z L xs Gm  dX8_ofNode_138 rfl (by decide) rfl (by decide) kin_4 tw_148
theorem so_S_ofNode_141 : Snd l D AC b z L xs Gm j_S_ofNode 141 (oRetI) := sn_retI l D AC b z L xs Gm  dX8_ofNode_141 rfl
theorem so_S_ofNode_142 : Snd l D AC b z L xs Gm j_S_ofNode 142 (oAld 3 143) := sn_aload_n l D AC b z L xs Gm  dX8_ofNode_142 rfl
theorem so_S_ofNode_143 : Snd l D AC b z L xs Gm j_S_ofNode 143 (oGetI kc_Node 7 146) := sn_getI l D AC b z L xs Gm  dX8_ofNode_143 rfl (by decide) rfl (by decide) kin_4 tw_151
theorem so_S_ofNode_146 : Snd l D AC b z L xs Gm j_S_ofNode 146 (oRetI) := sn_retI l D AC b z L xs Gm  dX8_ofNode_146 rfl
theorem so_S_ofNode_147 : Snd l D AC b z L xs Gm j_S_ofNode 147 (oAld 3 148) := sn_aload_n l D AC b z L xs Gm  dX8_ofNode_147 rfl
theorem so_S_ofNode_148 : Snd l D AC b z L xs Gm j_S_ofNode 148 (oGetI kc_Node 8 151) := sn_getI l D AC b z L xs Gm  dX8_ofNode_148 rfl (by decide) rfl (by decide) kin_4 tw_154
theorem so_S_ofNode_151 : Snd l D AC b z L xs Gm j_S_ofNode 151 (oRetI) := sn_retI l D AC b z L xs Gm  dX8_ofNode_151 rfl
theorem so_S_ofNode_152 : Snd l D AC b z L xs Gm j_S_ofNode 152 (oAld 3 153) := sn_aload_n l D AC b z L xs Gm  dX8_ofNode_152 rfl
theorem so_S_ofNode_153 : Snd l D AC b z L xs Gm j_S_ofNode 153 (oGetI kc_Node 10 156) := sn_getI l D AC b z L xs Gm  dX8_ofNode_153 rfl (by decide) rfl (by decide) kin_4 tw_159
theorem so_S_ofNode_156 : Snd l D AC b z L xs Gm j_S_ofNode 156 (oRetI) := sn_retI l D AC b z L xs Gm  dX8_ofNode_156 rfl
theorem so_S_ofNode_157 : Snd l D AC b z L xs Gm j_S_ofNode 157 (oAld 3 158) := sn_aload_n l D AC b z L xs Gm  dX8_ofNode_157 rfl
theorem so_S_ofNode_158 : Snd l D AC b z L xs Gm j_S_ofNode 158 (oGetI kc_Node 11 161) := sn_getI l D AC b z L xs Gm  dX8_ofNode_158 rfl (by decide) rfl (by decide) kin_4 tw_161
theorem so_S_ofNode_161 : Snd l D AC b z L xs Gm j_S_ofNode 161 (oRetI) := sn_retI l D AC b z L xs Gm  dX8_ofNode_161 rfl
theorem so_S_ofNode_162 : Snd l D AC b z L xs Gm j_S_ofNode 162 (oAld 3 163) := sn_aload_n l D AC b z L xs Gm  dX8_ofNode_162 rfl
theorem so_S_ofNode_163 : Snd l D AC b z L xs Gm j_S_ofNode 163 (oGetI kc_Node 12 166) := sn_getI l D AC b z L xs Gm  dX8_ofNode_163 rfl (by decide) rfl (by decide) kin_4 tw_163
theorem so_S_ofNode_166 : Snd l D AC b z L xs Gm j_S_ofNode 166 (oRetI) := sn_retI l D AC b z L xs Gm  dX8_ofNode_166 rfl
theorem so_S_ofNode_167 : Snd l D AC b z L xs Gm j_S_ofNode 167 (oAld 3 168) := sn_aload_n l D AC b z L xs Gm  dX8_ofNode_167 rfl
theorem so_S_ofNode_168 : Snd l D AC b z L xs Gm j_S_ofNode 168 (oGetI kc_Node 13 171) := sn_getI l D AC b z L xs Gm  dX8_ofNode_168 rfl (by decide) rfl (by decide) kin_4 tw_166
theorem so_S_ofNode_171 : Snd l D AC b z L xs Gm j_S_ofNode 171 (oRetI) := sn_retI l D AC b z L xs Gm  dX8_ofNode_171 rfl
theorem so_S_ofNode_172 : Snd l D AC b z L xs Gm j_S_ofNode 172 (oAld 0 173) := sn_aload_n l D AC b z L xs Gm  dX8_ofNode_172 rfl
theorem so_S_ofNode_173 : Snd l D AC b z L xs Gm j_S_ofNode 173 (oGetR kc_S 0 176) := sn_getR l D AC b z L xs Gm  dX8_ofNode_173 rfl (by decide) rfl (by decide) kin_8 tw_320
theorem so_S_ofNode_176 : Snd l D AC b z L xs Gm j_S_ofNode 176 (oIld 1 177) := sn_iload_n l D AC b z L xs Gm  dX8_ofNode_176 rfl
theorem so_S_ofNode_177 : Snd l D AC b z L xs Gm j_S_ofNode 177 (oCallV kc_Land j_Land_isSuspect 1 (mL j_Land_isSuspect) 180) := sn_callV l D AC b z L xs Gm  dX8_ofNode_177 rfl (hs0 (fun _ => rfl) rfl) cal_S_ofNode_Land_isSuspect rfl rfl (by decide) rfl tw_510 tw_511 tw_512
theorem so_S_ofNode_180 : Snd l D AC b z L xs Gm j_S_ofNode 180 (oIf (fun x => decide (x = 0)) 187 183) := sn_if_eq l D AC b z L xs Gm  dX8_ofNode_180 (by decide)
theorem so_S_ofNode_183 : Snd l D AC b z L xs Gm j_S_ofNode 183 (oI 1 184) := sn_iconst l D AC b z L xs Gm  dX8_ofNode_183 (by decide)
theorem so_S_ofNode_184 : Snd l D AC b z L xs Gm j_S_ofNode 184 (oGo 188) := sn_goto l D AC b z L xs Gm  dX8_ofNode_184 (by decide)
theorem so_S_ofNode_187 : Snd l D AC b z L xs Gm j_S_ofNode 187 (oI 0 188) := sn_iconst l D AC b z L xs Gm  dX8_ofNode_187 (by decide)
theorem so_S_ofNode_188 : Snd l D AC b z L xs Gm j_S_ofNode 188 (oRetI) := sn_retI l D AC b z L xs Gm  dX8_ofNode_188 rfl
theorem so_S_ofNode_189 : Snd l D AC b z L xs Gm j_S_ofNode 189 (oAld 0 190) := sn_aload_n l D AC b z L xs Gm  dX8_ofNode_189 rfl
theorem so_S_ofNode_190 : Snd l D AC b z L xs Gm j_S_ofNode 190 (oGetR kc_S 0 193) := sn_getR l D AC b z L xs Gm  dX8_ofNode_190 rfl (by decide) rfl (by decide) kin_8 tw_320
theorem so_S_ofNode_193 : Snd l D AC b z L xs Gm j_S_ofNode 193 (oIld 1 194) := sn_iload_n l D AC b z L xs Gm  dX8_ofNode_193 rfl
theorem so_S_ofNode_194 : Snd l D AC b z L xs Gm j_S_ofNode 194 (oCallV kc_Land j_Land_linkedWith 1 (mL j_Land_linkedWith) 197) := sn_callV l D AC b z L xs Gm  dX8_ofNode_194 rfl (hs0 (fun _ => rfl) rfl) cal_S_ofNode_Land_linkedWith rfl rfl (by decide) rfl tw_516 tw_517 tw_518
theorem so_S_ofNode_197 : Snd l D AC b z L xs Gm j_S_ofNode 197 (oRetI) := sn_retI l D AC b z L xs Gm  dX8_ofNode_197 rfl
theorem so_S_ofNode_198 : Snd l D AC b z L xs Gm j_S_ofNode 198 (oAld 3 199) := sn_aload_n l D AC b z L xs Gm  dX8_ofNode_198 rfl
theorem so_S_ofNode_199 : Snd l D AC b z L xs Gm j_S_ofNode 199 (oGetI kc_Node 14 202) := sn_getI l D AC b z L xs Gm  dX8_ofNode_199 rfl (by decide) rfl (by decide) kin_4 tw_169
theorem so_S_ofNode_202 : Snd l D AC b z L xs Gm j_S_ofNode 202 (oRetI) := sn_retI l D AC b z L xs Gm  dX8_ofNode_202 rfl
theorem so_S_ofNode_203 : Snd l D AC b z L xs Gm j_S_ofNode 203 (oThr cM sM 0 kc_IllegalArgumentException) := sn_throw (T0 := kT0) (nms := kNms) (text := "what is not 0 to 15") l D AC b z L xs Gm  rfl rfl rfl (by decide) (by decide) (by decide) rfl kfit_0 kfit_n tw_349 tw_34 (List.mem_of_getElem? (i := 4) rfl) khg_0_57 (List.mem_of_getElem? (i := 0) rfl) khn_0_57 kho_0_57 rfl dX8_ofNode_203 dX8_ofNode_206 (Or.inl ⟨dX8_ofNode_207, dX8_ofNode_209, dX8_ofNode_212⟩)
set_option maxRecDepth 100000 in
theorem so_S_ofNode : ∀ q ∈ tb_S_ofNode, Snd l D AC b z L xs Gm j_S_ofNode q.1 q.2 := by
  unfold tb_S_ofNode
  exact List.forall_mem_cons.mpr ⟨so_S_ofNode_0 l D AC b z L xs, List.forall_mem_cons.mpr ⟨so_S_ofNode_1 l D AC b z L xs, List.forall_mem_cons.mpr ⟨so_S_ofNode_2 l D AC b z L xs, List.forall_mem_cons.mpr ⟨so_S_ofNode_5 l D AC b z L xs, List.forall_mem_cons.mpr ⟨so_S_ofNode_6 l D AC b z L xs, List.forall_mem_cons.mpr ⟨so_S_ofNode_9 l D AC b z L xs, List.forall_mem_cons.mpr ⟨so_S_ofNode_12 l D AC b z L xs, List.forall_mem_cons.mpr ⟨so_S_ofNode_13 l D AC b z L xs, List.forall_mem_cons.mpr ⟨so_S_ofNode_14 l D AC b z L xs, List.forall_mem_cons.mpr ⟨so_S_ofNode_15 l D AC b z L xs, List.forall_mem_cons.mpr ⟨so_S_ofNode_16 l D AC b z L xs, List.forall_mem_cons.mpr ⟨so_S_ofNode_96 l D AC b z L xs, List.forall_mem_cons.mpr ⟨so_S_ofNode_97 l D AC b z L xs, List.forall_mem_cons.mpr ⟨so_S_ofNode_100 l D AC b z L xs, List.forall_mem_cons.mpr ⟨so_S_ofNode_101 l D AC b z L xs, List.forall_mem_cons.mpr ⟨so_S_ofNode_102 l D AC b z L xs, List.forall_mem_cons.mpr ⟨so_S_ofNode_105 l D AC b z L xs, List.forall_mem_cons.mpr ⟨so_S_ofNode_106 l D AC b z L xs, List.forall_mem_cons.mpr ⟨so_S_ofNode_107 l D AC b z L xs, List.forall_mem_cons.mpr ⟨so_S_ofNode_110 l D AC b z L xs, List.forall_mem_cons.mpr ⟨so_S_ofNode_111 l D AC b z L xs, List.forall_mem_cons.mpr ⟨so_S_ofNode_112 l D AC b z L xs, List.forall_mem_cons.mpr ⟨so_S_ofNode_115 l D AC b z L xs, List.forall_mem_cons.mpr ⟨so_S_ofNode_118 l D AC b z L xs, List.forall_mem_cons.mpr ⟨so_S_ofNode_119 l D AC b z L xs, List.forall_mem_cons.mpr ⟨so_S_ofNode_122 l D AC b z L xs, List.forall_mem_cons.mpr ⟨so_S_ofNode_123 l D AC b z L xs, List.forall_mem_cons.mpr ⟨so_S_ofNode_124 l D AC b z L xs, List.forall_mem_cons.mpr ⟨so_S_ofNode_125 l D AC b z L xs, List.forall_mem_cons.mpr ⟨so_S_ofNode_128 l D AC b z L xs, List.forall_mem_cons.mpr ⟨so_S_ofNode_131 l D AC b z L xs, List.forall_mem_cons.mpr ⟨so_S_ofNode_132 l D AC b z L xs, List.forall_mem_cons.mpr ⟨so_S_ofNode_133 l D AC b z L xs, List.forall_mem_cons.mpr ⟨so_S_ofNode_136 l D AC b z L xs, List.forall_mem_cons.mpr ⟨so_S_ofNode_137 l D AC b z L xs, List.forall_mem_cons.mpr ⟨so_S_ofNode_138 l D AC b z L xs, List.forall_mem_cons.mpr ⟨so_S_ofNode_141 l D AC b z L xs, List.forall_mem_cons.mpr ⟨so_S_ofNode_142 l D AC b z L xs, List.forall_mem_cons.mpr ⟨so_S_ofNode_143 l D AC b z L xs, List.forall_mem_cons.mpr ⟨so_S_ofNode_146 l D AC b z L xs, List.forall_mem_cons.mpr ⟨so_S_ofNode_147 l D AC b z L xs, List.forall_mem_cons.mpr ⟨so_S_ofNode_148 l D AC b z L xs, List.forall_mem_cons.mpr ⟨so_S_ofNode_151 l D AC b z L xs, List.forall_mem_cons.mpr ⟨so_S_ofNode_152 l D AC b z L xs, List.forall_mem_cons.mpr ⟨so_S_ofNode_153 l D AC b z L xs, List.forall_mem_cons.mpr ⟨so_S_ofNode_156 l D AC b z L xs, List.forall_mem_cons.mpr ⟨so_S_ofNode_157 l D AC b z L xs, List.forall_mem_cons.mpr ⟨so_S_ofNode_158 l D AC b z L xs, List.forall_mem_cons.mpr ⟨so_S_ofNode_161 l D AC b z L xs, List.forall_mem_cons.mpr ⟨so_S_ofNode_162 l D AC b z L xs, List.forall_mem_cons.mpr ⟨so_S_ofNode_163 l D AC b z L xs, List.forall_mem_cons.mpr ⟨so_S_ofNode_166 l D AC b z L xs, List.forall_mem_cons.mpr ⟨so_S_ofNode_167 l D AC b z L xs, List.forall_mem_cons.mpr ⟨so_S_ofNode_168 l D AC b z L xs, List.forall_mem_cons.mpr ⟨so_S_ofNode_171 l D AC b z L xs, List.forall_mem_cons.mpr ⟨so_S_ofNode_172 l D AC b z L xs, List.forall_mem_cons.mpr ⟨so_S_ofNode_173 l D AC b z L xs, List.forall_mem_cons.mpr ⟨so_S_ofNode_176 l D AC b z L xs, List.forall_mem_cons.mpr ⟨so_S_ofNode_177 l D AC b z L xs, List.forall_mem_cons.mpr ⟨so_S_ofNode_180 l D AC b z L xs, List.forall_mem_cons.mpr ⟨so_S_ofNode_183 l D AC b z L xs, List.forall_mem_cons.mpr ⟨so_S_ofNode_184 l D AC b z L xs, List.forall_mem_cons.mpr ⟨so_S_ofNode_187 l D AC b z L xs, List.forall_mem_cons.mpr ⟨so_S_ofNode_188 l D AC b z L xs, List.forall_mem_cons.mpr ⟨so_S_ofNode_189 l D AC b z L xs, List.forall_mem_cons.mpr ⟨so_S_ofNode_190 l D AC b z L xs, List.forall_mem_cons.mpr ⟨so_S_ofNode_193 l D AC b z L xs, List.forall_mem_cons.mpr ⟨so_S_ofNode_194 l D AC b z L xs, List.forall_mem_cons.mpr ⟨so_S_ofNode_197 l D AC b z L xs, List.forall_mem_cons.mpr ⟨so_S_ofNode_198 l D AC b z L xs, List.forall_mem_cons.mpr ⟨so_S_ofNode_199 l D AC b z L xs, List.forall_mem_cons.mpr ⟨so_S_ofNode_202 l D AC b z L xs, List.forall_mem_cons.mpr ⟨so_S_ofNode_203 l D AC b z L xs, fun _ h => absurd h List.not_mem_nil⟩⟩⟩⟩⟩⟩⟩⟩⟩⟩⟩⟩⟩⟩⟩⟩⟩⟩⟩⟩⟩⟩⟩⟩⟩⟩⟩⟩⟩⟩⟩⟩⟩⟩⟩⟩⟩⟩⟩⟩⟩⟩⟩⟩⟩⟩⟩⟩⟩⟩⟩⟩⟩⟩⟩⟩⟩⟩⟩⟩⟩⟩⟩⟩⟩⟩⟩⟩⟩⟩⟩⟩⟩
theorem so_S_inQueue_0 : Snd l D AC b z L xs Gm j_S_inQueue 0 (oAld 0 1) := sn_aload_n l D AC b z L xs Gm  dX8_inQueue_0 rfl
theorem so_S_inQueue_1 : Snd l D AC b z L xs Gm j_S_inQueue 1 (oIld 1 2) := sn_iload_n l D AC b z L xs Gm  dX8_inQueue_1 rfl
theorem so_S_inQueue_2 : Snd l D AC b z L xs Gm j_S_inQueue 2 (oCallV kc_S j_S_checkNode 1 (mL j_S_checkNode) 5) := sn_callV l D AC b z L xs Gm  dX8_inQueue_2 rfl (hs0 (fun _ => rfl) rfl) cal_S_inQueue_S_checkNode rfl rfl (by decide) rfl tw_489 tw_491 tw_4
theorem so_S_inQueue_5 : Snd l D AC b z L xs Gm j_S_inQueue 5 (oIld 2 6) := sn_iload_n l D AC b z L xs Gm  dX8_inQueue_5 rfl
theorem so_S_inQueue_6 : Snd l D AC b z L xs Gm j_S_inQueue 6 (oIf (fun x => decide (x < 0)) 18 9) := sn_if_lt l D AC b z L xs Gm  dX8_inQueue_6 (by decide)
theorem so_S_inQueue_9 : Snd l D AC b z L xs Gm j_S_inQueue 9 (oIld 3 10) := sn_iload_n l D AC b z L xs Gm  dX8_inQueue_9 rfl
theorem so_S_inQueue_10 : Snd l D AC b z L xs Gm j_S_inQueue 10 (oI 0 11) := sn_iconst l D AC b z L xs Gm  dX8_inQueue_10 (by decide)
theorem so_S_inQueue_11 : Snd l D AC b z L xs Gm j_S_inQueue 11 (oI 4 12) := sn_iconst l D AC b z L xs Gm  dX8_inQueue_11 (by decide)
theorem so_S_inQueue_12 : Snd l D AC b z L xs Gm j_S_inQueue 12 (oCallS j_S_isWithin 3 (mL j_S_isWithin) 15) := sn_callS l D AC b z L xs Gm  dX8_inQueue_12 rfl (hs0 (fun _ => rfl) rfl) cal_S_inQueue_S_isWithin rfl tw_343 tw_344
theorem so_S_inQueue_15 : Snd l D AC b z L xs Gm j_S_inQueue 15 (oIf (fun x => decide (¬ x = 0)) 28 18) := sn_if_ne l D AC b z L xs Gm  dX8_inQueue_15 (by decide)
theorem so_S_inQueue_18 : Snd l D AC b z L xs Gm j_S_inQueue 18 (oThr cM sM 0 kc_IllegalArgumentException) := sn_throw (T0 := kT0) (nms := kNms) (text := "nth is below 0, or what is not 0 to 4") l D AC b z L xs Gm  rfl rfl rfl (by decide) (by decide) (by decide) rfl kfit_0 kfit_n tw_349 tw_34 (List.mem_of_getElem? (i := 15) rfl) khg_0_57 (List.mem_of_getElem? (i := 0) rfl) khn_0_57 kho_0_57 rfl dX8_inQueue_18 dX8_inQueue_21 (Or.inl ⟨dX8_inQueue_22, dX8_inQueue_24, dX8_inQueue_27⟩)
theorem so_S_inQueue_28 : Snd l D AC b z L xs Gm j_S_inQueue 28 (oAld 0 29) := sn_aload_n l D AC b z L xs Gm  dX8_inQueue_28 rfl
theorem so_S_inQueue_29 : Snd l D AC b z L xs Gm j_S_inQueue 29 (oGetR kc_S 0 32) := sn_getR l D AC b z L xs Gm  dX8_inQueue_29 rfl (by decide) rfl (by decide) kin_8 tw_320
theorem so_S_inQueue_32 : Snd l D AC b z L xs Gm j_S_inQueue 32 (oGetR kc_Land 0 35) := sn_getR l D AC b z L xs Gm  dX8_inQueue_32 rfl (by decide) rfl (by decide) kin_2 tw_208
theorem so_S_inQueue_35 : Snd l D AC b z L xs Gm j_S_inQueue 35 (oIld 1 36) := sn_iload_n l D AC b z L xs Gm  dX8_inQueue_35 rfl
theorem so_S_inQueue_36 : Snd l D AC b z L xs Gm j_S_inQueue 36 (oAal 2 37) := sn_aaload l D AC b z L xs Gm  dX8_inQueue_36 (by decide) rfl rfl (by decide)
theorem so_S_inQueue_37 : Snd l D AC b z L xs Gm j_S_inQueue 37 (oGetR kc_Node 4 40) := sn_getR l D AC b z L xs Gm  dX8_inQueue_37 rfl (by decide) rfl (by decide) kin_4 tw_141
theorem so_S_inQueue_40 : Snd l D AC b z L xs Gm j_S_inQueue 40 (oIld 2 41) := sn_iload_n l D AC b z L xs Gm  dX8_inQueue_40 rfl
theorem so_S_inQueue_41 : Snd l D AC b z L xs Gm j_S_inQueue 41 (oCallV kc_FrameQueue j_FrameQueue_at 1 (mL j_FrameQueue_at) 44) := sn_callV l D AC b z L xs Gm  dX8_inQueue_41 rfl (hs0 (fun _ => rfl) rfl) cal_S_inQueue_FrameQueue_at rfl rfl (by decide) rfl tw_752 tw_663 tw_664
theorem so_S_inQueue_44 : Snd l D AC b z L xs Gm j_S_inQueue 44 (oAst 4 46) := sn_astore l D AC b z L xs Gm  dX8_inQueue_44 (by decide)
theorem so_S_inQueue_46 : Snd l D AC b z L xs Gm j_S_inQueue 46 (oAld 4 48) := sn_aload l D AC b z L xs Gm  dX8_inQueue_46
theorem so_S_inQueue_48 : Snd l D AC b z L xs Gm j_S_inQueue 48 (oIfNN 53 51) := sn_ifnonnull l D AC b z L xs Gm  dX8_inQueue_48 (by decide)
theorem so_S_inQueue_51 : Snd l D AC b z L xs Gm j_S_inQueue 51 (oI (-1) 52) := sn_iconst l D AC b z L xs Gm  dX8_inQueue_51 (by decide)
theorem so_S_inQueue_52 : Snd l D AC b z L xs Gm j_S_inQueue 52 (oRetI) := sn_retI l D AC b z L xs Gm  dX8_inQueue_52 rfl
theorem so_S_inQueue_53 : Snd l D AC b z L xs Gm j_S_inQueue 53 (oIld 3 54) := sn_iload_n l D AC b z L xs Gm  dX8_inQueue_53 rfl
theorem so_S_inQueue_54 : Snd l D AC b z L xs Gm j_S_inQueue 54 (oTsw 0 [84, 90, 96, 102] 108) := sn_tsw l D AC b z L xs Gm  dX8_inQueue_54 (by decide) (by decide) (by decide)
theorem so_S_inQueue_84 : Snd l D AC b z L xs Gm j_S_inQueue 84 (oAld 4 86) := sn_aload l D AC b z L xs Gm  dX8_inQueue_84
theorem so_S_inQueue_86 : Snd l D AC b z L xs Gm j_S_inQueue 86 (oGetI kc_Frame 0 89) := sn_getI l D AC b z L xs Gm  dX8_inQueue_86 rfl (by decide) rfl (by decide) kin_0 tw_76
theorem so_S_inQueue_89 : Snd l D AC b z L xs Gm j_S_inQueue 89 (oRetI) := sn_retI l D AC b z L xs Gm  dX8_inQueue_89 rfl
theorem so_S_inQueue_90 : Snd l D AC b z L xs Gm j_S_inQueue 90 (oAld 4 92) := sn_aload l D AC b z L xs Gm  dX8_inQueue_90
theorem so_S_inQueue_92 : Snd l D AC b z L xs Gm j_S_inQueue 92 (oGetI kc_Frame 1 95) := sn_getI l D AC b z L xs Gm  dX8_inQueue_92 rfl (by decide) rfl (by decide) kin_0 tw_80
theorem so_S_inQueue_95 : Snd l D AC b z L xs Gm j_S_inQueue 95 (oRetI) := sn_retI l D AC b z L xs Gm  dX8_inQueue_95 rfl
theorem so_S_inQueue_96 : Snd l D AC b z L xs Gm j_S_inQueue 96 (oAld 4 98) := sn_aload l D AC b z L xs Gm  dX8_inQueue_96
theorem so_S_inQueue_98 : Snd l D AC b z L xs Gm j_S_inQueue 98 (oGetI kc_Frame 2 101) := sn_getI l D AC b z L xs Gm  dX8_inQueue_98 rfl (by decide) rfl (by decide) kin_0 tw_84
theorem so_S_inQueue_101 : Snd l D AC b z L xs Gm j_S_inQueue 101 (oRetI) := sn_retI l D AC b z L xs Gm  dX8_inQueue_101 rfl
theorem so_S_inQueue_102 : Snd l D AC b z L xs Gm j_S_inQueue 102 (oAld 4 104) := sn_aload l D AC b z L xs Gm  dX8_inQueue_102
theorem so_S_inQueue_104 : Snd l D AC b z L xs Gm j_S_inQueue 104 (oGetI kc_Frame 3 107) := sn_getI l D AC b z L xs Gm  dX8_inQueue_104 rfl (by decide) rfl (by decide) kin_0 tw_88
theorem so_S_inQueue_107 : Snd l D AC b z L xs Gm j_S_inQueue 107 (oRetI) := sn_retI l D AC b z L xs Gm  dX8_inQueue_107 rfl
theorem so_S_inQueue_108 : Snd l D AC b z L xs Gm j_S_inQueue 108 (oAld 4 110) := sn_aload l D AC b z L xs Gm  dX8_inQueue_108
theorem so_S_inQueue_110 : Snd l D AC b z L xs Gm j_S_inQueue 110 (oGetI kc_Frame 4 113) := sn_getI l D AC b z L xs Gm  dX8_inQueue_110 rfl (by decide) rfl (by decide) kin_0 tw_92
theorem so_S_inQueue_113 : Snd l D AC b z L xs Gm j_S_inQueue 113 (oRetI) := sn_retI l D AC b z L xs Gm  dX8_inQueue_113 rfl
set_option maxRecDepth 100000 in
theorem so_S_inQueue : ∀ q ∈ tb_S_inQueue, Snd l D AC b z L xs Gm j_S_inQueue q.1 q.2 := by
  unfold tb_S_inQueue
  exact List.forall_mem_cons.mpr ⟨so_S_inQueue_0 l D AC b z L xs, List.forall_mem_cons.mpr ⟨so_S_inQueue_1 l D AC b z L xs, List.forall_mem_cons.mpr ⟨so_S_inQueue_2 l D AC b z L xs, List.forall_mem_cons.mpr ⟨so_S_inQueue_5 l D AC b z L xs, List.forall_mem_cons.mpr ⟨so_S_inQueue_6 l D AC b z L xs, List.forall_mem_cons.mpr ⟨so_S_inQueue_9 l D AC b z L xs, List.forall_mem_cons.mpr ⟨so_S_inQueue_10 l D AC b z L xs, List.forall_mem_cons.mpr ⟨so_S_inQueue_11 l D AC b z L xs, List.forall_mem_cons.mpr ⟨so_S_inQueue_12 l D AC b z L xs, List.forall_mem_cons.mpr ⟨so_S_inQueue_15 l D AC b z L xs, List.forall_mem_cons.mpr ⟨so_S_inQueue_18 l D AC b z L xs, List.forall_mem_cons.mpr ⟨so_S_inQueue_28 l D AC b z L xs, List.forall_mem_cons.mpr ⟨so_S_inQueue_29 l D AC b z L xs, List.forall_mem_cons.mpr ⟨so_S_inQueue_32 l D AC b z L xs, List.forall_mem_cons.mpr ⟨so_S_inQueue_35 l D AC b z L xs, List.forall_mem_cons.mpr ⟨so_S_inQueue_36 l D AC b z L xs, List.forall_mem_cons.mpr ⟨so_S_inQueue_37 l D AC b z L xs, List.forall_mem_cons.mpr ⟨so_S_inQueue_40 l D AC b z L xs, List.forall_mem_cons.mpr ⟨so_S_inQueue_41 l D AC b z L xs, List.forall_mem_cons.mpr ⟨so_S_inQueue_44 l D AC b z L xs, List.forall_mem_cons.mpr ⟨so_S_inQueue_46 l D AC b z L xs, List.forall_mem_cons.mpr ⟨so_S_inQueue_48 l D AC b z L xs, List.forall_mem_cons.mpr ⟨so_S_inQueue_51 l D AC b z L xs, List.forall_mem_cons.mpr ⟨so_S_inQueue_52 l D AC b z L xs, List.forall_mem_cons.mpr ⟨so_S_inQueue_53 l D AC b z L xs, List.forall_mem_cons.mpr ⟨so_S_inQueue_54 l D AC b z L xs, List.forall_mem_cons.mpr ⟨so_S_inQueue_84 l D AC b z L xs, List.forall_mem_cons.mpr ⟨so_S_inQueue_86 l D AC b z L xs, List.forall_mem_cons.mpr ⟨so_S_inQueue_89 l D AC b z L xs, List.forall_mem_cons.mpr ⟨so_S_inQueue_90 l D AC b z L xs, List.forall_mem_cons.mpr ⟨so_S_inQueue_92 l D AC b z L xs, List.forall_mem_cons.mpr ⟨so_S_inQueue_95 l D AC b z L xs, List.forall_mem_cons.mpr ⟨so_S_inQueue_96 l D AC b z L xs, List.forall_mem_cons.mpr ⟨so_S_inQueue_98 l D AC b z L xs, List.forall_mem_cons.mpr ⟨so_S_inQueue_101 l D AC b z L xs, List.forall_mem_cons.mpr ⟨so_S_inQueue_102 l D AC b z L xs, List.forall_mem_cons.mpr ⟨so_S_inQueue_104 l D AC b z L xs, List.forall_mem_cons.mpr ⟨so_S_inQueue_107 l D AC b z L xs, List.forall_mem_cons.mpr ⟨so_S_inQueue_108 l D AC b z L xs, List.forall_mem_cons.mpr ⟨so_S_inQueue_110 l D AC b z L xs, List.forall_mem_cons.mpr ⟨so_S_inQueue_113 l D AC b z L xs, fun _ h => absurd h List.not_mem_nil⟩⟩⟩⟩⟩⟩⟩⟩⟩⟩⟩⟩⟩⟩⟩⟩⟩⟩⟩⟩⟩⟩⟩⟩⟩⟩⟩⟩⟩⟩⟩⟩⟩⟩⟩⟩⟩⟩⟩⟩⟩
theorem so_S_route_0 : Snd l D AC b z L xs Gm j_S_route 0 (oAld 0 1) := sn_aload_n l D AC b z L xs Gm  dX8_route_0 rfl
theorem so_S_route_1 : Snd l D AC b z L xs Gm j_S_route 1 (oIld 1 2) := sn_iload_n l D AC b z L xs Gm  dX8_route_1 rfl
theorem so_S_route_2 : Snd l D AC b z L xs Gm j_S_route 2 (oIld 2 3) := sn_iload_n l D AC b z L xs Gm  dX8_route_2 rfl
theorem so_S_route_3 : Snd l D AC b z L xs Gm j_S_route 3 (oCallV kc_S j_S_checkPair 2 (mL j_S_checkPair) 6) := sn_callV l D AC b z L xs Gm  dX8_route_3 rfl (hs0 (fun _ => rfl) rfl) cal_S_route_S_checkPair rfl rfl (by decide) rfl tw_757 tw_759 tw_19
theorem so_S_route_6 : Snd l D AC b z L xs Gm j_S_route 6 (oIld 3 7) := sn_iload_n l D AC b z L xs Gm  dX8_route_6 rfl
theorem so_S_route_7 : Snd l D AC b z L xs Gm j_S_route 7 (oTsw 0 [36, 46, 56, 66] 84) := sn_tsw l D AC b z L xs Gm  dX8_route_7 (by decide) (by decide) (by decide)
theorem so_S_route_36 : Snd l D AC b z L xs Gm j_S_route 36 (oAld 0 37) := sn_aload_n l D AC b z L xs Gm  dX8_route_36 rfl
theorem so_S_route_37 : Snd l D AC b z L xs Gm j_S_route 37 (oGetR kc_S 1 40) := sn_getR l D AC b z L xs Gm  dX8_route_37 rfl (by decide) rfl (by decide) kin_8 tw_321
theorem so_S_route_40 : Snd l D AC b z L xs Gm j_S_route 40 (oIld 1 41) := sn_iload_n l D AC b z L xs Gm  dX8_route_40 rfl
theorem so_S_route_41 : Snd l D AC b z L xs Gm j_S_route 41 (oIld 2 42) := sn_iload_n l D AC b z L xs Gm  dX8_route_41 rfl
theorem so_S_route_42 : Snd l D AC b z L xs Gm j_S_route 42 (oCallV kc_Routes j_Routes_costOf 2 (mL j_Routes_costOf) 45) := sn_callV l D AC b z L xs Gm  dX8_route_42 rfl (hs0 (fun _ => rfl) rfl) cal_S_route_Routes_costOf rfl rfl (by decide) rfl tw_762 tw_763 tw_764
theorem so_S_route_45 : Snd l D AC b z L xs Gm j_S_route 45 (oRetI) := sn_retI l D AC b z L xs Gm  dX8_route_45 rfl
theorem so_S_route_46 : Snd l D AC b z L xs Gm j_S_route 46 (oAld 0 47) := sn_aload_n l D AC b z L xs Gm  dX8_route_46 rfl
theorem so_S_route_47 : Snd l D AC b z L xs Gm j_S_route 47 (oGetR kc_S 1 50) := sn_getR l D AC b z L xs Gm  dX8_route_47 rfl (by decide) rfl (by decide) kin_8 tw_321
theorem so_S_route_50 : Snd l D AC b z L xs Gm j_S_route 50 (oIld 1 51) := sn_iload_n l D AC b z L xs Gm  dX8_route_50 rfl
theorem so_S_route_51 : Snd l D AC b z L xs Gm j_S_route 51 (oIld 2 52) := sn_iload_n l D AC b z L xs Gm  dX8_route_51 rfl
theorem so_S_route_52 : Snd l D AC b z L xs Gm j_S_route 52 (oCallV kc_Routes j_Routes_nextOf 2 (mL j_Routes_nextOf) 55) := sn_callV l D AC b z L xs Gm  dX8_route_52 rfl (hs0 (fun _ => rfl) rfl) cal_S_route_Routes_nextOf rfl rfl (by decide) rfl tw_766 tw_557 tw_558
theorem so_S_route_55 : Snd l D AC b z L xs Gm j_S_route 55 (oRetI) := sn_retI l D AC b z L xs Gm  dX8_route_55 rfl
theorem so_S_route_56 : Snd l D AC b z L xs Gm j_S_route 56 (oAld 0 57) := sn_aload_n l D AC b z L xs Gm  dX8_route_56 rfl
theorem so_S_route_57 : Snd l D AC b z L xs Gm j_S_route 57 (oGetR kc_S 1 60) := sn_getR l D AC b z L xs Gm  dX8_route_57 rfl (by decide) rfl (by decide) kin_8 tw_321
theorem so_S_route_60 : Snd l D AC b z L xs Gm j_S_route 60 (oIld 1 61) := sn_iload_n l D AC b z L xs Gm  dX8_route_60 rfl
theorem so_S_route_61 : Snd l D AC b z L xs Gm j_S_route 61 (oIld 2 62) := sn_iload_n l D AC b z L xs Gm  dX8_route_61 rfl
theorem so_S_route_62 : Snd l D AC b z L xs Gm j_S_route 62 (oCallV kc_Routes j_Routes_wayLength 2 (mL j_Routes_wayLength) 65) := sn_callV l D AC b z L xs Gm  dX8_route_62 rfl (hs0 (fun _ => rfl) rfl) cal_S_route_Routes_wayLength rfl rfl (by decide) rfl tw_767 tw_768 tw_769
theorem so_S_route_65 : Snd l D AC b z L xs Gm j_S_route 65 (oRetI) := sn_retI l D AC b z L xs Gm  dX8_route_65 rfl
theorem so_S_route_66 : Snd l D AC b z L xs Gm j_S_route 66 (oAld 0 67) := sn_aload_n l D AC b z L xs Gm  dX8_route_66 rfl
theorem so_S_route_67 : Snd l D AC b z L xs Gm j_S_route 67 (oGetR kc_S 1 70) := sn_getR l D AC b z L xs Gm  dX8_route_67 rfl (by decide) rfl (by decide) kin_8 tw_321
theorem so_S_route_70 : Snd l D AC b z L xs Gm j_S_route 70 (oIld 1 71) := sn_iload_n l D AC b z L xs Gm  dX8_route_70 rfl
theorem so_S_route_71 : Snd l D AC b z L xs Gm j_S_route 71 (oIld 2 72) := sn_iload_n l D AC b z L xs Gm  dX8_route_71 rfl
theorem so_S_route_72 : Snd l D AC b z L xs Gm j_S_route 72 (oCallV kc_Routes j_Routes_hasCircle 2 (mL j_Routes_hasCircle) 75) := sn_callV l D AC b z L xs Gm  dX8_route_72 rfl (hs0 (fun _ => rfl) rfl) cal_S_route_Routes_hasCircle rfl rfl (by decide) rfl tw_771 tw_549 tw_550
theorem so_S_route_75 : Snd l D AC b z L xs Gm j_S_route 75 (oIf (fun x => decide (x = 0)) 82 78) := sn_if_eq l D AC b z L xs Gm  dX8_route_75 (by decide)
theorem so_S_route_78 : Snd l D AC b z L xs Gm j_S_route 78 (oI 1 79) := sn_iconst l D AC b z L xs Gm  dX8_route_78 (by decide)
theorem so_S_route_79 : Snd l D AC b z L xs Gm j_S_route 79 (oGo 83) := sn_goto l D AC b z L xs Gm  dX8_route_79 (by decide)
theorem so_S_route_82 : Snd l D AC b z L xs Gm j_S_route 82 (oI 0 83) := sn_iconst l D AC b z L xs Gm  dX8_route_82 (by decide)
theorem so_S_route_83 : Snd l D AC b z L xs Gm j_S_route 83 (oRetI) := sn_retI l D AC b z L xs Gm  dX8_route_83 rfl
theorem so_S_route_84 : Snd l D AC b z L xs Gm j_S_route 84 (oThr cM sM 0 kc_IllegalArgumentException) := sn_throw (T0 := kT0) (nms := kNms) (text := "what is not 0 to 3") l D AC b z L xs Gm  rfl rfl rfl (by decide) (by decide) (by decide) rfl kfit_0 kfit_n tw_349 tw_34 (List.mem_of_getElem? (i := 17) rfl) khg_0_57 (List.mem_of_getElem? (i := 0) rfl) khn_0_57 kho_0_57 rfl dX8_route_84 dX8_route_87 (Or.inl ⟨dX8_route_88, dX8_route_90, dX8_route_93⟩)
set_option maxRecDepth 100000 in
theorem so_S_route : ∀ q ∈ tb_S_route, Snd l D AC b z L xs Gm j_S_route q.1 q.2 := by
  unfold tb_S_route
  exact List.forall_mem_cons.mpr ⟨so_S_route_0 l D AC b z L xs, List.forall_mem_cons.mpr ⟨so_S_route_1 l D AC b z L xs, List.forall_mem_cons.mpr ⟨so_S_route_2 l D AC b z L xs, List.forall_mem_cons.mpr ⟨so_S_route_3 l D AC b z L xs, List.forall_mem_cons.mpr ⟨so_S_route_6 l D AC b z L xs, List.forall_mem_cons.mpr ⟨so_S_route_7 l D AC b z L xs, List.forall_mem_cons.mpr ⟨so_S_route_36 l D AC b z L xs, List.forall_mem_cons.mpr ⟨so_S_route_37 l D AC b z L xs, List.forall_mem_cons.mpr ⟨so_S_route_40 l D AC b z L xs, List.forall_mem_cons.mpr ⟨so_S_route_41 l D AC b z L xs, List.forall_mem_cons.mpr ⟨so_S_route_42 l D AC b z L xs, List.forall_mem_cons.mpr ⟨so_S_route_45 l D AC b z L xs, List.forall_mem_cons.mpr ⟨so_S_route_46 l D AC b z L xs, List.forall_mem_cons.mpr ⟨so_S_route_47 l D AC b z L xs, List.forall_mem_cons.mpr ⟨so_S_route_50 l D AC b z L xs, List.forall_mem_cons.mpr ⟨so_S_route_51 l D AC b z L xs, List.forall_mem_cons.mpr ⟨so_S_route_52 l D AC b z L xs, List.forall_mem_cons.mpr ⟨so_S_route_55 l D AC b z L xs, List.forall_mem_cons.mpr ⟨so_S_route_56 l D AC b z L xs, List.forall_mem_cons.mpr ⟨so_S_route_57 l D AC b z L xs, List.forall_mem_cons.mpr ⟨so_S_route_60 l D AC b z L xs, List.forall_mem_cons.mpr ⟨so_S_route_61 l D AC b z L xs, List.forall_mem_cons.mpr ⟨so_S_route_62 l D AC b z L xs, List.forall_mem_cons.mpr ⟨so_S_route_65 l D AC b z L xs, List.forall_mem_cons.mpr ⟨so_S_route_66 l D AC b z L xs, List.forall_mem_cons.mpr ⟨so_S_route_67 l D AC b z L xs, List.forall_mem_cons.mpr ⟨so_S_route_70 l D AC b z L xs, List.forall_mem_cons.mpr ⟨so_S_route_71 l D AC b z L xs, List.forall_mem_cons.mpr ⟨so_S_route_72 l D AC b z L xs, List.forall_mem_cons.mpr ⟨so_S_route_75 l D AC b z L xs, List.forall_mem_cons.mpr ⟨so_S_route_78 l D AC b z L xs, List.forall_mem_cons.mpr ⟨so_S_route_79 l D AC b z L xs, List.forall_mem_cons.mpr ⟨so_S_route_82 l D AC b z L xs, List.forall_mem_cons.mpr ⟨so_S_route_83 l D AC b z L xs, List.forall_mem_cons.mpr ⟨so_S_route_84 l D AC b z L xs, fun _ h => absurd h List.not_mem_nil⟩⟩⟩⟩⟩⟩⟩⟩⟩⟩⟩⟩⟩⟩⟩⟩⟩⟩⟩⟩⟩⟩⟩⟩⟩⟩⟩⟩⟩⟩⟩⟩⟩⟩⟩
theorem so_S_air_0 : Snd l D AC b z L xs Gm j_S_air 0 (oIld 1 1) := sn_iload_n l D AC b z L xs Gm  dX8_air_0 rfl
theorem so_S_air_1 : Snd l D AC b z L xs Gm j_S_air 1 (oTsw 0 [68, 76, 84, 92, 103, 111, 119, 127, 135, 143, 151, 159, 164] 172) := sn_tsw l D AC b z L xs Gm  dX8_air_1 (by decide) (by decide) (by decide)
theorem so_S_air_68 : Snd l D AC b z L xs Gm j_S_air 68 (oAld 0 69) := sn_aload_n l D AC b z L xs Gm  dX8_air_68 rfl
theorem so_S_air_69 : Snd l D AC b z L xs Gm j_S_air 69 (oGetR kc_S 2 72) := sn_getR l D AC b z L xs Gm  dX8_air_69 rfl (by decide) rfl (by decide) kin_8 tw_322
theorem so_S_air_72 : Snd l D AC b z L xs Gm j_S_air 72 (oGetI kc_Traffic 2 75) := sn_getI l D AC b z L xs Gm  dX8_air_72 rfl (by decide) rfl (by decide) kin_7 tw_258
theorem so_S_air_75 : Snd l D AC b z L xs Gm j_S_air 75 (oRetI) := sn_retI l D AC b z L xs Gm  dX8_air_75 rfl
theorem so_S_air_76 : Snd l D AC b z L xs Gm j_S_air 76 (oAld 0 77) := sn_aload_n l D AC b z L xs Gm  dX8_air_76 rfl
theorem so_S_air_77 : Snd l D AC b z L xs Gm j_S_air 77 (oGetR kc_S 0 80) := sn_getR l D AC b z L xs Gm  dX8_air_77 rfl (by decide) rfl (by decide) kin_8 tw_320
theorem so_S_air_80 : Snd l D AC b z L xs Gm j_S_air 80 (oGetI kc_Land 2 83) := sn_getI l D AC b z L xs Gm  dX8_air_80 rfl (by decide) rfl (by decide) kin_2 tw_212
theorem so_S_air_83 : Snd l D AC b z L xs Gm j_S_air 83 (oRetI) := sn_retI l D AC b z L xs Gm  dX8_air_83 rfl
theorem so_S_air_84 : Snd l D AC b z L xs Gm j_S_air 84 (oAld 0 85) := sn_aload_n l D AC b z L xs Gm  dX8_air_84 rfl
theorem so_S_air_85 : Snd l D AC b z L xs Gm j_S_air 85 (oGetR kc_S 2 88) := sn_getR l D AC b z L xs Gm  dX8_air_85 rfl (by decide) rfl (by decide) kin_8 tw_322
theorem so_S_air_88 : Snd l D AC b z L xs Gm j_S_air 88 (oGetI kc_Traffic 3 91) := sn_getI l D AC b z L xs Gm  dX8_air_88 rfl (by decide) rfl (by decide) kin_7 tw_260
theorem so_S_air_91 : Snd l D AC b z L xs Gm j_S_air 91 (oRetI) := sn_retI l D AC b z L xs Gm  dX8_air_91 rfl
theorem so_S_air_92 : Snd l D AC b z L xs Gm j_S_air 92 (oAld 0 93) := sn_aload_n l D AC b z L xs Gm  dX8_air_92 rfl
theorem so_S_air_93 : Snd l D AC b z L xs Gm j_S_air 93 (oGetR kc_S 2 96) := sn_getR l D AC b z L xs Gm  dX8_air_93 rfl (by decide) rfl (by decide) kin_8 tw_322
theorem so_S_air_96 : Snd l D AC b z L xs Gm j_S_air 96 (oCallV kc_Traffic j_Traffic_senders 0 (mL j_Traffic_senders) 99) := sn_callV l D AC b z L xs Gm  dX8_air_96 rfl (hs0 (fun _ => rfl) rfl) cal_S_air_Traffic_senders rfl rfl (by decide) rfl tw_526 tw_527 tw_528
theorem so_S_air_99 : Snd l D AC b z L xs Gm j_S_air 99 (oCallS j_Integer_bitCount 1 (mL j_Integer_bitCount) 102) := sn_callS l D AC b z L xs Gm  dX8_air_99 rfl (hs0 (fun _ => rfl) rfl) cal_S_air_Integer_bitCount rfl tw_534 tw_535
theorem so_S_air_102 : Snd l D AC b z L xs Gm j_S_air 102 (oRetI) := sn_retI l D AC b z L xs Gm  dX8_air_102 rfl
theorem so_S_air_103 : Snd l D AC b z L xs Gm j_S_air 103 (oAld 0 104) := sn_aload_n l D AC b z L xs Gm  dX8_air_103 rfl
theorem so_S_air_104 : Snd l D AC b z L xs Gm j_S_air 104 (oGetR kc_S 2 107) := sn_getR l D AC b z L xs Gm  dX8_air_104 rfl (by decide) rfl (by decide) kin_8 tw_322
theorem so_S_air_107 : Snd l D AC b z L xs Gm j_S_air 107 (oGetI kc_Traffic 4 110) := sn_getI l D AC b z L xs Gm  dX8_air_107 rfl (by decide) rfl (by decide) kin_7 tw_262
theorem so_S_air_110 : Snd l D AC b z L xs Gm j_S_air 110 (oRetI) := sn_retI l D AC b z L xs Gm  dX8_air_110 rfl
theorem so_S_air_111 : Snd l D AC b z L xs Gm j_S_air 111 (oAld 0 112) := sn_aload_n l D AC b z L xs Gm  dX8_air_111 rfl
theorem so_S_air_112 : Snd l D AC b z L xs Gm j_S_air 112 (oGetR kc_S 2 115) := sn_getR l D AC b z L xs Gm  dX8_air_112 rfl (by decide) rfl (by decide) kin_8 tw_322
theorem so_S_air_115 : Snd l D AC b z L xs Gm j_S_air 115 (oGetI kc_Traffic 5 118) := sn_getI l D AC b z L xs Gm  dX8_air_115 rfl (by decide) rfl (by decide) kin_7 tw_264
theorem so_S_air_118 : Snd l D AC b z L xs Gm j_S_air 118 (oRetI) := sn_retI l D AC b z L xs Gm  dX8_air_118 rfl
theorem so_S_air_119 : Snd l D AC b z L xs Gm j_S_air 119 (oAld 0 120) := sn_aload_n l D AC b z L xs Gm  dX8_air_119 rfl
theorem so_S_air_120 : Snd l D AC b z L xs Gm j_S_air 120 (oGetR kc_S 2 123) := sn_getR l D AC b z L xs Gm  dX8_air_120 rfl (by decide) rfl (by decide) kin_8 tw_322
theorem so_S_air_123 : Snd l D AC b z L xs Gm j_S_air 123 (oGetI kc_Traffic 6 126) := sn_getI l D AC b z L xs Gm  dX8_air_123 rfl (by decide) rfl (by decide) kin_7 tw_266
theorem so_S_air_126 : Snd l D AC b z L xs Gm j_S_air 126 (oRetI) := sn_retI l D AC b z L xs Gm  dX8_air_126 rfl
theorem so_S_air_127 : Snd l D AC b z L xs Gm j_S_air 127 (oAld 0 128) := sn_aload_n l D AC b z L xs Gm  dX8_air_127 rfl
theorem so_S_air_128 : Snd l D AC b z L xs Gm j_S_air 128 (oGetR kc_S 0 131) := sn_getR l D AC b z L xs Gm  dX8_air_128 rfl (by decide) rfl (by decide) kin_8 tw_320
theorem so_S_air_131 : Snd l D AC b z L xs Gm j_S_air 131 (oCallV kc_Land j_Land_framesInQueues 0 (mL j_Land_framesInQueues) 134) := sn_callV l D AC b z L xs Gm  dX8_air_131 rfl (hs0 (fun _ => rfl) rfl) cal_S_air_Land_framesInQueues rfl rfl (by decide) rfl tw_540 tw_541 tw_542
theorem so_S_air_134 : Snd l D AC b z L xs Gm j_S_air 134 (oRetI) := sn_retI l D AC b z L xs Gm  dX8_air_134 rfl
theorem so_S_air_135 : Snd l D AC b z L xs Gm j_S_air 135 (oAld 0 136) := sn_aload_n l D AC b z L xs Gm  dX8_air_135 rfl
theorem so_S_air_136 : Snd l D AC b z L xs Gm j_S_air 136 (oGetR kc_S 1 139) := sn_getR l D AC b z L xs Gm  dX8_air_136 rfl (by decide) rfl (by decide) kin_8 tw_321
theorem so_S_air_139 : Snd l D AC b z L xs Gm j_S_air 139 (oGetI kc_Routes 5 142) := sn_getI l D AC b z L xs Gm  dX8_air_139 rfl (by decide) rfl (by decide) kin_6 tw_235
theorem so_S_air_142 : Snd l D AC b z L xs Gm j_S_air 142 (oRetI) := sn_retI l D AC b z L xs Gm  dX8_air_142 rfl
theorem so_S_air_143 : Snd l D AC b z L xs Gm j_S_air 143 (oAld 0 144) := sn_aload_n l D AC b z L xs Gm  dX8_air_143 rfl
theorem so_S_air_144 : Snd l D AC b z L xs Gm j_S_air 144 (oGetR kc_S 3 147) := sn_getR l D AC b z L xs Gm  dX8_air_144 rfl (by decide) rfl (by decide) kin_8 tw_323
theorem so_S_air_147 : Snd l D AC b z L xs Gm j_S_air 147 (oGetI kc_Market 5 150) := sn_getI l D AC b z L xs Gm  dX8_air_147 rfl (by decide) rfl (by decide) kin_3 tw_294
theorem so_S_air_150 : Snd l D AC b z L xs Gm j_S_air 150 (oRetI) := sn_retI l D AC b z L xs Gm  dX8_air_150 rfl
theorem so_S_air_151 : Snd l D AC b z L xs Gm j_S_air 151 (oAld 0 152) := sn_aload_n l D AC b z L xs Gm  dX8_air_151 rfl
theorem so_S_air_152 : Snd l D AC b z L xs Gm j_S_air 152 (oGetR kc_S 3 155) := sn_getR l D AC b z L xs Gm  dX8_air_152 rfl (by decide) rfl (by decide) kin_8 tw_323
theorem so_S_air_155 : Snd l D AC b z L xs Gm j_S_air 155 (oGetI kc_Market 8 158) := sn_getI l D AC b z L xs Gm  dX8_air_155 rfl (by decide) rfl (by decide) kin_3 tw_300
theorem so_S_air_158 : Snd l D AC b z L xs Gm j_S_air 158 (oRetI) := sn_retI l D AC b z L xs Gm  dX8_air_158 rfl
theorem so_S_air_159 : Snd l D AC b z L xs Gm j_S_air 159 (oAld 0 160) := sn_aload_n l D AC b z L xs Gm  dX8_air_159 rfl
theorem so_S_air_160 : Snd l D AC b z L xs Gm j_S_air 160 (oGetI kc_S 4 163) := sn_getI l D AC b z L xs Gm  dX8_air_160 rfl (by decide) rfl (by decide) kin_8 tw_324
theorem so_S_air_163 : Snd l D AC b z L xs Gm j_S_air 163 (oRetI) := sn_retI l D AC b z L xs Gm  dX8_air_163 rfl
theorem so_S_air_164 : Snd l D AC b z L xs Gm j_S_air 164 (oAld 0 165) := sn_aload_n l D AC b z L xs Gm  dX8_air_164 rfl
theorem so_S_air_165 : Snd l D AC b z L xs Gm j_S_air 165 (oGetR kc_S 1 168) := sn_getR l D AC b z L xs Gm  dX8_air_165 rfl (by decide) rfl (by decide) kin_8 tw_321
theorem so_S_air_168 : Snd l D AC b z L xs Gm j_S_air 168 (oCallV kc_Routes j_Routes_pairsWithCircle 0 (mL j_Routes_pairsWithCircle) 171) := sn_callV l D AC b z L xs Gm  dX8_air_168 rfl (hs0 (fun _ => rfl) rfl) cal_S_air_Routes_pairsWithCircle rfl rfl (by decide) rfl tw_544 tw_545 tw_546
theorem so_S_air_171 : Snd l D AC b z L xs Gm j_S_air 171 (oRetI) := sn_retI l D AC b z L xs Gm  dX8_air_171 rfl
theorem so_S_air_172 : Snd l D AC b z L xs Gm j_S_air 172 (oThr cM sM 0 kc_IllegalArgumentException) := sn_throw (T0 := kT0) (nms := kNms) (text := "what is not 0 to 12") l D AC b z L xs Gm  rfl rfl rfl (by decide) (by decide) (by decide) rfl kfit_0 kfit_n tw_349 tw_34 (List.mem_of_getElem? (i := 5) rfl) khg_0_57 (List.mem_of_getElem? (i := 0) rfl) khn_0_57 kho_0_57 rfl dX8_air_172 dX8_air_175 (Or.inr ⟨dX8_air_176, dX8_air_179, dX8_air_182⟩)
set_option maxRecDepth 100000 in
theorem so_S_air : ∀ q ∈ tb_S_air, Snd l D AC b z L xs Gm j_S_air q.1 q.2 := by
  unfold tb_S_air
  exact List.forall_mem_cons.mpr ⟨so_S_air_0 l D AC b z L xs, List.forall_mem_cons.mpr ⟨so_S_air_1 l D AC b z L xs, List.forall_mem_cons.mpr ⟨so_S_air_68 l D AC b z L xs, List.forall_mem_cons.mpr ⟨so_S_air_69 l D AC b z L xs, List.forall_mem_cons.mpr ⟨so_S_air_72 l D AC b z L xs, List.forall_mem_cons.mpr ⟨so_S_air_75 l D AC b z L xs, List.forall_mem_cons.mpr ⟨so_S_air_76 l D AC b z L xs, List.forall_mem_cons.mpr ⟨so_S_air_77 l D AC b z L xs, List.forall_mem_cons.mpr ⟨so_S_air_80 l D AC b z L xs, List.forall_mem_cons.mpr ⟨so_S_air_83 l D AC b z L xs, List.forall_mem_cons.mpr ⟨so_S_air_84 l D AC b z L xs, List.forall_mem_cons.mpr ⟨so_S_air_85 l D AC b z L xs, List.forall_mem_cons.mpr ⟨so_S_air_88 l D AC b z L xs, List.forall_mem_cons.mpr ⟨so_S_air_91 l D AC b z L xs, List.forall_mem_cons.mpr ⟨so_S_air_92 l D AC b z L xs, List.forall_mem_cons.mpr ⟨so_S_air_93 l D AC b z L xs, List.forall_mem_cons.mpr ⟨so_S_air_96 l D AC b z L xs, List.forall_mem_cons.mpr ⟨so_S_air_99 l D AC b z L xs, List.forall_mem_cons.mpr ⟨so_S_air_102 l D AC b z L xs, List.forall_mem_cons.mpr ⟨so_S_air_103 l D AC b z L xs, List.forall_mem_cons.mpr ⟨so_S_air_104 l D AC b z L xs, List.forall_mem_cons.mpr ⟨so_S_air_107 l D AC b z L xs, List.forall_mem_cons.mpr ⟨so_S_air_110 l D AC b z L xs, List.forall_mem_cons.mpr ⟨so_S_air_111 l D AC b z L xs, List.forall_mem_cons.mpr ⟨so_S_air_112 l D AC b z L xs, List.forall_mem_cons.mpr ⟨so_S_air_115 l D AC b z L xs, List.forall_mem_cons.mpr ⟨so_S_air_118 l D AC b z L xs, List.forall_mem_cons.mpr ⟨so_S_air_119 l D AC b z L xs, List.forall_mem_cons.mpr ⟨so_S_air_120 l D AC b z L xs, List.forall_mem_cons.mpr ⟨so_S_air_123 l D AC b z L xs, List.forall_mem_cons.mpr ⟨so_S_air_126 l D AC b z L xs, List.forall_mem_cons.mpr ⟨so_S_air_127 l D AC b z L xs, List.forall_mem_cons.mpr ⟨so_S_air_128 l D AC b z L xs, List.forall_mem_cons.mpr ⟨so_S_air_131 l D AC b z L xs, List.forall_mem_cons.mpr ⟨so_S_air_134 l D AC b z L xs, List.forall_mem_cons.mpr ⟨so_S_air_135 l D AC b z L xs, List.forall_mem_cons.mpr ⟨so_S_air_136 l D AC b z L xs, List.forall_mem_cons.mpr ⟨so_S_air_139 l D AC b z L xs, List.forall_mem_cons.mpr ⟨so_S_air_142 l D AC b z L xs, List.forall_mem_cons.mpr ⟨so_S_air_143 l D AC b z L xs, List.forall_mem_cons.mpr ⟨so_S_air_144 l D AC b z L xs, List.forall_mem_cons.mpr ⟨so_S_air_147 l D AC b z L xs, List.forall_mem_cons.mpr ⟨so_S_air_150 l D AC b z L xs, List.forall_mem_cons.mpr ⟨so_S_air_151 l D AC b z L xs, List.forall_mem_cons.mpr ⟨so_S_air_152 l D AC b z L xs, List.forall_mem_cons.mpr ⟨so_S_air_155 l D AC b z L xs, List.forall_mem_cons.mpr ⟨so_S_air_158 l D AC b z L xs, List.forall_mem_cons.mpr ⟨so_S_air_159 l D AC b z L xs, List.forall_mem_cons.mpr ⟨so_S_air_160 l D AC b z L xs, List.forall_mem_cons.mpr ⟨so_S_air_163 l D AC b z L xs, List.forall_mem_cons.mpr ⟨so_S_air_164 l D AC b z L xs, List.forall_mem_cons.mpr ⟨so_S_air_165 l D AC b z L xs, List.forall_mem_cons.mpr ⟨so_S_air_168 l D AC b z L xs, List.forall_mem_cons.mpr ⟨so_S_air_171 l D AC b z L xs, List.forall_mem_cons.mpr ⟨so_S_air_172 l D AC b z L xs, fun _ h => absurd h List.not_mem_nil⟩⟩⟩⟩⟩⟩⟩⟩⟩⟩⟩⟩⟩⟩⟩⟩⟩⟩⟩⟩⟩⟩⟩⟩⟩⟩⟩⟩⟩⟩⟩⟩⟩⟩⟩⟩⟩⟩⟩⟩⟩⟩⟩⟩⟩⟩⟩⟩⟩⟩⟩⟩⟩⟩⟩
theorem so_S_delivered_0 : Snd l D AC b z L xs Gm j_S_delivered 0 (oAld 0 1) := sn_aload_n l D AC b z L xs Gm  dX8_delivered_0 rfl
theorem so_S_delivered_1 : Snd l D AC b z L xs Gm j_S_delivered 1 (oIld 1 2) := sn_iload_n l D AC b z L xs Gm  dX8_delivered_1 rfl
theorem so_S_delivered_2 : Snd l D AC b z L xs Gm j_S_delivered 2 (oCallV kc_S j_S_checkNode 1 (mL j_S_checkNode) 5) := sn_callV l D AC b z L xs Gm  dX8_delivered_2 rfl (hs0 (fun _ => rfl) rfl) cal_S_delivered_S_checkNode rfl rfl (by decide) rfl tw_489 tw_491 tw_4
theorem so_S_delivered_5 : Snd l D AC b z L xs Gm j_S_delivered 5 (oAld 0 6) := sn_aload_n l D AC b z L xs Gm  dX8_delivered_5 rfl
theorem so_S_delivered_6 : Snd l D AC b z L xs Gm j_S_delivered 6 (oGetR kc_S 0 9) := sn_getR l D AC b z L xs Gm  dX8_delivered_6 rfl (by decide) rfl (by decide) kin_8 tw_320
theorem so_S_delivered_9 : Snd l D AC b z L xs Gm j_S_delivered 9 (oGetR kc_Land 0 12) := sn_getR l D AC b z L xs Gm  dX8_delivered_9 rfl (by decide) rfl (by decide) kin_2 tw_208
theorem so_S_delivered_12 : Snd l D AC b z L xs Gm j_S_delivered 12 (oIld 1 13) := sn_iload_n l D AC b z L xs Gm  dX8_delivered_12 rfl
theorem so_S_delivered_13 : Snd l D AC b z L xs Gm j_S_delivered 13 (oAal 2 14) := sn_aaload l D AC b z L xs Gm  dX8_delivered_13 (by decide) rfl rfl (by decide)
theorem so_S_delivered_14 : Snd l D AC b z L xs Gm j_S_delivered 14 (oAst 3 15) := sn_astore_n l D AC b z L xs Gm  dX8_delivered_14 rfl (by decide)
theorem so_S_delivered_15 : Snd l D AC b z L xs Gm j_S_delivered 15 (oIld 2 16) := sn_iload_n l D AC b z L xs Gm  dX8_delivered_15 rfl
theorem so_S_delivered_16 : Snd l D AC b z L xs Gm j_S_delivered 16 (oIf (fun x => decide (x < 0)) 27 19) := sn_if_lt l D AC b z L xs Gm  dX8_delivered_16 (by decide)
theorem so_S_delivered_19 : Snd l D AC b z L xs Gm j_S_delivered 19 (oIld 2 20) := sn_iload_n l D AC b z L xs Gm  dX8_delivered_19 rfl
theorem so_S_delivered_20 : Snd l D AC b z L xs Gm j_S_delivered 20 (oAld 3 21) := sn_aload_n l D AC b z L xs Gm  dX8_delivered_20 rfl
theorem so_S_delivered_21 : Snd l D AC b z L xs Gm j_S_delivered 21 (oGetI kc_Node 14 24) := sn_getI l D AC b z L xs Gm  dX8_delivered_21 rfl (by decide) rfl (by decide) kin_4 tw_169
theorem so_S_delivered_24 : Snd l D AC b z L xs Gm j_S_delivered 24 (oIC (fun x y => decide (x < y)) 38 27) := sn_icmp_lt l D AC b z L xs Gm  dX8_delivered_24 (by decide)
theorem so_S_delivered_27 : Snd l D AC b z L xs Gm j_S_delivered 27 (oThr cM sM 2 kc_IndexOutOfBoundsException) := sn_throw (T0 := kT0) (nms := kNms) (text := "no frame of that number") l D AC b z L xs Gm  rfl rfl rfl (by decide) (by decide) (by decide) rfl kfit_2 kfit_n tw_494 tw_36 (List.mem_of_getElem? (i := 19) rfl) khg_2_279 (List.mem_of_getElem? (i := 2) rfl) khn_2_279 kho_2_279 rfl dX8_delivered_27 dX8_delivered_30 (Or.inr ⟨dX8_delivered_31, dX8_delivered_34, dX8_delivered_37⟩)
theorem so_S_delivered_38 : Snd l D AC b z L xs Gm j_S_delivered 38 (oAld 3 39) := sn_aload_n l D AC b z L xs Gm  dX8_delivered_38 rfl
theorem so_S_delivered_39 : Snd l D AC b z L xs Gm j_S_delivered 39 (oGetR kc_Node 15 42) := sn_getR l D AC b z L xs Gm  dX8_delivered_39 rfl (by decide) rfl (by decide) kin_4 tw_172
theorem so_S_delivered_42 : Snd l D AC b z L xs Gm j_S_delivered 42 (oIld 2 43) := sn_iload_n l D AC b z L xs Gm  dX8_delivered_42 rfl
theorem so_S_delivered_43 : Snd l D AC b z L xs Gm j_S_delivered 43 (oCallV kc_NumberSet j_NumberSet_has 1 (mL j_NumberSet_has) 46) := sn_callV l D AC b z L xs Gm  dX8_delivered_43 rfl (hs0 (fun _ => rfl) rfl) cal_S_delivered_NumberSet_has rfl rfl (by decide) rfl tw_836 tw_705 tw_706
theorem so_S_delivered_46 : Snd l D AC b z L xs Gm j_S_delivered 46 (oRetZ) := sn_retZ l D AC b z L xs Gm  dX8_delivered_46 rfl
set_option maxRecDepth 100000 in
theorem so_S_delivered : ∀ q ∈ tb_S_delivered, Snd l D AC b z L xs Gm j_S_delivered q.1 q.2 := by
  unfold tb_S_delivered
  exact List.forall_mem_cons.mpr ⟨so_S_delivered_0 l D AC b z L xs, List.forall_mem_cons.mpr ⟨so_S_delivered_1 l D AC b z L xs, List.forall_mem_cons.mpr ⟨so_S_delivered_2 l D AC b z L xs, List.forall_mem_cons.mpr ⟨so_S_delivered_5 l D AC b z L xs, List.forall_mem_cons.mpr ⟨so_S_delivered_6 l D AC b z L xs, List.forall_mem_cons.mpr ⟨so_S_delivered_9 l D AC b z L xs, List.forall_mem_cons.mpr ⟨so_S_delivered_12 l D AC b z L xs, List.forall_mem_cons.mpr ⟨so_S_delivered_13 l D AC b z L xs, List.forall_mem_cons.mpr ⟨so_S_delivered_14 l D AC b z L xs, List.forall_mem_cons.mpr ⟨so_S_delivered_15 l D AC b z L xs, List.forall_mem_cons.mpr ⟨so_S_delivered_16 l D AC b z L xs, List.forall_mem_cons.mpr ⟨so_S_delivered_19 l D AC b z L xs, List.forall_mem_cons.mpr ⟨so_S_delivered_20 l D AC b z L xs, List.forall_mem_cons.mpr ⟨so_S_delivered_21 l D AC b z L xs, List.forall_mem_cons.mpr ⟨so_S_delivered_24 l D AC b z L xs, List.forall_mem_cons.mpr ⟨so_S_delivered_27 l D AC b z L xs, List.forall_mem_cons.mpr ⟨so_S_delivered_38 l D AC b z L xs, List.forall_mem_cons.mpr ⟨so_S_delivered_39 l D AC b z L xs, List.forall_mem_cons.mpr ⟨so_S_delivered_42 l D AC b z L xs, List.forall_mem_cons.mpr ⟨so_S_delivered_43 l D AC b z L xs, List.forall_mem_cons.mpr ⟨so_S_delivered_46 l D AC b z L xs, fun _ h => absurd h List.not_mem_nil⟩⟩⟩⟩⟩⟩⟩⟩⟩⟩⟩⟩⟩⟩⟩⟩⟩⟩⟩⟩⟩
theorem so_S_fairness_0 : Snd l D AC b z L xs Gm j_S_fairness 0 (oJ 0 1) := sn_lconst l D AC b z L xs Gm  dX8_fairness_0 (by decide)
theorem so_S_fairness_1 : Snd l D AC b z L xs Gm j_S_fairness 1 (oLst 1 2) := sn_lstore_n l D AC b z L xs Gm  dX8_fairness_1 rfl (by decide)
theorem so_S_fairness_2 : Snd l D AC b z L xs Gm j_S_fairness 2 (oJ 0 3) := sn_lconst l D AC b z L xs Gm  dX8_fairness_2 (by decide)
theorem so_S_fairness_3 : Snd l D AC b z L xs Gm j_S_fairness 3 (oLst 3 4) := sn_lstore_n l D AC b z L xs Gm  dX8_fairness_3 rfl (by decide)
theorem so_S_fairness_4 : Snd l D AC b z L xs Gm j_S_fairness 4 (oI 0 5) := sn_iconst l D AC b z L xs Gm  dX8_fairness_4 (by decide)
theorem so_S_fairness_5 : Snd l D AC b z L xs Gm j_S_fairness 5 (oIst 5 7) := sn_istore l D AC b z L xs Gm  dX8_fairness_5 (by decide)
theorem so_S_fairness_7 : Snd l D AC b z L xs Gm j_S_fairness 7 (oIld 5 9) := sn_iload l D AC b z L xs Gm  dX8_fairness_7
theorem so_S_fairness_9 : Snd l D AC b z L xs Gm j_S_fairness 9 (oAld 0 10) := sn_aload_n l D AC b z L xs Gm  dX8_fairness_9 rfl
theorem so_S_fairness_10 : Snd l D AC b z L xs Gm j_S_fairness 10 (oGetR kc_S 0 13) := sn_getR l D AC b z L xs Gm  dX8_fairness_10 rfl (by decide) rfl (by decide) kin_8 tw_320
theorem so_S_fairness_13 : Snd l D AC b z L xs Gm j_S_fairness 13 (oGetI kc_Land 2 16) := sn_getI l D AC b z L xs Gm  dX8_fairness_13 rfl (by decide) rfl (by decide) kin_2 tw_212
theorem so_S_fairness_16 : Snd l D AC b z L xs Gm j_S_fairness 16 (oIC (fun x y => decide (y ≤ x)) 54 19) := sn_icmp_ge l D AC b z L xs Gm  dX8_fairness_16 (by decide)
theorem so_S_fairness_19 : Snd l D AC b z L xs Gm j_S_fairness 19 (oAld 0 20) := sn_aload_n l D AC b z L xs Gm  dX8_fairness_19 rfl
theorem so_S_fairness_20 : Snd l D AC b z L xs Gm j_S_fairness 20 (oGetR kc_S 0 23) := sn_getR l D AC b z L xs Gm  dX8_fairness_20 rfl (by decide) rfl (by decide) kin_8 tw_320
theorem so_S_fairness_23 : Snd l D AC b z L xs Gm j_S_fairness 23 (oGetR kc_Land 0 26) := sn_getR l D AC b z L xs Gm  dX8_fairness_23 rfl (by decide) rfl (by decide) kin_2 tw_208
theorem so_S_fairness_26 : Snd l D AC b z L xs Gm j_S_fairness 26 (oIld 5 28) := sn_iload l D AC b z L xs Gm  dX8_fairness_26
theorem so_S_fairness_28 : Snd l D AC b z L xs Gm j_S_fairness 28 (oAal 2 29) := sn_aaload l D AC b z L xs Gm  dX8_fairness_28 (by decide) rfl rfl (by decide)
theorem so_S_fairness_29 : Snd l D AC b z L xs Gm j_S_fairness 29 (oGetI kc_Node 10 32) := sn_getI l D AC b z L xs Gm  dX8_fairness_29 rfl (by decide) rfl (by decide) kin_4 tw_159
theorem so_S_fairness_32 : Snd l D AC b z L xs Gm j_S_fairness 32 (oI2L 33) := sn_i2l l D AC b z L xs Gm  dX8_fairness_32
theorem so_S_fairness_33 : Snd l D AC b z L xs Gm j_S_fairness 33 (oLst 6 35) := sn_lstore l D AC b z L xs Gm  dX8_fairness_33 (by decide)
theorem so_S_fairness_35 : Snd l D AC b z L xs Gm j_S_fairness 35 (oLld 1 36) := sn_lload_n l D AC b z L xs Gm  dX8_fairness_35 rfl
theorem so_S_fairness_36 : Snd l D AC b z L xs Gm j_S_fairness 36 (oLld 6 38) := sn_lload l D AC b z L xs Gm  dX8_fairness_36
theorem so_S_fairness_38 : Snd l D AC b z L xs Gm j_S_fairness 38 (oLL (fun x y => x + y) 39) := sn_ladd l D AC b z L xs Gm  dX8_fairness_38
theorem so_S_fairness_39 : Snd l D AC b z L xs Gm j_S_fairness 39 (oLst 1 40) := sn_lstore_n l D AC b z L xs Gm  dX8_fairness_39 rfl (by decide)
theorem so_S_fairness_40 : Snd l D AC b z L xs Gm j_S_fairness 40 (oLld 3 41) := sn_lload_n l D AC b z L xs Gm  dX8_fairness_40 rfl
theorem so_S_fairness_41 : Snd l D AC b z L xs Gm j_S_fairness 41 (oLld 6 43) := sn_lload l D AC b z L xs Gm  dX8_fairness_41
theorem so_S_fairness_43 : Snd l D AC b z L xs Gm j_S_fairness 43 (oLld 6 45) := sn_lload l D AC b z L xs Gm  dX8_fairness_43
theorem so_S_fairness_45 : Snd l D AC b z L xs Gm j_S_fairness 45 (oLL (fun x y => x * y) 46) := sn_lmul l D AC b z L xs Gm  dX8_fairness_45
theorem so_S_fairness_46 : Snd l D AC b z L xs Gm j_S_fairness 46 (oLL (fun x y => x + y) 47) := sn_ladd l D AC b z L xs Gm  dX8_fairness_46
theorem so_S_fairness_47 : Snd l D AC b z L xs Gm j_S_fairness 47 (oLst 3 48) := sn_lstore_n l D AC b z L xs Gm  dX8_fairness_47 rfl (by decide)
theorem so_S_fairness_48 : Snd l D AC b z L xs Gm j_S_fairness 48 (oInc 5 1 51) := sn_iinc l D AC b z L xs Gm  dX8_fairness_48 (by decide) (by decide)
theorem so_S_fairness_51 : Snd l D AC b z L xs Gm j_S_fairness 51 (oGo 7) := sn_goto l D AC b z L xs Gm  dX8_fairness_51 (by decide)
theorem so_S_fairness_54 : Snd l D AC b z L xs Gm j_S_fairness 54 (oLld 3 55) := sn_lload_n l D AC b z L xs Gm  dX8_fairness_54 rfl
theorem so_S_fairness_55 : Snd l D AC b z L xs Gm j_S_fairness 55 (oJ 0 56) := sn_lconst l D AC b z L xs Gm  dX8_fairness_55 (by decide)
theorem so_S_fairness_56 : Snd l D AC b z L xs Gm j_S_fairness 56 (oLcmp 57) := sn_lcmp l D AC b z L xs Gm  dX8_fairness_56
theorem so_S_fairness_57 : Snd l D AC b z L xs Gm j_S_fairness 57 (oIf (fun x => decide (0 < x)) 62 60) := sn_if_gt l D AC b z L xs Gm  dX8_fairness_57 (by decide)
theorem so_S_fairness_60 : Snd l D AC b z L xs Gm j_S_fairness 60 (oF FP.dconst1 61) := sn_dconst1 l D AC b z L xs Gm  dX8_fairness_60
theorem so_S_fairness_61 : Snd l D AC b z L xs Gm j_S_fairness 61 (oRetD) := sn_retD l D AC b z L xs Gm  dX8_fairness_61 rfl
theorem so_S_fairness_62 : Snd l D AC b z L xs Gm j_S_fairness 62 (oLld 1 63) := sn_lload_n l D AC b z L xs Gm  dX8_fairness_62 rfl
theorem so_S_fairness_63 : Snd l D AC b z L xs Gm j_S_fairness 63 (oLld 1 64) := sn_lload_n l D AC b z L xs Gm  dX8_fairness_63 rfl
theorem so_S_fairness_64 : Snd l D AC b z L xs Gm j_S_fairness 64 (oLL (fun x y => x * y) 65) := sn_lmul l D AC b z L xs Gm  dX8_fairness_64
theorem so_S_fairness_65 : Snd l D AC b z L xs Gm j_S_fairness 65 (oL2D 66) := sn_l2d l D AC b z L xs Gm  dX8_fairness_65
theorem so_S_fairness_66 : Snd l D AC b z L xs Gm j_S_fairness 66 (oAld 0 67) := sn_aload_n l D AC b z L xs Gm  dX8_fairness_66 rfl
theorem so_S_fairness_67 : Snd l D AC b z L xs Gm j_S_fairness 67 (oGetR kc_S 0 70) := sn_getR l D AC b z L xs Gm  dX8_fairness_67 rfl (by decide) rfl (by decide) kin_8 tw_320
theorem so_S_fairness_70 : Snd l D AC b z L xs Gm j_S_fairness 70 (oGetI kc_Land 2 73) := sn_getI l D AC b z L xs Gm  dX8_fairness_70 rfl (by decide) rfl (by decide) kin_2 tw_212
theorem so_S_fairness_73 : Snd l D AC b z L xs Gm j_S_fairness 73 (oI2L 74) := sn_i2l l D AC b z L xs Gm  dX8_fairness_73
theorem so_S_fairness_74 : Snd l D AC b z L xs Gm j_S_fairness 74 (oLld 3 75) := sn_lload_n l D AC b z L xs Gm  dX8_fairness_74 rfl
theorem so_S_fairness_75 : Snd l D AC b z L xs Gm j_S_fairness 75 (oLL (fun x y => x * y) 76) := sn_lmul l D AC b z L xs Gm  dX8_fairness_75
theorem so_S_fairness_76 : Snd l D AC b z L xs Gm j_S_fairness 76 (oL2D 77) := sn_l2d l D AC b z L xs Gm  dX8_fairness_76
theorem so_S_fairness_77 : Snd l D AC b z L xs Gm j_S_fairness 77 (oDD FP.ddiv 78) := sn_ddiv l D AC b z L xs Gm  dX8_fairness_77
theorem so_S_fairness_78 : Snd l D AC b z L xs Gm j_S_fairness 78 (oRetD) := sn_retD l D AC b z L xs Gm  dX8_fairness_78 rfl
set_option maxRecDepth 100000 in
theorem so_S_fairness : ∀ q ∈ tb_S_fairness, Snd l D AC b z L xs Gm j_S_fairness q.1 q.2 := by
  unfold tb_S_fairness
  exact List.forall_mem_cons.mpr ⟨so_S_fairness_0 l D AC b z L xs, List.forall_mem_cons.mpr ⟨so_S_fairness_1 l D AC b z L xs, List.forall_mem_cons.mpr ⟨so_S_fairness_2 l D AC b z L xs, List.forall_mem_cons.mpr ⟨so_S_fairness_3 l D AC b z L xs, List.forall_mem_cons.mpr ⟨so_S_fairness_4 l D AC b z L xs, List.forall_mem_cons.mpr ⟨so_S_fairness_5 l D AC b z L xs, List.forall_mem_cons.mpr ⟨so_S_fairness_7 l D AC b z L xs, List.forall_mem_cons.mpr ⟨so_S_fairness_9 l D AC b z L xs, List.forall_mem_cons.mpr ⟨so_S_fairness_10 l D AC b z L xs, List.forall_mem_cons.mpr ⟨so_S_fairness_13 l D AC b z L xs, List.forall_mem_cons.mpr ⟨so_S_fairness_16 l D AC b z L xs, List.forall_mem_cons.mpr ⟨so_S_fairness_19 l D AC b z L xs, List.forall_mem_cons.mpr ⟨so_S_fairness_20 l D AC b z L xs, List.forall_mem_cons.mpr ⟨so_S_fairness_23 l D AC b z L xs, List.forall_mem_cons.mpr ⟨so_S_fairness_26 l D AC b z L xs, List.forall_mem_cons.mpr ⟨so_S_fairness_28 l D AC b z L xs, List.forall_mem_cons.mpr ⟨so_S_fairness_29 l D AC b z L xs, List.forall_mem_cons.mpr ⟨so_S_fairness_32 l D AC b z L xs, List.forall_mem_cons.mpr ⟨so_S_fairness_33 l D AC b z L xs, List.forall_mem_cons.mpr ⟨so_S_fairness_35 l D AC b z L xs, List.forall_mem_cons.mpr ⟨so_S_fairness_36 l D AC b z L xs, List.forall_mem_cons.mpr ⟨so_S_fairness_38 l D AC b z L xs, List.forall_mem_cons.mpr ⟨so_S_fairness_39 l D AC b z L xs, List.forall_mem_cons.mpr ⟨so_S_fairness_40 l D AC b z L xs, List.forall_mem_cons.mpr ⟨so_S_fairness_41 l D AC b z L xs, List.forall_mem_cons.mpr ⟨so_S_fairness_43 l D AC b z L xs, List.forall_mem_cons.mpr ⟨so_S_fairness_45 l D AC b z L xs, List.forall_mem_cons.mpr ⟨so_S_fairness_46 l D AC b z L xs, List.forall_mem_cons.mpr ⟨so_S_fairness_47 l D AC b z L xs, List.forall_mem_cons.mpr ⟨so_S_fairness_48 l D AC b z L xs, List.forall_mem_cons.mpr ⟨so_S_fairness_51 l D AC b z L xs, List.forall_mem_cons.mpr ⟨so_S_fairness_54 l D AC b z L xs, List.forall_mem_cons.mpr ⟨so_S_fairness_55 l D AC b z L xs, List.forall_mem_cons.mpr ⟨so_S_fairness_56 l D AC b z L xs, List.forall_mem_cons.mpr ⟨so_S_fairness_57 l D AC b z L xs, List.forall_mem_cons.mpr ⟨so_S_fairness_60 l D AC b z L xs, List.forall_mem_cons.mpr ⟨so_S_fairness_61 l D AC b z L xs, List.forall_mem_cons.mpr ⟨so_S_fairness_62 l D AC b z L xs, List.forall_mem_cons.mpr ⟨so_S_fairness_63 l D AC b z L xs, List.forall_mem_cons.mpr ⟨so_S_fairness_64 l D AC b z L xs, List.forall_mem_cons.mpr ⟨so_S_fairness_65 l D AC b z L xs, List.forall_mem_cons.mpr ⟨so_S_fairness_66 l D AC b z L xs, List.forall_mem_cons.mpr ⟨so_S_fairness_67 l D AC b z L xs, List.forall_mem_cons.mpr ⟨so_S_fairness_70 l D AC b z L xs, List.forall_mem_cons.mpr ⟨so_S_fairness_73 l D AC b z L xs, List.forall_mem_cons.mpr ⟨so_S_fairness_74 l D AC b z L xs, List.forall_mem_cons.mpr ⟨so_S_fairness_75 l D AC b z L xs, List.forall_mem_cons.mpr ⟨so_S_fairness_76 l D AC b z L xs, List.forall_mem_cons.mpr ⟨so_S_fairness_77 l D AC b z L xs, List.forall_mem_cons.mpr ⟨so_S_fairness_78 l D AC b z L xs, fun _ h => absurd h List.not_mem_nil⟩⟩⟩⟩⟩⟩⟩⟩⟩⟩⟩⟩⟩⟩⟩⟩⟩⟩⟩⟩⟩⟩⟩⟩⟩⟩⟩⟩⟩⟩⟩⟩⟩⟩⟩⟩⟩⟩⟩⟩⟩⟩⟩⟩⟩⟩⟩⟩⟩⟩
theorem so_S_would_0 : Snd l D AC b z L xs Gm j_S_would 0 (oAld 0 1) := sn_aload_n l D AC b z L xs Gm  dX8_would_0 rfl
theorem so_S_would_1 : Snd l D AC b z L xs Gm j_S_would 1 (oIld 2 2) := sn_iload_n l D AC b z L xs Gm  dX8_would_1 rfl
theorem so_S_would_2 : Snd l D AC b z L xs Gm j_S_would 2 (oCallV kc_S j_S_checkNode 1 (mL j_S_checkNode) 5) := sn_callV l D AC b z L xs Gm  dX8_would_2 rfl (hs0 (fun _ => rfl) rfl) cal_S_would_S_checkNode rfl rfl (by decide) rfl tw_489 tw_491 tw_4
theorem so_S_would_5 : Snd l D AC b z L xs Gm j_S_would 5 (oIld 1 6) := sn_iload_n l D AC b z L xs Gm  dX8_would_5 rfl
theorem so_S_would_6 : Snd l D AC b z L xs Gm j_S_would 6 (oI 0 7) := sn_iconst l D AC b z L xs Gm  dX8_would_6 (by decide)
theorem so_S_would_7 : Snd l D AC b z L xs Gm j_S_would 7 (oAld 0 8) := sn_aload_n l D AC b z L xs Gm  dX8_would_7 rfl
theorem so_S_would_8 : Snd l D AC b z L xs Gm j_S_would 8 (oGetR kc_S 0 11) := sn_getR l D AC b z L xs Gm  dX8_would_8 rfl (by decide) rfl (by decide) kin_8 tw_320
theorem so_S_would_11 : Snd l D AC b z L xs Gm j_S_would 11 (oCallV kc_Land j_Land_everyone 0 (mL j_Land_everyone) 14) := sn_callV l D AC b z L xs Gm  dX8_would_11 rfl (hs0 (fun _ => rfl) rfl) cal_S_would_Land_everyone rfl rfl (by decide) rfl tw_847 tw_793 tw_794
theorem so_S_would_14 : Snd l D AC b z L xs Gm j_S_would 14 (oCallS j_S_isWithin 3 (mL j_S_isWithin) 17) := sn_callS l D AC b z L xs Gm  dX8_would_14 rfl (hs0 (fun _ => rfl) rfl) cal_S_would_S_isWithin rfl tw_343 tw_344
theorem so_S_would_17 : Snd l D AC b z L xs Gm j_S_would 17 (oIf (fun x => decide (x = 0)) 28 20) := sn_if_eq l D AC b z L xs Gm  dX8_would_17 (by decide)
theorem so_S_would_20 : Snd l D AC b z L xs Gm j_S_would 20 (oIld 1 21) := sn_iload_n l D AC b z L xs Gm  dX8_would_20 rfl
theorem so_S_would_21 : Snd l D AC b z L xs Gm j_S_would 21 (oIld 2 22) := sn_iload_n l D AC b z L xs Gm  dX8_would_21 rfl
theorem so_S_would_22 : Snd l D AC b z L xs Gm j_S_would 22 (oCallS j_S_isIn 2 (mL j_S_isIn) 25) := sn_callS l D AC b z L xs Gm  dX8_would_22 rfl (hs0 (fun _ => rfl) rfl) cal_S_would_S_isIn rfl tw_848 tw_475
theorem so_S_would_25 : Snd l D AC b z L xs Gm j_S_would 25 (oIf (fun x => decide (x = 0)) 39 28) := sn_if_eq l D AC b z L xs Gm  dX8_would_25 (by decide)
theorem so_S_would_28 : Snd l D AC b z L xs Gm j_S_would 28 (oThr cM sM 0 kc_IllegalArgumentException) := sn_throw (T0 := kT0) (nms := kNms) (text := "senders is no set of nodes, or has that node") l D AC b z L xs Gm  rfl rfl rfl (by decide) (by decide) (by decide) rfl kfit_0 kfit_n tw_349 tw_34 (List.mem_of_getElem? (i := 20) rfl) khg_0_57 (List.mem_of_getElem? (i := 0) rfl) khn_0_57 kho_0_57 rfl dX8_would_28 dX8_would_31 (Or.inr ⟨dX8_would_32, dX8_would_35, dX8_would_38⟩)
theorem so_S_would_39 : Snd l D AC b z L xs Gm j_S_would 39 (oI 0 40) := sn_iconst l D AC b z L xs Gm  dX8_would_39 (by decide)
theorem so_S_would_40 : Snd l D AC b z L xs Gm j_S_would 40 (oIst 3 41) := sn_istore_n l D AC b z L xs Gm  dX8_would_40 rfl (by decide)
theorem so_S_would_41 : Snd l D AC b z L xs Gm j_S_would 41 (oIld 3 42) := sn_iload_n l D AC b z L xs Gm  dX8_would_41 rfl
theorem so_S_would_42 : Snd l D AC b z L xs Gm j_S_would 42 (oAld 0 43) := sn_aload_n l D AC b z L xs Gm  dX8_would_42 rfl
theorem so_S_would_43 : Snd l D AC b z L xs Gm j_S_would 43 (oGetR kc_S 0 46) := sn_getR l D AC b z L xs Gm  dX8_would_43 rfl (by decide) rfl (by decide) kin_8 tw_320
theorem so_S_would_46 : Snd l D AC b z L xs Gm j_S_would 46 (oGetI kc_Land 2 49) := sn_getI l D AC b z L xs Gm  dX8_would_46 rfl (by decide) rfl (by decide) kin_2 tw_212
theorem so_S_would_49 : Snd l D AC b z L xs Gm j_S_would 49 (oIC (fun x y => decide (y ≤ x)) 81 52) := sn_icmp_ge l D AC b z L xs Gm  dX8_would_49 (by decide)
theorem so_S_would_52 : Snd l D AC b z L xs Gm j_S_would 52 (oIld 1 53) := sn_iload_n l D AC b z L xs Gm  dX8_would_52 rfl
theorem so_S_would_53 : Snd l D AC b z L xs Gm j_S_would 53 (oIld 3 54) := sn_iload_n l D AC b z L xs Gm  dX8_would_53 rfl
theorem so_S_would_54 : Snd l D AC b z L xs Gm j_S_would 54 (oCallS j_S_isIn 2 (mL j_S_isIn) 57) := sn_callS l D AC b z L xs Gm  dX8_would_54 rfl (hs0 (fun _ => rfl) rfl) cal_S_would_S_isIn rfl tw_848 tw_475
theorem so_S_would_57 : Snd l D AC b z L xs Gm j_S_would 57 (oIf (fun x => decide (x = 0)) 75 60) := sn_if_eq l D AC b z L xs Gm  dX8_would_57 (by decide)
theorem so_S_would_60 : Snd l D AC b z L xs Gm j_S_would 60 (oAld 0 61) := sn_aload_n l D AC b z L xs Gm  dX8_would_60 rfl
theorem so_S_would_61 : Snd l D AC b z L xs Gm j_S_would 61 (oGetR kc_S 0 64) := sn_getR l D AC b z L xs Gm  dX8_would_61 rfl (by decide) rfl (by decide) kin_8 tw_320
theorem so_S_would_64 : Snd l D AC b z L xs Gm j_S_would 64 (oIld 2 65) := sn_iload_n l D AC b z L xs Gm  dX8_would_64 rfl
theorem so_S_would_65 : Snd l D AC b z L xs Gm j_S_would 65 (oIld 3 66) := sn_iload_n l D AC b z L xs Gm  dX8_would_65 rfl
theorem so_S_would_66 : Snd l D AC b z L xs Gm j_S_would 66 (oIld 1 67) := sn_iload_n l D AC b z L xs Gm  dX8_would_66 rfl
theorem so_S_would_67 : Snd l D AC b z L xs Gm j_S_would 67 (oCallV kc_Land j_Land_gets 3 (mL j_Land_gets) 70) := sn_callV l D AC b z L xs Gm  dX8_would_67 rfl (hs0 (fun _ => rfl) rfl) cal_S_would_Land_gets rfl rfl (by decide) rfl tw_850 tw_689 tw_690
theorem so_S_would_70 : Snd l D AC b z L xs Gm j_S_would 70 (oIf (fun x => decide (x = 0)) 75 73) := sn_if_eq l D AC b z L xs Gm  dX8_would_70 (by decide)
theorem so_S_would_73 : Snd l D AC b z L xs Gm j_S_would 73 (oIld 3 74) := sn_iload_n l D AC b z L xs Gm  dX8_would_73 rfl
theorem so_S_would_74 : Snd l D AC b z L xs Gm j_S_would 74 (oRetI) := sn_retI l D AC b z L xs Gm  dX8_would_74 rfl
theorem so_S_would_75 : Snd l D AC b z L xs Gm j_S_would 75 (oInc 3 1 78) := sn_iinc l D AC b z L xs Gm  dX8_would_75 (by decide) (by decide)
theorem so_S_would_78 : Snd l D AC b z L xs Gm j_S_would 78 (oGo 41) := sn_goto l D AC b z L xs Gm  dX8_would_78 (by decide)
theorem so_S_would_81 : Snd l D AC b z L xs Gm j_S_would 81 (oI (-1) 82) := sn_iconst l D AC b z L xs Gm  dX8_would_81 (by decide)
theorem so_S_would_82 : Snd l D AC b z L xs Gm j_S_would 82 (oRetI) := sn_retI l D AC b z L xs Gm  dX8_would_82 rfl
set_option maxRecDepth 100000 in
theorem so_S_would : ∀ q ∈ tb_S_would, Snd l D AC b z L xs Gm j_S_would q.1 q.2 := by
  unfold tb_S_would
  exact List.forall_mem_cons.mpr ⟨so_S_would_0 l D AC b z L xs, List.forall_mem_cons.mpr ⟨so_S_would_1 l D AC b z L xs, List.forall_mem_cons.mpr ⟨so_S_would_2 l D AC b z L xs, List.forall_mem_cons.mpr ⟨so_S_would_5 l D AC b z L xs, List.forall_mem_cons.mpr ⟨so_S_would_6 l D AC b z L xs, List.forall_mem_cons.mpr ⟨so_S_would_7 l D AC b z L xs, List.forall_mem_cons.mpr ⟨so_S_would_8 l D AC b z L xs, List.forall_mem_cons.mpr ⟨so_S_would_11 l D AC b z L xs, List.forall_mem_cons.mpr ⟨so_S_would_14 l D AC b z L xs, List.forall_mem_cons.mpr ⟨so_S_would_17 l D AC b z L xs, List.forall_mem_cons.mpr ⟨so_S_would_20 l D AC b z L xs, List.forall_mem_cons.mpr ⟨so_S_would_21 l D AC b z L xs, List.forall_mem_cons.mpr ⟨so_S_would_22 l D AC b z L xs, List.forall_mem_cons.mpr ⟨so_S_would_25 l D AC b z L xs, List.forall_mem_cons.mpr ⟨so_S_would_28 l D AC b z L xs, List.forall_mem_cons.mpr ⟨so_S_would_39 l D AC b z L xs, List.forall_mem_cons.mpr ⟨so_S_would_40 l D AC b z L xs, List.forall_mem_cons.mpr ⟨so_S_would_41 l D AC b z L xs, List.forall_mem_cons.mpr ⟨so_S_would_42 l D AC b z L xs, List.forall_mem_cons.mpr ⟨so_S_would_43 l D AC b z L xs, List.forall_mem_cons.mpr ⟨so_S_would_46 l D AC b z L xs, List.forall_mem_cons.mpr ⟨so_S_would_49 l D AC b z L xs, List.forall_mem_cons.mpr ⟨so_S_would_52 l D AC b z L xs, List.forall_mem_cons.mpr ⟨so_S_would_53 l D AC b z L xs, List.forall_mem_cons.mpr ⟨so_S_would_54 l D AC b z L xs, List.forall_mem_cons.mpr ⟨so_S_would_57 l D AC b z L xs, List.forall_mem_cons.mpr ⟨so_S_would_60 l D AC b z L xs, List.forall_mem_cons.mpr ⟨so_S_would_61 l D AC b z L xs, List.forall_mem_cons.mpr ⟨so_S_would_64 l D AC b z L xs, List.forall_mem_cons.mpr ⟨so_S_would_65 l D AC b z L xs, List.forall_mem_cons.mpr ⟨so_S_would_66 l D AC b z L xs, List.forall_mem_cons.mpr ⟨so_S_would_67 l D AC b z L xs, List.forall_mem_cons.mpr ⟨so_S_would_70 l D AC b z L xs, List.forall_mem_cons.mpr ⟨so_S_would_73 l D AC b z L xs, List.forall_mem_cons.mpr ⟨so_S_would_74 l D AC b z L xs, List.forall_mem_cons.mpr ⟨so_S_would_75 l D AC b z L xs, List.forall_mem_cons.mpr ⟨so_S_would_78 l D AC b z L xs, List.forall_mem_cons.mpr ⟨so_S_would_81 l D AC b z L xs, List.forall_mem_cons.mpr ⟨so_S_would_82 l D AC b z L xs, fun _ h => absurd h List.not_mem_nil⟩⟩⟩⟩⟩⟩⟩⟩⟩⟩⟩⟩⟩⟩⟩⟩⟩⟩⟩⟩⟩⟩⟩⟩⟩⟩⟩⟩⟩⟩⟩⟩⟩⟩⟩⟩⟩⟩⟩
theorem so_S_auction_0 : Snd l D AC b z L xs Gm j_S_auction 0 (oIld 1 1) := sn_iload_n l D AC b z L xs Gm  dX8_auction_0 rfl
theorem so_S_auction_1 : Snd l D AC b z L xs Gm j_S_auction 1 (oI 0 2) := sn_iconst l D AC b z L xs Gm  dX8_auction_1 (by decide)
theorem so_S_auction_2 : Snd l D AC b z L xs Gm j_S_auction 2 (oI 6 4) := sn_bipush l D AC b z L xs Gm  dX8_auction_2 (by decide)
theorem so_S_auction_4 : Snd l D AC b z L xs Gm j_S_auction 4 (oCallS j_S_isWithin 3 (mL j_S_isWithin) 7) := sn_callS l D AC b z L xs Gm  dX8_auction_4 rfl (hs0 (fun _ => rfl) rfl) cal_S_auction_S_isWithin rfl tw_343 tw_344
theorem so_S_auction_7 : Snd l D AC b z L xs Gm j_S_auction 7 (oIf (fun x => decide (¬ x = 0)) 21 10) := sn_if_ne l D AC b z L xs Gm  dX8_auction_7 (by decide)
theorem so_S_auction_10 : Snd l D AC b z L xs Gm j_S_auction 10 (oThr cM sM 0 kc_IllegalArgumentException) := sn_throw (T0 := kT0) (nms := kNms) (text := "what is not 0 to 6") l D AC b z L xs Gm  rfl rfl rfl (by decide) (by decide) (by decide) rfl kfit_0 kfit_n tw_349 tw_34 (List.mem_of_getElem? (i := 18) rfl) khg_0_57 (List.mem_of_getElem? (i := 0) rfl) khn_0_57 kho_0_57 rfl dX8_auction_10 dX8_auction_13 (Or.inr ⟨dX8_auction_14, dX8_auction_17, dX8_auction_20⟩)
theorem so_S_auction_21 : Snd l D AC b z L xs Gm j_S_auction 21 (oIld 1 22) := sn_iload_n l D AC b z L xs Gm  dX8_auction_21 rfl
theorem so_S_auction_22 : Snd l D AC b z L xs Gm j_S_auction 22 (oLsw [(0, 48), (1, 56)] 64) := sn_lsw l D AC b z L xs Gm  dX8_auction_22 (by decide) (by decide) (by decide)
theorem so_S_auction_48 : Snd l D AC b z L xs Gm j_S_auction 48 (oAld 0 49) := sn_aload_n l D AC b z L xs Gm  dX8_auction_48 rfl
theorem so_S_auction_49 : Snd l D AC b z L xs Gm j_S_auction 49 (oGetR kc_S 3 52) := sn_getR l D AC b z L xs Gm  dX8_auction_49 rfl (by decide) rfl (by decide) kin_8 tw_323
theorem so_S_auction_52 : Snd l D AC b z L xs Gm j_S_auction 52 (oGetI kc_Market 6 55) := sn_getI l D AC b z L xs Gm  dX8_auction_52 rfl (by decide) rfl (by decide) kin_3 tw_296
theorem so_S_auction_55 : Snd l D AC b z L xs Gm j_S_auction 55 (oRetI) := sn_retI l D AC b z L xs Gm  dX8_auction_55 rfl
theorem so_S_auction_56 : Snd l D AC b z L xs Gm j_S_auction 56 (oAld 0 57) := sn_aload_n l D AC b z L xs Gm  dX8_auction_56 rfl
theorem so_S_auction_57 : Snd l D AC b z L xs Gm j_S_auction 57 (oGetR kc_S 3 60) := sn_getR l D AC b z L xs Gm  dX8_auction_57 rfl (by decide) rfl (by decide) kin_8 tw_323
theorem so_S_auction_60 : Snd l D AC b z L xs Gm j_S_auction 60 (oGetI kc_Market 7 63) := sn_getI l D AC b z L xs Gm  dX8_auction_60 rfl (by decide) rfl (by decide) kin_3 tw_298
theorem so_S_auction_63 : Snd l D AC b z L xs Gm j_S_auction 63 (oRetI) := sn_retI l D AC b z L xs Gm  dX8_auction_63 rfl
theorem so_S_auction_64 : Snd l D AC b z L xs Gm j_S_auction 64 (oAld 0 65) := sn_aload_n l D AC b z L xs Gm  dX8_auction_64 rfl
theorem so_S_auction_65 : Snd l D AC b z L xs Gm j_S_auction 65 (oGetR kc_S 3 68) := sn_getR l D AC b z L xs Gm  dX8_auction_65 rfl (by decide) rfl (by decide) kin_8 tw_323
theorem so_S_auction_68 : Snd l D AC b z L xs Gm j_S_auction 68 (oIld 1 69) := sn_iload_n l D AC b z L xs Gm  dX8_auction_68 rfl
theorem so_S_auction_69 : Snd l D AC b z L xs Gm j_S_auction 69 (oI 2 70) := sn_iconst l D AC b z L xs Gm  dX8_auction_69 (by decide)
theorem so_S_auction_70 : Snd l D AC b z L xs Gm j_S_auction 70 (oII (fun x y => x - y) 71) := sn_isub l D AC b z L xs Gm  dX8_auction_70
theorem so_S_auction_71 : Snd l D AC b z L xs Gm j_S_auction 71 (oCallV kc_Market j_Market_paidBy 1 (mL j_Market_paidBy) 74) := sn_callV l D AC b z L xs Gm  dX8_auction_71 rfl (hs0 (fun _ => rfl) rfl) cal_S_auction_Market_paidBy rfl rfl (by decide) rfl tw_783 tw_631 tw_632
theorem so_S_auction_74 : Snd l D AC b z L xs Gm j_S_auction 74 (oRetI) := sn_retI l D AC b z L xs Gm  dX8_auction_74 rfl
set_option maxRecDepth 100000 in
theorem so_S_auction : ∀ q ∈ tb_S_auction, Snd l D AC b z L xs Gm j_S_auction q.1 q.2 := by
  unfold tb_S_auction
  exact List.forall_mem_cons.mpr ⟨so_S_auction_0 l D AC b z L xs, List.forall_mem_cons.mpr ⟨so_S_auction_1 l D AC b z L xs, List.forall_mem_cons.mpr ⟨so_S_auction_2 l D AC b z L xs, List.forall_mem_cons.mpr ⟨so_S_auction_4 l D AC b z L xs, List.forall_mem_cons.mpr ⟨so_S_auction_7 l D AC b z L xs, List.forall_mem_cons.mpr ⟨so_S_auction_10 l D AC b z L xs, List.forall_mem_cons.mpr ⟨so_S_auction_21 l D AC b z L xs, List.forall_mem_cons.mpr ⟨so_S_auction_22 l D AC b z L xs, List.forall_mem_cons.mpr ⟨so_S_auction_48 l D AC b z L xs, List.forall_mem_cons.mpr ⟨so_S_auction_49 l D AC b z L xs, List.forall_mem_cons.mpr ⟨so_S_auction_52 l D AC b z L xs, List.forall_mem_cons.mpr ⟨so_S_auction_55 l D AC b z L xs, List.forall_mem_cons.mpr ⟨so_S_auction_56 l D AC b z L xs, List.forall_mem_cons.mpr ⟨so_S_auction_57 l D AC b z L xs, List.forall_mem_cons.mpr ⟨so_S_auction_60 l D AC b z L xs, List.forall_mem_cons.mpr ⟨so_S_auction_63 l D AC b z L xs, List.forall_mem_cons.mpr ⟨so_S_auction_64 l D AC b z L xs, List.forall_mem_cons.mpr ⟨so_S_auction_65 l D AC b z L xs, List.forall_mem_cons.mpr ⟨so_S_auction_68 l D AC b z L xs, List.forall_mem_cons.mpr ⟨so_S_auction_69 l D AC b z L xs, List.forall_mem_cons.mpr ⟨so_S_auction_70 l D AC b z L xs, List.forall_mem_cons.mpr ⟨so_S_auction_71 l D AC b z L xs, List.forall_mem_cons.mpr ⟨so_S_auction_74 l D AC b z L xs, fun _ h => absurd h List.not_mem_nil⟩⟩⟩⟩⟩⟩⟩⟩⟩⟩⟩⟩⟩⟩⟩⟩⟩⟩⟩⟩⟩⟩⟩
theorem so_S_cover_0 : Snd l D AC b z L xs Gm j_S_cover 0 (oAld 0 1) := sn_aload_n l D AC b z L xs Gm  dX8_cover_0 rfl
theorem so_S_cover_1 : Snd l D AC b z L xs Gm j_S_cover 1 (oGetR kc_S 0 4) := sn_getR l D AC b z L xs Gm  dX8_cover_1 rfl (by decide) rfl (by decide) kin_8 tw_320
theorem so_S_cover_4 : Snd l D AC b z L xs Gm j_S_cover 4 (oCallV kc_Land j_Land_fewestCovering 0 (mL j_Land_fewestCovering) 7) := sn_callV l D AC b z L xs Gm  dX8_cover_4 rfl (hs0 (fun _ => rfl) rfl) cal_S_cover_Land_fewestCovering rfl rfl (by decide) rfl tw_788 tw_789 tw_790
theorem so_S_cover_7 : Snd l D AC b z L xs Gm j_S_cover 7 (oRetI) := sn_retI l D AC b z L xs Gm  dX8_cover_7 rfl
set_option maxRecDepth 100000 in
theorem so_S_cover : ∀ q ∈ tb_S_cover, Snd l D AC b z L xs Gm j_S_cover q.1 q.2 := by
  unfold tb_S_cover
  exact List.forall_mem_cons.mpr ⟨so_S_cover_0 l D AC b z L xs, List.forall_mem_cons.mpr ⟨so_S_cover_1 l D AC b z L xs, List.forall_mem_cons.mpr ⟨so_S_cover_4 l D AC b z L xs, List.forall_mem_cons.mpr ⟨so_S_cover_7 l D AC b z L xs, fun _ h => absurd h List.not_mem_nil⟩⟩⟩⟩
theorem so_S_isSound_0 : Snd l D AC b z L xs Gm j_S_isSound 0 (oI 0 1) := sn_iconst l D AC b z L xs Gm  dX8_isSound_0 (by decide)
theorem so_S_isSound_1 : Snd l D AC b z L xs Gm j_S_isSound 1 (oIst 1 2) := sn_istore_n l D AC b z L xs Gm  dX8_isSound_1 rfl (by decide)
theorem so_S_isSound_2 : Snd l D AC b z L xs Gm j_S_isSound 2 (oI 0 3) := sn_iconst l D AC b z L xs Gm  dX8_isSound_2 (by decide)
theorem so_S_isSound_3 : Snd l D AC b z L xs Gm j_S_isSound 3 (oIst 2 4) := sn_istore_n l D AC b z L xs Gm  dX8_isSound_3 rfl (by decide)
theorem so_S_isSound_4 : Snd l D AC b z L xs Gm j_S_isSound 4 (oIld 2 5) := sn_iload_n l D AC b z L xs Gm  dX8_isSound_4 rfl
theorem so_S_isSound_5 : Snd l D AC b z L xs Gm j_S_isSound 5 (oAld 0 6) := sn_aload_n l D AC b z L xs Gm  dX8_isSound_5 rfl
theorem so_S_isSound_6 : Snd l D AC b z L xs Gm j_S_isSound 6 (oGetR kc_S 0 9) := sn_getR l D AC b z L xs Gm  dX8_isSound_6 rfl (by decide) rfl (by decide) kin_8 tw_320
theorem so_S_isSound_9 : Snd l D AC b z L xs Gm j_S_isSound 9 (oGetI kc_Land 2 12) := sn_getI l D AC b z L xs Gm  dX8_isSound_9 rfl (by decide) rfl (by decide) kin_2 tw_212
theorem so_S_isSound_12 : Snd l D AC b z L xs Gm j_S_isSound 12 (oIC (fun x y => decide (y ≤ x)) 67 15) := sn_icmp_ge l D AC b z L xs Gm  dX8_isSound_12 (by decide)
theorem so_S_isSound_15 : Snd l D AC b z L xs Gm j_S_isSound 15 (oAld 0 16) := sn_aload_n l D AC b z L xs Gm  dX8_isSound_15 rfl
theorem so_S_isSound_16 : Snd l D AC b z L xs Gm j_S_isSound 16 (oGetR kc_S 0 19) := sn_getR l D AC b z L xs Gm  dX8_isSound_16 rfl (by decide) rfl (by decide) kin_8 tw_320
theorem so_S_isSound_19 : Snd l D AC b z L xs Gm j_S_isSound 19 (oGetR kc_Land 0 22) := sn_getR l D AC b z L xs Gm  dX8_isSound_19 rfl (by decide) rfl (by decide) kin_2 tw_208
theorem so_S_isSound_22 : Snd l D AC b z L xs Gm j_S_isSound 22 (oIld 2 23) := sn_iload_n l D AC b z L xs Gm  dX8_isSound_22 rfl
theorem so_S_isSound_23 : Snd l D AC b z L xs Gm j_S_isSound 23 (oAal 2 24) := sn_aaload l D AC b z L xs Gm  dX8_isSound_23 (by decide) rfl rfl (by decide)
theorem so_S_isSound_24 : Snd l D AC b z L xs Gm j_S_isSound 24 (oCallV kc_Node j_Node_isInOrder 0 (mL j_Node_isInOrder) 27) := sn_callV l D AC b z L xs Gm  dX8_isSound_24 rfl (hs0 (fun _ => rfl) rfl) cal_S_isSound_Node_isInOrder rfl rfl (by decide) rfl tw_805 tw_806 tw_807
theorem so_S_isSound_27 : Snd l D AC b z L xs Gm j_S_isSound 27 (oIf (fun x => decide (x = 0)) 41 30) := sn_if_eq l D AC b z L xs Gm  dX8_isSound_27 (by decide)
theorem so_S_isSound_30 : Snd l D AC b z L xs Gm j_S_isSound 30 (oAld 0 31) := sn_aload_n l D AC b z L xs Gm  dX8_isSound_30 rfl
theorem so_S_isSound_31 : Snd l D AC b z L xs Gm j_S_isSound 31 (oGetR kc_S 1 34) := sn_getR l D AC b z L xs Gm  dX8_isSound_31 rfl (by decide) rfl (by decide) kin_8 tw_321
theorem so_S_isSound_34 : Snd l D AC b z L xs Gm j_S_isSound 34 (oIld 2 35) := sn_iload_n l D AC b z L xs Gm  dX8_isSound_34 rfl
theorem so_S_isSound_35 : Snd l D AC b z L xs Gm j_S_isSound 35 (oCallV kc_Routes j_Routes_areInOrder 1 (mL j_Routes_areInOrder) 38) := sn_callV l D AC b z L xs Gm  dX8_isSound_35 rfl (hs0 (fun _ => rfl) rfl) cal_S_isSound_Routes_areInOrder rfl rfl (by decide) rfl tw_810 tw_811 tw_812
theorem so_S_isSound_38 : Snd l D AC b z L xs Gm j_S_isSound 38 (oIf (fun x => decide (¬ x = 0)) 43 41) := sn_if_ne l D AC b z L xs Gm  dX8_isSound_38 (by decide)
theorem so_S_isSound_41 : Snd l D AC b z L xs Gm j_S_isSound 41 (oI 0 42) := sn_iconst l D AC b z L xs Gm  dX8_isSound_41 (by decide)
theorem so_S_isSound_42 : Snd l D AC b z L xs Gm j_S_isSound 42 (oRetZ) := sn_retZ l D AC b z L xs Gm  dX8_isSound_42 rfl
theorem so_S_isSound_43 : Snd l D AC b z L xs Gm j_S_isSound 43 (oIld 1 44) := sn_iload_n l D AC b z L xs Gm  dX8_isSound_43 rfl
theorem so_S_isSound_44 : Snd l D AC b z L xs Gm j_S_isSound 44 (oAld 0 45) := sn_aload_n l D AC b z L xs Gm  dX8_isSound_44 rfl
theorem so_S_isSound_45 : Snd l D AC b z L xs Gm j_S_isSound 45 (oGetR kc_S 0 48) := sn_getR l D AC b z L xs Gm  dX8_isSound_45 rfl (by decide) rfl (by decide) kin_8 tw_320
theorem so_S_isSound_48 : Snd l D AC b z L xs Gm j_S_isSound 48 (oGetR kc_Land 0 51) := sn_getR l D AC b z L xs Gm  dX8_isSound_48 rfl (by decide) rfl (by decide) kin_2 tw_208
theorem so_S_isSound_51 : Snd l D AC b z L xs Gm j_S_isSound 51 (oIld 2 52) := sn_iload_n l D AC b z L xs Gm  dX8_isSound_51 rfl
theorem so_S_isSound_52 : Snd l D AC b z L xs Gm j_S_isSound 52 (oAal 2 53) := sn_aaload l D AC b z L xs Gm  dX8_isSound_52 (by decide) rfl rfl (by decide)
theorem so_S_isSound_53 : Snd l D AC b z L xs Gm j_S_isSound 53 (oGetR kc_Node 15 56) := sn_getR l D AC b z L xs Gm  dX8_isSound_53 rfl (by decide) rfl (by decide) kin_4 tw_172
theorem so_S_isSound_56 : Snd l D AC b z L xs Gm j_S_isSound 56 (oCallV kc_NumberSet j_NumberSet_size 0 (mL j_NumberSet_size) 59) := sn_callV l D AC b z L xs Gm  dX8_isSound_56 rfl (hs0 (fun _ => rfl) rfl) cal_S_isSound_NumberSet_size rfl rfl (by decide) rfl tw_815 tw_816 tw_817
theorem so_S_isSound_59 : Snd l D AC b z L xs Gm j_S_isSound 59 (oII (fun x y => x + y) 60) := sn_iadd l D AC b z L xs Gm  dX8_isSound_59
theorem so_S_isSound_60 : Snd l D AC b z L xs Gm j_S_isSound 60 (oIst 1 61) := sn_istore_n l D AC b z L xs Gm  dX8_isSound_60 rfl (by decide)
theorem so_S_isSound_61 : Snd l D AC b z L xs Gm j_S_isSound 61 (oInc 2 1 64) := sn_iinc l D AC b z L xs Gm  dX8_isSound_61 (by decide) (by decide)
theorem so_S_isSound_64 : Snd l D AC b z L xs Gm j_S_isSound 64 (oGo 4) := sn_goto l D AC b z L xs Gm  dX8_isSound_64 (by decide)
theorem so_S_isSound_67 : Snd l D AC b z L xs Gm j_S_isSound 67 (oAld 0 68) := sn_aload_n l D AC b z L xs Gm  dX8_isSound_67 rfl
theorem so_S_isSound_68 : Snd l D AC b z L xs Gm j_S_isSound 68 (oGetR kc_S 2 71) := sn_getR l D AC b z L xs Gm  dX8_isSound_68 rfl (by decide) rfl (by decide) kin_8 tw_322
theorem so_S_isSound_71 : Snd l D AC b z L xs Gm j_S_isSound 71 (oGetI kc_Traffic 4 74) := sn_getI l D AC b z L xs Gm  dX8_isSound_71 rfl (by decide) rfl (by decide) kin_7 tw_262
theorem so_S_isSound_74 : Snd l D AC b z L xs Gm j_S_isSound 74 (oIld 1 75) := sn_iload_n l D AC b z L xs Gm  dX8_isSound_74 rfl
theorem so_S_isSound_75 : Snd l D AC b z L xs Gm j_S_isSound 75 (oIC (fun x y => decide (¬ x = y)) 101 78) := sn_icmp_ne l D AC b z L xs Gm  dX8_isSound_75 (by decide)
theorem so_S_isSound_78 : Snd l D AC b z L xs Gm j_S_isSound 78 (oAld 0 79) := sn_aload_n l D AC b z L xs Gm  dX8_isSound_78 rfl
theorem so_S_isSound_79 : Snd l D AC b z L xs Gm j_S_isSound 79 (oCallV kc_S j_S_fairness 0 (mL j_S_fairness) 82) := sn_callV l D AC b z L xs Gm  dX8_isSound_79 rfl (hs0 (fun _ => rfl) rfl) cal_S_isSound_S_fairness rfl rfl (by decide) rfl tw_774 tw_775 tw_776
theorem so_S_isSound_82 : Snd l D AC b z L xs Gm j_S_isSound 82 (oF FP.dconst1 83) := sn_dconst1 l D AC b z L xs Gm  dX8_isSound_82
theorem so_S_isSound_83 : Snd l D AC b z L xs Gm j_S_isSound 83 (oDcmp .g 84) := sn_dcmp l D AC b z L xs Gm  dX8_isSound_83
theorem so_S_isSound_84 : Snd l D AC b z L xs Gm j_S_isSound 84 (oIf (fun x => decide (0 < x)) 101 87) := sn_if_gt l D AC b z L xs Gm  dX8_isSound_84 (by decide)
theorem so_S_isSound_87 : Snd l D AC b z L xs Gm j_S_isSound 87 (oAld 0 88) := sn_aload_n l D AC b z L xs Gm  dX8_isSound_87 rfl
theorem so_S_isSound_88 : Snd l D AC b z L xs Gm j_S_isSound 88 (oGetR kc_S 3 91) := sn_getR l D AC b z L xs Gm  dX8_isSound_88 rfl (by decide) rfl (by decide) kin_8 tw_323
theorem so_S_isSound_91 : Snd l D AC b z L xs Gm j_S_isSound 91 (oCallV kc_Market j_Market_nobodyOverpays 0 (mL j_Market_nobodyOverpays) 94) := sn_callV l D AC b z L xs Gm  dX8_isSound_91 rfl (hs0 (fun _ => rfl) rfl) cal_S_isSound_Market_nobodyOverpays rfl rfl (by decide) rfl tw_825 tw_826 tw_827
theorem so_S_isSound_94 : Snd l D AC b z L xs Gm j_S_isSound 94 (oIf (fun x => decide (x = 0)) 101 97) := sn_if_eq l D AC b z L xs Gm  dX8_isSound_94 (by decide)
theorem so_S_isSound_97 : Snd l D AC b z L xs Gm j_S_isSound 97 (oI 1 98) := sn_iconst l D AC b z L xs Gm  dX8_isSound_97 (by decide)
theorem so_S_isSound_98 : Snd l D AC b z L xs Gm j_S_isSound 98 (oGo 102) := sn_goto l D AC b z L xs Gm  dX8_isSound_98 (by decide)
theorem so_S_isSound_101 : Snd l D AC b z L xs Gm j_S_isSound 101 (oI 0 102) := sn_iconst l D AC b z L xs Gm  dX8_isSound_101 (by decide)
theorem so_S_isSound_102 : Snd l D AC b z L xs Gm j_S_isSound 102 (oRetZ) := sn_retZ l D AC b z L xs Gm  dX8_isSound_102 rfl
set_option maxRecDepth 100000 in
theorem so_S_isSound : ∀ q ∈ tb_S_isSound, Snd l D AC b z L xs Gm j_S_isSound q.1 q.2 := by
  unfold tb_S_isSound
  exact List.forall_mem_cons.mpr ⟨so_S_isSound_0 l D AC b z L xs, List.forall_mem_cons.mpr ⟨so_S_isSound_1 l D AC b z L xs, List.forall_mem_cons.mpr ⟨so_S_isSound_2 l D AC b z L xs, List.forall_mem_cons.mpr ⟨so_S_isSound_3 l D AC b z L xs, List.forall_mem_cons.mpr ⟨so_S_isSound_4 l D AC b z L xs, List.forall_mem_cons.mpr ⟨so_S_isSound_5 l D AC b z L xs, List.forall_mem_cons.mpr ⟨so_S_isSound_6 l D AC b z L xs, List.forall_mem_cons.mpr ⟨so_S_isSound_9 l D AC b z L xs, List.forall_mem_cons.mpr ⟨so_S_isSound_12 l D AC b z L xs, List.forall_mem_cons.mpr ⟨so_S_isSound_15 l D AC b z L xs, List.forall_mem_cons.mpr ⟨so_S_isSound_16 l D AC b z L xs, List.forall_mem_cons.mpr ⟨so_S_isSound_19 l D AC b z L xs, List.forall_mem_cons.mpr ⟨so_S_isSound_22 l D AC b z L xs, List.forall_mem_cons.mpr ⟨so_S_isSound_23 l D AC b z L xs, List.forall_mem_cons.mpr ⟨so_S_isSound_24 l D AC b z L xs, List.forall_mem_cons.mpr ⟨so_S_isSound_27 l D AC b z L xs, List.forall_mem_cons.mpr ⟨so_S_isSound_30 l D AC b z L xs, List.forall_mem_cons.mpr ⟨so_S_isSound_31 l D AC b z L xs, List.forall_mem_cons.mpr ⟨so_S_isSound_34 l D AC b z L xs, List.forall_mem_cons.mpr ⟨so_S_isSound_35 l D AC b z L xs, List.forall_mem_cons.mpr ⟨so_S_isSound_38 l D AC b z L xs, List.forall_mem_cons.mpr ⟨so_S_isSound_41 l D AC b z L xs, List.forall_mem_cons.mpr ⟨so_S_isSound_42 l D AC b z L xs, List.forall_mem_cons.mpr ⟨so_S_isSound_43 l D AC b z L xs, List.forall_mem_cons.mpr ⟨so_S_isSound_44 l D AC b z L xs, List.forall_mem_cons.mpr ⟨so_S_isSound_45 l D AC b z L xs, List.forall_mem_cons.mpr ⟨so_S_isSound_48 l D AC b z L xs, List.forall_mem_cons.mpr ⟨so_S_isSound_51 l D AC b z L xs, List.forall_mem_cons.mpr ⟨so_S_isSound_52 l D AC b z L xs, List.forall_mem_cons.mpr ⟨so_S_isSound_53 l D AC b z L xs, List.forall_mem_cons.mpr ⟨so_S_isSound_56 l D AC b z L xs, List.forall_mem_cons.mpr ⟨so_S_isSound_59 l D AC b z L xs, List.forall_mem_cons.mpr ⟨so_S_isSound_60 l D AC b z L xs, List.forall_mem_cons.mpr ⟨so_S_isSound_61 l D AC b z L xs, List.forall_mem_cons.mpr ⟨so_S_isSound_64 l D AC b z L xs, List.forall_mem_cons.mpr ⟨so_S_isSound_67 l D AC b z L xs, List.forall_mem_cons.mpr ⟨so_S_isSound_68 l D AC b z L xs, List.forall_mem_cons.mpr ⟨so_S_isSound_71 l D AC b z L xs, List.forall_mem_cons.mpr ⟨so_S_isSound_74 l D AC b z L xs, List.forall_mem_cons.mpr ⟨so_S_isSound_75 l D AC b z L xs, List.forall_mem_cons.mpr ⟨so_S_isSound_78 l D AC b z L xs, List.forall_mem_cons.mpr ⟨so_S_isSound_79 l D AC b z L xs, List.forall_mem_cons.mpr ⟨so_S_isSound_82 l D AC b z L xs, List.forall_mem_cons.mpr ⟨so_S_isSound_83 l D AC b z L xs, List.forall_mem_cons.mpr ⟨so_S_isSound_84 l D AC b z L xs, List.forall_mem_cons.mpr ⟨so_S_isSound_87 l D AC b z L xs, List.forall_mem_cons.mpr ⟨so_S_isSound_88 l D AC b z L xs, List.forall_mem_cons.mpr ⟨so_S_isSound_91 l D AC b z L xs, List.forall_mem_cons.mpr ⟨so_S_isSound_94 l D AC b z L xs, List.forall_mem_cons.mpr ⟨so_S_isSound_97 l D AC b z L xs, List.forall_mem_cons.mpr ⟨so_S_isSound_98 l D AC b z L xs, List.forall_mem_cons.mpr ⟨so_S_isSound_101 l D AC b z L xs, List.forall_mem_cons.mpr ⟨so_S_isSound_102 l D AC b z L xs, fun _ h => absurd h List.not_mem_nil⟩⟩⟩⟩⟩⟩⟩⟩⟩⟩⟩⟩⟩⟩⟩⟩⟩⟩⟩⟩⟩⟩⟩⟩⟩⟩⟩⟩⟩⟩⟩⟩⟩⟩⟩⟩⟩⟩⟩⟩⟩⟩⟩⟩⟩⟩⟩⟩⟩⟩⟩⟩⟩
theorem so_S_digest_0 : Snd l D AC b z L xs Gm j_S_digest 0 (oJ 7603 3) := sn_ldc2 l D AC b z L xs Gm  dX8_digest_0 tw_736
theorem so_S_digest_3 : Snd l D AC b z L xs Gm j_S_digest 3 (oLst 1 4) := sn_lstore_n l D AC b z L xs Gm  dX8_digest_3 rfl (by decide)
theorem so_S_digest_4 : Snd l D AC b z L xs Gm j_S_digest 4 (oI 0 5) := sn_iconst l D AC b z L xs Gm  dX8_digest_4 (by decide)
theorem so_S_digest_5 : Snd l D AC b z L xs Gm j_S_digest 5 (oIst 3 6) := sn_istore_n l D AC b z L xs Gm  dX8_digest_5 rfl (by decide)
theorem so_S_digest_6 : Snd l D AC b z L xs Gm j_S_digest 6 (oIld 3 7) := sn_iload_n l D AC b z L xs Gm  dX8_digest_6 rfl
theorem so_S_digest_7 : Snd l D AC b z L xs Gm j_S_digest 7 (oI 12 9) := sn_bipush l D AC b z L xs Gm  dX8_digest_7 (by decide)
theorem so_S_digest_9 : Snd l D AC b z L xs Gm j_S_digest 9 (oIC (fun x y => decide (y < x)) 29 12) := sn_icmp_gt l D AC b z L xs Gm  dX8_digest_9 (by decide)
theorem so_S_digest_12 : Snd l D AC b z L xs Gm j_S_digest 12 (oLld 1 13) := sn_lload_n l D AC b z L xs Gm  dX8_digest_12 rfl
theorem so_S_digest_13 : Snd l D AC b z L xs Gm j_S_digest 13 (oAld 0 14) := sn_aload_n l D AC b z L xs Gm  dX8_digest_13 rfl
theorem so_S_digest_14 : Snd l D AC b z L xs Gm j_S_digest 14 (oIld 3 15) := sn_iload_n l D AC b z L xs Gm  dX8_digest_14 rfl
theorem so_S_digest_15 : Snd l D AC b z L xs Gm j_S_digest 15 (oCallV kc_S j_S_air 1 (mL j_S_air) 18) := sn_callV l D AC b z L xs Gm  dX8_digest_15 rfl (hs0 (fun _ => rfl) rfl) cal_S_digest_S_air rfl rfl (by decide) rfl tw_737 tw_523 tw_524
theorem so_S_digest_18 : Snd l D AC b z L xs Gm j_S_digest 18 (oI2L 19) := sn_i2l l D AC b z L xs Gm  dX8_digest_18
theorem so_S_digest_19 : Snd l D AC b z L xs Gm j_S_digest 19 (oCallS j_S_mix 2 (mL j_S_mix) 22) := sn_callS l D AC b z L xs Gm  dX8_digest_19 rfl (hs0 (fun _ => rfl) rfl) cal_S_digest_S_mix rfl tw_738 tw_739
theorem so_S_digest_22 : Snd l D AC b z L xs Gm j_S_digest 22 (oLst 1 23) := sn_lstore_n l D AC b z L xs Gm  dX8_digest_22 rfl (by decide)
theorem so_S_digest_23 : Snd l D AC b z L xs Gm j_S_digest 23 (oInc 3 1 26) := sn_iinc l D AC b z L xs Gm  dX8_digest_23 (by decide) (by decide)
theorem so_S_digest_26 : Snd l D AC b z L xs Gm j_S_digest 26 (oGo 6) := sn_goto l D AC b z L xs Gm  dX8_digest_26 (by decide)
theorem so_S_digest_29 : Snd l D AC b z L xs Gm j_S_digest 29 (oI 0 30) := sn_iconst l D AC b z L xs Gm  dX8_digest_29 (by decide)
theorem so_S_digest_30 : Snd l D AC b z L xs Gm j_S_digest 30 (oIst 3 31) := sn_istore_n l D AC b z L xs Gm  dX8_digest_30 rfl (by decide)
theorem so_S_digest_31 : Snd l D AC b z L xs Gm j_S_digest 31 (oIld 3 32) := sn_iload_n l D AC b z L xs Gm  dX8_digest_31 rfl
theorem so_S_digest_32 : Snd l D AC b z L xs Gm j_S_digest 32 (oAld 0 33) := sn_aload_n l D AC b z L xs Gm  dX8_digest_32 rfl
theorem so_S_digest_33 : Snd l D AC b z L xs Gm j_S_digest 33 (oGetR kc_S 0 36) := sn_getR l D AC b z L xs Gm  dX8_digest_33 rfl (by decide) rfl (by decide) kin_8 tw_320
theorem so_S_digest_36 : Snd l D AC b z L xs Gm j_S_digest 36 (oGetI kc_Land 2 39) := sn_getI l D AC b z L xs Gm  dX8_digest_36 rfl (by decide) rfl (by decide) kin_2 tw_212
theorem so_S_digest_39 : Snd l D AC b z L xs Gm j_S_digest 39 (oIC (fun x y => decide (y ≤ x)) 55 42) := sn_icmp_ge l D AC b z L xs Gm  dX8_digest_39 (by decide)
theorem so_S_digest_42 : Snd l D AC b z L xs Gm j_S_digest 42 (oAld 0 43) := sn_aload_n l D AC b z L xs Gm  dX8_digest_42 rfl
theorem so_S_digest_43 : Snd l D AC b z L xs Gm j_S_digest 43 (oLld 1 44) := sn_lload_n l D AC b z L xs Gm  dX8_digest_43 rfl
theorem so_S_digest_44 : Snd l D AC b z L xs Gm j_S_digest 44 (oIld 3 45) := sn_iload_n l D AC b z L xs Gm  dX8_digest_44 rfl
theorem so_S_digest_45 : Snd l D AC b z L xs Gm j_S_digest 45 (oCallV kc_S j_S_mixNode 2 (mL j_S_mixNode) 48) := sn_callV l D AC b z L xs Gm  dX8_digest_45 rfl (hs0 (fun _ => rfl) rfl) cal_S_digest_S_mixNode rfl rfl (by decide) rfl tw_742 tw_744 tw_18
theorem so_S_digest_48 : Snd l D AC b z L xs Gm j_S_digest 48 (oLst 1 49) := sn_lstore_n l D AC b z L xs Gm  dX8_digest_48 rfl (by decide)
theorem so_S_digest_49 : Snd l D AC b z L xs Gm j_S_digest 49 (oInc 3 1 52) := sn_iinc l D AC b z L xs Gm  dX8_digest_49 (by decide) (by decide)
theorem so_S_digest_52 : Snd l D AC b z L xs Gm j_S_digest 52 (oGo 31) := sn_goto l D AC b z L xs Gm  dX8_digest_52 (by decide)
theorem so_S_digest_55 : Snd l D AC b z L xs Gm j_S_digest 55 (oLld 1 56) := sn_lload_n l D AC b z L xs Gm  dX8_digest_55 rfl
theorem so_S_digest_56 : Snd l D AC b z L xs Gm j_S_digest 56 (oF 4661225614328463360 59) := sn_ldc2d l D AC b z L xs Gm  dX8_digest_56 tw_773
theorem so_S_digest_59 : Snd l D AC b z L xs Gm j_S_digest 59 (oAld 0 60) := sn_aload_n l D AC b z L xs Gm  dX8_digest_59 rfl
theorem so_S_digest_60 : Snd l D AC b z L xs Gm j_S_digest 60 (oCallV kc_S j_S_fairness 0 (mL j_S_fairness) 63) := sn_callV l D AC b z L xs Gm  dX8_digest_60 rfl (hs0 (fun _ => rfl) rfl) cal_S_digest_S_fairness rfl rfl (by decide) rfl tw_774 tw_775 tw_776
theorem so_S_digest_63 : Snd l D AC b z L xs Gm j_S_digest 63 (oDD FP.dmul 64) := sn_dmul l D AC b z L xs Gm  dX8_digest_63
theorem so_S_digest_64 : Snd l D AC b z L xs Gm j_S_digest 64 (oD2L 65) := sn_d2l l D AC b z L xs Gm  dX8_digest_64
theorem so_S_digest_65 : Snd l D AC b z L xs Gm j_S_digest 65 (oCallS j_S_mix 2 (mL j_S_mix) 68) := sn_callS l D AC b z L xs Gm  dX8_digest_65 rfl (hs0 (fun _ => rfl) rfl) cal_S_digest_S_mix rfl tw_738 tw_739
theorem so_S_digest_68 : Snd l D AC b z L xs Gm j_S_digest 68 (oLst 1 69) := sn_lstore_n l D AC b z L xs Gm  dX8_digest_68 rfl (by decide)
theorem so_S_digest_69 : Snd l D AC b z L xs Gm j_S_digest 69 (oI 0 70) := sn_iconst l D AC b z L xs Gm  dX8_digest_69 (by decide)
theorem so_S_digest_70 : Snd l D AC b z L xs Gm j_S_digest 70 (oIst 3 71) := sn_istore_n l D AC b z L xs Gm  dX8_digest_70 rfl (by decide)
theorem so_S_digest_71 : Snd l D AC b z L xs Gm j_S_digest 71 (oIld 3 72) := sn_iload_n l D AC b z L xs Gm  dX8_digest_71 rfl
theorem so_S_digest_72 : Snd l D AC b z L xs Gm j_S_digest 72 (oI 6 74) := sn_bipush l D AC b z L xs Gm  dX8_digest_72 (by decide)
theorem so_S_digest_74 : Snd l D AC b z L xs Gm j_S_digest 74 (oIC (fun x y => decide (y < x)) 94 77) := sn_icmp_gt l D AC b z L xs Gm  dX8_digest_74 (by decide)
theorem so_S_digest_77 : Snd l D AC b z L xs Gm j_S_digest 77 (oLld 1 78) := sn_lload_n l D AC b z L xs Gm  dX8_digest_77 rfl
theorem so_S_digest_78 : Snd l D AC b z L xs Gm j_S_digest 78 (oAld 0 79) := sn_aload_n l D AC b z L xs Gm  dX8_digest_78 rfl
theorem so_S_digest_79 : Snd l D AC b z L xs Gm j_S_digest 79 (oIld 3 80) := sn_iload_n l D AC b z L xs Gm  dX8_digest_79 rfl
theorem so_S_digest_80 : Snd l D AC b z L xs Gm j_S_digest 80 (oCallV kc_S j_S_auction 1 (mL j_S_auction) 83) := sn_callV l D AC b z L xs Gm  dX8_digest_80 rfl (hs0 (fun _ => rfl) rfl) cal_S_digest_S_auction rfl rfl (by decide) rfl tw_778 tw_779 tw_780
theorem so_S_digest_83 : Snd l D AC b z L xs Gm j_S_digest 83 (oI2L 84) := sn_i2l l D AC b z L xs Gm  dX8_digest_83
theorem so_S_digest_84 : Snd l D AC b z L xs Gm j_S_digest 84 (oCallS j_S_mix 2 (mL j_S_mix) 87) := sn_callS l D AC b z L xs Gm  dX8_digest_84 rfl (hs0 (fun _ => rfl) rfl) cal_S_digest_S_mix rfl tw_738 tw_739
theorem so_S_digest_87 : Snd l D AC b z L xs Gm j_S_digest 87 (oLst 1 88) := sn_lstore_n l D AC b z L xs Gm  dX8_digest_87 rfl (by decide)
theorem so_S_digest_88 : Snd l D AC b z L xs Gm j_S_digest 88 (oInc 3 1 91) := sn_iinc l D AC b z L xs Gm  dX8_digest_88 (by decide) (by decide)
theorem so_S_digest_91 : Snd l D AC b z L xs Gm j_S_digest 91 (oGo 71) := sn_goto l D AC b z L xs Gm  dX8_digest_91 (by decide)
theorem so_S_digest_94 : Snd l D AC b z L xs Gm j_S_digest 94 (oLld 1 95) := sn_lload_n l D AC b z L xs Gm  dX8_digest_94 rfl
theorem so_S_digest_95 : Snd l D AC b z L xs Gm j_S_digest 95 (oAld 0 96) := sn_aload_n l D AC b z L xs Gm  dX8_digest_95 rfl
theorem so_S_digest_96 : Snd l D AC b z L xs Gm j_S_digest 96 (oCallV kc_S j_S_cover 0 (mL j_S_cover) 99) := sn_callV l D AC b z L xs Gm  dX8_digest_96 rfl (hs0 (fun _ => rfl) rfl) cal_S_digest_S_cover rfl rfl (by decide) rfl tw_784 tw_785 tw_786
theorem so_S_digest_99 : Snd l D AC b z L xs Gm j_S_digest 99 (oI2L 100) := sn_i2l l D AC b z L xs Gm  dX8_digest_99
theorem so_S_digest_100 : Snd l D AC b z L xs Gm j_S_digest 100 (oCallS j_S_mix 2 (mL j_S_mix) 103) := sn_callS l D AC b z L xs Gm  dX8_digest_100 rfl (hs0 (fun _ => rfl) rfl) cal_S_digest_S_mix rfl tw_738 tw_739
theorem so_S_digest_103 : Snd l D AC b z L xs Gm j_S_digest 103 (oLst 1 104) := sn_lstore_n l D AC b z L xs Gm  dX8_digest_103 rfl (by decide)
theorem so_S_digest_104 : Snd l D AC b z L xs Gm j_S_digest 104 (oLld 1 105) := sn_lload_n l D AC b z L xs Gm  dX8_digest_104 rfl
theorem so_S_digest_105 : Snd l D AC b z L xs Gm j_S_digest 105 (oAld 0 106) := sn_aload_n l D AC b z L xs Gm  dX8_digest_105 rfl
theorem so_S_digest_106 : Snd l D AC b z L xs Gm j_S_digest 106 (oCallV kc_S j_S_isSound 0 (mL j_S_isSound) 109) := sn_callV l D AC b z L xs Gm  dX8_digest_106 rfl (hs0 (fun _ => rfl) rfl) cal_S_digest_S_isSound rfl rfl (by decide) rfl tw_801 tw_802 tw_803
theorem so_S_digest_109 : Snd l D AC b z L xs Gm j_S_digest 109 (oIf (fun x => decide (x = 0)) 116 112) := sn_if_eq l D AC b z L xs Gm  dX8_digest_109 (by decide)
theorem so_S_digest_112 : Snd l D AC b z L xs Gm j_S_digest 112 (oJ 1 113) := sn_lconst l D AC b z L xs Gm  dX8_digest_112 (by decide)
theorem so_S_digest_113 : Snd l D AC b z L xs Gm j_S_digest 113 (oGo 117) := sn_goto l D AC b z L xs Gm  dX8_digest_113 (by decide)
theorem so_S_digest_116 : Snd l D AC b z L xs Gm j_S_digest 116 (oJ 0 117) := sn_lconst l D AC b z L xs Gm  dX8_digest_116 (by decide)
theorem so_S_digest_117 : Snd l D AC b z L xs Gm j_S_digest 117 (oCallS j_S_mix 2 (mL j_S_mix) 120) := sn_callS l D AC b z L xs Gm  dX8_digest_117 rfl (hs0 (fun _ => rfl) rfl) cal_S_digest_S_mix rfl tw_738 tw_739
theorem so_S_digest_120 : Snd l D AC b z L xs Gm j_S_digest 120 (oRetL) := sn_retL l D AC b z L xs Gm  dX8_digest_120 rfl
set_option maxRecDepth 100000 in
theorem so_S_digest : ∀ q ∈ tb_S_digest, Snd l D AC b z L xs Gm j_S_digest q.1 q.2 := by
  unfold tb_S_digest
  exact List.forall_mem_cons.mpr ⟨so_S_digest_0 l D AC b z L xs, List.forall_mem_cons.mpr ⟨so_S_digest_3 l D AC b z L xs, List.forall_mem_cons.mpr ⟨so_S_digest_4 l D AC b z L xs, List.forall_mem_cons.mpr ⟨so_S_digest_5 l D AC b z L xs, List.forall_mem_cons.mpr ⟨so_S_digest_6 l D AC b z L xs, List.forall_mem_cons.mpr ⟨so_S_digest_7 l D AC b z L xs, List.forall_mem_cons.mpr ⟨so_S_digest_9 l D AC b z L xs, List.forall_mem_cons.mpr ⟨so_S_digest_12 l D AC b z L xs, List.forall_mem_cons.mpr ⟨so_S_digest_13 l D AC b z L xs, List.forall_mem_cons.mpr ⟨so_S_digest_14 l D AC b z L xs, List.forall_mem_cons.mpr ⟨so_S_digest_15 l D AC b z L xs, List.forall_mem_cons.mpr ⟨so_S_digest_18 l D AC b z L xs, List.forall_mem_cons.mpr ⟨so_S_digest_19 l D AC b z L xs, List.forall_mem_cons.mpr ⟨so_S_digest_22 l D AC b z L xs, List.forall_mem_cons.mpr ⟨so_S_digest_23 l D AC b z L xs, List.forall_mem_cons.mpr ⟨so_S_digest_26 l D AC b z L xs, List.forall_mem_cons.mpr ⟨so_S_digest_29 l D AC b z L xs, List.forall_mem_cons.mpr ⟨so_S_digest_30 l D AC b z L xs, List.forall_mem_cons.mpr ⟨so_S_digest_31 l D AC b z L xs, List.forall_mem_cons.mpr ⟨so_S_digest_32 l D AC b z L xs, List.forall_mem_cons.mpr ⟨so_S_digest_33 l D AC b z L xs, List.forall_mem_cons.mpr ⟨so_S_digest_36 l D AC b z L xs, List.forall_mem_cons.mpr ⟨so_S_digest_39 l D AC b z L xs, List.forall_mem_cons.mpr ⟨so_S_digest_42 l D AC b z L xs, List.forall_mem_cons.mpr ⟨so_S_digest_43 l D AC b z L xs, List.forall_mem_cons.mpr ⟨so_S_digest_44 l D AC b z L xs, List.forall_mem_cons.mpr ⟨so_S_digest_45 l D AC b z L xs, List.forall_mem_cons.mpr ⟨so_S_digest_48 l D AC b z L xs, List.forall_mem_cons.mpr ⟨so_S_digest_49 l D AC b z L xs, List.forall_mem_cons.mpr ⟨so_S_digest_52 l D AC b z L xs, List.forall_mem_cons.mpr ⟨so_S_digest_55 l D AC b z L xs, List.forall_mem_cons.mpr ⟨so_S_digest_56 l D AC b z L xs, List.forall_mem_cons.mpr ⟨so_S_digest_59 l D AC b z L xs, List.forall_mem_cons.mpr ⟨so_S_digest_60 l D AC b z L xs, List.forall_mem_cons.mpr ⟨so_S_digest_63 l D AC b z L xs, List.forall_mem_cons.mpr ⟨so_S_digest_64 l D AC b z L xs, List.forall_mem_cons.mpr ⟨so_S_digest_65 l D AC b z L xs, List.forall_mem_cons.mpr ⟨so_S_digest_68 l D AC b z L xs, List.forall_mem_cons.mpr ⟨so_S_digest_69 l D AC b z L xs, List.forall_mem_cons.mpr ⟨so_S_digest_70 l D AC b z L xs, List.forall_mem_cons.mpr ⟨so_S_digest_71 l D AC b z L xs, List.forall_mem_cons.mpr ⟨so_S_digest_72 l D AC b z L xs, List.forall_mem_cons.mpr ⟨so_S_digest_74 l D AC b z L xs, List.forall_mem_cons.mpr ⟨so_S_digest_77 l D AC b z L xs, List.forall_mem_cons.mpr ⟨so_S_digest_78 l D AC b z L xs, List.forall_mem_cons.mpr ⟨so_S_digest_79 l D AC b z L xs, List.forall_mem_cons.mpr ⟨so_S_digest_80 l D AC b z L xs, List.forall_mem_cons.mpr ⟨so_S_digest_83 l D AC b z L xs, List.forall_mem_cons.mpr ⟨so_S_digest_84 l D AC b z L xs, List.forall_mem_cons.mpr ⟨so_S_digest_87 l D AC b z L xs, List.forall_mem_cons.mpr ⟨so_S_digest_88 l D AC b z L xs, List.forall_mem_cons.mpr ⟨so_S_digest_91 l D AC b z L xs, List.forall_mem_cons.mpr ⟨so_S_digest_94 l D AC b z L xs, List.forall_mem_cons.mpr ⟨so_S_digest_95 l D AC b z L xs, List.forall_mem_cons.mpr ⟨so_S_digest_96 l D AC b z L xs, List.forall_mem_cons.mpr ⟨so_S_digest_99 l D AC b z L xs, List.forall_mem_cons.mpr ⟨so_S_digest_100 l D AC b z L xs, List.forall_mem_cons.mpr ⟨so_S_digest_103 l D AC b z L xs, List.forall_mem_cons.mpr ⟨so_S_digest_104 l D AC b z L xs, List.forall_mem_cons.mpr ⟨so_S_digest_105 l D AC b z L xs, List.forall_mem_cons.mpr ⟨so_S_digest_106 l D AC b z L xs, List.forall_mem_cons.mpr ⟨so_S_digest_109 l D AC b z L xs, List.forall_mem_cons.mpr ⟨so_S_digest_112 l D AC b z L xs, List.forall_mem_cons.mpr ⟨so_S_digest_113 l D AC b z L xs, List.forall_mem_cons.mpr ⟨so_S_digest_116 l D AC b z L xs, List.forall_mem_cons.mpr ⟨so_S_digest_117 l D AC b z L xs, List.forall_mem_cons.mpr ⟨so_S_digest_120 l D AC b z L xs, fun _ h => absurd h List.not_mem_nil⟩⟩⟩⟩⟩⟩⟩⟩⟩⟩⟩⟩⟩⟩⟩⟩⟩⟩⟩⟩⟩⟩⟩⟩⟩⟩⟩⟩⟩⟩⟩⟩⟩⟩⟩⟩⟩⟩⟩⟩⟩⟩⟩⟩⟩⟩⟩⟩⟩⟩⟩⟩⟩⟩⟩⟩⟩⟩⟩⟩⟩⟩⟩⟩⟩⟩⟩
theorem so_S_mixNode_0 : Snd l D AC b z L xs Gm j_S_mixNode 0 (oLld 1 1) := sn_lload_n l D AC b z L xs Gm  dX8_mixNode_0 rfl
theorem so_S_mixNode_1 : Snd l D AC b z L xs Gm j_S_mixNode 1 (oLst 4 3) := sn_lstore l D AC b z L xs Gm  dX8_mixNode_1 (by decide)
theorem so_S_mixNode_3 : Snd l D AC b z L xs Gm j_S_mixNode 3 (oI 0 4) := sn_iconst l D AC b z L xs Gm  dX8_mixNode_3 (by decide)
theorem so_S_mixNode_4 : Snd l D AC b z L xs Gm j_S_mixNode 4 (oIst 6 6) := sn_istore l D AC b z L xs Gm  dX8_mixNode_4 (by decide)
theorem so_S_mixNode_6 : Snd l D AC b z L xs Gm j_S_mixNode 6 (oIld 6 8) := sn_iload l D AC b z L xs Gm  dX8_mixNode_6
theorem so_S_mixNode_8 : Snd l D AC b z L xs Gm j_S_mixNode 8 (oI 15 10) := sn_bipush l D AC b z L xs Gm  dX8_mixNode_8 (by decide)
theorem so_S_mixNode_10 : Snd l D AC b z L xs Gm j_S_mixNode 10 (oIC (fun x y => decide (y < x)) 34 13) := sn_icmp_gt l D AC b z L xs Gm  dX8_mixNode_10 (by decide)
theorem so_S_mixNode_13 : Snd l D AC b z L xs Gm j_S_mixNode 13 (oLld 4 15) := sn_lload l D AC b z L xs Gm  dX8_mixNode_13
theorem so_S_mixNode_15 : Snd l D AC b z L xs Gm j_S_mixNode 15 (oAld 0 16) := sn_aload_n l D AC b z L xs Gm  dX8_mixNode_15 rfl
theorem so_S_mixNode_16 : Snd l D AC b z L xs Gm j_S_mixNode 16 (oIld 3 17) := sn_iload_n l D AC b z L xs Gm  dX8_mixNode_16 rfl
theorem so_S_mixNode_17 : Snd l D AC b z L xs Gm j_S_mixNode 17 (oIld 6 19) := sn_iload l D AC b z L xs Gm  dX8_mixNode_17
theorem so_S_mixNode_19 : Snd l D AC b z L xs Gm j_S_mixNode 19 (oCallV kc_S j_S_ofNode 2 (mL j_S_ofNode) 22) := sn_callV l D AC b z L xs Gm  dX8_mixNode_19 rfl (hs0 (fun _ => rfl) rfl) cal_S_mixNode_S_ofNode rfl rfl (by decide) rfl tw_746 tw_486 tw_487
theorem so_S_mixNode_22 : Snd l D AC b z L xs Gm j_S_mixNode 22 (oI2L 23) := sn_i2l l D AC b z L xs Gm  dX8_mixNode_22
theorem so_S_mixNode_23 : Snd l D AC b z L xs Gm j_S_mixNode 23 (oCallS j_S_mix 2 (mL j_S_mix) 26) := sn_callS l D AC b z L xs Gm  dX8_mixNode_23 rfl (hs0 (fun _ => rfl) rfl) cal_S_mixNode_S_mix rfl tw_738 tw_739
theorem so_S_mixNode_26 : Snd l D AC b z L xs Gm j_S_mixNode 26 (oLst 4 28) := sn_lstore l D AC b z L xs Gm  dX8_mixNode_26 (by decide)
theorem so_S_mixNode_28 : Snd l D AC b z L xs Gm j_S_mixNode 28 (oInc 6 1 31) := sn_iinc l D AC b z L xs Gm  dX8_mixNode_28 (by decide) (by decide)
theorem so_S_mixNode_31 : Snd l D AC b z L xs Gm j_S_mixNode 31 (oGo 6) := sn_goto l D AC b z L xs Gm  dX8_mixNode_31 (by decide)
theorem so_S_mixNode_34 : Snd l D AC b z L xs Gm j_S_mixNode 34 (oI 0 35) := sn_iconst l D AC b z L xs Gm  dX8_mixNode_34 (by decide)
theorem so_S_mixNode_35 : Snd l D AC b z L xs Gm j_S_mixNode 35 (oIst 6 37) := sn_istore l D AC b z L xs Gm  dX8_mixNode_35 (by decide)
theorem so_S_mixNode_37 : Snd l D AC b z L xs Gm j_S_mixNode 37 (oIld 6 39) := sn_iload l D AC b z L xs Gm  dX8_mixNode_37
theorem so_S_mixNode_39 : Snd l D AC b z L xs Gm j_S_mixNode 39 (oI 4 40) := sn_iconst l D AC b z L xs Gm  dX8_mixNode_39 (by decide)
theorem so_S_mixNode_40 : Snd l D AC b z L xs Gm j_S_mixNode 40 (oIC (fun x y => decide (y < x)) 65 43) := sn_icmp_gt l D AC b z L xs Gm  dX8_mixNode_40 (by decide)
theorem so_S_mixNode_43 : Snd l D AC b z L xs Gm j_S_mixNode 43 (oLld 4 45) := sn_lload l D AC b z L xs Gm  dX8_mixNode_43
theorem so_S_mixNode_45 : Snd l D AC b z L xs Gm j_S_mixNode 45 (oAld 0 46) := sn_aload_n l D AC b z L xs Gm  dX8_mixNode_45 rfl
theorem so_S_mixNode_46 : Snd l D AC b z L xs Gm j_S_mixNode 46 (oIld 3 47) := sn_iload_n l D AC b z L xs Gm  dX8_mixNode_46 rfl
theorem so_S_mixNode_47 : Snd l D AC b z L xs Gm j_S_mixNode 47 (oI 0 48) := sn_iconst l D AC b z L xs Gm  dX8_mixNode_47 (by decide)
theorem so_S_mixNode_48 : Snd l D AC b z L xs Gm j_S_mixNode 48 (oIld 6 50) := sn_iload l D AC b z L xs Gm  dX8_mixNode_48
theorem so_S_mixNode_50 : Snd l D AC b z L xs Gm j_S_mixNode 50 (oCallV kc_S j_S_inQueue 3 (mL j_S_inQueue) 53) := sn_callV l D AC b z L xs Gm  dX8_mixNode_50 rfl (hs0 (fun _ => rfl) rfl) cal_S_mixNode_S_inQueue rfl rfl (by decide) rfl tw_747 tw_748 tw_749
theorem so_S_mixNode_53 : Snd l D AC b z L xs Gm j_S_mixNode 53 (oI2L 54) := sn_i2l l D AC b z L xs Gm  dX8_mixNode_53
theorem so_S_mixNode_54 : Snd l D AC b z L xs Gm j_S_mixNode 54 (oCallS j_S_mix 2 (mL j_S_mix) 57) := sn_callS l D AC b z L xs Gm  dX8_mixNode_54 rfl (hs0 (fun _ => rfl) rfl) cal_S_mixNode_S_mix rfl tw_738 tw_739
theorem so_S_mixNode_57 : Snd l D AC b z L xs Gm j_S_mixNode 57 (oLst 4 59) := sn_lstore l D AC b z L xs Gm  dX8_mixNode_57 (by decide)
theorem so_S_mixNode_59 : Snd l D AC b z L xs Gm j_S_mixNode 59 (oInc 6 1 62) := sn_iinc l D AC b z L xs Gm  dX8_mixNode_59 (by decide) (by decide)
theorem so_S_mixNode_62 : Snd l D AC b z L xs Gm j_S_mixNode 62 (oGo 37) := sn_goto l D AC b z L xs Gm  dX8_mixNode_62 (by decide)
theorem so_S_mixNode_65 : Snd l D AC b z L xs Gm j_S_mixNode 65 (oI 0 66) := sn_iconst l D AC b z L xs Gm  dX8_mixNode_65 (by decide)
theorem so_S_mixNode_66 : Snd l D AC b z L xs Gm j_S_mixNode 66 (oIst 6 68) := sn_istore l D AC b z L xs Gm  dX8_mixNode_66 (by decide)
theorem so_S_mixNode_68 : Snd l D AC b z L xs Gm j_S_mixNode 68 (oIld 6 70) := sn_iload l D AC b z L xs Gm  dX8_mixNode_68
theorem so_S_mixNode_70 : Snd l D AC b z L xs Gm j_S_mixNode 70 (oAld 0 71) := sn_aload_n l D AC b z L xs Gm  dX8_mixNode_70 rfl
theorem so_S_mixNode_71 : Snd l D AC b z L xs Gm j_S_mixNode 71 (oGetR kc_S 0 74) := sn_getR l D AC b z L xs Gm  dX8_mixNode_71 rfl (by decide) rfl (by decide) kin_8 tw_320
theorem so_S_mixNode_74 : Snd l D AC b z L xs Gm j_S_mixNode 74 (oGetI kc_Land 2 77) := sn_getI l D AC b z L xs Gm  dX8_mixNode_74 rfl (by decide) rfl (by decide) kin_2 tw_212
theorem so_S_mixNode_77 : Snd l D AC b z L xs Gm j_S_mixNode 77 (oIC (fun x y => decide (y ≤ x)) 124 80) := sn_icmp_ge l D AC b z L xs Gm  dX8_mixNode_77 (by decide)
theorem so_S_mixNode_80 : Snd l D AC b z L xs Gm j_S_mixNode 80 (oI 0 81) := sn_iconst l D AC b z L xs Gm  dX8_mixNode_80 (by decide)
theorem so_S_mixNode_81 : Snd l D AC b z L xs Gm j_S_mixNode 81 (oIst 7 83) := sn_istore l D AC b z L xs Gm  dX8_mixNode_81 (by decide)
theorem so_S_mixNode_83 : Snd l D AC b z L xs Gm j_S_mixNode 83 (oIld 7 85) := sn_iload l D AC b z L xs Gm  dX8_mixNode_83
theorem so_S_mixNode_85 : Snd l D AC b z L xs Gm j_S_mixNode 85 (oI 3 86) := sn_iconst l D AC b z L xs Gm  dX8_mixNode_85 (by decide)
theorem so_S_mixNode_86 : Snd l D AC b z L xs Gm j_S_mixNode 86 (oIC (fun x y => decide (y < x)) 118 89) := sn_icmp_gt l D AC b z L xs Gm  dX8_mixNode_86 (by decide)
theorem so_S_mixNode_89 : Snd l D AC b z L xs Gm j_S_mixNode 89 (oIld 6 91) := sn_iload l D AC b z L xs Gm  dX8_mixNode_89
theorem so_S_mixNode_91 : Snd l D AC b z L xs Gm j_S_mixNode 91 (oIld 3 92) := sn_iload_n l D AC b z L xs Gm  dX8_mixNode_91 rfl
theorem so_S_mixNode_92 : Snd l D AC b z L xs Gm j_S_mixNode 92 (oIC (fun x y => decide (x = y)) 118 95) := sn_icmp_eq l D AC b z L xs Gm  dX8_mixNode_92 (by decide)
theorem so_S_mixNode_95 : Snd l D AC b z L xs Gm j_S_mixNode 95 (oLld 4 97) := sn_lload l D AC b z L xs Gm  dX8_mixNode_95
theorem so_S_mixNode_97 : Snd l D AC b z L xs Gm j_S_mixNode 97 (oAld 0 98) := sn_aload_n l D AC b z L xs Gm  dX8_mixNode_97 rfl
theorem so_S_mixNode_98 : Snd l D AC b z L xs Gm j_S_mixNode 98 (oIld 3 99) := sn_iload_n l D AC b z L xs Gm  dX8_mixNode_98 rfl
theorem so_S_mixNode_99 : Snd l D AC b z L xs Gm j_S_mixNode 99 (oIld 6 101) := sn_iload l D AC b z L xs Gm  dX8_mixNode_99
theorem so_S_mixNode_101 : Snd l D AC b z L xs Gm j_S_mixNode 101 (oIld 7 103) := sn_iload l D AC b z L xs Gm  dX8_mixNode_101
theorem so_S_mixNode_103 : Snd l D AC b z L xs Gm j_S_mixNode 103 (oCallV kc_S j_S_route 3 (mL j_S_route) 106) := sn_callV l D AC b z L xs Gm  dX8_mixNode_103 rfl (hs0 (fun _ => rfl) rfl) cal_S_mixNode_S_route rfl rfl (by decide) rfl tw_753 tw_754 tw_755
theorem so_S_mixNode_106 : Snd l D AC b z L xs Gm j_S_mixNode 106 (oI2L 107) := sn_i2l l D AC b z L xs Gm  dX8_mixNode_106
theorem so_S_mixNode_107 : Snd l D AC b z L xs Gm j_S_mixNode 107 (oCallS j_S_mix 2 (mL j_S_mix) 110) := sn_callS l D AC b z L xs Gm  dX8_mixNode_107 rfl (hs0 (fun _ => rfl) rfl) cal_S_mixNode_S_mix rfl tw_738 tw_739
theorem so_S_mixNode_110 : Snd l D AC b z L xs Gm j_S_mixNode 110 (oLst 4 112) := sn_lstore l D AC b z L xs Gm  dX8_mixNode_110 (by decide)
theorem so_S_mixNode_112 : Snd l D AC b z L xs Gm j_S_mixNode 112 (oInc 7 1 115) := sn_iinc l D AC b z L xs Gm  dX8_mixNode_112 (by decide) (by decide)
theorem so_S_mixNode_115 : Snd l D AC b z L xs Gm j_S_mixNode 115 (oGo 83) := sn_goto l D AC b z L xs Gm  dX8_mixNode_115 (by decide)
theorem so_S_mixNode_118 : Snd l D AC b z L xs Gm j_S_mixNode 118 (oInc 6 1 121) := sn_iinc l D AC b z L xs Gm  dX8_mixNode_118 (by decide) (by decide)
theorem so_S_mixNode_121 : Snd l D AC b z L xs Gm j_S_mixNode 121 (oGo 68) := sn_goto l D AC b z L xs Gm  dX8_mixNode_121 (by decide)
theorem so_S_mixNode_124 : Snd l D AC b z L xs Gm j_S_mixNode 124 (oLld 4 126) := sn_lload l D AC b z L xs Gm  dX8_mixNode_124
theorem so_S_mixNode_126 : Snd l D AC b z L xs Gm j_S_mixNode 126 (oRetL) := sn_retL l D AC b z L xs Gm  dX8_mixNode_126 rfl
set_option maxRecDepth 100000 in
theorem so_S_mixNode : ∀ q ∈ tb_S_mixNode, Snd l D AC b z L xs Gm j_S_mixNode q.1 q.2 := by
  unfold tb_S_mixNode
  exact List.forall_mem_cons.mpr ⟨so_S_mixNode_0 l D AC b z L xs, List.forall_mem_cons.mpr ⟨so_S_mixNode_1 l D AC b z L xs, List.forall_mem_cons.mpr ⟨so_S_mixNode_3 l D AC b z L xs, List.forall_mem_cons.mpr ⟨so_S_mixNode_4 l D AC b z L xs, List.forall_mem_cons.mpr ⟨so_S_mixNode_6 l D AC b z L xs, List.forall_mem_cons.mpr ⟨so_S_mixNode_8 l D AC b z L xs, List.forall_mem_cons.mpr ⟨so_S_mixNode_10 l D AC b z L xs, List.forall_mem_cons.mpr ⟨so_S_mixNode_13 l D AC b z L xs, List.forall_mem_cons.mpr ⟨so_S_mixNode_15 l D AC b z L xs, List.forall_mem_cons.mpr ⟨so_S_mixNode_16 l D AC b z L xs, List.forall_mem_cons.mpr ⟨so_S_mixNode_17 l D AC b z L xs, List.forall_mem_cons.mpr ⟨so_S_mixNode_19 l D AC b z L xs, List.forall_mem_cons.mpr ⟨so_S_mixNode_22 l D AC b z L xs, List.forall_mem_cons.mpr ⟨so_S_mixNode_23 l D AC b z L xs, List.forall_mem_cons.mpr ⟨so_S_mixNode_26 l D AC b z L xs, List.forall_mem_cons.mpr ⟨so_S_mixNode_28 l D AC b z L xs, List.forall_mem_cons.mpr ⟨so_S_mixNode_31 l D AC b z L xs, List.forall_mem_cons.mpr ⟨so_S_mixNode_34 l D AC b z L xs, List.forall_mem_cons.mpr ⟨so_S_mixNode_35 l D AC b z L xs, List.forall_mem_cons.mpr ⟨so_S_mixNode_37 l D AC b z L xs, List.forall_mem_cons.mpr ⟨so_S_mixNode_39 l D AC b z L xs, List.forall_mem_cons.mpr ⟨so_S_mixNode_40 l D AC b z L xs, List.forall_mem_cons.mpr ⟨so_S_mixNode_43 l D AC b z L xs, List.forall_mem_cons.mpr ⟨so_S_mixNode_45 l D AC b z L xs, List.forall_mem_cons.mpr ⟨so_S_mixNode_46 l D AC b z L xs, List.forall_mem_cons.mpr ⟨so_S_mixNode_47 l D AC b z L xs, List.forall_mem_cons.mpr ⟨so_S_mixNode_48 l D AC b z L xs, List.forall_mem_cons.mpr ⟨so_S_mixNode_50 l D AC b z L xs, List.forall_mem_cons.mpr ⟨so_S_mixNode_53 l D AC b z L xs, List.forall_mem_cons.mpr ⟨so_S_mixNode_54 l D AC b z L xs, List.forall_mem_cons.mpr ⟨so_S_mixNode_57 l D AC b z L xs, List.forall_mem_cons.mpr ⟨so_S_mixNode_59 l D AC b z L xs, List.forall_mem_cons.mpr ⟨so_S_mixNode_62 l D AC b z L xs, List.forall_mem_cons.mpr ⟨so_S_mixNode_65 l D AC b z L xs, List.forall_mem_cons.mpr ⟨so_S_mixNode_66 l D AC b z L xs, List.forall_mem_cons.mpr ⟨so_S_mixNode_68 l D AC b z L xs, List.forall_mem_cons.mpr ⟨so_S_mixNode_70 l D AC b z L xs, List.forall_mem_cons.mpr ⟨so_S_mixNode_71 l D AC b z L xs, List.forall_mem_cons.mpr ⟨so_S_mixNode_74 l D AC b z L xs, List.forall_mem_cons.mpr ⟨so_S_mixNode_77 l D AC b z L xs, List.forall_mem_cons.mpr ⟨so_S_mixNode_80 l D AC b z L xs, List.forall_mem_cons.mpr ⟨so_S_mixNode_81 l D AC b z L xs, List.forall_mem_cons.mpr ⟨so_S_mixNode_83 l D AC b z L xs, List.forall_mem_cons.mpr ⟨so_S_mixNode_85 l D AC b z L xs, List.forall_mem_cons.mpr ⟨so_S_mixNode_86 l D AC b z L xs, List.forall_mem_cons.mpr ⟨so_S_mixNode_89 l D AC b z L xs, List.forall_mem_cons.mpr ⟨so_S_mixNode_91 l D AC b z L xs, List.forall_mem_cons.mpr ⟨so_S_mixNode_92 l D AC b z L xs, List.forall_mem_cons.mpr ⟨so_S_mixNode_95 l D AC b z L xs, List.forall_mem_cons.mpr ⟨so_S_mixNode_97 l D AC b z L xs, List.forall_mem_cons.mpr ⟨so_S_mixNode_98 l D AC b z L xs, List.forall_mem_cons.mpr ⟨so_S_mixNode_99 l D AC b z L xs, List.forall_mem_cons.mpr ⟨so_S_mixNode_101 l D AC b z L xs, List.forall_mem_cons.mpr ⟨so_S_mixNode_103 l D AC b z L xs, List.forall_mem_cons.mpr ⟨so_S_mixNode_106 l D AC b z L xs, List.forall_mem_cons.mpr ⟨so_S_mixNode_107 l D AC b z L xs, List.forall_mem_cons.mpr ⟨so_S_mixNode_110 l D AC b z L xs, List.forall_mem_cons.mpr ⟨so_S_mixNode_112 l D AC b z L xs, List.forall_mem_cons.mpr ⟨so_S_mixNode_115 l D AC b z L xs, List.forall_mem_cons.mpr ⟨so_S_mixNode_118 l D AC b z L xs, List.forall_mem_cons.mpr ⟨so_S_mixNode_121 l D AC b z L xs, List.forall_mem_cons.mpr ⟨so_S_mixNode_124 l D AC b z L xs, List.forall_mem_cons.mpr ⟨so_S_mixNode_126 l D AC b z L xs, fun _ h => absurd h List.not_mem_nil⟩⟩⟩⟩⟩⟩⟩⟩⟩⟩⟩⟩⟩⟩⟩⟩⟩⟩⟩⟩⟩⟩⟩⟩⟩⟩⟩⟩⟩⟩⟩⟩⟩⟩⟩⟩⟩⟩⟩⟩⟩⟩⟩⟩⟩⟩⟩⟩⟩⟩⟩⟩⟩⟩⟩⟩⟩⟩⟩⟩⟩⟩⟩
theorem so_S_mix_0 : Snd l D AC b z L xs Gm j_S_mix 0 (oLld 0 1) := sn_lload_n l D AC b z L xs Gm  dX8_mix_0 rfl
theorem so_S_mix_1 : Snd l D AC b z L xs Gm j_S_mix 1 (oJ 31 4) := sn_ldc2 l D AC b z L xs Gm  dX8_mix_1 tw_741
theorem so_S_mix_4 : Snd l D AC b z L xs Gm j_S_mix 4 (oLL (fun x y => x * y) 5) := sn_lmul l D AC b z L xs Gm  dX8_mix_4
theorem so_S_mix_5 : Snd l D AC b z L xs Gm j_S_mix 5 (oLld 2 6) := sn_lload_n l D AC b z L xs Gm  dX8_mix_5 rfl
theorem so_S_mix_6 : Snd l D AC b z L xs Gm j_S_mix 6 (oLL (fun x y => x + y) 7) := sn_ladd l D AC b z L xs Gm  dX8_mix_6
theorem so_S_mix_7 : Snd l D AC b z L xs Gm j_S_mix 7 (oRetL) := sn_retL l D AC b z L xs Gm  dX8_mix_7 rfl
set_option maxRecDepth 100000 in
theorem so_S_mix : ∀ q ∈ tb_S_mix, Snd l D AC b z L xs Gm j_S_mix q.1 q.2 := by
  unfold tb_S_mix
  exact List.forall_mem_cons.mpr ⟨so_S_mix_0 l D AC b z L xs, List.forall_mem_cons.mpr ⟨so_S_mix_1 l D AC b z L xs, List.forall_mem_cons.mpr ⟨so_S_mix_4 l D AC b z L xs, List.forall_mem_cons.mpr ⟨so_S_mix_5 l D AC b z L xs, List.forall_mem_cons.mpr ⟨so_S_mix_6 l D AC b z L xs, List.forall_mem_cons.mpr ⟨so_S_mix_7 l D AC b z L xs, fun _ h => absurd h List.not_mem_nil⟩⟩⟩⟩⟩⟩
theorem so_S_checkNode_0 : Snd l D AC b z L xs Gm j_S_checkNode 0 (oAld 0 1) := sn_aload_n l D AC b z L xs Gm  dX8_checkNode_0 rfl
theorem so_S_checkNode_1 : Snd l D AC b z L xs Gm j_S_checkNode 1 (oGetR kc_S 0 4) := sn_getR l D AC b z L xs Gm  dX8_checkNode_1 rfl (by decide) rfl (by decide) kin_8 tw_320
theorem so_S_checkNode_4 : Snd l D AC b z L xs Gm j_S_checkNode 4 (oIld 1 5) := sn_iload_n l D AC b z L xs Gm  dX8_checkNode_4 rfl
theorem so_S_checkNode_5 : Snd l D AC b z L xs Gm j_S_checkNode 5 (oCallV kc_Land j_Land_isNode 1 (mL j_Land_isNode) 8) := sn_callV l D AC b z L xs Gm  dX8_checkNode_5 rfl (hs0 (fun _ => rfl) rfl) cal_S_checkNode_Land_isNode rfl rfl (by decide) rfl tw_493 tw_471 tw_472
theorem so_S_checkNode_8 : Snd l D AC b z L xs Gm j_S_checkNode 8 (oIf (fun x => decide (¬ x = 0)) 22 11) := sn_if_ne l D AC b z L xs Gm  dX8_checkNode_8 (by decide)
theorem so_S_checkNode_11 : Snd l D AC b z L xs Gm j_S_checkNode 11 (oThr cM sM 2 kc_IndexOutOfBoundsException) := sn_throw (T0 := kT0) (nms := kNms) (text := "no such node") l D AC b z L xs Gm  rfl rfl rfl (by decide) (by decide) (by decide) rfl kfit_2 kfit_n tw_494 tw_36 (List.mem_of_getElem? (i := 3) rfl) khg_2_279 (List.mem_of_getElem? (i := 2) rfl) khn_2_279 kho_2_279 rfl dX8_checkNode_11 dX8_checkNode_14 (Or.inr ⟨dX8_checkNode_15, dX8_checkNode_18, dX8_checkNode_21⟩)
theorem so_S_checkNode_22 : Snd l D AC b z L xs Gm j_S_checkNode 22 (oRet) := sn_ret l D AC b z L xs Gm  dX8_checkNode_22 rfl
set_option maxRecDepth 100000 in
theorem so_S_checkNode : ∀ q ∈ tb_S_checkNode, Snd l D AC b z L xs Gm j_S_checkNode q.1 q.2 := by
  unfold tb_S_checkNode
  exact List.forall_mem_cons.mpr ⟨so_S_checkNode_0 l D AC b z L xs, List.forall_mem_cons.mpr ⟨so_S_checkNode_1 l D AC b z L xs, List.forall_mem_cons.mpr ⟨so_S_checkNode_4 l D AC b z L xs, List.forall_mem_cons.mpr ⟨so_S_checkNode_5 l D AC b z L xs, List.forall_mem_cons.mpr ⟨so_S_checkNode_8 l D AC b z L xs, List.forall_mem_cons.mpr ⟨so_S_checkNode_11 l D AC b z L xs, List.forall_mem_cons.mpr ⟨so_S_checkNode_22 l D AC b z L xs, fun _ h => absurd h List.not_mem_nil⟩⟩⟩⟩⟩⟩⟩
theorem so_S_checkPair_0 : Snd l D AC b z L xs Gm j_S_checkPair 0 (oAld 0 1) := sn_aload_n l D AC b z L xs Gm  dX8_checkPair_0 rfl
theorem so_S_checkPair_1 : Snd l D AC b z L xs Gm j_S_checkPair 1 (oIld 1 2) := sn_iload_n l D AC b z L xs Gm  dX8_checkPair_1 rfl
theorem so_S_checkPair_2 : Snd l D AC b z L xs Gm j_S_checkPair 2 (oCallV kc_S j_S_checkNode 1 (mL j_S_checkNode) 5) := sn_callV l D AC b z L xs Gm  dX8_checkPair_2 rfl (hs0 (fun _ => rfl) rfl) cal_S_checkPair_S_checkNode rfl rfl (by decide) rfl tw_489 tw_491 tw_4
theorem so_S_checkPair_5 : Snd l D AC b z L xs Gm j_S_checkPair 5 (oAld 0 6) := sn_aload_n l D AC b z L xs Gm  dX8_checkPair_5 rfl
theorem so_S_checkPair_6 : Snd l D AC b z L xs Gm j_S_checkPair 6 (oIld 2 7) := sn_iload_n l D AC b z L xs Gm  dX8_checkPair_6 rfl
theorem so_S_checkPair_7 : Snd l D AC b z L xs Gm j_S_checkPair 7 (oCallV kc_S j_S_checkNode 1 (mL j_S_checkNode) 10) := sn_callV l D AC b z L xs Gm  dX8_checkPair_7 rfl (hs0 (fun _ => rfl) rfl) cal_S_checkPair_S_checkNode rfl rfl (by decide) rfl tw_489 tw_491 tw_4
theorem so_S_checkPair_10 : Snd l D AC b z L xs Gm j_S_checkPair 10 (oIld 1 11) := sn_iload_n l D AC b z L xs Gm  dX8_checkPair_10 rfl
theorem so_S_checkPair_11 : Snd l D AC b z L xs Gm j_S_checkPair 11 (oIld 2 12) := sn_iload_n l D AC b z L xs Gm  dX8_checkPair_11 rfl
theorem so_S_checkPair_12 : Snd l D AC b z L xs Gm j_S_checkPair 12 (oIC (fun x y => decide (¬ x = y)) 26 15) := sn_icmp_ne l D AC b z L xs Gm  dX8_checkPair_12 (by decide)
theorem so_S_checkPair_15 : Snd l D AC b z L xs Gm j_S_checkPair 15 (oThr cM sM 0 kc_IllegalArgumentException) := sn_throw (T0 := kT0) (nms := kNms) (text := "both nodes are the same") l D AC b z L xs Gm  rfl rfl rfl (by decide) (by decide) (by decide) rfl kfit_0 kfit_n tw_349 tw_34 (List.mem_of_getElem? (i := 16) rfl) khg_0_57 (List.mem_of_getElem? (i := 0) rfl) khn_0_57 kho_0_57 rfl dX8_checkPair_15 dX8_checkPair_18 (Or.inr ⟨dX8_checkPair_19, dX8_checkPair_22, dX8_checkPair_25⟩)
theorem so_S_checkPair_26 : Snd l D AC b z L xs Gm j_S_checkPair 26 (oRet) := sn_ret l D AC b z L xs Gm  dX8_checkPair_26 rfl
set_option maxRecDepth 100000 in
theorem so_S_checkPair : ∀ q ∈ tb_S_checkPair, Snd l D AC b z L xs Gm j_S_checkPair q.1 q.2 := by
  unfold tb_S_checkPair
  exact List.forall_mem_cons.mpr ⟨so_S_checkPair_0 l D AC b z L xs, List.forall_mem_cons.mpr ⟨so_S_checkPair_1 l D AC b z L xs, List.forall_mem_cons.mpr ⟨so_S_checkPair_2 l D AC b z L xs, List.forall_mem_cons.mpr ⟨so_S_checkPair_5 l D AC b z L xs, List.forall_mem_cons.mpr ⟨so_S_checkPair_6 l D AC b z L xs, List.forall_mem_cons.mpr ⟨so_S_checkPair_7 l D AC b z L xs, List.forall_mem_cons.mpr ⟨so_S_checkPair_10 l D AC b z L xs, List.forall_mem_cons.mpr ⟨so_S_checkPair_11 l D AC b z L xs, List.forall_mem_cons.mpr ⟨so_S_checkPair_12 l D AC b z L xs, List.forall_mem_cons.mpr ⟨so_S_checkPair_15 l D AC b z L xs, List.forall_mem_cons.mpr ⟨so_S_checkPair_26 l D AC b z L xs, fun _ h => absurd h List.not_mem_nil⟩⟩⟩⟩⟩⟩⟩⟩⟩⟩⟩
theorem so_S_checkSilent_0 : Snd l D AC b z L xs Gm j_S_checkSilent 0 (oAld 0 1) := sn_aload_n l D AC b z L xs Gm  dX8_checkSilent_0 rfl
theorem so_S_checkSilent_1 : Snd l D AC b z L xs Gm j_S_checkSilent 1 (oGetR kc_S 0 4) := sn_getR l D AC b z L xs Gm  dX8_checkSilent_1 rfl (by decide) rfl (by decide) kin_8 tw_320
theorem so_S_checkSilent_4 : Snd l D AC b z L xs Gm j_S_checkSilent 4 (oGetR kc_Land 0 7) := sn_getR l D AC b z L xs Gm  dX8_checkSilent_4 rfl (by decide) rfl (by decide) kin_2 tw_208
theorem so_S_checkSilent_7 : Snd l D AC b z L xs Gm j_S_checkSilent 7 (oIld 1 8) := sn_iload_n l D AC b z L xs Gm  dX8_checkSilent_7 rfl
theorem so_S_checkSilent_8 : Snd l D AC b z L xs Gm j_S_checkSilent 8 (oAal 2 9) := sn_aaload l D AC b z L xs Gm  dX8_checkSilent_8 (by decide) rfl rfl (by decide)
theorem so_S_checkSilent_9 : Snd l D AC b z L xs Gm j_S_checkSilent 9 (oCallV kc_Node j_Node_isSending 0 (mL j_Node_isSending) 12) := sn_callV l D AC b z L xs Gm  dX8_checkSilent_9 rfl (hs0 (fun _ => rfl) rfl) cal_S_checkSilent_Node_isSending rfl rfl (by decide) rfl tw_595 tw_531 tw_532
theorem so_S_checkSilent_12 : Snd l D AC b z L xs Gm j_S_checkSilent 12 (oIf (fun x => decide (x = 0)) 26 15) := sn_if_eq l D AC b z L xs Gm  dX8_checkSilent_12 (by decide)
theorem so_S_checkSilent_15 : Snd l D AC b z L xs Gm j_S_checkSilent 15 (oThr cM sM 1 kc_IllegalStateException) := sn_throw (T0 := kT0) (nms := kNms) (text := "the node is sending") l D AC b z L xs Gm  rfl rfl rfl (by decide) (by decide) (by decide) rfl kfit_1 kfit_n tw_417 tw_35 (List.mem_of_getElem? (i := 9) rfl) khg_1_67 (List.mem_of_getElem? (i := 1) rfl) khn_1_67 kho_1_67 rfl dX8_checkSilent_15 dX8_checkSilent_18 (Or.inr ⟨dX8_checkSilent_19, dX8_checkSilent_22, dX8_checkSilent_25⟩)
theorem so_S_checkSilent_26 : Snd l D AC b z L xs Gm j_S_checkSilent 26 (oRet) := sn_ret l D AC b z L xs Gm  dX8_checkSilent_26 rfl
set_option maxRecDepth 100000 in
theorem so_S_checkSilent : ∀ q ∈ tb_S_checkSilent, Snd l D AC b z L xs Gm j_S_checkSilent q.1 q.2 := by
  unfold tb_S_checkSilent
  exact List.forall_mem_cons.mpr ⟨so_S_checkSilent_0 l D AC b z L xs, List.forall_mem_cons.mpr ⟨so_S_checkSilent_1 l D AC b z L xs, List.forall_mem_cons.mpr ⟨so_S_checkSilent_4 l D AC b z L xs, List.forall_mem_cons.mpr ⟨so_S_checkSilent_7 l D AC b z L xs, List.forall_mem_cons.mpr ⟨so_S_checkSilent_8 l D AC b z L xs, List.forall_mem_cons.mpr ⟨so_S_checkSilent_9 l D AC b z L xs, List.forall_mem_cons.mpr ⟨so_S_checkSilent_12 l D AC b z L xs, List.forall_mem_cons.mpr ⟨so_S_checkSilent_15 l D AC b z L xs, List.forall_mem_cons.mpr ⟨so_S_checkSilent_26 l D AC b z L xs, fun _ h => absurd h List.not_mem_nil⟩⟩⟩⟩⟩⟩⟩⟩⟩
theorem so_S_isWithin_0 : Snd l D AC b z L xs Gm j_S_isWithin 0 (oIld 0 1) := sn_iload_n l D AC b z L xs Gm  dX8_isWithin_0 rfl
theorem so_S_isWithin_1 : Snd l D AC b z L xs Gm j_S_isWithin 1 (oIld 1 2) := sn_iload_n l D AC b z L xs Gm  dX8_isWithin_1 rfl
theorem so_S_isWithin_2 : Snd l D AC b z L xs Gm j_S_isWithin 2 (oIC (fun x y => decide (x < y)) 14 5) := sn_icmp_lt l D AC b z L xs Gm  dX8_isWithin_2 (by decide)
theorem so_S_isWithin_5 : Snd l D AC b z L xs Gm j_S_isWithin 5 (oIld 0 6) := sn_iload_n l D AC b z L xs Gm  dX8_isWithin_5 rfl
theorem so_S_isWithin_6 : Snd l D AC b z L xs Gm j_S_isWithin 6 (oIld 2 7) := sn_iload_n l D AC b z L xs Gm  dX8_isWithin_6 rfl
theorem so_S_isWithin_7 : Snd l D AC b z L xs Gm j_S_isWithin 7 (oIC (fun x y => decide (y < x)) 14 10) := sn_icmp_gt l D AC b z L xs Gm  dX8_isWithin_7 (by decide)
theorem so_S_isWithin_10 : Snd l D AC b z L xs Gm j_S_isWithin 10 (oI 1 11) := sn_iconst l D AC b z L xs Gm  dX8_isWithin_10 (by decide)
theorem so_S_isWithin_11 : Snd l D AC b z L xs Gm j_S_isWithin 11 (oGo 15) := sn_goto l D AC b z L xs Gm  dX8_isWithin_11 (by decide)
theorem so_S_isWithin_14 : Snd l D AC b z L xs Gm j_S_isWithin 14 (oI 0 15) := sn_iconst l D AC b z L xs Gm  dX8_isWithin_14 (by decide)
theorem so_S_isWithin_15 : Snd l D AC b z L xs Gm j_S_isWithin 15 (oRetZ) := sn_retZ l D AC b z L xs Gm  dX8_isWithin_15 rfl
set_option maxRecDepth 100000 in
theorem so_S_isWithin : ∀ q ∈ tb_S_isWithin, Snd l D AC b z L xs Gm j_S_isWithin q.1 q.2 := by
  unfold tb_S_isWithin
  exact List.forall_mem_cons.mpr ⟨so_S_isWithin_0 l D AC b z L xs, List.forall_mem_cons.mpr ⟨so_S_isWithin_1 l D AC b z L xs, List.forall_mem_cons.mpr ⟨so_S_isWithin_2 l D AC b z L xs, List.forall_mem_cons.mpr ⟨so_S_isWithin_5 l D AC b z L xs, List.forall_mem_cons.mpr ⟨so_S_isWithin_6 l D AC b z L xs, List.forall_mem_cons.mpr ⟨so_S_isWithin_7 l D AC b z L xs, List.forall_mem_cons.mpr ⟨so_S_isWithin_10 l D AC b z L xs, List.forall_mem_cons.mpr ⟨so_S_isWithin_11 l D AC b z L xs, List.forall_mem_cons.mpr ⟨so_S_isWithin_14 l D AC b z L xs, List.forall_mem_cons.mpr ⟨so_S_isWithin_15 l D AC b z L xs, fun _ h => absurd h List.not_mem_nil⟩⟩⟩⟩⟩⟩⟩⟩⟩⟩
theorem so_S_isPlace_0 : Snd l D AC b z L xs Gm j_S_isPlace 0 (oIld 0 1) := sn_iload_n l D AC b z L xs Gm  dX8_isPlace_0 rfl
theorem so_S_isPlace_1 : Snd l D AC b z L xs Gm j_S_isPlace 1 (oI 0 2) := sn_iconst l D AC b z L xs Gm  dX8_isPlace_1 (by decide)
theorem so_S_isPlace_2 : Snd l D AC b z L xs Gm j_S_isPlace 2 (oI 29 4) := sn_bipush l D AC b z L xs Gm  dX8_isPlace_2 (by decide)
theorem so_S_isPlace_4 : Snd l D AC b z L xs Gm j_S_isPlace 4 (oCallS j_S_isWithin 3 (mL j_S_isWithin) 7) := sn_callS l D AC b z L xs Gm  dX8_isPlace_4 rfl (hs0 (fun _ => rfl) rfl) cal_S_isPlace_S_isWithin rfl tw_343 tw_344
theorem so_S_isPlace_7 : Snd l D AC b z L xs Gm j_S_isPlace 7 (oIf (fun x => decide (x = 0)) 24 10) := sn_if_eq l D AC b z L xs Gm  dX8_isPlace_7 (by decide)
theorem so_S_isPlace_10 : Snd l D AC b z L xs Gm j_S_isPlace 10 (oIld 1 11) := sn_iload_n l D AC b z L xs Gm  dX8_isPlace_10 rfl
theorem so_S_isPlace_11 : Snd l D AC b z L xs Gm j_S_isPlace 11 (oI 0 12) := sn_iconst l D AC b z L xs Gm  dX8_isPlace_11 (by decide)
theorem so_S_isPlace_12 : Snd l D AC b z L xs Gm j_S_isPlace 12 (oI 29 14) := sn_bipush l D AC b z L xs Gm  dX8_isPlace_12 (by decide)
theorem so_S_isPlace_14 : Snd l D AC b z L xs Gm j_S_isPlace 14 (oCallS j_S_isWithin 3 (mL j_S_isWithin) 17) := sn_callS l D AC b z L xs Gm  dX8_isPlace_14 rfl (hs0 (fun _ => rfl) rfl) cal_S_isPlace_S_isWithin rfl tw_343 tw_344
theorem so_S_isPlace_17 : Snd l D AC b z L xs Gm j_S_isPlace 17 (oIf (fun x => decide (x = 0)) 24 20) := sn_if_eq l D AC b z L xs Gm  dX8_isPlace_17 (by decide)
theorem so_S_isPlace_20 : Snd l D AC b z L xs Gm j_S_isPlace 20 (oI 1 21) := sn_iconst l D AC b z L xs Gm  dX8_isPlace_20 (by decide)
theorem so_S_isPlace_21 : Snd l D AC b z L xs Gm j_S_isPlace 21 (oGo 25) := sn_goto l D AC b z L xs Gm  dX8_isPlace_21 (by decide)
theorem so_S_isPlace_24 : Snd l D AC b z L xs Gm j_S_isPlace 24 (oI 0 25) := sn_iconst l D AC b z L xs Gm  dX8_isPlace_24 (by decide)
theorem so_S_isPlace_25 : Snd l D AC b z L xs Gm j_S_isPlace 25 (oRetZ) := sn_retZ l D AC b z L xs Gm  dX8_isPlace_25 rfl
set_option maxRecDepth 100000 in
theorem so_S_isPlace : ∀ q ∈ tb_S_isPlace, Snd l D AC b z L xs Gm j_S_isPlace q.1 q.2 := by
  unfold tb_S_isPlace
  exact List.forall_mem_cons.mpr ⟨so_S_isPlace_0 l D AC b z L xs, List.forall_mem_cons.mpr ⟨so_S_isPlace_1 l D AC b z L xs, List.forall_mem_cons.mpr ⟨so_S_isPlace_2 l D AC b z L xs, List.forall_mem_cons.mpr ⟨so_S_isPlace_4 l D AC b z L xs, List.forall_mem_cons.mpr ⟨so_S_isPlace_7 l D AC b z L xs, List.forall_mem_cons.mpr ⟨so_S_isPlace_10 l D AC b z L xs, List.forall_mem_cons.mpr ⟨so_S_isPlace_11 l D AC b z L xs, List.forall_mem_cons.mpr ⟨so_S_isPlace_12 l D AC b z L xs, List.forall_mem_cons.mpr ⟨so_S_isPlace_14 l D AC b z L xs, List.forall_mem_cons.mpr ⟨so_S_isPlace_17 l D AC b z L xs, List.forall_mem_cons.mpr ⟨so_S_isPlace_20 l D AC b z L xs, List.forall_mem_cons.mpr ⟨so_S_isPlace_21 l D AC b z L xs, List.forall_mem_cons.mpr ⟨so_S_isPlace_24 l D AC b z L xs, List.forall_mem_cons.mpr ⟨so_S_isPlace_25 l D AC b z L xs, fun _ h => absurd h List.not_mem_nil⟩⟩⟩⟩⟩⟩⟩⟩⟩⟩⟩⟩⟩⟩
theorem so_S_isReach_0 : Snd l D AC b z L xs Gm j_S_isReach 0 (oIld 0 1) := sn_iload_n l D AC b z L xs Gm  dX8_isReach_0 rfl
theorem so_S_isReach_1 : Snd l D AC b z L xs Gm j_S_isReach 1 (oI 1 2) := sn_iconst l D AC b z L xs Gm  dX8_isReach_1 (by decide)
theorem so_S_isReach_2 : Snd l D AC b z L xs Gm j_S_isReach 2 (oI 42 4) := sn_bipush l D AC b z L xs Gm  dX8_isReach_2 (by decide)
theorem so_S_isReach_4 : Snd l D AC b z L xs Gm j_S_isReach 4 (oCallS j_S_isWithin 3 (mL j_S_isWithin) 7) := sn_callS l D AC b z L xs Gm  dX8_isReach_4 rfl (hs0 (fun _ => rfl) rfl) cal_S_isReach_S_isWithin rfl tw_343 tw_344
theorem so_S_isReach_7 : Snd l D AC b z L xs Gm j_S_isReach 7 (oRetZ) := sn_retZ l D AC b z L xs Gm  dX8_isReach_7 rfl
set_option maxRecDepth 100000 in
theorem so_S_isReach : ∀ q ∈ tb_S_isReach, Snd l D AC b z L xs Gm j_S_isReach q.1 q.2 := by
  unfold tb_S_isReach
  exact List.forall_mem_cons.mpr ⟨so_S_isReach_0 l D AC b z L xs, List.forall_mem_cons.mpr ⟨so_S_isReach_1 l D AC b z L xs, List.forall_mem_cons.mpr ⟨so_S_isReach_2 l D AC b z L xs, List.forall_mem_cons.mpr ⟨so_S_isReach_4 l D AC b z L xs, List.forall_mem_cons.mpr ⟨so_S_isReach_7 l D AC b z L xs, fun _ h => absurd h List.not_mem_nil⟩⟩⟩⟩⟩
theorem so_S_isIn_0 : Snd l D AC b z L xs Gm j_S_isIn 0 (oIld 0 1) := sn_iload_n l D AC b z L xs Gm  dX8_isIn_0 rfl
theorem so_S_isIn_1 : Snd l D AC b z L xs Gm j_S_isIn 1 (oIld 1 2) := sn_iload_n l D AC b z L xs Gm  dX8_isIn_1 rfl
theorem so_S_isIn_2 : Snd l D AC b z L xs Gm j_S_isIn 2 (oII (fun x y => x >>> (y &&& 31)) 3) := sn_ishr l D AC b z L xs Gm  dX8_isIn_2
theorem so_S_isIn_3 : Snd l D AC b z L xs Gm j_S_isIn 3 (oI 1 4) := sn_iconst l D AC b z L xs Gm  dX8_isIn_3 (by decide)
theorem so_S_isIn_4 : Snd l D AC b z L xs Gm j_S_isIn 4 (oII (fun x y => x &&& y) 5) := sn_iand l D AC b z L xs Gm  dX8_isIn_4
theorem so_S_isIn_5 : Snd l D AC b z L xs Gm j_S_isIn 5 (oIf (fun x => decide (x = 0)) 12 8) := sn_if_eq l D AC b z L xs Gm  dX8_isIn_5 (by decide)
theorem so_S_isIn_8 : Snd l D AC b z L xs Gm j_S_isIn 8 (oI 1 9) := sn_iconst l D AC b z L xs Gm  dX8_isIn_8 (by decide)
theorem so_S_isIn_9 : Snd l D AC b z L xs Gm j_S_isIn 9 (oGo 13) := sn_goto l D AC b z L xs Gm  dX8_isIn_9 (by decide)
theorem so_S_isIn_12 : Snd l D AC b z L xs Gm j_S_isIn 12 (oI 0 13) := sn_iconst l D AC b z L xs Gm  dX8_isIn_12 (by decide)
theorem so_S_isIn_13 : Snd l D AC b z L xs Gm j_S_isIn 13 (oRetZ) := sn_retZ l D AC b z L xs Gm  dX8_isIn_13 rfl
set_option maxRecDepth 100000 in
theorem so_S_isIn : ∀ q ∈ tb_S_isIn, Snd l D AC b z L xs Gm j_S_isIn q.1 q.2 := by
  unfold tb_S_isIn
  exact List.forall_mem_cons.mpr ⟨so_S_isIn_0 l D AC b z L xs, List.forall_mem_cons.mpr ⟨so_S_isIn_1 l D AC b z L xs, List.forall_mem_cons.mpr ⟨so_S_isIn_2 l D AC b z L xs, List.forall_mem_cons.mpr ⟨so_S_isIn_3 l D AC b z L xs, List.forall_mem_cons.mpr ⟨so_S_isIn_4 l D AC b z L xs, List.forall_mem_cons.mpr ⟨so_S_isIn_5 l D AC b z L xs, List.forall_mem_cons.mpr ⟨so_S_isIn_8 l D AC b z L xs, List.forall_mem_cons.mpr ⟨so_S_isIn_9 l D AC b z L xs, List.forall_mem_cons.mpr ⟨so_S_isIn_12 l D AC b z L xs, List.forall_mem_cons.mpr ⟨so_S_isIn_13 l D AC b z L xs, fun _ h => absurd h List.not_mem_nil⟩⟩⟩⟩⟩⟩⟩⟩⟩⟩
theorem so_Integer_bitCount_0 : Snd l D AC b z L xs Gm j_Integer_bitCount 0 (oIld 0 1) := sn_iload_n l D AC b z L xs Gm  dJ6_bitCount_0f7a4_0 rfl
theorem so_Integer_bitCount_1 : Snd l D AC b z L xs Gm j_Integer_bitCount 1 (oIld 0 2) := sn_iload_n l D AC b z L xs Gm  dJ6_bitCount_0f7a4_1 rfl
theorem so_Integer_bitCount_2 : Snd l D AC b z L xs Gm j_Integer_bitCount 2 (oI 1 3) := sn_iconst l D AC b z L xs Gm  dJ6_bitCount_0f7a4_2 (by decide)
theorem so_Integer_bitCount_3 : Snd l D AC b z L xs Gm j_Integer_bitCount 3 (oII (fun x y => (x.toUInt32 >>> (y.toUInt32 &&& Int32.toUInt32 31)).toInt32) 4) := sn_iushr l D AC b z L xs Gm  dJ6_bitCount_0f7a4_3
theorem so_Integer_bitCount_4 : Snd l D AC b z L xs Gm j_Integer_bitCount 4 (oI 1431655765 7) := sn_ldcw l D AC b z L xs Gm  dJ6_bitCount_0f7a4_4 tw_537
theorem so_Integer_bitCount_7 : Snd l D AC b z L xs Gm j_Integer_bitCount 7 (oII (fun x y => x &&& y) 8) := sn_iand l D AC b z L xs Gm  dJ6_bitCount_0f7a4_7
theorem so_Integer_bitCount_8 : Snd l D AC b z L xs Gm j_Integer_bitCount 8 (oII (fun x y => x - y) 9) := sn_isub l D AC b z L xs Gm  dJ6_bitCount_0f7a4_8
theorem so_Integer_bitCount_9 : Snd l D AC b z L xs Gm j_Integer_bitCount 9 (oIst 0 10) := sn_istore_n l D AC b z L xs Gm  dJ6_bitCount_0f7a4_9 rfl (by decide)
theorem so_Integer_bitCount_10 : Snd l D AC b z L xs Gm j_Integer_bitCount 10 (oIld 0 11) := sn_iload_n l D AC b z L xs Gm  dJ6_bitCount_0f7a4_10 rfl
theorem so_Integer_bitCount_11 : Snd l D AC b z L xs Gm j_Integer_bitCount 11 (oI 858993459 14) := sn_ldcw l D AC b z L xs Gm  dJ6_bitCount_0f7a4_11 tw_538
theorem so_Integer_bitCount_14 : Snd l D AC b z L xs Gm j_Integer_bitCount 14 (oII (fun x y => x &&& y) 15) := sn_iand l D AC b z L xs Gm  dJ6_bitCount_0f7a4_14
theorem so_Integer_bitCount_15 : Snd l D AC b z L xs Gm j_Integer_bitCount 15 (oIld 0 16) := sn_iload_n l D AC b z L xs Gm  dJ6_bitCount_0f7a4_15 rfl
theorem so_Integer_bitCount_16 : Snd l D AC b z L xs Gm j_Integer_bitCount 16 (oI 2 17) := sn_iconst l D AC b z L xs Gm  dJ6_bitCount_0f7a4_16 (by decide)
theorem so_Integer_bitCount_17 : Snd l D AC b z L xs Gm j_Integer_bitCount 17 (oII (fun x y => (x.toUInt32 >>> (y.toUInt32 &&& Int32.toUInt32 31)).toInt32) 18) := sn_iushr l D AC b z L xs Gm  dJ6_bitCount_0f7a4_17
theorem so_Integer_bitCount_18 : Snd l D AC b z L xs Gm j_Integer_bitCount 18 (oI 858993459 21) := sn_ldcw l D AC b z L xs Gm  dJ6_bitCount_0f7a4_18 tw_538
theorem so_Integer_bitCount_21 : Snd l D AC b z L xs Gm j_Integer_bitCount 21 (oII (fun x y => x &&& y) 22) := sn_iand l D AC b z L xs Gm  dJ6_bitCount_0f7a4_21
theorem so_Integer_bitCount_22 : Snd l D AC b z L xs Gm j_Integer_bitCount 22 (oII (fun x y => x + y) 23) := sn_iadd l D AC b z L xs Gm  dJ6_bitCount_0f7a4_22
theorem so_Integer_bitCount_23 : Snd l D AC b z L xs Gm j_Integer_bitCount 23 (oIst 0 24) := sn_istore_n l D AC b z L xs Gm  dJ6_bitCount_0f7a4_23 rfl (by decide)
theorem so_Integer_bitCount_24 : Snd l D AC b z L xs Gm j_Integer_bitCount 24 (oIld 0 25) := sn_iload_n l D AC b z L xs Gm  dJ6_bitCount_0f7a4_24 rfl
theorem so_Integer_bitCount_25 : Snd l D AC b z L xs Gm j_Integer_bitCount 25 (oIld 0 26) := sn_iload_n l D AC b z L xs Gm  dJ6_bitCount_0f7a4_25 rfl
theorem so_Integer_bitCount_26 : Snd l D AC b z L xs Gm j_Integer_bitCount 26 (oI 4 27) := sn_iconst l D AC b z L xs Gm  dJ6_bitCount_0f7a4_26 (by decide)
theorem so_Integer_bitCount_27 : Snd l D AC b z L xs Gm j_Integer_bitCount 27 (oII (fun x y => (x.toUInt32 >>> (y.toUInt32 &&& Int32.toUInt32 31)).toInt32) 28) := sn_iushr l D AC b z L xs Gm  dJ6_bitCount_0f7a4_27
theorem so_Integer_bitCount_28 : Snd l D AC b z L xs Gm j_Integer_bitCount 28 (oII (fun x y => x + y) 29) := sn_iadd l D AC b z L xs Gm  dJ6_bitCount_0f7a4_28
theorem so_Integer_bitCount_29 : Snd l D AC b z L xs Gm j_Integer_bitCount 29 (oI 252645135 32) := sn_ldcw l D AC b z L xs Gm  dJ6_bitCount_0f7a4_29 tw_539
theorem so_Integer_bitCount_32 : Snd l D AC b z L xs Gm j_Integer_bitCount 32 (oII (fun x y => x &&& y) 33) := sn_iand l D AC b z L xs Gm  dJ6_bitCount_0f7a4_32
theorem so_Integer_bitCount_33 : Snd l D AC b z L xs Gm j_Integer_bitCount 33 (oIst 0 34) := sn_istore_n l D AC b z L xs Gm  dJ6_bitCount_0f7a4_33 rfl (by decide)
theorem so_Integer_bitCount_34 : Snd l D AC b z L xs Gm j_Integer_bitCount 34 (oIld 0 35) := sn_iload_n l D AC b z L xs Gm  dJ6_bitCount_0f7a4_34 rfl
theorem so_Integer_bitCount_35 : Snd l D AC b z L xs Gm j_Integer_bitCount 35 (oIld 0 36) := sn_iload_n l D AC b z L xs Gm  dJ6_bitCount_0f7a4_35 rfl
theorem so_Integer_bitCount_36 : Snd l D AC b z L xs Gm j_Integer_bitCount 36 (oI 8 38) := sn_bipush l D AC b z L xs Gm  dJ6_bitCount_0f7a4_36 (by decide)
theorem so_Integer_bitCount_38 : Snd l D AC b z L xs Gm j_Integer_bitCount 38 (oII (fun x y => (x.toUInt32 >>> (y.toUInt32 &&& Int32.toUInt32 31)).toInt32) 39) := sn_iushr l D AC b z L xs Gm  dJ6_bitCount_0f7a4_38
theorem so_Integer_bitCount_39 : Snd l D AC b z L xs Gm j_Integer_bitCount 39 (oII (fun x y => x + y) 40) := sn_iadd l D AC b z L xs Gm  dJ6_bitCount_0f7a4_39
theorem so_Integer_bitCount_40 : Snd l D AC b z L xs Gm j_Integer_bitCount 40 (oIst 0 41) := sn_istore_n l D AC b z L xs Gm  dJ6_bitCount_0f7a4_40 rfl (by decide)
theorem so_Integer_bitCount_41 : Snd l D AC b z L xs Gm j_Integer_bitCount 41 (oIld 0 42) := sn_iload_n l D AC b z L xs Gm  dJ6_bitCount_0f7a4_41 rfl
theorem so_Integer_bitCount_42 : Snd l D AC b z L xs Gm j_Integer_bitCount 42 (oIld 0 43) := sn_iload_n l D AC b z L xs Gm  dJ6_bitCount_0f7a4_42 rfl
theorem so_Integer_bitCount_43 : Snd l D AC b z L xs Gm j_Integer_bitCount 43 (oI 16 45) := sn_bipush l D AC b z L xs Gm  dJ6_bitCount_0f7a4_43 (by decide)
theorem so_Integer_bitCount_45 : Snd l D AC b z L xs Gm j_Integer_bitCount 45 (oII (fun x y => (x.toUInt32 >>> (y.toUInt32 &&& Int32.toUInt32 31)).toInt32) 46) := sn_iushr l D AC b z L xs Gm  dJ6_bitCount_0f7a4_45
theorem so_Integer_bitCount_46 : Snd l D AC b z L xs Gm j_Integer_bitCount 46 (oII (fun x y => x + y) 47) := sn_iadd l D AC b z L xs Gm  dJ6_bitCount_0f7a4_46
theorem so_Integer_bitCount_47 : Snd l D AC b z L xs Gm j_Integer_bitCount 47 (oIst 0 48) := sn_istore_n l D AC b z L xs Gm  dJ6_bitCount_0f7a4_47 rfl (by decide)
theorem so_Integer_bitCount_48 : Snd l D AC b z L xs Gm j_Integer_bitCount 48 (oIld 0 49) := sn_iload_n l D AC b z L xs Gm  dJ6_bitCount_0f7a4_48 rfl
theorem so_Integer_bitCount_49 : Snd l D AC b z L xs Gm j_Integer_bitCount 49 (oI 63 51) := sn_bipush l D AC b z L xs Gm  dJ6_bitCount_0f7a4_49 (by decide)
theorem so_Integer_bitCount_51 : Snd l D AC b z L xs Gm j_Integer_bitCount 51 (oII (fun x y => x &&& y) 52) := sn_iand l D AC b z L xs Gm  dJ6_bitCount_0f7a4_51
theorem so_Integer_bitCount_52 : Snd l D AC b z L xs Gm j_Integer_bitCount 52 (oRetI) := sn_retI l D AC b z L xs Gm  dJ6_bitCount_0f7a4_52 rfl
set_option maxRecDepth 100000 in
theorem so_Integer_bitCount : ∀ q ∈ tb_Integer_bitCount, Snd l D AC b z L xs Gm j_Integer_bitCount q.1 q.2 := by
  unfold tb_Integer_bitCount
  exact List.forall_mem_cons.mpr ⟨so_Integer_bitCount_0 l D AC b z L xs, List.forall_mem_cons.mpr ⟨so_Integer_bitCount_1 l D AC b z L xs, List.forall_mem_cons.mpr ⟨so_Integer_bitCount_2 l D AC b z L xs, List.forall_mem_cons.mpr ⟨so_Integer_bitCount_3 l D AC b z L xs, List.forall_mem_cons.mpr ⟨so_Integer_bitCount_4 l D AC b z L xs, List.forall_mem_cons.mpr ⟨so_Integer_bitCount_7 l D AC b z L xs, List.forall_mem_cons.mpr ⟨so_Integer_bitCount_8 l D AC b z L xs, List.forall_mem_cons.mpr ⟨so_Integer_bitCount_9 l D AC b z L xs, List.forall_mem_cons.mpr ⟨so_Integer_bitCount_10 l D AC b z L xs, List.forall_mem_cons.mpr ⟨so_Integer_bitCount_11 l D AC b z L xs, List.forall_mem_cons.mpr ⟨so_Integer_bitCount_14 l D AC b z L xs, List.forall_mem_cons.mpr ⟨so_Integer_bitCount_15 l D AC b z L xs, List.forall_mem_cons.mpr ⟨so_Integer_bitCount_16 l D AC b z L xs, List.forall_mem_cons.mpr ⟨so_Integer_bitCount_17 l D AC b z L xs, List.forall_mem_cons.mpr ⟨so_Integer_bitCount_18 l D AC b z L xs, List.forall_mem_cons.mpr ⟨so_Integer_bitCount_21 l D AC b z L xs, List.forall_mem_cons.mpr ⟨so_Integer_bitCount_22 l D AC b z L xs, List.forall_mem_cons.mpr ⟨so_Integer_bitCount_23 l D AC b z L xs, List.forall_mem_cons.mpr ⟨so_Integer_bitCount_24 l D AC b z L xs, List.forall_mem_cons.mpr ⟨so_Integer_bitCount_25 l D AC b z L xs, List.forall_mem_cons.mpr ⟨so_Integer_bitCount_26 l D AC b z L xs, List.forall_mem_cons.mpr ⟨so_Integer_bitCount_27 l D AC b z L xs, List.forall_mem_cons.mpr ⟨so_Integer_bitCount_28 l D AC b z L xs, List.forall_mem_cons.mpr ⟨so_Integer_bitCount_29 l D AC b z L xs, List.forall_mem_cons.mpr ⟨so_Integer_bitCount_32 l D AC b z L xs, List.forall_mem_cons.mpr ⟨so_Integer_bitCount_33 l D AC b z L xs, List.forall_mem_cons.mpr ⟨so_Integer_bitCount_34 l D AC b z L xs, List.forall_mem_cons.mpr ⟨so_Integer_bitCount_35 l D AC b z L xs, List.forall_mem_cons.mpr ⟨so_Integer_bitCount_36 l D AC b z L xs, List.forall_mem_cons.mpr ⟨so_Integer_bitCount_38 l D AC b z L xs, List.forall_mem_cons.mpr ⟨so_Integer_bitCount_39 l D AC b z L xs, List.forall_mem_cons.mpr ⟨so_Integer_bitCount_40 l D AC b z L xs, List.forall_mem_cons.mpr ⟨so_Integer_bitCount_41 l D AC b z L xs, List.forall_mem_cons.mpr ⟨so_Integer_bitCount_42 l D AC b z L xs, List.forall_mem_cons.mpr ⟨so_Integer_bitCount_43 l D AC b z L xs, List.forall_mem_cons.mpr ⟨so_Integer_bitCount_45 l D AC b z L xs, List.forall_mem_cons.mpr ⟨so_Integer_bitCount_46 l D AC b z L xs, List.forall_mem_cons.mpr ⟨so_Integer_bitCount_47 l D AC b z L xs, List.forall_mem_cons.mpr ⟨so_Integer_bitCount_48 l D AC b z L xs, List.forall_mem_cons.mpr ⟨so_Integer_bitCount_49 l D AC b z L xs, List.forall_mem_cons.mpr ⟨so_Integer_bitCount_51 l D AC b z L xs, List.forall_mem_cons.mpr ⟨so_Integer_bitCount_52 l D AC b z L xs, fun _ h => absurd h List.not_mem_nil⟩⟩⟩⟩⟩⟩⟩⟩⟩⟩⟩⟩⟩⟩⟩⟩⟩⟩⟩⟩⟩⟩⟩⟩⟩⟩⟩⟩⟩⟩⟩⟩⟩⟩⟩⟩⟩⟩⟩⟩⟩⟩
theorem so_Long_bitCount_0 : Snd l D AC b z L xs Gm j_Long_bitCount 0 (oLld 0 1) := sn_lload_n l D AC b z L xs Gm  dJ13_bitCount_95d88_0 rfl
theorem so_Long_bitCount_1 : Snd l D AC b z L xs Gm j_Long_bitCount 1 (oLld 0 2) := sn_lload_n l D AC b z L xs Gm  dJ13_bitCount_95d88_1 rfl
theorem so_Long_bitCount_2 : Snd l D AC b z L xs Gm j_Long_bitCount 2 (oI 1 3) := sn_iconst l D AC b z L xs Gm  dJ13_bitCount_95d88_2 (by decide)
theorem so_Long_bitCount_3 : Snd l D AC b z L xs Gm j_Long_bitCount 3 (oLI (fun x y => (x.toUInt64 >>> (y.toInt64.toUInt64 &&& Int64.toUInt64 63)).toInt64) 4) := sn_lushr l D AC b z L xs Gm  dJ13_bitCount_95d88_3
theorem so_Long_bitCount_4 : Snd l D AC b z L xs Gm j_Long_bitCount 4 (oJ 6148914691236517205 7) := sn_ldc2 l D AC b z L xs Gm  dJ13_bitCount_95d88_4 tw_822
theorem so_Long_bitCount_7 : Snd l D AC b z L xs Gm j_Long_bitCount 7 (oLL (fun x y => x &&& y) 8) := sn_land l D AC b z L xs Gm  dJ13_bitCount_95d88_7
theorem so_Long_bitCount_8 : Snd l D AC b z L xs Gm j_Long_bitCount 8 (oLL (fun x y => x - y) 9) := sn_lsub l D AC b z L xs Gm  dJ13_bitCount_95d88_8
theorem so_Long_bitCount_9 : Snd l D AC b z L xs Gm j_Long_bitCount 9 (oLst 0 10) := sn_lstore_n l D AC b z L xs Gm  dJ13_bitCount_95d88_9 rfl (by decide)
theorem so_Long_bitCount_10 : Snd l D AC b z L xs Gm j_Long_bitCount 10 (oLld 0 11) := sn_lload_n l D AC b z L xs Gm  dJ13_bitCount_95d88_10 rfl
theorem so_Long_bitCount_11 : Snd l D AC b z L xs Gm j_Long_bitCount 11 (oJ 3689348814741910323 14) := sn_ldc2 l D AC b z L xs Gm  dJ13_bitCount_95d88_11 tw_823
theorem so_Long_bitCount_14 : Snd l D AC b z L xs Gm j_Long_bitCount 14 (oLL (fun x y => x &&& y) 15) := sn_land l D AC b z L xs Gm  dJ13_bitCount_95d88_14
theorem so_Long_bitCount_15 : Snd l D AC b z L xs Gm j_Long_bitCount 15 (oLld 0 16) := sn_lload_n l D AC b z L xs Gm  dJ13_bitCount_95d88_15 rfl
theorem so_Long_bitCount_16 : Snd l D AC b z L xs Gm j_Long_bitCount 16 (oI 2 17) := sn_iconst l D AC b z L xs Gm  dJ13_bitCount_95d88_16 (by decide)
theorem so_Long_bitCount_17 : Snd l D AC b z L xs Gm j_Long_bitCount 17 (oLI (fun x y => (x.toUInt64 >>> (y.toInt64.toUInt64 &&& Int64.toUInt64 63)).toInt64) 18) := sn_lushr l D AC b z L xs Gm  dJ13_bitCount_95d88_17
theorem so_Long_bitCount_18 : Snd l D AC b z L xs Gm j_Long_bitCount 18 (oJ 3689348814741910323 21) := sn_ldc2 l D AC b z L xs Gm  dJ13_bitCount_95d88_18 tw_823
theorem so_Long_bitCount_21 : Snd l D AC b z L xs Gm j_Long_bitCount 21 (oLL (fun x y => x &&& y) 22) := sn_land l D AC b z L xs Gm  dJ13_bitCount_95d88_21
theorem so_Long_bitCount_22 : Snd l D AC b z L xs Gm j_Long_bitCount 22 (oLL (fun x y => x + y) 23) := sn_ladd l D AC b z L xs Gm  dJ13_bitCount_95d88_22
theorem so_Long_bitCount_23 : Snd l D AC b z L xs Gm j_Long_bitCount 23 (oLst 0 24) := sn_lstore_n l D AC b z L xs Gm  dJ13_bitCount_95d88_23 rfl (by decide)
theorem so_Long_bitCount_24 : Snd l D AC b z L xs Gm j_Long_bitCount 24 (oLld 0 25) := sn_lload_n l D AC b z L xs Gm  dJ13_bitCount_95d88_24 rfl
theorem so_Long_bitCount_25 : Snd l D AC b z L xs Gm j_Long_bitCount 25 (oLld 0 26) := sn_lload_n l D AC b z L xs Gm  dJ13_bitCount_95d88_25 rfl
theorem so_Long_bitCount_26 : Snd l D AC b z L xs Gm j_Long_bitCount 26 (oI 4 27) := sn_iconst l D AC b z L xs Gm  dJ13_bitCount_95d88_26 (by decide)
theorem so_Long_bitCount_27 : Snd l D AC b z L xs Gm j_Long_bitCount 27 (oLI (fun x y => (x.toUInt64 >>> (y.toInt64.toUInt64 &&& Int64.toUInt64 63)).toInt64) 28) := sn_lushr l D AC b z L xs Gm  dJ13_bitCount_95d88_27
theorem so_Long_bitCount_28 : Snd l D AC b z L xs Gm j_Long_bitCount 28 (oLL (fun x y => x + y) 29) := sn_ladd l D AC b z L xs Gm  dJ13_bitCount_95d88_28
theorem so_Long_bitCount_29 : Snd l D AC b z L xs Gm j_Long_bitCount 29 (oJ 1085102592571150095 32) := sn_ldc2 l D AC b z L xs Gm  dJ13_bitCount_95d88_29 tw_824
theorem so_Long_bitCount_32 : Snd l D AC b z L xs Gm j_Long_bitCount 32 (oLL (fun x y => x &&& y) 33) := sn_land l D AC b z L xs Gm  dJ13_bitCount_95d88_32
theorem so_Long_bitCount_33 : Snd l D AC b z L xs Gm j_Long_bitCount 33 (oLst 0 34) := sn_lstore_n l D AC b z L xs Gm  dJ13_bitCount_95d88_33 rfl (by decide)
theorem so_Long_bitCount_34 : Snd l D AC b z L xs Gm j_Long_bitCount 34 (oLld 0 35) := sn_lload_n l D AC b z L xs Gm  dJ13_bitCount_95d88_34 rfl
theorem so_Long_bitCount_35 : Snd l D AC b z L xs Gm j_Long_bitCount 35 (oLld 0 36) := sn_lload_n l D AC b z L xs Gm  dJ13_bitCount_95d88_35 rfl
theorem so_Long_bitCount_36 : Snd l D AC b z L xs Gm j_Long_bitCount 36 (oI 8 38) := sn_bipush l D AC b z L xs Gm  dJ13_bitCount_95d88_36 (by decide)
theorem so_Long_bitCount_38 : Snd l D AC b z L xs Gm j_Long_bitCount 38 (oLI (fun x y => (x.toUInt64 >>> (y.toInt64.toUInt64 &&& Int64.toUInt64 63)).toInt64) 39) := sn_lushr l D AC b z L xs Gm  dJ13_bitCount_95d88_38
theorem so_Long_bitCount_39 : Snd l D AC b z L xs Gm j_Long_bitCount 39 (oLL (fun x y => x + y) 40) := sn_ladd l D AC b z L xs Gm  dJ13_bitCount_95d88_39
theorem so_Long_bitCount_40 : Snd l D AC b z L xs Gm j_Long_bitCount 40 (oLst 0 41) := sn_lstore_n l D AC b z L xs Gm  dJ13_bitCount_95d88_40 rfl (by decide)
theorem so_Long_bitCount_41 : Snd l D AC b z L xs Gm j_Long_bitCount 41 (oLld 0 42) := sn_lload_n l D AC b z L xs Gm  dJ13_bitCount_95d88_41 rfl
theorem so_Long_bitCount_42 : Snd l D AC b z L xs Gm j_Long_bitCount 42 (oLld 0 43) := sn_lload_n l D AC b z L xs Gm  dJ13_bitCount_95d88_42 rfl
theorem so_Long_bitCount_43 : Snd l D AC b z L xs Gm j_Long_bitCount 43 (oI 16 45) := sn_bipush l D AC b z L xs Gm  dJ13_bitCount_95d88_43 (by decide)
theorem so_Long_bitCount_45 : Snd l D AC b z L xs Gm j_Long_bitCount 45 (oLI (fun x y => (x.toUInt64 >>> (y.toInt64.toUInt64 &&& Int64.toUInt64 63)).toInt64) 46) := sn_lushr l D AC b z L xs Gm  dJ13_bitCount_95d88_45
theorem so_Long_bitCount_46 : Snd l D AC b z L xs Gm j_Long_bitCount 46 (oLL (fun x y => x + y) 47) := sn_ladd l D AC b z L xs Gm  dJ13_bitCount_95d88_46
theorem so_Long_bitCount_47 : Snd l D AC b z L xs Gm j_Long_bitCount 47 (oLst 0 48) := sn_lstore_n l D AC b z L xs Gm  dJ13_bitCount_95d88_47 rfl (by decide)
theorem so_Long_bitCount_48 : Snd l D AC b z L xs Gm j_Long_bitCount 48 (oLld 0 49) := sn_lload_n l D AC b z L xs Gm  dJ13_bitCount_95d88_48 rfl
theorem so_Long_bitCount_49 : Snd l D AC b z L xs Gm j_Long_bitCount 49 (oLld 0 50) := sn_lload_n l D AC b z L xs Gm  dJ13_bitCount_95d88_49 rfl
theorem so_Long_bitCount_50 : Snd l D AC b z L xs Gm j_Long_bitCount 50 (oI 32 52) := sn_bipush l D AC b z L xs Gm  dJ13_bitCount_95d88_50 (by decide)
theorem so_Long_bitCount_52 : Snd l D AC b z L xs Gm j_Long_bitCount 52 (oLI (fun x y => (x.toUInt64 >>> (y.toInt64.toUInt64 &&& Int64.toUInt64 63)).toInt64) 53) := sn_lushr l D AC b z L xs Gm  dJ13_bitCount_95d88_52
theorem so_Long_bitCount_53 : Snd l D AC b z L xs Gm j_Long_bitCount 53 (oLL (fun x y => x + y) 54) := sn_ladd l D AC b z L xs Gm  dJ13_bitCount_95d88_53
theorem so_Long_bitCount_54 : Snd l D AC b z L xs Gm j_Long_bitCount 54 (oLst 0 55) := sn_lstore_n l D AC b z L xs Gm  dJ13_bitCount_95d88_54 rfl (by decide)
theorem so_Long_bitCount_55 : Snd l D AC b z L xs Gm j_Long_bitCount 55 (oLld 0 56) := sn_lload_n l D AC b z L xs Gm  dJ13_bitCount_95d88_55 rfl
theorem so_Long_bitCount_56 : Snd l D AC b z L xs Gm j_Long_bitCount 56 (oL2I 57) := sn_l2i l D AC b z L xs Gm  dJ13_bitCount_95d88_56
theorem so_Long_bitCount_57 : Snd l D AC b z L xs Gm j_Long_bitCount 57 (oI 127 59) := sn_bipush l D AC b z L xs Gm  dJ13_bitCount_95d88_57 (by decide)
theorem so_Long_bitCount_59 : Snd l D AC b z L xs Gm j_Long_bitCount 59 (oII (fun x y => x &&& y) 60) := sn_iand l D AC b z L xs Gm  dJ13_bitCount_95d88_59
theorem so_Long_bitCount_60 : Snd l D AC b z L xs Gm j_Long_bitCount 60 (oRetI) := sn_retI l D AC b z L xs Gm  dJ13_bitCount_95d88_60 rfl
set_option maxRecDepth 100000 in
theorem so_Long_bitCount : ∀ q ∈ tb_Long_bitCount, Snd l D AC b z L xs Gm j_Long_bitCount q.1 q.2 := by
  unfold tb_Long_bitCount
  exact List.forall_mem_cons.mpr ⟨so_Long_bitCount_0 l D AC b z L xs, List.forall_mem_cons.mpr ⟨so_Long_bitCount_1 l D AC b z L xs, List.forall_mem_cons.mpr ⟨so_Long_bitCount_2 l D AC b z L xs, List.forall_mem_cons.mpr ⟨so_Long_bitCount_3 l D AC b z L xs, List.forall_mem_cons.mpr ⟨so_Long_bitCount_4 l D AC b z L xs, List.forall_mem_cons.mpr ⟨so_Long_bitCount_7 l D AC b z L xs, List.forall_mem_cons.mpr ⟨so_Long_bitCount_8 l D AC b z L xs, List.forall_mem_cons.mpr ⟨so_Long_bitCount_9 l D AC b z L xs, List.forall_mem_cons.mpr ⟨so_Long_bitCount_10 l D AC b z L xs, List.forall_mem_cons.mpr ⟨so_Long_bitCount_11 l D AC b z L xs, List.forall_mem_cons.mpr ⟨so_Long_bitCount_14 l D AC b z L xs, List.forall_mem_cons.mpr ⟨so_Long_bitCount_15 l D AC b z L xs, List.forall_mem_cons.mpr ⟨so_Long_bitCount_16 l D AC b z L xs, List.forall_mem_cons.mpr ⟨so_Long_bitCount_17 l D AC b z L xs, List.forall_mem_cons.mpr ⟨so_Long_bitCount_18 l D AC b z L xs, List.forall_mem_cons.mpr ⟨so_Long_bitCount_21 l D AC b z L xs, List.forall_mem_cons.mpr ⟨so_Long_bitCount_22 l D AC b z L xs, List.forall_mem_cons.mpr ⟨so_Long_bitCount_23 l D AC b z L xs, List.forall_mem_cons.mpr ⟨so_Long_bitCount_24 l D AC b z L xs, List.forall_mem_cons.mpr ⟨so_Long_bitCount_25 l D AC b z L xs, List.forall_mem_cons.mpr ⟨so_Long_bitCount_26 l D AC b z L xs, List.forall_mem_cons.mpr ⟨so_Long_bitCount_27 l D AC b z L xs, List.forall_mem_cons.mpr ⟨so_Long_bitCount_28 l D AC b z L xs, List.forall_mem_cons.mpr ⟨so_Long_bitCount_29 l D AC b z L xs, List.forall_mem_cons.mpr ⟨so_Long_bitCount_32 l D AC b z L xs, List.forall_mem_cons.mpr ⟨so_Long_bitCount_33 l D AC b z L xs, List.forall_mem_cons.mpr ⟨so_Long_bitCount_34 l D AC b z L xs, List.forall_mem_cons.mpr ⟨so_Long_bitCount_35 l D AC b z L xs, List.forall_mem_cons.mpr ⟨so_Long_bitCount_36 l D AC b z L xs, List.forall_mem_cons.mpr ⟨so_Long_bitCount_38 l D AC b z L xs, List.forall_mem_cons.mpr ⟨so_Long_bitCount_39 l D AC b z L xs, List.forall_mem_cons.mpr ⟨so_Long_bitCount_40 l D AC b z L xs, List.forall_mem_cons.mpr ⟨so_Long_bitCount_41 l D AC b z L xs, List.forall_mem_cons.mpr ⟨so_Long_bitCount_42 l D AC b z L xs, List.forall_mem_cons.mpr ⟨so_Long_bitCount_43 l D AC b z L xs, List.forall_mem_cons.mpr ⟨so_Long_bitCount_45 l D AC b z L xs, List.forall_mem_cons.mpr ⟨so_Long_bitCount_46 l D AC b z L xs, List.forall_mem_cons.mpr ⟨so_Long_bitCount_47 l D AC b z L xs, List.forall_mem_cons.mpr ⟨so_Long_bitCount_48 l D AC b z L xs, List.forall_mem_cons.mpr ⟨so_Long_bitCount_49 l D AC b z L xs, List.forall_mem_cons.mpr ⟨so_Long_bitCount_50 l D AC b z L xs, List.forall_mem_cons.mpr ⟨so_Long_bitCount_52 l D AC b z L xs, List.forall_mem_cons.mpr ⟨so_Long_bitCount_53 l D AC b z L xs, List.forall_mem_cons.mpr ⟨so_Long_bitCount_54 l D AC b z L xs, List.forall_mem_cons.mpr ⟨so_Long_bitCount_55 l D AC b z L xs, List.forall_mem_cons.mpr ⟨so_Long_bitCount_56 l D AC b z L xs, List.forall_mem_cons.mpr ⟨so_Long_bitCount_57 l D AC b z L xs, List.forall_mem_cons.mpr ⟨so_Long_bitCount_59 l D AC b z L xs, List.forall_mem_cons.mpr ⟨so_Long_bitCount_60 l D AC b z L xs, fun _ h => absurd h List.not_mem_nil⟩⟩⟩⟩⟩⟩⟩⟩⟩⟩⟩⟩⟩⟩⟩⟩⟩⟩⟩⟩⟩⟩⟩⟩⟩⟩⟩⟩⟩⟩⟩⟩⟩⟩⟩⟩⟩⟩⟩⟩⟩⟩⟩⟩⟩⟩⟩⟩⟩
theorem so_Law_below_0 : Snd l D AC b z L xs Gm j_Law_below 0 (oIld 0 1) := sn_iload_n l D AC b z L xs Gm  dL_below_0 rfl
theorem so_Law_below_1 : Snd l D AC b z L xs Gm j_Law_below 1 (oI 2147483647 3) := sn_ldc l D AC b z L xs Gm  dL_below_1 tw_565
theorem so_Law_below_3 : Snd l D AC b z L xs Gm j_Law_below 3 (oII (fun x y => x &&& y) 4) := sn_iand l D AC b z L xs Gm  dL_below_3
theorem so_Law_below_4 : Snd l D AC b z L xs Gm j_Law_below 4 (oIld 1 5) := sn_iload_n l D AC b z L xs Gm  dL_below_4 rfl
theorem so_Law_below_5 : Snd l D AC b z L xs Gm j_Law_below 5 (oIq (fun x y => x - x / y * y) 6) := sn_irem l D AC b z L xs Gm  dL_below_5
theorem so_Law_below_6 : Snd l D AC b z L xs Gm j_Law_below 6 (oRetI) := sn_retI l D AC b z L xs Gm  dL_below_6 rfl
set_option maxRecDepth 100000 in
theorem so_Law_below : ∀ q ∈ tb_Law_below, Snd l D AC b z L xs Gm j_Law_below q.1 q.2 := by
  unfold tb_Law_below
  exact List.forall_mem_cons.mpr ⟨so_Law_below_0 l D AC b z L xs, List.forall_mem_cons.mpr ⟨so_Law_below_1 l D AC b z L xs, List.forall_mem_cons.mpr ⟨so_Law_below_3 l D AC b z L xs, List.forall_mem_cons.mpr ⟨so_Law_below_4 l D AC b z L xs, List.forall_mem_cons.mpr ⟨so_Law_below_5 l D AC b z L xs, List.forall_mem_cons.mpr ⟨so_Law_below_6 l D AC b z L xs, fun _ h => absurd h List.not_mem_nil⟩⟩⟩⟩⟩⟩
theorem so_Law_cell_0 : Snd l D AC b z L xs Gm j_Law_cell 0 (oIld 1 1) := sn_iload_n l D AC b z L xs Gm  dL_cell_0 rfl
theorem so_Law_cell_1 : Snd l D AC b z L xs Gm j_Law_cell 1 (oAld 0 2) := sn_aload_n l D AC b z L xs Gm  dL_cell_1 rfl
theorem so_Law_cell_2 : Snd l D AC b z L xs Gm j_Law_cell 2 (oLen 0 3) := sn_alen l D AC b z L xs Gm  dL_cell_2 (by decide)
theorem so_Law_cell_3 : Snd l D AC b z L xs Gm j_Law_cell 3 (oIC (fun x y => decide (y ≤ x)) 12 6) := sn_icmp_ge l D AC b z L xs Gm  dL_cell_3 (by decide)
theorem so_Law_cell_6 : Snd l D AC b z L xs Gm j_Law_cell 6 (oAld 0 7) := sn_aload_n l D AC b z L xs Gm  dL_cell_6 rfl
theorem so_Law_cell_7 : Snd l D AC b z L xs Gm j_Law_cell 7 (oIld 1 8) := sn_iload_n l D AC b z L xs Gm  dL_cell_7 rfl
theorem so_Law_cell_8 : Snd l D AC b z L xs Gm j_Law_cell 8 (oIal 0 9) := sn_iaload l D AC b z L xs Gm  dL_cell_8 (by decide) rfl rfl rfl
theorem so_Law_cell_9 : Snd l D AC b z L xs Gm j_Law_cell 9 (oGo 18) := sn_goto l D AC b z L xs Gm  dL_cell_9 (by decide)
theorem so_Law_cell_12 : Snd l D AC b z L xs Gm j_Law_cell 12 (oI 790386105 14) := sn_ldc l D AC b z L xs Gm  dL_cell_12 tw_569
theorem so_Law_cell_14 : Snd l D AC b z L xs Gm j_Law_cell 14 (oIld 1 15) := sn_iload_n l D AC b z L xs Gm  dL_cell_14 rfl
theorem so_Law_cell_15 : Snd l D AC b z L xs Gm j_Law_cell 15 (oI 3 16) := sn_iconst l D AC b z L xs Gm  dL_cell_15 (by decide)
theorem so_Law_cell_16 : Snd l D AC b z L xs Gm j_Law_cell 16 (oII (fun x y => x + y) 17) := sn_iadd l D AC b z L xs Gm  dL_cell_16
theorem so_Law_cell_17 : Snd l D AC b z L xs Gm j_Law_cell 17 (oII (fun x y => x * y) 18) := sn_imul l D AC b z L xs Gm  dL_cell_17
theorem so_Law_cell_18 : Snd l D AC b z L xs Gm j_Law_cell 18 (oRetI) := sn_retI l D AC b z L xs Gm  dL_cell_18 rfl
set_option maxRecDepth 100000 in
theorem so_Law_cell : ∀ q ∈ tb_Law_cell, Snd l D AC b z L xs Gm j_Law_cell q.1 q.2 := by
  unfold tb_Law_cell
  exact List.forall_mem_cons.mpr ⟨so_Law_cell_0 l D AC b z L xs, List.forall_mem_cons.mpr ⟨so_Law_cell_1 l D AC b z L xs, List.forall_mem_cons.mpr ⟨so_Law_cell_2 l D AC b z L xs, List.forall_mem_cons.mpr ⟨so_Law_cell_3 l D AC b z L xs, List.forall_mem_cons.mpr ⟨so_Law_cell_6 l D AC b z L xs, List.forall_mem_cons.mpr ⟨so_Law_cell_7 l D AC b z L xs, List.forall_mem_cons.mpr ⟨so_Law_cell_8 l D AC b z L xs, List.forall_mem_cons.mpr ⟨so_Law_cell_9 l D AC b z L xs, List.forall_mem_cons.mpr ⟨so_Law_cell_12 l D AC b z L xs, List.forall_mem_cons.mpr ⟨so_Law_cell_14 l D AC b z L xs, List.forall_mem_cons.mpr ⟨so_Law_cell_15 l D AC b z L xs, List.forall_mem_cons.mpr ⟨so_Law_cell_16 l D AC b z L xs, List.forall_mem_cons.mpr ⟨so_Law_cell_17 l D AC b z L xs, List.forall_mem_cons.mpr ⟨so_Law_cell_18 l D AC b z L xs, fun _ h => absurd h List.not_mem_nil⟩⟩⟩⟩⟩⟩⟩⟩⟩⟩⟩⟩⟩⟩
theorem so_Law_law_0 : Snd l D AC b z L xs Gm j_Law_law 0 (oNew cM sM kc_S 5 3) := sn_new l D AC b z L xs Gm  dL_law_0 rfl (by decide) kin_8 tyX8_ok kdf_8 tw_39 tw_40 tw_22
theorem so_Law_law_3 : Snd l D AC b z L xs Gm j_Law_law 3 (oDup 4) := sn_dup l D AC b z L xs Gm  dL_law_3
theorem so_Law_law_4 : Snd l D AC b z L xs Gm j_Law_law 4 (oCallV kc_S j_S_init 0 (mL j_S_init) 7) := sn_callI l D AC b z L xs Gm  dL_law_4 rfl (hs0 (fun _ => rfl) rfl) cal_Law_law_S_init rfl rfl (by decide) rfl rfl tw_41 tw_42
theorem so_Law_law_7 : Snd l D AC b z L xs Gm j_Law_law 7 (oAst 1 8) := sn_astore_n l D AC b z L xs Gm  dL_law_7 rfl (by decide)
theorem so_Law_law_8 : Snd l D AC b z L xs Gm j_Law_law 8 (oI 3 9) := sn_iconst l D AC b z L xs Gm  dL_law_8 (by decide)
theorem so_Law_law_9 : Snd l D AC b z L xs Gm j_Law_law 9 (oAld 0 10) := sn_aload_n l D AC b z L xs Gm  dL_law_9 rfl
theorem so_Law_law_10 : Snd l D AC b z L xs Gm j_Law_law 10 (oI 1 11) := sn_iconst l D AC b z L xs Gm  dL_law_10 (by decide)
theorem so_Law_law_11 : Snd l D AC b z L xs Gm j_Law_law 11 (oCallS j_Law_cell 2 (mL j_Law_cell) 14) := sn_callS l D AC b z L xs Gm  dL_law_11 rfl (hs0 (fun _ => rfl) rfl) cal_Law_law_Law_cell rfl tw_566 tw_567
theorem so_Law_law_14 : Snd l D AC b z L xs Gm j_Law_law 14 (oI 5 15) := sn_iconst l D AC b z L xs Gm  dL_law_14 (by decide)
theorem so_Law_law_15 : Snd l D AC b z L xs Gm j_Law_law 15 (oCallS j_Law_below 2 (mL j_Law_below) 18) := sn_callS l D AC b z L xs Gm  dL_law_15 rfl (hs0 (fun _ => rfl) rfl) cal_Law_law_Law_below rfl tw_562 tw_563
theorem so_Law_law_18 : Snd l D AC b z L xs Gm j_Law_law 18 (oII (fun x y => x + y) 19) := sn_iadd l D AC b z L xs Gm  dL_law_18
theorem so_Law_law_19 : Snd l D AC b z L xs Gm j_Law_law 19 (oIst 2 20) := sn_istore_n l D AC b z L xs Gm  dL_law_19 rfl (by decide)
theorem so_Law_law_20 : Snd l D AC b z L xs Gm j_Law_law 20 (oI 0 21) := sn_iconst l D AC b z L xs Gm  dL_law_20 (by decide)
theorem so_Law_law_21 : Snd l D AC b z L xs Gm j_Law_law 21 (oIst 3 22) := sn_istore_n l D AC b z L xs Gm  dL_law_21 rfl (by decide)
theorem so_Law_law_22 : Snd l D AC b z L xs Gm j_Law_law 22 (oIld 3 23) := sn_iload_n l D AC b z L xs Gm  dL_law_22 rfl
theorem so_Law_law_23 : Snd l D AC b z L xs Gm j_Law_law 23 (oIld 2 24) := sn_iload_n l D AC b z L xs Gm  dL_law_23 rfl
theorem so_Law_law_24 : Snd l D AC b z L xs Gm j_Law_law 24 (oIC (fun x y => decide (y ≤ x)) 95 27) := sn_icmp_ge l D AC b z L xs Gm  dL_law_24 (by decide)
theorem so_Law_law_27 : Snd l D AC b z L xs Gm j_Law_law 27 (oAld 1 28) := sn_aload_n l D AC b z L xs Gm  dL_law_27 rfl
theorem so_Law_law_28 : Snd l D AC b z L xs Gm j_Law_law 28 (oAld 0 29) := sn_aload_n l D AC b z L xs Gm  dL_law_28 rfl
theorem so_Law_law_29 : Snd l D AC b z L xs Gm j_Law_law 29 (oIld 3 30) := sn_iload_n l D AC b z L xs Gm  dL_law_29 rfl
theorem so_Law_law_30 : Snd l D AC b z L xs Gm j_Law_law 30 (oCallS j_Law_cell 2 (mL j_Law_cell) 33) := sn_callS l D AC b z L xs Gm  dL_law_30 rfl (hs0 (fun _ => rfl) rfl) cal_Law_law_Law_cell rfl tw_566 tw_567
theorem so_Law_law_33 : Snd l D AC b z L xs Gm j_Law_law 33 (oI 20 35) := sn_bipush l D AC b z L xs Gm  dL_law_33 (by decide)
theorem so_Law_law_35 : Snd l D AC b z L xs Gm j_Law_law 35 (oCallS j_Law_below 2 (mL j_Law_below) 38) := sn_callS l D AC b z L xs Gm  dL_law_35 rfl (hs0 (fun _ => rfl) rfl) cal_Law_law_Law_below rfl tw_562 tw_563
theorem so_Law_law_38 : Snd l D AC b z L xs Gm j_Law_law 38 (oAld 0 39) := sn_aload_n l D AC b z L xs Gm  dL_law_38 rfl
theorem so_Law_law_39 : Snd l D AC b z L xs Gm j_Law_law 39 (oIld 3 40) := sn_iload_n l D AC b z L xs Gm  dL_law_39 rfl
theorem so_Law_law_40 : Snd l D AC b z L xs Gm j_Law_law 40 (oCallS j_Law_cell 2 (mL j_Law_cell) 43) := sn_callS l D AC b z L xs Gm  dL_law_40 rfl (hs0 (fun _ => rfl) rfl) cal_Law_law_Law_cell rfl tw_566 tw_567
theorem so_Law_law_43 : Snd l D AC b z L xs Gm j_Law_law 43 (oI 4 44) := sn_iconst l D AC b z L xs Gm  dL_law_43 (by decide)
theorem so_Law_law_44 : Snd l D AC b z L xs Gm j_Law_law 44 (oII (fun x y => x >>> (y &&& 31)) 45) := sn_ishr l D AC b z L xs Gm  dL_law_44
theorem so_Law_law_45 : Snd l D AC b z L xs Gm j_Law_law 45 (oI 20 47) := sn_bipush l D AC b z L xs Gm  dL_law_45 (by decide)
theorem so_Law_law_47 : Snd l D AC b z L xs Gm j_Law_law 47 (oCallS j_Law_below 2 (mL j_Law_below) 50) := sn_callS l D AC b z L xs Gm  dL_law_47 rfl (hs0 (fun _ => rfl) rfl) cal_Law_law_Law_below rfl tw_562 tw_563
theorem so_Law_law_50 : Snd l D AC b z L xs Gm j_Law_law 50 (oI 1 51) := sn_iconst l D AC b z L xs Gm  dL_law_50 (by decide)
theorem so_Law_law_51 : Snd l D AC b z L xs Gm j_Law_law 51 (oAld 0 52) := sn_aload_n l D AC b z L xs Gm  dL_law_51 rfl
theorem so_Law_law_52 : Snd l D AC b z L xs Gm j_Law_law 52 (oIld 3 53) := sn_iload_n l D AC b z L xs Gm  dL_law_52 rfl
theorem so_Law_law_53 : Snd l D AC b z L xs Gm j_Law_law 53 (oI 1 54) := sn_iconst l D AC b z L xs Gm  dL_law_53 (by decide)
theorem so_Law_law_54 : Snd l D AC b z L xs Gm j_Law_law 54 (oII (fun x y => x + y) 55) := sn_iadd l D AC b z L xs Gm  dL_law_54
theorem so_Law_law_55 : Snd l D AC b z L xs Gm j_Law_law 55 (oCallS j_Law_cell 2 (mL j_Law_cell) 58) := sn_callS l D AC b z L xs Gm  dL_law_55 rfl (hs0 (fun _ => rfl) rfl) cal_Law_law_Law_cell rfl tw_566 tw_567
theorem so_Law_law_58 : Snd l D AC b z L xs Gm j_Law_law 58 (oI 2 59) := sn_iconst l D AC b z L xs Gm  dL_law_58 (by decide)
theorem so_Law_law_59 : Snd l D AC b z L xs Gm j_Law_law 59 (oII (fun x y => x >>> (y &&& 31)) 60) := sn_ishr l D AC b z L xs Gm  dL_law_59
theorem so_Law_law_60 : Snd l D AC b z L xs Gm j_Law_law 60 (oI 25 62) := sn_bipush l D AC b z L xs Gm  dL_law_60 (by decide)
theorem so_Law_law_62 : Snd l D AC b z L xs Gm j_Law_law 62 (oCallS j_Law_below 2 (mL j_Law_below) 65) := sn_callS l D AC b z L xs Gm  dL_law_62 rfl (hs0 (fun _ => rfl) rfl) cal_Law_law_Law_below rfl tw_562 tw_563
theorem so_Law_law_65 : Snd l D AC b z L xs Gm j_Law_law 65 (oII (fun x y => x + y) 66) := sn_iadd l D AC b z L xs Gm  dL_law_65
theorem so_Law_law_66 : Snd l D AC b z L xs Gm j_Law_law 66 (oAld 0 67) := sn_aload_n l D AC b z L xs Gm  dL_law_66 rfl
theorem so_Law_law_67 : Snd l D AC b z L xs Gm j_Law_law 67 (oIld 3 68) := sn_iload_n l D AC b z L xs Gm  dL_law_67 rfl
theorem so_Law_law_68 : Snd l D AC b z L xs Gm j_Law_law 68 (oI 2 69) := sn_iconst l D AC b z L xs Gm  dL_law_68 (by decide)
theorem so_Law_law_69 : Snd l D AC b z L xs Gm j_Law_law 69 (oII (fun x y => x + y) 70) := sn_iadd l D AC b z L xs Gm  dL_law_69
theorem so_Law_law_70 : Snd l D AC b z L xs Gm j_Law_law 70 (oCallS j_Law_cell 2 (mL j_Law_cell) 73) := sn_callS l D AC b z L xs Gm  dL_law_70 rfl (hs0 (fun _ => rfl) rfl) cal_Law_law_Law_cell rfl tw_566 tw_567
theorem so_Law_law_73 : Snd l D AC b z L xs Gm j_Law_law 73 (oI 4 74) := sn_iconst l D AC b z L xs Gm  dL_law_73 (by decide)
theorem so_Law_law_74 : Snd l D AC b z L xs Gm j_Law_law 74 (oCallS j_Law_below 2 (mL j_Law_below) 77) := sn_callS l D AC b z L xs Gm  dL_law_74 rfl (hs0 (fun _ => rfl) rfl) cal_Law_law_Law_below rfl tw_562 tw_563
theorem so_Law_law_77 : Snd l D AC b z L xs Gm j_Law_law 77 (oIf (fun x => decide (¬ x = 0)) 84 80) := sn_if_ne l D AC b z L xs Gm  dL_law_77 (by decide)
theorem so_Law_law_80 : Snd l D AC b z L xs Gm j_Law_law 80 (oI 1 81) := sn_iconst l D AC b z L xs Gm  dL_law_80 (by decide)
theorem so_Law_law_81 : Snd l D AC b z L xs Gm j_Law_law 81 (oGo 85) := sn_goto l D AC b z L xs Gm  dL_law_81 (by decide)
theorem so_Law_law_84 : Snd l D AC b z L xs Gm j_Law_law 84 (oI 0 85) := sn_iconst l D AC b z L xs Gm  dL_law_84 (by decide)
theorem so_Law_law_85 : Snd l D AC b z L xs Gm j_Law_law 85 (oCallV kc_S j_S_node 4 (mL j_S_node) 88) := sn_callV l D AC b z L xs Gm  dL_law_85 rfl (hs0 (fun _ => rfl) rfl) cal_Law_law_S_node rfl rfl (by decide) rfl tw_336 tw_337 tw_338
theorem so_Law_law_88 : Snd l D AC b z L xs Gm j_Law_law 88 (oPop 89) := sn_pop l D AC b z L xs Gm  dL_law_88
theorem so_Law_law_89 : Snd l D AC b z L xs Gm j_Law_law 89 (oInc 3 1 92) := sn_iinc l D AC b z L xs Gm  dL_law_89 (by decide) (by decide)
theorem so_Law_law_92 : Snd l D AC b z L xs Gm j_Law_law 92 (oGo 22) := sn_goto l D AC b z L xs Gm  dL_law_92 (by decide)
theorem so_Law_law_95 : Snd l D AC b z L xs Gm j_Law_law 95 (oAld 1 96) := sn_aload_n l D AC b z L xs Gm  dL_law_95 rfl
theorem so_Law_law_96 : Snd l D AC b z L xs Gm j_Law_law 96 (oI 1 97) := sn_iconst l D AC b z L xs Gm  dL_law_96 (by decide)
theorem so_Law_law_97 : Snd l D AC b z L xs Gm j_Law_law 97 (oAld 0 98) := sn_aload_n l D AC b z L xs Gm  dL_law_97 rfl
theorem so_Law_law_98 : Snd l D AC b z L xs Gm j_Law_law 98 (oI 3 99) := sn_iconst l D AC b z L xs Gm  dL_law_98 (by decide)
theorem so_Law_law_99 : Snd l D AC b z L xs Gm j_Law_law 99 (oCallS j_Law_cell 2 (mL j_Law_cell) 102) := sn_callS l D AC b z L xs Gm  dL_law_99 rfl (hs0 (fun _ => rfl) rfl) cal_Law_law_Law_cell rfl tw_566 tw_567
theorem so_Law_law_102 : Snd l D AC b z L xs Gm j_Law_law 102 (oI 8 104) := sn_bipush l D AC b z L xs Gm  dL_law_102 (by decide)
theorem so_Law_law_104 : Snd l D AC b z L xs Gm j_Law_law 104 (oCallS j_Law_below 2 (mL j_Law_below) 107) := sn_callS l D AC b z L xs Gm  dL_law_104 rfl (hs0 (fun _ => rfl) rfl) cal_Law_law_Law_below rfl tw_562 tw_563
theorem so_Law_law_107 : Snd l D AC b z L xs Gm j_Law_law 107 (oII (fun x y => x + y) 108) := sn_iadd l D AC b z L xs Gm  dL_law_107
theorem so_Law_law_108 : Snd l D AC b z L xs Gm j_Law_law 108 (oCallV kc_S j_S_exchange 1 (mL j_S_exchange) 111) := sn_callV l D AC b z L xs Gm  dL_law_108 rfl (hs0 (fun _ => rfl) rfl) cal_Law_law_S_exchange rfl rfl (by decide) rfl tw_449 tw_450 tw_451
theorem so_Law_law_111 : Snd l D AC b z L xs Gm j_Law_law 111 (oPop 112) := sn_pop l D AC b z L xs Gm  dL_law_111
theorem so_Law_law_112 : Snd l D AC b z L xs Gm j_Law_law 112 (oIld 2 113) := sn_iload_n l D AC b z L xs Gm  dL_law_112 rfl
theorem so_Law_law_113 : Snd l D AC b z L xs Gm j_Law_law 113 (oI 4 114) := sn_iconst l D AC b z L xs Gm  dL_law_113 (by decide)
theorem so_Law_law_114 : Snd l D AC b z L xs Gm j_Law_law 114 (oMul cM sM 4 0 118) := sn_multi l D AC b z L xs Gm  dL_law_114 (by decide) rfl rfl (by decide) rfl rfl tw_853 tw_104 (List.mem_of_getElem? (i := 2) rfl)
theorem so_Law_law_118 : Snd l D AC b z L xs Gm j_Law_law 118 (oAst 3 119) := sn_astore_n l D AC b z L xs Gm  dL_law_118 rfl (by decide)
theorem so_Law_law_119 : Snd l D AC b z L xs Gm j_Law_law 119 (oI 0 120) := sn_iconst l D AC b z L xs Gm  dL_law_119 (by decide)
theorem so_Law_law_120 : Snd l D AC b z L xs Gm j_Law_law 120 (oIst 4 122) := sn_istore l D AC b z L xs Gm  dL_law_120 (by decide)
theorem so_Law_law_122 : Snd l D AC b z L xs Gm j_Law_law 122 (oI 0 123) := sn_iconst l D AC b z L xs Gm  dL_law_122 (by decide)
theorem so_Law_law_123 : Snd l D AC b z L xs Gm j_Law_law 123 (oIst 5 125) := sn_istore l D AC b z L xs Gm  dL_law_123 (by decide)
theorem so_Law_law_125 : Snd l D AC b z L xs Gm j_Law_law 125 (oIld 5 127) := sn_iload l D AC b z L xs Gm  dL_law_125
theorem so_Law_law_127 : Snd l D AC b z L xs Gm j_Law_law 127 (oI 60 129) := sn_bipush l D AC b z L xs Gm  dL_law_127 (by decide)
theorem so_Law_law_129 : Snd l D AC b z L xs Gm j_Law_law 129 (oIC (fun x y => decide (y ≤ x)) 286 132) := sn_icmp_ge l D AC b z L xs Gm  dL_law_129 (by decide)
theorem so_Law_law_132 : Snd l D AC b z L xs Gm j_Law_law 132 (oAld 0 133) := sn_aload_n l D AC b z L xs Gm  dL_law_132 rfl
theorem so_Law_law_133 : Snd l D AC b z L xs Gm j_Law_law 133 (oIld 5 135) := sn_iload l D AC b z L xs Gm  dL_law_133
theorem so_Law_law_135 : Snd l D AC b z L xs Gm j_Law_law 135 (oI 16 137) := sn_bipush l D AC b z L xs Gm  dL_law_135 (by decide)
theorem so_Law_law_137 : Snd l D AC b z L xs Gm j_Law_law 137 (oIq (fun x y => x - x / y * y) 138) := sn_irem l D AC b z L xs Gm  dL_law_137
theorem so_Law_law_138 : Snd l D AC b z L xs Gm j_Law_law 138 (oCallS j_Law_cell 2 (mL j_Law_cell) 141) := sn_callS l D AC b z L xs Gm  dL_law_138 rfl (hs0 (fun _ => rfl) rfl) cal_Law_law_Law_cell rfl tw_566 tw_567
theorem so_Law_law_141 : Snd l D AC b z L xs Gm j_Law_law 141 (oI 83 143) := sn_bipush l D AC b z L xs Gm  dL_law_141 (by decide)
theorem so_Law_law_143 : Snd l D AC b z L xs Gm j_Law_law 143 (oIld 5 145) := sn_iload l D AC b z L xs Gm  dL_law_143
theorem so_Law_law_145 : Snd l D AC b z L xs Gm j_Law_law 145 (oII (fun x y => x * y) 146) := sn_imul l D AC b z L xs Gm  dL_law_145
theorem so_Law_law_146 : Snd l D AC b z L xs Gm j_Law_law 146 (oII (fun x y => x + y) 147) := sn_iadd l D AC b z L xs Gm  dL_law_146
theorem so_Law_law_147 : Snd l D AC b z L xs Gm j_Law_law 147 (oIst 6 149) := sn_istore l D AC b z L xs Gm  dL_law_147 (by decide)
theorem so_Law_law_149 : Snd l D AC b z L xs Gm j_Law_law 149 (oAld 1 150) := sn_aload_n l D AC b z L xs Gm  dL_law_149 rfl
theorem so_Law_law_150 : Snd l D AC b z L xs Gm j_Law_law 150 (oIld 6 152) := sn_iload l D AC b z L xs Gm  dL_law_150
theorem so_Law_law_152 : Snd l D AC b z L xs Gm j_Law_law 152 (oI 2 153) := sn_iconst l D AC b z L xs Gm  dL_law_152 (by decide)
theorem so_Law_law_153 : Snd l D AC b z L xs Gm j_Law_law 153 (oII (fun x y => x >>> (y &&& 31)) 154) := sn_ishr l D AC b z L xs Gm  dL_law_153
theorem so_Law_law_154 : Snd l D AC b z L xs Gm j_Law_law 154 (oIld 6 156) := sn_iload l D AC b z L xs Gm  dL_law_154
theorem so_Law_law_156 : Snd l D AC b z L xs Gm j_Law_law 156 (oI 10 158) := sn_bipush l D AC b z L xs Gm  dL_law_156 (by decide)
theorem so_Law_law_158 : Snd l D AC b z L xs Gm j_Law_law 158 (oCallS j_Law_below 2 (mL j_Law_below) 161) := sn_callS l D AC b z L xs Gm  dL_law_158 rfl (hs0 (fun _ => rfl) rfl) cal_Law_law_Law_below rfl tw_562 tw_563
theorem so_Law_law_161 : Snd l D AC b z L xs Gm j_Law_law 161 (oIld 2 162) := sn_iload_n l D AC b z L xs Gm  dL_law_161 rfl
theorem so_Law_law_162 : Snd l D AC b z L xs Gm j_Law_law 162 (oCallS j_Law_act 4 (mL j_Law_act) 165) := sn_callSX l D AC b z L xs Gm  dL_law_162 rfl (hs0 (fun _ => rfl) rfl) cal_Law_law_Law_act (by decide) tw_570 tw_571
theorem so_Law_law_165 : Snd l D AC b z L xs Gm j_Law_law 165 (oI 0 166) := sn_iconst l D AC b z L xs Gm  dL_law_165 (by decide)
theorem so_Law_law_166 : Snd l D AC b z L xs Gm j_Law_law 166 (oIst 7 168) := sn_istore l D AC b z L xs Gm  dL_law_166 (by decide)
theorem so_Law_law_168 : Snd l D AC b z L xs Gm j_Law_law 168 (oIld 7 170) := sn_iload l D AC b z L xs Gm  dL_law_168
theorem so_Law_law_170 : Snd l D AC b z L xs Gm j_Law_law 170 (oIld 2 171) := sn_iload_n l D AC b z L xs Gm  dL_law_170 rfl
theorem so_Law_law_171 : Snd l D AC b z L xs Gm j_Law_law 171 (oIC (fun x y => decide (y ≤ x)) 231 174) := sn_icmp_ge l D AC b z L xs Gm  dL_law_171 (by decide)
theorem so_Law_law_174 : Snd l D AC b z L xs Gm j_Law_law 174 (oI 0 175) := sn_iconst l D AC b z L xs Gm  dL_law_174 (by decide)
theorem so_Law_law_175 : Snd l D AC b z L xs Gm j_Law_law 175 (oIst 8 177) := sn_istore l D AC b z L xs Gm  dL_law_175 (by decide)
theorem so_Law_law_177 : Snd l D AC b z L xs Gm j_Law_law 177 (oIld 8 179) := sn_iload l D AC b z L xs Gm  dL_law_177
theorem so_Law_law_179 : Snd l D AC b z L xs Gm j_Law_law 179 (oI 4 180) := sn_iconst l D AC b z L xs Gm  dL_law_179 (by decide)
theorem so_Law_law_180 : Snd l D AC b z L xs Gm j_Law_law 180 (oIC (fun x y => decide (y ≤ x)) 225 183) := sn_icmp_ge l D AC b z L xs Gm  dL_law_180 (by decide)
theorem so_Law_law_183 : Snd l D AC b z L xs Gm j_Law_law 183 (oAld 1 184) := sn_aload_n l D AC b z L xs Gm  dL_law_183 rfl
theorem so_Law_law_184 : Snd l D AC b z L xs Gm j_Law_law 184 (oIld 7 186) := sn_iload l D AC b z L xs Gm  dL_law_184
theorem so_Law_law_186 : Snd l D AC b z L xs Gm j_Law_law 186 (oI 9 188) := sn_bipush l D AC b z L xs Gm  dL_law_186 (by decide)
theorem so_Law_law_188 : Snd l D AC b z L xs Gm j_Law_law 188 (oIld 8 190) := sn_iload l D AC b z L xs Gm  dL_law_188
theorem so_Law_law_190 : Snd l D AC b z L xs Gm j_Law_law 190 (oII (fun x y => x + y) 191) := sn_iadd l D AC b z L xs Gm  dL_law_190
theorem so_Law_law_191 : Snd l D AC b z L xs Gm j_Law_law 191 (oCallV kc_S j_S_ofNode 2 (mL j_S_ofNode) 194) := sn_callV l D AC b z L xs Gm  dL_law_191 rfl (hs0 (fun _ => rfl) rfl) cal_Law_law_S_ofNode rfl rfl (by decide) rfl tw_485 tw_486 tw_487
theorem so_Law_law_194 : Snd l D AC b z L xs Gm j_Law_law 194 (oIst 9 196) := sn_istore l D AC b z L xs Gm  dL_law_194 (by decide)
theorem so_Law_law_196 : Snd l D AC b z L xs Gm j_Law_law 196 (oIld 9 198) := sn_iload l D AC b z L xs Gm  dL_law_196
theorem so_Law_law_198 : Snd l D AC b z L xs Gm j_Law_law 198 (oAld 3 199) := sn_aload_n l D AC b z L xs Gm  dL_law_198 rfl
theorem so_Law_law_199 : Snd l D AC b z L xs Gm j_Law_law 199 (oIld 7 201) := sn_iload l D AC b z L xs Gm  dL_law_199
theorem so_Law_law_201 : Snd l D AC b z L xs Gm j_Law_law 201 (oAal 4 202) := sn_aaload l D AC b z L xs Gm  dL_law_201 (by decide) rfl rfl (by decide)
theorem so_Law_law_202 : Snd l D AC b z L xs Gm j_Law_law 202 (oIld 8 204) := sn_iload l D AC b z L xs Gm  dL_law_202
theorem so_Law_law_204 : Snd l D AC b z L xs Gm j_Law_law 204 (oIal 0 205) := sn_iaload l D AC b z L xs Gm  dL_law_204 (by decide) rfl rfl rfl
theorem so_Law_law_205 : Snd l D AC b z L xs Gm j_Law_law 205 (oIC (fun x y => decide (y ≤ x)) 210 208) := sn_icmp_ge l D AC b z L xs Gm  dL_law_205 (by decide)
theorem so_Law_law_208 : Snd l D AC b z L xs Gm j_Law_law 208 (oI 0 209) := sn_iconst l D AC b z L xs Gm  dL_law_208 (by decide)
theorem so_Law_law_209 : Snd l D AC b z L xs Gm j_Law_law 209 (oRetZ) := sn_retZ l D AC b z L xs Gm  dL_law_209 rfl
theorem so_Law_law_210 : Snd l D AC b z L xs Gm j_Law_law 210 (oAld 3 211) := sn_aload_n l D AC b z L xs Gm  dL_law_210 rfl
theorem so_Law_law_211 : Snd l D AC b z L xs Gm j_Law_law 211 (oIld 7 213) := sn_iload l D AC b z L xs Gm  dL_law_211
theorem so_Law_law_213 : Snd l D AC b z L xs Gm j_Law_law 213 (oAal 4 214) := sn_aaload l D AC b z L xs Gm  dL_law_213 (by decide) rfl rfl (by decide)
theorem so_Law_law_214 : Snd l D AC b z L xs Gm j_Law_law 214 (oIld 8 216) := sn_iload l D AC b z L xs Gm  dL_law_214
theorem so_Law_law_216 : Snd l D AC b z L xs Gm j_Law_law 216 (oIld 9 218) := sn_iload l D AC b z L xs Gm  dL_law_216
theorem so_Law_law_218 : Snd l D AC b z L xs Gm j_Law_law 218 (oIas 0 219) := sn_iastore l D AC b z L xs Gm  dL_law_218 (by decide) rfl rfl
theorem so_Law_law_219 : Snd l D AC b z L xs Gm j_Law_law 219 (oInc 8 1 222) := sn_iinc l D AC b z L xs Gm  dL_law_219 (by decide) (by decide)
theorem so_Law_law_222 : Snd l D AC b z L xs Gm j_Law_law 222 (oGo 177) := sn_goto l D AC b z L xs Gm  dL_law_222 (by decide)
theorem so_Law_law_225 : Snd l D AC b z L xs Gm j_Law_law 225 (oInc 7 1 228) := sn_iinc l D AC b z L xs Gm  dL_law_225 (by decide) (by decide)
theorem so_Law_law_228 : Snd l D AC b z L xs Gm j_Law_law 228 (oGo 168) := sn_goto l D AC b z L xs Gm  dL_law_228 (by decide)
theorem so_Law_law_231 : Snd l D AC b z L xs Gm j_Law_law 231 (oAld 1 232) := sn_aload_n l D AC b z L xs Gm  dL_law_231 rfl
theorem so_Law_law_232 : Snd l D AC b z L xs Gm j_Law_law 232 (oI 4 233) := sn_iconst l D AC b z L xs Gm  dL_law_232 (by decide)
theorem so_Law_law_233 : Snd l D AC b z L xs Gm j_Law_law 233 (oCallV kc_S j_S_air 1 (mL j_S_air) 236) := sn_callV l D AC b z L xs Gm  dL_law_233 rfl (hs0 (fun _ => rfl) rfl) cal_Law_law_S_air rfl rfl (by decide) rfl tw_522 tw_523 tw_524
theorem so_Law_law_236 : Snd l D AC b z L xs Gm j_Law_law 236 (oIld 4 238) := sn_iload l D AC b z L xs Gm  dL_law_236
theorem so_Law_law_238 : Snd l D AC b z L xs Gm j_Law_law 238 (oIC (fun x y => decide (y ≤ x)) 243 241) := sn_icmp_ge l D AC b z L xs Gm  dL_law_238 (by decide)
theorem so_Law_law_241 : Snd l D AC b z L xs Gm j_Law_law 241 (oI 0 242) := sn_iconst l D AC b z L xs Gm  dL_law_241 (by decide)
theorem so_Law_law_242 : Snd l D AC b z L xs Gm j_Law_law 242 (oRetZ) := sn_retZ l D AC b z L xs Gm  dL_law_242 rfl
theorem so_Law_law_243 : Snd l D AC b z L xs Gm j_Law_law 243 (oAld 1 244) := sn_aload_n l D AC b z L xs Gm  dL_law_243 rfl
theorem so_Law_law_244 : Snd l D AC b z L xs Gm j_Law_law 244 (oI 4 245) := sn_iconst l D AC b z L xs Gm  dL_law_244 (by decide)
theorem so_Law_law_245 : Snd l D AC b z L xs Gm j_Law_law 245 (oCallV kc_S j_S_air 1 (mL j_S_air) 248) := sn_callV l D AC b z L xs Gm  dL_law_245 rfl (hs0 (fun _ => rfl) rfl) cal_Law_law_S_air rfl rfl (by decide) rfl tw_522 tw_523 tw_524
theorem so_Law_law_248 : Snd l D AC b z L xs Gm j_Law_law 248 (oIst 4 250) := sn_istore l D AC b z L xs Gm  dL_law_248 (by decide)
theorem so_Law_law_250 : Snd l D AC b z L xs Gm j_Law_law 250 (oIld 5 252) := sn_iload l D AC b z L xs Gm  dL_law_250
theorem so_Law_law_252 : Snd l D AC b z L xs Gm j_Law_law 252 (oI 8 254) := sn_bipush l D AC b z L xs Gm  dL_law_252 (by decide)
theorem so_Law_law_254 : Snd l D AC b z L xs Gm j_Law_law 254 (oIq (fun x y => x - x / y * y) 255) := sn_irem l D AC b z L xs Gm  dL_law_254
theorem so_Law_law_255 : Snd l D AC b z L xs Gm j_Law_law 255 (oI 7 257) := sn_bipush l D AC b z L xs Gm  dL_law_255 (by decide)
theorem so_Law_law_257 : Snd l D AC b z L xs Gm j_Law_law 257 (oIC (fun x y => decide (¬ x = y)) 280 260) := sn_icmp_ne l D AC b z L xs Gm  dL_law_257 (by decide)
theorem so_Law_law_260 : Snd l D AC b z L xs Gm j_Law_law 260 (oAld 1 261) := sn_aload_n l D AC b z L xs Gm  dL_law_260 rfl
theorem so_Law_law_261 : Snd l D AC b z L xs Gm j_Law_law 261 (oIld 2 262) := sn_iload_n l D AC b z L xs Gm  dL_law_261 rfl
theorem so_Law_law_262 : Snd l D AC b z L xs Gm j_Law_law 262 (oIld 6 264) := sn_iload l D AC b z L xs Gm  dL_law_262
theorem so_Law_law_264 : Snd l D AC b z L xs Gm j_Law_law 264 (oI 3 265) := sn_iconst l D AC b z L xs Gm  dL_law_264 (by decide)
theorem so_Law_law_265 : Snd l D AC b z L xs Gm j_Law_law 265 (oII (fun x y => x >>> (y &&& 31)) 266) := sn_ishr l D AC b z L xs Gm  dL_law_265
theorem so_Law_law_266 : Snd l D AC b z L xs Gm j_Law_law 266 (oIld 2 267) := sn_iload_n l D AC b z L xs Gm  dL_law_266 rfl
theorem so_Law_law_267 : Snd l D AC b z L xs Gm j_Law_law 267 (oCallS j_Law_below 2 (mL j_Law_below) 270) := sn_callS l D AC b z L xs Gm  dL_law_267 rfl (hs0 (fun _ => rfl) rfl) cal_Law_law_Law_below rfl tw_562 tw_563
theorem so_Law_law_270 : Snd l D AC b z L xs Gm j_Law_law 270 (oIld 6 272) := sn_iload l D AC b z L xs Gm  dL_law_270
theorem so_Law_law_272 : Snd l D AC b z L xs Gm j_Law_law 272 (oCallS j_Law_isAsked 4 (mL j_Law_isAsked) 275) := sn_callS l D AC b z L xs Gm  dL_law_272 rfl (hs0 (fun _ => rfl) rfl) cal_Law_law_Law_isAsked rfl tw_729 tw_730
theorem so_Law_law_275 : Snd l D AC b z L xs Gm j_Law_law 275 (oIf (fun x => decide (¬ x = 0)) 280 278) := sn_if_ne l D AC b z L xs Gm  dL_law_275 (by decide)
theorem so_Law_law_278 : Snd l D AC b z L xs Gm j_Law_law 278 (oI 0 279) := sn_iconst l D AC b z L xs Gm  dL_law_278 (by decide)
theorem so_Law_law_279 : Snd l D AC b z L xs Gm j_Law_law 279 (oRetZ) := sn_retZ l D AC b z L xs Gm  dL_law_279 rfl
theorem so_Law_law_280 : Snd l D AC b z L xs Gm j_Law_law 280 (oInc 5 1 283) := sn_iinc l D AC b z L xs Gm  dL_law_280 (by decide) (by decide)
theorem so_Law_law_283 : Snd l D AC b z L xs Gm j_Law_law 283 (oGo 125) := sn_goto l D AC b z L xs Gm  dL_law_283 (by decide)
theorem so_Law_law_286 : Snd l D AC b z L xs Gm j_Law_law 286 (oI 1 287) := sn_iconst l D AC b z L xs Gm  dL_law_286 (by decide)
theorem so_Law_law_287 : Snd l D AC b z L xs Gm j_Law_law 287 (oRetZ) := sn_retZ l D AC b z L xs Gm  dL_law_287 rfl
set_option maxRecDepth 100000 in
theorem so_Law_law : ∀ q ∈ tb_Law_law, Snd l D AC b z L xs Gm j_Law_law q.1 q.2 := by
  unfold tb_Law_law
  exact List.forall_mem_cons.mpr ⟨so_Law_law_0 l D AC b z L xs, List.forall_mem_cons.mpr ⟨so_Law_law_3 l D AC b z L xs, List.forall_mem_cons.mpr ⟨so_Law_law_4 l D AC b z L xs, List.forall_mem_cons.mpr ⟨so_Law_law_7 l D AC b z L xs, List.forall_mem_cons.mpr ⟨so_Law_law_8 l D AC b z L xs, List.forall_mem_cons.mpr ⟨so_Law_law_9 l D AC b z L xs, List.forall_mem_cons.mpr ⟨so_Law_law_10 l D AC b z L xs, List.forall_mem_cons.mpr ⟨so_Law_law_11 l D AC b z L xs, List.forall_mem_cons.mpr ⟨so_Law_law_14 l D AC b z L xs, List.forall_mem_cons.mpr ⟨so_Law_law_15 l D AC b z L xs, List.forall_mem_cons.mpr ⟨so_Law_law_18 l D AC b z L xs, List.forall_mem_cons.mpr ⟨so_Law_law_19 l D AC b z L xs, List.forall_mem_cons.mpr ⟨so_Law_law_20 l D AC b z L xs, List.forall_mem_cons.mpr ⟨so_Law_law_21 l D AC b z L xs, List.forall_mem_cons.mpr ⟨so_Law_law_22 l D AC b z L xs, List.forall_mem_cons.mpr ⟨so_Law_law_23 l D AC b z L xs, List.forall_mem_cons.mpr ⟨so_Law_law_24 l D AC b z L xs, List.forall_mem_cons.mpr ⟨so_Law_law_27 l D AC b z L xs, List.forall_mem_cons.mpr ⟨so_Law_law_28 l D AC b z L xs, List.forall_mem_cons.mpr ⟨so_Law_law_29 l D AC b z L xs, List.forall_mem_cons.mpr ⟨so_Law_law_30 l D AC b z L xs, List.forall_mem_cons.mpr ⟨so_Law_law_33 l D AC b z L xs, List.forall_mem_cons.mpr ⟨so_Law_law_35 l D AC b z L xs, List.forall_mem_cons.mpr ⟨so_Law_law_38 l D AC b z L xs, List.forall_mem_cons.mpr ⟨so_Law_law_39 l D AC b z L xs, List.forall_mem_cons.mpr ⟨so_Law_law_40 l D AC b z L xs, List.forall_mem_cons.mpr ⟨so_Law_law_43 l D AC b z L xs, List.forall_mem_cons.mpr ⟨so_Law_law_44 l D AC b z L xs, List.forall_mem_cons.mpr ⟨so_Law_law_45 l D AC b z L xs, List.forall_mem_cons.mpr ⟨so_Law_law_47 l D AC b z L xs, List.forall_mem_cons.mpr ⟨so_Law_law_50 l D AC b z L xs, List.forall_mem_cons.mpr ⟨so_Law_law_51 l D AC b z L xs, List.forall_mem_cons.mpr ⟨so_Law_law_52 l D AC b z L xs, List.forall_mem_cons.mpr ⟨so_Law_law_53 l D AC b z L xs, List.forall_mem_cons.mpr ⟨so_Law_law_54 l D AC b z L xs, List.forall_mem_cons.mpr ⟨so_Law_law_55 l D AC b z L xs, List.forall_mem_cons.mpr ⟨so_Law_law_58 l D AC b z L xs, List.forall_mem_cons.mpr ⟨so_Law_law_59 l D AC b z L xs, List.forall_mem_cons.mpr ⟨so_Law_law_60 l D AC b z L xs, List.forall_mem_cons.mpr ⟨so_Law_law_62 l D AC b z L xs, List.forall_mem_cons.mpr ⟨so_Law_law_65 l D AC b z L xs, List.forall_mem_cons.mpr ⟨so_Law_law_66 l D AC b z L xs, List.forall_mem_cons.mpr ⟨so_Law_law_67 l D AC b z L xs, List.forall_mem_cons.mpr ⟨so_Law_law_68 l D AC b z L xs, List.forall_mem_cons.mpr ⟨so_Law_law_69 l D AC b z L xs, List.forall_mem_cons.mpr ⟨so_Law_law_70 l D AC b z L xs, List.forall_mem_cons.mpr ⟨so_Law_law_73 l D AC b z L xs, List.forall_mem_cons.mpr ⟨so_Law_law_74 l D AC b z L xs, List.forall_mem_cons.mpr ⟨so_Law_law_77 l D AC b z L xs, List.forall_mem_cons.mpr ⟨so_Law_law_80 l D AC b z L xs, List.forall_mem_cons.mpr ⟨so_Law_law_81 l D AC b z L xs, List.forall_mem_cons.mpr ⟨so_Law_law_84 l D AC b z L xs, List.forall_mem_cons.mpr ⟨so_Law_law_85 l D AC b z L xs, List.forall_mem_cons.mpr ⟨so_Law_law_88 l D AC b z L xs, List.forall_mem_cons.mpr ⟨so_Law_law_89 l D AC b z L xs, List.forall_mem_cons.mpr ⟨so_Law_law_92 l D AC b z L xs, List.forall_mem_cons.mpr ⟨so_Law_law_95 l D AC b z L xs, List.forall_mem_cons.mpr ⟨so_Law_law_96 l D AC b z L xs, List.forall_mem_cons.mpr ⟨so_Law_law_97 l D AC b z L xs, List.forall_mem_cons.mpr ⟨so_Law_law_98 l D AC b z L xs, List.forall_mem_cons.mpr ⟨so_Law_law_99 l D AC b z L xs, List.forall_mem_cons.mpr ⟨so_Law_law_102 l D AC b z L xs, List.forall_mem_cons.mpr ⟨so_Law_law_104 l D AC b z L xs, List.forall_mem_cons.mpr ⟨so_Law_law_107 l D AC b z L xs, List.forall_mem_cons.mpr ⟨so_Law_law_108 l D AC b z L xs, List.forall_mem_cons.mpr ⟨so_Law_law_111 l D AC b z L xs, List.forall_mem_cons.mpr ⟨so_Law_law_112 l D AC b z L xs, List.forall_mem_cons.mpr ⟨so_Law_law_113 l D AC b z L xs, List.forall_mem_cons.mpr ⟨so_Law_law_114 l D AC b z L xs, List.forall_mem_cons.mpr ⟨so_Law_law_118 l D AC b z L xs, List.forall_mem_cons.mpr ⟨so_Law_law_119 l D AC b z L xs, List.forall_mem_cons.mpr ⟨so_Law_law_120 l D AC b z L xs, List.forall_mem_cons.mpr ⟨so_Law_law_122 l D AC b z L xs, List.forall_mem_cons.mpr ⟨so_Law_law_123 l D AC b z L xs, List.forall_mem_cons.mpr ⟨so_Law_law_125 l D AC b z L xs, List.forall_mem_cons.mpr ⟨so_Law_law_127 l D AC b z L xs, List.forall_mem_cons.mpr ⟨so_Law_law_129 l D AC b z L xs, List.forall_mem_cons.mpr ⟨so_Law_law_132 l D AC b z L xs, List.forall_mem_cons.mpr ⟨so_Law_law_133 l D AC b z L xs, List.forall_mem_cons.mpr ⟨so_Law_law_135 l D AC b z L xs, List.forall_mem_cons.mpr ⟨so_Law_law_137 l D AC b z L xs, List.forall_mem_cons.mpr ⟨so_Law_law_138 l D AC b z L xs, List.forall_mem_cons.mpr ⟨so_Law_law_141 l D AC b z L xs, List.forall_mem_cons.mpr ⟨so_Law_law_143 l D AC b z L xs, List.forall_mem_cons.mpr ⟨so_Law_law_145 l D AC b z L xs, List.forall_mem_cons.mpr ⟨so_Law_law_146 l D AC b z L xs, List.forall_mem_cons.mpr ⟨so_Law_law_147 l D AC b z L xs, List.forall_mem_cons.mpr ⟨so_Law_law_149 l D AC b z L xs, List.forall_mem_cons.mpr ⟨so_Law_law_150 l D AC b z L xs, List.forall_mem_cons.mpr ⟨so_Law_law_152 l D AC b z L xs, List.forall_mem_cons.mpr ⟨so_Law_law_153 l D AC b z L xs, List.forall_mem_cons.mpr ⟨so_Law_law_154 l D AC b z L xs, List.forall_mem_cons.mpr ⟨so_Law_law_156 l D AC b z L xs, List.forall_mem_cons.mpr ⟨so_Law_law_158 l D AC b z L xs, List.forall_mem_cons.mpr ⟨so_Law_law_161 l D AC b z L xs, List.forall_mem_cons.mpr ⟨so_Law_law_162 l D AC b z L xs, List.forall_mem_cons.mpr ⟨so_Law_law_165 l D AC b z L xs, List.forall_mem_cons.mpr ⟨so_Law_law_166 l D AC b z L xs, List.forall_mem_cons.mpr ⟨so_Law_law_168 l D AC b z L xs, List.forall_mem_cons.mpr ⟨so_Law_law_170 l D AC b z L xs, List.forall_mem_cons.mpr ⟨so_Law_law_171 l D AC b z L xs, List.forall_mem_cons.mpr ⟨so_Law_law_174 l D AC b z L xs, List.forall_mem_cons.mpr ⟨so_Law_law_175 l D AC b z L xs, List.forall_mem_cons.mpr ⟨so_Law_law_177 l D AC b z L xs, List.forall_mem_cons.mpr ⟨so_Law_law_179 l D AC b z L xs, List.forall_mem_cons.mpr ⟨so_Law_law_180 l D AC b z L xs, List.forall_mem_cons.mpr ⟨so_Law_law_183 l D AC b z L xs, List.forall_mem_cons.mpr ⟨so_Law_law_184 l D AC b z L xs, List.forall_mem_cons.mpr ⟨so_Law_law_186 l D AC b z L xs, List.forall_mem_cons.mpr ⟨so_Law_law_188 l D AC b z L xs, List.forall_mem_cons.mpr ⟨so_Law_law_190 l D AC b z L xs, List.forall_mem_cons.mpr ⟨so_Law_law_191 l D AC b z L xs, List.forall_mem_cons.mpr ⟨so_Law_law_194 l D AC b z L xs, List.forall_mem_cons.mpr ⟨so_Law_law_196 l D AC b z L xs, List.forall_mem_cons.mpr ⟨so_Law_law_198 l D AC b z L xs, List.forall_mem_cons.mpr ⟨so_Law_law_199 l D AC b z L xs, List.forall_mem_cons.mpr ⟨so_Law_law_201 l D AC b z L xs, List.forall_mem_cons.mpr ⟨so_Law_law_202 l D AC b z L xs, List.forall_mem_cons.mpr ⟨so_Law_law_204 l D AC b z L xs, List.forall_mem_cons.mpr ⟨so_Law_law_205 l D AC b z L xs, List.forall_mem_cons.mpr ⟨so_Law_law_208 l D AC b z L xs, List.forall_mem_cons.mpr ⟨so_Law_law_209 l D AC b z L xs, List.forall_mem_cons.mpr ⟨so_Law_law_210 l D AC b z L xs, List.forall_mem_cons.mpr ⟨so_Law_law_211 l D AC b z L xs, List.forall_mem_cons.mpr ⟨so_Law_law_213 l D AC b z L xs, List.forall_mem_cons.mpr ⟨so_Law_law_214 l D AC b z L xs, List.forall_mem_cons.mpr ⟨so_Law_law_216 l D AC b z L xs, List.forall_mem_cons.mpr ⟨so_Law_law_218 l D AC b z L xs, List.forall_mem_cons.mpr ⟨so_Law_law_219 l D AC b z L xs, List.forall_mem_cons.mpr ⟨so_Law_law_222 l D AC b z L xs, List.forall_mem_cons.mpr ⟨so_Law_law_225 l D AC b z L xs, List.forall_mem_cons.mpr ⟨so_Law_law_228 l D AC b z L xs, List.forall_mem_cons.mpr ⟨so_Law_law_231 l D AC b z L xs, List.forall_mem_cons.mpr ⟨so_Law_law_232 l D AC b z L xs, List.forall_mem_cons.mpr ⟨so_Law_law_233 l D AC b z L xs, List.forall_mem_cons.mpr ⟨so_Law_law_236 l D AC b z L xs, List.forall_mem_cons.mpr ⟨so_Law_law_238 l D AC b z L xs, List.forall_mem_cons.mpr ⟨so_Law_law_241 l D AC b z L xs, List.forall_mem_cons.mpr ⟨so_Law_law_242 l D AC b z L xs, List.forall_mem_cons.mpr ⟨so_Law_law_243 l D AC b z L xs, List.forall_mem_cons.mpr ⟨so_Law_law_244 l D AC b z L xs, List.forall_mem_cons.mpr ⟨so_Law_law_245 l D AC b z L xs, List.forall_mem_cons.mpr ⟨so_Law_law_248 l D AC b z L xs, List.forall_mem_cons.mpr ⟨so_Law_law_250 l D AC b z L xs, List.forall_mem_cons.mpr ⟨so_Law_law_252 l D AC b z L xs, List.forall_mem_cons.mpr ⟨so_Law_law_254 l D AC b z L xs, List.forall_mem_cons.mpr ⟨so_Law_law_255 l D AC b z L xs, List.forall_mem_cons.mpr ⟨so_Law_law_257 l D AC b z L xs, List.forall_mem_cons.mpr ⟨so_Law_law_260 l D AC b z L xs, List.forall_mem_cons.mpr ⟨so_Law_law_261 l D AC b z L xs, List.forall_mem_cons.mpr ⟨so_Law_law_262 l D AC b z L xs, List.forall_mem_cons.mpr ⟨so_Law_law_264 l D AC b z L xs, List.forall_mem_cons.mpr ⟨so_Law_law_265 l D AC b z L xs, List.forall_mem_cons.mpr ⟨so_Law_law_266 l D AC b z L xs, List.forall_mem_cons.mpr ⟨so_Law_law_267 l D AC b z L xs, List.forall_mem_cons.mpr ⟨so_Law_law_270 l D AC b z L xs, List.forall_mem_cons.mpr ⟨so_Law_law_272 l D AC b z L xs, List.forall_mem_cons.mpr ⟨so_Law_law_275 l D AC b z L xs, List.forall_mem_cons.mpr ⟨so_Law_law_278 l D AC b z L xs, List.forall_mem_cons.mpr ⟨so_Law_law_279 l D AC b z L xs, List.forall_mem_cons.mpr ⟨so_Law_law_280 l D AC b z L xs, List.forall_mem_cons.mpr ⟨so_Law_law_283 l D AC b z L xs, List.forall_mem_cons.mpr ⟨so_Law_law_286 l D AC b z L xs, List.forall_mem_cons.mpr ⟨so_Law_law_287 l D AC b z L xs, fun _ h => absurd h List.not_mem_nil⟩⟩⟩⟩⟩⟩⟩⟩⟩⟩⟩⟩⟩⟩⟩⟩⟩⟩⟩⟩⟩⟩⟩⟩⟩⟩⟩⟩⟩⟩⟩⟩⟩⟩⟩⟩⟩⟩⟩⟩⟩⟩⟩⟩⟩⟩⟩⟩⟩⟩⟩⟩⟩⟩⟩⟩⟩⟩⟩⟩⟩⟩⟩⟩⟩⟩⟩⟩⟩⟩⟩⟩⟩⟩⟩⟩⟩⟩⟩⟩⟩⟩⟩⟩⟩⟩⟩⟩⟩⟩⟩⟩⟩⟩⟩⟩⟩⟩⟩⟩⟩⟩⟩⟩⟩⟩⟩⟩⟩⟩⟩⟩⟩⟩⟩⟩⟩⟩⟩⟩⟩⟩⟩⟩⟩⟩⟩⟩⟩⟩⟩⟩⟩⟩⟩⟩⟩⟩⟩⟩⟩⟩⟩⟩⟩⟩⟩⟩⟩⟩⟩⟩⟩⟩⟩⟩⟩⟩⟩⟩⟩⟩⟩⟩
theorem so_Law_act_0 : Snd l D AC b z L xs Gm j_Law_act 0 (oIld 1 1) := sn_iload_n l D AC b z L xs Gm  dL_act_0 rfl
theorem so_Law_act_1 : Snd l D AC b z L xs Gm j_Law_act 1 (oIld 3 2) := sn_iload_n l D AC b z L xs Gm  dL_act_1 rfl
theorem so_Law_act_2 : Snd l D AC b z L xs Gm j_Law_act 2 (oCallS j_Law_below 2 (mL j_Law_below) 5) := sn_callS l D AC b z L xs Gm  dL_act_2 rfl (hs0_Law_act (by decide)) cal_Law_act_Law_below rfl tw_562 tw_563
theorem so_Law_act_5 : Snd l D AC b z L xs Gm j_Law_act 5 (oIst 4 7) := sn_istore l D AC b z L xs Gm  dL_act_5 (by decide)
theorem so_Law_act_7 : Snd l D AC b z L xs Gm j_Law_act 7 (oIld 2 8) := sn_iload_n l D AC b z L xs Gm  dL_act_7 rfl
theorem so_Law_act_8 : Snd l D AC b z L xs Gm j_Law_act 8 (oTsw 0 [56, 56, 56, 82, 108, 143, 158, 191] 207) := sn_tsw l D AC b z L xs Gm  dL_act_8 (by decide) (by decide) (by decide)
theorem so_Law_act_56 : Snd l D AC b z L xs Gm j_Law_act 56 (oAld 0 57) := sn_aload_n l D AC b z L xs Gm  dL_act_56 rfl
theorem so_Law_act_57 : Snd l D AC b z L xs Gm j_Law_act 57 (oIld 4 59) := sn_iload l D AC b z L xs Gm  dL_act_57
theorem so_Law_act_59 : Snd l D AC b z L xs Gm j_Law_act 59 (oIld 1 60) := sn_iload_n l D AC b z L xs Gm  dL_act_59 rfl
theorem so_Law_act_60 : Snd l D AC b z L xs Gm j_Law_act 60 (oI 3 61) := sn_iconst l D AC b z L xs Gm  dL_act_60 (by decide)
theorem so_Law_act_61 : Snd l D AC b z L xs Gm j_Law_act 61 (oII (fun x y => x >>> (y &&& 31)) 62) := sn_ishr l D AC b z L xs Gm  dL_act_61
theorem so_Law_act_62 : Snd l D AC b z L xs Gm j_Law_act 62 (oIld 3 63) := sn_iload_n l D AC b z L xs Gm  dL_act_62 rfl
theorem so_Law_act_63 : Snd l D AC b z L xs Gm j_Law_act 63 (oCallS j_Law_below 2 (mL j_Law_below) 66) := sn_callS l D AC b z L xs Gm  dL_act_63 rfl (hs_Law_act (by decide) (by decide)) cal_Law_act_Law_below rfl tw_562 tw_563
theorem so_Law_act_66 : Snd l D AC b z L xs Gm j_Law_act 66 (oI 1 67) := sn_iconst l D AC b z L xs Gm  dL_act_66 (by decide)
theorem so_Law_act_67 : Snd l D AC b z L xs Gm j_Law_act 67 (oIld 1 68) := sn_iload_n l D AC b z L xs Gm  dL_act_67 rfl
theorem so_Law_act_68 : Snd l D AC b z L xs Gm j_Law_act 68 (oI 5 69) := sn_iconst l D AC b z L xs Gm  dL_act_68 (by decide)
theorem so_Law_act_69 : Snd l D AC b z L xs Gm j_Law_act 69 (oII (fun x y => x >>> (y &&& 31)) 70) := sn_ishr l D AC b z L xs Gm  dL_act_69
theorem so_Law_act_70 : Snd l D AC b z L xs Gm j_Law_act 70 (oI 3 71) := sn_iconst l D AC b z L xs Gm  dL_act_70 (by decide)
theorem so_Law_act_71 : Snd l D AC b z L xs Gm j_Law_act 71 (oCallS j_Law_below 2 (mL j_Law_below) 74) := sn_callS l D AC b z L xs Gm  dL_act_71 rfl (hs_Law_act (by decide) (by decide)) cal_Law_act_Law_below rfl tw_562 tw_563
theorem so_Law_act_74 : Snd l D AC b z L xs Gm j_Law_act 74 (oII (fun x y => x + y) 75) := sn_iadd l D AC b z L xs Gm  dL_act_74
theorem so_Law_act_75 : Snd l D AC b z L xs Gm j_Law_act 75 (oCallV kc_S j_S_send 3 (mL j_S_send) 78) := sn_callV l D AC b z L xs Gm  dL_act_75 rfl (hs_Law_act (by decide) (by decide)) cal_Law_act_S_send rfl rfl (by decide) rfl tw_576 tw_577 tw_578
theorem so_Law_act_78 : Snd l D AC b z L xs Gm j_Law_act 78 (oPop 79) := sn_pop l D AC b z L xs Gm  dL_act_78
theorem so_Law_act_79 : Snd l D AC b z L xs Gm j_Law_act 79 (oGo 222) := sn_goto l D AC b z L xs Gm  dL_act_79 (by decide)
theorem so_Law_act_82 : Snd l D AC b z L xs Gm j_Law_act 82 (oAld 0 83) := sn_aload_n l D AC b z L xs Gm  dL_act_82 rfl
theorem so_Law_act_83 : Snd l D AC b z L xs Gm j_Law_act 83 (oIld 4 85) := sn_iload l D AC b z L xs Gm  dL_act_83
theorem so_Law_act_85 : Snd l D AC b z L xs Gm j_Law_act 85 (oIld 1 86) := sn_iload_n l D AC b z L xs Gm  dL_act_85 rfl
theorem so_Law_act_86 : Snd l D AC b z L xs Gm j_Law_act 86 (oI 2 87) := sn_iconst l D AC b z L xs Gm  dL_act_86 (by decide)
theorem so_Law_act_87 : Snd l D AC b z L xs Gm j_Law_act 87 (oII (fun x y => x >>> (y &&& 31)) 88) := sn_ishr l D AC b z L xs Gm  dL_act_87
theorem so_Law_act_88 : Snd l D AC b z L xs Gm j_Law_act 88 (oI 20 90) := sn_bipush l D AC b z L xs Gm  dL_act_88 (by decide)
theorem so_Law_act_90 : Snd l D AC b z L xs Gm j_Law_act 90 (oCallS j_Law_below 2 (mL j_Law_below) 93) := sn_callS l D AC b z L xs Gm  dL_act_90 rfl (hs_Law_act (by decide) (by decide)) cal_Law_act_Law_below rfl tw_562 tw_563
theorem so_Law_act_93 : Snd l D AC b z L xs Gm j_Law_act 93 (oIld 1 94) := sn_iload_n l D AC b z L xs Gm  dL_act_93 rfl
theorem so_Law_act_94 : Snd l D AC b z L xs Gm j_Law_act 94 (oI 5 95) := sn_iconst l D AC b z L xs Gm  dL_act_94 (by decide)
theorem so_Law_act_95 : Snd l D AC b z L xs Gm j_Law_act 95 (oII (fun x y => x >>> (y &&& 31)) 96) := sn_ishr l D AC b z L xs Gm  dL_act_95
theorem so_Law_act_96 : Snd l D AC b z L xs Gm j_Law_act 96 (oI 20 98) := sn_bipush l D AC b z L xs Gm  dL_act_96 (by decide)
theorem so_Law_act_98 : Snd l D AC b z L xs Gm j_Law_act 98 (oCallS j_Law_below 2 (mL j_Law_below) 101) := sn_callS l D AC b z L xs Gm  dL_act_98 rfl (hs_Law_act (by decide) (by decide)) cal_Law_act_Law_below rfl tw_562 tw_563
theorem so_Law_act_101 : Snd l D AC b z L xs Gm j_Law_act 101 (oCallV kc_S j_S_move 3 (mL j_S_move) 104) := sn_callV l D AC b z L xs Gm  dL_act_101 rfl (hs_Law_act (by decide) (by decide)) cal_Law_act_S_move rfl rfl (by decide) rfl tw_586 tw_587 tw_588
theorem so_Law_act_104 : Snd l D AC b z L xs Gm j_Law_act 104 (oPop 105) := sn_pop l D AC b z L xs Gm  dL_act_104
theorem so_Law_act_105 : Snd l D AC b z L xs Gm j_Law_act 105 (oGo 222) := sn_goto l D AC b z L xs Gm  dL_act_105 (by decide)
theorem so_Law_act_108 : Snd l D AC b z L xs Gm j_Law_act 108 (oAld 0 109) := sn_aload_n l D AC b z L xs Gm  dL_act_108 rfl
theorem so_Law_act_109 : Snd l D AC b z L xs Gm j_Law_act 109 (oIld 4 111) := sn_iload l D AC b z L xs Gm  dL_act_109
theorem so_Law_act_111 : Snd l D AC b z L xs Gm j_Law_act 111 (oI 1 112) := sn_iconst l D AC b z L xs Gm  dL_act_111 (by decide)
theorem so_Law_act_112 : Snd l D AC b z L xs Gm j_Law_act 112 (oIld 1 113) := sn_iload_n l D AC b z L xs Gm  dL_act_112 rfl
theorem so_Law_act_113 : Snd l D AC b z L xs Gm j_Law_act 113 (oI 3 114) := sn_iconst l D AC b z L xs Gm  dL_act_113 (by decide)
theorem so_Law_act_114 : Snd l D AC b z L xs Gm j_Law_act 114 (oII (fun x y => x >>> (y &&& 31)) 115) := sn_ishr l D AC b z L xs Gm  dL_act_114
theorem so_Law_act_115 : Snd l D AC b z L xs Gm j_Law_act 115 (oI 25 117) := sn_bipush l D AC b z L xs Gm  dL_act_115 (by decide)
theorem so_Law_act_117 : Snd l D AC b z L xs Gm j_Law_act 117 (oCallS j_Law_below 2 (mL j_Law_below) 120) := sn_callS l D AC b z L xs Gm  dL_act_117 rfl (hs_Law_act (by decide) (by decide)) cal_Law_act_Law_below rfl tw_562 tw_563
theorem so_Law_act_120 : Snd l D AC b z L xs Gm j_Law_act 120 (oII (fun x y => x + y) 121) := sn_iadd l D AC b z L xs Gm  dL_act_120
theorem so_Law_act_121 : Snd l D AC b z L xs Gm j_Law_act 121 (oIld 1 122) := sn_iload_n l D AC b z L xs Gm  dL_act_121 rfl
theorem so_Law_act_122 : Snd l D AC b z L xs Gm j_Law_act 122 (oI 5 123) := sn_iconst l D AC b z L xs Gm  dL_act_122 (by decide)
theorem so_Law_act_123 : Snd l D AC b z L xs Gm j_Law_act 123 (oII (fun x y => x >>> (y &&& 31)) 124) := sn_ishr l D AC b z L xs Gm  dL_act_123
theorem so_Law_act_124 : Snd l D AC b z L xs Gm j_Law_act 124 (oI 3 125) := sn_iconst l D AC b z L xs Gm  dL_act_124 (by decide)
theorem so_Law_act_125 : Snd l D AC b z L xs Gm j_Law_act 125 (oCallS j_Law_below 2 (mL j_Law_below) 128) := sn_callS l D AC b z L xs Gm  dL_act_125 rfl (hs_Law_act (by decide) (by decide)) cal_Law_act_Law_below rfl tw_562 tw_563
theorem so_Law_act_128 : Snd l D AC b z L xs Gm j_Law_act 128 (oIf (fun x => decide (¬ x = 0)) 135 131) := sn_if_ne l D AC b z L xs Gm  dL_act_128 (by decide)
theorem so_Law_act_131 : Snd l D AC b z L xs Gm j_Law_act 131 (oI 1 132) := sn_iconst l D AC b z L xs Gm  dL_act_131 (by decide)
theorem so_Law_act_132 : Snd l D AC b z L xs Gm j_Law_act 132 (oGo 136) := sn_goto l D AC b z L xs Gm  dL_act_132 (by decide)
theorem so_Law_act_135 : Snd l D AC b z L xs Gm j_Law_act 135 (oI 0 136) := sn_iconst l D AC b z L xs Gm  dL_act_135 (by decide)
theorem so_Law_act_136 : Snd l D AC b z L xs Gm j_Law_act 136 (oCallV kc_S j_S_tune 3 (mL j_S_tune) 139) := sn_callV l D AC b z L xs Gm  dL_act_136 rfl (hs_Law_act (by decide) (by decide)) cal_Law_act_S_tune rfl rfl (by decide) rfl tw_601 tw_602 tw_603
theorem so_Law_act_139 : Snd l D AC b z L xs Gm j_Law_act 139 (oPop 140) := sn_pop l D AC b z L xs Gm  dL_act_139
theorem so_Law_act_140 : Snd l D AC b z L xs Gm j_Law_act 140 (oGo 222) := sn_goto l D AC b z L xs Gm  dL_act_140 (by decide)
theorem so_Law_act_143 : Snd l D AC b z L xs Gm j_Law_act 143 (oAld 0 144) := sn_aload_n l D AC b z L xs Gm  dL_act_143 rfl
theorem so_Law_act_144 : Snd l D AC b z L xs Gm j_Law_act 144 (oI 1 145) := sn_iconst l D AC b z L xs Gm  dL_act_144 (by decide)
theorem so_Law_act_145 : Snd l D AC b z L xs Gm j_Law_act 145 (oIld 1 146) := sn_iload_n l D AC b z L xs Gm  dL_act_145 rfl
theorem so_Law_act_146 : Snd l D AC b z L xs Gm j_Law_act 146 (oI 3 147) := sn_iconst l D AC b z L xs Gm  dL_act_146 (by decide)
theorem so_Law_act_147 : Snd l D AC b z L xs Gm j_Law_act 147 (oCallS j_Law_below 2 (mL j_Law_below) 150) := sn_callS l D AC b z L xs Gm  dL_act_147 rfl (hs_Law_act (by decide) (by decide)) cal_Law_act_Law_below rfl tw_562 tw_563
theorem so_Law_act_150 : Snd l D AC b z L xs Gm j_Law_act 150 (oII (fun x y => x + y) 151) := sn_iadd l D AC b z L xs Gm  dL_act_150
theorem so_Law_act_151 : Snd l D AC b z L xs Gm j_Law_act 151 (oCallV kc_S j_S_exchange 1 (mL j_S_exchange) 154) := sn_callV l D AC b z L xs Gm  dL_act_151 rfl (hs_Law_act (by decide) (by decide)) cal_Law_act_S_exchange rfl rfl (by decide) rfl tw_449 tw_450 tw_451
theorem so_Law_act_154 : Snd l D AC b z L xs Gm j_Law_act 154 (oPop 155) := sn_pop l D AC b z L xs Gm  dL_act_154
theorem so_Law_act_155 : Snd l D AC b z L xs Gm j_Law_act 155 (oGo 222) := sn_goto l D AC b z L xs Gm  dL_act_155 (by decide)
theorem so_Law_act_158 : Snd l D AC b z L xs Gm j_Law_act 158 (oAld 0 159) := sn_aload_n l D AC b z L xs Gm  dL_act_158 rfl
theorem so_Law_act_159 : Snd l D AC b z L xs Gm j_Law_act 159 (oIld 1 160) := sn_iload_n l D AC b z L xs Gm  dL_act_159 rfl
theorem so_Law_act_160 : Snd l D AC b z L xs Gm j_Law_act 160 (oI 5 161) := sn_iconst l D AC b z L xs Gm  dL_act_160 (by decide)
theorem so_Law_act_161 : Snd l D AC b z L xs Gm j_Law_act 161 (oCallS j_Law_below 2 (mL j_Law_below) 164) := sn_callS l D AC b z L xs Gm  dL_act_161 rfl (hs_Law_act (by decide) (by decide)) cal_Law_act_Law_below rfl tw_562 tw_563
theorem so_Law_act_164 : Snd l D AC b z L xs Gm j_Law_act 164 (oI 1 165) := sn_iconst l D AC b z L xs Gm  dL_act_164 (by decide)
theorem so_Law_act_165 : Snd l D AC b z L xs Gm j_Law_act 165 (oIld 1 166) := sn_iload_n l D AC b z L xs Gm  dL_act_165 rfl
theorem so_Law_act_166 : Snd l D AC b z L xs Gm j_Law_act 166 (oI 2 167) := sn_iconst l D AC b z L xs Gm  dL_act_166 (by decide)
theorem so_Law_act_167 : Snd l D AC b z L xs Gm j_Law_act 167 (oII (fun x y => x >>> (y &&& 31)) 168) := sn_ishr l D AC b z L xs Gm  dL_act_167
theorem so_Law_act_168 : Snd l D AC b z L xs Gm j_Law_act 168 (oI 63 170) := sn_bipush l D AC b z L xs Gm  dL_act_168 (by decide)
theorem so_Law_act_170 : Snd l D AC b z L xs Gm j_Law_act 170 (oCallS j_Law_below 2 (mL j_Law_below) 173) := sn_callS l D AC b z L xs Gm  dL_act_170 rfl (hs_Law_act (by decide) (by decide)) cal_Law_act_Law_below rfl tw_562 tw_563
theorem so_Law_act_173 : Snd l D AC b z L xs Gm j_Law_act 173 (oII (fun x y => x + y) 174) := sn_iadd l D AC b z L xs Gm  dL_act_173
theorem so_Law_act_174 : Snd l D AC b z L xs Gm j_Law_act 174 (oI 1 175) := sn_iconst l D AC b z L xs Gm  dL_act_174 (by decide)
theorem so_Law_act_175 : Snd l D AC b z L xs Gm j_Law_act 175 (oIld 1 176) := sn_iload_n l D AC b z L xs Gm  dL_act_175 rfl
theorem so_Law_act_176 : Snd l D AC b z L xs Gm j_Law_act 176 (oI 4 177) := sn_iconst l D AC b z L xs Gm  dL_act_176 (by decide)
theorem so_Law_act_177 : Snd l D AC b z L xs Gm j_Law_act 177 (oII (fun x y => x >>> (y &&& 31)) 178) := sn_ishr l D AC b z L xs Gm  dL_act_177
theorem so_Law_act_178 : Snd l D AC b z L xs Gm j_Law_act 178 (oI 99 180) := sn_bipush l D AC b z L xs Gm  dL_act_178 (by decide)
theorem so_Law_act_180 : Snd l D AC b z L xs Gm j_Law_act 180 (oCallS j_Law_below 2 (mL j_Law_below) 183) := sn_callS l D AC b z L xs Gm  dL_act_180 rfl (hs_Law_act (by decide) (by decide)) cal_Law_act_Law_below rfl tw_562 tw_563
theorem so_Law_act_183 : Snd l D AC b z L xs Gm j_Law_act 183 (oII (fun x y => x + y) 184) := sn_iadd l D AC b z L xs Gm  dL_act_183
theorem so_Law_act_184 : Snd l D AC b z L xs Gm j_Law_act 184 (oCallV kc_S j_S_bid 3 (mL j_S_bid) 187) := sn_callV l D AC b z L xs Gm  dL_act_184 rfl (hs_Law_act (by decide) (by decide)) cal_Law_act_S_bid rfl rfl (by decide) rfl tw_607 tw_608 tw_609
theorem so_Law_act_187 : Snd l D AC b z L xs Gm j_Law_act 187 (oPop 188) := sn_pop l D AC b z L xs Gm  dL_act_187
theorem so_Law_act_188 : Snd l D AC b z L xs Gm j_Law_act 188 (oGo 222) := sn_goto l D AC b z L xs Gm  dL_act_188 (by decide)
theorem so_Law_act_191 : Snd l D AC b z L xs Gm j_Law_act 191 (oIld 1 192) := sn_iload_n l D AC b z L xs Gm  dL_act_191 rfl
theorem so_Law_act_192 : Snd l D AC b z L xs Gm j_Law_act 192 (oI 5 193) := sn_iconst l D AC b z L xs Gm  dL_act_192 (by decide)
theorem so_Law_act_193 : Snd l D AC b z L xs Gm j_Law_act 193 (oCallS j_Law_below 2 (mL j_Law_below) 196) := sn_callS l D AC b z L xs Gm  dL_act_193 rfl (hs_Law_act (by decide) (by decide)) cal_Law_act_Law_below rfl tw_562 tw_563
theorem so_Law_act_196 : Snd l D AC b z L xs Gm j_Law_act 196 (oIf (fun x => decide (¬ x = 0)) 222 199) := sn_if_ne l D AC b z L xs Gm  dL_act_196 (by decide)
theorem so_Law_act_199 : Snd l D AC b z L xs Gm j_Law_act 199 (oAld 0 200) := sn_aload_n l D AC b z L xs Gm  dL_act_199 rfl
theorem so_Law_act_200 : Snd l D AC b z L xs Gm j_Law_act 200 (oCallV kc_S j_S_sell 0 (mL j_S_sell) 203) := sn_callV l D AC b z L xs Gm  dL_act_200 rfl (hs_Law_act (by decide) (by decide)) cal_Law_act_S_sell rfl rfl (by decide) rfl tw_622 tw_623 tw_624
theorem so_Law_act_203 : Snd l D AC b z L xs Gm j_Law_act 203 (oPop 204) := sn_pop l D AC b z L xs Gm  dL_act_203
theorem so_Law_act_204 : Snd l D AC b z L xs Gm j_Law_act 204 (oGo 222) := sn_goto l D AC b z L xs Gm  dL_act_204 (by decide)
theorem so_Law_act_207 : Snd l D AC b z L xs Gm j_Law_act 207 (oAld 0 208) := sn_aload_n l D AC b z L xs Gm  dL_act_207 rfl
theorem so_Law_act_208 : Snd l D AC b z L xs Gm j_Law_act 208 (oI 1 209) := sn_iconst l D AC b z L xs Gm  dL_act_208 (by decide)
theorem so_Law_act_209 : Snd l D AC b z L xs Gm j_Law_act 209 (oIld 1 210) := sn_iload_n l D AC b z L xs Gm  dL_act_209 rfl
theorem so_Law_act_210 : Snd l D AC b z L xs Gm j_Law_act 210 (oI 3 211) := sn_iconst l D AC b z L xs Gm  dL_act_210 (by decide)
theorem so_Law_act_211 : Snd l D AC b z L xs Gm j_Law_act 211 (oII (fun x y => x >>> (y &&& 31)) 212) := sn_ishr l D AC b z L xs Gm  dL_act_211
theorem so_Law_act_212 : Snd l D AC b z L xs Gm j_Law_act 212 (oI 12 214) := sn_bipush l D AC b z L xs Gm  dL_act_212 (by decide)
theorem so_Law_act_214 : Snd l D AC b z L xs Gm j_Law_act 214 (oCallS j_Law_below 2 (mL j_Law_below) 217) := sn_callS l D AC b z L xs Gm  dL_act_214 rfl (hs_Law_act (by decide) (by decide)) cal_Law_act_Law_below rfl tw_562 tw_563
theorem so_Law_act_217 : Snd l D AC b z L xs Gm j_Law_act 217 (oII (fun x y => x + y) 218) := sn_iadd l D AC b z L xs Gm  dL_act_217
theorem so_Law_act_218 : Snd l D AC b z L xs Gm j_Law_act 218 (oCallV kc_S j_S_pass 1 (mL j_S_pass) 221) := sn_callV l D AC b z L xs Gm  dL_act_218 rfl (hs_Law_act (by decide) (by decide)) cal_Law_act_S_pass rfl rfl (by decide) rfl tw_642 tw_643 tw_644
theorem so_Law_act_221 : Snd l D AC b z L xs Gm j_Law_act 221 (oPop 222) := sn_pop l D AC b z L xs Gm  dL_act_221
theorem so_Law_act_222 : Snd l D AC b z L xs Gm j_Law_act 222 (oGo 234) := sn_goto l D AC b z L xs Gm  dL_act_222 (by decide)
theorem so_Law_act_225 : Snd l D AC b z L xs Gm j_Law_act 225 (oAst 5 227) := sn_astore l D AC b z L xs Gm  dL_act_225 (by decide)
theorem so_Law_act_227 : Snd l D AC b z L xs Gm j_Law_act 227 (oRet) := sn_ret l D AC b z L xs Gm  dL_act_227 rfl
theorem so_Law_act_228 : Snd l D AC b z L xs Gm j_Law_act 228 (oAst 5 230) := sn_astore l D AC b z L xs Gm  dL_act_228 (by decide)
theorem so_Law_act_230 : Snd l D AC b z L xs Gm j_Law_act 230 (oRet) := sn_ret l D AC b z L xs Gm  dL_act_230 rfl
theorem so_Law_act_231 : Snd l D AC b z L xs Gm j_Law_act 231 (oAst 5 233) := sn_astore l D AC b z L xs Gm  dL_act_231 (by decide)
theorem so_Law_act_233 : Snd l D AC b z L xs Gm j_Law_act 233 (oRet) := sn_ret l D AC b z L xs Gm  dL_act_233 rfl
theorem so_Law_act_234 : Snd l D AC b z L xs Gm j_Law_act 234 (oRet) := sn_ret l D AC b z L xs Gm  dL_act_234 rfl
set_option maxRecDepth 100000 in
theorem so_Law_act : ∀ q ∈ tb_Law_act, Snd l D AC b z L xs Gm j_Law_act q.1 q.2 := by
  unfold tb_Law_act
  exact List.forall_mem_cons.mpr ⟨so_Law_act_0 l D AC b z L xs, List.forall_mem_cons.mpr ⟨so_Law_act_1 l D AC b z L xs, List.forall_mem_cons.mpr ⟨so_Law_act_2 l D AC b z L xs, List.forall_mem_cons.mpr ⟨so_Law_act_5 l D AC b z L xs, List.forall_mem_cons.mpr ⟨so_Law_act_7 l D AC b z L xs, List.forall_mem_cons.mpr ⟨so_Law_act_8 l D AC b z L xs, List.forall_mem_cons.mpr ⟨so_Law_act_56 l D AC b z L xs, List.forall_mem_cons.mpr ⟨so_Law_act_57 l D AC b z L xs, List.forall_mem_cons.mpr ⟨so_Law_act_59 l D AC b z L xs, List.forall_mem_cons.mpr ⟨so_Law_act_60 l D AC b z L xs, List.forall_mem_cons.mpr ⟨so_Law_act_61 l D AC b z L xs, List.forall_mem_cons.mpr ⟨so_Law_act_62 l D AC b z L xs, List.forall_mem_cons.mpr ⟨so_Law_act_63 l D AC b z L xs, List.forall_mem_cons.mpr ⟨so_Law_act_66 l D AC b z L xs, List.forall_mem_cons.mpr ⟨so_Law_act_67 l D AC b z L xs, List.forall_mem_cons.mpr ⟨so_Law_act_68 l D AC b z L xs, List.forall_mem_cons.mpr ⟨so_Law_act_69 l D AC b z L xs, List.forall_mem_cons.mpr ⟨so_Law_act_70 l D AC b z L xs, List.forall_mem_cons.mpr ⟨so_Law_act_71 l D AC b z L xs, List.forall_mem_cons.mpr ⟨so_Law_act_74 l D AC b z L xs, List.forall_mem_cons.mpr ⟨so_Law_act_75 l D AC b z L xs, List.forall_mem_cons.mpr ⟨so_Law_act_78 l D AC b z L xs, List.forall_mem_cons.mpr ⟨so_Law_act_79 l D AC b z L xs, List.forall_mem_cons.mpr ⟨so_Law_act_82 l D AC b z L xs, List.forall_mem_cons.mpr ⟨so_Law_act_83 l D AC b z L xs, List.forall_mem_cons.mpr ⟨so_Law_act_85 l D AC b z L xs, List.forall_mem_cons.mpr ⟨so_Law_act_86 l D AC b z L xs, List.forall_mem_cons.mpr ⟨so_Law_act_87 l D AC b z L xs, List.forall_mem_cons.mpr ⟨so_Law_act_88 l D AC b z L xs, List.forall_mem_cons.mpr ⟨so_Law_act_90 l D AC b z L xs, List.forall_mem_cons.mpr ⟨so_Law_act_93 l D AC b z L xs, List.forall_mem_cons.mpr ⟨so_Law_act_94 l D AC b z L xs, List.forall_mem_cons.mpr ⟨so_Law_act_95 l D AC b z L xs, List.forall_mem_cons.mpr ⟨so_Law_act_96 l D AC b z L xs, List.forall_mem_cons.mpr ⟨so_Law_act_98 l D AC b z L xs, List.forall_mem_cons.mpr ⟨so_Law_act_101 l D AC b z L xs, List.forall_mem_cons.mpr ⟨so_Law_act_104 l D AC b z L xs, List.forall_mem_cons.mpr ⟨so_Law_act_105 l D AC b z L xs, List.forall_mem_cons.mpr ⟨so_Law_act_108 l D AC b z L xs, List.forall_mem_cons.mpr ⟨so_Law_act_109 l D AC b z L xs, List.forall_mem_cons.mpr ⟨so_Law_act_111 l D AC b z L xs, List.forall_mem_cons.mpr ⟨so_Law_act_112 l D AC b z L xs, List.forall_mem_cons.mpr ⟨so_Law_act_113 l D AC b z L xs, List.forall_mem_cons.mpr ⟨so_Law_act_114 l D AC b z L xs, List.forall_mem_cons.mpr ⟨so_Law_act_115 l D AC b z L xs, List.forall_mem_cons.mpr ⟨so_Law_act_117 l D AC b z L xs, List.forall_mem_cons.mpr ⟨so_Law_act_120 l D AC b z L xs, List.forall_mem_cons.mpr ⟨so_Law_act_121 l D AC b z L xs, List.forall_mem_cons.mpr ⟨so_Law_act_122 l D AC b z L xs, List.forall_mem_cons.mpr ⟨so_Law_act_123 l D AC b z L xs, List.forall_mem_cons.mpr ⟨so_Law_act_124 l D AC b z L xs, List.forall_mem_cons.mpr ⟨so_Law_act_125 l D AC b z L xs, List.forall_mem_cons.mpr ⟨so_Law_act_128 l D AC b z L xs, List.forall_mem_cons.mpr ⟨so_Law_act_131 l D AC b z L xs, List.forall_mem_cons.mpr ⟨so_Law_act_132 l D AC b z L xs, List.forall_mem_cons.mpr ⟨so_Law_act_135 l D AC b z L xs, List.forall_mem_cons.mpr ⟨so_Law_act_136 l D AC b z L xs, List.forall_mem_cons.mpr ⟨so_Law_act_139 l D AC b z L xs, List.forall_mem_cons.mpr ⟨so_Law_act_140 l D AC b z L xs, List.forall_mem_cons.mpr ⟨so_Law_act_143 l D AC b z L xs, List.forall_mem_cons.mpr ⟨so_Law_act_144 l D AC b z L xs, List.forall_mem_cons.mpr ⟨so_Law_act_145 l D AC b z L xs, List.forall_mem_cons.mpr ⟨so_Law_act_146 l D AC b z L xs, List.forall_mem_cons.mpr ⟨so_Law_act_147 l D AC b z L xs, List.forall_mem_cons.mpr ⟨so_Law_act_150 l D AC b z L xs, List.forall_mem_cons.mpr ⟨so_Law_act_151 l D AC b z L xs, List.forall_mem_cons.mpr ⟨so_Law_act_154 l D AC b z L xs, List.forall_mem_cons.mpr ⟨so_Law_act_155 l D AC b z L xs, List.forall_mem_cons.mpr ⟨so_Law_act_158 l D AC b z L xs, List.forall_mem_cons.mpr ⟨so_Law_act_159 l D AC b z L xs, List.forall_mem_cons.mpr ⟨so_Law_act_160 l D AC b z L xs, List.forall_mem_cons.mpr ⟨so_Law_act_161 l D AC b z L xs, List.forall_mem_cons.mpr ⟨so_Law_act_164 l D AC b z L xs, List.forall_mem_cons.mpr ⟨so_Law_act_165 l D AC b z L xs, List.forall_mem_cons.mpr ⟨so_Law_act_166 l D AC b z L xs, List.forall_mem_cons.mpr ⟨so_Law_act_167 l D AC b z L xs, List.forall_mem_cons.mpr ⟨so_Law_act_168 l D AC b z L xs, List.forall_mem_cons.mpr ⟨so_Law_act_170 l D AC b z L xs, List.forall_mem_cons.mpr ⟨so_Law_act_173 l D AC b z L xs, List.forall_mem_cons.mpr ⟨so_Law_act_174 l D AC b z L xs, List.forall_mem_cons.mpr ⟨so_Law_act_175 l D AC b z L xs, List.forall_mem_cons.mpr ⟨so_Law_act_176 l D AC b z L xs, List.forall_mem_cons.mpr ⟨so_Law_act_177 l D AC b z L xs, List.forall_mem_cons.mpr ⟨so_Law_act_178 l D AC b z L xs, List.forall_mem_cons.mpr ⟨so_Law_act_180 l D AC b z L xs, List.forall_mem_cons.mpr ⟨so_Law_act_183 l D AC b z L xs, List.forall_mem_cons.mpr ⟨so_Law_act_184 l D AC b z L xs, List.forall_mem_cons.mpr ⟨so_Law_act_187 l D AC b z L xs, List.forall_mem_cons.mpr ⟨so_Law_act_188 l D AC b z L xs, List.forall_mem_cons.mpr ⟨so_Law_act_191 l D AC b z L xs, List.forall_mem_cons.mpr ⟨so_Law_act_192 l D AC b z L xs, List.forall_mem_cons.mpr ⟨so_Law_act_193 l D AC b z L xs, List.forall_mem_cons.mpr ⟨so_Law_act_196 l D AC b z L xs, List.forall_mem_cons.mpr ⟨so_Law_act_199 l D AC b z L xs, List.forall_mem_cons.mpr ⟨so_Law_act_200 l D AC b z L xs, List.forall_mem_cons.mpr ⟨so_Law_act_203 l D AC b z L xs, List.forall_mem_cons.mpr ⟨so_Law_act_204 l D AC b z L xs, List.forall_mem_cons.mpr ⟨so_Law_act_207 l D AC b z L xs, List.forall_mem_cons.mpr ⟨so_Law_act_208 l D AC b z L xs, List.forall_mem_cons.mpr ⟨so_Law_act_209 l D AC b z L xs, List.forall_mem_cons.mpr ⟨so_Law_act_210 l D AC b z L xs, List.forall_mem_cons.mpr ⟨so_Law_act_211 l D AC b z L xs, List.forall_mem_cons.mpr ⟨so_Law_act_212 l D AC b z L xs, List.forall_mem_cons.mpr ⟨so_Law_act_214 l D AC b z L xs, List.forall_mem_cons.mpr ⟨so_Law_act_217 l D AC b z L xs, List.forall_mem_cons.mpr ⟨so_Law_act_218 l D AC b z L xs, List.forall_mem_cons.mpr ⟨so_Law_act_221 l D AC b z L xs, List.forall_mem_cons.mpr ⟨so_Law_act_222 l D AC b z L xs, List.forall_mem_cons.mpr ⟨so_Law_act_225 l D AC b z L xs, List.forall_mem_cons.mpr ⟨so_Law_act_227 l D AC b z L xs, List.forall_mem_cons.mpr ⟨so_Law_act_228 l D AC b z L xs, List.forall_mem_cons.mpr ⟨so_Law_act_230 l D AC b z L xs, List.forall_mem_cons.mpr ⟨so_Law_act_231 l D AC b z L xs, List.forall_mem_cons.mpr ⟨so_Law_act_233 l D AC b z L xs, List.forall_mem_cons.mpr ⟨so_Law_act_234 l D AC b z L xs, fun _ h => absurd h List.not_mem_nil⟩⟩⟩⟩⟩⟩⟩⟩⟩⟩⟩⟩⟩⟩⟩⟩⟩⟩⟩⟩⟩⟩⟩⟩⟩⟩⟩⟩⟩⟩⟩⟩⟩⟩⟩⟩⟩⟩⟩⟩⟩⟩⟩⟩⟩⟩⟩⟩⟩⟩⟩⟩⟩⟩⟩⟩⟩⟩⟩⟩⟩⟩⟩⟩⟩⟩⟩⟩⟩⟩⟩⟩⟩⟩⟩⟩⟩⟩⟩⟩⟩⟩⟩⟩⟩⟩⟩⟩⟩⟩⟩⟩⟩⟩⟩⟩⟩⟩⟩⟩⟩⟩⟩⟩⟩⟩⟩⟩⟩⟩⟩⟩⟩⟩⟩
theorem so_Law_isAsked_0 : Snd l D AC b z L xs Gm j_Law_isAsked 0 (oAld 0 1) := sn_aload_n l D AC b z L xs Gm  dL_isAsked_0 rfl
theorem so_Law_isAsked_1 : Snd l D AC b z L xs Gm j_Law_isAsked 1 (oCallV kc_S j_S_digest 0 (mL j_S_digest) 4) := sn_callV l D AC b z L xs Gm  dL_isAsked_1 rfl (hs0 (fun _ => rfl) rfl) cal_Law_isAsked_S_digest rfl rfl (by decide) rfl tw_732 tw_733 tw_734
theorem so_Law_isAsked_4 : Snd l D AC b z L xs Gm j_Law_isAsked 4 (oLst 4 6) := sn_lstore l D AC b z L xs Gm  dL_isAsked_4 (by decide)
theorem so_Law_isAsked_6 : Snd l D AC b z L xs Gm j_Law_isAsked 6 (oAld 0 7) := sn_aload_n l D AC b z L xs Gm  dL_isAsked_6 rfl
theorem so_Law_isAsked_7 : Snd l D AC b z L xs Gm j_Law_isAsked 7 (oCallV kc_S j_S_isSound 0 (mL j_S_isSound) 10) := sn_callV l D AC b z L xs Gm  dL_isAsked_7 rfl (hs0 (fun _ => rfl) rfl) cal_Law_isAsked_S_isSound rfl rfl (by decide) rfl tw_829 tw_802 tw_803
theorem so_Law_isAsked_10 : Snd l D AC b z L xs Gm j_Law_isAsked 10 (oIf (fun x => decide (x = 0)) 22 13) := sn_if_eq l D AC b z L xs Gm  dL_isAsked_10 (by decide)
theorem so_Law_isAsked_13 : Snd l D AC b z L xs Gm j_Law_isAsked 13 (oAld 0 14) := sn_aload_n l D AC b z L xs Gm  dL_isAsked_13 rfl
theorem so_Law_isAsked_14 : Snd l D AC b z L xs Gm j_Law_isAsked 14 (oCallV kc_S j_S_fairness 0 (mL j_S_fairness) 17) := sn_callV l D AC b z L xs Gm  dL_isAsked_14 rfl (hs0 (fun _ => rfl) rfl) cal_Law_isAsked_S_fairness rfl rfl (by decide) rfl tw_830 tw_775 tw_776
theorem so_Law_isAsked_17 : Snd l D AC b z L xs Gm j_Law_isAsked 17 (oF FP.dconst1 18) := sn_dconst1 l D AC b z L xs Gm  dL_isAsked_17
theorem so_Law_isAsked_18 : Snd l D AC b z L xs Gm j_Law_isAsked 18 (oDcmp .l 19) := sn_dcmp l D AC b z L xs Gm  dL_isAsked_18
theorem so_Law_isAsked_19 : Snd l D AC b z L xs Gm j_Law_isAsked 19 (oIf (fun x => decide (x ≤ 0)) 24 22) := sn_if_le l D AC b z L xs Gm  dL_isAsked_19 (by decide)
theorem so_Law_isAsked_22 : Snd l D AC b z L xs Gm j_Law_isAsked 22 (oI 0 23) := sn_iconst l D AC b z L xs Gm  dL_isAsked_22 (by decide)
theorem so_Law_isAsked_23 : Snd l D AC b z L xs Gm j_Law_isAsked 23 (oRetZ) := sn_retZ l D AC b z L xs Gm  dL_isAsked_23 rfl
theorem so_Law_isAsked_24 : Snd l D AC b z L xs Gm j_Law_isAsked 24 (oI 0 25) := sn_iconst l D AC b z L xs Gm  dL_isAsked_24 (by decide)
theorem so_Law_isAsked_25 : Snd l D AC b z L xs Gm j_Law_isAsked 25 (oIst 6 27) := sn_istore l D AC b z L xs Gm  dL_isAsked_25 (by decide)
theorem so_Law_isAsked_27 : Snd l D AC b z L xs Gm j_Law_isAsked 27 (oI 0 28) := sn_iconst l D AC b z L xs Gm  dL_isAsked_27 (by decide)
theorem so_Law_isAsked_28 : Snd l D AC b z L xs Gm j_Law_isAsked 28 (oIst 7 30) := sn_istore l D AC b z L xs Gm  dL_isAsked_28 (by decide)
theorem so_Law_isAsked_30 : Snd l D AC b z L xs Gm j_Law_isAsked 30 (oIld 7 32) := sn_iload l D AC b z L xs Gm  dL_isAsked_30
theorem so_Law_isAsked_32 : Snd l D AC b z L xs Gm j_Law_isAsked 32 (oIld 1 33) := sn_iload_n l D AC b z L xs Gm  dL_isAsked_32 rfl
theorem so_Law_isAsked_33 : Snd l D AC b z L xs Gm j_Law_isAsked 33 (oIC (fun x y => decide (y ≤ x)) 207 36) := sn_icmp_ge l D AC b z L xs Gm  dL_isAsked_33 (by decide)
theorem so_Law_isAsked_36 : Snd l D AC b z L xs Gm j_Law_isAsked 36 (oI 0 37) := sn_iconst l D AC b z L xs Gm  dL_isAsked_36 (by decide)
theorem so_Law_isAsked_37 : Snd l D AC b z L xs Gm j_Law_isAsked 37 (oIst 8 39) := sn_istore l D AC b z L xs Gm  dL_isAsked_37 (by decide)
theorem so_Law_isAsked_39 : Snd l D AC b z L xs Gm j_Law_isAsked 39 (oIld 8 41) := sn_iload l D AC b z L xs Gm  dL_isAsked_39
theorem so_Law_isAsked_41 : Snd l D AC b z L xs Gm j_Law_isAsked 41 (oAld 0 42) := sn_aload_n l D AC b z L xs Gm  dL_isAsked_41 rfl
theorem so_Law_isAsked_42 : Snd l D AC b z L xs Gm j_Law_isAsked 42 (oIld 7 44) := sn_iload l D AC b z L xs Gm  dL_isAsked_42
theorem so_Law_isAsked_44 : Snd l D AC b z L xs Gm j_Law_isAsked 44 (oI 15 46) := sn_bipush l D AC b z L xs Gm  dL_isAsked_44 (by decide)
theorem so_Law_isAsked_46 : Snd l D AC b z L xs Gm j_Law_isAsked 46 (oCallV kc_S j_S_ofNode 2 (mL j_S_ofNode) 49) := sn_callV l D AC b z L xs Gm  dL_isAsked_46 rfl (hs0 (fun _ => rfl) rfl) cal_Law_isAsked_S_ofNode rfl rfl (by decide) rfl tw_485 tw_486 tw_487
theorem so_Law_isAsked_49 : Snd l D AC b z L xs Gm j_Law_isAsked 49 (oIC (fun x y => decide (y ≤ x)) 79 52) := sn_icmp_ge l D AC b z L xs Gm  dL_isAsked_49 (by decide)
theorem so_Law_isAsked_52 : Snd l D AC b z L xs Gm j_Law_isAsked 52 (oIld 6 54) := sn_iload l D AC b z L xs Gm  dL_isAsked_52
theorem so_Law_isAsked_54 : Snd l D AC b z L xs Gm j_Law_isAsked 54 (oAld 0 55) := sn_aload_n l D AC b z L xs Gm  dL_isAsked_54 rfl
theorem so_Law_isAsked_55 : Snd l D AC b z L xs Gm j_Law_isAsked 55 (oIld 7 57) := sn_iload l D AC b z L xs Gm  dL_isAsked_55
theorem so_Law_isAsked_57 : Snd l D AC b z L xs Gm j_Law_isAsked 57 (oIld 8 59) := sn_iload l D AC b z L xs Gm  dL_isAsked_57
theorem so_Law_isAsked_59 : Snd l D AC b z L xs Gm j_Law_isAsked 59 (oCallV kc_S j_S_delivered 2 (mL j_S_delivered) 62) := sn_callV l D AC b z L xs Gm  dL_isAsked_59 rfl (hs0 (fun _ => rfl) rfl) cal_Law_isAsked_S_delivered rfl rfl (by decide) rfl tw_831 tw_832 tw_833
theorem so_Law_isAsked_62 : Snd l D AC b z L xs Gm j_Law_isAsked 62 (oIf (fun x => decide (x = 0)) 69 65) := sn_if_eq l D AC b z L xs Gm  dL_isAsked_62 (by decide)
theorem so_Law_isAsked_65 : Snd l D AC b z L xs Gm j_Law_isAsked 65 (oI 1 66) := sn_iconst l D AC b z L xs Gm  dL_isAsked_65 (by decide)
theorem so_Law_isAsked_66 : Snd l D AC b z L xs Gm j_Law_isAsked 66 (oGo 70) := sn_goto l D AC b z L xs Gm  dL_isAsked_66 (by decide)
theorem so_Law_isAsked_69 : Snd l D AC b z L xs Gm j_Law_isAsked 69 (oI 0 70) := sn_iconst l D AC b z L xs Gm  dL_isAsked_69 (by decide)
theorem so_Law_isAsked_70 : Snd l D AC b z L xs Gm j_Law_isAsked 70 (oII (fun x y => x + y) 71) := sn_iadd l D AC b z L xs Gm  dL_isAsked_70
theorem so_Law_isAsked_71 : Snd l D AC b z L xs Gm j_Law_isAsked 71 (oIst 6 73) := sn_istore l D AC b z L xs Gm  dL_isAsked_71 (by decide)
theorem so_Law_isAsked_73 : Snd l D AC b z L xs Gm j_Law_isAsked 73 (oInc 8 1 76) := sn_iinc l D AC b z L xs Gm  dL_isAsked_73 (by decide) (by decide)
theorem so_Law_isAsked_76 : Snd l D AC b z L xs Gm j_Law_isAsked 76 (oGo 39) := sn_goto l D AC b z L xs Gm  dL_isAsked_76 (by decide)
theorem so_Law_isAsked_79 : Snd l D AC b z L xs Gm j_Law_isAsked 79 (oIld 7 81) := sn_iload l D AC b z L xs Gm  dL_isAsked_79
theorem so_Law_isAsked_81 : Snd l D AC b z L xs Gm j_Law_isAsked 81 (oIld 2 82) := sn_iload_n l D AC b z L xs Gm  dL_isAsked_81 rfl
theorem so_Law_isAsked_82 : Snd l D AC b z L xs Gm j_Law_isAsked 82 (oIC (fun x y => decide (x = y)) 181 85) := sn_icmp_eq l D AC b z L xs Gm  dL_isAsked_82 (by decide)
theorem so_Law_isAsked_85 : Snd l D AC b z L xs Gm j_Law_isAsked 85 (oAld 0 86) := sn_aload_n l D AC b z L xs Gm  dL_isAsked_85 rfl
theorem so_Law_isAsked_86 : Snd l D AC b z L xs Gm j_Law_isAsked 86 (oIld 7 88) := sn_iload l D AC b z L xs Gm  dL_isAsked_86
theorem so_Law_isAsked_88 : Snd l D AC b z L xs Gm j_Law_isAsked 88 (oI 14 90) := sn_bipush l D AC b z L xs Gm  dL_isAsked_88 (by decide)
theorem so_Law_isAsked_90 : Snd l D AC b z L xs Gm j_Law_isAsked 90 (oCallV kc_S j_S_ofNode 2 (mL j_S_ofNode) 93) := sn_callV l D AC b z L xs Gm  dL_isAsked_90 rfl (hs0 (fun _ => rfl) rfl) cal_Law_isAsked_S_ofNode rfl rfl (by decide) rfl tw_485 tw_486 tw_487
theorem so_Law_isAsked_93 : Snd l D AC b z L xs Gm j_Law_isAsked 93 (oIld 2 94) := sn_iload_n l D AC b z L xs Gm  dL_isAsked_93 rfl
theorem so_Law_isAsked_94 : Snd l D AC b z L xs Gm j_Law_isAsked 94 (oII (fun x y => x >>> (y &&& 31)) 95) := sn_ishr l D AC b z L xs Gm  dL_isAsked_94
theorem so_Law_isAsked_95 : Snd l D AC b z L xs Gm j_Law_isAsked 95 (oI 1 96) := sn_iconst l D AC b z L xs Gm  dL_isAsked_95 (by decide)
theorem so_Law_isAsked_96 : Snd l D AC b z L xs Gm j_Law_isAsked 96 (oII (fun x y => x &&& y) 97) := sn_iand l D AC b z L xs Gm  dL_isAsked_96
theorem so_Law_isAsked_97 : Snd l D AC b z L xs Gm j_Law_isAsked 97 (oI 1 98) := sn_iconst l D AC b z L xs Gm  dL_isAsked_97 (by decide)
theorem so_Law_isAsked_98 : Snd l D AC b z L xs Gm j_Law_isAsked 98 (oIC (fun x y => decide (¬ x = y)) 105 101) := sn_icmp_ne l D AC b z L xs Gm  dL_isAsked_98 (by decide)
theorem so_Law_isAsked_101 : Snd l D AC b z L xs Gm j_Law_isAsked 101 (oI 1 102) := sn_iconst l D AC b z L xs Gm  dL_isAsked_101 (by decide)
theorem so_Law_isAsked_102 : Snd l D AC b z L xs Gm j_Law_isAsked 102 (oGo 106) := sn_goto l D AC b z L xs Gm  dL_isAsked_102 (by decide)
theorem so_Law_isAsked_105 : Snd l D AC b z L xs Gm j_Law_isAsked 105 (oI 0 106) := sn_iconst l D AC b z L xs Gm  dL_isAsked_105 (by decide)
theorem so_Law_isAsked_106 : Snd l D AC b z L xs Gm j_Law_isAsked 106 (oAld 0 107) := sn_aload_n l D AC b z L xs Gm  dL_isAsked_106 rfl
theorem so_Law_isAsked_107 : Snd l D AC b z L xs Gm j_Law_isAsked 107 (oIld 2 108) := sn_iload_n l D AC b z L xs Gm  dL_isAsked_107 rfl
theorem so_Law_isAsked_108 : Snd l D AC b z L xs Gm j_Law_isAsked 108 (oI 14 110) := sn_bipush l D AC b z L xs Gm  dL_isAsked_108 (by decide)
theorem so_Law_isAsked_110 : Snd l D AC b z L xs Gm j_Law_isAsked 110 (oCallV kc_S j_S_ofNode 2 (mL j_S_ofNode) 113) := sn_callV l D AC b z L xs Gm  dL_isAsked_110 rfl (hs0 (fun _ => rfl) rfl) cal_Law_isAsked_S_ofNode rfl rfl (by decide) rfl tw_485 tw_486 tw_487
theorem so_Law_isAsked_113 : Snd l D AC b z L xs Gm j_Law_isAsked 113 (oIld 7 115) := sn_iload l D AC b z L xs Gm  dL_isAsked_113
theorem so_Law_isAsked_115 : Snd l D AC b z L xs Gm j_Law_isAsked 115 (oII (fun x y => x >>> (y &&& 31)) 116) := sn_ishr l D AC b z L xs Gm  dL_isAsked_115
theorem so_Law_isAsked_116 : Snd l D AC b z L xs Gm j_Law_isAsked 116 (oI 1 117) := sn_iconst l D AC b z L xs Gm  dL_isAsked_116 (by decide)
theorem so_Law_isAsked_117 : Snd l D AC b z L xs Gm j_Law_isAsked 117 (oII (fun x y => x &&& y) 118) := sn_iand l D AC b z L xs Gm  dL_isAsked_117
theorem so_Law_isAsked_118 : Snd l D AC b z L xs Gm j_Law_isAsked 118 (oI 1 119) := sn_iconst l D AC b z L xs Gm  dL_isAsked_118 (by decide)
theorem so_Law_isAsked_119 : Snd l D AC b z L xs Gm j_Law_isAsked 119 (oIC (fun x y => decide (¬ x = y)) 126 122) := sn_icmp_ne l D AC b z L xs Gm  dL_isAsked_119 (by decide)
theorem so_Law_isAsked_122 : Snd l D AC b z L xs Gm j_Law_isAsked 122 (oI 1 123) := sn_iconst l D AC b z L xs Gm  dL_isAsked_122 (by decide)
theorem so_Law_isAsked_123 : Snd l D AC b z L xs Gm j_Law_isAsked 123 (oGo 127) := sn_goto l D AC b z L xs Gm  dL_isAsked_123 (by decide)
theorem so_Law_isAsked_126 : Snd l D AC b z L xs Gm j_Law_isAsked 126 (oI 0 127) := sn_iconst l D AC b z L xs Gm  dL_isAsked_126 (by decide)
theorem so_Law_isAsked_127 : Snd l D AC b z L xs Gm j_Law_isAsked 127 (oIC (fun x y => decide (¬ x = y)) 179 130) := sn_icmp_ne l D AC b z L xs Gm  dL_isAsked_127 (by decide)
theorem so_Law_isAsked_130 : Snd l D AC b z L xs Gm j_Law_isAsked 130 (oAld 0 131) := sn_aload_n l D AC b z L xs Gm  dL_isAsked_130 rfl
theorem so_Law_isAsked_131 : Snd l D AC b z L xs Gm j_Law_isAsked 131 (oIld 7 133) := sn_iload l D AC b z L xs Gm  dL_isAsked_131
theorem so_Law_isAsked_133 : Snd l D AC b z L xs Gm j_Law_isAsked 133 (oI 14 135) := sn_bipush l D AC b z L xs Gm  dL_isAsked_133 (by decide)
theorem so_Law_isAsked_135 : Snd l D AC b z L xs Gm j_Law_isAsked 135 (oCallV kc_S j_S_ofNode 2 (mL j_S_ofNode) 138) := sn_callV l D AC b z L xs Gm  dL_isAsked_135 rfl (hs0 (fun _ => rfl) rfl) cal_Law_isAsked_S_ofNode rfl rfl (by decide) rfl tw_485 tw_486 tw_487
theorem so_Law_isAsked_138 : Snd l D AC b z L xs Gm j_Law_isAsked 138 (oIld 2 139) := sn_iload_n l D AC b z L xs Gm  dL_isAsked_138 rfl
theorem so_Law_isAsked_139 : Snd l D AC b z L xs Gm j_Law_isAsked 139 (oII (fun x y => x >>> (y &&& 31)) 140) := sn_ishr l D AC b z L xs Gm  dL_isAsked_139
theorem so_Law_isAsked_140 : Snd l D AC b z L xs Gm j_Law_isAsked 140 (oI 1 141) := sn_iconst l D AC b z L xs Gm  dL_isAsked_140 (by decide)
theorem so_Law_isAsked_141 : Snd l D AC b z L xs Gm j_Law_isAsked 141 (oII (fun x y => x &&& y) 142) := sn_iand l D AC b z L xs Gm  dL_isAsked_141
theorem so_Law_isAsked_142 : Snd l D AC b z L xs Gm j_Law_isAsked 142 (oI 1 143) := sn_iconst l D AC b z L xs Gm  dL_isAsked_142 (by decide)
theorem so_Law_isAsked_143 : Snd l D AC b z L xs Gm j_Law_isAsked 143 (oIC (fun x y => decide (¬ x = y)) 150 146) := sn_icmp_ne l D AC b z L xs Gm  dL_isAsked_143 (by decide)
theorem so_Law_isAsked_146 : Snd l D AC b z L xs Gm j_Law_isAsked 146 (oI 1 147) := sn_iconst l D AC b z L xs Gm  dL_isAsked_146 (by decide)
theorem so_Law_isAsked_147 : Snd l D AC b z L xs Gm j_Law_isAsked 147 (oGo 151) := sn_goto l D AC b z L xs Gm  dL_isAsked_147 (by decide)
theorem so_Law_isAsked_150 : Snd l D AC b z L xs Gm j_Law_isAsked 150 (oI 0 151) := sn_iconst l D AC b z L xs Gm  dL_isAsked_150 (by decide)
theorem so_Law_isAsked_151 : Snd l D AC b z L xs Gm j_Law_isAsked 151 (oAld 0 152) := sn_aload_n l D AC b z L xs Gm  dL_isAsked_151 rfl
theorem so_Law_isAsked_152 : Snd l D AC b z L xs Gm j_Law_isAsked 152 (oIld 7 154) := sn_iload l D AC b z L xs Gm  dL_isAsked_152
theorem so_Law_isAsked_154 : Snd l D AC b z L xs Gm j_Law_isAsked 154 (oIld 2 155) := sn_iload_n l D AC b z L xs Gm  dL_isAsked_154 rfl
theorem so_Law_isAsked_155 : Snd l D AC b z L xs Gm j_Law_isAsked 155 (oCallV kc_S j_S_hears 2 (mL j_S_hears) 158) := sn_callV l D AC b z L xs Gm  dL_isAsked_155 rfl (hs0 (fun _ => rfl) rfl) cal_Law_isAsked_S_hears rfl rfl (by decide) rfl tw_837 tw_838 tw_839
theorem so_Law_isAsked_158 : Snd l D AC b z L xs Gm j_Law_isAsked 158 (oIf (fun x => decide (x = 0)) 175 161) := sn_if_eq l D AC b z L xs Gm  dL_isAsked_158 (by decide)
theorem so_Law_isAsked_161 : Snd l D AC b z L xs Gm j_Law_isAsked 161 (oAld 0 162) := sn_aload_n l D AC b z L xs Gm  dL_isAsked_161 rfl
theorem so_Law_isAsked_162 : Snd l D AC b z L xs Gm j_Law_isAsked 162 (oIld 2 163) := sn_iload_n l D AC b z L xs Gm  dL_isAsked_162 rfl
theorem so_Law_isAsked_163 : Snd l D AC b z L xs Gm j_Law_isAsked 163 (oIld 7 165) := sn_iload l D AC b z L xs Gm  dL_isAsked_163
theorem so_Law_isAsked_165 : Snd l D AC b z L xs Gm j_Law_isAsked 165 (oCallV kc_S j_S_hears 2 (mL j_S_hears) 168) := sn_callV l D AC b z L xs Gm  dL_isAsked_165 rfl (hs0 (fun _ => rfl) rfl) cal_Law_isAsked_S_hears rfl rfl (by decide) rfl tw_837 tw_838 tw_839
theorem so_Law_isAsked_168 : Snd l D AC b z L xs Gm j_Law_isAsked 168 (oIf (fun x => decide (x = 0)) 175 171) := sn_if_eq l D AC b z L xs Gm  dL_isAsked_168 (by decide)
theorem so_Law_isAsked_171 : Snd l D AC b z L xs Gm j_Law_isAsked 171 (oI 1 172) := sn_iconst l D AC b z L xs Gm  dL_isAsked_171 (by decide)
theorem so_Law_isAsked_172 : Snd l D AC b z L xs Gm j_Law_isAsked 172 (oGo 176) := sn_goto l D AC b z L xs Gm  dL_isAsked_172 (by decide)
theorem so_Law_isAsked_175 : Snd l D AC b z L xs Gm j_Law_isAsked 175 (oI 0 176) := sn_iconst l D AC b z L xs Gm  dL_isAsked_175 (by decide)
theorem so_Law_isAsked_176 : Snd l D AC b z L xs Gm j_Law_isAsked 176 (oIC (fun x y => decide (x = y)) 181 179) := sn_icmp_eq l D AC b z L xs Gm  dL_isAsked_176 (by decide)
theorem so_Law_isAsked_179 : Snd l D AC b z L xs Gm j_Law_isAsked 179 (oI 0 180) := sn_iconst l D AC b z L xs Gm  dL_isAsked_179 (by decide)
theorem so_Law_isAsked_180 : Snd l D AC b z L xs Gm j_Law_isAsked 180 (oRetZ) := sn_retZ l D AC b z L xs Gm  dL_isAsked_180 rfl
theorem so_Law_isAsked_181 : Snd l D AC b z L xs Gm j_Law_isAsked 181 (oIld 7 183) := sn_iload l D AC b z L xs Gm  dL_isAsked_181
theorem so_Law_isAsked_183 : Snd l D AC b z L xs Gm j_Law_isAsked 183 (oIld 2 184) := sn_iload_n l D AC b z L xs Gm  dL_isAsked_183 rfl
theorem so_Law_isAsked_184 : Snd l D AC b z L xs Gm j_Law_isAsked 184 (oIC (fun x y => decide (x = y)) 201 187) := sn_icmp_eq l D AC b z L xs Gm  dL_isAsked_184 (by decide)
theorem so_Law_isAsked_187 : Snd l D AC b z L xs Gm j_Law_isAsked 187 (oAld 0 188) := sn_aload_n l D AC b z L xs Gm  dL_isAsked_187 rfl
theorem so_Law_isAsked_188 : Snd l D AC b z L xs Gm j_Law_isAsked 188 (oIld 2 189) := sn_iload_n l D AC b z L xs Gm  dL_isAsked_188 rfl
theorem so_Law_isAsked_189 : Snd l D AC b z L xs Gm j_Law_isAsked 189 (oIld 7 191) := sn_iload l D AC b z L xs Gm  dL_isAsked_189
theorem so_Law_isAsked_191 : Snd l D AC b z L xs Gm j_Law_isAsked 191 (oI 2 192) := sn_iconst l D AC b z L xs Gm  dL_isAsked_191 (by decide)
theorem so_Law_isAsked_192 : Snd l D AC b z L xs Gm j_Law_isAsked 192 (oCallV kc_S j_S_route 3 (mL j_S_route) 195) := sn_callV l D AC b z L xs Gm  dL_isAsked_192 rfl (hs0 (fun _ => rfl) rfl) cal_Law_isAsked_S_route rfl rfl (by decide) rfl tw_842 tw_754 tw_755
theorem so_Law_isAsked_195 : Snd l D AC b z L xs Gm j_Law_isAsked 195 (oIld 1 196) := sn_iload_n l D AC b z L xs Gm  dL_isAsked_195 rfl
theorem so_Law_isAsked_196 : Snd l D AC b z L xs Gm j_Law_isAsked 196 (oIC (fun x y => decide (x ≤ y)) 201 199) := sn_icmp_le l D AC b z L xs Gm  dL_isAsked_196 (by decide)
theorem so_Law_isAsked_199 : Snd l D AC b z L xs Gm j_Law_isAsked 199 (oI 0 200) := sn_iconst l D AC b z L xs Gm  dL_isAsked_199 (by decide)
theorem so_Law_isAsked_200 : Snd l D AC b z L xs Gm j_Law_isAsked 200 (oRetZ) := sn_retZ l D AC b z L xs Gm  dL_isAsked_200 rfl
theorem so_Law_isAsked_201 : Snd l D AC b z L xs Gm j_Law_isAsked 201 (oInc 7 1 204) := sn_iinc l D AC b z L xs Gm  dL_isAsked_201 (by decide) (by decide)
theorem so_Law_isAsked_204 : Snd l D AC b z L xs Gm j_Law_isAsked 204 (oGo 30) := sn_goto l D AC b z L xs Gm  dL_isAsked_204 (by decide)
theorem so_Law_isAsked_207 : Snd l D AC b z L xs Gm j_Law_isAsked 207 (oIld 3 208) := sn_iload_n l D AC b z L xs Gm  dL_isAsked_207 rfl
theorem so_Law_isAsked_208 : Snd l D AC b z L xs Gm j_Law_isAsked 208 (oI 2 209) := sn_iconst l D AC b z L xs Gm  dL_isAsked_208 (by decide)
theorem so_Law_isAsked_209 : Snd l D AC b z L xs Gm j_Law_isAsked 209 (oII (fun x y => x >>> (y &&& 31)) 210) := sn_ishr l D AC b z L xs Gm  dL_isAsked_209
theorem so_Law_isAsked_210 : Snd l D AC b z L xs Gm j_Law_isAsked 210 (oI 1 211) := sn_iconst l D AC b z L xs Gm  dL_isAsked_210 (by decide)
theorem so_Law_isAsked_211 : Snd l D AC b z L xs Gm j_Law_isAsked 211 (oIld 1 212) := sn_iload_n l D AC b z L xs Gm  dL_isAsked_211 rfl
theorem so_Law_isAsked_212 : Snd l D AC b z L xs Gm j_Law_isAsked 212 (oII (fun x y => x <<< (y &&& 31)) 213) := sn_ishl l D AC b z L xs Gm  dL_isAsked_212
theorem so_Law_isAsked_213 : Snd l D AC b z L xs Gm j_Law_isAsked 213 (oCallS j_Law_below 2 (mL j_Law_below) 216) := sn_callS l D AC b z L xs Gm  dL_isAsked_213 rfl (hs0 (fun _ => rfl) rfl) cal_Law_isAsked_Law_below rfl tw_562 tw_563
theorem so_Law_isAsked_216 : Snd l D AC b z L xs Gm j_Law_isAsked 216 (oI 1 217) := sn_iconst l D AC b z L xs Gm  dL_isAsked_216 (by decide)
theorem so_Law_isAsked_217 : Snd l D AC b z L xs Gm j_Law_isAsked 217 (oIld 2 218) := sn_iload_n l D AC b z L xs Gm  dL_isAsked_217 rfl
theorem so_Law_isAsked_218 : Snd l D AC b z L xs Gm j_Law_isAsked 218 (oII (fun x y => x <<< (y &&& 31)) 219) := sn_ishl l D AC b z L xs Gm  dL_isAsked_218
theorem so_Law_isAsked_219 : Snd l D AC b z L xs Gm j_Law_isAsked 219 (oI (-1) 220) := sn_iconst l D AC b z L xs Gm  dL_isAsked_219 (by decide)
theorem so_Law_isAsked_220 : Snd l D AC b z L xs Gm j_Law_isAsked 220 (oII (fun x y => x ^^^ y) 221) := sn_ixor l D AC b z L xs Gm  dL_isAsked_220
theorem so_Law_isAsked_221 : Snd l D AC b z L xs Gm j_Law_isAsked 221 (oII (fun x y => x &&& y) 222) := sn_iand l D AC b z L xs Gm  dL_isAsked_221
theorem so_Law_isAsked_222 : Snd l D AC b z L xs Gm j_Law_isAsked 222 (oIst 7 224) := sn_istore l D AC b z L xs Gm  dL_isAsked_222 (by decide)
theorem so_Law_isAsked_224 : Snd l D AC b z L xs Gm j_Law_isAsked 224 (oAld 0 225) := sn_aload_n l D AC b z L xs Gm  dL_isAsked_224 rfl
theorem so_Law_isAsked_225 : Snd l D AC b z L xs Gm j_Law_isAsked 225 (oIld 7 227) := sn_iload l D AC b z L xs Gm  dL_isAsked_225
theorem so_Law_isAsked_227 : Snd l D AC b z L xs Gm j_Law_isAsked 227 (oIld 2 228) := sn_iload_n l D AC b z L xs Gm  dL_isAsked_227 rfl
theorem so_Law_isAsked_228 : Snd l D AC b z L xs Gm j_Law_isAsked 228 (oCallV kc_S j_S_would 2 (mL j_S_would) 231) := sn_callV l D AC b z L xs Gm  dL_isAsked_228 rfl (hs0 (fun _ => rfl) rfl) cal_Law_isAsked_S_would rfl rfl (by decide) rfl tw_843 tw_844 tw_845
theorem so_Law_isAsked_231 : Snd l D AC b z L xs Gm j_Law_isAsked 231 (oIst 8 233) := sn_istore l D AC b z L xs Gm  dL_isAsked_231 (by decide)
theorem so_Law_isAsked_233 : Snd l D AC b z L xs Gm j_Law_isAsked 233 (oIld 8 235) := sn_iload l D AC b z L xs Gm  dL_isAsked_233
theorem so_Law_isAsked_235 : Snd l D AC b z L xs Gm j_Law_isAsked 235 (oIf (fun x => decide (x < 0)) 260 238) := sn_if_lt l D AC b z L xs Gm  dL_isAsked_235 (by decide)
theorem so_Law_isAsked_238 : Snd l D AC b z L xs Gm j_Law_isAsked 238 (oIld 7 240) := sn_iload l D AC b z L xs Gm  dL_isAsked_238
theorem so_Law_isAsked_240 : Snd l D AC b z L xs Gm j_Law_isAsked 240 (oIld 8 242) := sn_iload l D AC b z L xs Gm  dL_isAsked_240
theorem so_Law_isAsked_242 : Snd l D AC b z L xs Gm j_Law_isAsked 242 (oII (fun x y => x >>> (y &&& 31)) 243) := sn_ishr l D AC b z L xs Gm  dL_isAsked_242
theorem so_Law_isAsked_243 : Snd l D AC b z L xs Gm j_Law_isAsked 243 (oI 1 244) := sn_iconst l D AC b z L xs Gm  dL_isAsked_243 (by decide)
theorem so_Law_isAsked_244 : Snd l D AC b z L xs Gm j_Law_isAsked 244 (oII (fun x y => x &&& y) 245) := sn_iand l D AC b z L xs Gm  dL_isAsked_244
theorem so_Law_isAsked_245 : Snd l D AC b z L xs Gm j_Law_isAsked 245 (oIf (fun x => decide (x = 0)) 258 248) := sn_if_eq l D AC b z L xs Gm  dL_isAsked_245 (by decide)
theorem so_Law_isAsked_248 : Snd l D AC b z L xs Gm j_Law_isAsked 248 (oAld 0 249) := sn_aload_n l D AC b z L xs Gm  dL_isAsked_248 rfl
theorem so_Law_isAsked_249 : Snd l D AC b z L xs Gm j_Law_isAsked 249 (oIld 2 250) := sn_iload_n l D AC b z L xs Gm  dL_isAsked_249 rfl
theorem so_Law_isAsked_250 : Snd l D AC b z L xs Gm j_Law_isAsked 250 (oIld 8 252) := sn_iload l D AC b z L xs Gm  dL_isAsked_250
theorem so_Law_isAsked_252 : Snd l D AC b z L xs Gm j_Law_isAsked 252 (oCallV kc_S j_S_hears 2 (mL j_S_hears) 255) := sn_callV l D AC b z L xs Gm  dL_isAsked_252 rfl (hs0 (fun _ => rfl) rfl) cal_Law_isAsked_S_hears rfl rfl (by decide) rfl tw_837 tw_838 tw_839
theorem so_Law_isAsked_255 : Snd l D AC b z L xs Gm j_Law_isAsked 255 (oIf (fun x => decide (¬ x = 0)) 260 258) := sn_if_ne l D AC b z L xs Gm  dL_isAsked_255 (by decide)
theorem so_Law_isAsked_258 : Snd l D AC b z L xs Gm j_Law_isAsked 258 (oI 0 259) := sn_iconst l D AC b z L xs Gm  dL_isAsked_258 (by decide)
theorem so_Law_isAsked_259 : Snd l D AC b z L xs Gm j_Law_isAsked 259 (oRetZ) := sn_retZ l D AC b z L xs Gm  dL_isAsked_259 rfl
theorem so_Law_isAsked_260 : Snd l D AC b z L xs Gm j_Law_isAsked 260 (oI 0 261) := sn_iconst l D AC b z L xs Gm  dL_isAsked_260 (by decide)
theorem so_Law_isAsked_261 : Snd l D AC b z L xs Gm j_Law_isAsked 261 (oIst 9 263) := sn_istore l D AC b z L xs Gm  dL_isAsked_261 (by decide)
theorem so_Law_isAsked_263 : Snd l D AC b z L xs Gm j_Law_isAsked 263 (oI 2 264) := sn_iconst l D AC b z L xs Gm  dL_isAsked_263 (by decide)
theorem so_Law_isAsked_264 : Snd l D AC b z L xs Gm j_Law_isAsked 264 (oIst 10 266) := sn_istore l D AC b z L xs Gm  dL_isAsked_264 (by decide)
theorem so_Law_isAsked_266 : Snd l D AC b z L xs Gm j_Law_isAsked 266 (oIld 10 268) := sn_iload l D AC b z L xs Gm  dL_isAsked_266
theorem so_Law_isAsked_268 : Snd l D AC b z L xs Gm j_Law_isAsked 268 (oI 7 270) := sn_bipush l D AC b z L xs Gm  dL_isAsked_268 (by decide)
theorem so_Law_isAsked_270 : Snd l D AC b z L xs Gm j_Law_isAsked 270 (oIC (fun x y => decide (y ≤ x)) 290 273) := sn_icmp_ge l D AC b z L xs Gm  dL_isAsked_270 (by decide)
theorem so_Law_isAsked_273 : Snd l D AC b z L xs Gm j_Law_isAsked 273 (oIld 9 275) := sn_iload l D AC b z L xs Gm  dL_isAsked_273
theorem so_Law_isAsked_275 : Snd l D AC b z L xs Gm j_Law_isAsked 275 (oAld 0 276) := sn_aload_n l D AC b z L xs Gm  dL_isAsked_275 rfl
theorem so_Law_isAsked_276 : Snd l D AC b z L xs Gm j_Law_isAsked 276 (oIld 10 278) := sn_iload l D AC b z L xs Gm  dL_isAsked_276
theorem so_Law_isAsked_278 : Snd l D AC b z L xs Gm j_Law_isAsked 278 (oCallV kc_S j_S_auction 1 (mL j_S_auction) 281) := sn_callV l D AC b z L xs Gm  dL_isAsked_278 rfl (hs0 (fun _ => rfl) rfl) cal_Law_isAsked_S_auction rfl rfl (by decide) rfl tw_851 tw_779 tw_780
theorem so_Law_isAsked_281 : Snd l D AC b z L xs Gm j_Law_isAsked 281 (oII (fun x y => x + y) 282) := sn_iadd l D AC b z L xs Gm  dL_isAsked_281
theorem so_Law_isAsked_282 : Snd l D AC b z L xs Gm j_Law_isAsked 282 (oIst 9 284) := sn_istore l D AC b z L xs Gm  dL_isAsked_282 (by decide)
theorem so_Law_isAsked_284 : Snd l D AC b z L xs Gm j_Law_isAsked 284 (oInc 10 1 287) := sn_iinc l D AC b z L xs Gm  dL_isAsked_284 (by decide) (by decide)
theorem so_Law_isAsked_287 : Snd l D AC b z L xs Gm j_Law_isAsked 287 (oGo 266) := sn_goto l D AC b z L xs Gm  dL_isAsked_287 (by decide)
theorem so_Law_isAsked_290 : Snd l D AC b z L xs Gm j_Law_isAsked 290 (oAld 0 291) := sn_aload_n l D AC b z L xs Gm  dL_isAsked_290 rfl
theorem so_Law_isAsked_291 : Snd l D AC b z L xs Gm j_Law_isAsked 291 (oCallV kc_S j_S_cover 0 (mL j_S_cover) 294) := sn_callV l D AC b z L xs Gm  dL_isAsked_291 rfl (hs0 (fun _ => rfl) rfl) cal_Law_isAsked_S_cover rfl rfl (by decide) rfl tw_852 tw_785 tw_786
theorem so_Law_isAsked_294 : Snd l D AC b z L xs Gm j_Law_isAsked 294 (oIst 10 296) := sn_istore l D AC b z L xs Gm  dL_isAsked_294 (by decide)
theorem so_Law_isAsked_296 : Snd l D AC b z L xs Gm j_Law_isAsked 296 (oIld 6 298) := sn_iload l D AC b z L xs Gm  dL_isAsked_296
theorem so_Law_isAsked_298 : Snd l D AC b z L xs Gm j_Law_isAsked 298 (oAld 0 299) := sn_aload_n l D AC b z L xs Gm  dL_isAsked_298 rfl
theorem so_Law_isAsked_299 : Snd l D AC b z L xs Gm j_Law_isAsked 299 (oI 4 300) := sn_iconst l D AC b z L xs Gm  dL_isAsked_299 (by decide)
theorem so_Law_isAsked_300 : Snd l D AC b z L xs Gm j_Law_isAsked 300 (oCallV kc_S j_S_air 1 (mL j_S_air) 303) := sn_callV l D AC b z L xs Gm  dL_isAsked_300 rfl (hs0 (fun _ => rfl) rfl) cal_Law_isAsked_S_air rfl rfl (by decide) rfl tw_522 tw_523 tw_524
theorem so_Law_isAsked_303 : Snd l D AC b z L xs Gm j_Law_isAsked 303 (oIC (fun x y => decide (¬ x = y)) 343 306) := sn_icmp_ne l D AC b z L xs Gm  dL_isAsked_303 (by decide)
theorem so_Law_isAsked_306 : Snd l D AC b z L xs Gm j_Law_isAsked 306 (oIld 9 308) := sn_iload l D AC b z L xs Gm  dL_isAsked_306
theorem so_Law_isAsked_308 : Snd l D AC b z L xs Gm j_Law_isAsked 308 (oAld 0 309) := sn_aload_n l D AC b z L xs Gm  dL_isAsked_308 rfl
theorem so_Law_isAsked_309 : Snd l D AC b z L xs Gm j_Law_isAsked 309 (oI 1 310) := sn_iconst l D AC b z L xs Gm  dL_isAsked_309 (by decide)
theorem so_Law_isAsked_310 : Snd l D AC b z L xs Gm j_Law_isAsked 310 (oCallV kc_S j_S_auction 1 (mL j_S_auction) 313) := sn_callV l D AC b z L xs Gm  dL_isAsked_310 rfl (hs0 (fun _ => rfl) rfl) cal_Law_isAsked_S_auction rfl rfl (by decide) rfl tw_851 tw_779 tw_780
theorem so_Law_isAsked_313 : Snd l D AC b z L xs Gm j_Law_isAsked 313 (oIC (fun x y => decide (y < x)) 343 316) := sn_icmp_gt l D AC b z L xs Gm  dL_isAsked_313 (by decide)
theorem so_Law_isAsked_316 : Snd l D AC b z L xs Gm j_Law_isAsked 316 (oIld 10 318) := sn_iload l D AC b z L xs Gm  dL_isAsked_316
theorem so_Law_isAsked_318 : Snd l D AC b z L xs Gm j_Law_isAsked 318 (oIf (fun x => decide (x ≤ 0)) 343 321) := sn_if_le l D AC b z L xs Gm  dL_isAsked_318 (by decide)
theorem so_Law_isAsked_321 : Snd l D AC b z L xs Gm j_Law_isAsked 321 (oIld 10 323) := sn_iload l D AC b z L xs Gm  dL_isAsked_321
theorem so_Law_isAsked_323 : Snd l D AC b z L xs Gm j_Law_isAsked 323 (oI 1 324) := sn_iconst l D AC b z L xs Gm  dL_isAsked_323 (by decide)
theorem so_Law_isAsked_324 : Snd l D AC b z L xs Gm j_Law_isAsked 324 (oIld 1 325) := sn_iload_n l D AC b z L xs Gm  dL_isAsked_324 rfl
theorem so_Law_isAsked_325 : Snd l D AC b z L xs Gm j_Law_isAsked 325 (oII (fun x y => x <<< (y &&& 31)) 326) := sn_ishl l D AC b z L xs Gm  dL_isAsked_325
theorem so_Law_isAsked_326 : Snd l D AC b z L xs Gm j_Law_isAsked 326 (oIC (fun x y => decide (y ≤ x)) 343 329) := sn_icmp_ge l D AC b z L xs Gm  dL_isAsked_326 (by decide)
theorem so_Law_isAsked_329 : Snd l D AC b z L xs Gm j_Law_isAsked 329 (oAld 0 330) := sn_aload_n l D AC b z L xs Gm  dL_isAsked_329 rfl
theorem so_Law_isAsked_330 : Snd l D AC b z L xs Gm j_Law_isAsked 330 (oCallV kc_S j_S_digest 0 (mL j_S_digest) 333) := sn_callV l D AC b z L xs Gm  dL_isAsked_330 rfl (hs0 (fun _ => rfl) rfl) cal_Law_isAsked_S_digest rfl rfl (by decide) rfl tw_732 tw_733 tw_734
theorem so_Law_isAsked_333 : Snd l D AC b z L xs Gm j_Law_isAsked 333 (oLld 4 335) := sn_lload l D AC b z L xs Gm  dL_isAsked_333
theorem so_Law_isAsked_335 : Snd l D AC b z L xs Gm j_Law_isAsked 335 (oLcmp 336) := sn_lcmp l D AC b z L xs Gm  dL_isAsked_335
theorem so_Law_isAsked_336 : Snd l D AC b z L xs Gm j_Law_isAsked 336 (oIf (fun x => decide (¬ x = 0)) 343 339) := sn_if_ne l D AC b z L xs Gm  dL_isAsked_336 (by decide)
theorem so_Law_isAsked_339 : Snd l D AC b z L xs Gm j_Law_isAsked 339 (oI 1 340) := sn_iconst l D AC b z L xs Gm  dL_isAsked_339 (by decide)
theorem so_Law_isAsked_340 : Snd l D AC b z L xs Gm j_Law_isAsked 340 (oGo 344) := sn_goto l D AC b z L xs Gm  dL_isAsked_340 (by decide)
theorem so_Law_isAsked_343 : Snd l D AC b z L xs Gm j_Law_isAsked 343 (oI 0 344) := sn_iconst l D AC b z L xs Gm  dL_isAsked_343 (by decide)
theorem so_Law_isAsked_344 : Snd l D AC b z L xs Gm j_Law_isAsked 344 (oRetZ) := sn_retZ l D AC b z L xs Gm  dL_isAsked_344 rfl
set_option maxRecDepth 100000 in
theorem so_Law_isAsked : ∀ q ∈ tb_Law_isAsked, Snd l D AC b z L xs Gm j_Law_isAsked q.1 q.2 := by
  unfold tb_Law_isAsked
  exact List.forall_mem_cons.mpr ⟨so_Law_isAsked_0 l D AC b z L xs, List.forall_mem_cons.mpr ⟨so_Law_isAsked_1 l D AC b z L xs, List.forall_mem_cons.mpr ⟨so_Law_isAsked_4 l D AC b z L xs, List.forall_mem_cons.mpr ⟨so_Law_isAsked_6 l D AC b z L xs, List.forall_mem_cons.mpr ⟨so_Law_isAsked_7 l D AC b z L xs, List.forall_mem_cons.mpr ⟨so_Law_isAsked_10 l D AC b z L xs, List.forall_mem_cons.mpr ⟨so_Law_isAsked_13 l D AC b z L xs, List.forall_mem_cons.mpr ⟨so_Law_isAsked_14 l D AC b z L xs, List.forall_mem_cons.mpr ⟨so_Law_isAsked_17 l D AC b z L xs, List.forall_mem_cons.mpr ⟨so_Law_isAsked_18 l D AC b z L xs, List.forall_mem_cons.mpr ⟨so_Law_isAsked_19 l D AC b z L xs, List.forall_mem_cons.mpr ⟨so_Law_isAsked_22 l D AC b z L xs, List.forall_mem_cons.mpr ⟨so_Law_isAsked_23 l D AC b z L xs, List.forall_mem_cons.mpr ⟨so_Law_isAsked_24 l D AC b z L xs, List.forall_mem_cons.mpr ⟨so_Law_isAsked_25 l D AC b z L xs, List.forall_mem_cons.mpr ⟨so_Law_isAsked_27 l D AC b z L xs, List.forall_mem_cons.mpr ⟨so_Law_isAsked_28 l D AC b z L xs, List.forall_mem_cons.mpr ⟨so_Law_isAsked_30 l D AC b z L xs, List.forall_mem_cons.mpr ⟨so_Law_isAsked_32 l D AC b z L xs, List.forall_mem_cons.mpr ⟨so_Law_isAsked_33 l D AC b z L xs, List.forall_mem_cons.mpr ⟨so_Law_isAsked_36 l D AC b z L xs, List.forall_mem_cons.mpr ⟨so_Law_isAsked_37 l D AC b z L xs, List.forall_mem_cons.mpr ⟨so_Law_isAsked_39 l D AC b z L xs, List.forall_mem_cons.mpr ⟨so_Law_isAsked_41 l D AC b z L xs, List.forall_mem_cons.mpr ⟨so_Law_isAsked_42 l D AC b z L xs, List.forall_mem_cons.mpr ⟨so_Law_isAsked_44 l D AC b z L xs, List.forall_mem_cons.mpr ⟨so_Law_isAsked_46 l D AC b z L xs, List.forall_mem_cons.mpr ⟨so_Law_isAsked_49 l D AC b z L xs, List.forall_mem_cons.mpr ⟨so_Law_isAsked_52 l D AC b z L xs, List.forall_mem_cons.mpr ⟨so_Law_isAsked_54 l D AC b z L xs, List.forall_mem_cons.mpr ⟨so_Law_isAsked_55 l D AC b z L xs, List.forall_mem_cons.mpr ⟨so_Law_isAsked_57 l D AC b z L xs, List.forall_mem_cons.mpr ⟨so_Law_isAsked_59 l D AC b z L xs, List.forall_mem_cons.mpr ⟨so_Law_isAsked_62 l D AC b z L xs, List.forall_mem_cons.mpr ⟨so_Law_isAsked_65 l D AC b z L xs, List.forall_mem_cons.mpr ⟨so_Law_isAsked_66 l D AC b z L xs, List.forall_mem_cons.mpr ⟨so_Law_isAsked_69 l D AC b z L xs, List.forall_mem_cons.mpr ⟨so_Law_isAsked_70 l D AC b z L xs, List.forall_mem_cons.mpr ⟨so_Law_isAsked_71 l D AC b z L xs, List.forall_mem_cons.mpr ⟨so_Law_isAsked_73 l D AC b z L xs, List.forall_mem_cons.mpr ⟨so_Law_isAsked_76 l D AC b z L xs, List.forall_mem_cons.mpr ⟨so_Law_isAsked_79 l D AC b z L xs, List.forall_mem_cons.mpr ⟨so_Law_isAsked_81 l D AC b z L xs, List.forall_mem_cons.mpr ⟨so_Law_isAsked_82 l D AC b z L xs, List.forall_mem_cons.mpr ⟨so_Law_isAsked_85 l D AC b z L xs, List.forall_mem_cons.mpr ⟨so_Law_isAsked_86 l D AC b z L xs, List.forall_mem_cons.mpr ⟨so_Law_isAsked_88 l D AC b z L xs, List.forall_mem_cons.mpr ⟨so_Law_isAsked_90 l D AC b z L xs, List.forall_mem_cons.mpr ⟨so_Law_isAsked_93 l D AC b z L xs, List.forall_mem_cons.mpr ⟨so_Law_isAsked_94 l D AC b z L xs, List.forall_mem_cons.mpr ⟨so_Law_isAsked_95 l D AC b z L xs, List.forall_mem_cons.mpr ⟨so_Law_isAsked_96 l D AC b z L xs, List.forall_mem_cons.mpr ⟨so_Law_isAsked_97 l D AC b z L xs, List.forall_mem_cons.mpr ⟨so_Law_isAsked_98 l D AC b z L xs, List.forall_mem_cons.mpr ⟨so_Law_isAsked_101 l D AC b z L xs, List.forall_mem_cons.mpr ⟨so_Law_isAsked_102 l D AC b z L xs, List.forall_mem_cons.mpr ⟨so_Law_isAsked_105 l D AC b z L xs, List.forall_mem_cons.mpr ⟨so_Law_isAsked_106 l D AC b z L xs, List.forall_mem_cons.mpr ⟨so_Law_isAsked_107 l D AC b z L xs, List.forall_mem_cons.mpr ⟨so_Law_isAsked_108 l D AC b z L xs, List.forall_mem_cons.mpr ⟨so_Law_isAsked_110 l D AC b z L xs, List.forall_mem_cons.mpr ⟨so_Law_isAsked_113 l D AC b z L xs, List.forall_mem_cons.mpr ⟨so_Law_isAsked_115 l D AC b z L xs, List.forall_mem_cons.mpr ⟨so_Law_isAsked_116 l D AC b z L xs, List.forall_mem_cons.mpr ⟨so_Law_isAsked_117 l D AC b z L xs, List.forall_mem_cons.mpr ⟨so_Law_isAsked_118 l D AC b z L xs, List.forall_mem_cons.mpr ⟨so_Law_isAsked_119 l D AC b z L xs, List.forall_mem_cons.mpr ⟨so_Law_isAsked_122 l D AC b z L xs, List.forall_mem_cons.mpr ⟨so_Law_isAsked_123 l D AC b z L xs, List.forall_mem_cons.mpr ⟨so_Law_isAsked_126 l D AC b z L xs, List.forall_mem_cons.mpr ⟨so_Law_isAsked_127 l D AC b z L xs, List.forall_mem_cons.mpr ⟨so_Law_isAsked_130 l D AC b z L xs, List.forall_mem_cons.mpr ⟨so_Law_isAsked_131 l D AC b z L xs, List.forall_mem_cons.mpr ⟨so_Law_isAsked_133 l D AC b z L xs, List.forall_mem_cons.mpr ⟨so_Law_isAsked_135 l D AC b z L xs, List.forall_mem_cons.mpr ⟨so_Law_isAsked_138 l D AC b z L xs, List.forall_mem_cons.mpr ⟨so_Law_isAsked_139 l D AC b z L xs, List.forall_mem_cons.mpr ⟨so_Law_isAsked_140 l D AC b z L xs, List.forall_mem_cons.mpr ⟨so_Law_isAsked_141 l D AC b z L xs, List.forall_mem_cons.mpr ⟨so_Law_isAsked_142 l D AC b z L xs, List.forall_mem_cons.mpr ⟨so_Law_isAsked_143 l D AC b z L xs, List.forall_mem_cons.mpr ⟨so_Law_isAsked_146 l D AC b z L xs, List.forall_mem_cons.mpr ⟨so_Law_isAsked_147 l D AC b z L xs, List.forall_mem_cons.mpr ⟨so_Law_isAsked_150 l D AC b z L xs, List.forall_mem_cons.mpr ⟨so_Law_isAsked_151 l D AC b z L xs, List.forall_mem_cons.mpr ⟨so_Law_isAsked_152 l D AC b z L xs, List.forall_mem_cons.mpr ⟨so_Law_isAsked_154 l D AC b z L xs, List.forall_mem_cons.mpr ⟨so_Law_isAsked_155 l D AC b z L xs, List.forall_mem_cons.mpr ⟨so_Law_isAsked_158 l D AC b z L xs, List.forall_mem_cons.mpr ⟨so_Law_isAsked_161 l D AC b z L xs, List.forall_mem_cons.mpr ⟨so_Law_isAsked_162 l D AC b z L xs, List.forall_mem_cons.mpr ⟨so_Law_isAsked_163 l D AC b z L xs, List.forall_mem_cons.mpr ⟨so_Law_isAsked_165 l D AC b z L xs, List.forall_mem_cons.mpr ⟨so_Law_isAsked_168 l D AC b z L xs, List.forall_mem_cons.mpr ⟨so_Law_isAsked_171 l D AC b z L xs, List.forall_mem_cons.mpr ⟨so_Law_isAsked_172 l D AC b z L xs, List.forall_mem_cons.mpr ⟨so_Law_isAsked_175 l D AC b z L xs, List.forall_mem_cons.mpr ⟨so_Law_isAsked_176 l D AC b z L xs, List.forall_mem_cons.mpr ⟨so_Law_isAsked_179 l D AC b z L xs, List.forall_mem_cons.mpr ⟨so_Law_isAsked_180 l D AC b z L xs, List.forall_mem_cons.mpr ⟨so_Law_isAsked_181 l D AC b z L xs, List.forall_mem_cons.mpr ⟨so_Law_isAsked_183 l D AC b z L xs, List.forall_mem_cons.mpr ⟨so_Law_isAsked_184 l D AC b z L xs, List.forall_mem_cons.mpr ⟨so_Law_isAsked_187 l D AC b z L xs, List.forall_mem_cons.mpr ⟨so_Law_isAsked_188 l D AC b z L xs, List.forall_mem_cons.mpr ⟨so_Law_isAsked_189 l D AC b z L xs, List.forall_mem_cons.mpr ⟨so_Law_isAsked_191 l D AC b z L xs, List.forall_mem_cons.mpr ⟨so_Law_isAsked_192 l D AC b z L xs, List.forall_mem_cons.mpr ⟨so_Law_isAsked_195 l D AC b z L xs, List.forall_mem_cons.mpr ⟨so_Law_isAsked_196 l D AC b z L xs, List.forall_mem_cons.mpr ⟨so_Law_isAsked_199 l D AC b z L xs, List.forall_mem_cons.mpr ⟨so_Law_isAsked_200 l D AC b z L xs, List.forall_mem_cons.mpr ⟨so_Law_isAsked_201 l D AC b z L xs, List.forall_mem_cons.mpr ⟨so_Law_isAsked_204 l D AC b z L xs, List.forall_mem_cons.mpr ⟨so_Law_isAsked_207 l D AC b z L xs, List.forall_mem_cons.mpr ⟨so_Law_isAsked_208 l D AC b z L xs, List.forall_mem_cons.mpr ⟨so_Law_isAsked_209 l D AC b z L xs, List.forall_mem_cons.mpr ⟨so_Law_isAsked_210 l D AC b z L xs, List.forall_mem_cons.mpr ⟨so_Law_isAsked_211 l D AC b z L xs, List.forall_mem_cons.mpr ⟨so_Law_isAsked_212 l D AC b z L xs, List.forall_mem_cons.mpr ⟨so_Law_isAsked_213 l D AC b z L xs, List.forall_mem_cons.mpr ⟨so_Law_isAsked_216 l D AC b z L xs, List.forall_mem_cons.mpr ⟨so_Law_isAsked_217 l D AC b z L xs, List.forall_mem_cons.mpr ⟨so_Law_isAsked_218 l D AC b z L xs, List.forall_mem_cons.mpr ⟨so_Law_isAsked_219 l D AC b z L xs, List.forall_mem_cons.mpr ⟨so_Law_isAsked_220 l D AC b z L xs, List.forall_mem_cons.mpr ⟨so_Law_isAsked_221 l D AC b z L xs, List.forall_mem_cons.mpr ⟨so_Law_isAsked_222 l D AC b z L xs, List.forall_mem_cons.mpr ⟨so_Law_isAsked_224 l D AC b z L xs, List.forall_mem_cons.mpr ⟨so_Law_isAsked_225 l D AC b z L xs, List.forall_mem_cons.mpr ⟨so_Law_isAsked_227 l D AC b z L xs, List.forall_mem_cons.mpr ⟨so_Law_isAsked_228 l D AC b z L xs, List.forall_mem_cons.mpr ⟨so_Law_isAsked_231 l D AC b z L xs, List.forall_mem_cons.mpr ⟨so_Law_isAsked_233 l D AC b z L xs, List.forall_mem_cons.mpr ⟨so_Law_isAsked_235 l D AC b z L xs, List.forall_mem_cons.mpr ⟨so_Law_isAsked_238 l D AC b z L xs, List.forall_mem_cons.mpr ⟨so_Law_isAsked_240 l D AC b z L xs, List.forall_mem_cons.mpr ⟨so_Law_isAsked_242 l D AC b z L xs, List.forall_mem_cons.mpr ⟨so_Law_isAsked_243 l D AC b z L xs, List.forall_mem_cons.mpr ⟨so_Law_isAsked_244 l D AC b z L xs, List.forall_mem_cons.mpr ⟨so_Law_isAsked_245 l D AC b z L xs, List.forall_mem_cons.mpr ⟨so_Law_isAsked_248 l D AC b z L xs, List.forall_mem_cons.mpr ⟨so_Law_isAsked_249 l D AC b z L xs, List.forall_mem_cons.mpr ⟨so_Law_isAsked_250 l D AC b z L xs, List.forall_mem_cons.mpr ⟨so_Law_isAsked_252 l D AC b z L xs, List.forall_mem_cons.mpr ⟨so_Law_isAsked_255 l D AC b z L xs, List.forall_mem_cons.mpr ⟨so_Law_isAsked_258 l D AC b z L xs, List.forall_mem_cons.mpr ⟨so_Law_isAsked_259 l D AC b z L xs, List.forall_mem_cons.mpr ⟨so_Law_isAsked_260 l D AC b z L xs, List.forall_mem_cons.mpr ⟨so_Law_isAsked_261 l D AC b z L xs, List.forall_mem_cons.mpr ⟨so_Law_isAsked_263 l D AC b z L xs, List.forall_mem_cons.mpr ⟨so_Law_isAsked_264 l D AC b z L xs, List.forall_mem_cons.mpr ⟨so_Law_isAsked_266 l D AC b z L xs, List.forall_mem_cons.mpr ⟨so_Law_isAsked_268 l D AC b z L xs, List.forall_mem_cons.mpr ⟨so_Law_isAsked_270 l D AC b z L xs, List.forall_mem_cons.mpr ⟨so_Law_isAsked_273 l D AC b z L xs, List.forall_mem_cons.mpr ⟨so_Law_isAsked_275 l D AC b z L xs, List.forall_mem_cons.mpr ⟨so_Law_isAsked_276 l D AC b z L xs, List.forall_mem_cons.mpr ⟨so_Law_isAsked_278 l D AC b z L xs, List.forall_mem_cons.mpr ⟨so_Law_isAsked_281 l D AC b z L xs, List.forall_mem_cons.mpr ⟨so_Law_isAsked_282 l D AC b z L xs, List.forall_mem_cons.mpr ⟨so_Law_isAsked_284 l D AC b z L xs, List.forall_mem_cons.mpr ⟨so_Law_isAsked_287 l D AC b z L xs, List.forall_mem_cons.mpr ⟨so_Law_isAsked_290 l D AC b z L xs, List.forall_mem_cons.mpr ⟨so_Law_isAsked_291 l D AC b z L xs, List.forall_mem_cons.mpr ⟨so_Law_isAsked_294 l D AC b z L xs, List.forall_mem_cons.mpr ⟨so_Law_isAsked_296 l D AC b z L xs, List.forall_mem_cons.mpr ⟨so_Law_isAsked_298 l D AC b z L xs, List.forall_mem_cons.mpr ⟨so_Law_isAsked_299 l D AC b z L xs, List.forall_mem_cons.mpr ⟨so_Law_isAsked_300 l D AC b z L xs, List.forall_mem_cons.mpr ⟨so_Law_isAsked_303 l D AC b z L xs, List.forall_mem_cons.mpr ⟨so_Law_isAsked_306 l D AC b z L xs, List.forall_mem_cons.mpr ⟨so_Law_isAsked_308 l D AC b z L xs, List.forall_mem_cons.mpr ⟨so_Law_isAsked_309 l D AC b z L xs, List.forall_mem_cons.mpr ⟨so_Law_isAsked_310 l D AC b z L xs, List.forall_mem_cons.mpr ⟨so_Law_isAsked_313 l D AC b z L xs, List.forall_mem_cons.mpr ⟨so_Law_isAsked_316 l D AC b z L xs, List.forall_mem_cons.mpr ⟨so_Law_isAsked_318 l D AC b z L xs, List.forall_mem_cons.mpr ⟨so_Law_isAsked_321 l D AC b z L xs, List.forall_mem_cons.mpr ⟨so_Law_isAsked_323 l D AC b z L xs, List.forall_mem_cons.mpr ⟨so_Law_isAsked_324 l D AC b z L xs, List.forall_mem_cons.mpr ⟨so_Law_isAsked_325 l D AC b z L xs, List.forall_mem_cons.mpr ⟨so_Law_isAsked_326 l D AC b z L xs, List.forall_mem_cons.mpr ⟨so_Law_isAsked_329 l D AC b z L xs, List.forall_mem_cons.mpr ⟨so_Law_isAsked_330 l D AC b z L xs, List.forall_mem_cons.mpr ⟨so_Law_isAsked_333 l D AC b z L xs, List.forall_mem_cons.mpr ⟨so_Law_isAsked_335 l D AC b z L xs, List.forall_mem_cons.mpr ⟨so_Law_isAsked_336 l D AC b z L xs, List.forall_mem_cons.mpr ⟨so_Law_isAsked_339 l D AC b z L xs, List.forall_mem_cons.mpr ⟨so_Law_isAsked_340 l D AC b z L xs, List.forall_mem_cons.mpr ⟨so_Law_isAsked_343 l D AC b z L xs, List.forall_mem_cons.mpr ⟨so_Law_isAsked_344 l D AC b z L xs, fun _ h => absurd h List.not_mem_nil⟩⟩⟩⟩⟩⟩⟩⟩⟩⟩⟩⟩⟩⟩⟩⟩⟩⟩⟩⟩⟩⟩⟩⟩⟩⟩⟩⟩⟩⟩⟩⟩⟩⟩⟩⟩⟩⟩⟩⟩⟩⟩⟩⟩⟩⟩⟩⟩⟩⟩⟩⟩⟩⟩⟩⟩⟩⟩⟩⟩⟩⟩⟩⟩⟩⟩⟩⟩⟩⟩⟩⟩⟩⟩⟩⟩⟩⟩⟩⟩⟩⟩⟩⟩⟩⟩⟩⟩⟩⟩⟩⟩⟩⟩⟩⟩⟩⟩⟩⟩⟩⟩⟩⟩⟩⟩⟩⟩⟩⟩⟩⟩⟩⟩⟩⟩⟩⟩⟩⟩⟩⟩⟩⟩⟩⟩⟩⟩⟩⟩⟩⟩⟩⟩⟩⟩⟩⟩⟩⟩⟩⟩⟩⟩⟩⟩⟩⟩⟩⟩⟩⟩⟩⟩⟩⟩⟩⟩⟩⟩⟩⟩⟩⟩⟩⟩⟩⟩⟩⟩⟩⟩⟩⟩⟩⟩⟩⟩⟩⟩⟩⟩⟩⟩⟩⟩⟩⟩⟩⟩⟩⟩
theorem so_all (j pc : Nat) : Snd l D AC b z L xs Gm j pc (mCode j pc) := by
  have key : ∀ q ∈ tbl j, Snd l D AC b z L xs Gm j q.1 q.2 := by
    unfold tbl
    split
    · exact so_Frame_init l D AC b z L xs
    · exact so_FrameQueue_init l D AC b z L xs
    · exact so_FrameQueue_at l D AC b z L xs
    · exact so_FrameQueue_add l D AC b z L xs
    · exact so_FrameQueue_removeFirst l D AC b z L xs
    · exact so_Land_init l D AC b z L xs
    · exact so_Land_isNode l D AC b z L xs
    · exact so_Land_everyone l D AC b z L xs
    · exact so_Land_add l D AC b z L xs
    · exact so_Land_put l D AC b z L xs
    · exact so_Land_adjust l D AC b z L xs
    · exact so_Land_findHearers l D AC b z L xs
    · exact so_Land_far l D AC b z L xs
    · exact so_Land_canHear l D AC b z L xs
    · exact so_Land_areLinked l D AC b z L xs
    · exact so_Land_linkedWith l D AC b z L xs
    · exact so_Land_hearsOneOf l D AC b z L xs
    · exact so_Land_gets l D AC b z L xs
    · exact so_Land_framesInQueues l D AC b z L xs
    · exact so_Land_isSuspect l D AC b z L xs
    · exact so_Land_fewestCovering l D AC b z L xs
    · exact so_Land_isCovering l D AC b z L xs
    · exact so_Market_init l D AC b z L xs
    · exact so_Market_add l D AC b z L xs
    · exact so_Market_weigh l D AC b z L xs
    · exact so_Market_winningPrice l D AC b z L xs
    · exact so_Market_paidBy l D AC b z L xs
    · exact so_Market_nobodyOverpays l D AC b z L xs
    · exact so_Market_sellAll l D AC b z L xs
    · exact so_Market_forgetBids l D AC b z L xs
    · exact so_Node_init l D AC b z L xs
    · exact so_Node_isSending l D AC b z L xs
    · exact so_Node_begin l D AC b z L xs
    · exact so_Node_finishFirst l D AC b z L xs
    · exact so_Node_waitAgain l D AC b z L xs
    · exact so_Node_isInOrder l D AC b z L xs
    · exact so_NumberSet_init l D AC b z L xs
    · exact so_NumberSet_has l D AC b z L xs
    · exact so_NumberSet_put l D AC b z L xs
    · exact so_NumberSet_size l D AC b z L xs
    · exact so_Routes_init l D AC b z L xs
    · exact so_Routes_costOf l D AC b z L xs
    · exact so_Routes_nextOf l D AC b z L xs
    · exact so_Routes_renew l D AC b z L xs
    · exact so_Routes_renewPair l D AC b z L xs
    · exact so_Routes_cheapestNeighbour l D AC b z L xs
    · exact so_Routes_wayLength l D AC b z L xs
    · exact so_Routes_hasCircle l D AC b z L xs
    · exact so_Routes_follow l D AC b z L xs
    · exact so_Routes_pairsWithRoute l D AC b z L xs
    · exact so_Routes_pairsWithCircle l D AC b z L xs
    · exact so_Routes_areInOrder l D AC b z L xs
    · exact so_Traffic_init l D AC b z L xs
    · exact so_Traffic_senders l D AC b z L xs
    · exact so_Traffic_goBy l D AC b z L xs
    · exact so_Traffic_takeTurn l D AC b z L xs
    · exact so_Traffic_goOn l D AC b z L xs
    · exact so_Traffic_end l D AC b z L xs
    · exact so_Traffic_tryAgain l D AC b z L xs
    · exact so_Traffic_receive l D AC b z L xs
    · exact so_Traffic_pushCopy l D AC b z L xs
    · exact so_Traffic_arrive l D AC b z L xs
    · exact so_Traffic_dropFirst l D AC b z L xs
    · exact so_Traffic_draw l D AC b z L xs
    · exact so_S_init l D AC b z L xs
    · exact so_S_node l D AC b z L xs
    · exact so_S_move l D AC b z L xs
    · exact so_S_tune l D AC b z L xs
    · exact so_S_send l D AC b z L xs
    · exact so_S_pass l D AC b z L xs
    · exact so_S_exchange l D AC b z L xs
    · exact so_S_bid l D AC b z L xs
    · exact so_S_sell l D AC b z L xs
    · exact so_S_hears l D AC b z L xs
    · exact so_S_ofNode l D AC b z L xs
    · exact so_S_inQueue l D AC b z L xs
    · exact so_S_route l D AC b z L xs
    · exact so_S_air l D AC b z L xs
    · exact so_S_delivered l D AC b z L xs
    · exact so_S_fairness l D AC b z L xs
    · exact so_S_would l D AC b z L xs
    · exact so_S_auction l D AC b z L xs
    · exact so_S_cover l D AC b z L xs
    · exact so_S_isSound l D AC b z L xs
    · exact so_S_digest l D AC b z L xs
    · exact so_S_mixNode l D AC b z L xs
    · exact so_S_mix l D AC b z L xs
    · exact so_S_checkNode l D AC b z L xs
    · exact so_S_checkPair l D AC b z L xs
    · exact so_S_checkSilent l D AC b z L xs
    · exact so_S_isWithin l D AC b z L xs
    · exact so_S_isPlace l D AC b z L xs
    · exact so_S_isReach l D AC b z L xs
    · exact so_S_isIn l D AC b z L xs
    · exact so_Integer_bitCount l D AC b z L xs
    · exact so_Long_bitCount l D AC b z L xs
    · exact so_Law_below l D AC b z L xs
    · exact so_Law_cell l D AC b z L xs
    · exact so_Law_law l D AC b z L xs
    · exact so_Law_act l D AC b z L xs
    · exact so_Law_isAsked l D AC b z L xs
    · intro q hq; cases hq
  unfold mCode
  cases h : (tbl j).lookup pc with
  | none => intro ls st h9 Q kk; exact kk.elim
  | some hd =>
    have hm : (pc, hd) ∈ tbl j := lookup_mem h
    exact key (pc, hd) hm
end CODE
