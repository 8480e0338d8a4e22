/-! from the law's start into M (printed by wip/genp.py) -/
theorem tb_subA (ws : List Cond) (ps : List Nat) (hp : ws = ps.filterMap (fun i => lw_tbl[i]?)) : ∀ w ∈ ws, w ∈ lw_tbl := by
  intro w hw
  rw [hp] at hw
  obtain ⟨i, -, hi⟩ := List.mem_filterMap.mp hw
  exact List.mem_of_getElem? hi
theorem tb_lw {w : Cond} (h : w ∈ TBg) : w ∈ lw_tbl := (List.mem_filter.mp h).1
theorem st_nest : ∀ w ∈ kNest.map (fun q => Cond.methodLinkNest q.1 q.2.1 q.2.2.1 q.2.2.2), w ∈ lw_tbl := tb_subA _ [114, 127, 175, 342, 410, 788, 797, 808, 956, 1070] (by decide +kernel)
theorem st_cast : ∀ w ∈ kCast.map (fun q => Cond.castable q.1 q.2), w ∈ lw_tbl := tb_subA _ [503, 602, 881, 985, 1608, 1642, 1821, 1822, 1823, 1824, 1825, 1826, 1827, 1828, 1829, 1830, 1831, 1832, 1833, 1834, 1835, 1836, 1837, 1838, 1839, 1840, 1844, 1845, 1846, 1847, 1848, 1849, 1850, 1851] (by decide +kernel)
theorem st_fn : ∀ w ∈ kFn.map (fun q => Cond.fieldLinkNest q.1 q.2.1 q.2.2.1 q.2.2.2.1 q.2.2.2.2.1 q.2.2.2.2.2), w ∈ lw_tbl := tb_subA _ [960, 961, 1275] (by decide +kernel)
theorem st_decl : ∀ w ∈ kDecl.map Cond.declares, w ∈ lw_tbl := tb_subA _ [603, 604, 605, 606, 607, 608, 1607, 1617, 1843] (by decide +kernel)
theorem st_str : ∀ w ∈ kStr.map (fun q => Cond.stringRef q.1 q.2.1 q.2.2), w ∈ lw_tbl := tb_subA _ [677, 860, 888, 914, 920, 933, 944, 950, 982, 992, 1023, 1029, 1041, 1050, 1055, 1063, 1064, 1150, 1175, 1176, 1216, 1227, 1236, 1248] (by decide +kernel)
theorem st_ao : ∀ w ∈ kAO.map Cond.arrayOver, w ∈ lw_tbl := tb_subA _ [112, 125, 286, 1467] (by decide +kernel)
section START
variable {s : State} {args : Array Value}
theorem st_arr_p {ty : FieldType} (h : (Cond.arrayClass ty).before args s = true) (hr : ∀ cA, s.vm.findClass ("[" ++ ty.toString) = some cA → va_RA s cA ty) : ∃ cA : ClassId, ArrOfT s cA ty ∧ va_RA s cA ty := by
  obtain ⟨cA, kA, comp, h1, h2, h3⟩ := Cond.arrayClass_spec h
  exact ⟨cA, fun n z => ⟨fun k q => (by cases q), kA, h2, comp, h3⟩, hr cA h1⟩
theorem st_arr_o {C : String} (h : (Cond.arrayOver (.object C)).before args s = true) : ∃ cA : ClassId, ArrOfT s cA (.object C) ∧ va_RA s cA (.object C) := by
  obtain ⟨comp, cA, kA, h1, -, h3, h4, h5⟩ := Cond.arrayOver_spec h
  exact ⟨cA, fun n z => ⟨fun k q => (by cases q), kA, h3, comp, h4⟩, kA, comp, h3, h4, h1, h5⟩
theorem st_arr_a {t : FieldType} (h : (Cond.arrayOver (.array t)).before args s = true) : ∃ cA : ClassId, ArrOfT s cA (.array t) ∧ va_RA s cA (.array t) := by
  obtain ⟨comp, cA, kA, h1, -, h3, h4, h5⟩ := arrayOverA_spec h
  exact ⟨cA, fun n z => ⟨fun k q => (by cases q), kA, h3, comp, h4⟩, h5⟩
theorem st_AC (hts : ∀ w ∈ lw_tbl, w.before args s = true) : ∃ AC : Nat → ClassId, ∀ t, t < nA → ArrOfT s (AC t) (kA t) ∧ va_RA s (AC t) (kA t) := by
  obtain ⟨c0, h0⟩ := st_arr_p (hts (Cond.arrayClass .int) (List.mem_of_getElem? (i := 162) (by decide +kernel))) (fun cA h => h)
  obtain ⟨c1, h1⟩ := st_arr_p (hts (Cond.arrayClass .long) (List.mem_of_getElem? (i := 183) (by decide +kernel))) (fun cA h => h)
  obtain ⟨c2, h2⟩ := st_arr_o (hts (Cond.arrayOver (.object "Sharedair$Node")) (List.mem_of_getElem? (i := 112) (by decide +kernel)))
  obtain ⟨c3, h3⟩ := st_arr_o (hts (Cond.arrayOver (.object "Sharedair$Frame")) (List.mem_of_getElem? (i := 125) (by decide +kernel)))
  obtain ⟨c4, h4⟩ := st_arr_a (hts (Cond.arrayOver (.array .int)) (List.mem_of_getElem? (i := 286) (by decide +kernel)))
  obtain ⟨c5, h5⟩ := st_arr_p (hts (Cond.arrayClass .byte) (List.mem_of_getElem? (i := 460) (by decide +kernel))) (fun cA h => h)
  obtain ⟨c6, h6⟩ := st_arr_o (hts (Cond.arrayOver (.object "java/lang/Object")) (List.mem_of_getElem? (i := 1467) (by decide +kernel)))
  obtain ⟨c7, h7⟩ := st_arr_p (hts (Cond.arrayClass .boolean) (List.mem_of_getElem? (i := 1603) (by decide +kernel))) (fun cA h => h)
  refine ⟨fun t => match t with | 0 => c0 | 1 => c1 | 2 => c2 | 3 => c3 | 4 => c4 | 5 => c5 | 6 => c6 | _ => c7, fun t ht => ?_⟩
  match t, ht with
  | 0, _ => exact h0
  | 1, _ => exact h1
  | 2, _ => exact h2
  | 3, _ => exact h3
  | 4, _ => exact h4
  | 5, _ => exact h5
  | 6, _ => exact h6
  | 7, _ => exact h7
  | n + 8, h => exact absurd h (by show ¬ n + 8 < 8; omega)
theorem st_D (hts : ∀ w ∈ lw_tbl, w.before args s = true) : ∃ D : va_G, ∀ (c : Nat) (q : vw_C), kN[c]? = some q → u_Kn s q.1 q.2.1 q.2.2 (D.1 c) (D.2 c) := by
  have htg : ∀ w ∈ TBg, w.before args s = true := fun w hw => hts w (tb_lw hw)
  have key : ∀ (c : Nat) (q : vw_C), kN[c]? = some q → ∃ (cC : ClassId) (iS : Nat → Nat), u_Kn s q.1 q.2.1 q.2.2 cC iS := by
    intro c q hq
    match c, hq with
    | 0, hq => cases Option.some.inj hq; exact u_known (ws := TBg) htg kin_0 (hts (Cond.instantiable RX0 5) (List.mem_of_getElem? (i := 126) (by decide +kernel)))
    | 1, hq => cases Option.some.inj hq; exact u_known (ws := TBg) htg kin_1 (hts (Cond.instantiable RX1 2) (List.mem_of_getElem? (i := 119) (by decide +kernel)))
    | 2, hq => cases Option.some.inj hq; exact u_known (ws := TBg) htg kin_2 (hts (Cond.instantiable RX2 3) (List.mem_of_getElem? (i := 106) (by decide +kernel)))
    | 3, hq => cases Option.some.inj hq; exact u_known (ws := TBg) htg kin_3 (hts (Cond.instantiable RX3 9) (List.mem_of_getElem? (i := 341) (by decide +kernel)))
    | 4, hq => cases Option.some.inj hq; exact u_known (ws := TBg) htg kin_4 (hts (Cond.instantiable RX4 16) (List.mem_of_getElem? (i := 113) (by decide +kernel)))
    | 5, hq => cases Option.some.inj hq; exact u_known (ws := TBg) htg kin_5 (hts (Cond.instantiable RX5 1) (List.mem_of_getElem? (i := 174) (by decide +kernel)))
    | 6, hq => cases Option.some.inj hq; exact u_known (ws := TBg) htg kin_6 (hts (Cond.instantiable RX6 6) (List.mem_of_getElem? (i := 280) (by decide +kernel)))
    | 7, hq => cases Option.some.inj hq; exact u_known (ws := TBg) htg kin_7 (hts (Cond.instantiable RX7 7) (List.mem_of_getElem? (i := 308) (by decide +kernel)))
    | 8, hq => cases Option.some.inj hq; exact u_known (ws := TBg) htg kin_8 (hts (Cond.instantiable RX8 5) (List.mem_of_getElem? (i := 98) (by decide +kernel)))
    | 9, hq => cases Option.some.inj hq; exact u_known (ws := TBg) htg kin_9 (hts (Cond.instantiable RX9 2) (List.mem_of_getElem? (i := 955) (by decide +kernel)))
    | 10, hq => cases Option.some.inj hq; exact u_known (ws := TBg) htg kin_10 (hts (Cond.instantiable RX10 18) (List.mem_of_getElem? (i := 1349) (by decide +kernel)))
    | 11, hq => cases Option.some.inj hq; exact u_known (ws := TBg) htg kin_11 (hts (Cond.instantiable RX11 12) (List.mem_of_getElem? (i := 1254) (by decide +kernel)))
    | 12, hq => cases Option.some.inj hq; exact u_known (ws := TBg) htg kin_12 (hts (Cond.instantiable RJ0 4) (List.mem_of_getElem? (i := 569) (by decide +kernel)))
    | 13, hq => cases Option.some.inj hq; exact u_known (ws := TBg) htg kin_13 (hts (Cond.instantiable RJ4 4) (List.mem_of_getElem? (i := 430) (by decide +kernel)))
    | 14, hq => cases Option.some.inj hq; exact u_known (ws := TBg) htg kin_14 (hts (Cond.instantiable RJx35411 4) (List.mem_of_getElem? (i := 1585) (by decide +kernel)))
    | 15, hq => cases Option.some.inj hq; exact u_known (ws := TBg) htg kin_15 (hts (Cond.instantiable RJx4a65c 3) (List.mem_of_getElem? (i := 1260) (by decide +kernel)))
    | 16, hq => cases Option.some.inj hq; exact u_known (ws := TBg) htg (fun w hw => by cases hw) (hts (Cond.instantiable "java/lang/IllegalArgumentException" 6) (List.mem_of_getElem? (i := 601) (by decide +kernel)))
    | 17, hq => cases Option.some.inj hq; exact u_known (ws := TBg) htg (fun w hw => by cases hw) (hts (Cond.instantiable "java/lang/IllegalStateException" 6) (List.mem_of_getElem? (i := 984) (by decide +kernel)))
    | 18, hq => cases Option.some.inj hq; exact u_known (ws := TBg) htg (fun w hw => by cases hw) (hts (Cond.instantiable "java/lang/IndexOutOfBoundsException" 6) (List.mem_of_getElem? (i := 880) (by decide +kernel)))
    | n + 19, hq => simp [kN] at hq
  have k2 : ∀ c : Nat, ∃ x : ClassId × (Nat → Nat), ∀ q, kN[c]? = some q → u_Kn s q.1 q.2.1 q.2.2 x.1 x.2 := by
    intro c
    cases h : kN[c]? with
    | none => exact ⟨(0, fun _ => 0), fun q hq => by cases hq⟩
    | some q =>
      obtain ⟨cC, iS, h9⟩ := key c q h
      exact ⟨(cC, iS), fun q9 hq => by cases Option.some.inj hq; exact h9⟩
  exact ⟨(fun c => (Classical.choose (k2 c)).1, fun c => (Classical.choose (k2 c)).2), fun c q hq => Classical.choose_spec (k2 c) q hq⟩
theorem st_nc (hgv : (Jvm.Cond.and given_1 narrow_1).before args s = true) : ∀ q ∈ kNc, va_Nc q.1 q.2 s := by
  have hs := flat_of_before _ hgv
  exact List.forall_mem_cons.mpr ⟨va_Nc.of (hs _ (by decide +kernel)), List.forall_mem_cons.mpr ⟨va_Nc.of (hs _ (by decide +kernel)), List.forall_mem_cons.mpr ⟨va_Nc.of (hs _ (by decide +kernel)), List.forall_mem_cons.mpr ⟨va_Nc.of (hs _ (by decide +kernel)), List.forall_mem_cons.mpr ⟨va_Nc.of (hs _ (by decide +kernel)), List.forall_mem_cons.mpr ⟨va_Nc.of (hs _ (by decide +kernel)), fun _ h => absurd h List.not_mem_nil⟩⟩⟩⟩⟩⟩
theorem st_strs (hts : ∀ w ∈ lw_tbl, w.before args s = true) (hK : ∀ q ∈ kStr, ∃ c, s.vm.findClass q.1 = some c) : ∀ q ∈ kStr, ∃ sa, vk_R q.1 q.2.1 q.2.2 sa s := by
  intro q hq
  have h := hts _ (st_str _ (List.mem_map.mpr ⟨q, hq, rfl⟩))
  obtain ⟨c, hc⟩ := hK q hq
  obtain ⟨-, -, -, sa, -, -, -, -, -, he⟩ := Cond.stringRef_spec hc h
  exact ⟨sa, vk_R.of h he⟩
theorem st_ini {C : String} (h : (Cond.initialized C).before args s = true) : ∃ c, s.vm.findClass C = some c := by
  simp only [Cond.before, Cond.holds, Cond.value] at h
  cases hc : s.vm.findClass C with
  | none => rw [hc] at h; cases h
  | some c => exact ⟨c, rfl⟩
theorem st_owner : ∀ q ∈ kStr, q.1 = RX8 ∨ q.1 = RJ7 := by decide +kernel
def fx9 (t9 m9 : Nat) : Nat → Nat := fun k => match k with
  | 0 => t9
  | _ => m9
theorem st_z9 (b t9 m9 z : Nat) : toV (b, fx9 t9 m9) z (.inr (.inl (some 1000000001))) = .ref t9 := by
  show Value.ref (adr _ _ (1000000001 + 0)) = _
  rw [adr_x]
  rfl
theorem st_xs {b : Nat} (hts : ∀ w ∈ lw_tbl, w.before args s = true) (hgv : (Jvm.Cond.and given_1 narrow_1).before args s = true) : ∃ f9 : Nat → Nat, Xs (b, f9) s.heap.size s := by
  have hs := flat_of_before _ hgv
  have hA : ∀ a : Nat, a < s.heap.size → ¬ Az s.heap.size a := fun a ha h => absurd h (by unfold Az; omega)
  obtain ⟨t9, ht9, hT9⟩ := va_Tof (args := args) (tm := Term.static "java/util/ArrayList" "DEFAULTCAPACITY_EMPTY_ELEMENTDATA" "[Ljava/lang/Object;") (ty := .object "java/lang/Object") (N := 0) (f := fun _ => .null) (A := Az s.heap.size) (by decide) (hs (Cond.arrayOf (Term.static "java/util/ArrayList" "DEFAULTCAPACITY_EMPTY_ELEMENTDATA" "[Ljava/lang/Object;") (.object "java/lang/Object")) (by decide +kernel)) (Cond.eq_int (hs (Cond.eq (Term.length (Term.static "java/util/ArrayList" "DEFAULTCAPACITY_EMPTY_ELEMENTDATA" "[Ljava/lang/Object;")) (Term.int 0)) (by decide +kernel)) rfl) (fun j hj => absurd hj (Nat.not_lt_zero j)) hA
  obtain ⟨m9, hm9⟩ := va_Mi.of (args := args) (hs (Cond.isRef (.mirror "[Ljava/lang/Object;")) (by decide +kernel))
  have hlt9 : t9 < s.heap.size := by
    obtain ⟨cell, h1, -⟩ := id hT9
    exact (Array.getElem?_eq_some_iff.mp h1).1
  have hz1 : va_Z "java/util/ArrayList" "DEFAULTCAPACITY_EMPTY_ELEMENTDATA" "[Ljava/lang/Object;" (.ref t9) (Az s.heap.size) s s.heap := va_Zof (hts _ (List.mem_of_getElem? (i := 1272) (by decide +kernel))) (hts _ (List.mem_of_getElem? (i := 73) (by decide +kernel))) ht9 hA
  have hz2 : va_Z "java/lang/String" "COMPACT_STRINGS" "Z" (.int 1) (Az s.heap.size) s s.heap := va_Zof (hts _ (List.mem_of_getElem? (i := 439) (by decide +kernel))) (hts _ (List.mem_of_getElem? (i := 93) (by decide +kernel))) (Cond.eq_int (hs (Cond.eq (Term.static "java/lang/String" "COMPACT_STRINGS" "Z") (Term.int 1)) (by decide +kernel)) rfl) hA
  have hs1 : (Cond.selects "java/lang/StringBuilder" ⟨"java/lang/AbstractStringBuilder", "ensureCapacityInternal", "(I)V"⟩ ⟨"java/lang/AbstractStringBuilder", "ensureCapacityInternal", "(I)V"⟩).before args s = true := sel_priv (C := "java/lang/StringBuilder") (y := ⟨"java/lang/AbstractStringBuilder", "ensureCapacityInternal", "(I)V"⟩) (x0 := ⟨"java/lang/AbstractStringBuilder", "isLatin1", "()Z"⟩) (y0 := ⟨"java/lang/AbstractStringBuilder", "isLatin1", "()Z"⟩) ⟨by decide, by decide⟩ rfl (hts _ (List.mem_of_getElem? (i := 514) (by decide +kernel))) (hts _ (List.mem_of_getElem? (i := 477) (by decide +kernel))) (hts _ (List.mem_of_getElem? (i := 478) (by decide +kernel)))
  have hsel : ∀ w ∈ kSel, va_Nw w s := List.forall_mem_cons.mpr ⟨va_Nw.of (A := args) rfl hs1, fun _ h => absurd h List.not_mem_nil⟩
  refine ⟨fx9 t9 m9, List.forall_mem_cons.mpr ⟨?_, List.forall_mem_cons.mpr ⟨hz2, fun _ h => absurd h List.not_mem_nil⟩⟩, hm9, hT9, hlt9, fun q hq => va_Nw.of rfl (hts _ (st_fn _ (List.mem_map.mpr ⟨q, hq, rfl⟩))), ?_, hsel⟩
  · show va_Z _ _ _ (toV (b, fx9 t9 m9) s.heap.size (.inr (.inl (some 1000000001)))) _ s s.heap
    rw [st_z9]
    exact hz1
  · exact List.forall_mem_cons.mpr ⟨va_Fw.of (A := args) (hts _ (List.mem_of_getElem? (i := 1607) (by decide +kernel))) (hts _ (List.mem_of_getElem? (i := 1606) (by decide +kernel))) (hts _ (List.mem_of_getElem? (i := 1612) (by decide +kernel))) (hts _ (List.mem_of_getElem? (i := 1610) (by decide +kernel))) (hts _ (List.mem_of_getElem? (i := 1608) (by decide +kernel))), List.forall_mem_cons.mpr ⟨va_Fw.of (A := args) (hts _ (List.mem_of_getElem? (i := 1617) (by decide +kernel))) (hts _ (List.mem_of_getElem? (i := 1616) (by decide +kernel))) (hts _ (List.mem_of_getElem? (i := 1621) (by decide +kernel))) (hts _ (List.mem_of_getElem? (i := 1619) (by decide +kernel))) (hts _ (List.mem_of_getElem? (i := 1608) (by decide +kernel))), fun _ h => absurd h List.not_mem_nil⟩⟩

theorem st_env {b L : Nat} {xs : Nat → Int32} (hts : ∀ w ∈ lw_tbl, w.before args s = true) (hgv : (Jvm.Cond.and given_1 narrow_1).before args s = true) (hX : va_X b L xs s s.heap) (hb : b < s.heap.size) : ∃ (D : va_G) (AC : Nat → ClassId) (f9 : Nat → Nat), Env0 D AC (b, f9) s.heap.size L xs s := by
  obtain ⟨D, hD⟩ := st_D hts
  obtain ⟨AC, hAC⟩ := st_AC hts
  have hs := flat_of_before _ hgv
  have hA : ∀ a : Nat, a < s.heap.size → ¬ Az s.heap.size a := fun a ha h => absurd h (by unfold Az; omega)
  obtain ⟨f9, hx9⟩ := st_xs (b := b) hts hgv
  refine ⟨D, AC, f9, ⟨hD, fun k q hq => ?_⟩, vx_Zqof (hts _ (List.mem_of_getElem? (i := 627) (by decide +kernel))) (hts _ (List.mem_of_getElem? (i := 75) (by decide +kernel))) (hs _ (by decide +kernel)) hA, vx_Zqof (hts _ (List.mem_of_getElem? (i := 629) (by decide +kernel))) (hts _ (List.mem_of_getElem? (i := 75) (by decide +kernel))) (hs _ (by decide +kernel)) hA, ?_, ?_, ?_, ?_, st_nc hgv, ?_, hX, hb, hx9⟩
  · have hk : k < nA := by
      have := (List.getElem?_eq_some_iff.mp hq).1
      unfold tyL at this
      rw [List.length_map, List.length_range] at this
      exact this
    unfold tyL at hq
    rw [List.getElem?_map, List.getElem?_range hk] at hq
    cases Option.some.inj hq
    exact hAC k hk
  · exact fun q hq => va_Nw.of rfl (hts _ (st_nest _ (List.mem_map.mpr ⟨q, hq, rfl⟩)))
  · exact fun q hq => va_Nw.of rfl (hts _ (st_cast _ (List.mem_map.mpr ⟨q, hq, rfl⟩)))
  · exact fun q hq => va_Nw.of rfl (hts _ (st_decl _ (List.mem_map.mpr ⟨q, hq, rfl⟩)))
  · refine st_strs hts fun q hq => ?_
    rcases st_owner q hq with e | e
    · rw [e]; exact ⟨_, (hD 8 _ rfl).2.1⟩
    · rw [e]; exact st_ini (hts _ (List.mem_of_getElem? (i := 83) (by decide +kernel)))
  · exact fun ty hty => hts _ (st_ao _ (List.mem_map.mpr ⟨ty, hty, rfl⟩))
end START
def H0 (L : Nat) (xs : Nat → Int32) : Hp := (fun a k => if a = 0 then xs k else 0, fun _ _ => none, fun _ _ => 0, fun _ _ => 0, fun _ => 100, fun a => if a = 0 then L else 0, 1, 0)
def LawRuns : Prop := ∀ (L : Nat) (xs : Nat → Int32), L ≤ 5 → WP Gm j_Law_law 0 (entL [.inr (.inl (some 0))] 9) [] (H0 L xs) (fun r _ => r = .inl (some (.inl 1)))
theorem RX_cl (l : Launch) (D : va_G) (AC : Nat → ClassId) (b : Nat × (Nat → Nat)) (z L : Nat) (xs : Nat → Int32) : ClX Gm (RX l D AC b z L xs) := ⟨fun j pc ls st h Q k => so_all l D AC b z L xs j pc ls st h Q k, RX_mono l D AC b z L xs⟩
