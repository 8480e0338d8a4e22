/-! from the law's start into M (printed by wip/gen.py) -/
theorem tb_subA (ws : List Cond) (ps : List Nat) (hp : ws = ps.filterMap (fun i => lw_tbl[i]?)) : ∀ w ∈ ws, w ∈ lw_tbl := by
  intro w hw
  rw [hp] at hw
  obtain ⟨i, -, hi⟩ := List.mem_filterMap.mp hw
  exact List.mem_of_getElem? hi
theorem tb_lw {w : Cond} (h : w ∈ TBg) : w ∈ lw_tbl := (List.mem_filter.mp h).1
theorem st_nest : ∀ w ∈ kNest.map (fun q => Cond.methodLinkNest q.1 q.2.1 q.2.2.1 q.2.2.2), w ∈ lw_tbl := tb_subA _ [56, 69, 117, 284, 474, 621, 653, 809, 814] (by decide +kernel)
theorem st_cast : ∀ w ∈ kCast.map (fun q => Cond.castable q.1 q.2), w ∈ lw_tbl := tb_subA _ [351, 419, 496] (by decide +kernel)
theorem st_decl : ∀ w ∈ kDecl.map Cond.declares, w ∈ lw_tbl := tb_subA _ [352, 353, 354, 355, 356, 357] (by decide +kernel)
theorem st_str : ∀ w ∈ kStr.map (fun q => Cond.stringRef q.1 q.2.1 q.2.2), w ∈ lw_tbl := tb_subA _ [390, 426, 453, 503, 521, 561, 580, 585, 590, 596, 605, 611, 612, 646, 647, 751, 761, 772, 782, 835, 849] (by decide +kernel)
theorem st_ao : ∀ w ∈ kAO.map Cond.arrayOver, w ∈ lw_tbl := tb_subA _ [54, 67, 228] (by decide +kernel)
section START
variable {s : State} {args : Array Value}
theorem st_arr_p {ty : FieldType} (h : (Cond.arrayClass ty).before args s = true) (hr : ∀ cA, s.vm.findClass ("[" ++ ty.toString) = some cA → va_RA s cA ty) : ∃ cA : ClassId, ArrOfT s cA ty ∧ va_RA s cA ty := by
  obtain ⟨cA, kA, comp, h1, h2, h3⟩ := Cond.arrayClass_spec h
  exact ⟨cA, fun n z => ⟨fun k q => (by cases q), kA, h2, comp, h3⟩, hr cA h1⟩
theorem st_arr_o {C : String} (h : (Cond.arrayOver (.object C)).before args s = true) : ∃ cA : ClassId, ArrOfT s cA (.object C) ∧ va_RA s cA (.object C) := by
  obtain ⟨comp, cA, kA, h1, -, h3, h4, h5⟩ := Cond.arrayOver_spec h
  exact ⟨cA, fun n z => ⟨fun k q => (by cases q), kA, h3, comp, h4⟩, kA, comp, h3, h4, h1, h5⟩
theorem st_arr_a {t : FieldType} (h : (Cond.arrayOver (.array t)).before args s = true) : ∃ cA : ClassId, ArrOfT s cA (.array t) ∧ va_RA s cA (.array t) := by
  obtain ⟨comp, cA, kA, h1, -, h3, h4, h5⟩ := arrayOverA_spec h
  exact ⟨cA, fun n z => ⟨fun k q => (by cases q), kA, h3, comp, h4⟩, h5⟩
theorem st_AC (hts : ∀ w ∈ lw_tbl, w.before args s = true) : ∃ AC : Nat → ClassId, ∀ t, t < nA → ArrOfT s (AC t) (kA t) ∧ va_RA s (AC t) (kA t) := by
  obtain ⟨c0, h0⟩ := st_arr_p (hts (Cond.arrayClass .int) (List.mem_of_getElem? (i := 104) (by decide +kernel))) (fun cA h => h)
  obtain ⟨c1, h1⟩ := st_arr_p (hts (Cond.arrayClass .long) (List.mem_of_getElem? (i := 125) (by decide +kernel))) (fun cA h => h)
  obtain ⟨c2, h2⟩ := st_arr_o (hts (Cond.arrayOver (.object "Sharedair$Node")) (List.mem_of_getElem? (i := 54) (by decide +kernel)))
  obtain ⟨c3, h3⟩ := st_arr_o (hts (Cond.arrayOver (.object "Sharedair$Frame")) (List.mem_of_getElem? (i := 67) (by decide +kernel)))
  obtain ⟨c4, h4⟩ := st_arr_a (hts (Cond.arrayOver (.array .int)) (List.mem_of_getElem? (i := 228) (by decide +kernel)))
  refine ⟨fun t => match t with | 0 => c0 | 1 => c1 | 2 => c2 | 3 => c3 | _ => c4, fun t ht => ?_⟩
  match t, ht with
  | 0, _ => exact h0
  | 1, _ => exact h1
  | 2, _ => exact h2
  | 3, _ => exact h3
  | 4, _ => exact h4
  | n + 5, h => exact absurd h (by show ¬ n + 5 < 5; omega)
theorem st_D (hts : ∀ w ∈ lw_tbl, w.before args s = true) : ∃ D : va_G, ∀ (c : Nat) (q : vw_C), kN[c]? = some q → u_Kn s q.1 q.2.1 q.2.2 (D.1 c) (D.2 c) := by
  have htg : ∀ w ∈ TBg, w.before args s = true := fun w hw => hts w (tb_lw hw)
  have key : ∀ (c : Nat) (q : vw_C), kN[c]? = some q → ∃ (cC : ClassId) (iS : Nat → Nat), u_Kn s q.1 q.2.1 q.2.2 cC iS := by
    intro c q hq
    match c, hq with
    | 0, hq => cases Option.some.inj hq; exact u_known (ws := TBg) htg kin_0 (hts (Cond.instantiable RX0 5) (List.mem_of_getElem? (i := 68) (by decide +kernel)))
    | 1, hq => cases Option.some.inj hq; exact u_known (ws := TBg) htg kin_1 (hts (Cond.instantiable RX1 2) (List.mem_of_getElem? (i := 61) (by decide +kernel)))
    | 2, hq => cases Option.some.inj hq; exact u_known (ws := TBg) htg kin_2 (hts (Cond.instantiable RX2 3) (List.mem_of_getElem? (i := 48) (by decide +kernel)))
    | 3, hq => cases Option.some.inj hq; exact u_known (ws := TBg) htg kin_3 (hts (Cond.instantiable RX3 9) (List.mem_of_getElem? (i := 283) (by decide +kernel)))
    | 4, hq => cases Option.some.inj hq; exact u_known (ws := TBg) htg kin_4 (hts (Cond.instantiable RX4 16) (List.mem_of_getElem? (i := 55) (by decide +kernel)))
    | 5, hq => cases Option.some.inj hq; exact u_known (ws := TBg) htg kin_5 (hts (Cond.instantiable RX5 1) (List.mem_of_getElem? (i := 116) (by decide +kernel)))
    | 6, hq => cases Option.some.inj hq; exact u_known (ws := TBg) htg kin_6 (hts (Cond.instantiable RX6 6) (List.mem_of_getElem? (i := 222) (by decide +kernel)))
    | 7, hq => cases Option.some.inj hq; exact u_known (ws := TBg) htg kin_7 (hts (Cond.instantiable RX7 7) (List.mem_of_getElem? (i := 250) (by decide +kernel)))
    | 8, hq => cases Option.some.inj hq; exact u_known (ws := TBg) htg kin_8 (hts (Cond.instantiable RX8 5) (List.mem_of_getElem? (i := 40) (by decide +kernel)))
    | 9, hq => cases Option.some.inj hq; exact u_known (ws := TBg) htg (fun w hw => by cases hw) (hts (Cond.instantiable "java/lang/IllegalArgumentException" 6) (List.mem_of_getElem? (i := 350) (by decide +kernel)))
    | 10, hq => cases Option.some.inj hq; exact u_known (ws := TBg) htg (fun w hw => by cases hw) (hts (Cond.instantiable "java/lang/IllegalStateException" 6) (List.mem_of_getElem? (i := 418) (by decide +kernel)))
    | 11, hq => cases Option.some.inj hq; exact u_known (ws := TBg) htg (fun w hw => by cases hw) (hts (Cond.instantiable "java/lang/IndexOutOfBoundsException" 6) (List.mem_of_getElem? (i := 495) (by decide +kernel)))
    | n + 12, hq => simp [kN] at hq
  have k2 : ∀ c : Nat, ∃ x : ClassId × (Nat → Nat), ∀ q, kN[c]? = some q → u_Kn s q.1 q.2.1 q.2.2 x.1 x.2 := by
    intro c
    cases h : kN[c]? with
    | none => exact ⟨(0, fun _ => 0), fun q hq => by cases hq⟩
    | some q =>
      obtain ⟨cC, iS, h9⟩ := key c q h
      exact ⟨(cC, iS), fun q9 hq => by cases Option.some.inj hq; exact h9⟩
  exact ⟨(fun c => (Classical.choose (k2 c)).1, fun c => (Classical.choose (k2 c)).2), fun c q hq => Classical.choose_spec (k2 c) q hq⟩
theorem st_nc (hgv : (Jvm.Cond.and given_1 narrow_1).before args s = true) : ∀ q ∈ kNc, va_Nc q.1 q.2 s := by
  have hs := flat_of_before _ hgv
  exact List.forall_mem_cons.mpr ⟨va_Nc.of (hs _ (by decide +kernel)), List.forall_mem_cons.mpr ⟨va_Nc.of (hs _ (by decide +kernel)), List.forall_mem_cons.mpr ⟨va_Nc.of (hs _ (by decide +kernel)), List.forall_mem_cons.mpr ⟨va_Nc.of (hs _ (by decide +kernel)), List.forall_mem_cons.mpr ⟨va_Nc.of (hs _ (by decide +kernel)), List.forall_mem_cons.mpr ⟨va_Nc.of (hs _ (by decide +kernel)), fun _ h => absurd h List.not_mem_nil⟩⟩⟩⟩⟩⟩
theorem st_strs (hts : ∀ w ∈ lw_tbl, w.before args s = true) (hK : ∀ q ∈ kStr, ∃ c, s.vm.findClass q.1 = some c) : ∀ q ∈ kStr, ∃ sa, vk_R q.1 q.2.1 q.2.2 sa s := by
  intro q hq
  have h := hts _ (st_str _ (List.mem_map.mpr ⟨q, hq, rfl⟩))
  obtain ⟨c, hc⟩ := hK q hq
  obtain ⟨-, -, -, sa, -, -, -, -, -, he⟩ := Cond.stringRef_spec hc h
  exact ⟨sa, vk_R.of h he⟩
theorem st_owner : ∀ q ∈ kStr, q.1 = RX8 := by decide +kernel
theorem st_env {b L : Nat} {xs : Nat → Int32} (hts : ∀ w ∈ lw_tbl, w.before args s = true) (hgv : (Jvm.Cond.and given_1 narrow_1).before args s = true) (hX : va_X b L xs s s.heap) (hb : b < s.heap.size) : ∃ (D : va_G) (AC : Nat → ClassId), Env0 D AC b s.heap.size L xs s := by
  obtain ⟨D, hD⟩ := st_D hts
  obtain ⟨AC, hAC⟩ := st_AC hts
  have hs := flat_of_before _ hgv
  have hA : ∀ a : Nat, a < s.heap.size → ¬ Az s.heap.size a := fun a ha h => absurd h (by unfold Az; omega)
  refine ⟨D, AC, ⟨hD, fun k q hq => ?_⟩, vx_Zqof (hts _ (List.mem_of_getElem? (i := 376) (by decide +kernel))) (hts _ (List.mem_of_getElem? (i := 31) (by decide +kernel))) (hs _ (by decide +kernel)) hA, vx_Zqof (hts _ (List.mem_of_getElem? (i := 378) (by decide +kernel))) (hts _ (List.mem_of_getElem? (i := 31) (by decide +kernel))) (hs _ (by decide +kernel)) hA, ?_, ?_, ?_, ?_, st_nc hgv, ?_, hX, hb⟩
  · have hk : k < nA := by
      have := (List.getElem?_eq_some_iff.mp hq).1
      unfold tyL at this
      rw [List.length_map, List.length_range] at this
      exact this
    unfold tyL at hq
    rw [List.getElem?_map, List.getElem?_range hk] at hq
    cases Option.some.inj hq
    exact hAC k hk
  · exact fun q hq => va_Nw.of rfl (hts _ (st_nest _ (List.mem_map.mpr ⟨q, hq, rfl⟩)))
  · exact fun q hq => va_Nw.of rfl (hts _ (st_cast _ (List.mem_map.mpr ⟨q, hq, rfl⟩)))
  · exact fun q hq => va_Nw.of rfl (hts _ (st_decl _ (List.mem_map.mpr ⟨q, hq, rfl⟩)))
  · refine st_strs hts fun q hq => ?_
    rw [st_owner q hq]
    exact ⟨_, (hD 8 _ rfl).2.1⟩
  · exact fun ty hty => hts _ (st_ao _ (List.mem_map.mpr ⟨ty, hty, rfl⟩))
end START
def H0 (L : Nat) (xs : Nat → Int32) : Hp := (fun a k => if a = 0 then xs k else 0, fun _ _ => none, fun _ _ => 0, fun _ _ => 0, fun _ => 100, fun a => if a = 0 then L else 0, 1, 0)
def LawRuns : Prop := ∀ (L : Nat) (xs : Nat → Int32), L ≤ 260 → WP Gm j_Law_law 0 (entL [.inr (.inl (some 0))] 10) [] (H0 L xs) (fun r _ => r = .inl (some (.inl 1)))
theorem RX_cl (l : Launch) (D : va_G) (AC : Nat → ClassId) (b z L : Nat) (xs : Nat → Int32) : ClX Gm (RX l D AC b z L xs) := ⟨fun j pc ls st h Q k => so_all l D AC b z L xs j pc ls st h Q k, RX_mono l D AC b z L xs⟩
