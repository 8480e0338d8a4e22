/-! new int[n][k] -/
theorem vr_outer (c : ClassId) (N h0 : Nat) : ∀ i : Nat, Jvm.Free.Multi.outerC c N h0 i = arrV c N (fun j => va_rf (if j < i then some (h0 + 1 + j) else none))
  | 0 => by
    show ({ cls := c, slots := Array.replicate N .null, vm := .none } : Cell) = _
    rw [arrV_new]
    refine congrArg (arrV c N) (funext fun j => ?_)
    simp [va_rf]
  | i + 1 => by
    show (Jvm.Free.Multi.outerC c N h0 i).setSlot i (.ref (h0 + 1 + i)) = _
    rw [vr_outer c N h0 i, arrV_store]
    refine congrArg (arrV c N) (funext fun j => ?_)
    by_cases e : j = i
    · subst e
      simp [updV, va_rf]
    · by_cases h : j < i
      · simp [updV, e, h, Nat.lt_succ_of_lt h]
      · simp [updV, e, h, show ¬ j < i + 1 by omega]
section MULTI
variable (l : Launch) (D : va_G) (AC : Nat → ClassId) (b : Nat × (Nat → Nat)) (z L : Nat) (xs : Nat → Int32) (G : Pg) {j pc : Nat}
theorem kd_hM (h : Hp) (t t2 N K a : Nat) : kd (hM h t t2 N K) a = if a = nx h then 100 + t else if nx h ≤ a ∧ a ≤ nx h + N then 100 + t2 else kd h a := rfl
theorem ln_hM (h : Hp) (t t2 N K a : Nat) : ln (hM h t t2 N K) a = if a = nx h then N else if nx h ≤ a ∧ a ≤ nx h + N then K else ln h a := rfl
theorem gI_hM (h : Hp) (t t2 N K a k : Nat) : gI (hM h t t2 N K) a k = if nx h ≤ a ∧ a ≤ nx h + N then 0 else gI h a k := rfl
theorem gL_hM (h : Hp) (t t2 N K a k : Nat) : gL (hM h t t2 N K) a k = if nx h ≤ a ∧ a ≤ nx h + N then 0 else gL h a k := rfl
theorem gD_hM (h : Hp) (t t2 N K a k : Nat) : gD (hM h t t2 N K) a k = if nx h ≤ a ∧ a ≤ nx h + N then 0 else gD h a k := rfl
theorem gR_hM (h : Hp) (t t2 N K a k : Nat) : gR (hM h t t2 N K) a k = if a = nx h then (if k < N then some (nx h + 1 + k) else none) else if nx h ≤ a ∧ a ≤ nx h + N then none else gR h a k := rfl
theorem nx_hM (h : Hp) (t t2 N K : Nat) : nx (hM h t t2 N K) = nx h + 1 + N := rfl
theorem sc_hM (h : Hp) (t t2 N K : Nat) : sc (hM h t t2 N K) = sc h + (N + N * K) := rfl
theorem cE_hM {h : Hp} {t t2 N K a : Nat} (ha : a < nx h) : cE AC b z (hM h t t2 N K) a = cE AC b z h a := by
  have n1 : ¬ a = nx h := by omega
  have n2 : ¬ (nx h ≤ a ∧ a ≤ nx h + N) := by omega
  refine cE_cong AC b z (by rw [kd_hM, if_neg n1, if_neg n2]) (by rw [ln_hM, if_neg n1, if_neg n2]) ?_ ?_ ?_ ?_
  · funext k; rw [gI_hM, if_neg n2]
  · funext k; rw [gR_hM, if_neg n1, if_neg n2]
  · funext k; rw [gL_hM, if_neg n2]
  · funext k; rw [gD_hM, if_neg n2]
theorem Bd_hM {h : Hp} {t t2 N K : Nat} (hr : nx h + (1 + N) ≤ cM + 1 ∧ sc h + (N + N * K) ≤ sM) (hb : Bd L xs h) : Bd L xs (hM h t t2 N K) := by
  obtain ⟨h1, h2, h3, h4, h5, h6⟩ := hb
  have n1 : ¬ (0 : Nat) = nx h := by omega
  have n2 : ¬ (nx h ≤ 0 ∧ 0 ≤ nx h + N) := by omega
  refine ⟨by rw [nx_hM]; omega, by rw [sc_hM]; exact hr.2, by rw [nx_hM]; omega, fun j hj => by rw [gI_hM, if_neg n2]; exact h4 j hj, by rw [ln_hM, if_neg n1, if_neg n2]; exact h5, by rw [kd_hM, if_neg n1, if_neg n2]; exact h6⟩
theorem sn_multi {t t2 idx : Nat} (hd : decode (mC j) pc = .ok (.multianewarray idx 2, 4)) (ht : t < nA) (hk : kA t = .array .int) (he : kE t = 1) (ht2 : t2 < nA) (hk2 : kA t2 = .int) (he2 : kE t2 = 0) (w1 : Cond.classLink (mO j) idx ("[" ++ (FieldType.array .int).toString) ∈ TBg) (w2 : Cond.arrayClass .int ∈ TBg) (w3 : FieldType.array .int ∈ kAO) : Snd l D AC b z L xs G j pc (oMul cM sM t t2 (pc + 4)) := by
  intro ls st h Q kk p e R s m args below meth c QQ X E H locs lsR cells slots hP hS hB hL
  unfold oMul at kk
  split at kk
  · split at kk
    · rename_i k i r hR
      obtain ⟨hR, hR4⟩ := and2 hR
      obtain ⟨hR, hR3⟩ := and2 hR
      obtain ⟨hR1, hR2⟩ := and2 hR
      obtain ⟨hR5, hR6⟩ := and2 hR3
      obtain ⟨r1, r2⟩ := okR_spec hR4
      have i1 : 0 ≤ i := of_decide_eq_true hR1
      have i2 : i.toNatClampNeg ≤ 1000 := of_decide_eq_true hR2
      have k1 : 0 ≤ k := of_decide_eq_true hR5
      have k2 : k.toNatClampNeg ≤ 1000 := of_decide_eq_true hR6
      have hz : z ≤ s.heap.size := X.2.2.2.2.2.2.2.2.2.2.1
      obtain ⟨-, -, -, g1, g2, -⟩ := X.2.2.2.2.2.2.2.2.2.2
      refine w_facts hz fun f1 f2 f3 => ?_
      have htp := top_size D AC b z L xs hz hP hS hB f2
      obtain ⟨b1, b2, b3⟩ := hB
      have hov : (Cond.arrayOver (.array .int)).before args s = true := X.2.2.2.2.2.2.2.2.2.1.2.2.2.2.2.2.2.2.1 _ w3
      have hra := arr_name D X.2.2.2.2.2.2.2.2.2.1.1 ht
      have hra2 := arr_name D X.2.2.2.2.2.2.2.2.2.1.1 ht2
      rw [hk] at hra
      rw [hk2] at hra2
      generalize hN : i.toNatClampNeg = N at *
      generalize hM9 : k.toNatClampNeg = K at *
      intro T hT Y
      obtain ⟨vm₁, cA, comp, -, fA, fC, -, -, X', step⟩ := Y.multianewarray2F X.1 X.2.2.2.2.1 (X.2.2.2.2.2.1 _ w1) hov (X.2.2.2.2.2.1 _ w2) (g := F0 m pc lsR (.int k :: .int i :: r.map (toV b z))) rfl (by rw [X.2.1]; exact hd) rfl (Int32.not_lt.mpr i1) (Int32.not_lt.mpr k1) (by rw [hN]; omega) (by rw [hM9]; show K * 4 ≤ _; omega) (by rw [hM9]; omega) rfl rfl (by rw [hN]; omega) (by rw [hN, hM9]; omega)
      rw [hN, hM9] at X' step
      have e1 : cA = AC t := Option.some.inj (fA.symm.trans hra)
      have e2 : comp = AC t2 := Option.some.inj (fC.symm.trans hra2)
      subst e1
      subst e2
      generalize hF : Jvm.Free.Multi.fill (T.setVm vm₁) (AC t) (AC t2) N K (defaultValue .int) N = F at X' step
      have hTh : (T.setVm vm₁).heap = H := hT
      obtain ⟨q1, q2, -, -⟩ := Jvm.Free.Multi.fill_facts (T.setVm vm₁) (AC t) (AC t2) N K (defaultValue .int) N
      rw [hF, hTh] at q1 q2
      have hold : ∀ x : Nat, x < H.size → F.heap[x]? = H[x]? := fun x hx => by
        have := Jvm.Free.Multi.fill_old (T.setVm vm₁) (AC t) (AC t2) N K (defaultValue .int) (a := x) (by rw [hTh]; exact hx) N
        rw [hF, hTh] at this
        exact this
      have hrow : ∀ y : Nat, y < N → F.heap[H.size + 1 + y]? = some (Jvm.Free.Multi.innerC (AC t2) K (defaultValue .int)) := fun y hy => by
        have := Jvm.Free.Multi.fill_inner (T.setVm vm₁) (AC t) (AC t2) N K (defaultValue .int) N y hy
        rw [hF, hTh] at this
        exact this
      have hP2 : va_P D kN (wl AC b z (hM h t t2 N K)) F.heap := by
        intro k9 q9 hq9
        have hk9 : k9 + 1 < nx h + 1 + N := by
          have := (List.getElem?_eq_some_iff.mp hq9).1
          unfold wl at this
          rw [List.length_map, List.length_range, nx_hM] at this
          omega
        rw [wl_get AC b z (by rw [nx_hM]; exact hk9)] at hq9
        rw [← Option.some.inj hq9]
        rcases Nat.lt_trichotomy (k9 + 1) (nx h) with c1 | c1 | c1
        · rw [cE_hM AC b z c1]
          exact (hP k9 _ (wl_get AC b z c1)).kept (hold _ (by show z + k9 < H.size; omega))
        · have hz9 : z + k9 = H.size := by omega
          rw [cE_arr AC b z (t := t) (by rw [kd_hM, if_pos c1]), ln_hM, if_pos c1, aV_ref b z he]
          show F.heap[z + k9]? = some (vp_cell _ _)
          rw [hz9, q2, vr_outer, vp_cell_q]
          refine congrArg (fun f => some (arrV _ _ f)) (funext fun y => ?_)
          rw [gR_hM, if_pos c1]
          by_cases hy : y < N
          · rw [if_pos hy, if_pos hy]
            have e9 : adr b z (nx h + 1 + y) = H.size + 1 + y := by
              obtain ⟨w, hw⟩ : ∃ w, nx h + 1 + y = w + 1 := ⟨nx h + y, by omega⟩
              have h0 : cM ≤ 100000000 := by decide
              rw [hw, adr_s b z (by omega)]
              omega
            show _ = va_rf (some (adr b z (nx h + 1 + y)))
            rw [e9]
          · rw [if_neg hy, if_neg hy]
            rfl
        · have n1 : ¬ k9 + 1 = nx h := by omega
          have n2 : nx h ≤ k9 + 1 ∧ k9 + 1 ≤ nx h + N := by omega
          rw [cE_arr AC b z (t := t2) (by rw [kd_hM, if_neg n1, if_pos n2]), ln_hM, if_neg n1, if_pos n2, aV_int b z he2]
          show F.heap[z + k9]? = some (vp_cell _ _)
          have hz9 : z + k9 = H.size + 1 + (k9 - nx h) := by omega
          rw [hz9, hrow _ (by omega), vp_cell_i]
          show some ({ cls := AC t2, slots := Array.replicate K (defaultValue .int), vm := .none } : Cell) = _
          rw [arrV_new]
          refine congrArg (fun f => some (arrV _ _ f)) (funext fun y => ?_)
          rw [gI_hM, if_pos n2]
          rfl
      have hS2 : va_S (Az z) s.heap F.heap locs := ⟨by rw [q1]; omega, fun x h1 h2 => (hold x (Nat.lt_of_lt_of_le h1 f1)).trans (hS.2.1 x h1 h2), hS.2.2⟩
      obtain ⟨t2', a1, b9⟩ := kk p e R s m args below meth c QQ X E F.heap locs lsR (cells + 1 + N) (slots + N + N * K) hP2 hS2 ⟨by rw [nx_hM]; omega, by rw [sc_hM]; omega, Bd_hM L xs ⟨r1, r2⟩ b3⟩ hL F rfl X'
      refine ⟨t2', step t2' ?_, b9⟩
      have e9 : Value.ref T.heap.size = toV b z (.inr (.inl (some (nx h)))) := by rw [hT, htp, top_ref b z b3.2.2.1 (nx_low L xs b3)]
      rw [e9]
      exact a1
    · exact kk.elim
  · exact kk.elim
end MULTI
