/-! more handlers are sound -/
section MORE
variable (l : Launch) (D : va_G) (AC : Nat → ClassId) (b : Nat × (Nat → Nat)) (z L : Nat) (xs : Nat → Int32) (G : Pg) {j pc : Nat}
theorem sn_dupx1 (hd : decode (mC j) pc = .ok (.dup_x1, 1)) : Snd l D AC b z L xs G j pc (oDupX1 (pc + 1)) := by
  intro ls st h Q kk p e R s m args below meth c QQ C E H locs lsR cells slots hP hS hB hL
  unfold oDupX1 at kk
  split at kk
  · split at kk
    · exact kk.elim
    · rename_i hw
      simp only [Bool.or_eq_true, not_or] at hw
      exact lv_dup_x1 C.1 C.2.1 hd (by rw [cat_toV]; unfold catV; rw [if_neg hw.1]) (by rw [cat_toV]; unfold catV; rw [if_neg hw.2]) (kk p e R s m args below meth c QQ C E H locs lsR cells slots hP hS hB hL)
  · exact kk.elim
theorem sn_pop2 (hd : decode (mC j) pc = .ok (.pop2, 1)) : Snd l D AC b z L xs G j pc (oPop2 (pc + 1)) := by
  intro ls st h Q kk p e R s m args below meth c QQ C E H locs lsR cells slots hP hS hB hL
  unfold oPop2 at kk
  split at kk
  · split at kk
    · rename_i hw
      exact lv_pop2_2 C.1 C.2.1 hd (by rw [cat_toV]; unfold catV; rw [if_pos hw]) (kk p e R s m args below meth c QQ C E H locs lsR cells slots hP hS hB hL)
    · exact kk.elim
  · exact kk.elim
theorem sn_i2b (hd : decode (mC j) pc = .ok (.i2b, 1)) : Snd l D AC b z L xs G j pc (oI2B (pc + 1)) := by
  intro ls st h Q kk p e R s m args below meth c QQ C E H locs lsR cells slots hP hS hB hL
  unfold oI2B at kk
  split at kk
  · exact lv_i2b C.1 C.2.1 hd rfl (kk p e R s m args below meth c QQ C E H locs lsR cells slots hP hS hB hL)
  · exact kk.elim
theorem toV_r (r : Option Nat) : toV b z (.inr (.inl r)) = va_rf (r.map (adr b z)) := rfl
theorem dif_ne {h : Hp} (hb : Bd L xs h) (hX : ∀ k : Nat, k = eD → b.2 (k - 1000000001) < z) {x y : Option Nat} (hd : dif h x y = true) : ¬ x.map (adr b z) = y.map (adr b z) := by
  have key : ∀ a : Nat, 1 ≤ a → a < nx h → ¬ adr b z a = adr b z eD := by
    intro a h1 h2 e
    obtain ⟨i, rfl⟩ : ∃ i, a = i + 1 := ⟨a - 1, by omega⟩
    rw [adr_s b z (id_low L xs hb h2), show eD = 1000000001 + 0 from rfl, adr_x b z] at e
    have := hX eD rfl
    rw [show eD - 1000000001 = 0 from rfl] at this
    omega
  unfold dif at hd
  split at hd
  · rename_i a c
    simp only [Bool.or_eq_true, decide_eq_true_eq] at hd
    intro q
    have q1 : adr b z a = adr b z c := Option.some.inj q
    rcases hd with (⟨d1, d2, d3⟩ | ⟨d1, d2, d3⟩) | ⟨d1, d2, d3, d4, d5⟩
    · rw [d3] at q1; exact key a d1 d2 q1
    · rw [d3] at q1; exact key c d1 d2 q1.symm
    · obtain ⟨i, rfl⟩ : ∃ i, a = i + 1 := ⟨a - 1, by omega⟩
      obtain ⟨k, rfl⟩ : ∃ k, c = k + 1 := ⟨c - 1, by omega⟩
      rw [adr_s b z (id_low L xs hb d2), adr_s b z (id_low L xs hb d4)] at q1
      omega
  · cases hd
theorem sn_cast {ci N idx : Nat} {C : String} {T : u_T} (hd : decode (mC j) pc = .ok (.checkcast idx, 3)) (hc : kN[ci]? = some (C, T, N)) (h100 : ci < 100) (w1 : Cond.classLink (mO j) idx C ∈ TBg) (w2 : Cond.instantiable C N ∈ TBg) : Snd l D AC b z L xs G j pc (oCast ci (pc + 3)) := by
  intro ls st h Q kk p e R s m args below meth c QQ X E H locs lsR cells slots hP hS hB hL
  unfold oCast at kk
  split at kk
  · split at kk
    · rename_i a r hK
      obtain ⟨hK, -⟩ := and2 hK
      obtain ⟨h2, h3⟩ := isK_spec hK
      have go := kk p e R s m args below meth c QQ X E H locs lsR cells slots hP hS hB hL
      obtain ⟨i, rfl⟩ := id_pos L xs hB.2.2 h3 h100
      simp only [List.map_cons, tvs b z (id_low L xs hB.2.2 h2)] at go ⊢
      have he := wl_get AC b z h2
      rw [cE_obj AC b z hc h3 h100] at he
      obtain ⟨cC, hcC⟩ := classAt_of (X.2.2.2.2.2.1 _ w2)
      exact va_castS X.1 X.2.1 X.2.2.2.2.1 (X.2.2.2.2.2.1 _ w1) hcC (va_recv (D := D) X.2.2.2.2.2.2.2.2.2.1.1 hP hc he) hd go
    · exact kk.elim
  · exact kk.elim
theorem sn_inst {ci N idx : Nat} {C : String} {T : u_T} (hd : decode (mC j) pc = .ok (.instanceof idx, 3)) (hc : kN[ci]? = some (C, T, N)) (h100 : ci < 100) (w1 : Cond.classLink (mO j) idx C ∈ TBg) (w2 : Cond.instantiable C N ∈ TBg) : Snd l D AC b z L xs G j pc (oInst ci (pc + 3)) := by
  intro ls st h Q kk p e R s m args below meth c QQ X E H locs lsR cells slots hP hS hB hL
  unfold oInst at kk
  split at kk
  · split at kk
    · rename_i a r hK
      obtain ⟨hK, -⟩ := and2 hK
      obtain ⟨h2, h3⟩ := isK_spec hK
      have go := kk p e R s m args below meth c QQ X E H locs lsR cells slots hP hS hB hL
      obtain ⟨i, rfl⟩ := id_pos L xs hB.2.2 h3 h100
      simp only [List.map_cons, tvs b z (id_low L xs hB.2.2 h2)] at go ⊢
      have he := wl_get AC b z h2
      rw [cE_obj AC b z hc h3 h100] at he
      obtain ⟨cC, hcC⟩ := classAt_of (X.2.2.2.2.2.1 _ w2)
      exact va_instS X.1 X.2.1 X.2.2.2.2.1 (X.2.2.2.2.2.1 _ w1) hcC (va_recv (D := D) X.2.2.2.2.2.2.2.2.2.1.1 hP hc he) hd go
    · exact kk.elim
  · exact kk.elim
theorem sn_castA {t idx : Nat} {nm : String} (hd : decode (mC j) pc = .ok (.checkcast idx, 3)) (ht : t < nA) (hk : kA t = .int) (hn : nm = "[I") (w1 : Cond.classLink (mO j) idx nm ∈ TBg) : Snd l D AC b z L xs G j pc (oCast (100 + t) (pc + 3)) := by
  intro ls st h Q kk p e R s m args below meth c QQ X E H locs lsR cells slots hP hS hB hL
  unfold oCast at kk
  split at kk
  · split at kk
    · rename_i a r hK
      obtain ⟨hK, h0⟩ := and2 hK
      have h0 : a ≠ 0 := of_decide_eq_true h0
      obtain ⟨h2, h3⟩ := isK_spec hK
      have go := kk p e R s m args below meth c QQ X E H locs lsR cells slots hP hS hB hL
      obtain ⟨i, rfl⟩ : ∃ i, a = i + 1 := ⟨a - 1, by omega⟩
      simp only [List.map_cons, tvs b z (id_low L xs hB.2.2 h2)] at go ⊢
      have he := wl_get AC b z h2
      rw [cE_arr AC b z h3] at he
      refine va_castA (D := D) (cl := kN) X.1 X.2.1 X.2.2.2.2.1 (X.2.2.2.2.2.1 _ w1) hP i he ?_ hd go
      have hra := arr_name D X.2.2.2.2.2.2.2.2.2.1.1 ht
      rw [hk] at hra
      subst hn
      exact hra
    · exact kk.elim
  · exact kk.elim
theorem sn_gets {idx : Nat} {q : String × String × String × MV} (hq : q ∈ kSt) (hd : decode (mC j) pc = .ok (.getstatic idx, 3)) (w1 : Cond.fieldLink (mO j) idx q.1 q.2.1 q.2.2.1 ∈ TBg) : Snd l D AC b z L xs G j pc (oSt q.2.2.2 (pc + 3)) := by
  intro ls st h Q kk p e R s m args below meth c QQ X E H locs lsR cells slots hP hS hB hL
  have hE := X.2.2.2.2.2.2.2.2.2.1
  exact va_gets X.1 X.2.1 (hE.tl.1 q hq) hS X.2.2.2.2.1 (X.2.2.2.2.2.1 _ w1) (fun _ h9 => h9) hd (kk p e R s m args below meth c QQ X E H locs lsR cells slots hP hS hB hL)
theorem sn_acmpE {off : Int} {tgt : Nat} (hd : decode (mC j) pc = .ok (.if_acmp .eq off, 3)) (ht : (pc : Int) + off = (tgt : Int)) : Snd l D AC b z L xs G j pc (oIfA tgt (pc + 3)) := by
  intro ls st h Q kk p e R s m args below meth c QQ X E H locs lsR cells slots hP hS hB hL
  have hE := X.2.2.2.2.2.2.2.2.2.1
  unfold oIfA at kk
  split at kk
  · rename_i y x r
    refine lv_acmp_eq (rx := x.map (adr b z)) (ry := y.map (adr b z)) X.1 X.2.1 hd ht (fun he => ?_) (fun he => ?_)
    · split at kk
      · exact kk p e R s m args below meth c QQ X E H locs lsR cells slots hP hS hB hL
      · split at kk
        · rename_i hxy hdf
          exact absurd he (dif_ne b z L xs hB.2.2 (fun k hk => by rw [hk]; exact hE.tl.2.2.2.1) hdf)
        · exact kk.elim
    · split at kk
      · rename_i hxy
        exact absurd (by rw [hxy]) he
      · split at kk
        · exact kk p e R s m args below meth c QQ X E H locs lsR cells slots hP hS hB hL
        · exact kk.elim
  · exact kk.elim
theorem sn_acmpN {off : Int} {tgt : Nat} (hd : decode (mC j) pc = .ok (.if_acmp .ne off, 3)) (ht : (pc : Int) + off = (tgt : Int)) : Snd l D AC b z L xs G j pc (oIfA (pc + 3) tgt) := by
  intro ls st h Q kk p e R s m args below meth c QQ X E H locs lsR cells slots hP hS hB hL
  have hE := X.2.2.2.2.2.2.2.2.2.1
  unfold oIfA at kk
  split at kk
  · rename_i y x r
    refine lv_acmp_ne (rx := x.map (adr b z)) (ry := y.map (adr b z)) X.1 X.2.1 hd ht (fun he => ?_) (fun he => ?_)
    · split at kk
      · rename_i hxy
        exact absurd (by rw [hxy]) he
      · split at kk
        · exact kk p e R s m args below meth c QQ X E H locs lsR cells slots hP hS hB hL
        · exact kk.elim
    · split at kk
      · exact kk p e R s m args below meth c QQ X E H locs lsR cells slots hP hS hB hL
      · split at kk
        · rename_i hxy hdf
          exact absurd he (dif_ne b z L xs hB.2.2 (fun k hk => by rw [hk]; exact hE.tl.2.2.2.1) hdf)
        · exact kk.elim
  · exact kk.elim
theorem sn_alenE {t : Nat} (hd : decode (mC j) pc = .ok (.arraylength, 1)) (ht : t < nA) (h0 : t ≠ 0) : Snd l D AC b z L xs G j pc (oLenE t (pc + 1)) := by
  intro ls st h Q kk p e R s m args below meth c QQ X E H locs lsR cells slots hP hS hB hL
  have hE := X.2.2.2.2.2.2.2.2.2.1
  unfold oLenE at kk
  split at kk
  · split at kk
    · rename_i a r ha
      subst ha
      have e9 : toV b z (.inr (.inl (some eD))) = .ref (b.2 0) := by
        show Value.ref (adr b z eD) = _
        rw [show eD = 1000000001 + 0 from rfl, adr_x b z]
      have go := kk p e R s m args below meth c QQ X E H locs lsR cells slots hP hS hB hL
      simp only [List.map_cons, e9]
      exact va_tlen X.1 X.2.1 hE.tl.2.2.1 hS (v := 0) rfl hd go
    · split at kk
      · rename_i a r _ hK
        obtain ⟨h3, h4⟩ := isK_spec hK
        cases a with
        | zero => rw [hB.2.2.2.2.2.2.2] at h4; omega
        | succ q =>
          simp only [List.map_cons, tvs b z (id_low L xs hB.2.2 h3)]
          have hg := wl_get AC b z h3
          rw [cE_arr AC b z h4] at hg
          exact va_alen (D := D) X.1 X.2.1 X.2.2.2.2.2.2.2.2.2.1.1 hP q t hg (tyL_at AC ht) rfl hd (kk p e R s m args below meth c QQ X E H locs lsR cells slots hP hS hB hL)
      · exact kk.elim
  · exact kk.elim
theorem sn_zaload {t : Nat} (hd : decode (mC j) pc = .ok (.baload, 1)) (ht : t < nA) (hk : kA t = .boolean) (he : kE t = 0) (h0 : t ≠ 0) : Snd l D AC b z L xs G j pc (oIal t (pc + 1)) := by
  intro ls st h Q kk p e R s m args below meth c QQ X E H locs lsR cells slots hP hS hB hL
  unfold oIal at kk
  split at kk
  · split at kk
    · rename_i i a r hK
      obtain ⟨h1, h2⟩ := and2 hK
      obtain ⟨h3, h4⟩ := isK_spec h1
      have h5 := inL_spec h2
      cases a with
      | zero => rw [hB.2.2.2.2.2.2.2] at h4; omega
      | succ q =>
        simp only [List.map_cons, tvs b z (id_low L xs hB.2.2 h3)]
        have hg := wl_get AC b z h3
        rw [cE_arr AC b z h4, aV_int b z he] at hg
        exact va_zald (D := D) X.1 X.2.1 X.2.2.2.2.2.2.2.2.2.1.1 hP q t hg (by rw [tyL_at AC ht, hk]) h5 hd (kk p e R s m args below meth c QQ X E H locs lsR cells slots hP hS hB hL)
    · exact kk.elim
  · exact kk.elim
theorem sn_baload {t : Nat} (hd : decode (mC j) pc = .ok (.baload, 1)) (ht : t < nA) (hk : kA t = .byte) (he : kE t = 0) (h0 : t ≠ 0) : Snd l D AC b z L xs G j pc (oIal t (pc + 1)) := by
  intro ls st h Q kk p e R s m args below meth c QQ X E H locs lsR cells slots hP hS hB hL
  unfold oIal at kk
  split at kk
  · split at kk
    · rename_i i a r hK
      obtain ⟨h1, h2⟩ := and2 hK
      obtain ⟨h3, h4⟩ := isK_spec h1
      have h5 := inL_spec h2
      cases a with
      | zero => rw [hB.2.2.2.2.2.2.2] at h4; omega
      | succ q =>
        simp only [List.map_cons, tvs b z (id_low L xs hB.2.2 h3)]
        have hg := wl_get AC b z h3
        rw [cE_arr AC b z h4, aV_int b z he] at hg
        exact va_bald (D := D) X.1 X.2.1 X.2.2.2.2.2.2.2.2.2.1.1 hP q t hg (by rw [tyL_at AC ht, hk]) h5 hd (kk p e R s m args below meth c QQ X E H locs lsR cells slots hP hS hB hL)
    · exact kk.elim
  · exact kk.elim
theorem upd_sI {h : Hp} {q i : Nat} {x : Int32} : gI (sI h q i x) q = upd (gI h q) i x := by
  funext k
  rw [gI_sI]
  unfold upd
  by_cases e : k = i
  · rw [if_pos ⟨rfl, e⟩, if_pos e]
  · rw [if_neg (fun w => e w.2), if_neg e]
theorem sn_zastore {t : Nat} (hd : decode (mC j) pc = .ok (.bastore, 1)) (ht : t < nA) (hk : kA t = .boolean) (he : kE t = 0) (h0 : t ≠ 0) : Snd l D AC b z L xs G j pc (oZas t (pc + 1)) := by
  intro ls st h Q kk p e R s m args below meth c QQ X E H locs lsR cells slots hP hS hB hL
  unfold oZas at kk
  split at kk
  · split at kk
    · rename_i x i a r hK
      obtain ⟨hK, hx⟩ := and2 hK
      obtain ⟨h1, h2⟩ := and2 hK
      obtain ⟨h3, h4⟩ := isK_spec h1
      have h5 := inL_spec h2
      cases a with
      | zero => rw [hB.2.2.2.2.2.2.2] at h4; omega
      | succ q =>
        have hnx : vp_nar .boolean x = x := by
          simp only [Bool.or_eq_true, decide_eq_true_eq] at hx
          rcases hx with rfl | rfl <;> decide
        simp only [List.map_cons, tvs b z (id_low L xs hB.2.2 h3)]
        have hg := wl_get AC b z h3
        rw [cE_arr AC b z h4, aV_int b z he] at hg
        refine va_zast (D := D) X.1 X.2.1 X.2.2.2.2.2.2.2.2.2.1.1 hP (wl_D AC b z h) hS q t hg (by rw [tyL_at AC ht, hk]) h5 hd (fun H1 locs1 hP1 _ hS1 => ?_)
        rw [hnx, wl_set AC b z (h' := sI h (q + 1) i.toNatClampNeg x) h3 rfl ?_ (fun c9 h9 => cE_sI AC b z h9)] at hP1
        · exact kk p e R s m args below meth c QQ X E H1 locs1 lsR cells slots hP1 hS1 ⟨hB.1, hB.2.1, Bd_sI L xs (Nat.succ_ne_zero q) hB.2.2⟩ hL
        · rw [cE_arr AC b z (h := sI h (q + 1) i.toNatClampNeg x) h4, aV_int b z he, upd_sI]
          rfl
    · exact kk.elim
  · exact kk.elim
theorem sn_bastore {t : Nat} (hd : decode (mC j) pc = .ok (.bastore, 1)) (ht : t < nA) (hk : kA t = .byte) (he : kE t = 0) (h0 : t ≠ 0) : Snd l D AC b z L xs G j pc (oBas t (pc + 1)) := by
  intro ls st h Q kk p e R s m args below meth c QQ X E H locs lsR cells slots hP hS hB hL
  unfold oBas at kk
  split at kk
  · split at kk
    · rename_i x i a r hK
      obtain ⟨hK, hx⟩ := and2 hK
      obtain ⟨h1, h2⟩ := and2 hK
      obtain ⟨h3, h4⟩ := isK_spec h1
      have h5 := inL_spec h2
      cases a with
      | zero => rw [hB.2.2.2.2.2.2.2] at h4; omega
      | succ q =>
        have hnx : vp_nar .byte x = x := of_decide_eq_true hx
        simp only [List.map_cons, tvs b z (id_low L xs hB.2.2 h3)]
        have hg := wl_get AC b z h3
        rw [cE_arr AC b z h4, aV_int b z he] at hg
        refine va_bast (D := D) X.1 X.2.1 X.2.2.2.2.2.2.2.2.2.1.1 hP (wl_D AC b z h) hS q t hg (by rw [tyL_at AC ht, hk]) h5 hd (fun H1 locs1 hP1 _ hS1 => ?_)
        rw [hnx, wl_set AC b z (h' := sI h (q + 1) i.toNatClampNeg x) h3 rfl ?_ (fun c9 h9 => cE_sI AC b z h9)] at hP1
        · exact kk p e R s m args below meth c QQ X E H1 locs1 lsR cells slots hP1 hS1 ⟨hB.1, hB.2.1, Bd_sI L xs (Nat.succ_ne_zero q) hB.2.2⟩ hL
        · rw [cE_arr AC b z (h := sI h (q + 1) i.toNatClampNeg x) h4, aV_int b z he, upd_sI]
          rfl
    · exact kk.elim
  · exact kk.elim
end MORE
