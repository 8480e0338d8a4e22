/-! pinit6: a new country -/
section IN6
variable {h : Hp}
theorem kt_tab : ∀ i, i < 8 → KT (5 + 9 * i) = kc_Node ∧ KT (5 + 9 * i + 1) = kc_FrameQueue ∧ KT (5 + 9 * i + 1 + 1) = 103 ∧ (∀ f, f < 4 → KT (5 + 9 * i + 1 + 2 + f) = kc_Frame) ∧ KT (5 + 9 * i + 7) = kc_NumberSet ∧ KT (5 + 9 * i + 8) = 101 ∧ LT (5 + 9 * i + 1 + 1) = 4 ∧ LT (5 + 9 * i + 8) = 8 := by decide
theorem kt_row : ∀ i, i < 8 → KT (78 + 1 + i) = 100 ∧ KT (87 + 1 + i) = 100 ∧ KT (96 + 1 + i) = 100 ∧ KT (105 + 1 + i) = 100 ∧ LT (78 + 1 + i) = 8 ∧ LT (87 + 1 + i) = 8 ∧ LT (96 + 1 + i) = 8 ∧ LT (105 + 1 + i) = 8 := by decide
def TrD (h : Hp) : Prop := kd h 114 = kc_Traffic ∧ gI h 114 2 = 0 ∧ gI h 114 3 = 41 ∧ gI h 114 4 = 0 ∧ gR h 114 0 = some 2 ∧ gR h 114 1 = some 77
def CoD (h : Hp) : Prop := kd h 1 = kc_S ∧ gR h 1 0 = some 2 ∧ gR h 1 1 = some 77 ∧ gR h 1 2 = some 114 ∧ gR h 1 3 = some 115
theorem ks_of (hn : 121 ≤ nx h) (C : CoD h) (L : LD 8 h) (R : RD h) (T : TrD h) (M : MkD h) : KS h := by
  obtain ⟨l1, l2, l3, l4, l5, l6, l7, l8, l9, l10⟩ := L
  obtain ⟨r0, -, ⟨t1, t2, t3, t4⟩, -⟩ := R
  obtain ⟨m0, -, ⟨a1, a2, a3, a4, a5⟩, -⟩ := M
  refine ⟨hn, fun a p q => ?_⟩
  have no : ∀ {c}, c < 100 → kd h a = c → KT a = c → kd h a = KT a ∧ (100 ≤ KT a → ln h a = LT a) := fun hc e1 e2 => ⟨e1.trans e2.symm, fun w => absurd w (by omega)⟩
  have ar : ∀ {c m}, kd h a = c → KT a = c → ln h a = m → LT a = m → kd h a = KT a ∧ (100 ≤ KT a → ln h a = LT a) := fun e1 e2 e3 e4 => ⟨e1.trans e2.symm, fun _ => e3.trans e4.symm⟩
  by_cases h5 : a < 5
  · have : a = 1 ∨ a = 2 ∨ a = 3 ∨ a = 4 := by omega
    rcases this with rfl | rfl | rfl | rfl
    · exact no (by decide) C.1 rfl
    · exact no (by decide) l1 rfl
    · exact ar l5 rfl l6 rfl
    · exact ar l7 rfl l8 rfl
  · by_cases h77 : a < 77
    · obtain ⟨i, r, hi, hr, rfl⟩ : ∃ i r, i < 8 ∧ r < 9 ∧ a = 5 + 9 * i + r := ⟨(a - 5) / 9, (a - 5) % 9, by omega, by omega, by omega⟩
      obtain ⟨k1, k2, k3, k4, k5, k6, k7, k8⟩ := kt_tab i hi
      obtain ⟨-, n0, -, -, ⟨-, -, q3, q4, q5⟩, n1, n2, -, n3, n4, -⟩ := l10 i hi
      have : r = 0 ∨ r = 1 ∨ r = 2 ∨ (3 ≤ r ∧ r < 7) ∨ r = 7 ∨ r = 8 := by omega
      rcases this with rfl | rfl | rfl | ⟨z1, z2⟩ | rfl | rfl
      · exact no (by decide) n0 k1
      · exact no (by decide) n1 k2
      · exact ar q3 k3 q4 k7
      · obtain ⟨f, rfl⟩ : ∃ f, r = 3 + f := ⟨r - 3, by omega⟩
        have e : 5 + 9 * i + (3 + f) = 5 + 9 * i + 1 + 2 + f := by omega
        rw [e] at no ⊢
        exact no (by decide) (q5 f (by omega)).2 (k4 f (by omega))
      · exact no (by decide) n2 k5
      · exact ar n3 k6 n4 k8
    · by_cases h78 : a < 78
      · have : a = 77 := by omega
        subst this
        exact no (by decide) r0 rfl
      · by_cases h114 : a < 114
        · obtain ⟨u, r, hu, hr, rfl⟩ : ∃ u r, u < 4 ∧ r < 9 ∧ a = 78 + 9 * u + r := ⟨(a - 78) / 9, (a - 78) % 9, by omega, by omega, by omega⟩
          have hu4 : u = 0 ∨ u = 1 ∨ u = 2 ∨ u = 3 := by omega
          by_cases e0 : r = 0
          · subst e0
            rcases hu4 with rfl | rfl | rfl | rfl
            · exact ar t1.1 rfl t1.2.1 rfl
            · exact ar t2.1 rfl t2.2.1 rfl
            · exact ar t3.1 rfl t3.2.1 rfl
            · exact ar t4.1 rfl t4.2.1 rfl
          · obtain ⟨i, rfl⟩ : ∃ i, r = 1 + i := ⟨r - 1, by omega⟩
            have hi : i < 8 := by omega
            obtain ⟨k1, k2, k3, k4, k5, k6, k7, k8⟩ := kt_row i hi
            rcases hu4 with rfl | rfl | rfl | rfl
            · have e : 78 + 9 * 0 + (1 + i) = 78 + 1 + i := by omega
              rw [e] at ar ⊢
              exact ar (t1.2.2 i hi).2.1 k1 (t1.2.2 i hi).2.2 k5
            · have e : 78 + 9 * 1 + (1 + i) = 87 + 1 + i := by omega
              rw [e] at ar ⊢
              exact ar (t2.2.2 i hi).2.1 k2 (t2.2.2 i hi).2.2 k6
            · have e : 78 + 9 * 2 + (1 + i) = 96 + 1 + i := by omega
              rw [e] at ar ⊢
              exact ar (t3.2.2 i hi).2.1 k3 (t3.2.2 i hi).2.2 k7
            · have e : 78 + 9 * 3 + (1 + i) = 105 + 1 + i := by omega
              rw [e] at ar ⊢
              exact ar (t4.2.2 i hi).2.1 k4 (t4.2.2 i hi).2.2 k8
        · have : a = 114 ∨ a = 115 ∨ a = 116 ∨ a = 117 ∨ a = 118 ∨ a = 119 ∨ a = 120 := by omega
          rcases this with rfl | rfl | rfl | rfl | rfl | rfl | rfl
          · exact no (by decide) T.1 rfl
          · exact no (by decide) m0 rfl
          · exact ar a1.1 rfl a1.2.1 rfl
          · exact ar a2.1 rfl a2.2.1 rfl
          · exact ar a3.1 rfl a3.2.1 rfl
          · exact ar a4.1 rfl a4.2.1 rfl
          · exact ar a5.1 rfl a5.2.1 rfl
theorem start_of (hn : 121 ≤ nx h) (C : CoD h) (L : LD 8 h) (R : RD h) (T : TrD h) (M : MkD h) : CI 0 h ∧ FN 0 h ∧ gI h 114 2 = ii 0 := by
  have K := ks_of hn C L R T M
  obtain ⟨l1, l2, l3, l4, l5, l6, l7, l8, l9, l10⟩ := L
  obtain ⟨r0, ⟨p0, p1, p2, p3, p4⟩, ⟨t1, t2, t3, t4⟩, z⟩ := R
  obtain ⟨m0, ⟨b0, b1, b2, b3, b4⟩, ⟨a1, a2, a3, a4, a5⟩, x5, x6, x7⟩ := M
  obtain ⟨c0, c1, c2, c3, c4⟩ := C
  obtain ⟨u0, u1, u2, u3, u4, u5⟩ := T
  have S : Str 0 h := by
    refine ⟨K, ⟨by omega, l4⟩, ⟨c1, c2, c3, c4⟩, ⟨l2, l3⟩, fun i hi => ?_, fun i hi k hk => ?_, ⟨p0, u4, u5⟩, ⟨b0, b1, b2, b3, b4⟩, fun i hi => ?_, Or.inl ⟨p1, p2, p3, p4⟩⟩
    · obtain ⟨n0, -, n1, n2, ⟨q1, -, -, -, -⟩, -, -, n3, -⟩ := l10 i hi
      refine ⟨n0, ?_, ?_, ?_, ?_⟩
      · rw [n1]; exact congrArg some (by omega)
      · rw [n2]; exact congrArg some (by omega)
      · rw [show 6 + 9 * i = 5 + 9 * i + 1 by omega, q1]; exact congrArg some (by omega)
      · rw [show 12 + 9 * i = 5 + 9 * i + 7 by omega, n3]; exact congrArg some (by omega)
    · obtain ⟨-, -, -, -, ⟨-, -, -, -, q5⟩, -⟩ := l10 i hi
      refine ⟨k, hk, ?_⟩
      rw [show 7 + 9 * i = 5 + 9 * i + 1 + 1 by omega, (q5 k hk).1]
      exact congrArg some (by omega)
    · exact ⟨by rw [(t1.2.2 i hi).1], by rw [(t2.2.2 i hi).1], by rw [(t3.2.2 i hi).1], by rw [(t4.2.2 i hi).1]⟩
  refine ⟨⟨⟨S, ⟨fun i hi => by rw [l9]; exact tb_0 (by omega), 78, ⟨Or.inl rfl, p1, p2, p3, p4⟩, fun i j hi hj => Or.inl (z i j hi hj).1, fun i j hi hj => Or.inl (z i j hi hj).2⟩, fun i hi => absurd hi (by omega), ⟨41, by omega, u2⟩, u3⟩, 0, by omega, x5, MIv.zero (a4.2.2 0) x6 x7 fun b _ => a5.2.2 b⟩, fun i _ hi => ?_, u1⟩
  obtain ⟨-, -, -, -, ⟨-, q2, -, -, -⟩, -, -, -, -, -, n9, n10⟩ := l10 i hi
  refine ⟨?_, n9, fun k _ => ?_⟩
  · rw [show 6 + 9 * i = 5 + 9 * i + 1 by omega]; exact q2
  · rw [show 13 + 9 * i = 5 + 9 * i + 8 by omega]; exact n10 k
end IN6
