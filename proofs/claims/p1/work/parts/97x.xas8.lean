/-! xas8: after a call of the reference, in values; move, tune, send, pass -/
def isN (n : Nat) (x : Int32) : Bool := decide (0 ≤ x) && decide (x ≤ ii n - 1)
def lk9 (n : Nat) (α : As) (i : Nat) : Int32 := upto (fun k s => s ||| bI (hr9 α i k && hr9 α k i) <<< (ii k &&& 31)) n 0 0
/-- what a call says: how it ends, its answer, what is so then -/
abbrev Rs9 : Type := Int32 × Int32 × As
def mov9 (n : Nat) (α : As) (x y z : Int32) : Rs9 := if isN n x = false then (1, 0, α) else if ((decide (0 ≤ y) && decide (y ≤ 29)) && (decide (0 ≤ z) && decide (z ≤ 29))) = false then (2, 0, α) else if 0 < α.1 (tn9 x) 7 then (3, 0, α) else (0, pcI (lk9 n (asV (asV α (tn9 x) 0 y) (tn9 x) 1 z) (tn9 x)), asV (asV α (tn9 x) 0 y) (tn9 x) 1 z)
def tun9 (n : Nat) (α : As) (x y z : Int32) : Rs9 := if isN n x = false then (1, 0, α) else if (decide (1 ≤ y) && decide (y ≤ 42)) = false then (2, 0, α) else if 0 < α.1 (tn9 x) 7 then (3, 0, α) else (0, α.1 (tn9 x) 2, asV (asV α (tn9 x) 2 y) (tn9 x) 3 z)
def fr9 (x y z s : Int32) : Nat → Int32 := fun k => if k = 0 then x else if k = 1 then y else if k = 2 then z else if k = 3 then s else 0
def sen9 (n : Nat) (α : As) (x y z : Int32) : Rs9 := if (isN n x && isN n y) = false then (1, 0, α) else if (!decide (x = y) && (decide (1 ≤ z) && decide (z ≤ 3))) = false then (2, 0, α) else if α.2.1 (tn9 x) = 4 then (3, 0, α) else (0, α.1 (tn9 x) 14, asV (asPush α (tn9 x) (fr9 x y z (α.1 (tn9 x) 14))) (tn9 x) 14 (α.1 (tn9 x) 14 + 1))
def sl9 (n : Nat) : Nat → As → As
  | 0, α => α
  | k + 1, α => slot9 n (sl9 n k α)
def pas9 (n B : Nat) (α : As) (x : Int32) : Rs9 := if (decide (1 ≤ x) && decide (x ≤ 200)) = false then (1, 0, α) else if B + tn9 x ≤ 2000 then (0, ii (B + tn9 x), sl9 n (tn9 x) α) else (2, 0, α)
theorem upto_congr {β : Type} {f g : Nat → β → β} : ∀ (m k : Nat) (a : β), (∀ j a, k ≤ j → j < k + m → f j a = g j a) → upto f m k a = upto g m k a
  | 0, _, _, _ => rfl
  | m + 1, k, a, h => by
    show upto f m (k + 1) (f k a) = upto g m (k + 1) (g k a)
    rw [h k a (Nat.le_refl _) (by omega), upto_congr m (k + 1) _ fun j b h1 h2 => h j b (by omega) (by omega)]
theorem asV_id (α : As) (i f : Nat) : asV α i f (α.1 i f) = α := by
  refine Prod.ext (funext fun a => funext fun k => ?_) rfl
  show (if a = i ∧ k = f then α.1 i f else α.1 a k) = α.1 a k
  split
  · rename_i q
    rw [q.1, q.2]
  · rfl
theorem v51 (α : As) (i f : Nat) (v : Int32) (hf : f ≠ 1) : (asV α i f v).1 50 1 = α.1 50 1 := asV_n _ _ fun w => hf w.2.symm
theorem trn_51 (α : As) (i : Nat) : (trn9 α i).1 50 1 = α.1 50 1 := by
  unfold trn9
  split
  · split
    · unfold drp9
      rw [v51 _ _ _ _ (by decide), v51 _ _ _ _ (by decide)]
      rfl
    · unfold beg9
      rw [v51 _ _ _ _ (by decide), v51 _ _ _ _ (by decide), v51 _ _ _ _ (by decide), v51 _ _ _ _ (by decide)]
  · rw [v51 _ _ _ _ (by decide)]
theorem rcv_51 (α : As) (j : Nat) (w : Nat → Int32) : (rcv9 α j w).1 50 1 = α.1 50 1 := by
  unfold rcv9
  split
  · unfold arv9
    split
    · rw [v51 _ _ _ _ (by decide)]
    · rw [v51 _ _ _ _ (by decide)]
      rfl
  · split
    · rw [v51 _ _ _ _ (by decide)]
    · rfl
theorem try_51 (α : As) (i : Nat) : (try9 α i).1 50 1 = α.1 50 1 := by
  unfold try9
  split
  · unfold drp9
    rw [v51 _ _ _ _ (by decide), v51 _ _ _ _ (by decide)]
    show (asV α i 6 _).1 50 1 = _
    rw [v51 _ _ _ _ (by decide)]
  · split
    · unfold wai9
      rw [v51 _ _ _ _ (by decide), v51 _ _ _ _ (by decide), v51 _ _ _ _ (by decide), v51 _ _ _ _ (by decide), v51 _ _ _ _ (by decide)]
    · unfold wai9
      rw [v51 _ _ _ _ (by decide), v51 _ _ _ _ (by decide), v51 _ _ _ _ (by decide), v51 _ _ _ _ (by decide)]
theorem fin_51 (α : As) (i : Nat) (b : Bool) : (fin9 α i b).1 50 1 = α.1 50 1 := by
  unfold fin9
  split
  · rw [v51 _ _ _ _ (by decide)]
    show (asV α i 8 _).1 50 1 = _
    rw [v51 _ _ _ _ (by decide)]
  · rw [try_51, v51 _ _ _ _ (by decide)]
theorem end_51 (α : As) (i : Nat) : (end9 α i).1 50 1 = α.1 50 1 := by
  unfold end9
  split
  · rw [fin_51]
  · rw [fin_51, rcv_51]
theorem tk_51 (S b : Nat → Bool) (α : As) : ∀ k, (tk9 S b k α).1 50 1 = α.1 50 1
  | 0 => rfl
  | k + 1 => by
    rw [tk_s]
    split
    · exact tk_51 S b α k
    · rw [trn_51, tk_51 S b α k]
theorem ai_51 (n : Nat) (S : Nat → Bool) (α : As) : ∀ k, (ai9 n S k α).1 50 1 = α.1 50 1
  | 0 => rfl
  | k + 1 => by
    rw [ai_s]
    split
    · rw [v51 _ _ _ _ (by decide), v51 _ _ _ _ (by decide), ai_51 n S α k]
    · exact ai_51 n S α k
theorem en_51 (S : Nat → Bool) (α : As) : ∀ k, (en9 S k α).1 50 1 = α.1 50 1
  | 0 => rfl
  | k + 1 => by
    rw [en_s]
    split
    · split
      · rw [end_51]
        unfold de9
        rw [v51 _ _ _ _ (by decide), en_51 S α k]
      · unfold de9
        rw [v51 _ _ _ _ (by decide), en_51 S α k]
    · exact en_51 S α k
theorem slot_51 (n : Nat) (α : As) : (slot9 n α).1 50 1 = α.1 50 1 := by
  unfold slot9
  rw [en_51, ai_51, tk_51, v51 _ _ _ _ (by decide)]
theorem sl_51 (n : Nat) (α : As) : ∀ k, (sl9 n k α).1 50 1 = α.1 50 1
  | 0 => rfl
  | k + 1 => by
    show (slot9 n (sl9 n k α)).1 50 1 = _
    rw [slot_51, sl_51 n α k]
section RCA
variable {τ τ' : Nat → Nat} {n A c B m : Nat} {K : Int32} {p b9 x9 p9 : Nat → Nat} {h h' : Hp} {α : As}
def MoA (τ : Nat → Nat) (n' c B : Nat) (K : Int32) (b9 x9 p9 : Nat → Nat) (m : Nat) (α : As) (h h' : Hp) : Prop := ∃ τ' p' c' B', RM τ' n' p' (8 * B') c' B' K h' ∧ Ext τ h τ' h' ∧ Ag τ SM9 h h' ∧ (B ≤ B' ∧ nx h' + 33 * B ≤ nx h + 1000 + 33 * B' ∧ sc h' + 4 * c + 648 * B ≤ sc h + 7000 + 4 * c' + 648 * B') ∧ BB τ' b9 x9 p9 m h' ∧ ∃ t, RA τ' n' p' c' B' h' (asV α 50 1 t)
theorem MoA.g {n' : Nat} (M : MoA τ n' c B K b9 x9 p9 m α h h') : Mog SM9 τ n' c B K h h' := by
  obtain ⟨τ', p', c', B', R, X, G, r, -⟩ := M
  exact ⟨τ', p', c', B', R, X, G, r⟩
/-- the reference's answer is r -/
def RES (τ : Nat → Nat) (n' c B : Nat) (K : Int32) (b9 x9 p9 : Nat → Nat) (m : Nat) (h h' : Hp) (v : Int32) (r : Rs9) : Prop := gI h' 121 0 = r.1 ∧ (r.1 = 0 → v = r.2.1) ∧ MoA τ n' c B K b9 x9 p9 m r.2.2 h h'
theorem MoA.mk0 {c' : Nat} {p' : Nat → Nat} {n' : Nat} (R : RM τ' n' p' (8 * B) c' B K h') (X : Ext τ h τ' h') (F : Fs τ h) (G : Ag τ S0 h h') (VB : BB τ b9 x9 p9 m h) (V : RA τ' n' p' c' B h' α) (hn : nx h' ≤ nx h + 1000) (hs : sc h' + 4 * c ≤ sc h + 7000 + 4 * c') : MoA τ n' c B K b9 x9 p9 m α h h' :=
  ⟨τ', p', c', B, R, X, G.mono fun s w => by unfold S0 at w; unfold SM9; omega, ⟨Nat.le_refl _, by omega, by omega⟩, VB.fr F X G (by unfold S0; omega) (by unfold S0; omega) (by unfold S0; omega), α.1 50 1, by rw [asV_id]; exact V⟩
theorem MoA.mkt {c' : Nat} {p' : Nat → Nat} {n' : Nat} {t : Int32} (R : RM τ' n' p' (8 * B) c' B K h') (X : Ext τ h τ' h') (F : Fs τ h) (G : Ag τ S0 h h') (VB : BB τ b9 x9 p9 m h) (V : RA τ' n' p' c' B h' (asV α 50 1 t)) (hn : nx h' ≤ nx h + 1000) (hs : sc h' + 4 * c ≤ sc h + 7000 + 4 * c') : MoA τ n' c B K b9 x9 p9 m α h h' :=
  ⟨τ', p', c', B, R, X, G.mono fun s w => by unfold S0 at w; unfold SM9; omega, ⟨Nat.le_refl _, by omega, by omega⟩, VB.fr F X G (by unfold S0; omega) (by unfold S0; omega) (by unfold S0; omega), t, V⟩
theorem RA.th (V : RA τ n p c B h α) (R : RM τ n p A c B K h) (w : Int32) : RA τ n p c B (sI h 121 0 w) (asV α 50 1 w) := V.setG (k := 1) R R.n8 (by omega) (by omega) w
theorem RES.no (R : RM τ n p (8 * B) c B K h) (V : RA τ n p c B (sI h 121 0 0) α) (VB : BB τ b9 x9 p9 m h) {w : Int32} (hw : ¬ w = 0) (v v' : Int32) : RES τ n c B K b9 x9 p9 m h (sI (sI h 121 0 0) 121 0 w) v (w, v', α) :=
  ⟨by rw [gI_sI, if_pos ⟨rfl, rfl⟩], fun e => absurd e hw, MoA.mkt (R.sw (R.sth2 0 w)) (R.sth2 0 w).1 R.F (R.sth2 0 w).s0 VB (V.th R.th w) (by show nx h ≤ _; omega) (by show sc h + _ ≤ _; omega)⟩
theorem RA.lk (V : RA τ n p c B h α) {i : Nat} (hi : i < n) : mlk h p i n = lk9 n α i := by
  unfold mlk lk9
  exact upto_congr n 0 0 fun j a _ hj => by rw [V.hr hi (show j < n by omega), V.hr (show j < n by omega) hi]
theorem isN_no {x : Int32} (h : (!(decide (0 ≤ x) && decide (x ≤ ii n - 1))) = true) : isN n x = false := by
  unfold isN
  cases e : (decide (0 ≤ x) && decide (x ≤ ii n - 1)) with
  | false => rfl
  | true => rw [e] at h; cases h
theorem isN_ok {x : Int32} (h : (!(decide (0 ≤ x) && decide (x ≤ ii n - 1))) = false) : isN n x = true := by
  unfold isN
  cases e : (decide (0 ≤ x) && decide (x ≤ ii n - 1)) with
  | true => rfl
  | false => rw [e] at h; cases h
theorem tn_ii {i : Nat} (hi : i < 2147483648) : tn9 (ii i) = i := ii_nat hi
theorem qx_mmove (R : RM τ n p (8 * B) c B K h) (V0 : RA τ n p c B (sI h 121 0 0) α) (VB : BB τ b9 x9 p9 m h) (hn1 : nx h + 1000 ≤ 580300) (hs1 : sc h + 7000 ≤ 5700000) (x y z : Int32) :
    ∃ v h', (∀ Q, WP Gm j_Mdl_move 0 [some (.inr (.inl (some 121))), some (.inl x), some (.inl y), some (.inl z)] [] h Q = Q (.inl (some (.inl v))) h') ∧ RES τ n c B K b9 x9 p9 m h h' v (mov9 n α x y z) := by
  have hn := R.n8
  have R0 : RM τ n p (8 * B) c B K (sI h 121 0 0) := R.th
  unfold mov9
  rcases node_cases hn x with hb | ⟨hb, i, hi, rfl⟩
  · rw [if_pos (isN_no hb)]
    refine ⟨0, sI (sI h 121 0 0) 121 0 1, fun Q => ?_, RES.no R V0 VB (by decide) 0 0⟩
    simp only [↓e_Mdl_move_0, ↓e_Mdl_move_1, ↓e_Mdl_move_2, ↓e_Mdl_move_3, ↓e_Mdl_move_6, ↓e_Mdl_move_7, ↓e_Mdl_move_10, ↓e_Mdl_move_13, ↓e_Mdl_move_14, ↓e_Mdl_move_15, ↓e_Mdl_move_16, ↓e_Mdl_move_18, ↓e_Mdl_move_21, ↓e_Mdl_move_24, ↓e_Mdl_move_25, ↓e_Mdl_move_26, ↓e_Mdl_move_28, ↓e_Mdl_move_31, ↓e_Mdl_move_34, ↓e_Mdl_move_35, ↓e_Mdl_move_38, ↓e_Mdl_move_39, ↓e_Mdl_move_40, ↓e_Mdl_move_43, ↓e_Mdl_move_46, ↓e_Mdl_move_47, ↓e_Mdl_move_48, ↓e_Mdl_move_51, ↓e_Mdl_move_52, ↓e_Mdl_move_55, ↓e_Mdl_move_58, ↓e_Mdl_move_61, ↓e_Mdl_move_62, ↓e_Mdl_move_65, ↓e_Mdl_move_68, ↓e_Mdl_move_69, ↓e_Mdl_move_70, ↓e_Mdl_move_71, ↓e_Mdl_move_74, ↓e_Mdl_move_75, ↓e_Mdl_move_78, ↓e_Mdl_move_81, ↓e_Mdl_move_82, ↓e_Mdl_move_85, ↓e_Mdl_move_86, ↓e_Mdl_move_89, ↓e_Mdl_move_90, ↓e_Mdl_move_93, ↓e_Mdl_move_96, ↓e_Mdl_move_97, ↓e_Mdl_move_100, ↓e_Mdl_move_101, ↓e_Mdl_move_102, ↓e_Mdl_move_105, ↓e_Mdl_move_108, not_true_eq_false, not_false_eq_true, one0, true_or, or_true, eq_self, bI_z, bI_nz, bI_o, b_ft, bI_1, bI_0, ↓kC_l, ↓kC_r, Option.toList_some, Option.toList_none, List.cons_append, List.nil_append, s1_0, s1_1i, s1_1r, s1_1w, s1_1n, s1_s, s2_0, s2_1i, s2_1r, s2_1w, s2_1n, s2_s, gI_sI, gI_sR, gI_sL, gI_sD, gR_sI, gR_sR, gR_sL, gR_sD, gL_sI, gL_sR, gL_sL, gL_sD, gD_sI, gD_sR, gD_sL, gD_sD, isK_sI, isK_sR, isK_sL, isK_sD, inL_sI, inL_sR, inL_sL, inL_sD, nx_sI, nx_sR, nx_sL, nx_sD, kd_sI, kd_sR, kd_sL, kd_sD, ln_sI, ln_sR, ln_sL, ln_sD, ↓reduceIte, c8_n, c8_1, c8_2, c8_3, c8_4, Nat.reduceAdd, R.k, q_nbody _ R, hb, q_stT _ R]
  · rw [if_neg (by rw [isN_ok hb]; decide), tn_ii (show i < 2147483648 by omega)]
    have e7 : gI h (p i) 7 = α.1 i 7 := by
      have e9 : gI (sI h 121 0 0) (p i) 7 = gI h (p i) 7 := by rw [gI_sI, if_neg (fun w => absurd w.2 (by decide))]
      exact e9.symm.trans (V0.f hi 7 (by omega) (by omega))
    cases e1 : (decide (0 ≤ y) && decide (y ≤ 29)) with
    | false =>
      rw [if_pos (by rfl)]
      refine ⟨0, sI (sI h 121 0 0) 121 0 2, fun Q => ?_, RES.no R V0 VB (by decide) 0 0⟩
      simp only [↓e_Mdl_move_0, ↓e_Mdl_move_1, ↓e_Mdl_move_2, ↓e_Mdl_move_3, ↓e_Mdl_move_6, ↓e_Mdl_move_7, ↓e_Mdl_move_10, ↓e_Mdl_move_13, ↓e_Mdl_move_14, ↓e_Mdl_move_15, ↓e_Mdl_move_16, ↓e_Mdl_move_18, ↓e_Mdl_move_21, ↓e_Mdl_move_24, ↓e_Mdl_move_25, ↓e_Mdl_move_26, ↓e_Mdl_move_28, ↓e_Mdl_move_31, ↓e_Mdl_move_34, ↓e_Mdl_move_35, ↓e_Mdl_move_38, ↓e_Mdl_move_39, ↓e_Mdl_move_40, ↓e_Mdl_move_43, ↓e_Mdl_move_46, ↓e_Mdl_move_47, ↓e_Mdl_move_48, ↓e_Mdl_move_51, ↓e_Mdl_move_52, ↓e_Mdl_move_55, ↓e_Mdl_move_58, ↓e_Mdl_move_61, ↓e_Mdl_move_62, ↓e_Mdl_move_65, ↓e_Mdl_move_68, ↓e_Mdl_move_69, ↓e_Mdl_move_70, ↓e_Mdl_move_71, ↓e_Mdl_move_74, ↓e_Mdl_move_75, ↓e_Mdl_move_78, ↓e_Mdl_move_81, ↓e_Mdl_move_82, ↓e_Mdl_move_85, ↓e_Mdl_move_86, ↓e_Mdl_move_89, ↓e_Mdl_move_90, ↓e_Mdl_move_93, ↓e_Mdl_move_96, ↓e_Mdl_move_97, ↓e_Mdl_move_100, ↓e_Mdl_move_101, ↓e_Mdl_move_102, ↓e_Mdl_move_105, ↓e_Mdl_move_108, not_true_eq_false, not_false_eq_true, one0, true_or, or_true, eq_self, bI_z, bI_nz, bI_o, b_ft, bI_1, bI_0, ↓kC_l, ↓kC_r, Option.toList_some, Option.toList_none, List.cons_append, List.nil_append, s1_0, s1_1i, s1_1r, s1_1w, s1_1n, s1_s, s2_0, s2_1i, s2_1r, s2_1w, s2_1n, s2_s, gI_sI, gI_sR, gI_sL, gI_sD, gR_sI, gR_sR, gR_sL, gR_sD, gL_sI, gL_sR, gL_sL, gL_sD, gD_sI, gD_sR, gD_sL, gD_sD, isK_sI, isK_sR, isK_sL, isK_sD, inL_sI, inL_sR, inL_sL, inL_sD, nx_sI, nx_sR, nx_sL, nx_sD, kd_sI, kd_sR, kd_sL, kd_sD, ln_sI, ln_sR, ln_sL, ln_sD, ↓reduceIte, c8_n, c8_1, c8_2, c8_3, c8_4, Nat.reduceAdd, R.k, q_nbody _ R, hb, q_stF _ R, R0.k, q_misIn, e1, q_rfT _ R0 (show (0 : Int32) < 2 by decide) (th0 h)]
    | true =>
      cases e2 : (decide (0 ≤ z) && decide (z ≤ 29)) with
      | false =>
        rw [if_pos (by rfl)]
        refine ⟨0, sI (sI h 121 0 0) 121 0 2, fun Q => ?_, RES.no R V0 VB (by decide) 0 0⟩
        simp only [↓e_Mdl_move_0, ↓e_Mdl_move_1, ↓e_Mdl_move_2, ↓e_Mdl_move_3, ↓e_Mdl_move_6, ↓e_Mdl_move_7, ↓e_Mdl_move_10, ↓e_Mdl_move_13, ↓e_Mdl_move_14, ↓e_Mdl_move_15, ↓e_Mdl_move_16, ↓e_Mdl_move_18, ↓e_Mdl_move_21, ↓e_Mdl_move_24, ↓e_Mdl_move_25, ↓e_Mdl_move_26, ↓e_Mdl_move_28, ↓e_Mdl_move_31, ↓e_Mdl_move_34, ↓e_Mdl_move_35, ↓e_Mdl_move_38, ↓e_Mdl_move_39, ↓e_Mdl_move_40, ↓e_Mdl_move_43, ↓e_Mdl_move_46, ↓e_Mdl_move_47, ↓e_Mdl_move_48, ↓e_Mdl_move_51, ↓e_Mdl_move_52, ↓e_Mdl_move_55, ↓e_Mdl_move_58, ↓e_Mdl_move_61, ↓e_Mdl_move_62, ↓e_Mdl_move_65, ↓e_Mdl_move_68, ↓e_Mdl_move_69, ↓e_Mdl_move_70, ↓e_Mdl_move_71, ↓e_Mdl_move_74, ↓e_Mdl_move_75, ↓e_Mdl_move_78, ↓e_Mdl_move_81, ↓e_Mdl_move_82, ↓e_Mdl_move_85, ↓e_Mdl_move_86, ↓e_Mdl_move_89, ↓e_Mdl_move_90, ↓e_Mdl_move_93, ↓e_Mdl_move_96, ↓e_Mdl_move_97, ↓e_Mdl_move_100, ↓e_Mdl_move_101, ↓e_Mdl_move_102, ↓e_Mdl_move_105, ↓e_Mdl_move_108, not_true_eq_false, not_false_eq_true, one0, true_or, or_true, eq_self, bI_z, bI_nz, bI_o, b_ft, bI_1, bI_0, ↓kC_l, ↓kC_r, Option.toList_some, Option.toList_none, List.cons_append, List.nil_append, s1_0, s1_1i, s1_1r, s1_1w, s1_1n, s1_s, s2_0, s2_1i, s2_1r, s2_1w, s2_1n, s2_s, gI_sI, gI_sR, gI_sL, gI_sD, gR_sI, gR_sR, gR_sL, gR_sD, gL_sI, gL_sR, gL_sL, gL_sD, gD_sI, gD_sR, gD_sL, gD_sD, isK_sI, isK_sR, isK_sL, isK_sD, inL_sI, inL_sR, inL_sL, inL_sD, nx_sI, nx_sR, nx_sL, nx_sD, kd_sI, kd_sR, kd_sL, kd_sD, ln_sI, ln_sR, ln_sL, ln_sD, ↓reduceIte, c8_n, c8_1, c8_2, c8_3, c8_4, Nat.reduceAdd, R.k, q_nbody _ R, hb, q_stF _ R, R0.k, q_misIn, e1, e2, q_rfT _ R0 (show (0 : Int32) < 2 by decide) (th0 h)]
      | true =>
        rw [if_neg (by decide)]
        by_cases h7 : 0 < α.1 i 7
        · rw [if_pos h7]
          rw [← e7] at h7
          refine ⟨0, sI (sI h 121 0 0) 121 0 3, fun Q => ?_, RES.no R V0 VB (by decide) 0 0⟩
          simp only [↓e_Mdl_move_0, ↓e_Mdl_move_1, ↓e_Mdl_move_2, ↓e_Mdl_move_3, ↓e_Mdl_move_6, ↓e_Mdl_move_7, ↓e_Mdl_move_10, ↓e_Mdl_move_13, ↓e_Mdl_move_14, ↓e_Mdl_move_15, ↓e_Mdl_move_16, ↓e_Mdl_move_18, ↓e_Mdl_move_21, ↓e_Mdl_move_24, ↓e_Mdl_move_25, ↓e_Mdl_move_26, ↓e_Mdl_move_28, ↓e_Mdl_move_31, ↓e_Mdl_move_34, ↓e_Mdl_move_35, ↓e_Mdl_move_38, ↓e_Mdl_move_39, ↓e_Mdl_move_40, ↓e_Mdl_move_43, ↓e_Mdl_move_46, ↓e_Mdl_move_47, ↓e_Mdl_move_48, ↓e_Mdl_move_51, ↓e_Mdl_move_52, ↓e_Mdl_move_55, ↓e_Mdl_move_58, ↓e_Mdl_move_61, ↓e_Mdl_move_62, ↓e_Mdl_move_65, ↓e_Mdl_move_68, ↓e_Mdl_move_69, ↓e_Mdl_move_70, ↓e_Mdl_move_71, ↓e_Mdl_move_74, ↓e_Mdl_move_75, ↓e_Mdl_move_78, ↓e_Mdl_move_81, ↓e_Mdl_move_82, ↓e_Mdl_move_85, ↓e_Mdl_move_86, ↓e_Mdl_move_89, ↓e_Mdl_move_90, ↓e_Mdl_move_93, ↓e_Mdl_move_96, ↓e_Mdl_move_97, ↓e_Mdl_move_100, ↓e_Mdl_move_101, ↓e_Mdl_move_102, ↓e_Mdl_move_105, ↓e_Mdl_move_108, not_true_eq_false, not_false_eq_true, one0, true_or, or_true, eq_self, bI_z, bI_nz, bI_o, b_ft, bI_1, bI_0, ↓kC_l, ↓kC_r, Option.toList_some, Option.toList_none, List.cons_append, List.nil_append, s1_0, s1_1i, s1_1r, s1_1w, s1_1n, s1_s, s2_0, s2_1i, s2_1r, s2_1w, s2_1n, s2_s, gI_sI, gI_sR, gI_sL, gI_sD, gR_sI, gR_sR, gR_sL, gR_sD, gL_sI, gL_sR, gL_sL, gL_sD, gD_sI, gD_sR, gD_sL, gD_sD, isK_sI, isK_sR, isK_sL, isK_sD, inL_sI, inL_sR, inL_sL, inL_sD, nx_sI, nx_sR, nx_sL, nx_sD, kd_sI, kd_sR, kd_sL, kd_sD, ln_sI, ln_sR, ln_sL, ln_sD, ↓reduceIte, c8_n, c8_1, c8_2, c8_3, c8_4, Nat.reduceAdd, R.k, q_nbody _ R, hb, q_stF _ R, R0.k, q_misIn, e1, e2, q_rfF _ R0 _ (th0 h), R0.r9, R0.k122, q_ng _ R0 hi, R0.nk hi, R0.nz hi, q_msends _ (R0.nk hi), Nat.reduceEqDiff, and_false, h7, decide_true, q_rfT _ R0 (show (0 : Int32) < 3 by decide) (th0 h)]
        · rw [if_neg h7]
          rw [← e7] at h7
          have V1' := V0.set (f := 0) R0 hi hn y (fun w => by omega)
          generalize hg1 : sI (sI h 121 0 0) (p i) 0 y = g1
          have V1 : RA τ n p c B g1 (asV α i 0 y) := by rw [← hg1]; exact V1'
          have S1 : Sw τ h g1 := by rw [← hg1]; exact (R.sth 0).sI (R.nd15 hi (by omega))
          have R1 := R.sw S1
          have V2' := V1.set (f := 1) R1 hi hn z (fun w => by omega)
          generalize hg2 : sI g1 (p i) 1 z = g2
          have V2 : RA τ n p c B g2 (asV (asV α i 0 y) i 1 z) := by rw [← hg2]; exact V2'
          have S2 : Sw τ h g2 := by rw [← hg2]; exact S1.sI (R.nd15 hi (by omega))
          have R2 := R.sw S2
          refine ⟨pcI (mlk g2 p i n), g2, fun Q => ?_, ?_, fun _ => ?_, MoA.mk0 R2 S2.1 R.F S2.s0 VB V2 (by rw [← hg2, ← hg1]; show nx h ≤ _; omega) (by rw [← hg2, ← hg1]; show sc h + _ ≤ _; omega)⟩
          · simp only [↓e_Mdl_move_0, ↓e_Mdl_move_1, ↓e_Mdl_move_2, ↓e_Mdl_move_3, ↓e_Mdl_move_6, ↓e_Mdl_move_7, ↓e_Mdl_move_10, ↓e_Mdl_move_13, ↓e_Mdl_move_14, ↓e_Mdl_move_15, ↓e_Mdl_move_16, ↓e_Mdl_move_18, ↓e_Mdl_move_21, ↓e_Mdl_move_24, ↓e_Mdl_move_25, ↓e_Mdl_move_26, ↓e_Mdl_move_28, ↓e_Mdl_move_31, ↓e_Mdl_move_34, ↓e_Mdl_move_35, ↓e_Mdl_move_38, ↓e_Mdl_move_39, ↓e_Mdl_move_40, ↓e_Mdl_move_43, ↓e_Mdl_move_46, ↓e_Mdl_move_47, ↓e_Mdl_move_48, ↓e_Mdl_move_51, ↓e_Mdl_move_52, ↓e_Mdl_move_55, ↓e_Mdl_move_58, ↓e_Mdl_move_61, ↓e_Mdl_move_62, ↓e_Mdl_move_65, ↓e_Mdl_move_68, ↓e_Mdl_move_69, ↓e_Mdl_move_70, ↓e_Mdl_move_71, ↓e_Mdl_move_74, ↓e_Mdl_move_75, ↓e_Mdl_move_78, ↓e_Mdl_move_81, ↓e_Mdl_move_82, ↓e_Mdl_move_85, ↓e_Mdl_move_86, ↓e_Mdl_move_89, ↓e_Mdl_move_90, ↓e_Mdl_move_93, ↓e_Mdl_move_96, ↓e_Mdl_move_97, ↓e_Mdl_move_100, ↓e_Mdl_move_101, ↓e_Mdl_move_102, ↓e_Mdl_move_105, ↓e_Mdl_move_108, not_true_eq_false, not_false_eq_true, one0, true_or, or_true, eq_self, bI_z, bI_nz, bI_o, b_ft, bI_1, bI_0, ↓kC_l, ↓kC_r, Option.toList_some, Option.toList_none, List.cons_append, List.nil_append, s1_0, s1_1i, s1_1r, s1_1w, s1_1n, s1_s, s2_0, s2_1i, s2_1r, s2_1w, s2_1n, s2_s, gI_sI, gI_sR, gI_sL, gI_sD, gR_sI, gR_sR, gR_sL, gR_sD, gL_sI, gL_sR, gL_sL, gL_sD, gD_sI, gD_sR, gD_sL, gD_sD, isK_sI, isK_sR, isK_sL, isK_sD, inL_sI, inL_sR, inL_sL, inL_sD, nx_sI, nx_sR, nx_sL, nx_sD, kd_sI, kd_sR, kd_sL, kd_sD, ln_sI, ln_sR, ln_sL, ln_sD, ↓reduceIte, c8_n, c8_1, c8_2, c8_3, c8_4, Nat.reduceAdd, R.k, q_nbody _ R, hb, q_stF _ R, R0.k, q_misIn, e1, e2, q_rfF _ R0 _ (th0 h), R0.r9, R0.k122, q_ng _ R0 hi, R0.nk hi, R0.nz hi, q_msends _ (R0.nk hi), h7, decide_false, hg1, R1.k, R1.r9, R1.k122, q_ng _ R1 hi, R1.nk hi, hg2, R2.k, q_mlk _ R2 hi, q_bitCount, Nat.reduceEqDiff, and_false, and_self]
          · have e : ¬ 121 = p i := fun e => by have := R.nt hi; rw [← e, R.t1] at this; omega
            rw [← hg2, gI_sI, if_neg (fun w => e w.1), ← hg1, gI_sI, if_neg (fun w => e w.1)]
            exact th0 h
          · rw [V2.lk hi]
theorem qx_mtune (R : RM τ n p (8 * B) c B K h) (V0 : RA τ n p c B (sI h 121 0 0) α) (VB : BB τ b9 x9 p9 m h) (hn1 : nx h + 1000 ≤ 580300) (hs1 : sc h + 7000 ≤ 5700000) (x y : Int32) {z : Int32} (hz : z = 0 ∨ z = 1) :
    ∃ v h', (∀ Q, WP Gm j_Mdl_tune 0 [some (.inr (.inl (some 121))), some (.inl x), some (.inl y), some (.inl z), none] [] h Q = Q (.inl (some (.inl v))) h') ∧ RES τ n c B K b9 x9 p9 m h h' v (tun9 n α x y z) := by
  have hn := R.n8
  have R0 : RM τ n p (8 * B) c B K (sI h 121 0 0) := R.th
  unfold tun9
  rcases node_cases hn x with hb | ⟨hb, i, hi, rfl⟩
  · rw [if_pos (isN_no hb)]
    refine ⟨0, sI (sI h 121 0 0) 121 0 1, fun Q => ?_, RES.no R V0 VB (by decide) 0 0⟩
    simp only [↓e_Mdl_tune_0, ↓e_Mdl_tune_1, ↓e_Mdl_tune_2, ↓e_Mdl_tune_3, ↓e_Mdl_tune_6, ↓e_Mdl_tune_7, ↓e_Mdl_tune_10, ↓e_Mdl_tune_13, ↓e_Mdl_tune_14, ↓e_Mdl_tune_15, ↓e_Mdl_tune_16, ↓e_Mdl_tune_18, ↓e_Mdl_tune_21, ↓e_Mdl_tune_24, ↓e_Mdl_tune_25, ↓e_Mdl_tune_28, ↓e_Mdl_tune_29, ↓e_Mdl_tune_30, ↓e_Mdl_tune_33, ↓e_Mdl_tune_36, ↓e_Mdl_tune_37, ↓e_Mdl_tune_38, ↓e_Mdl_tune_41, ↓e_Mdl_tune_42, ↓e_Mdl_tune_45, ↓e_Mdl_tune_48, ↓e_Mdl_tune_51, ↓e_Mdl_tune_52, ↓e_Mdl_tune_55, ↓e_Mdl_tune_58, ↓e_Mdl_tune_59, ↓e_Mdl_tune_60, ↓e_Mdl_tune_61, ↓e_Mdl_tune_64, ↓e_Mdl_tune_65, ↓e_Mdl_tune_68, ↓e_Mdl_tune_71, ↓e_Mdl_tune_74, ↓e_Mdl_tune_76, ↓e_Mdl_tune_77, ↓e_Mdl_tune_80, ↓e_Mdl_tune_81, ↓e_Mdl_tune_84, ↓e_Mdl_tune_87, ↓e_Mdl_tune_88, ↓e_Mdl_tune_91, ↓e_Mdl_tune_92, ↓e_Mdl_tune_95, ↓e_Mdl_tune_96, ↓e_Mdl_tune_99, ↓e_Mdl_tune_102, ↓e_Mdl_tune_103, ↓e_Mdl_tune_106, ↓e_Mdl_tune_108, not_true_eq_false, not_false_eq_true, one0, true_or, or_true, eq_self, bI_z, bI_nz, bI_o, b_ft, bI_1, bI_0, ↓kC_l, ↓kC_r, Option.toList_some, Option.toList_none, List.cons_append, List.nil_append, s1_0, s1_1i, s1_1r, s1_1w, s1_1n, s1_s, s2_0, s2_1i, s2_1r, s2_1w, s2_1n, s2_s, gI_sI, gI_sR, gI_sL, gI_sD, gR_sI, gR_sR, gR_sL, gR_sD, gL_sI, gL_sR, gL_sL, gL_sD, gD_sI, gD_sR, gD_sL, gD_sD, isK_sI, isK_sR, isK_sL, isK_sD, inL_sI, inL_sR, inL_sL, inL_sD, nx_sI, nx_sR, nx_sL, nx_sD, kd_sI, kd_sR, kd_sL, kd_sD, ln_sI, ln_sR, ln_sL, ln_sD, ↓reduceIte, c8_n, c8_1, c8_2, c8_3, c8_4, Nat.reduceAdd, R.k, q_nbody _ R, hb, q_stT _ R]
  · rw [if_neg (by rw [isN_ok hb]; decide), tn_ii (show i < 2147483648 by omega)]
    have e7 : gI h (p i) 7 = α.1 i 7 := by
      have e9 : gI (sI h 121 0 0) (p i) 7 = gI h (p i) 7 := by rw [gI_sI, if_neg (fun w => absurd w.2 (by decide))]
      exact e9.symm.trans (V0.f hi 7 (by omega) (by omega))
    cases e1 : (decide (1 ≤ y) && decide (y ≤ 42)) with
    | false =>
      rw [if_pos (by rfl)]
      refine ⟨0, sI (sI h 121 0 0) 121 0 2, fun Q => ?_, RES.no R V0 VB (by decide) 0 0⟩
      simp only [↓e_Mdl_tune_0, ↓e_Mdl_tune_1, ↓e_Mdl_tune_2, ↓e_Mdl_tune_3, ↓e_Mdl_tune_6, ↓e_Mdl_tune_7, ↓e_Mdl_tune_10, ↓e_Mdl_tune_13, ↓e_Mdl_tune_14, ↓e_Mdl_tune_15, ↓e_Mdl_tune_16, ↓e_Mdl_tune_18, ↓e_Mdl_tune_21, ↓e_Mdl_tune_24, ↓e_Mdl_tune_25, ↓e_Mdl_tune_28, ↓e_Mdl_tune_29, ↓e_Mdl_tune_30, ↓e_Mdl_tune_33, ↓e_Mdl_tune_36, ↓e_Mdl_tune_37, ↓e_Mdl_tune_38, ↓e_Mdl_tune_41, ↓e_Mdl_tune_42, ↓e_Mdl_tune_45, ↓e_Mdl_tune_48, ↓e_Mdl_tune_51, ↓e_Mdl_tune_52, ↓e_Mdl_tune_55, ↓e_Mdl_tune_58, ↓e_Mdl_tune_59, ↓e_Mdl_tune_60, ↓e_Mdl_tune_61, ↓e_Mdl_tune_64, ↓e_Mdl_tune_65, ↓e_Mdl_tune_68, ↓e_Mdl_tune_71, ↓e_Mdl_tune_74, ↓e_Mdl_tune_76, ↓e_Mdl_tune_77, ↓e_Mdl_tune_80, ↓e_Mdl_tune_81, ↓e_Mdl_tune_84, ↓e_Mdl_tune_87, ↓e_Mdl_tune_88, ↓e_Mdl_tune_91, ↓e_Mdl_tune_92, ↓e_Mdl_tune_95, ↓e_Mdl_tune_96, ↓e_Mdl_tune_99, ↓e_Mdl_tune_102, ↓e_Mdl_tune_103, ↓e_Mdl_tune_106, ↓e_Mdl_tune_108, not_true_eq_false, not_false_eq_true, one0, true_or, or_true, eq_self, bI_z, bI_nz, bI_o, b_ft, bI_1, bI_0, ↓kC_l, ↓kC_r, Option.toList_some, Option.toList_none, List.cons_append, List.nil_append, s1_0, s1_1i, s1_1r, s1_1w, s1_1n, s1_s, s2_0, s2_1i, s2_1r, s2_1w, s2_1n, s2_s, gI_sI, gI_sR, gI_sL, gI_sD, gR_sI, gR_sR, gR_sL, gR_sD, gL_sI, gL_sR, gL_sL, gL_sD, gD_sI, gD_sR, gD_sL, gD_sD, isK_sI, isK_sR, isK_sL, isK_sD, inL_sI, inL_sR, inL_sL, inL_sD, nx_sI, nx_sR, nx_sL, nx_sD, kd_sI, kd_sR, kd_sL, kd_sD, ln_sI, ln_sR, ln_sL, ln_sD, ↓reduceIte, c8_n, c8_1, c8_2, c8_3, c8_4, Nat.reduceAdd, R.k, q_nbody _ R, hb, q_stF _ R, R0.k, q_misIn, e1, q_rfT _ R0 (show (0 : Int32) < 2 by decide) (th0 h)]
    | true =>
      rw [if_neg (by decide)]
      by_cases h7 : 0 < α.1 i 7
      · rw [if_pos h7]
        rw [← e7] at h7
        refine ⟨0, sI (sI h 121 0 0) 121 0 3, fun Q => ?_, RES.no R V0 VB (by decide) 0 0⟩
        simp only [↓e_Mdl_tune_0, ↓e_Mdl_tune_1, ↓e_Mdl_tune_2, ↓e_Mdl_tune_3, ↓e_Mdl_tune_6, ↓e_Mdl_tune_7, ↓e_Mdl_tune_10, ↓e_Mdl_tune_13, ↓e_Mdl_tune_14, ↓e_Mdl_tune_15, ↓e_Mdl_tune_16, ↓e_Mdl_tune_18, ↓e_Mdl_tune_21, ↓e_Mdl_tune_24, ↓e_Mdl_tune_25, ↓e_Mdl_tune_28, ↓e_Mdl_tune_29, ↓e_Mdl_tune_30, ↓e_Mdl_tune_33, ↓e_Mdl_tune_36, ↓e_Mdl_tune_37, ↓e_Mdl_tune_38, ↓e_Mdl_tune_41, ↓e_Mdl_tune_42, ↓e_Mdl_tune_45, ↓e_Mdl_tune_48, ↓e_Mdl_tune_51, ↓e_Mdl_tune_52, ↓e_Mdl_tune_55, ↓e_Mdl_tune_58, ↓e_Mdl_tune_59, ↓e_Mdl_tune_60, ↓e_Mdl_tune_61, ↓e_Mdl_tune_64, ↓e_Mdl_tune_65, ↓e_Mdl_tune_68, ↓e_Mdl_tune_71, ↓e_Mdl_tune_74, ↓e_Mdl_tune_76, ↓e_Mdl_tune_77, ↓e_Mdl_tune_80, ↓e_Mdl_tune_81, ↓e_Mdl_tune_84, ↓e_Mdl_tune_87, ↓e_Mdl_tune_88, ↓e_Mdl_tune_91, ↓e_Mdl_tune_92, ↓e_Mdl_tune_95, ↓e_Mdl_tune_96, ↓e_Mdl_tune_99, ↓e_Mdl_tune_102, ↓e_Mdl_tune_103, ↓e_Mdl_tune_106, ↓e_Mdl_tune_108, not_true_eq_false, not_false_eq_true, one0, true_or, or_true, eq_self, bI_z, bI_nz, bI_o, b_ft, bI_1, bI_0, ↓kC_l, ↓kC_r, Option.toList_some, Option.toList_none, List.cons_append, List.nil_append, s1_0, s1_1i, s1_1r, s1_1w, s1_1n, s1_s, s2_0, s2_1i, s2_1r, s2_1w, s2_1n, s2_s, gI_sI, gI_sR, gI_sL, gI_sD, gR_sI, gR_sR, gR_sL, gR_sD, gL_sI, gL_sR, gL_sL, gL_sD, gD_sI, gD_sR, gD_sL, gD_sD, isK_sI, isK_sR, isK_sL, isK_sD, inL_sI, inL_sR, inL_sL, inL_sD, nx_sI, nx_sR, nx_sL, nx_sD, kd_sI, kd_sR, kd_sL, kd_sD, ln_sI, ln_sR, ln_sL, ln_sD, ↓reduceIte, c8_n, c8_1, c8_2, c8_3, c8_4, Nat.reduceAdd, R.k, q_nbody _ R, hb, q_stF _ R, R0.k, q_misIn, e1, q_rfF _ R0 _ (th0 h), R0.r9, R0.k122, q_ng _ R0 hi, R0.nk hi, R0.nz hi, q_msends _ (R0.nk hi), Nat.reduceEqDiff, and_false, h7, decide_true, q_rfT _ R0 (show (0 : Int32) < 3 by decide) (th0 h)]
      · rw [if_neg h7]
        rw [← e7] at h7
        have V1' := V0.set (f := 2) R0 hi hn y (fun w => by omega)
        generalize hg1 : sI (sI h 121 0 0) (p i) 2 y = g1
        have V1 : RA τ n p c B g1 (asV α i 2 y) := by rw [← hg1]; exact V1'
        have S1 : Sw τ h g1 := by rw [← hg1]; exact (R.sth 0).sI (R.nd15 hi (by omega))
        have R1 := R.sw S1
        have V2' := V1.set (f := 3) R1 hi hn z (fun w => by omega)
        generalize hg2 : sI g1 (p i) 3 z = g2
        have V2 : RA τ n p c B g2 (asV (asV α i 2 y) i 3 z) := by rw [← hg2]; exact V2'
        have S2 : Sw τ h g2 := by rw [← hg2]; exact S1.sI (R.nd15 hi (by omega))
        generalize hv : gI (sI h 121 0 0) (p i) 2 = v
        have hz' : (z = 0 ∨ z = 1) = True := eq_true hz
        have hp121 : ¬ p i = 121 := fun e => by have := R.nt hi; rw [e, R.t1] at this; omega
        refine ⟨v, g2, fun Q => ?_, ?_, fun _ => ?_, MoA.mk0 (R.sw S2) S2.1 R.F S2.s0 VB V2 (by rw [← hg2, ← hg1]; show nx h ≤ _; omega) (by rw [← hg2, ← hg1]; show sc h + _ ≤ _; omega)⟩
        · have hv' := hv
          rw [gI_sI, if_neg (by omega)] at hv'
          simp only [↓e_Mdl_tune_0, ↓e_Mdl_tune_1, ↓e_Mdl_tune_2, ↓e_Mdl_tune_3, ↓e_Mdl_tune_6, ↓e_Mdl_tune_7, ↓e_Mdl_tune_10, ↓e_Mdl_tune_13, ↓e_Mdl_tune_14, ↓e_Mdl_tune_15, ↓e_Mdl_tune_16, ↓e_Mdl_tune_18, ↓e_Mdl_tune_21, ↓e_Mdl_tune_24, ↓e_Mdl_tune_25, ↓e_Mdl_tune_28, ↓e_Mdl_tune_29, ↓e_Mdl_tune_30, ↓e_Mdl_tune_33, ↓e_Mdl_tune_36, ↓e_Mdl_tune_37, ↓e_Mdl_tune_38, ↓e_Mdl_tune_41, ↓e_Mdl_tune_42, ↓e_Mdl_tune_45, ↓e_Mdl_tune_48, ↓e_Mdl_tune_51, ↓e_Mdl_tune_52, ↓e_Mdl_tune_55, ↓e_Mdl_tune_58, ↓e_Mdl_tune_59, ↓e_Mdl_tune_60, ↓e_Mdl_tune_61, ↓e_Mdl_tune_64, ↓e_Mdl_tune_65, ↓e_Mdl_tune_68, ↓e_Mdl_tune_71, ↓e_Mdl_tune_74, ↓e_Mdl_tune_76, ↓e_Mdl_tune_77, ↓e_Mdl_tune_80, ↓e_Mdl_tune_81, ↓e_Mdl_tune_84, ↓e_Mdl_tune_87, ↓e_Mdl_tune_88, ↓e_Mdl_tune_91, ↓e_Mdl_tune_92, ↓e_Mdl_tune_95, ↓e_Mdl_tune_96, ↓e_Mdl_tune_99, ↓e_Mdl_tune_102, ↓e_Mdl_tune_103, ↓e_Mdl_tune_106, ↓e_Mdl_tune_108, not_true_eq_false, not_false_eq_true, one0, true_or, or_true, eq_self, bI_z, bI_nz, bI_o, b_ft, bI_1, bI_0, ↓kC_l, ↓kC_r, Option.toList_some, Option.toList_none, List.cons_append, List.nil_append, s1_0, s1_1i, s1_1r, s1_1w, s1_1n, s1_s, s2_0, s2_1i, s2_1r, s2_1w, s2_1n, s2_s, gI_sI, gI_sR, gI_sL, gI_sD, gR_sI, gR_sR, gR_sL, gR_sD, gL_sI, gL_sR, gL_sL, gL_sD, gD_sI, gD_sR, gD_sL, gD_sD, isK_sI, isK_sR, isK_sL, isK_sD, inL_sI, inL_sR, inL_sL, inL_sD, nx_sI, nx_sR, nx_sL, nx_sD, kd_sI, kd_sR, kd_sL, kd_sD, ln_sI, ln_sR, ln_sL, ln_sD, ↓reduceIte, c8_n, c8_1, c8_2, c8_3, c8_4, Nat.reduceAdd, R.k, q_nbody _ R, hb, q_stF _ R, R0.k, q_misIn, e1, q_rfF _ R0 _ (th0 h), R0.r9, R0.k122, q_ng _ R0 hi, R0.nk hi, R0.nz hi, q_msends _ (R0.nk hi), h7, decide_false, hg1, R1.k, R1.r9, R1.k122, q_ng _ R1 hi, R1.nk hi, hz', hg2, hp121, Nat.reduceEqDiff, and_false, false_and, and_self, hv']
        · rw [← hg2, gI_sI, if_neg (fun w => hp121 w.1.symm), ← hg1, gI_sI, if_neg (fun w => hp121 w.1.symm)]
          exact th0 h
        · rw [← hv]
          exact V0.f hi 2 (by omega) (by omega)
theorem qx_msend (R : RM τ n p (8 * B) c B K h) (V0 : RA τ n p c B (sI h 121 0 0) α) (VB : BB τ b9 x9 p9 m h) (hn1 : nx h + 1000 ≤ 580300) (hs1 : sc h + 7000 ≤ 5700000) (x y z : Int32) :
    ∃ v h', (∀ Q, WP Gm j_Mdl_send 0 [some (.inr (.inl (some 121))), some (.inl x), some (.inl y), some (.inl z), none] [] h Q = Q (.inl (some (.inl v))) h') ∧ RES τ n c B K b9 x9 p9 m h h' v (sen9 n α x y z) := by
  have hn := R.n8
  have F := R.F
  have R0 : RM τ n p (8 * B) c B K (sI h 121 0 0) := R.th
  unfold sen9
  rcases node_cases hn x with hb | ⟨hb, i, hi, rfl⟩
  · rw [if_pos (by rw [isN_no hb]; rfl)]
    refine ⟨0, sI (sI h 121 0 0) 121 0 1, fun Q => ?_, RES.no R V0 VB (by decide) 0 0⟩
    simp only [↓e_Mdl_send_0, ↓e_Mdl_send_1, ↓e_Mdl_send_2, ↓e_Mdl_send_3, ↓e_Mdl_send_6, ↓e_Mdl_send_9, ↓e_Mdl_send_10, ↓e_Mdl_send_11, ↓e_Mdl_send_14, ↓e_Mdl_send_17, ↓e_Mdl_send_18, ↓e_Mdl_send_21, ↓e_Mdl_send_22, ↓e_Mdl_send_23, ↓e_Mdl_send_26, ↓e_Mdl_send_29, ↓e_Mdl_send_30, ↓e_Mdl_send_31, ↓e_Mdl_send_32, ↓e_Mdl_send_35, ↓e_Mdl_send_36, ↓e_Mdl_send_37, ↓e_Mdl_send_38, ↓e_Mdl_send_41, ↓e_Mdl_send_44, ↓e_Mdl_send_45, ↓e_Mdl_send_48, ↓e_Mdl_send_49, ↓e_Mdl_send_50, ↓e_Mdl_send_53, ↓e_Mdl_send_56, ↓e_Mdl_send_57, ↓e_Mdl_send_58, ↓e_Mdl_send_61, ↓e_Mdl_send_62, ↓e_Mdl_send_65, ↓e_Mdl_send_68, ↓e_Mdl_send_71, ↓e_Mdl_send_74, ↓e_Mdl_send_75, ↓e_Mdl_send_78, ↓e_Mdl_send_79, ↓e_Mdl_send_82, ↓e_Mdl_send_83, ↓e_Mdl_send_84, ↓e_Mdl_send_87, ↓e_Mdl_send_90, ↓e_Mdl_send_91, ↓e_Mdl_send_92, ↓e_Mdl_send_93, ↓e_Mdl_send_96, ↓e_Mdl_send_97, ↓e_Mdl_send_100, ↓e_Mdl_send_103, ↓e_Mdl_send_105, ↓e_Mdl_send_107, ↓e_Mdl_send_110, ↓e_Mdl_send_111, ↓e_Mdl_send_113, ↓e_Mdl_send_114, ↓e_Mdl_send_115, ↓e_Mdl_send_116, ↓e_Mdl_send_117, ↓e_Mdl_send_118, ↓e_Mdl_send_119, ↓e_Mdl_send_120, ↓e_Mdl_send_121, ↓e_Mdl_send_122, ↓e_Mdl_send_123, ↓e_Mdl_send_124, ↓e_Mdl_send_125, ↓e_Mdl_send_126, ↓e_Mdl_send_127, ↓e_Mdl_send_129, ↓e_Mdl_send_132, ↓e_Mdl_send_133, ↓e_Mdl_send_134, ↓e_Mdl_send_135, ↓e_Mdl_send_136, ↓e_Mdl_send_137, ↓e_Mdl_send_140, ↓e_Mdl_send_141, ↓e_Mdl_send_143, ↓e_Mdl_send_144, ↓e_Mdl_send_147, ↓e_Mdl_send_148, ↓e_Mdl_send_149, ↓e_Mdl_send_150, ↓e_Mdl_send_153, not_true_eq_false, not_false_eq_true, one0, true_or, or_true, eq_self, bI_z, bI_nz, bI_o, b_ft, bI_1, bI_0, ↓kC_l, ↓kC_r, Option.toList_some, Option.toList_none, List.cons_append, List.nil_append, s1_0, s1_1i, s1_1r, s1_1w, s1_1n, s1_s, s2_0, s2_1i, s2_1r, s2_1w, s2_1n, s2_s, gI_sI, gI_sR, gI_sL, gI_sD, gR_sI, gR_sR, gR_sL, gR_sD, gL_sI, gL_sR, gL_sL, gL_sD, gD_sI, gD_sR, gD_sL, gD_sD, isK_sI, isK_sR, isK_sL, isK_sD, inL_sI, inL_sR, inL_sL, inL_sD, nx_sI, nx_sR, nx_sL, nx_sD, kd_sI, kd_sR, kd_sL, kd_sD, ln_sI, ln_sR, ln_sL, ln_sD, ↓reduceIte, c8_n, c8_1, c8_2, c8_3, c8_4, Nat.reduceAdd, R.k, q_nbody _ R, hb, q_stT _ R]
  · rcases node_cases hn y with hb2 | ⟨hb2, j, hj, rfl⟩
    · rw [if_pos (by rw [isN_no hb2, Bool.and_false])]
      refine ⟨0, sI (sI h 121 0 0) 121 0 1, fun Q => ?_, RES.no R V0 VB (by decide) 0 0⟩
      simp only [↓e_Mdl_send_0, ↓e_Mdl_send_1, ↓e_Mdl_send_2, ↓e_Mdl_send_3, ↓e_Mdl_send_6, ↓e_Mdl_send_9, ↓e_Mdl_send_10, ↓e_Mdl_send_11, ↓e_Mdl_send_14, ↓e_Mdl_send_17, ↓e_Mdl_send_18, ↓e_Mdl_send_21, ↓e_Mdl_send_22, ↓e_Mdl_send_23, ↓e_Mdl_send_26, ↓e_Mdl_send_29, ↓e_Mdl_send_30, ↓e_Mdl_send_31, ↓e_Mdl_send_32, ↓e_Mdl_send_35, ↓e_Mdl_send_36, ↓e_Mdl_send_37, ↓e_Mdl_send_38, ↓e_Mdl_send_41, ↓e_Mdl_send_44, ↓e_Mdl_send_45, ↓e_Mdl_send_48, ↓e_Mdl_send_49, ↓e_Mdl_send_50, ↓e_Mdl_send_53, ↓e_Mdl_send_56, ↓e_Mdl_send_57, ↓e_Mdl_send_58, ↓e_Mdl_send_61, ↓e_Mdl_send_62, ↓e_Mdl_send_65, ↓e_Mdl_send_68, ↓e_Mdl_send_71, ↓e_Mdl_send_74, ↓e_Mdl_send_75, ↓e_Mdl_send_78, ↓e_Mdl_send_79, ↓e_Mdl_send_82, ↓e_Mdl_send_83, ↓e_Mdl_send_84, ↓e_Mdl_send_87, ↓e_Mdl_send_90, ↓e_Mdl_send_91, ↓e_Mdl_send_92, ↓e_Mdl_send_93, ↓e_Mdl_send_96, ↓e_Mdl_send_97, ↓e_Mdl_send_100, ↓e_Mdl_send_103, ↓e_Mdl_send_105, ↓e_Mdl_send_107, ↓e_Mdl_send_110, ↓e_Mdl_send_111, ↓e_Mdl_send_113, ↓e_Mdl_send_114, ↓e_Mdl_send_115, ↓e_Mdl_send_116, ↓e_Mdl_send_117, ↓e_Mdl_send_118, ↓e_Mdl_send_119, ↓e_Mdl_send_120, ↓e_Mdl_send_121, ↓e_Mdl_send_122, ↓e_Mdl_send_123, ↓e_Mdl_send_124, ↓e_Mdl_send_125, ↓e_Mdl_send_126, ↓e_Mdl_send_127, ↓e_Mdl_send_129, ↓e_Mdl_send_132, ↓e_Mdl_send_133, ↓e_Mdl_send_134, ↓e_Mdl_send_135, ↓e_Mdl_send_136, ↓e_Mdl_send_137, ↓e_Mdl_send_140, ↓e_Mdl_send_141, ↓e_Mdl_send_143, ↓e_Mdl_send_144, ↓e_Mdl_send_147, ↓e_Mdl_send_148, ↓e_Mdl_send_149, ↓e_Mdl_send_150, ↓e_Mdl_send_153, not_true_eq_false, not_false_eq_true, one0, true_or, or_true, eq_self, bI_z, bI_nz, bI_o, b_ft, bI_1, bI_0, ↓kC_l, ↓kC_r, Option.toList_some, Option.toList_none, List.cons_append, List.nil_append, s1_0, s1_1i, s1_1r, s1_1w, s1_1n, s1_s, s2_0, s2_1i, s2_1r, s2_1w, s2_1n, s2_s, gI_sI, gI_sR, gI_sL, gI_sD, gR_sI, gR_sR, gR_sL, gR_sD, gL_sI, gL_sR, gL_sL, gL_sD, gD_sI, gD_sR, gD_sL, gD_sD, isK_sI, isK_sR, isK_sL, isK_sD, inL_sI, inL_sR, inL_sL, inL_sD, nx_sI, nx_sR, nx_sL, nx_sD, kd_sI, kd_sR, kd_sL, kd_sD, ln_sI, ln_sR, ln_sL, ln_sD, ↓reduceIte, c8_n, c8_1, c8_2, c8_3, c8_4, Nat.reduceAdd, R.k, q_nbody _ R, hb, hb2, q_stT _ R]
    · rw [if_neg (by rw [isN_ok hb, isN_ok hb2]; decide), tn_ii (show i < 2147483648 by omega)]
      have eij : (ii i = ii j) = (i = j) := ii_inj (by omega) (by omega)
      by_cases hij : i = j
      · rw [if_pos (by rw [decide_eq_true (by rw [hij])]; rfl)]
        refine ⟨0, sI (sI h 121 0 0) 121 0 2, fun Q => ?_, RES.no R V0 VB (by decide) 0 0⟩
        simp only [↓e_Mdl_send_0, ↓e_Mdl_send_1, ↓e_Mdl_send_2, ↓e_Mdl_send_3, ↓e_Mdl_send_6, ↓e_Mdl_send_9, ↓e_Mdl_send_10, ↓e_Mdl_send_11, ↓e_Mdl_send_14, ↓e_Mdl_send_17, ↓e_Mdl_send_18, ↓e_Mdl_send_21, ↓e_Mdl_send_22, ↓e_Mdl_send_23, ↓e_Mdl_send_26, ↓e_Mdl_send_29, ↓e_Mdl_send_30, ↓e_Mdl_send_31, ↓e_Mdl_send_32, ↓e_Mdl_send_35, ↓e_Mdl_send_36, ↓e_Mdl_send_37, ↓e_Mdl_send_38, ↓e_Mdl_send_41, ↓e_Mdl_send_44, ↓e_Mdl_send_45, ↓e_Mdl_send_48, ↓e_Mdl_send_49, ↓e_Mdl_send_50, ↓e_Mdl_send_53, ↓e_Mdl_send_56, ↓e_Mdl_send_57, ↓e_Mdl_send_58, ↓e_Mdl_send_61, ↓e_Mdl_send_62, ↓e_Mdl_send_65, ↓e_Mdl_send_68, ↓e_Mdl_send_71, ↓e_Mdl_send_74, ↓e_Mdl_send_75, ↓e_Mdl_send_78, ↓e_Mdl_send_79, ↓e_Mdl_send_82, ↓e_Mdl_send_83, ↓e_Mdl_send_84, ↓e_Mdl_send_87, ↓e_Mdl_send_90, ↓e_Mdl_send_91, ↓e_Mdl_send_92, ↓e_Mdl_send_93, ↓e_Mdl_send_96, ↓e_Mdl_send_97, ↓e_Mdl_send_100, ↓e_Mdl_send_103, ↓e_Mdl_send_105, ↓e_Mdl_send_107, ↓e_Mdl_send_110, ↓e_Mdl_send_111, ↓e_Mdl_send_113, ↓e_Mdl_send_114, ↓e_Mdl_send_115, ↓e_Mdl_send_116, ↓e_Mdl_send_117, ↓e_Mdl_send_118, ↓e_Mdl_send_119, ↓e_Mdl_send_120, ↓e_Mdl_send_121, ↓e_Mdl_send_122, ↓e_Mdl_send_123, ↓e_Mdl_send_124, ↓e_Mdl_send_125, ↓e_Mdl_send_126, ↓e_Mdl_send_127, ↓e_Mdl_send_129, ↓e_Mdl_send_132, ↓e_Mdl_send_133, ↓e_Mdl_send_134, ↓e_Mdl_send_135, ↓e_Mdl_send_136, ↓e_Mdl_send_137, ↓e_Mdl_send_140, ↓e_Mdl_send_141, ↓e_Mdl_send_143, ↓e_Mdl_send_144, ↓e_Mdl_send_147, ↓e_Mdl_send_148, ↓e_Mdl_send_149, ↓e_Mdl_send_150, ↓e_Mdl_send_153, not_true_eq_false, not_false_eq_true, one0, true_or, or_true, eq_self, bI_z, bI_nz, bI_o, b_ft, bI_1, bI_0, ↓kC_l, ↓kC_r, Option.toList_some, Option.toList_none, List.cons_append, List.nil_append, s1_0, s1_1i, s1_1r, s1_1w, s1_1n, s1_s, s2_0, s2_1i, s2_1r, s2_1w, s2_1n, s2_s, gI_sI, gI_sR, gI_sL, gI_sD, gR_sI, gR_sR, gR_sL, gR_sD, gL_sI, gL_sR, gL_sL, gL_sD, gD_sI, gD_sR, gD_sL, gD_sD, isK_sI, isK_sR, isK_sL, isK_sD, inL_sI, inL_sR, inL_sL, inL_sD, nx_sI, nx_sR, nx_sL, nx_sD, kd_sI, kd_sR, kd_sL, kd_sD, ln_sI, ln_sR, ln_sL, ln_sD, ↓reduceIte, c8_n, c8_1, c8_2, c8_3, c8_4, Nat.reduceAdd, R.k, q_nbody _ R, hb, hb2, q_stF _ R, R0.k, eij, hij, q_rfT _ R0 (show (0 : Int32) < 2 by decide) (th0 h)]
      · rw [decide_eq_false (show ¬ ii i = ii j by rw [eij]; exact hij)]
        cases e1 : (decide (1 ≤ z) && decide (z ≤ 3)) with
        | false =>
          rw [if_pos (by rfl)]
          refine ⟨0, sI (sI h 121 0 0) 121 0 2, fun Q => ?_, RES.no R V0 VB (by decide) 0 0⟩
          simp only [↓e_Mdl_send_0, ↓e_Mdl_send_1, ↓e_Mdl_send_2, ↓e_Mdl_send_3, ↓e_Mdl_send_6, ↓e_Mdl_send_9, ↓e_Mdl_send_10, ↓e_Mdl_send_11, ↓e_Mdl_send_14, ↓e_Mdl_send_17, ↓e_Mdl_send_18, ↓e_Mdl_send_21, ↓e_Mdl_send_22, ↓e_Mdl_send_23, ↓e_Mdl_send_26, ↓e_Mdl_send_29, ↓e_Mdl_send_30, ↓e_Mdl_send_31, ↓e_Mdl_send_32, ↓e_Mdl_send_35, ↓e_Mdl_send_36, ↓e_Mdl_send_37, ↓e_Mdl_send_38, ↓e_Mdl_send_41, ↓e_Mdl_send_44, ↓e_Mdl_send_45, ↓e_Mdl_send_48, ↓e_Mdl_send_49, ↓e_Mdl_send_50, ↓e_Mdl_send_53, ↓e_Mdl_send_56, ↓e_Mdl_send_57, ↓e_Mdl_send_58, ↓e_Mdl_send_61, ↓e_Mdl_send_62, ↓e_Mdl_send_65, ↓e_Mdl_send_68, ↓e_Mdl_send_71, ↓e_Mdl_send_74, ↓e_Mdl_send_75, ↓e_Mdl_send_78, ↓e_Mdl_send_79, ↓e_Mdl_send_82, ↓e_Mdl_send_83, ↓e_Mdl_send_84, ↓e_Mdl_send_87, ↓e_Mdl_send_90, ↓e_Mdl_send_91, ↓e_Mdl_send_92, ↓e_Mdl_send_93, ↓e_Mdl_send_96, ↓e_Mdl_send_97, ↓e_Mdl_send_100, ↓e_Mdl_send_103, ↓e_Mdl_send_105, ↓e_Mdl_send_107, ↓e_Mdl_send_110, ↓e_Mdl_send_111, ↓e_Mdl_send_113, ↓e_Mdl_send_114, ↓e_Mdl_send_115, ↓e_Mdl_send_116, ↓e_Mdl_send_117, ↓e_Mdl_send_118, ↓e_Mdl_send_119, ↓e_Mdl_send_120, ↓e_Mdl_send_121, ↓e_Mdl_send_122, ↓e_Mdl_send_123, ↓e_Mdl_send_124, ↓e_Mdl_send_125, ↓e_Mdl_send_126, ↓e_Mdl_send_127, ↓e_Mdl_send_129, ↓e_Mdl_send_132, ↓e_Mdl_send_133, ↓e_Mdl_send_134, ↓e_Mdl_send_135, ↓e_Mdl_send_136, ↓e_Mdl_send_137, ↓e_Mdl_send_140, ↓e_Mdl_send_141, ↓e_Mdl_send_143, ↓e_Mdl_send_144, ↓e_Mdl_send_147, ↓e_Mdl_send_148, ↓e_Mdl_send_149, ↓e_Mdl_send_150, ↓e_Mdl_send_153, not_true_eq_false, not_false_eq_true, one0, true_or, or_true, eq_self, bI_z, bI_nz, bI_o, b_ft, bI_1, bI_0, ↓kC_l, ↓kC_r, Option.toList_some, Option.toList_none, List.cons_append, List.nil_append, s1_0, s1_1i, s1_1r, s1_1w, s1_1n, s1_s, s2_0, s2_1i, s2_1r, s2_1w, s2_1n, s2_s, gI_sI, gI_sR, gI_sL, gI_sD, gR_sI, gR_sR, gR_sL, gR_sD, gL_sI, gL_sR, gL_sL, gL_sD, gD_sI, gD_sR, gD_sL, gD_sD, isK_sI, isK_sR, isK_sL, isK_sD, inL_sI, inL_sR, inL_sL, inL_sD, nx_sI, nx_sR, nx_sL, nx_sD, kd_sI, kd_sR, kd_sL, kd_sD, ln_sI, ln_sR, ln_sL, ln_sD, ↓reduceIte, c8_n, c8_1, c8_2, c8_3, c8_4, Nat.reduceAdd, R.k, q_nbody _ R, hb, hb2, q_stF _ R, R0.k, eij, hij, q_misIn, e1, q_rfT _ R0 (show (0 : Int32) < 2 by decide) (th0 h)]
        | true =>
          rw [if_neg (by decide)]
          have no3 := RES.no R V0 VB (w := 3) (by decide) 0 0
          generalize hh0 : sI h 121 0 0 = h0 at *
          have z0h : gI h0 121 0 = 0 := by rw [← hh0]; exact th0 h
          have F0 := R0.F
          have n0 : nx h0 = nx h := by rw [← hh0]; rfl
          have s0 : sc h0 = sc h := by rw [← hh0]; rfl
          have Sh : Sw τ h h0 := by rw [← hh0]; exact R.sth 0
          obtain ⟨N1, -, ⟨k, c0, k1, c1, L⟩, -⟩ := R0.nd hi
          have hb4 : α.2.1 i < 1000000 := by
            obtain ⟨c3, -, L3⟩ := V0.q hi
            obtain ⟨a, L4⟩ := L3.li
            exact L4.b
          have ekq : α.2.1 i = k := by
            have := (V0.ql hi).symm.trans L.s
            rwa [ii_inj (by omega) (by omega)] at this
          have ek : (ii k = 4) = (k = 4) := ii_inj (j := 4) (by omega) (by omega)
          by_cases h4 : k = 4
          · have ek4 : (ii k = 4) = True := by rw [ek]; exact eq_true h4
            rw [if_pos (by omega)]
            refine ⟨0, sI h0 121 0 3, fun Q => ?_, no3⟩
            simp only [↓e_Mdl_send_0, ↓e_Mdl_send_1, ↓e_Mdl_send_2, ↓e_Mdl_send_3, ↓e_Mdl_send_6, ↓e_Mdl_send_9, ↓e_Mdl_send_10, ↓e_Mdl_send_11, ↓e_Mdl_send_14, ↓e_Mdl_send_17, ↓e_Mdl_send_18, ↓e_Mdl_send_21, ↓e_Mdl_send_22, ↓e_Mdl_send_23, ↓e_Mdl_send_26, ↓e_Mdl_send_29, ↓e_Mdl_send_30, ↓e_Mdl_send_31, ↓e_Mdl_send_32, ↓e_Mdl_send_35, ↓e_Mdl_send_36, ↓e_Mdl_send_37, ↓e_Mdl_send_38, ↓e_Mdl_send_41, ↓e_Mdl_send_44, ↓e_Mdl_send_45, ↓e_Mdl_send_48, ↓e_Mdl_send_49, ↓e_Mdl_send_50, ↓e_Mdl_send_53, ↓e_Mdl_send_56, ↓e_Mdl_send_57, ↓e_Mdl_send_58, ↓e_Mdl_send_61, ↓e_Mdl_send_62, ↓e_Mdl_send_65, ↓e_Mdl_send_68, ↓e_Mdl_send_71, ↓e_Mdl_send_74, ↓e_Mdl_send_75, ↓e_Mdl_send_78, ↓e_Mdl_send_79, ↓e_Mdl_send_82, ↓e_Mdl_send_83, ↓e_Mdl_send_84, ↓e_Mdl_send_87, ↓e_Mdl_send_90, ↓e_Mdl_send_91, ↓e_Mdl_send_92, ↓e_Mdl_send_93, ↓e_Mdl_send_96, ↓e_Mdl_send_97, ↓e_Mdl_send_100, ↓e_Mdl_send_103, ↓e_Mdl_send_105, ↓e_Mdl_send_107, ↓e_Mdl_send_110, ↓e_Mdl_send_111, ↓e_Mdl_send_113, ↓e_Mdl_send_114, ↓e_Mdl_send_115, ↓e_Mdl_send_116, ↓e_Mdl_send_117, ↓e_Mdl_send_118, ↓e_Mdl_send_119, ↓e_Mdl_send_120, ↓e_Mdl_send_121, ↓e_Mdl_send_122, ↓e_Mdl_send_123, ↓e_Mdl_send_124, ↓e_Mdl_send_125, ↓e_Mdl_send_126, ↓e_Mdl_send_127, ↓e_Mdl_send_129, ↓e_Mdl_send_132, ↓e_Mdl_send_133, ↓e_Mdl_send_134, ↓e_Mdl_send_135, ↓e_Mdl_send_136, ↓e_Mdl_send_137, ↓e_Mdl_send_140, ↓e_Mdl_send_141, ↓e_Mdl_send_143, ↓e_Mdl_send_144, ↓e_Mdl_send_147, ↓e_Mdl_send_148, ↓e_Mdl_send_149, ↓e_Mdl_send_150, ↓e_Mdl_send_153, not_true_eq_false, not_false_eq_true, one0, true_or, or_true, eq_self, bI_z, bI_nz, bI_o, b_ft, bI_1, bI_0, ↓kC_l, ↓kC_r, Option.toList_some, Option.toList_none, List.cons_append, List.nil_append, s1_0, s1_1i, s1_1r, s1_1w, s1_1n, s1_s, s2_0, s2_1i, s2_1r, s2_1w, s2_1n, s2_s, gI_sI, gI_sR, gI_sL, gI_sD, gR_sI, gR_sR, gR_sL, gR_sD, gL_sI, gL_sR, gL_sL, gL_sD, gD_sI, gD_sR, gD_sL, gD_sD, isK_sI, isK_sR, isK_sL, isK_sD, inL_sI, inL_sR, inL_sL, inL_sD, nx_sI, nx_sR, nx_sL, nx_sD, kd_sI, kd_sR, kd_sL, kd_sD, ln_sI, ln_sR, ln_sL, ln_sD, ↓reduceIte, c8_n, c8_1, c8_2, c8_3, c8_4, Nat.reduceAdd, R.k, q_nbody _ R, hb, hb2, q_stF _ R, hh0, R0.k, eij, hij, q_misIn, e1, q_rfF _ R0 _ z0h, R0.r9, R0.k122, q_ng _ R0 hi, R0.nk hi, R0.nz hi, N1.2.2.1.1, L.kd, q_zsize _ L, ek4, q_rfT _ R0 (show (0 : Int32) < 3 by decide) z0h]
          · have ek4 : (ii k = 4) = False := by rw [ek]; exact eq_false h4
            rw [if_neg (by omega)]
            obtain ⟨z0, z1, z2, z3, z4, z5⟩ := i32n
            obtain ⟨l2, l3, l5⟩ := i32p
            have e14 : gI h0 (p i) 15 = α.1 i 14 := V0.f hi 14 (by omega) (by omega)
            generalize hg0 : hN h0 100 5 5 = g0
            have N0 : Nw τ h0 5 g0 := by rw [← hg0]; exact Nw.new F0 5
            have k0 := N0.2.2.1
            obtain ⟨y0, y1, y2, y3, y4⟩ := rd5 N0.2.2.2.1
            have nz : (nx h0 = 0) = False := eq_false (by have := F0.1; omega)
            have kn0 : isK g0 (p i) kc_MNode = true := N0.2.2.2.2.1.k (R0.nk hi)
            have hpn : (p i = nx h0) = False := eq_false (Nat.ne_of_lt (isK_lt (R0.nk hi)))
            have g14 : gI g0 (p i) 15 = α.1 i 14 := by rw [← hg0, gI_hN, if_neg (Nat.ne_of_lt (isK_lt (R0.nk hi)))]; exact e14
            generalize hs9 : α.1 i 14 = s at *
            generalize hg : sI (sI (sI (sI (sI g0 (nx h0) 0 (ii i)) (nx h0) 1 (ii j)) (nx h0) 2 z) (nx h0) 3 s) (nx h0) 4 0 = g
            have N : Nw τ h0 5 g := by rw [← hg]; exact ((((N0.sI F0).sI F0).sI F0).sI F0).sI F0
            have gv : ∀ q, q < 5 → gI g (nx h0) q = fr9 (ii i) (ii j) z s q := fun q hq => by
              rw [← hg]
              unfold fr9
              have : q = 0 ∨ q = 1 ∨ q = 2 ∨ q = 3 ∨ q = 4 := by omega
              rcases this with rfl | rfl | rfl | rfl | rfl <;> simp only [gI_sI, Nat.reduceEqDiff, and_false, and_self, ↓reduceIte]
            obtain ⟨τ', u, u1, R2, V2, X2, G2, n2, s2⟩ := R0.qAddX V0 hi N hj gv rfl (by omega) (by omega) (by omega)
            have hr : okR cM sM h0 1 5 = true := ok_big (by omega) (by omega)
            have u14 : gI u (p i) 15 = s := by
              have := V2.f hi 14 (by omega) (by omega)
              rw [← hs9]
              exact this
            have V3' := V2.set (f := 14) R2 hi hn (s + 1) (fun w => by omega)
            have S3 : Sw τ' u (sI u (p i) 15 (s + 1)) := (Sw.refl τ' u).sI (R2.nd15 hi (by omega))
            have Gu : Ag τ S0 h u := Sh.s0.trans F Sh.1 S01 (G2.mono fun s w => by unfold S0; omega)
            have Xu : Ext τ h τ' u := Sh.1.trans X2
            refine ⟨s, sI u (p i) 15 (s + 1), fun Q => ?_, ?_, fun _ => rfl, MoA.mk0 (R2.sw S3) (Xu.trans S3.1) F (Gu.trans F Xu S01 S3.s0) VB V3' (by show nx u ≤ _; omega) (by show sc u + _ ≤ _; omega)⟩
            · simp only [↓e_Mdl_send_0, ↓e_Mdl_send_1, ↓e_Mdl_send_2, ↓e_Mdl_send_3, ↓e_Mdl_send_6, ↓e_Mdl_send_9, ↓e_Mdl_send_10, ↓e_Mdl_send_11, ↓e_Mdl_send_14, ↓e_Mdl_send_17, ↓e_Mdl_send_18, ↓e_Mdl_send_21, ↓e_Mdl_send_22, ↓e_Mdl_send_23, ↓e_Mdl_send_26, ↓e_Mdl_send_29, ↓e_Mdl_send_30, ↓e_Mdl_send_31, ↓e_Mdl_send_32, ↓e_Mdl_send_35, ↓e_Mdl_send_36, ↓e_Mdl_send_37, ↓e_Mdl_send_38, ↓e_Mdl_send_41, ↓e_Mdl_send_44, ↓e_Mdl_send_45, ↓e_Mdl_send_48, ↓e_Mdl_send_49, ↓e_Mdl_send_50, ↓e_Mdl_send_53, ↓e_Mdl_send_56, ↓e_Mdl_send_57, ↓e_Mdl_send_58, ↓e_Mdl_send_61, ↓e_Mdl_send_62, ↓e_Mdl_send_65, ↓e_Mdl_send_68, ↓e_Mdl_send_71, ↓e_Mdl_send_74, ↓e_Mdl_send_75, ↓e_Mdl_send_78, ↓e_Mdl_send_79, ↓e_Mdl_send_82, ↓e_Mdl_send_83, ↓e_Mdl_send_84, ↓e_Mdl_send_87, ↓e_Mdl_send_90, ↓e_Mdl_send_91, ↓e_Mdl_send_92, ↓e_Mdl_send_93, ↓e_Mdl_send_96, ↓e_Mdl_send_97, ↓e_Mdl_send_100, ↓e_Mdl_send_103, ↓e_Mdl_send_105, ↓e_Mdl_send_107, ↓e_Mdl_send_110, ↓e_Mdl_send_111, ↓e_Mdl_send_113, ↓e_Mdl_send_114, ↓e_Mdl_send_115, ↓e_Mdl_send_116, ↓e_Mdl_send_117, ↓e_Mdl_send_118, ↓e_Mdl_send_119, ↓e_Mdl_send_120, ↓e_Mdl_send_121, ↓e_Mdl_send_122, ↓e_Mdl_send_123, ↓e_Mdl_send_124, ↓e_Mdl_send_125, ↓e_Mdl_send_126, ↓e_Mdl_send_127, ↓e_Mdl_send_129, ↓e_Mdl_send_132, ↓e_Mdl_send_133, ↓e_Mdl_send_134, ↓e_Mdl_send_135, ↓e_Mdl_send_136, ↓e_Mdl_send_137, ↓e_Mdl_send_140, ↓e_Mdl_send_141, ↓e_Mdl_send_143, ↓e_Mdl_send_144, ↓e_Mdl_send_147, ↓e_Mdl_send_148, ↓e_Mdl_send_149, ↓e_Mdl_send_150, ↓e_Mdl_send_153, not_true_eq_false, not_false_eq_true, one0, true_or, or_true, eq_self, bI_z, bI_nz, bI_o, b_ft, bI_1, bI_0, ↓kC_l, ↓kC_r, Option.toList_some, Option.toList_none, List.cons_append, List.nil_append, s1_0, s1_1i, s1_1r, s1_1w, s1_1n, s1_s, s2_0, s2_1i, s2_1r, s2_1w, s2_1n, s2_s, gI_sI, gI_sR, gI_sL, gI_sD, gR_sI, gR_sR, gR_sL, gR_sD, gL_sI, gL_sR, gL_sL, gL_sD, gD_sI, gD_sR, gD_sL, gD_sD, isK_sI, isK_sR, isK_sL, isK_sD, inL_sI, inL_sR, inL_sL, inL_sD, nx_sI, nx_sR, nx_sL, nx_sD, kd_sI, kd_sR, kd_sL, kd_sD, ln_sI, ln_sR, ln_sL, ln_sD, ↓reduceIte, c8_n, c8_1, c8_2, c8_3, c8_4, Nat.reduceAdd, R.k, q_nbody _ R, hb, hb2, q_stF _ R, hh0, R0.k, eij, hij, q_misIn, e1, q_rfF _ R0 _ z0h, R0.r9, R0.k122, q_ng _ R0 hi, R0.nk hi, R0.nz hi, N1.2.2.1.1, L.kd, q_zsize _ L, ek4, z0, z1, z2, z3, z4, z5, l5, Nat.reduceLeDiff, and_self, hr, hg0, k0, y0, y1, y2, y3, y4, nz, kn0, hpn, false_and, and_false, Nat.reduceEqDiff, g14, hg, N.2.2.2.2.1.k L.kd, u1, R2.nk hi, u14]
            · have e : ¬ 121 = p i := fun e => by have := R.nt hi; rw [← e, R.t1] at this; omega
              rw [gI_sI, if_neg (fun w => e w.1), (G2 121 (by rw [R.t1]; omega) 0).1]
              exact z0h
theorem qx_mpass (R : RM τ n p (8 * B) c B K h) (V0 : RA τ n p c B (sI h 121 0 0) α) (W : VQ n α) (VB : BB τ b9 x9 p9 m h) (hn1 : nx h + 1000 + 33 * (2000 - B) ≤ 580300) (hs1 : sc h + 430000 + 648 * (2000 - B) ≤ 5700000) (x : Int32) :
    ∃ v h', (∀ Q, WP Gm j_Mdl_pass 0 [some (.inr (.inl (some 121))), some (.inl x), none] [] h Q = Q (.inl (some (.inl v))) h') ∧ RES τ n c B K b9 x9 p9 m h h' v (pas9 n B α x) := by
  have hn := R.n8
  have F := R.F
  have hB := R.b2
  have hc0 := R.cb
  have R0 : RM τ n p (8 * B) c B K (sI h 121 0 0) := R.th
  unfold pas9
  cases e1 : (decide (1 ≤ x) && decide (x ≤ 200)) with
  | false =>
    rw [if_pos rfl]
    refine ⟨0, sI (sI h 121 0 0) 121 0 1, fun Q => ?_, RES.no R V0 VB (by decide) 0 0⟩
    simp only [↓e_Mdl_pass_0, ↓e_Mdl_pass_1, ↓e_Mdl_pass_2, ↓e_Mdl_pass_3, ↓e_Mdl_pass_6, ↓e_Mdl_pass_9, ↓e_Mdl_pass_12, ↓e_Mdl_pass_13, ↓e_Mdl_pass_16, ↓e_Mdl_pass_17, ↓e_Mdl_pass_18, ↓e_Mdl_pass_21, ↓e_Mdl_pass_24, ↓e_Mdl_pass_25, ↓e_Mdl_pass_26, ↓e_Mdl_pass_29, ↓e_Mdl_pass_30, ↓e_Mdl_pass_31, ↓e_Mdl_pass_34, ↓e_Mdl_pass_37, ↓e_Mdl_pass_38, ↓e_Mdl_pass_41, ↓e_Mdl_pass_42, ↓e_Mdl_pass_43, ↓e_Mdl_pass_46, ↓e_Mdl_pass_49, ↓e_Mdl_pass_50, ↓e_Mdl_pass_51, ↓e_Mdl_pass_52, ↓e_Mdl_pass_53, ↓e_Mdl_pass_54, ↓e_Mdl_pass_55, ↓e_Mdl_pass_58, ↓e_Mdl_pass_59, ↓e_Mdl_pass_62, ↓e_Mdl_pass_65, ↓e_Mdl_pass_68, ↓e_Mdl_pass_69, ↓e_Mdl_pass_72, not_true_eq_false, not_false_eq_true, one0, true_or, or_true, eq_self, bI_z, bI_nz, bI_o, b_ft, bI_1, bI_0, ↓kC_l, ↓kC_r, Option.toList_some, Option.toList_none, List.cons_append, List.nil_append, s1_0, s1_1i, s1_1r, s1_1w, s1_1n, s1_s, s2_0, s2_1i, s2_1r, s2_1w, s2_1n, s2_s, gI_sI, gI_sR, gI_sL, gI_sD, gR_sI, gR_sR, gR_sL, gR_sD, gL_sI, gL_sR, gL_sL, gL_sD, gD_sI, gD_sR, gD_sL, gD_sD, isK_sI, isK_sR, isK_sL, isK_sD, inL_sI, inL_sR, inL_sL, inL_sD, nx_sI, nx_sR, nx_sL, nx_sD, kd_sI, kd_sR, kd_sL, kd_sD, ln_sI, ln_sR, ln_sL, ln_sD, ↓reduceIte, c8_n, c8_1, c8_2, c8_3, c8_4, Nat.reduceAdd, R.k, q_misIn, e1, q_stT _ R]
  | true =>
    rw [if_neg (by decide)]
    obtain ⟨t, t1, t2, rfl⟩ := i32_cases1 (a := 1) (b := 200) (by omega) e1 (by omega)
    rw [tn_ii (show t < 2147483648 by omega)]
    have es : gI (sI h 121 0 0) 121 1 = ii B := R0.sl
    have eS : ii B + ii t = ii (B + t) := by unfold ii; rw [Int32.ofNat_add]
    have eL : (ii (B + t) ≤ (2000 : Int32)) = (B + t ≤ 2000) := ii_le (j := 2000) (by omega) (by omega)
    have no2 := RES.no R V0 VB (w := 2) (by decide) 0 0
    generalize hh0 : sI h 121 0 0 = h0 at *
    have z0h : gI h0 121 0 = 0 := by rw [← hh0]; exact th0 h
    have n0 : nx h0 = nx h := by rw [← hh0]; rfl
    have s0 : sc h0 = sc h := by rw [← hh0]; rfl
    have Sh : Sw τ h h0 := by rw [← hh0]; exact R.sth 0
    by_cases hL : B + t ≤ 2000
    · rw [if_pos hL]
      obtain ⟨g, e2, τ', A', c', Rg, Vg, Wg, A1, Xg, Gg, ng, sg⟩ := loopR (fun Q k (g : Hp) => WP Gm j_Mdl_pass 53 [some (.inr (.inl (some 121))), some (.inl (ii t)), some (.inl (ii k))] [] g Q)
        (fun k g => ∃ τ' A' c', RM τ' n p A' c' (B + k) K g ∧ RA τ' n p c' (B + k) g (sl9 n k α) ∧ VQ n (sl9 n k α) ∧ A' ≤ 8 * (B + k) ∧ Ext τ h τ' g ∧ Ag τ S0 h g ∧ nx g ≤ nx h + 33 * k ∧ sc g + 4 * c ≤ sc h + 648 * k + 4 * c') t
        (fun k g hk hI => by
          obtain ⟨τ', A', c', Rg, Vg, Wg, A1, Xg, Gg, ng, sg⟩ := hI
          have hcg := Rg.cb
          obtain ⟨τ2, A2, c2, u, u1, u2, u2', u2'', u3, u4, u5, u6, u7⟩ := qx_nextSlot Rg Vg Wg (by omega) (by omega) (by omega) (by omega)
          refine ⟨u, fun Q => ?_, τ2, A2, c2, u2, u2', u2'', by omega, Xg.trans u4, Gg.trans F Xg S01 u5, by omega, by omega⟩
          rw [e_Mdl_pass_53]
          simp only [↓e_Mdl_pass_0, ↓e_Mdl_pass_1, ↓e_Mdl_pass_2, ↓e_Mdl_pass_3, ↓e_Mdl_pass_6, ↓e_Mdl_pass_9, ↓e_Mdl_pass_12, ↓e_Mdl_pass_13, ↓e_Mdl_pass_16, ↓e_Mdl_pass_17, ↓e_Mdl_pass_18, ↓e_Mdl_pass_21, ↓e_Mdl_pass_24, ↓e_Mdl_pass_25, ↓e_Mdl_pass_26, ↓e_Mdl_pass_29, ↓e_Mdl_pass_30, ↓e_Mdl_pass_31, ↓e_Mdl_pass_34, ↓e_Mdl_pass_37, ↓e_Mdl_pass_38, ↓e_Mdl_pass_41, ↓e_Mdl_pass_42, ↓e_Mdl_pass_43, ↓e_Mdl_pass_46, ↓e_Mdl_pass_49, ↓e_Mdl_pass_50, ↓e_Mdl_pass_51, ↓e_Mdl_pass_52, ↓e_Mdl_pass_54, ↓e_Mdl_pass_55, ↓e_Mdl_pass_58, ↓e_Mdl_pass_59, ↓e_Mdl_pass_62, ↓e_Mdl_pass_65, ↓e_Mdl_pass_68, ↓e_Mdl_pass_69, ↓e_Mdl_pass_72, not_true_eq_false, not_false_eq_true, one0, true_or, or_true, eq_self, bI_z, bI_nz, bI_o, b_ft, bI_1, bI_0, ↓kC_l, ↓kC_r, Option.toList_some, Option.toList_none, List.cons_append, List.nil_append, s1_0, s1_1i, s1_1r, s1_1w, s1_1n, s1_s, s2_0, s2_1i, s2_1r, s2_1w, s2_1n, s2_s, gI_sI, gI_sR, gI_sL, gI_sD, gR_sI, gR_sR, gR_sL, gR_sD, gL_sI, gL_sR, gL_sL, gL_sD, gD_sI, gD_sR, gD_sL, gD_sD, isK_sI, isK_sR, isK_sL, isK_sD, inL_sI, inL_sR, inL_sL, inL_sD, nx_sI, nx_sR, nx_sL, nx_sD, kd_sI, kd_sR, kd_sL, kd_sD, ln_sI, ln_sR, ln_sL, ln_sD, ↓reduceIte, c8_n, c8_1, c8_2, c8_3, c8_4, Nat.reduceAdd, lle_f (show t < 2147483648 by omega) hk, Rg.k, u1, ii_succ]) t 0 h0 (by omega) ⟨τ, 8 * B, c, R0, V0, W, by omega, Sh.1, Sh.s0, by omega, by omega⟩
      have R8 : RM τ' n p (8 * (B + t)) c' (B + t) K g := by
        obtain ⟨a1, a2, a3, a4, a5, ⟨k, k1, ⟨k2, k3⟩, k4⟩, a7⟩ := Rg
        exact ⟨a1, a2, a3, a4, a5, ⟨k, by omega, ⟨k2, by omega⟩, k4⟩, a7⟩
      refine ⟨gI g 121 1, g, fun Q => ?_, ?_, fun _ => R8.sl, τ', p, c', B + t, R8, Xg, Gg.mono fun s w => by unfold S0 at w; unfold SM9; omega, ⟨by omega, by omega, by omega⟩, VB.fr F Xg Gg (by unfold S0; omega) (by unfold S0; omega) (by unfold S0; omega), _, by rw [asV_id]; exact Vg⟩
      rotate_left
      · have e9 := Vg.g (k := 1) (by omega) (by omega)
        rw [sl_51] at e9
        have e8 := V0.g (k := 1) (by omega) (by omega)
        exact e9.trans (e8.symm.trans z0h)
      have pre : WP Gm j_Mdl_pass 0 [some (.inr (.inl (some 121))), some (.inl (ii t)), none] [] h Q = WP Gm j_Mdl_pass 53 [some (.inr (.inl (some 121))), some (.inl (ii t)), some (.inl (ii 0))] [] h0 Q := by
        simp only [↓e_Mdl_pass_0, ↓e_Mdl_pass_1, ↓e_Mdl_pass_2, ↓e_Mdl_pass_3, ↓e_Mdl_pass_6, ↓e_Mdl_pass_9, ↓e_Mdl_pass_12, ↓e_Mdl_pass_13, ↓e_Mdl_pass_16, ↓e_Mdl_pass_17, ↓e_Mdl_pass_18, ↓e_Mdl_pass_21, ↓e_Mdl_pass_24, ↓e_Mdl_pass_25, ↓e_Mdl_pass_26, ↓e_Mdl_pass_29, ↓e_Mdl_pass_30, ↓e_Mdl_pass_31, ↓e_Mdl_pass_34, ↓e_Mdl_pass_37, ↓e_Mdl_pass_38, ↓e_Mdl_pass_41, ↓e_Mdl_pass_42, ↓e_Mdl_pass_43, ↓e_Mdl_pass_46, ↓e_Mdl_pass_49, ↓e_Mdl_pass_50, ↓e_Mdl_pass_51, ↓e_Mdl_pass_52, ↓e_Mdl_pass_54, ↓e_Mdl_pass_55, ↓e_Mdl_pass_58, ↓e_Mdl_pass_59, ↓e_Mdl_pass_62, ↓e_Mdl_pass_65, ↓e_Mdl_pass_68, ↓e_Mdl_pass_69, ↓e_Mdl_pass_72, not_true_eq_false, not_false_eq_true, one0, true_or, or_true, eq_self, bI_z, bI_nz, bI_o, b_ft, bI_1, bI_0, ↓kC_l, ↓kC_r, Option.toList_some, Option.toList_none, List.cons_append, List.nil_append, s1_0, s1_1i, s1_1r, s1_1w, s1_1n, s1_s, s2_0, s2_1i, s2_1r, s2_1w, s2_1n, s2_s, gI_sI, gI_sR, gI_sL, gI_sD, gR_sI, gR_sR, gR_sL, gR_sD, gL_sI, gL_sR, gL_sL, gL_sD, gD_sI, gD_sR, gD_sL, gD_sD, isK_sI, isK_sR, isK_sL, isK_sD, inL_sI, inL_sR, inL_sL, inL_sD, nx_sI, nx_sR, nx_sL, nx_sD, kd_sI, kd_sR, kd_sL, kd_sD, ln_sI, ln_sR, ln_sL, ln_sD, ↓reduceIte, c8_n, c8_1, c8_2, c8_3, c8_4, Nat.reduceAdd, R.k, q_misIn, e1, q_stF _ R, hh0, R0.k, es, eS, eL, hL, q_rfF _ R0 _ z0h]
        rfl
      rw [pre, e2 Q, e_Mdl_pass_53]
      simp only [↓e_Mdl_pass_0, ↓e_Mdl_pass_1, ↓e_Mdl_pass_2, ↓e_Mdl_pass_3, ↓e_Mdl_pass_6, ↓e_Mdl_pass_9, ↓e_Mdl_pass_12, ↓e_Mdl_pass_13, ↓e_Mdl_pass_16, ↓e_Mdl_pass_17, ↓e_Mdl_pass_18, ↓e_Mdl_pass_21, ↓e_Mdl_pass_24, ↓e_Mdl_pass_25, ↓e_Mdl_pass_26, ↓e_Mdl_pass_29, ↓e_Mdl_pass_30, ↓e_Mdl_pass_31, ↓e_Mdl_pass_34, ↓e_Mdl_pass_37, ↓e_Mdl_pass_38, ↓e_Mdl_pass_41, ↓e_Mdl_pass_42, ↓e_Mdl_pass_43, ↓e_Mdl_pass_46, ↓e_Mdl_pass_49, ↓e_Mdl_pass_50, ↓e_Mdl_pass_51, ↓e_Mdl_pass_52, ↓e_Mdl_pass_54, ↓e_Mdl_pass_55, ↓e_Mdl_pass_58, ↓e_Mdl_pass_59, ↓e_Mdl_pass_62, ↓e_Mdl_pass_65, ↓e_Mdl_pass_68, ↓e_Mdl_pass_69, ↓e_Mdl_pass_72, not_true_eq_false, not_false_eq_true, one0, true_or, or_true, eq_self, bI_z, bI_nz, bI_o, b_ft, bI_1, bI_0, ↓kC_l, ↓kC_r, Option.toList_some, Option.toList_none, List.cons_append, List.nil_append, s1_0, s1_1i, s1_1r, s1_1w, s1_1n, s1_s, s2_0, s2_1i, s2_1r, s2_1w, s2_1n, s2_s, gI_sI, gI_sR, gI_sL, gI_sD, gR_sI, gR_sR, gR_sL, gR_sD, gL_sI, gL_sR, gL_sL, gL_sD, gD_sI, gD_sR, gD_sL, gD_sD, isK_sI, isK_sR, isK_sL, isK_sD, inL_sI, inL_sR, inL_sL, inL_sD, nx_sI, nx_sR, nx_sL, nx_sD, kd_sI, kd_sR, kd_sL, kd_sD, ln_sI, ln_sR, ln_sL, ln_sD, ↓reduceIte, c8_n, c8_1, c8_2, c8_3, c8_4, Nat.reduceAdd, lle_t (show t < 2147483648 by omega), Rg.k]
    · rw [if_neg hL]
      refine ⟨0, sI h0 121 0 2, fun Q => ?_, no2⟩
      simp only [↓e_Mdl_pass_0, ↓e_Mdl_pass_1, ↓e_Mdl_pass_2, ↓e_Mdl_pass_3, ↓e_Mdl_pass_6, ↓e_Mdl_pass_9, ↓e_Mdl_pass_12, ↓e_Mdl_pass_13, ↓e_Mdl_pass_16, ↓e_Mdl_pass_17, ↓e_Mdl_pass_18, ↓e_Mdl_pass_21, ↓e_Mdl_pass_24, ↓e_Mdl_pass_25, ↓e_Mdl_pass_26, ↓e_Mdl_pass_29, ↓e_Mdl_pass_30, ↓e_Mdl_pass_31, ↓e_Mdl_pass_34, ↓e_Mdl_pass_37, ↓e_Mdl_pass_38, ↓e_Mdl_pass_41, ↓e_Mdl_pass_42, ↓e_Mdl_pass_43, ↓e_Mdl_pass_46, ↓e_Mdl_pass_49, ↓e_Mdl_pass_50, ↓e_Mdl_pass_51, ↓e_Mdl_pass_52, ↓e_Mdl_pass_53, ↓e_Mdl_pass_54, ↓e_Mdl_pass_55, ↓e_Mdl_pass_58, ↓e_Mdl_pass_59, ↓e_Mdl_pass_62, ↓e_Mdl_pass_65, ↓e_Mdl_pass_68, ↓e_Mdl_pass_69, ↓e_Mdl_pass_72, not_true_eq_false, not_false_eq_true, one0, true_or, or_true, eq_self, bI_z, bI_nz, bI_o, b_ft, bI_1, bI_0, ↓kC_l, ↓kC_r, Option.toList_some, Option.toList_none, List.cons_append, List.nil_append, s1_0, s1_1i, s1_1r, s1_1w, s1_1n, s1_s, s2_0, s2_1i, s2_1r, s2_1w, s2_1n, s2_s, gI_sI, gI_sR, gI_sL, gI_sD, gR_sI, gR_sR, gR_sL, gR_sD, gL_sI, gL_sR, gL_sL, gL_sD, gD_sI, gD_sR, gD_sL, gD_sD, isK_sI, isK_sR, isK_sL, isK_sD, inL_sI, inL_sR, inL_sL, inL_sD, nx_sI, nx_sR, nx_sL, nx_sD, kd_sI, kd_sR, kd_sL, kd_sD, ln_sI, ln_sR, ln_sL, ln_sD, ↓reduceIte, c8_n, c8_1, c8_2, c8_3, c8_4, Nat.reduceAdd, R.k, q_misIn, e1, q_stF _ R, hh0, R0.k, es, eS, eL, hL, q_rfT _ R0 (show (0 : Int32) < 2 by decide) z0h]
end RCA
