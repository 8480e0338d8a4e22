/-! xca3: a slot of the country in values -/
/-- the slots to come of all nodes changed at once -/
def tw (g : Nat → Int32 → Int32) (β : As) : As := (fun a f => if f = 7 then g a (β.1 a 7) else β.1 a f, β.2)
section TW
variable {g : Nat → Int32 → Int32} {β : As}
theorem tw_r {a f : Nat} (h : f ≠ 7) : (tw g β).1 a f = β.1 a f := if_neg h
theorem tw_v {i f : Nat} (v : Int32) (h : f ≠ 7) : asV (tw g β) i f v = tw g (asV β i f v) := by
  refine Prod.ext (funext fun a => funext fun k => ?_) rfl
  show (if a = i ∧ k = f then v else if k = 7 then g a (β.1 a 7) else β.1 a k) = (if k = 7 then g a (if a = i ∧ 7 = f then v else β.1 a 7) else if a = i ∧ k = f then v else β.1 a k)
  by_cases e : k = 7
  · rw [if_neg (by omega), if_pos e, if_pos e, if_neg (by omega)]
  · rw [if_neg e, if_neg e]
theorem tw_drp (i : Nat) : drp9 (tw g β) i = tw g (drp9 β i) := by
  have e : asPop (tw g β) i = tw g (asPop β i) := rfl
  unfold drp9
  rw [tw_r (by decide), e, tw_v _ (by decide), tw_v _ (by decide)]
theorem tw_rcv (j : Nat) (w : Nat → Int32) : rcv9 (tw g β) j w = tw g (rcv9 β j w) := by
  unfold rcv9
  split
  · unfold arv9
    by_cases e : β.2.2.2 (tn9 (w 0)) (tn9 (w 3)) = true
    · rw [if_pos e, if_pos (show (tw g β).2.2.2 (tn9 (w 0)) (tn9 (w 3)) = true from e), tw_r (by decide), tw_v _ (by decide)]
    · rw [if_neg e, if_neg (show ¬ (tw g β).2.2.2 (tn9 (w 0)) (tn9 (w 3)) = true from e), tw_r (by decide)]
      have e2 : asR (tw g β) (tn9 (w 0)) (tn9 (w 3)) = tw g (asR β (tn9 (w 0)) (tn9 (w 3))) := rfl
      rw [e2, tw_v _ (by decide)]
  · by_cases e : 7 ≤ w 4 ∨ β.2.1 j = 4
    · rw [if_pos e, if_pos (show 7 ≤ w 4 ∨ (tw g β).2.1 j = 4 from e), tw_r (by decide), tw_v _ (by decide)]
    · rw [if_neg e, if_neg (show ¬ (7 ≤ w 4 ∨ (tw g β).2.1 j = 4) from e)]
      rfl
theorem tw_wai (i : Nat) (x : Int32) : wai9 (tw g β) i x = tw g (wai9 β i x) := by
  unfold wai9
  rw [tw_r (by decide), tw_r (by decide), tw_v _ (by decide), tw_v _ (by decide), tw_v _ (by decide)]
theorem tw_try (i : Nat) : try9 (tw g β) i = tw g (try9 β i) := by
  have ed : dr9 (tw g β) = dr9 β := dr_congr (tw_r (by decide))
  unfold try9
  rw [tw_r (by decide), tw_r (by decide), ed, tw_v _ (by decide), tw_drp, tw_v _ (by decide), tw_wai, tw_wai]
  split
  · rfl
  · split <;> rfl
theorem tw_fin (i : Nat) (b : Bool) : fin9 (tw g β) i b = tw g (fin9 β i b) := by
  unfold fin9
  rw [tw_v _ (by decide), tw_try]
  have e : asPop (tw g (asV β i 8 (-1))) i = tw g (asPop (asV β i 8 (-1)) i) := rfl
  rw [e, tw_v _ (by decide)]
  split <;> rfl
theorem tw_end (i : Nat) : end9 (tw g β) i = tw g (end9 β i) := by
  have eh : hr9 (tw g β) i (tn9 (β.1 i 8)) = hr9 β i (tn9 (β.1 i 8)) := hr_congr fun a k _ hk => tw_r (by omega)
  have e2 : (tw g β).2.2.1 i 0 = β.2.2.1 i 0 := rfl
  unfold end9
  rw [tw_r (by decide), tw_r (by decide), eh, e2, tw_rcv, tw_fin, tw_fin]
  split <;> rfl
end TW
def dcr (S : Nat → Bool) (lo hi : Nat) : As → As := tw fun a v => if lo ≤ a ∧ a < hi ∧ S a = true then v - 1 else v
def goa9 (n : Nat) (S : Nat → Bool) (β : As) (k : Nat) : As := de9 (asV (asV β k 10 (β.1 k 10 + 1)) k 9 (β.1 k 9 &&& bI (gt9 β n S (tn9 (β.1 k 8)) k))) k
def go9 (n : Nat) (S : Nat → Bool) : Nat → As → As
  | 0, α => α
  | k + 1, α => if S k = true then goa9 n S (go9 n S k α) k else go9 n S k α
def ce9 (S : Nat → Bool) : Nat → As → As
  | 0, α => α
  | k + 1, α => if (S k && decide ((ce9 S k α).1 k 7 = 0)) = true then end9 (ce9 S k α) k else ce9 S k α
theorem go_s (n : Nat) (S : Nat → Bool) (k : Nat) (α : As) : go9 n S (k + 1) α = if S k = true then goa9 n S (go9 n S k α) k else go9 n S k α := rfl
theorem ce_s (S : Nat → Bool) (k : Nat) (α : As) : ce9 S (k + 1) α = if (S k && decide ((ce9 S k α).1 k 7 = 0)) = true then end9 (ce9 S k α) k else ce9 S k α := rfl
theorem dcr_r {S : Nat → Bool} {lo hi a f : Nat} {β : As} (h : f ≠ 7) : (dcr S lo hi β).1 a f = β.1 a f := tw_r h
theorem dcr_7 {S : Nat → Bool} {lo hi a : Nat} {β : As} : (dcr S lo hi β).1 a 7 = if lo ≤ a ∧ a < hi ∧ S a = true then β.1 a 7 - 1 else β.1 a 7 := by
  unfold dcr tw
  dsimp only
  rw [if_pos rfl]
theorem dcr_v {S : Nat → Bool} {lo hi i f : Nat} {β : As} (v : Int32) (h : f ≠ 7) : asV (dcr S lo hi β) i f v = dcr S lo hi (asV β i f v) := tw_v v h
theorem as_ext {α β : As} (h7 : ∀ a, α.1 a 7 = β.1 a 7) (h : ∀ a f, f ≠ 7 → α.1 a f = β.1 a f) (h2 : α.2 = β.2) : α = β := Prod.ext (funext fun a => funext fun f => by
  by_cases e : f = 7
  · rw [e]; exact h7 a
  · exact h a f e) h2
theorem gt_all {α β : As} {n : Nat} {S : Nat → Bool} {x j : Nat} (h : ∀ a k, k ≤ 2 → α.1 a k = β.1 a k) : gt9 α n S x j = gt9 β n S x j := by
  have ef : ∀ a d, fX α a d = fX β a d := fun a d => by
    unfold fX
    rw [h a 0 (by omega), h d 0 (by omega), h a 1 (by omega), h d 1 (by omega)]
  have eh : ∀ a d, hr9 α a d = hr9 β a d := fun a d => hr_congr fun z k hz hk => h z k hk
  unfold gt9
  rw [eh x j, exUp_congr n 0 fun k _ hk => ?_]
  unfold gb9
  rw [eh x k, ef k x, ef j x]
theorem go_ai (n : Nat) (S : Nat → Bool) (α : As) : ∀ k, go9 n S k α = dcr S 0 k (ai9 n S k α)
  | 0 => as_ext (fun a => by rw [dcr_7, if_neg (by omega)]; rfl) (fun a f h => (dcr_r h).symm) rfl
  | k + 1 => by
    rw [go_s, ai_s, go_ai n S α k]
    generalize ai9 n S k α = γ
    cases hS : S k with
    | false =>
      rw [if_neg (by decide), if_neg (by decide)]
      refine as_ext (fun a => ?_) (fun a f h => by rw [dcr_r h, dcr_r h]) rfl
      rw [dcr_7, dcr_7]
      by_cases e : a = k
      · subst e
        rw [if_neg (by omega), if_neg (by rw [hS]; simp)]
      · by_cases e2 : 0 ≤ a ∧ a < k ∧ S a = true
        · rw [if_pos e2, if_pos ⟨by omega, by omega, e2.2.2⟩]
        · rw [if_neg e2, if_neg (fun w => e2 ⟨by omega, by omega, w.2.2⟩)]
    | true =>
      rw [if_pos rfl, if_pos rfl]
      have eg : gt9 (dcr S 0 k γ) n S (tn9 (γ.1 k 8)) k = gt9 γ n S (tn9 (γ.1 k 8)) k := gt_all fun a f hf => dcr_r (by omega)
      unfold goa9
      rw [dcr_r (by decide), dcr_r (by decide), dcr_r (by decide), eg, dcr_v _ (by decide), dcr_v _ (by decide)]
      generalize hδ : asV (asV γ k 10 (γ.1 k 10 + 1)) k 9 (γ.1 k 9 &&& bI (gt9 γ n S (tn9 (γ.1 k 8)) k)) = δ
      unfold de9
      refine as_ext (fun a => ?_) (fun a f h => by rw [asV_n _ _ (fun w => h w.2), dcr_r h, dcr_r h]) rfl
      by_cases e : a = k
      · subst e
        rw [asV_s, dcr_7, dcr_7, if_neg (by omega), if_pos ⟨by omega, by omega, hS⟩]
      · rw [asV_n _ _ (fun w => e w.1), dcr_7, dcr_7]
        by_cases e2 : 0 ≤ a ∧ a < k ∧ S a = true
        · rw [if_pos e2, if_pos ⟨by omega, by omega, e2.2.2⟩]
        · rw [if_neg e2, if_neg (fun w => e2 ⟨by omega, by omega, w.2.2⟩)]
theorem dcr_in {S : Nat → Bool} {k n : Nat} {β : As} (hk : k < n) (hS : S k = true) : dcr S k n β = dcr S (k + 1) n (de9 β k) := by
  unfold de9
  refine as_ext (fun a => ?_) (fun a f h => by rw [dcr_r h, dcr_r h, asV_n _ _ (fun w => h w.2)]) rfl
  rw [dcr_7, dcr_7]
  by_cases e : a = k
  · subst e
    rw [if_pos ⟨Nat.le_refl _, hk, hS⟩, if_neg (by omega), asV_s]
  · rw [asV_n _ _ (fun w => e w.1)]
    by_cases e2 : k ≤ a ∧ a < n ∧ S a = true
    · rw [if_pos e2, if_pos ⟨by omega, by omega, e2.2.2⟩]
    · rw [if_neg e2, if_neg (fun w => e2 ⟨by omega, by omega, w.2.2⟩)]
theorem dcr_out {S : Nat → Bool} {k n : Nat} {β : As} (hS : S k = false) : dcr S k n β = dcr S (k + 1) n β := by
  refine as_ext (fun a => ?_) (fun a f h => by rw [dcr_r h, dcr_r h]) rfl
  rw [dcr_7, dcr_7]
  by_cases e : a = k
  · subst e
    rw [if_neg (by rw [hS]; simp), if_neg (by omega)]
  · by_cases e2 : k ≤ a ∧ a < n ∧ S a = true
    · rw [if_pos e2, if_pos ⟨by omega, by omega, e2.2.2⟩]
    · rw [if_neg e2, if_neg (fun w => e2 ⟨by omega, by omega, w.2.2⟩)]
theorem ce_en {S : Nat → Bool} {n : Nat} {γ : As} : ∀ k, k ≤ n → ce9 S k (dcr S 0 n γ) = dcr S k n (en9 S k γ)
  | 0, _ => rfl
  | k + 1, hk => by
    rw [ce_s, en_s, ce_en k (by omega)]
    generalize en9 S k γ = β
    cases hS : S k with
    | false =>
      rw [if_neg (by simp), if_neg (by decide)]
      exact dcr_out hS
    | true =>
      have e7 : (dcr S k n β).1 k 7 = β.1 k 7 - 1 := by rw [dcr_7, if_pos ⟨Nat.le_refl _, by omega, hS⟩]
      rw [if_pos (show true = true from rfl), e7, Bool.true_and, dcr_in (by omega) hS]
      by_cases e : β.1 k 7 - 1 = 0
      · rw [if_pos (decide_eq_true e), if_pos e]
        exact tw_end k
      · rw [if_neg (by rw [decide_eq_false e]; decide), if_neg e]
theorem dcr_nn {S : Nat → Bool} {n : Nat} {β : As} : dcr S n n β = β := as_ext (fun a => by rw [dcr_7, if_neg (by omega)]) (fun a f h => dcr_r h) rfl
/-- a slot in the country's order -/
theorem slot_c (n : Nat) (α : As) : slot9 n α = (fun α1 => (fun α2 => ce9 (snd9 α2) n (go9 n (snd9 α2) n α2)) (tk9 (snd9 α1) (bsy9 α1 n) n α1)) (asV α 50 2 (α.1 50 2 + 1)) := by
  unfold slot9
  dsimp only
  rw [go_ai, ce_en n (Nat.le_refl n), dcr_nn]
theorem drp_V (α : As) (i : Nat) {a k : Nat} (h1 : a ≠ i) (h : a ≠ 50) : (drp9 α i).1 a k = α.1 a k := by
  unfold drp9
  rw [asV_n _ _ (fun w => h w.1), asV_n _ _ (fun w => h1 w.1)]
  rfl
theorem wai_V (α : As) (i : Nat) (v : Int32) {a k : Nat} (h1 : a ≠ i) : (wai9 α i v).1 a k = α.1 a k := by
  unfold wai9
  rw [asV_n _ _ (fun w => h1 w.1), asV_n _ _ (fun w => h1 w.1), asV_n _ _ (fun w => h1 w.1)]
theorem try_V (α : As) (i : Nat) {a k : Nat} (h1 : a ≠ i) (h : a ≠ 50) : (try9 α i).1 a k = α.1 a k := by
  unfold try9
  split
  · rw [drp_V _ _ h1 h, asV_n _ _ (fun w => h1 w.1)]
  · split
    · rw [wai_V _ _ _ h1, asV_n _ _ (fun w => h w.1), asV_n _ _ (fun w => h1 w.1)]
    · rw [wai_V _ _ _ h1, asV_n _ _ (fun w => h1 w.1)]
theorem fin_V (α : As) (i : Nat) (b : Bool) {a k : Nat} (h1 : a ≠ i) (h : a ≠ 50) : (fin9 α i b).1 a k = α.1 a k := by
  unfold fin9
  split
  · rw [asV_n _ _ (fun w => h1 w.1)]
    show (asV α i 8 (-1)).1 a k = _
    rw [asV_n _ _ (fun w => h1 w.1)]
  · rw [try_V _ _ h1 h, asV_n _ _ (fun w => h1 w.1)]
theorem end_V (α : As) (i : Nat) {a k : Nat} (h1 : a ≠ i) (h : a ≠ 50) : (end9 α i).1 a k = α.1 a k := by
  unfold end9
  split
  · exact fin_V _ _ _ h1 h
  · rw [fin_V _ _ _ h1 h, rcv_V _ _ _ h]
theorem pop_q9 (α : As) (i : Nat) {a : Nat} (h1 : a ≠ i) : (asPop α i).2.1 a = α.2.1 a := if_neg h1
theorem try_q (α : As) (i : Nat) {a : Nat} (h1 : a ≠ i) : (try9 α i).2.1 a = α.2.1 a := by
  unfold try9
  split
  · exact pop_q9 _ _ h1
  · split <;> rfl
theorem fin_q (α : As) (i : Nat) (b : Bool) {a : Nat} (h1 : a ≠ i) : (fin9 α i b).2.1 a = α.2.1 a := by
  unfold fin9
  split
  · exact pop_q9 _ _ h1
  · exact try_q _ _ h1
theorem end_q (α : As) (i : Nat) {a : Nat} (h1 : a ≠ i) : α.2.1 a ≤ (end9 α i).2.1 a := by
  unfold end9
  split
  · rw [fin_q _ _ _ h1]; exact Nat.le_refl _
  · rw [fin_q _ _ _ h1]; exact rcv_q _ _ _ _
theorem trn_V (α : As) (i : Nat) {a k : Nat} (h : a ≠ 50) (h1 : ¬ (a = i ∧ 5 ≤ k)) : (trn9 α i).1 a k = α.1 a k := by
  unfold trn9
  split
  · split
    · unfold drp9
      rw [asV_n _ _ (fun w => h w.1), asV_n _ _ (by omega)]
      rfl
    · unfold beg9
      rw [asV_n _ _ (by omega), asV_n _ _ (by omega), asV_n _ _ (by omega), asV_n _ _ (by omega)]
  · rw [asV_n _ _ (by omega)]
theorem tk_V (S b : Nat → Bool) (α : As) {a k : Nat} (h : a ≠ 50) : ∀ m, ¬ (a < m ∧ 5 ≤ k) → (tk9 S b m α).1 a k = α.1 a k
  | 0, _ => rfl
  | m + 1, q => by
    rw [tk_s]
    split
    · exact tk_V S b α h m (by omega)
    · rw [trn_V _ _ h (by omega), tk_V S b α h m (by omega)]
theorem go_8 (n : Nat) (S : Nat → Bool) (α : As) (a : Nat) : ∀ k, (go9 n S k α).1 a 8 = α.1 a 8
  | 0 => rfl
  | k + 1 => by
    rw [go_s]
    split
    · unfold goa9 de9
      rw [asV_n _ _ (by omega), asV_n _ _ (by omega), asV_n _ _ (by omega), go_8 n S α a k]
    · exact go_8 n S α a k
theorem go_q (n : Nat) (S : Nat → Bool) (α : As) : ∀ k, (go9 n S k α).2 = α.2
  | 0 => rfl
  | k + 1 => by
    rw [go_s]
    split
    · exact go_q n S α k
    · exact go_q n S α k
theorem go_7 (n : Nat) (S : Nat → Bool) (α : As) (a : Nat) : ∀ k, k ≤ a → (go9 n S k α).1 a 7 = α.1 a 7
  | 0, _ => rfl
  | k + 1, h => by
    rw [go_s]
    split
    · unfold goa9 de9
      rw [asV_n _ _ (by omega), asV_n _ _ (by omega), asV_n _ _ (by omega), go_7 n S α a k (by omega)]
    · exact go_7 n S α a k (by omega)
