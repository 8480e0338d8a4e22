/-! all instructions are sound (printed by wip/genp.py) -/
section CODE
variable (l : Launch) (D : va_G) (AC : Nat → ClassId) (b : Nat × (Nat → Nat)) (z L : Nat) (xs : Nat → Int32)
theorem so_key0 : ∀ j : Nat, 0 ≤ j → j < 40 → ∀ q ∈ tbl j, Snd l D AC b z L xs Gm j q.1 q.2 := by
  intro j h1 h2
  obtain ⟨k, rfl⟩ : ∃ k, j = 0 + k := ⟨j - 0, by omega⟩
  have h3 : k < 40 := by omega
  match k, h3 with
  | 0, _ => exact so_Frame_init l D AC b z L xs
  | 1, _ => exact so_FrameQueue_init l D AC b z L xs
  | 2, _ => exact so_FrameQueue_at l D AC b z L xs
  | 3, _ => exact so_FrameQueue_add l D AC b z L xs
  | 4, _ => exact so_FrameQueue_removeFirst l D AC b z L xs
  | 5, _ => exact so_Land_init l D AC b z L xs
  | 6, _ => exact so_Land_isNode l D AC b z L xs
  | 7, _ => exact so_Land_everyone l D AC b z L xs
  | 8, _ => exact so_Land_add l D AC b z L xs
  | 9, _ => exact so_Land_put l D AC b z L xs
  | 10, _ => exact so_Land_adjust l D AC b z L xs
  | 11, _ => exact so_Land_findHearers l D AC b z L xs
  | 12, _ => exact so_Land_far l D AC b z L xs
  | 13, _ => exact so_Land_canHear l D AC b z L xs
  | 14, _ => exact so_Land_areLinked l D AC b z L xs
  | 15, _ => exact so_Land_linkedWith l D AC b z L xs
  | 16, _ => exact so_Land_hearsOneOf l D AC b z L xs
  | 17, _ => exact so_Land_gets l D AC b z L xs
  | 18, _ => exact so_Land_framesInQueues l D AC b z L xs
  | 19, _ => exact so_Land_isSuspect l D AC b z L xs
  | 20, _ => exact so_Land_fewestCovering l D AC b z L xs
  | 21, _ => exact so_Land_isCovering l D AC b z L xs
  | 22, _ => exact so_Market_init l D AC b z L xs
  | 23, _ => exact so_Market_add l D AC b z L xs
  | 24, _ => exact so_Market_weigh l D AC b z L xs
  | 25, _ => exact so_Market_winningPrice l D AC b z L xs
  | 26, _ => exact so_Market_paidBy l D AC b z L xs
  | 27, _ => exact so_Market_nobodyOverpays l D AC b z L xs
  | 28, _ => exact so_Market_sellAll l D AC b z L xs
  | 29, _ => exact so_Market_forgetBids l D AC b z L xs
  | 30, _ => exact so_Node_init l D AC b z L xs
  | 31, _ => exact so_Node_isSending l D AC b z L xs
  | 32, _ => exact so_Node_begin l D AC b z L xs
  | 33, _ => exact so_Node_finishFirst l D AC b z L xs
  | 34, _ => exact so_Node_waitAgain l D AC b z L xs
  | 35, _ => exact so_Node_sign l D AC b z L xs
  | 36, _ => exact so_Node_isInOrder l D AC b z L xs
  | 37, _ => exact so_NumberSet_init l D AC b z L xs
  | 38, _ => exact so_NumberSet_has l D AC b z L xs
  | 39, _ => exact so_NumberSet_put l D AC b z L xs
  | n + 40, h => exact absurd h (by omega)
theorem so_key40 : ∀ j : Nat, 40 ≤ j → j < 80 → ∀ q ∈ tbl j, Snd l D AC b z L xs Gm j q.1 q.2 := by
  intro j h1 h2
  obtain ⟨k, rfl⟩ : ∃ k, j = 40 + k := ⟨j - 40, by omega⟩
  have h3 : k < 40 := by omega
  match k, h3 with
  | 0, _ => exact so_NumberSet_size l D AC b z L xs
  | 1, _ => exact so_Routes_init l D AC b z L xs
  | 2, _ => exact so_Routes_costOf l D AC b z L xs
  | 3, _ => exact so_Routes_nextOf l D AC b z L xs
  | 4, _ => exact so_Routes_renew l D AC b z L xs
  | 5, _ => exact so_Routes_renewPair l D AC b z L xs
  | 6, _ => exact so_Routes_cheapestNeighbour l D AC b z L xs
  | 7, _ => exact so_Routes_wayLength l D AC b z L xs
  | 8, _ => exact so_Routes_hasCircle l D AC b z L xs
  | 9, _ => exact so_Routes_follow l D AC b z L xs
  | 10, _ => exact so_Routes_pairsWithRoute l D AC b z L xs
  | 11, _ => exact so_Routes_pairsWithCircle l D AC b z L xs
  | 12, _ => exact so_Routes_areInOrder l D AC b z L xs
  | 13, _ => exact so_Traffic_init l D AC b z L xs
  | 14, _ => exact so_Traffic_senders l D AC b z L xs
  | 15, _ => exact so_Traffic_goBy l D AC b z L xs
  | 16, _ => exact so_Traffic_takeTurn l D AC b z L xs
  | 17, _ => exact so_Traffic_goOn l D AC b z L xs
  | 18, _ => exact so_Traffic_end l D AC b z L xs
  | 19, _ => exact so_Traffic_tryAgain l D AC b z L xs
  | 20, _ => exact so_Traffic_receive l D AC b z L xs
  | 21, _ => exact so_Traffic_pushCopy l D AC b z L xs
  | 22, _ => exact so_Traffic_arrive l D AC b z L xs
  | 23, _ => exact so_Traffic_dropFirst l D AC b z L xs
  | 24, _ => exact so_Traffic_draw l D AC b z L xs
  | 25, _ => exact so_S_init l D AC b z L xs
  | 26, _ => exact so_S_node l D AC b z L xs
  | 27, _ => exact so_S_move l D AC b z L xs
  | 28, _ => exact so_S_tune l D AC b z L xs
  | 29, _ => exact so_S_send l D AC b z L xs
  | 30, _ => exact so_S_pass l D AC b z L xs
  | 31, _ => exact so_S_exchange l D AC b z L xs
  | 32, _ => exact so_S_bid l D AC b z L xs
  | 33, _ => exact so_S_sell l D AC b z L xs
  | 34, _ => exact so_S_knock l D AC b z L xs
  | 35, _ => exact so_S_hears l D AC b z L xs
  | 36, _ => exact so_S_ofNode l D AC b z L xs
  | 37, _ => exact so_S_inQueue l D AC b z L xs
  | 38, _ => exact so_S_route l D AC b z L xs
  | 39, _ => exact so_S_air l D AC b z L xs
  | n + 40, h => exact absurd h (by omega)
theorem so_key80 : ∀ j : Nat, 80 ≤ j → j < 120 → ∀ q ∈ tbl j, Snd l D AC b z L xs Gm j q.1 q.2 := by
  intro j h1 h2
  obtain ⟨k, rfl⟩ : ∃ k, j = 80 + k := ⟨j - 80, by omega⟩
  have h3 : k < 40 := by omega
  match k, h3 with
  | 0, _ => exact so_S_delivered l D AC b z L xs
  | 1, _ => exact so_S_fairness l D AC b z L xs
  | 2, _ => exact so_S_row l D AC b z L xs
  | 3, _ => exact so_S_would l D AC b z L xs
  | 4, _ => exact so_S_throughput l D AC b z L xs
  | 5, _ => exact so_S_bestChance l D AC b z L xs
  | 6, _ => exact so_S_auction l D AC b z L xs
  | 7, _ => exact so_S_cover l D AC b z L xs
  | 8, _ => exact so_S_isSound l D AC b z L xs
  | 9, _ => exact so_S_digest l D AC b z L xs
  | 10, _ => exact so_S_mixNode l D AC b z L xs
  | 11, _ => exact so_S_mix l D AC b z L xs
  | 12, _ => exact so_S_checkNode l D AC b z L xs
  | 13, _ => exact so_S_checkPair l D AC b z L xs
  | 14, _ => exact so_S_checkSilent l D AC b z L xs
  | 15, _ => exact so_S_isWithin l D AC b z L xs
  | 16, _ => exact so_S_isPlace l D AC b z L xs
  | 17, _ => exact so_S_isReach l D AC b z L xs
  | 18, _ => exact so_S_isIn l D AC b z L xs
  | 19, _ => exact so_S_chanceOfOne l D AC b z L xs
  | 20, _ => exact so_Out_init l D AC b z L xs
  | 21, _ => exact so_MNode_init l D AC b z L xs
  | 22, _ => exact so_MNode_sends l D AC b z L xs
  | 23, _ => exact so_Mdl_init l D AC b z L xs
  | 24, _ => exact so_Mdl_isIn l D AC b z L xs
  | 25, _ => exact so_Mdl_one l D AC b z L xs
  | 26, _ => exact so_Mdl_has l D AC b z L xs
  | 27, _ => exact so_Mdl_thrown l D AC b z L xs
  | 28, _ => exact so_Mdl_refuse l D AC b z L xs
  | 29, _ => exact so_Mdl_start l D AC b z L xs
  | 30, _ => exact so_Mdl_isNobody l D AC b z L xs
  | 31, _ => exact so_Mdl_draw l D AC b z L xs
  | 32, _ => exact so_Mdl_far l D AC b z L xs
  | 33, _ => exact so_Mdl_hearsIt l D AC b z L xs
  | 34, _ => exact so_Mdl_areLinked l D AC b z L xs
  | 35, _ => exact so_Mdl_links l D AC b z L xs
  | 36, _ => exact so_Mdl_node l D AC b z L xs
  | 37, _ => exact so_Mdl_move l D AC b z L xs
  | 38, _ => exact so_Mdl_tune l D AC b z L xs
  | 39, _ => exact so_Mdl_send l D AC b z L xs
  | n + 40, h => exact absurd h (by omega)
theorem so_key120 : ∀ j : Nat, 120 ≤ j → j < 160 → ∀ q ∈ tbl j, Snd l D AC b z L xs Gm j q.1 q.2 := by
  intro j h1 h2
  obtain ⟨k, rfl⟩ : ∃ k, j = 120 + k := ⟨j - 120, by omega⟩
  have h3 : k < 40 := by omega
  match k, h3 with
  | 0, _ => exact so_Mdl_isBusyFor l D AC b z L xs
  | 1, _ => exact so_Mdl_drop l D AC b z L xs
  | 2, _ => exact so_Mdl_begin l D AC b z L xs
  | 3, _ => exact so_Mdl_gets l D AC b z L xs
  | 4, _ => exact so_Mdl_senders l D AC b z L xs
  | 5, _ => exact so_Mdl_hasArrived l D AC b z L xs
  | 6, _ => exact so_Mdl_receive l D AC b z L xs
  | 7, _ => exact so_Mdl_end l D AC b z L xs
  | 8, _ => exact so_Mdl_nextSlot l D AC b z L xs
  | 9, _ => exact so_Mdl_pass l D AC b z L xs
  | 10, _ => exact so_Mdl_exchangeOnce l D AC b z L xs
  | 11, _ => exact so_Mdl_routed l D AC b z L xs
  | 12, _ => exact so_Mdl_exchange l D AC b z L xs
  | 13, _ => exact so_Mdl_bid l D AC b z L xs
  | 14, _ => exact so_Mdl_canWin l D AC b z L xs
  | 15, _ => exact so_Mdl_priceOf l D AC b z L xs
  | 16, _ => exact so_Mdl_winners l D AC b z L xs
  | 17, _ => exact so_Mdl_pays l D AC b z L xs
  | 18, _ => exact so_Mdl_auctionNow l D AC b z L xs
  | 19, _ => exact so_Mdl_sell l D AC b z L xs
  | 20, _ => exact so_Mdl_knock l D AC b z L xs
  | 21, _ => exact so_Mdl_hears l D AC b z L xs
  | 22, _ => exact so_Mdl_isSuspect l D AC b z L xs
  | 23, _ => exact so_Mdl_nodeTold l D AC b z L xs
  | 24, _ => exact so_Mdl_ofNode l D AC b z L xs
  | 25, _ => exact so_Mdl_queued l D AC b z L xs
  | 26, _ => exact so_Mdl_inQueue l D AC b z L xs
  | 27, _ => exact so_Mdl_way l D AC b z L xs
  | 28, _ => exact so_Mdl_routeTold l D AC b z L xs
  | 29, _ => exact so_Mdl_route l D AC b z L xs
  | 30, _ => exact so_Mdl_circles l D AC b z L xs
  | 31, _ => exact so_Mdl_airTold l D AC b z L xs
  | 32, _ => exact so_Mdl_air l D AC b z L xs
  | 33, _ => exact so_Mdl_delivered l D AC b z L xs
  | 34, _ => exact so_Mdl_fairnessNow l D AC b z L xs
  | 35, _ => exact so_Mdl_fairness l D AC b z L xs
  | 36, _ => exact so_Mdl_row l D AC b z L xs
  | 37, _ => exact so_Mdl_would l D AC b z L xs
  | 38, _ => exact so_Mdl_throughputOf l D AC b z L xs
  | 39, _ => exact so_Mdl_throughput l D AC b z L xs
  | n + 40, h => exact absurd h (by omega)
theorem so_key160 : ∀ j : Nat, 160 ≤ j → j < 200 → ∀ q ∈ tbl j, Snd l D AC b z L xs Gm j q.1 q.2 := by
  intro j h1 h2
  obtain ⟨k, rfl⟩ : ∃ k, j = 160 + k := ⟨j - 160, by omega⟩
  have h3 : k < 40 := by omega
  match k, h3 with
  | 0, _ => exact so_Mdl_bestChance l D AC b z L xs
  | 1, _ => exact so_Mdl_auction l D AC b z L xs
  | 2, _ => exact so_Mdl_isCover l D AC b z L xs
  | 3, _ => exact so_Mdl_coverNow l D AC b z L xs
  | 4, _ => exact so_Mdl_cover l D AC b z L xs
  | 5, _ => exact so_Mdl_isWhole l D AC b z L xs
  | 6, _ => exact so_Mdl_isSound l D AC b z L xs
  | 7, _ => exact so_Mdl_add l D AC b z L xs
  | 8, _ => exact so_Mdl_digest l D AC b z L xs
  | 9, _ => exact so_AbstractStringBuilder_init l D AC b z L xs
  | 10, _ => exact so_AbstractStringBuilder_length l D AC b z L xs
  | 11, _ => exact so_AbstractStringBuilder_ensureCapacityInternal l D AC b z L xs
  | 12, _ => exact so_AbstractStringBuilder_append l D AC b z L xs
  | 13, _ => exact so_AbstractStringBuilder_getValue l D AC b z L xs
  | 14, _ => exact so_AbstractStringBuilder_isLatin1 l D AC b z L xs
  | 15, _ => exact so_Integer_bitCount l D AC b z L xs
  | 16, _ => exact so_Long_bitCount l D AC b z L xs
  | 17, _ => exact so_Math_max l D AC b z L xs
  | 18, _ => exact so_Math_min l D AC b z L xs
  | 19, _ => exact so_String_init_LjavalangStringBuilderV l D AC b z L xs
  | 20, _ => exact so_String_equals l D AC b z L xs
  | 21, _ => exact so_String_init_LjavalangAbstractStringBuilderLjavalangVoidV l D AC b z L xs
  | 22, _ => exact so_StringBuilder_init l D AC b z L xs
  | 23, _ => exact so_StringBuilder_append l D AC b z L xs
  | 24, _ => exact so_StringBuilder_toString l D AC b z L xs
  | 25, _ => exact so_StringBuilder_length l D AC b z L xs
  | 26, _ => exact so_StringLatin1_canEncode l D AC b z L xs
  | 27, _ => exact so_StringLatin1_equals l D AC b z L xs
  | 28, _ => exact so_AbstractCollection_init l D AC b z L xs
  | 29, _ => exact so_AbstractList_init l D AC b z L xs
  | 30, _ => exact so_Itr_init l D AC b z L xs
  | 31, _ => exact so_Itr_hasNext l D AC b z L xs
  | 32, _ => exact so_Itr_next l D AC b z L xs
  | 33, _ => exact so_Itr_checkForComodification l D AC b z L xs
  | 34, _ => exact so_ArrayList_init l D AC b z L xs
  | 35, _ => exact so_ArrayList_grow_ILjavalangObject l D AC b z L xs
  | 36, _ => exact so_ArrayList_grow_LjavalangObject l D AC b z L xs
  | 37, _ => exact so_ArrayList_size l D AC b z L xs
  | 38, _ => exact so_ArrayList_isEmpty l D AC b z L xs
  | 39, _ => exact so_ArrayList_elementData l D AC b z L xs
  | n + 40, h => exact absurd h (by omega)
theorem so_key200 : ∀ j : Nat, 200 ≤ j → j < 233 → ∀ q ∈ tbl j, Snd l D AC b z L xs Gm j q.1 q.2 := by
  intro j h1 h2
  obtain ⟨k, rfl⟩ : ∃ k, j = 200 + k := ⟨j - 200, by omega⟩
  have h3 : k < 33 := by omega
  match k, h3 with
  | 0, _ => exact so_ArrayList_get l D AC b z L xs
  | 1, _ => exact so_ArrayList_add_LjavalangObjectLjavalangObjectIV l D AC b z L xs
  | 2, _ => exact so_ArrayList_add_LjavalangObjectZ l D AC b z L xs
  | 3, _ => exact so_ArrayList_remove l D AC b z L xs
  | 4, _ => exact so_ArrayList_fastRemove l D AC b z L xs
  | 5, _ => exact so_ArrayList_clear l D AC b z L xs
  | 6, _ => exact so_ArrayList_iterator l D AC b z L xs
  | 7, _ => exact so_Arrays_copyOf_LjavalangObjectILjavalangObject l D AC b z L xs
  | 8, _ => exact so_Arrays_copyOf_LjavalangObjectILjavalangClassLjavalangObject l D AC b z L xs
  | 9, _ => exact so_Arrays_checkLength l D AC b z L xs
  | 10, _ => exact so_Arrays_copyOfRange l D AC b z L xs
  | 11, _ => exact so_Arrays_copyOfRangeByte l D AC b z L xs
  | 12, _ => exact so_Objects_checkIndex l D AC b z L xs
  | 13, _ => exact so_ArraysSupport_newLength l D AC b z L xs
  | 14, _ => exact so_Preconditions_checkIndex l D AC b z L xs
  | 15, _ => exact so_Law_node l D AC b z L xs
  | 16, _ => exact so_Law_move l D AC b z L xs
  | 17, _ => exact so_Law_tune l D AC b z L xs
  | 18, _ => exact so_Law_send l D AC b z L xs
  | 19, _ => exact so_Law_pass l D AC b z L xs
  | 20, _ => exact so_Law_exchange l D AC b z L xs
  | 21, _ => exact so_Law_bid l D AC b z L xs
  | 22, _ => exact so_Law_hears l D AC b z L xs
  | 23, _ => exact so_Law_ofNode l D AC b z L xs
  | 24, _ => exact so_Law_inQueue l D AC b z L xs
  | 25, _ => exact so_Law_route l D AC b z L xs
  | 26, _ => exact so_Law_air l D AC b z L xs
  | 27, _ => exact so_Law_delivered l D AC b z L xs
  | 28, _ => exact so_Law_would l D AC b z L xs
  | 29, _ => exact so_Law_throughput l D AC b z L xs
  | 30, _ => exact so_Law_bestChance l D AC b z L xs
  | 31, _ => exact so_Law_auction l D AC b z L xs
  | 32, _ => exact so_Law_law l D AC b z L xs
  | n + 33, h => exact absurd h (by omega)
theorem tbl_out (j : Nat) (h : 233 ≤ j) : tbl j = [] := by
  obtain ⟨k, rfl⟩ : ∃ k, j = k + 233 := ⟨j - 233, by omega⟩
  rfl
theorem so_all (j pc : Nat) : Snd l D AC b z L xs Gm j pc (mCode j pc) := by
  have key : ∀ q ∈ tbl j, Snd l D AC b z L xs Gm j q.1 q.2 := by
    by_cases h0 : j < 40
    · exact so_key0 l D AC b z L xs j (by omega) h0
    by_cases h40 : j < 80
    · exact so_key40 l D AC b z L xs j (by omega) h40
    by_cases h80 : j < 120
    · exact so_key80 l D AC b z L xs j (by omega) h80
    by_cases h120 : j < 160
    · exact so_key120 l D AC b z L xs j (by omega) h120
    by_cases h160 : j < 200
    · exact so_key160 l D AC b z L xs j (by omega) h160
    by_cases h200 : j < 233
    · exact so_key200 l D AC b z L xs j (by omega) h200
    rw [tbl_out j (by omega)]
    intro q hq; cases hq
  unfold mCode
  cases h : (tbl j).lookup pc with
  | none => intro ls st h9 Q kk; exact kk.elim
  | some hd =>
    have hm : (pc, hd) ∈ tbl j := lookup_mem h
    exact key (pc, hd) hm
end CODE
