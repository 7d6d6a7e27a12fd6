/-- how a method may end -/
def Ret (κ : Kp) (Γ : Gm) (A : Nat → Prop) (nL : Nat) (Q : State → Prop) (cc : ByteArray) (ret : Option FieldType) (mc ms : Nat) (post : Option Value → va_W → Prop) : Prop :=
  (∀ (cells slots pc : Nat) (lv : List (Nat × Value)) (ws : va_W) (v : Int32), ret = some .int → cells ≤ mc → slots ≤ ms → decode cc pc = .ok (.ireturn, 1) → post (some (.int v)) ws → G κ Γ A nL cells slots Q ws pc lv [.int v]) ∧
  (∀ (cells slots pc : Nat) (lv : List (Nat × Value)) (ws : va_W) (v : Int32) (ty : FieldType), ret = some ty → narrow ty (.int v) = .int v → cells ≤ mc → slots ≤ ms → decode cc pc = .ok (.ireturn, 1) → post (some (.int v)) ws → G κ Γ A nL cells slots Q ws pc lv [.int v]) ∧
  (∀ (cells slots pc : Nat) (lv : List (Nat × Value)) (ws : va_W), ret = none → cells ≤ mc → slots ≤ ms → decode cc pc = .ok (.return_, 1) → post none ws → G κ Γ A nL cells slots Q ws pc lv []) ∧
  (∀ (cells slots pc : Nat) (lv : List (Nat × Value)) (ws : va_W) (v : Value) (rt : FieldType), ret = some rt → ((∃ n, rt = .object n) ∨ ∃ t, rt = .array t) → (v = .null ∨ ∃ a, v = .ref a) → cells ≤ mc → slots ≤ ms → decode cc pc = .ok (.areturn, 1) → post (some v) ws → G κ Γ A nL cells slots Q ws pc lv [v])
theorem CT.go {κ : Kp} {l : Launch} {y : MethodName} {cc : ByteArray} {maxL : Nat} {ret : Option FieldType} {fr lo mc ms : Nat} {av : List Value} {wc : va_W} {post : Option Value → va_W → Prop} (hy : plainFor y = true) (hav : (lg_sl av).length ≤ maxL)
    (body : ∀ (Γ : Gm) (A : Nat → Prop) (Q : State → Prop), gl Γ = l → Cx κ Γ A cc maxL y.cls y.name ret { frames := fr, cells := mc, slots := ms, locals := lo } → Ret κ Γ A maxL Q cc ret mc ms post → G κ Γ A maxL 0 0 Q wc 0 (lv_args 0 av) []) : CT κ l y cc maxL ret fr lo mc ms av wc post := by
  refine CT.of hy hav (fun Γ hl hc => body Γ _ _ hl hc ⟨?_, ?_, ?_, ?_⟩)
  · intro cells slots pc lv ws v hr h1 h2 hd hp
    exact g_iret hc hr h1 h2 hd hp
  · intro cells slots pc lv ws v ty hr hn h1 h2 hd hp
    exact g_zret hc hr hn h1 h2 hd hp
  · intro cells slots pc lv ws hr h1 h2 hd hp
    exact g_vret hc hr h1 h2 hd hp
  · intro cells slots pc lv ws v rt hr hrt hv h1 h2 hd hp
    exact g_aret hc hr hrt hv h1 h2 hd hp
/-- posts: an int, nothing, a reference -/
def PI (f : Int32 → va_W → Prop) : Option Value → va_W → Prop := fun v w => ∃ r : Int32, v = some (.int r) ∧ f r w
def PV (f : va_W → Prop) : Option Value → va_W → Prop := fun v w => v = none ∧ f w
def PR (f : Option Nat → va_W → Prop) : Option Value → va_W → Prop := fun v w => ∃ r : Option Nat, v = some (va_rf r) ∧ f r w
/-- arguments -/
theorem arg_lt {x : Int32} (m : Nat) (hm : m < 2 ^ 31) (h0 : ¬ x < 0) (h1 : ¬ nI m ≤ x) : ∃ j : Nat, j < m ∧ x = nI j := by
  rcases pk_ix x hm with h | h | h
  · exact absurd h h0
  · exact absurd h h1
  · exact h
theorem arg_le {x : Int32} (m : Nat) (hm : m < 2 ^ 31) (h0 : ¬ x < 0) (h1 : ¬ nI m < x) : ∃ j : Nat, j ≤ m ∧ x = nI j := by
  obtain ⟨j, hj, rfl⟩ := nI_of h0
  refine ⟨j, ?_, rfl⟩
  exact Nat.le_of_not_lt (fun q => h1 ((nI_ltI hm hj).mpr q))
theorem arg_0 {x : Int32} (h0 : ¬ x < 0) : ∃ j : Nat, j < 2 ^ 31 ∧ x = nI j := nI_of h0

theorem q_X0_init : KI yX0_init cX0_init 1 0 := ⟨k_im_X0_init, k_in_RX0, k_co_X0_init, rfl, by decide +kernel, by decide +kernel, by decide +kernel⟩
theorem q_X0_copyFrom : KV yX0_copyFrom cX0_copyFrom 2 none 1 := ⟨k_im_X0_copyFrom, k_se_X0_copyFrom, k_in_RX0, k_co_X0_copyFrom, by decide +kernel, by decide +kernel, by decide +kernel⟩
theorem q_X0_giveOut : KV yX0_giveOut cX0_giveOut 4 none 1 := ⟨k_im_X0_giveOut, k_se_X0_giveOut, k_in_RX0, k_co_X0_giveOut, by decide +kernel, by decide +kernel, by decide +kernel⟩
theorem q_X0_hasHandsOf : KV yX0_hasHandsOf cX0_hasHandsOf 3 (some .boolean) 1 := ⟨k_im_X0_hasHandsOf, k_se_X0_hasHandsOf, k_in_RX0, k_co_X0_hasHandsOf, by decide +kernel, by decide +kernel, by decide +kernel⟩
theorem q_X0_suitLength : KV yX0_suitLength cX0_suitLength 5 (some .int) 2 := ⟨k_im_X0_suitLength, k_se_X0_suitLength, k_in_RX0, k_co_X0_suitLength, by decide +kernel, by decide +kernel, by decide +kernel⟩
theorem q_X0_pointsOfRank : KS yX0_pointsOfRank cX0_pointsOfRank 1 (some .int) 1 := ⟨k_st_X0_pointsOfRank, k_in_RX0, k_co_X0_pointsOfRank, by decide +kernel, by decide +kernel, by decide +kernel⟩
theorem q_X0_pointsOf : KV yX0_pointsOf cX0_pointsOf 4 (some .int) 1 := ⟨k_im_X0_pointsOf, k_se_X0_pointsOf, k_in_RX0, k_co_X0_pointsOf, by decide +kernel, by decide +kernel, by decide +kernel⟩
theorem q_X0_isBalanced : KV yX0_isBalanced cX0_isBalanced 5 (some .boolean) 1 := ⟨k_im_X0_isBalanced, k_se_X0_isBalanced, k_in_RX0, k_co_X0_isBalanced, by decide +kernel, by decide +kernel, by decide +kernel⟩
theorem q_X0_highestSpade : KV yX0_highestSpade cX0_highestSpade 3 (some .int) 1 := ⟨k_im_X0_highestSpade, k_se_X0_highestSpade, k_in_RX0, k_co_X0_highestSpade, by decide +kernel, by decide +kernel, by decide +kernel⟩
theorem q_X0_strongestHand : KV yX0_strongestHand cX0_strongestHand 5 (some .int) 0 := ⟨k_im_X0_strongestHand, k_se_X0_strongestHand, k_in_RX0, k_co_X0_strongestHand, by decide +kernel, by decide +kernel, by decide +kernel⟩
theorem q_X0_balancedHands : KV yX0_balancedHands cX0_balancedHands 3 (some .int) 0 := ⟨k_im_X0_balancedHands, k_se_X0_balancedHands, k_in_RX0, k_co_X0_balancedHands, by decide +kernel, by decide +kernel, by decide +kernel⟩
theorem q_X1_init : KI yX1_init cX1_init 1 0 := ⟨k_im_X1_init, k_in_RX1, k_co_X1_init, rfl, by decide +kernel, by decide +kernel, by decide +kernel⟩
theorem q_X2_init : KI yX2_init cX2_init 2 0 := ⟨k_im_X2_init, k_in_RX2, k_co_X2_init, rfl, by decide +kernel, by decide +kernel, by decide +kernel⟩
theorem q_X2_copyFrom : KV yX2_copyFrom cX2_copyFrom 3 none 1 := ⟨k_im_X2_copyFrom, k_se_X2_copyFrom, k_in_RX2, k_co_X2_copyFrom, by decide +kernel, by decide +kernel, by decide +kernel⟩
theorem q_X2_boardAt : KV yX2_boardAt cX2_boardAt 2 (some (.object "SealedDeals$Board")) 1 := ⟨k_im_X2_boardAt, k_se_X2_boardAt, k_in_RX2, k_co_X2_boardAt, by decide +kernel, by decide +kernel, by decide +kernel⟩
theorem q_X2_bendOrFlatten : KV yX2_bendOrFlatten cX2_bendOrFlatten 2 none 1 := ⟨k_im_X2_bendOrFlatten, k_se_X2_bendOrFlatten, k_in_RX2, k_co_X2_bendOrFlatten, by decide +kernel, by decide +kernel, by decide +kernel⟩
theorem q_X2_countShuffle : KV yX2_countShuffle cX2_countShuffle 2 none 1 := ⟨k_im_X2_countShuffle, k_se_X2_countShuffle, k_in_RX2, k_co_X2_countShuffle, by decide +kernel, by decide +kernel, by decide +kernel⟩
theorem q_X2_layInOrder : KV yX2_layInOrder cX2_layInOrder 3 (some .int) 0 := ⟨k_im_X2_layInOrder, k_se_X2_layInOrder, k_in_RX2, k_co_X2_layInOrder, by decide +kernel, by decide +kernel, by decide +kernel⟩
theorem q_X2_bentCards : KV yX2_bentCards cX2_bentCards 3 (some .int) 0 := ⟨k_im_X2_bentCards, k_se_X2_bentCards, k_in_RX2, k_co_X2_bentCards, by decide +kernel, by decide +kernel, by decide +kernel⟩
theorem q_X2_risingPairs : KV yX2_risingPairs cX2_risingPairs 3 (some .int) 0 := ⟨k_im_X2_risingPairs, k_se_X2_risingPairs, k_in_RX2, k_co_X2_risingPairs, by decide +kernel, by decide +kernel, by decide +kernel⟩
theorem q_X2_boardsWithCards : KV yX2_boardsWithCards cX2_boardsWithCards 3 (some .int) 0 := ⟨k_im_X2_boardsWithCards, k_se_X2_boardsWithCards, k_in_RX2, k_co_X2_boardsWithCards, by decide +kernel, by decide +kernel, by decide +kernel⟩
theorem q_X2_sealedBoards : KV yX2_sealedBoards cX2_sealedBoards 3 (some .int) 0 := ⟨k_im_X2_sealedBoards, k_se_X2_sealedBoards, k_in_RX2, k_co_X2_sealedBoards, by decide +kernel, by decide +kernel, by decide +kernel⟩
theorem q_X3_init : KI yX3_init cX3_init 1 0 := ⟨k_im_X3_init, k_in_RX3, k_co_X3_init, rfl, by decide +kernel, by decide +kernel, by decide +kernel⟩
theorem q_X3_begin : KV yX3_begin cX3_begin 2 none 1 := ⟨k_im_X3_begin, k_se_X3_begin, k_in_RX3, k_co_X3_begin, by decide +kernel, by decide +kernel, by decide +kernel⟩
theorem q_X3_flatten : KV yX3_flatten cX3_flatten 2 none 1 := ⟨k_im_X3_flatten, k_se_X3_flatten, k_in_RX3, k_co_X3_flatten, by decide +kernel, by decide +kernel, by decide +kernel⟩
theorem q_X3_drawBelow : KV yX3_drawBelow cX3_drawBelow 2 (some .int) 1 := ⟨k_im_X3_drawBelow, k_se_X3_drawBelow, k_in_RX3, k_co_X3_drawBelow, by decide +kernel, by decide +kernel, by decide +kernel⟩
theorem q_X3_isBent : KV yX3_isBent cX3_isBent 2 (some .boolean) 1 := ⟨k_im_X3_isBent, k_se_X3_isBent, k_in_RX3, k_co_X3_isBent, by decide +kernel, by decide +kernel, by decide +kernel⟩
theorem q_X3_riffleOnce : KV yX3_riffleOnce cX3_riffleOnce 8 none 0 := ⟨k_im_X3_riffleOnce, k_se_X3_riffleOnce, k_in_RX3, k_co_X3_riffleOnce, by decide +kernel, by decide +kernel, by decide +kernel⟩
theorem q_X3_riffleTimes : KV yX3_riffleTimes cX3_riffleTimes 3 none 1 := ⟨k_im_X3_riffleTimes, k_se_X3_riffleTimes, k_in_RX3, k_co_X3_riffleTimes, by decide +kernel, by decide +kernel, by decide +kernel⟩
theorem q_X3_notePlaces : KV yX3_notePlaces cX3_notePlaces 4 none 1 := ⟨k_im_X3_notePlaces, k_se_X3_notePlaces, k_in_RX3, k_co_X3_notePlaces, by decide +kernel, by decide +kernel, by decide +kernel⟩
theorem q_X3_notedPlace : KV yX3_notedPlace cX3_notedPlace 2 (some .int) 1 := ⟨k_im_X3_notedPlace, k_se_X3_notedPlace, k_in_RX3, k_co_X3_notedPlace, by decide +kernel, by decide +kernel, by decide +kernel⟩
theorem q_X3_pairsFound : KV yX3_pairsFound cX3_pairsFound 5 (some .int) 2 := ⟨k_im_X3_pairsFound, k_se_X3_pairsFound, k_in_RX3, k_co_X3_pairsFound, by decide +kernel, by decide +kernel, by decide +kernel⟩
theorem q_X3_keptPairs : KV yX3_keptPairs cX3_keptPairs 2 (some .int) 1 := ⟨k_im_X3_keptPairs, k_se_X3_keptPairs, k_in_RX3, k_co_X3_keptPairs, by decide +kernel, by decide +kernel, by decide +kernel⟩
theorem q_X4_init : KI yX4_init cX4_init 2 0 := ⟨k_im_X4_init, k_in_RX4, k_co_X4_init, rfl, by decide +kernel, by decide +kernel, by decide +kernel⟩
theorem q_X4_dropOldestState : KV yX4_dropOldestState cX4_dropOldestState 3 none 0 := ⟨k_im_X4_dropOldestState, k_se_X4_dropOldestState, k_in_RX4, k_co_X4_dropOldestState, by decide +kernel, by decide +kernel, by decide +kernel⟩
theorem q_X4_recordState : KV yX4_recordState cX4_recordState 1 none 0 := ⟨k_im_X4_recordState, k_se_X4_recordState, k_in_RX4, k_co_X4_recordState, by decide +kernel, by decide +kernel, by decide +kernel⟩
theorem q_X4_set : KV yX4_set cX4_set 4 (some .int) 2 := ⟨k_im_X4_set, k_se_X4_set, k_in_RX4, k_co_X4_set, by decide +kernel, by decide +kernel, by decide +kernel⟩
theorem q_X4_seed : KV yX4_seed cX4_seed 3 (some .int) 1 := ⟨k_im_X4_seed, k_se_X4_seed, k_in_RX4, k_co_X4_seed, by decide +kernel, by decide +kernel, by decide +kernel⟩
theorem q_X4_bend : KV yX4_bend cX4_bend 2 (some .int) 1 := ⟨k_im_X4_bend, k_se_X4_bend, k_in_RX4, k_co_X4_bend, by decide +kernel, by decide +kernel, by decide +kernel⟩
theorem q_X4_shuffle : KV yX4_shuffle cX4_shuffle 2 (some .int) 0 := ⟨k_im_X4_shuffle, k_se_X4_shuffle, k_in_RX4, k_co_X4_shuffle, by decide +kernel, by decide +kernel, by decide +kernel⟩
theorem q_X4_cut : KV yX4_cut cX4_cut 2 (some .int) 1 := ⟨k_im_X4_cut, k_se_X4_cut, k_in_RX4, k_co_X4_cut, by decide +kernel, by decide +kernel, by decide +kernel⟩
theorem q_X4_sort : KV yX4_sort cX4_sort 1 (some .int) 0 := ⟨k_im_X4_sort, k_se_X4_sort, k_in_RX4, k_co_X4_sort, by decide +kernel, by decide +kernel, by decide +kernel⟩
theorem q_X4_deal : KV yX4_deal cX4_deal 3 (some .int) 1 := ⟨k_im_X4_deal, k_se_X4_deal, k_in_RX4, k_co_X4_deal, by decide +kernel, by decide +kernel, by decide +kernel⟩
theorem q_X4_seal : KV yX4_seal cX4_seal 3 (some .int) 1 := ⟨k_im_X4_seal, k_se_X4_seal, k_in_RX4, k_co_X4_seal, by decide +kernel, by decide +kernel, by decide +kernel⟩
theorem q_X4_open : KV yX4_open cX4_open 3 (some .int) 1 := ⟨k_im_X4_open, k_se_X4_open, k_in_RX4, k_co_X4_open, by decide +kernel, by decide +kernel, by decide +kernel⟩
theorem q_X4_card : KV yX4_card cX4_card 2 (some .int) 1 := ⟨k_im_X4_card, k_se_X4_card, k_in_RX4, k_co_X4_card, by decide +kernel, by decide +kernel, by decide +kernel⟩
theorem q_X4_placeOf : KV yX4_placeOf cX4_placeOf 3 (some .int) 1 := ⟨k_im_X4_placeOf, k_se_X4_placeOf, k_in_RX4, k_co_X4_placeOf, by decide +kernel, by decide +kernel, by decide +kernel⟩
theorem q_X4_holder : KV yX4_holder cX4_holder 4 (some .int) 2 := ⟨k_im_X4_holder, k_se_X4_holder, k_in_RX4, k_co_X4_holder, by decide +kernel, by decide +kernel, by decide +kernel⟩
theorem q_X4_hand : KV yX4_hand cX4_hand 5 (some .int) 3 := ⟨k_im_X4_hand, k_se_X4_hand, k_in_RX4, k_co_X4_hand, by decide +kernel, by decide +kernel, by decide +kernel⟩
theorem q_X4_board : KV yX4_board cX4_board 4 (some .int) 2 := ⟨k_im_X4_board, k_se_X4_board, k_in_RX4, k_co_X4_board, by decide +kernel, by decide +kernel, by decide +kernel⟩
theorem q_X4_count : KV yX4_count cX4_count 2 (some .int) 1 := ⟨k_im_X4_count, k_se_X4_count, k_in_RX4, k_co_X4_count, by decide +kernel, by decide +kernel, by decide +kernel⟩
theorem q_X4_alike : KV yX4_alike cX4_alike 5 (some .int) 2 := ⟨k_im_X4_alike, k_se_X4_alike, k_in_RX4, k_co_X4_alike, by decide +kernel, by decide +kernel, by decide +kernel⟩
theorem q_X4_ifRiffled : KV yX4_ifRiffled cX4_ifRiffled 3 (some .int) 2 := ⟨k_im_X4_ifRiffled, k_se_X4_ifRiffled, k_in_RX4, k_co_X4_ifRiffled, by decide +kernel, by decide +kernel, by decide +kernel⟩
theorem q_X4_needed : KV yX4_needed cX4_needed 2 (some .int) 0 := ⟨k_im_X4_needed, k_se_X4_needed, k_in_RX4, k_co_X4_needed, by decide +kernel, by decide +kernel, by decide +kernel⟩
theorem q_X4_keptWithoutBend : KV yX4_keptWithoutBend cX4_keptWithoutBend 2 (some .int) 1 := ⟨k_im_X4_keptWithoutBend, k_se_X4_keptWithoutBend, k_in_RX4, k_co_X4_keptWithoutBend, by decide +kernel, by decide +kernel, by decide +kernel⟩
theorem q_X4_worstBend : KV yX4_worstBend cX4_worstBend 5 (some .int) 0 := ⟨k_im_X4_worstBend, k_se_X4_worstBend, k_in_RX4, k_co_X4_worstBend, by decide +kernel, by decide +kernel, by decide +kernel⟩
theorem q_X4_undo : KV yX4_undo cX4_undo 1 (some .int) 0 := ⟨k_im_X4_undo, k_se_X4_undo, k_in_RX4, k_co_X4_undo, by decide +kernel, by decide +kernel, by decide +kernel⟩
theorem q_X4_restore : KV yX4_restore cX4_restore 3 (some .int) 1 := ⟨k_im_X4_restore, k_se_X4_restore, k_in_RX4, k_co_X4_restore, by decide +kernel, by decide +kernel, by decide +kernel⟩
theorem q_J9_max_7cf53 : KS yJ9_max_7cf53 cJ9_max_7cf53 2 (some .int) 2 := ⟨k_st_J9_max_7cf53, k_in_RJ9, k_co_J9_max_7cf53, by decide +kernel, by decide +kernel, by decide +kernel⟩
theorem q_L_cell : KS yL_cell cL_cell 2 (some .int) 2 := ⟨k_st_L_cell, k_in_RL, k_co_L_cell, by decide +kernel, by decide +kernel, by decide +kernel⟩
theorem q_L_low : KS yL_low cL_low 2 (some .int) 2 := ⟨k_st_L_low, k_in_RL, k_co_L_low, by decide +kernel, by decide +kernel, by decide +kernel⟩
theorem q_L_draw : KS yL_draw cL_draw 4 (some .int) 2 := ⟨k_st_L_draw, k_in_RL, k_co_L_draw, by decide +kernel, by decide +kernel, by decide +kernel⟩
theorem q_L_copy : KS yL_copy cL_copy 3 none 2 := ⟨k_st_L_copy, k_in_RL, k_co_L_copy, by decide +kernel, by decide +kernel, by decide +kernel⟩
theorem q_L_riffle : KS yL_riffle cL_riffle 11 none 5 := ⟨k_st_L_riffle, k_in_RL, k_co_L_riffle, by decide +kernel, by decide +kernel, by decide +kernel⟩
theorem q_L_kept : KS yL_kept cL_kept 5 (some .int) 2 := ⟨k_st_L_kept, k_in_RL, k_co_L_kept, by decide +kernel, by decide +kernel, by decide +kernel⟩
theorem q_L_keptIf : KS yL_keptIf cL_keptIf 9 (some .int) 8 := ⟨k_st_L_keptIf, k_in_RL, k_co_L_keptIf, by decide +kernel, by decide +kernel, by decide +kernel⟩
theorem q_L_points : KS yL_points cL_points 4 (some .int) 2 := ⟨k_st_L_points, k_in_RL, k_co_L_points, by decide +kernel, by decide +kernel, by decide +kernel⟩
theorem q_L_isHand : KS yL_isHand cL_isHand 9 (some .boolean) 4 := ⟨k_st_L_isHand, k_in_RL, k_co_L_isHand, by decide +kernel, by decide +kernel, by decide +kernel⟩
theorem q_L_isBoard : KS yL_isBoard cL_isBoard 6 (some .boolean) 4 := ⟨k_st_L_isBoard, k_in_RL, k_co_L_isBoard, by decide +kernel, by decide +kernel, by decide +kernel⟩
theorem q_L_isSo : KS yL_isSo cL_isSo 10 (some .boolean) 5 := ⟨k_st_L_isSo, k_in_RL, k_co_L_isSo, by decide +kernel, by decide +kernel, by decide +kernel⟩
theorem q_L_isAhead : KS yL_isAhead cL_isAhead 15 (some .boolean) 5 := ⟨k_st_L_isAhead, k_in_RL, k_co_L_isAhead, by decide +kernel, by decide +kernel, by decide +kernel⟩
theorem q_L_cards : KS yL_cards cL_cards 11 (some .boolean) 6 := ⟨k_st_L_cards, k_in_RL, k_co_L_cards, by decide +kernel, by decide +kernel, by decide +kernel⟩
theorem q_L_boards : KS yL_boards cL_boards 11 (some .boolean) 7 := ⟨k_st_L_boards, k_in_RL, k_co_L_boards, by decide +kernel, by decide +kernel, by decide +kernel⟩
theorem vw_0 : vwCl[0]? = some (RX0, TX0, 4) := rfl
theorem vw_1 : vwCl[1]? = some (RX1, TX1, 2) := rfl
theorem vw_2 : vwCl[2]? = some (RX2, TX2, 11) := rfl
theorem vw_3 : vwCl[3]? = some (RX3, TX3, 6) := rfl
theorem vw_4 : vwCl[4]? = some (RX4, TX4, 7) := rfl
