/-- how a method may end -/
def Ret (κ : Kp) (Γ : Gm) (A : Nat → Prop) (nL : Nat) (Q : State → Prop) (cc : ByteArray) (ret : Option FieldType) (mc ms : Nat) (post : Option Value → va_W → Prop) : Prop :=
  (∀ (cells slots pc : Nat) (lv : List (Nat × Value)) (ws : va_W) (v : Int32), ret = some .int → cells ≤ mc → slots ≤ ms → decode cc pc = .ok (.ireturn, 1) → post (some (.int v)) ws → G κ Γ A nL cells slots Q ws pc lv [.int v]) ∧
  (∀ (cells slots pc : Nat) (lv : List (Nat × Value)) (ws : va_W) (v : Int32) (ty : FieldType), ret = some ty → narrow ty (.int v) = .int v → cells ≤ mc → slots ≤ ms → decode cc pc = .ok (.ireturn, 1) → post (some (.int v)) ws → G κ Γ A nL cells slots Q ws pc lv [.int v]) ∧
  (∀ (cells slots pc : Nat) (lv : List (Nat × Value)) (ws : va_W), ret = none → cells ≤ mc → slots ≤ ms → decode cc pc = .ok (.return_, 1) → post none ws → G κ Γ A nL cells slots Q ws pc lv []) ∧
  (∀ (cells slots pc : Nat) (lv : List (Nat × Value)) (ws : va_W) (v : Value) (rt : FieldType), ret = some rt → ((∃ n, rt = .object n) ∨ ∃ t, rt = .array t) → (v = .null ∨ ∃ a, v = .ref a) → cells ≤ mc → slots ≤ ms → decode cc pc = .ok (.areturn, 1) → post (some v) ws → G κ Γ A nL cells slots Q ws pc lv [v])
theorem CT.go {κ : Kp} {l : Launch} {y : MethodName} {cc : ByteArray} {maxL : Nat} {ret : Option FieldType} {fr lo mc ms : Nat} {av : List Value} {wc : va_W} {post : Option Value → va_W → Prop} (hy : plainFor y = true) (hav : (lg_sl av).length ≤ maxL)
    (body : ∀ (Γ : Gm) (A : Nat → Prop) (Q : State → Prop), gl Γ = l → Cx κ Γ A cc maxL y.cls y.name ret { frames := fr, cells := mc, slots := ms, locals := lo } → Ret κ Γ A maxL Q cc ret mc ms post → G κ Γ A maxL 0 0 Q wc 0 (lv_args 0 av) []) : CT κ l y cc maxL ret fr lo mc ms av wc post := by
  refine CT.of hy hav (fun Γ hl hc => body Γ _ _ hl hc ⟨?_, ?_, ?_, ?_⟩)
  · intro cells slots pc lv ws v hr h1 h2 hd hp
    exact g_iret hc hr h1 h2 hd hp
  · intro cells slots pc lv ws v ty hr hn h1 h2 hd hp
    exact g_zret hc hr hn h1 h2 hd hp
  · intro cells slots pc lv ws hr h1 h2 hd hp
    exact g_vret hc hr h1 h2 hd hp
  · intro cells slots pc lv ws v rt hr hrt hv h1 h2 hd hp
    exact g_aret hc hr hrt hv h1 h2 hd hp
/-- posts: an int, nothing, a reference -/
def PI (f : Int32 → va_W → Prop) : Option Value → va_W → Prop := fun v w => ∃ r : Int32, v = some (.int r) ∧ f r w
def PV (f : va_W → Prop) : Option Value → va_W → Prop := fun v w => v = none ∧ f w
def PR (f : Option Nat → va_W → Prop) : Option Value → va_W → Prop := fun v w => ∃ r : Option Nat, v = some (va_rf r) ∧ f r w
/-- arguments -/
theorem arg_lt {x : Int32} (m : Nat) (hm : m < 2 ^ 31) (h0 : ¬ x < 0) (h1 : ¬ nI m ≤ x) : ∃ j : Nat, j < m ∧ x = nI j := by
  rcases pk_ix x hm with h | h | h
  · exact absurd h h0
  · exact absurd h h1
  · exact h
theorem arg_le {x : Int32} (m : Nat) (hm : m < 2 ^ 31) (h0 : ¬ x < 0) (h1 : ¬ nI m < x) : ∃ j : Nat, j ≤ m ∧ x = nI j := by
  obtain ⟨j, hj, rfl⟩ := nI_of h0
  refine ⟨j, ?_, rfl⟩
  exact Nat.le_of_not_lt (fun q => h1 ((nI_ltI hm hj).mpr q))
theorem arg_0 {x : Int32} (h0 : ¬ x < 0) : ∃ j : Nat, j < 2 ^ 31 ∧ x = nI j := nI_of h0

theorem q_X0_init : KI yX0_init cX0_init 1 0 := ⟨k_im_X0_init, k_in_RX0, k_co_X0_init, rfl, by decide +kernel, by decide +kernel, by decide +kernel⟩
theorem q_X0_copyFrom : KV yX0_copyFrom cX0_copyFrom 2 none 1 := ⟨k_im_X0_copyFrom, k_se_X0_copyFrom, k_in_RX0, k_co_X0_copyFrom, by decide +kernel, by decide +kernel, by decide +kernel⟩
theorem q_X0_giveOut : KV yX0_giveOut cX0_giveOut 4 none 1 := ⟨k_im_X0_giveOut, k_se_X0_giveOut, k_in_RX0, k_co_X0_giveOut, by decide +kernel, by decide +kernel, by decide +kernel⟩
theorem q_X0_hasHandsOf : KV yX0_hasHandsOf cX0_hasHandsOf 3 (some .boolean) 1 := ⟨k_im_X0_hasHandsOf, k_se_X0_hasHandsOf, k_in_RX0, k_co_X0_hasHandsOf, by decide +kernel, by decide +kernel, by decide +kernel⟩
theorem q_X0_suitLength : KV yX0_suitLength cX0_suitLength 5 (some .int) 2 := ⟨k_im_X0_suitLength, k_se_X0_suitLength, k_in_RX0, k_co_X0_suitLength, by decide +kernel, by decide +kernel, by decide +kernel⟩
theorem q_X0_pointsOfRank : KS yX0_pointsOfRank cX0_pointsOfRank 1 (some .int) 1 := ⟨k_st_X0_pointsOfRank, k_in_RX0, k_co_X0_pointsOfRank, by decide +kernel, by decide +kernel, by decide +kernel⟩
theorem q_X0_pointsOf : KV yX0_pointsOf cX0_pointsOf 4 (some .int) 1 := ⟨k_im_X0_pointsOf, k_se_X0_pointsOf, k_in_RX0, k_co_X0_pointsOf, by decide +kernel, by decide +kernel, by decide +kernel⟩
theorem q_X0_isBalanced : KV yX0_isBalanced cX0_isBalanced 5 (some .boolean) 1 := ⟨k_im_X0_isBalanced, k_se_X0_isBalanced, k_in_RX0, k_co_X0_isBalanced, by decide +kernel, by decide +kernel, by decide +kernel⟩
theorem q_X0_highestSpade : KV yX0_highestSpade cX0_highestSpade 3 (some .int) 1 := ⟨k_im_X0_highestSpade, k_se_X0_highestSpade, k_in_RX0, k_co_X0_highestSpade, by decide +kernel, by decide +kernel, by decide +kernel⟩
theorem q_X0_strongestHand : KV yX0_strongestHand cX0_strongestHand 5 (some .int) 0 := ⟨k_im_X0_strongestHand, k_se_X0_strongestHand, k_in_RX0, k_co_X0_strongestHand, by decide +kernel, by decide +kernel, by decide +kernel⟩
theorem q_X0_balancedHands : KV yX0_balancedHands cX0_balancedHands 3 (some .int) 0 := ⟨k_im_X0_balancedHands, k_se_X0_balancedHands, k_in_RX0, k_co_X0_balancedHands, by decide +kernel, by decide +kernel, by decide +kernel⟩
theorem q_X1_init : KI yX1_init cX1_init 1 0 := ⟨k_im_X1_init, k_in_RX1, k_co_X1_init, rfl, by decide +kernel, by decide +kernel, by decide +kernel⟩
theorem q_X1_lengthOf : KS yX1_lengthOf cX1_lengthOf 8 (some .int) 1 := ⟨k_st_X1_lengthOf, k_in_RX1, k_co_X1_lengthOf, by decide +kernel, by decide +kernel, by decide +kernel⟩
theorem q_X1_append : KV yX1_append cX1_append 5 (some .int) 1 := ⟨k_im_X1_append, k_se_X1_append, k_in_RX1, k_co_X1_append, by decide +kernel, by decide +kernel, by decide +kernel⟩
theorem q_X1_signAt : KV yX1_signAt cX1_signAt 2 (some .char) 1 := ⟨k_im_X1_signAt, k_se_X1_signAt, k_in_RX1, k_co_X1_signAt, by decide +kernel, by decide +kernel, by decide +kernel⟩
theorem q_J0_isLatin1_aae02 : KV yJ0_isLatin1_aae02 cJ0_isLatin1_aae02 1 (some .boolean) 0 := ⟨k_im_J0_isLatin1_aae02, k_se_J0_isLatin1_aae02, k_in_RJ0, k_co_J0_isLatin1_aae02, by decide +kernel, by decide +kernel, by decide +kernel⟩
theorem q_J0_coder_7d493 : KV yJ0_coder_7d493 cJ0_coder_7d493 1 (some .byte) 0 := ⟨k_im_J0_coder_7d493, k_se_J0_coder_7d493, k_in_RJ0, k_co_J0_coder_7d493, by decide +kernel, by decide +kernel, by decide +kernel⟩
theorem q_J0_length_8abf5 : KV yJ0_length_8abf5 cJ0_length_8abf5 1 (some .int) 0 := ⟨k_im_J0_length_8abf5, k_se_J0_length_8abf5, k_in_RJ0, k_co_J0_length_8abf5, by decide +kernel, by decide +kernel, by decide +kernel⟩
theorem q_J1_canEncode_9a6ad : KS yJ1_canEncode_9a6ad cJ1_canEncode_9a6ad 1 (some .boolean) 1 := ⟨k_st_J1_canEncode_9a6ad, k_in_RJ1, k_co_J1_canEncode_9a6ad, by decide +kernel, by decide +kernel, by decide +kernel⟩
theorem q_J1_indexOfChar_4cfef : KS yJ1_indexOfChar_4cfef cJ1_indexOfChar_4cfef 6 (some .int) 4 := ⟨k_st_J1_indexOfChar_4cfef, k_in_RJ1, k_co_J1_indexOfChar_4cfef, by decide +kernel, by decide +kernel, by decide +kernel⟩
theorem q_J1_indexOf_4cfef : KS yJ1_indexOf_4cfef cJ1_indexOf_4cfef 4 (some .int) 4 := ⟨k_st_J1_indexOf_4cfef, k_in_RJ1, k_co_J1_indexOf_4cfef, by decide +kernel, by decide +kernel, by decide +kernel⟩
theorem q_J0_indexOf_7cf53 : KV yJ0_indexOf_7cf53 cJ0_indexOf_7cf53 3 (some .int) 2 := ⟨k_im_J0_indexOf_7cf53, k_se_J0_indexOf_7cf53, k_in_RJ0, k_co_J0_indexOf_7cf53, by decide +kernel, by decide +kernel, by decide +kernel⟩
theorem q_J0_indexOf_0f7a4 : KV yJ0_indexOf_0f7a4 cJ0_indexOf_0f7a4 2 (some .int) 1 := ⟨k_im_J0_indexOf_0f7a4, k_se_J0_indexOf_0f7a4, k_in_RJ0, k_co_J0_indexOf_0f7a4, by decide +kernel, by decide +kernel, by decide +kernel⟩
theorem q_X1_canStandAt : KV yX1_canStandAt cX1_canStandAt 3 (some .boolean) 1 := ⟨k_im_X1_canStandAt, k_se_X1_canStandAt, k_in_RX1, k_co_X1_canStandAt, by decide +kernel, by decide +kernel, by decide +kernel⟩
theorem q_X1_firstFault : KV yX1_firstFault cX1_firstFault 2 (some .int) 0 := ⟨k_im_X1_firstFault, k_se_X1_firstFault, k_in_RX1, k_co_X1_firstFault, by decide +kernel, by decide +kernel, by decide +kernel⟩
theorem q_X1_cardAt : KV yX1_cardAt cX1_cardAt 2 (some .int) 1 := ⟨k_im_X1_cardAt, k_se_X1_cardAt, k_in_RX1, k_co_X1_cardAt, by decide +kernel, by decide +kernel, by decide +kernel⟩
theorem q_X2_init : KI yX2_init cX2_init 2 0 := ⟨k_im_X2_init, k_in_RX2, k_co_X2_init, rfl, by decide +kernel, by decide +kernel, by decide +kernel⟩
theorem q_X2_copyFrom : KV yX2_copyFrom cX2_copyFrom 3 none 1 := ⟨k_im_X2_copyFrom, k_se_X2_copyFrom, k_in_RX2, k_co_X2_copyFrom, by decide +kernel, by decide +kernel, by decide +kernel⟩
theorem q_X2_boardAt : KV yX2_boardAt cX2_boardAt 2 (some (.object "SealedDeals$Board")) 1 := ⟨k_im_X2_boardAt, k_se_X2_boardAt, k_in_RX2, k_co_X2_boardAt, by decide +kernel, by decide +kernel, by decide +kernel⟩
theorem q_X2_bendOrFlatten : KV yX2_bendOrFlatten cX2_bendOrFlatten 2 none 1 := ⟨k_im_X2_bendOrFlatten, k_se_X2_bendOrFlatten, k_in_RX2, k_co_X2_bendOrFlatten, by decide +kernel, by decide +kernel, by decide +kernel⟩
theorem q_X2_countShuffle : KV yX2_countShuffle cX2_countShuffle 2 none 1 := ⟨k_im_X2_countShuffle, k_se_X2_countShuffle, k_in_RX2, k_co_X2_countShuffle, by decide +kernel, by decide +kernel, by decide +kernel⟩
theorem q_X2_layInOrder : KV yX2_layInOrder cX2_layInOrder 3 (some .int) 0 := ⟨k_im_X2_layInOrder, k_se_X2_layInOrder, k_in_RX2, k_co_X2_layInOrder, by decide +kernel, by decide +kernel, by decide +kernel⟩
theorem q_X2_bentCards : KV yX2_bentCards cX2_bentCards 3 (some .int) 0 := ⟨k_im_X2_bentCards, k_se_X2_bentCards, k_in_RX2, k_co_X2_bentCards, by decide +kernel, by decide +kernel, by decide +kernel⟩
theorem q_X2_risingPairs : KV yX2_risingPairs cX2_risingPairs 3 (some .int) 0 := ⟨k_im_X2_risingPairs, k_se_X2_risingPairs, k_in_RX2, k_co_X2_risingPairs, by decide +kernel, by decide +kernel, by decide +kernel⟩
theorem q_X2_boardsWithCards : KV yX2_boardsWithCards cX2_boardsWithCards 3 (some .int) 0 := ⟨k_im_X2_boardsWithCards, k_se_X2_boardsWithCards, k_in_RX2, k_co_X2_boardsWithCards, by decide +kernel, by decide +kernel, by decide +kernel⟩
theorem q_X2_sealedBoards : KV yX2_sealedBoards cX2_sealedBoards 3 (some .int) 0 := ⟨k_im_X2_sealedBoards, k_se_X2_sealedBoards, k_in_RX2, k_co_X2_sealedBoards, by decide +kernel, by decide +kernel, by decide +kernel⟩
theorem q_X3_init : KI yX3_init cX3_init 1 0 := ⟨k_im_X3_init, k_in_RX3, k_co_X3_init, rfl, by decide +kernel, by decide +kernel, by decide +kernel⟩
theorem q_X3_begin : KV yX3_begin cX3_begin 2 none 1 := ⟨k_im_X3_begin, k_se_X3_begin, k_in_RX3, k_co_X3_begin, by decide +kernel, by decide +kernel, by decide +kernel⟩
theorem q_X3_flatten : KV yX3_flatten cX3_flatten 2 none 1 := ⟨k_im_X3_flatten, k_se_X3_flatten, k_in_RX3, k_co_X3_flatten, by decide +kernel, by decide +kernel, by decide +kernel⟩
theorem q_X3_drawBelow : KV yX3_drawBelow cX3_drawBelow 2 (some .int) 1 := ⟨k_im_X3_drawBelow, k_se_X3_drawBelow, k_in_RX3, k_co_X3_drawBelow, by decide +kernel, by decide +kernel, by decide +kernel⟩
theorem q_X3_isBent : KV yX3_isBent cX3_isBent 2 (some .boolean) 1 := ⟨k_im_X3_isBent, k_se_X3_isBent, k_in_RX3, k_co_X3_isBent, by decide +kernel, by decide +kernel, by decide +kernel⟩
theorem q_X3_riffleOnce : KV yX3_riffleOnce cX3_riffleOnce 8 none 0 := ⟨k_im_X3_riffleOnce, k_se_X3_riffleOnce, k_in_RX3, k_co_X3_riffleOnce, by decide +kernel, by decide +kernel, by decide +kernel⟩
theorem q_X3_riffleTimes : KV yX3_riffleTimes cX3_riffleTimes 3 none 1 := ⟨k_im_X3_riffleTimes, k_se_X3_riffleTimes, k_in_RX3, k_co_X3_riffleTimes, by decide +kernel, by decide +kernel, by decide +kernel⟩
theorem q_X3_notePlaces : KV yX3_notePlaces cX3_notePlaces 4 none 1 := ⟨k_im_X3_notePlaces, k_se_X3_notePlaces, k_in_RX3, k_co_X3_notePlaces, by decide +kernel, by decide +kernel, by decide +kernel⟩
theorem q_X3_notedPlace : KV yX3_notedPlace cX3_notedPlace 2 (some .int) 1 := ⟨k_im_X3_notedPlace, k_se_X3_notedPlace, k_in_RX3, k_co_X3_notedPlace, by decide +kernel, by decide +kernel, by decide +kernel⟩
theorem q_X3_pairsFound : KV yX3_pairsFound cX3_pairsFound 5 (some .int) 2 := ⟨k_im_X3_pairsFound, k_se_X3_pairsFound, k_in_RX3, k_co_X3_pairsFound, by decide +kernel, by decide +kernel, by decide +kernel⟩
theorem q_X3_keptPairs : KV yX3_keptPairs cX3_keptPairs 2 (some .int) 1 := ⟨k_im_X3_keptPairs, k_se_X3_keptPairs, k_in_RX3, k_co_X3_keptPairs, by decide +kernel, by decide +kernel, by decide +kernel⟩
theorem q_X4_init : KI yX4_init cX4_init 2 0 := ⟨k_im_X4_init, k_in_RX4, k_co_X4_init, rfl, by decide +kernel, by decide +kernel, by decide +kernel⟩
theorem q_X4_dropOldestState : KV yX4_dropOldestState cX4_dropOldestState 3 none 0 := ⟨k_im_X4_dropOldestState, k_se_X4_dropOldestState, k_in_RX4, k_co_X4_dropOldestState, by decide +kernel, by decide +kernel, by decide +kernel⟩
theorem q_X4_recordState : KV yX4_recordState cX4_recordState 1 none 0 := ⟨k_im_X4_recordState, k_se_X4_recordState, k_in_RX4, k_co_X4_recordState, by decide +kernel, by decide +kernel, by decide +kernel⟩
theorem q_X4_set : KV yX4_set cX4_set 4 (some .int) 2 := ⟨k_im_X4_set, k_se_X4_set, k_in_RX4, k_co_X4_set, by decide +kernel, by decide +kernel, by decide +kernel⟩
theorem q_X4_seed : KV yX4_seed cX4_seed 3 (some .int) 1 := ⟨k_im_X4_seed, k_se_X4_seed, k_in_RX4, k_co_X4_seed, by decide +kernel, by decide +kernel, by decide +kernel⟩
theorem q_X4_bend : KV yX4_bend cX4_bend 2 (some .int) 1 := ⟨k_im_X4_bend, k_se_X4_bend, k_in_RX4, k_co_X4_bend, by decide +kernel, by decide +kernel, by decide +kernel⟩
theorem q_X4_read : KV yX4_read cX4_read 2 (some .int) 0 := ⟨k_im_X4_read, k_se_X4_read, k_in_RX4, k_co_X4_read, by decide +kernel, by decide +kernel, by decide +kernel⟩
theorem q_X4_shuffle : KV yX4_shuffle cX4_shuffle 2 (some .int) 0 := ⟨k_im_X4_shuffle, k_se_X4_shuffle, k_in_RX4, k_co_X4_shuffle, by decide +kernel, by decide +kernel, by decide +kernel⟩
theorem q_X4_cut : KV yX4_cut cX4_cut 2 (some .int) 1 := ⟨k_im_X4_cut, k_se_X4_cut, k_in_RX4, k_co_X4_cut, by decide +kernel, by decide +kernel, by decide +kernel⟩
theorem q_X4_sort : KV yX4_sort cX4_sort 1 (some .int) 0 := ⟨k_im_X4_sort, k_se_X4_sort, k_in_RX4, k_co_X4_sort, by decide +kernel, by decide +kernel, by decide +kernel⟩
theorem q_X4_deal : KV yX4_deal cX4_deal 3 (some .int) 1 := ⟨k_im_X4_deal, k_se_X4_deal, k_in_RX4, k_co_X4_deal, by decide +kernel, by decide +kernel, by decide +kernel⟩
theorem q_X4_seal : KV yX4_seal cX4_seal 3 (some .int) 1 := ⟨k_im_X4_seal, k_se_X4_seal, k_in_RX4, k_co_X4_seal, by decide +kernel, by decide +kernel, by decide +kernel⟩
theorem q_X4_open : KV yX4_open cX4_open 3 (some .int) 1 := ⟨k_im_X4_open, k_se_X4_open, k_in_RX4, k_co_X4_open, by decide +kernel, by decide +kernel, by decide +kernel⟩
theorem q_X4_card : KV yX4_card cX4_card 2 (some .int) 1 := ⟨k_im_X4_card, k_se_X4_card, k_in_RX4, k_co_X4_card, by decide +kernel, by decide +kernel, by decide +kernel⟩
theorem q_X4_placeOf : KV yX4_placeOf cX4_placeOf 3 (some .int) 1 := ⟨k_im_X4_placeOf, k_se_X4_placeOf, k_in_RX4, k_co_X4_placeOf, by decide +kernel, by decide +kernel, by decide +kernel⟩
theorem q_X4_holder : KV yX4_holder cX4_holder 4 (some .int) 2 := ⟨k_im_X4_holder, k_se_X4_holder, k_in_RX4, k_co_X4_holder, by decide +kernel, by decide +kernel, by decide +kernel⟩
theorem q_X4_hand : KV yX4_hand cX4_hand 5 (some .int) 3 := ⟨k_im_X4_hand, k_se_X4_hand, k_in_RX4, k_co_X4_hand, by decide +kernel, by decide +kernel, by decide +kernel⟩
theorem q_X4_board : KV yX4_board cX4_board 4 (some .int) 2 := ⟨k_im_X4_board, k_se_X4_board, k_in_RX4, k_co_X4_board, by decide +kernel, by decide +kernel, by decide +kernel⟩
theorem q_X4_count : KV yX4_count cX4_count 2 (some .int) 1 := ⟨k_im_X4_count, k_se_X4_count, k_in_RX4, k_co_X4_count, by decide +kernel, by decide +kernel, by decide +kernel⟩
theorem q_X4_alike : KV yX4_alike cX4_alike 5 (some .int) 2 := ⟨k_im_X4_alike, k_se_X4_alike, k_in_RX4, k_co_X4_alike, by decide +kernel, by decide +kernel, by decide +kernel⟩
theorem q_X4_ifRiffled : KV yX4_ifRiffled cX4_ifRiffled 3 (some .int) 2 := ⟨k_im_X4_ifRiffled, k_se_X4_ifRiffled, k_in_RX4, k_co_X4_ifRiffled, by decide +kernel, by decide +kernel, by decide +kernel⟩
theorem q_X4_needed : KV yX4_needed cX4_needed 2 (some .int) 0 := ⟨k_im_X4_needed, k_se_X4_needed, k_in_RX4, k_co_X4_needed, by decide +kernel, by decide +kernel, by decide +kernel⟩
theorem q_X4_keptWithoutBend : KV yX4_keptWithoutBend cX4_keptWithoutBend 2 (some .int) 1 := ⟨k_im_X4_keptWithoutBend, k_se_X4_keptWithoutBend, k_in_RX4, k_co_X4_keptWithoutBend, by decide +kernel, by decide +kernel, by decide +kernel⟩
theorem q_X4_worstBend : KV yX4_worstBend cX4_worstBend 5 (some .int) 0 := ⟨k_im_X4_worstBend, k_se_X4_worstBend, k_in_RX4, k_co_X4_worstBend, by decide +kernel, by decide +kernel, by decide +kernel⟩
theorem q_X4_put : KV yX4_put cX4_put 3 (some .int) 1 := ⟨k_im_X4_put, k_se_X4_put, k_in_RX4, k_co_X4_put, by decide +kernel, by decide +kernel, by decide +kernel⟩
theorem q_X4_wipe : KV yX4_wipe cX4_wipe 2 (some .int) 0 := ⟨k_im_X4_wipe, k_se_X4_wipe, k_in_RX4, k_co_X4_wipe, by decide +kernel, by decide +kernel, by decide +kernel⟩
theorem q_X4_fault : KV yX4_fault cX4_fault 1 (some .int) 0 := ⟨k_im_X4_fault, k_se_X4_fault, k_in_RX4, k_co_X4_fault, by decide +kernel, by decide +kernel, by decide +kernel⟩
theorem q_X4_undo : KV yX4_undo cX4_undo 1 (some .int) 0 := ⟨k_im_X4_undo, k_se_X4_undo, k_in_RX4, k_co_X4_undo, by decide +kernel, by decide +kernel, by decide +kernel⟩
theorem q_X4_save : KV yX4_save cX4_save 2 (some .int) 1 := ⟨k_im_X4_save, k_se_X4_save, k_in_RX4, k_co_X4_save, by decide +kernel, by decide +kernel, by decide +kernel⟩
theorem q_X4_restore : KV yX4_restore cX4_restore 3 (some .int) 1 := ⟨k_im_X4_restore, k_se_X4_restore, k_in_RX4, k_co_X4_restore, by decide +kernel, by decide +kernel, by decide +kernel⟩
theorem q_X5_init : KI yX5_init cX5_init 2 0 := ⟨k_im_X5_init, k_in_RX5, k_co_X5_init, rfl, by decide +kernel, by decide +kernel, by decide +kernel⟩
theorem q_X5_in : KS yX5_in cX5_in 3 (some .boolean) 3 := ⟨k_st_X5_in, k_in_RX5, k_co_X5_in, by decide +kernel, by decide +kernel, by decide +kernel⟩
theorem q_X5_isCard : KS yX5_isCard cX5_isCard 1 (some .boolean) 1 := ⟨k_st_X5_isCard, k_in_RX5, k_co_X5_isCard, by decide +kernel, by decide +kernel, by decide +kernel⟩
theorem q_X5_isBoard : KS yX5_isBoard cX5_isBoard 1 (some .boolean) 1 := ⟨k_st_X5_isBoard, k_in_RX5, k_co_X5_isBoard, by decide +kernel, by decide +kernel, by decide +kernel⟩
theorem q_X5_bentCards : KV yX5_bentCards cX5_bentCards 3 (some .int) 0 := ⟨k_im_X5_bentCards, k_se_X5_bentCards, k_in_RX5, k_co_X5_bentCards, by decide +kernel, by decide +kernel, by decide +kernel⟩
theorem q_X5_record : KV yX5_record cX5_record 2 none 0 := ⟨k_im_X5_record, k_se_X5_record, k_in_RX5, k_co_X5_record, by decide +kernel, by decide +kernel, by decide +kernel⟩
theorem q_X5_undo : KV yX5_undo cX5_undo 2 (some .int) 0 := ⟨k_im_X5_undo, k_se_X5_undo, k_in_RX5, k_co_X5_undo, by decide +kernel, by decide +kernel, by decide +kernel⟩
theorem q_X5_boardsOf : KV yX5_boardsOf cX5_boardsOf 4 (some .int) 1 := ⟨k_im_X5_boardsOf, k_se_X5_boardsOf, k_in_RX5, k_co_X5_boardsOf, by decide +kernel, by decide +kernel, by decide +kernel⟩
theorem q_X5_save : KV yX5_save cX5_save 3 (some .int) 1 := ⟨k_im_X5_save, k_se_X5_save, k_in_RX5, k_co_X5_save, by decide +kernel, by decide +kernel, by decide +kernel⟩
theorem q_X5_restore : KV yX5_restore cX5_restore 3 (some .int) 1 := ⟨k_im_X5_restore, k_se_X5_restore, k_in_RX5, k_co_X5_restore, by decide +kernel, by decide +kernel, by decide +kernel⟩
theorem q_X5_putAside : KV yX5_putAside cX5_putAside 2 none 0 := ⟨k_im_X5_putAside, k_se_X5_putAside, k_in_RX5, k_co_X5_putAside, by decide +kernel, by decide +kernel, by decide +kernel⟩
theorem q_X5_putBack : KV yX5_putBack cX5_putBack 2 none 0 := ⟨k_im_X5_putBack, k_se_X5_putBack, k_in_RX5, k_co_X5_putBack, by decide +kernel, by decide +kernel, by decide +kernel⟩
theorem q_X5_draw : KV yX5_draw cX5_draw 2 (some .int) 1 := ⟨k_im_X5_draw, k_se_X5_draw, k_in_RX5, k_co_X5_draw, by decide +kernel, by decide +kernel, by decide +kernel⟩
theorem q_X5_riffle : KV yX5_riffle cX5_riffle 8 none 0 := ⟨k_im_X5_riffle, k_se_X5_riffle, k_in_RX5, k_co_X5_riffle, by decide +kernel, by decide +kernel, by decide +kernel⟩
theorem q_X5_keptPairs : KV yX5_keptPairs cX5_keptPairs 3 (some .int) 0 := ⟨k_im_X5_keptPairs, k_se_X5_keptPairs, k_in_RX5, k_co_X5_keptPairs, by decide +kernel, by decide +kernel, by decide +kernel⟩
theorem q_X5_keptIf : KV yX5_keptIf cX5_keptIf 4 (some .int) 2 := ⟨k_im_X5_keptIf, k_se_X5_keptIf, k_in_RX5, k_co_X5_keptIf, by decide +kernel, by decide +kernel, by decide +kernel⟩
theorem q_X5_set : KV yX5_set cX5_set 4 (some .int) 2 := ⟨k_im_X5_set, k_se_X5_set, k_in_RX5, k_co_X5_set, by decide +kernel, by decide +kernel, by decide +kernel⟩
theorem q_X5_seed : KV yX5_seed cX5_seed 3 (some .int) 1 := ⟨k_im_X5_seed, k_se_X5_seed, k_in_RX5, k_co_X5_seed, by decide +kernel, by decide +kernel, by decide +kernel⟩
theorem q_X5_bend : KV yX5_bend cX5_bend 2 (some .int) 1 := ⟨k_im_X5_bend, k_se_X5_bend, k_in_RX5, k_co_X5_bend, by decide +kernel, by decide +kernel, by decide +kernel⟩
theorem q_X5_suitOf : KS yX5_suitOf cX5_suitOf 1 (some .int) 1 := ⟨k_st_X5_suitOf, k_in_RX5, k_co_X5_suitOf, by decide +kernel, by decide +kernel, by decide +kernel⟩
theorem q_X5_rankOf : KS yX5_rankOf cX5_rankOf 1 (some .int) 1 := ⟨k_st_X5_rankOf, k_in_RX5, k_co_X5_rankOf, by decide +kernel, by decide +kernel, by decide +kernel⟩
theorem q_X5_findFault : KV yX5_findFault cX5_findFault 3 (some .int) 0 := ⟨k_im_X5_findFault, k_se_X5_findFault, k_in_RX5, k_co_X5_findFault, by decide +kernel, by decide +kernel, by decide +kernel⟩
theorem q_X5_read : KV yX5_read cX5_read 3 (some .int) 0 := ⟨k_im_X5_read, k_se_X5_read, k_in_RX5, k_co_X5_read, by decide +kernel, by decide +kernel, by decide +kernel⟩
theorem q_X5_shuffle : KV yX5_shuffle cX5_shuffle 2 (some .int) 0 := ⟨k_im_X5_shuffle, k_se_X5_shuffle, k_in_RX5, k_co_X5_shuffle, by decide +kernel, by decide +kernel, by decide +kernel⟩
theorem q_X5_cut : KV yX5_cut cX5_cut 3 (some .int) 1 := ⟨k_im_X5_cut, k_se_X5_cut, k_in_RX5, k_co_X5_cut, by decide +kernel, by decide +kernel, by decide +kernel⟩
theorem q_X5_sort : KV yX5_sort cX5_sort 3 (some .int) 0 := ⟨k_im_X5_sort, k_se_X5_sort, k_in_RX5, k_co_X5_sort, by decide +kernel, by decide +kernel, by decide +kernel⟩
theorem q_X5_holderOf : KV yX5_holderOf cX5_holderOf 3 (some .int) 2 := ⟨k_im_X5_holderOf, k_se_X5_holderOf, k_in_RX5, k_co_X5_holderOf, by decide +kernel, by decide +kernel, by decide +kernel⟩
theorem q_X5_pointsOf : KV yX5_pointsOf cX5_pointsOf 6 (some .int) 2 := ⟨k_im_X5_pointsOf, k_se_X5_pointsOf, k_in_RX5, k_co_X5_pointsOf, by decide +kernel, by decide +kernel, by decide +kernel⟩
theorem q_X5_deal : KV yX5_deal cX5_deal 3 (some .int) 1 := ⟨k_im_X5_deal, k_se_X5_deal, k_in_RX5, k_co_X5_deal, by decide +kernel, by decide +kernel, by decide +kernel⟩
theorem q_X5_seal : KV yX5_seal cX5_seal 2 (some .int) 1 := ⟨k_im_X5_seal, k_se_X5_seal, k_in_RX5, k_co_X5_seal, by decide +kernel, by decide +kernel, by decide +kernel⟩
theorem q_X5_open : KV yX5_open cX5_open 2 (some .int) 1 := ⟨k_im_X5_open, k_se_X5_open, k_in_RX5, k_co_X5_open, by decide +kernel, by decide +kernel, by decide +kernel⟩
theorem q_X5_card : KV yX5_card cX5_card 2 (some .int) 1 := ⟨k_im_X5_card, k_se_X5_card, k_in_RX5, k_co_X5_card, by decide +kernel, by decide +kernel, by decide +kernel⟩
theorem q_X5_placeOf : KV yX5_placeOf cX5_placeOf 4 (some .int) 1 := ⟨k_im_X5_placeOf, k_se_X5_placeOf, k_in_RX5, k_co_X5_placeOf, by decide +kernel, by decide +kernel, by decide +kernel⟩
theorem q_X5_holder : KV yX5_holder cX5_holder 3 (some .int) 2 := ⟨k_im_X5_holder, k_se_X5_holder, k_in_RX5, k_co_X5_holder, by decide +kernel, by decide +kernel, by decide +kernel⟩
theorem q_X5_lengthOf : KV yX5_lengthOf cX5_lengthOf 6 (some .int) 3 := ⟨k_im_X5_lengthOf, k_se_X5_lengthOf, k_in_RX5, k_co_X5_lengthOf, by decide +kernel, by decide +kernel, by decide +kernel⟩
theorem q_X5_isBalanced : KV yX5_isBalanced cX5_isBalanced 7 (some .boolean) 2 := ⟨k_im_X5_isBalanced, k_se_X5_isBalanced, k_in_RX5, k_co_X5_isBalanced, by decide +kernel, by decide +kernel, by decide +kernel⟩
theorem q_X5_highestSpade : KV yX5_highestSpade cX5_highestSpade 5 (some .int) 2 := ⟨k_im_X5_highestSpade, k_se_X5_highestSpade, k_in_RX5, k_co_X5_highestSpade, by decide +kernel, by decide +kernel, by decide +kernel⟩
theorem q_X5_hand : KV yX5_hand cX5_hand 4 (some .int) 3 := ⟨k_im_X5_hand, k_se_X5_hand, k_in_RX5, k_co_X5_hand, by decide +kernel, by decide +kernel, by decide +kernel⟩
theorem q_X5_bestHand : KV yX5_bestHand cX5_bestHand 4 (some .int) 1 := ⟨k_im_X5_bestHand, k_se_X5_bestHand, k_in_RX5, k_co_X5_bestHand, by decide +kernel, by decide +kernel, by decide +kernel⟩
theorem q_X5_balancedHands : KV yX5_balancedHands cX5_balancedHands 4 (some .int) 1 := ⟨k_im_X5_balancedHands, k_se_X5_balancedHands, k_in_RX5, k_co_X5_balancedHands, by decide +kernel, by decide +kernel, by decide +kernel⟩
theorem q_X5_board : KV yX5_board cX5_board 3 (some .int) 2 := ⟨k_im_X5_board, k_se_X5_board, k_in_RX5, k_co_X5_board, by decide +kernel, by decide +kernel, by decide +kernel⟩
theorem q_X5_pairsInOrder : KV yX5_pairsInOrder cX5_pairsInOrder 3 (some .int) 0 := ⟨k_im_X5_pairsInOrder, k_se_X5_pairsInOrder, k_in_RX5, k_co_X5_pairsInOrder, by decide +kernel, by decide +kernel, by decide +kernel⟩
theorem q_X5_count : KV yX5_count cX5_count 2 (some .int) 1 := ⟨k_im_X5_count, k_se_X5_count, k_in_RX5, k_co_X5_count, by decide +kernel, by decide +kernel, by decide +kernel⟩
theorem q_X5_alike : KV yX5_alike cX5_alike 5 (some .int) 2 := ⟨k_im_X5_alike, k_se_X5_alike, k_in_RX5, k_co_X5_alike, by decide +kernel, by decide +kernel, by decide +kernel⟩
theorem q_X5_ifRiffled : KV yX5_ifRiffled cX5_ifRiffled 3 (some .int) 2 := ⟨k_im_X5_ifRiffled, k_se_X5_ifRiffled, k_in_RX5, k_co_X5_ifRiffled, by decide +kernel, by decide +kernel, by decide +kernel⟩
theorem q_X5_needed : KV yX5_needed cX5_needed 2 (some .int) 0 := ⟨k_im_X5_needed, k_se_X5_needed, k_in_RX5, k_co_X5_needed, by decide +kernel, by decide +kernel, by decide +kernel⟩
theorem q_X5_worstBend : KV yX5_worstBend cX5_worstBend 5 (some .int) 0 := ⟨k_im_X5_worstBend, k_se_X5_worstBend, k_in_RX5, k_co_X5_worstBend, by decide +kernel, by decide +kernel, by decide +kernel⟩
theorem q_X5_put : KV yX5_put cX5_put 8 (some .int) 1 := ⟨k_im_X5_put, k_se_X5_put, k_in_RX5, k_co_X5_put, by decide +kernel, by decide +kernel, by decide +kernel⟩
theorem q_X5_wipe : KV yX5_wipe cX5_wipe 2 (some .int) 0 := ⟨k_im_X5_wipe, k_se_X5_wipe, k_in_RX5, k_co_X5_wipe, by decide +kernel, by decide +kernel, by decide +kernel⟩
theorem q_X5_fault : KV yX5_fault cX5_fault 1 (some .int) 0 := ⟨k_im_X5_fault, k_se_X5_fault, k_in_RX5, k_co_X5_fault, by decide +kernel, by decide +kernel, by decide +kernel⟩
theorem q_J9_max_7cf53 : KS yJ9_max_7cf53 cJ9_max_7cf53 2 (some .int) 2 := ⟨k_st_J9_max_7cf53, k_in_RJ9, k_co_J9_max_7cf53, by decide +kernel, by decide +kernel, by decide +kernel⟩
theorem q_J9_min_7cf53 : KS yJ9_min_7cf53 cJ9_min_7cf53 2 (some .int) 2 := ⟨k_st_J9_min_7cf53, k_in_RJ9, k_co_J9_min_7cf53, by decide +kernel, by decide +kernel, by decide +kernel⟩
theorem vw_0 : vwCl[0]? = some (RX0, TX0, 4) := rfl
theorem vw_1 : vwCl[1]? = some (RX1, TX1, 2) := rfl
theorem vw_2 : vwCl[2]? = some (RX2, TX2, 11) := rfl
theorem vw_3 : vwCl[3]? = some (RX3, TX3, 6) := rfl
theorem vw_4 : vwCl[4]? = some (RX4, TX4, 7) := rfl
theorem vw_5 : vwCl[5]? = some (RX5, TX5, 10) := rfl
