set_option maxHeartbeats 1000000 in
set_option maxRecDepth 100000 in
theorem c_X5_in_y (κ : Kp) (l : Launch) (x : Int32) (lo : Int32) (hi : Int32) (hy : lo ≤ x ∧ x ≤ hi) : CT κ l yX5_in cX5_in 3 (some .boolean) 0 0 0 0 [.int x, .int lo, .int hi] [] (PI (fun rr ww => rr = (nI 1) ∧ ww = [])) := by
  refine CT.go (plainFor_of_name (by decide)) (Nat.le_of_ble_eq_true rfl) ?_
  intro Γ A Q hl hc hret
  subst hl
  have hc : Cx κ Γ A cX5_in 3 RX5 "in" (some .boolean) { frames := 0, cells := 0, slots := 0, locals := 0 } := hc
  refine g_lv (lv' := [(0, .int x), (1, .int lo), (2, .int hi)]) rfl ?_
  refine g_iload_n hc 0 rfl rfl dX5_in_0 (n := 1) rfl ?_
  refine g_iload_n hc 1 rfl rfl dX5_in_1 (n := 2) rfl ?_
  refine g_icmp_lt hc dX5_in_2 (tgt := 14) (by decide) (n := 5) rfl (fun c_1 => by exact absurd hy.1 (Int32.not_le.mpr c_1)) (fun c_1 => ?_)
  refine g_iload_n hc 0 rfl rfl dX5_in_5 (n := 6) rfl ?_
  refine g_iload_n hc 2 rfl rfl dX5_in_6 (n := 7) rfl ?_
  refine g_icmp_gt hc dX5_in_7 (tgt := 14) (by decide) (n := 10) rfl (fun c_2 => by exact absurd hy.2 (Int32.not_le.mpr c_2)) (fun c_2 => ?_)
  refine g_iconst (v := nI 1) hc (by decide) dX5_in_10 (n := 11) rfl ?_
  refine g_goto (n := 15) hc dX5_in_11 (by decide) ?_
  refine hret.2.1 _ _ _ _ _ _ _ rfl rfl (by decide) (by decide) dX5_in_15 ?_
  exact ⟨_, rfl, rfl, rfl⟩
set_option maxHeartbeats 1000000 in
set_option maxRecDepth 100000 in
theorem c_X5_in_n (κ : Kp) (l : Launch) (x : Int32) (lo : Int32) (hi : Int32) (hn : x < lo ∨ hi < x) : CT κ l yX5_in cX5_in 3 (some .boolean) 0 0 0 0 [.int x, .int lo, .int hi] [] (PI (fun rr ww => rr = (nI 0) ∧ ww = [])) := by
  refine CT.go (plainFor_of_name (by decide)) (Nat.le_of_ble_eq_true rfl) ?_
  intro Γ A Q hl hc hret
  subst hl
  have hc : Cx κ Γ A cX5_in 3 RX5 "in" (some .boolean) { frames := 0, cells := 0, slots := 0, locals := 0 } := hc
  refine g_lv (lv' := [(0, .int x), (1, .int lo), (2, .int hi)]) rfl ?_
  refine g_iload_n hc 0 rfl rfl dX5_in_0 (n := 1) rfl ?_
  refine g_iload_n hc 1 rfl rfl dX5_in_1 (n := 2) rfl ?_
  refine g_icmp_lt hc dX5_in_2 (tgt := 14) (by decide) (n := 5) rfl (fun c_1 => ?_) (fun c_1 => ?_)
  · skip
    refine g_iconst (v := nI 0) hc (by decide) dX5_in_14 (n := 15) rfl ?_
    refine hret.2.1 _ _ _ _ _ _ _ rfl rfl (by decide) (by decide) dX5_in_15 ?_
    exact ⟨_, rfl, rfl, rfl⟩
  · skip
    refine g_iload_n hc 0 rfl rfl dX5_in_5 (n := 6) rfl ?_
    refine g_iload_n hc 2 rfl rfl dX5_in_6 (n := 7) rfl ?_
    refine g_icmp_gt hc dX5_in_7 (tgt := 14) (by decide) (n := 10) rfl (fun c_2 => ?_) (fun c_2 => by exact absurd (show hi < x from hn.elim (fun h => absurd h (by assumption)) id) c_2)
    refine g_iconst (v := nI 0) hc (by decide) dX5_in_14 (n := 15) rfl ?_
    refine hret.2.1 _ _ _ _ _ _ _ rfl rfl (by decide) (by decide) dX5_in_15 ?_
    exact ⟨_, rfl, rfl, rfl⟩
set_option maxHeartbeats 1000000 in
set_option maxRecDepth 100000 in
theorem c_X5_isCard_y (κ : Kp) (l : Launch) (j : Nat) (hj : j ≤ 51) : CT κ l yX5_isCard cX5_isCard 1 (some .boolean) 1 22 0 0 [.int (nI j)] [] (PI (fun rr ww => rr = (nI 1) ∧ ww = [])) := by
  refine CT.go (plainFor_of_name (by decide)) (Nat.le_of_ble_eq_true rfl) ?_
  intro Γ A Q hl hc hret
  subst hl
  have hc : Cx κ Γ A cX5_isCard 1 RX5 "isCard" (some .boolean) { frames := 1, cells := 0, slots := 0, locals := 22 } := hc
  refine g_lv (lv' := [(0, .int (nI j))]) rfl ?_
  refine g_iload_n hc 0 rfl rfl dX5_isCard_0 (n := 1) rfl ?_
  refine g_iconst (v := nI 0) hc (by decide) dX5_isCard_1 (n := 2) rfl ?_
  refine g_bipush (v := nI 51) hc (by decide) dX5_isCard_2 (n := 4) rfl ?_
  refine g_callS (rest := []) (As := [.int (nI j), .int (nI 0), .int (nI 51)]) (cells' := 0) (slots' := 0) hc (c_X5_in_y κ _ (nI j) (nI 0) (nI 51) (in_y (Nat.zero_le _) hj)) q_X5_in k_ml_RX5_35 rfl rfl (jn_ix (wr := []) [] [] rfl rfl rfl rfl (by decide)) ⟨⟨by decide, by decide⟩, by decide, by decide⟩ (Nat.le_of_ble_eq_true rfl) rfl rfl dX5_isCard_4 (n := 7) rfl (fun vv ww hp => ?_)
  obtain ⟨rr, rfl, rfl, rfl⟩ := hp
  refine ⟨_, rfl, ?_⟩
  refine g_ws (ws' := []) rfl ?_
  refine g_st (st' := [.int (nI 1)]) rfl ?_
  refine hret.2.1 _ _ _ _ _ _ _ rfl rfl (by decide) (by decide) dX5_isCard_7 ?_
  exact ⟨_, rfl, rfl, rfl⟩
set_option maxHeartbeats 1000000 in
set_option maxRecDepth 100000 in
theorem c_X5_isCard_n (κ : Kp) (l : Launch) (x : Int32) (hx1 : x < 0 ∨ nI 52 ≤ x) : CT κ l yX5_isCard cX5_isCard 1 (some .boolean) 1 22 0 0 [.int x] [] (PI (fun rr ww => rr = (nI 0) ∧ ww = [])) := by
  refine CT.go (plainFor_of_name (by decide)) (Nat.le_of_ble_eq_true rfl) ?_
  intro Γ A Q hl hc hret
  subst hl
  have hc : Cx κ Γ A cX5_isCard 1 RX5 "isCard" (some .boolean) { frames := 1, cells := 0, slots := 0, locals := 22 } := hc
  refine g_lv (lv' := [(0, .int x)]) rfl ?_
  refine g_iload_n hc 0 rfl rfl dX5_isCard_0 (n := 1) rfl ?_
  refine g_iconst (v := nI 0) hc (by decide) dX5_isCard_1 (n := 2) rfl ?_
  refine g_bipush (v := nI 51) hc (by decide) dX5_isCard_2 (n := 4) rfl ?_
  refine g_callS (rest := []) (As := [.int x, .int (nI 0), .int (nI 51)]) (cells' := 0) (slots' := 0) hc (c_X5_in_n κ _ x (nI 0) (nI 51) (in_n1 hx1)) q_X5_in k_ml_RX5_35 rfl rfl (jn_ix (wr := []) [] [] rfl rfl rfl rfl (by decide)) ⟨⟨by decide, by decide⟩, by decide, by decide⟩ (Nat.le_of_ble_eq_true rfl) rfl rfl dX5_isCard_4 (n := 7) rfl (fun vv ww hp => ?_)
  obtain ⟨rr, rfl, rfl, rfl⟩ := hp
  refine ⟨_, rfl, ?_⟩
  refine g_ws (ws' := []) rfl ?_
  refine g_st (st' := [.int (nI 0)]) rfl ?_
  refine hret.2.1 _ _ _ _ _ _ _ rfl rfl (by decide) (by decide) dX5_isCard_7 ?_
  exact ⟨_, rfl, rfl, rfl⟩
set_option maxHeartbeats 1000000 in
set_option maxRecDepth 100000 in
theorem c_X5_isBoard_y (κ : Kp) (l : Launch) (j : Nat) (hj : j ≤ 3) : CT κ l yX5_isBoard cX5_isBoard 1 (some .boolean) 1 22 0 0 [.int (nI j)] [] (PI (fun rr ww => rr = (nI 1) ∧ ww = [])) := by
  refine CT.go (plainFor_of_name (by decide)) (Nat.le_of_ble_eq_true rfl) ?_
  intro Γ A Q hl hc hret
  subst hl
  have hc : Cx κ Γ A cX5_isBoard 1 RX5 "isBoard" (some .boolean) { frames := 1, cells := 0, slots := 0, locals := 22 } := hc
  refine g_lv (lv' := [(0, .int (nI j))]) rfl ?_
  refine g_iload_n hc 0 rfl rfl dX5_isBoard_0 (n := 1) rfl ?_
  refine g_iconst (v := nI 0) hc (by decide) dX5_isBoard_1 (n := 2) rfl ?_
  refine g_iconst (v := nI 3) hc (by decide) dX5_isBoard_2 (n := 3) rfl ?_
  refine g_callS (rest := []) (As := [.int (nI j), .int (nI 0), .int (nI 3)]) (cells' := 0) (slots' := 0) hc (c_X5_in_y κ _ (nI j) (nI 0) (nI 3) (in_y (Nat.zero_le _) hj)) q_X5_in k_ml_RX5_35 rfl rfl (jn_ix (wr := []) [] [] rfl rfl rfl rfl (by decide)) ⟨⟨by decide, by decide⟩, by decide, by decide⟩ (Nat.le_of_ble_eq_true rfl) rfl rfl dX5_isBoard_3 (n := 6) rfl (fun vv ww hp => ?_)
  obtain ⟨rr, rfl, rfl, rfl⟩ := hp
  refine ⟨_, rfl, ?_⟩
  refine g_ws (ws' := []) rfl ?_
  refine g_st (st' := [.int (nI 1)]) rfl ?_
  refine hret.2.1 _ _ _ _ _ _ _ rfl rfl (by decide) (by decide) dX5_isBoard_6 ?_
  exact ⟨_, rfl, rfl, rfl⟩
set_option maxHeartbeats 1000000 in
set_option maxRecDepth 100000 in
theorem c_X5_isBoard_n (κ : Kp) (l : Launch) (x : Int32) (hx1 : x < 0 ∨ nI 4 ≤ x) : CT κ l yX5_isBoard cX5_isBoard 1 (some .boolean) 1 22 0 0 [.int x] [] (PI (fun rr ww => rr = (nI 0) ∧ ww = [])) := by
  refine CT.go (plainFor_of_name (by decide)) (Nat.le_of_ble_eq_true rfl) ?_
  intro Γ A Q hl hc hret
  subst hl
  have hc : Cx κ Γ A cX5_isBoard 1 RX5 "isBoard" (some .boolean) { frames := 1, cells := 0, slots := 0, locals := 22 } := hc
  refine g_lv (lv' := [(0, .int x)]) rfl ?_
  refine g_iload_n hc 0 rfl rfl dX5_isBoard_0 (n := 1) rfl ?_
  refine g_iconst (v := nI 0) hc (by decide) dX5_isBoard_1 (n := 2) rfl ?_
  refine g_iconst (v := nI 3) hc (by decide) dX5_isBoard_2 (n := 3) rfl ?_
  refine g_callS (rest := []) (As := [.int x, .int (nI 0), .int (nI 3)]) (cells' := 0) (slots' := 0) hc (c_X5_in_n κ _ x (nI 0) (nI 3) (in_n1 hx1)) q_X5_in k_ml_RX5_35 rfl rfl (jn_ix (wr := []) [] [] rfl rfl rfl rfl (by decide)) ⟨⟨by decide, by decide⟩, by decide, by decide⟩ (Nat.le_of_ble_eq_true rfl) rfl rfl dX5_isBoard_3 (n := 6) rfl (fun vv ww hp => ?_)
  obtain ⟨rr, rfl, rfl, rfl⟩ := hp
  refine ⟨_, rfl, ?_⟩
  refine g_ws (ws' := []) rfl ?_
  refine g_st (st' := [.int (nI 0)]) rfl ?_
  refine hret.2.1 _ _ _ _ _ _ _ rfl rfl (by decide) (by decide) dX5_isBoard_6 ?_
  exact ⟨_, rfl, rfl, rfl⟩
set_option maxHeartbeats 1000000 in
set_option maxRecDepth 100000 in
theorem c_X5_bentCards (κ : Kp) (l : Launch) (m : Nat → Nat) (n : Nat) (ln : Nat) (z : Nat → Nat)  : CT κ l yX5_bentCards cX5_bentCards 3 (some .int) 0 0 0 0 [.ref (m 0)] [(m 0, .inr (5, [.ref (m 1), .ref (m 2), .ref (m 3), .int (nI n), .ref (m 4), .ref (m 5), .ref (m 6), .int (nI ln), .ref (m 7), .ref (m 8)])), (m 1, aI κ 333 z)] (PI (fun rr ww => rr = (nI (nbt z)) ∧ ww = [(m 0, .inr (5, [.ref (m 1), .ref (m 2), .ref (m 3), .int (nI n), .ref (m 4), .ref (m 5), .ref (m 6), .int (nI ln), .ref (m 7), .ref (m 8)])), (m 1, aI κ 333 z)])) := by
  refine CT.go (plainFor_of_name (by decide)) (Nat.le_of_ble_eq_true rfl) ?_
  intro Γ A Q hl hc hret
  subst hl
  have hc : Cx κ Γ A cX5_bentCards 3 RX5 "bentCards" (some .int) { frames := 0, cells := 0, slots := 0, locals := 0 } := hc
  refine g_lv (lv' := [(0, .ref (m 0))]) rfl ?_
  refine g_iconst (v := nI 0) hc (by decide) dX5_bentCards_0 (n := 1) rfl ?_
  refine g_istore_n (lv2 := [(0, .ref (m 0)), (1, .int (nI 0))]) hc rfl (by decide) [1, 0] rfl rfl dX5_bentCards_1 (n := 2) rfl ?_
  refine g_iconst (v := nI 0) hc (by decide) dX5_bentCards_2 (n := 3) rfl ?_
  refine g_istore_n (lv2 := [(0, .ref (m 0)), (1, .int (nI 0)), (2, .int (nI 0))]) hc rfl (by decide) [1, 2, 0] rfl rfl dX5_bentCards_3 (n := 4) rfl ?_
  have L_1 : ∀ (fuel : Nat) (i : Nat) (s : Nat), (i ≤ 52) → (s = sm (fun k => z (52 + k)) i) → 52 - i < fuel → G κ Γ A 3 0 0 Q [(m 0, .inr (5, [.ref (m 1), .ref (m 2), .ref (m 3), .int (nI n), .ref (m 4), .ref (m 5), .ref (m 6), .int (nI ln), .ref (m 7), .ref (m 8)])), (m 1, aI κ 333 z)] 4 [(0, .ref (m 0)), (1, .int (nI s)), (2, .int (nI i))] [] := by
    intro fuel
    induction fuel with
    | zero => intro i s hi hs h; exact absurd h (Nat.not_lt_zero _)
    | succ fuel ih_2 =>
      intro i s hi hs hn_3
      refine g_iload_n hc 2 rfl rfl dX5_bentCards_4 (n := 5) rfl ?_
      refine g_bipush (v := nI 52) hc (by decide) dX5_bentCards_5 (n := 7) rfl ?_
      refine n_icmp_ge hc (by omega) (by omega) dX5_bentCards_7 (tgt := 28) (by decide) (n := 10) rfl (fun c_4 => ?_) (fun c_4 => ?_)
      · skip
        refine g_iload_n hc 1 rfl rfl dX5_bentCards_28 (n := 29) rfl ?_
        refine hret.1 _ _ _ _ _ _ rfl (by decide) (by decide) dX5_bentCards_29 ?_
        exact ⟨_, rfl, (by have e9 : i = 52 := (by omega); subst e9; rw [hs]; rfl), rfl⟩
      · skip
        refine g_iload_n hc 1 rfl rfl dX5_bentCards_10 (n := 11) rfl ?_
        refine g_aload_n hc 0 rfl rfl dX5_bentCards_11 (n := 12) rfl ?_
        refine g_getf hc 0 rfl vw_5 inX5 0 (by decide) k_fl_RX5_7 rfl rfl dX5_bentCards_12 (n := 15) rfl ?_
        refine g_bipush (v := nI 52) hc (by decide) dX5_bentCards_15 (n := 17) rfl ?_
        refine g_iload_n hc 2 rfl rfl dX5_bentCards_17 (n := 18) rfl ?_
        refine n_iadd (v := 52 + i) hc rfl dX5_bentCards_18 (n := 19) rfl ?_
        refine n_iald (v := z (52 + i)) hc 1 rfl (by omega) (by decide) rfl dX5_bentCards_19 (n := 20) rfl ?_
        refine n_iadd (v := s + (z (52 + i))) hc rfl dX5_bentCards_20 (n := 21) rfl ?_
        refine g_istore_n (lv2 := [(0, .ref (m 0)), (1, .int (nI (s + (z (52 + i))))), (2, .int (nI i))]) hc rfl (by decide) [1, 0, 2] rfl rfl dX5_bentCards_21 (n := 22) rfl ?_
        refine n_iinc (v := i + 1) (zk := 1) (lv2 := [(0, .ref (m 0)), (1, .int (nI (s + (z (52 + i))))), (2, .int (nI (i + 1)))]) hc 2 rfl (by decide) rfl (by decide) [1, 2, 0] rfl rfl dX5_bentCards_22 (n := 25) rfl ?_
        refine g_goto (n := 4) hc dX5_bentCards_25 (by decide) ?_
        exact ih_2 (i + 1) (s + (z (52 + i))) (by omega) (by rw [sm_s, ← hs]) (by omega)
  exact L_1 _ 0 0 (by omega) (rfl) (Nat.lt_succ_self _)
set_option maxHeartbeats 1000000 in
set_option maxRecDepth 100000 in
theorem c_X5_boardsOf (κ : Kp) (l : Launch) (m : Nat → Nat) (n : Nat) (ln : Nat) (z : Nat → Nat) (pl : Nat) (hpl : pl ≤ 328) : CT κ l yX5_boardsOf cX5_boardsOf 4 (some .int) 0 0 0 0 [.ref (m 0), .int (nI pl)] [(m 0, .inr (5, [.ref (m 1), .ref (m 2), .ref (m 3), .int (nI n), .ref (m 4), .ref (m 5), .ref (m 6), .int (nI ln), .ref (m 7), .ref (m 8)])), (m 1, aI κ 333 z)] (PI (fun rr ww => rr = (nI (sm (fun k => z (pl + k)) 4)) ∧ ww = [(m 0, .inr (5, [.ref (m 1), .ref (m 2), .ref (m 3), .int (nI n), .ref (m 4), .ref (m 5), .ref (m 6), .int (nI ln), .ref (m 7), .ref (m 8)])), (m 1, aI κ 333 z)])) := by
  refine CT.go (plainFor_of_name (by decide)) (Nat.le_of_ble_eq_true rfl) ?_
  intro Γ A Q hl hc hret
  subst hl
  have hc : Cx κ Γ A cX5_boardsOf 4 RX5 "boardsOf" (some .int) { frames := 0, cells := 0, slots := 0, locals := 0 } := hc
  refine g_lv (lv' := [(0, .ref (m 0)), (1, .int (nI pl))]) rfl ?_
  refine g_iconst (v := nI 0) hc (by decide) dX5_boardsOf_0 (n := 1) rfl ?_
  refine g_istore_n (lv2 := [(0, .ref (m 0)), (1, .int (nI pl)), (2, .int (nI 0))]) hc rfl (by decide) [1, 2, 0] rfl rfl dX5_boardsOf_1 (n := 2) rfl ?_
  refine g_iconst (v := nI 0) hc (by decide) dX5_boardsOf_2 (n := 3) rfl ?_
  refine g_istore_n (lv2 := [(0, .ref (m 0)), (1, .int (nI pl)), (2, .int (nI 0)), (3, .int (nI 0))]) hc rfl (by decide) [1, 2, 3, 0] rfl rfl dX5_boardsOf_3 (n := 4) rfl ?_
  have L_1 : ∀ (fuel : Nat) (i : Nat) (s : Nat), (i ≤ 4) → (s = sm (fun k => z (pl + k)) i) → 4 - i < fuel → G κ Γ A 4 0 0 Q [(m 0, .inr (5, [.ref (m 1), .ref (m 2), .ref (m 3), .int (nI n), .ref (m 4), .ref (m 5), .ref (m 6), .int (nI ln), .ref (m 7), .ref (m 8)])), (m 1, aI κ 333 z)] 4 [(0, .ref (m 0)), (1, .int (nI pl)), (2, .int (nI s)), (3, .int (nI i))] [] := by
    intro fuel
    induction fuel with
    | zero => intro i s hi hs h; exact absurd h (Nat.not_lt_zero _)
    | succ fuel ih_2 =>
      intro i s hi hs hn_3
      refine g_iload_n hc 3 rfl rfl dX5_boardsOf_4 (n := 5) rfl ?_
      refine g_iconst (v := nI 4) hc (by decide) dX5_boardsOf_5 (n := 6) rfl ?_
      refine n_icmp_ge hc (by omega) (by omega) dX5_boardsOf_6 (tgt := 26) (by decide) (n := 9) rfl (fun c_4 => ?_) (fun c_4 => ?_)
      · skip
        refine g_iload_n hc 2 rfl rfl dX5_boardsOf_26 (n := 27) rfl ?_
        refine hret.1 _ _ _ _ _ _ rfl (by decide) (by decide) dX5_boardsOf_27 ?_
        exact ⟨_, rfl, (by have e9 : i = 4 := (by omega); subst e9; rw [hs]), rfl⟩
      · skip
        refine g_iload_n hc 2 rfl rfl dX5_boardsOf_9 (n := 10) rfl ?_
        refine g_aload_n hc 0 rfl rfl dX5_boardsOf_10 (n := 11) rfl ?_
        refine g_getf hc 0 rfl vw_5 inX5 0 (by decide) k_fl_RX5_7 rfl rfl dX5_boardsOf_11 (n := 14) rfl ?_
        refine g_iload_n hc 1 rfl rfl dX5_boardsOf_14 (n := 15) rfl ?_
        refine g_iload_n hc 3 rfl rfl dX5_boardsOf_15 (n := 16) rfl ?_
        refine n_iadd (v := pl + i) hc rfl dX5_boardsOf_16 (n := 17) rfl ?_
        refine n_iald (v := z (pl + i)) hc 1 rfl (by omega) (by decide) rfl dX5_boardsOf_17 (n := 18) rfl ?_
        refine n_iadd (v := s + (z (pl + i))) hc rfl dX5_boardsOf_18 (n := 19) rfl ?_
        refine g_istore_n (lv2 := [(0, .ref (m 0)), (1, .int (nI pl)), (2, .int (nI (s + (z (pl + i))))), (3, .int (nI i))]) hc rfl (by decide) [1, 2, 0, 3] rfl rfl dX5_boardsOf_19 (n := 20) rfl ?_
        refine n_iinc (v := i + 1) (zk := 1) (lv2 := [(0, .ref (m 0)), (1, .int (nI pl)), (2, .int (nI (s + (z (pl + i))))), (3, .int (nI (i + 1)))]) hc 3 rfl (by decide) rfl (by decide) [1, 2, 3, 0] rfl rfl dX5_boardsOf_20 (n := 23) rfl ?_
        refine g_goto (n := 4) hc dX5_boardsOf_23 (by decide) ?_
        exact ih_2 (i + 1) (s + (z (pl + i))) (by omega) (by rw [sm_s, ← hs]) (by omega)
  exact L_1 _ 0 0 (by omega) (rfl) (Nat.lt_succ_self _)
set_option maxHeartbeats 1000000 in
set_option maxRecDepth 100000 in
theorem c_X5_putAside (κ : Kp) (l : Launch) (m : Nat → Nat) (n : Nat) (ln : Nat) (z : Nat → Nat) (y : Nat → Nat)  : CT κ l yX5_putAside cX5_putAside 2 none 0 0 0 0 [.ref (m 0)] [(m 0, .inr (5, [.ref (m 1), .ref (m 2), .ref (m 3), .int (nI n), .ref (m 4), .ref (m 5), .ref (m 6), .int (nI ln), .ref (m 7), .ref (m 8)])), (m 1, aI κ 333 z), (m 2, aI κ 333 y)] (PV (fun ww => ww = [(m 0, .inr (5, [.ref (m 1), .ref (m 2), .ref (m 3), .int (nI n), .ref (m 4), .ref (m 5), .ref (m 6), .int (nI ln), .ref (m 7), .ref (m 8)])), (m 1, aI κ 333 z), (m 2, aI κ 333 z)])) := by
  refine CT.go (plainFor_of_name (by decide)) (Nat.le_of_ble_eq_true rfl) ?_
  intro Γ A Q hl hc hret
  subst hl
  have hc : Cx κ Γ A cX5_putAside 2 RX5 "putAside" none { frames := 0, cells := 0, slots := 0, locals := 0 } := hc
  refine g_lv (lv' := [(0, .ref (m 0))]) rfl ?_
  refine g_iconst (v := nI 0) hc (by decide) dX5_putAside_0 (n := 1) rfl ?_
  refine g_istore_n (lv2 := [(0, .ref (m 0)), (1, .int (nI 0))]) hc rfl (by decide) [1, 0] rfl rfl dX5_putAside_1 (n := 2) rfl ?_
  have L_1 : ∀ (fuel : Nat) (i : Nat) (g : Nat → Nat), (i ≤ 333) → (∀ k, k < i → g k = z k) → 333 - i < fuel → G κ Γ A 2 0 0 Q [(m 0, .inr (5, [.ref (m 1), .ref (m 2), .ref (m 3), .int (nI n), .ref (m 4), .ref (m 5), .ref (m 6), .int (nI ln), .ref (m 7), .ref (m 8)])), (m 1, aI κ 333 z), (m 2, aI κ 333 g)] 2 [(0, .ref (m 0)), (1, .int (nI i))] [] := by
    intro fuel
    induction fuel with
    | zero => intro i g hi hg h; exact absurd h (Nat.not_lt_zero _)
    | succ fuel ih_2 =>
      intro i g hi hg hn_3
      refine g_iload_n hc 1 rfl rfl dX5_putAside_2 (n := 3) rfl ?_
      refine g_sipush (v := nI 333) hc (by decide) dX5_putAside_3 (n := 6) rfl ?_
      refine n_icmp_ge hc (by omega) (by omega) dX5_putAside_6 (tgt := 27) (by decide) (n := 9) rfl (fun c_4 => ?_) (fun c_4 => ?_)
      · skip
        refine g_arr (ws' := [(m 0, .inr (5, [.ref (m 1), .ref (m 2), .ref (m 3), .int (nI n), .ref (m 4), .ref (m 5), .ref (m 6), .int (nI ln), .ref (m 7), .ref (m 8)])), (m 1, aI κ 333 z), (m 2, aI κ 333 z)]) (f := g) (g := z) 2 rfl (fun k hk => hg k (by omega)) rfl ?_
        refine hret.2.2.1 _ _ _ _ _ rfl (by decide) (by decide) dX5_putAside_27 ?_
        exact ⟨rfl, rfl⟩
      · skip
        refine g_aload_n hc 0 rfl rfl dX5_putAside_9 (n := 10) rfl ?_
        refine g_getf hc 0 rfl vw_5 inX5 1 (by decide) k_fl_RX5_13 rfl rfl dX5_putAside_10 (n := 13) rfl ?_
        refine g_iload_n hc 1 rfl rfl dX5_putAside_13 (n := 14) rfl ?_
        refine g_aload_n hc 0 rfl rfl dX5_putAside_14 (n := 15) rfl ?_
        refine g_getf hc 0 rfl vw_5 inX5 0 (by decide) k_fl_RX5_7 rfl rfl dX5_putAside_15 (n := 18) rfl ?_
        refine g_iload_n hc 1 rfl rfl dX5_putAside_18 (n := 19) rfl ?_
        refine n_iald (v := z i) hc 1 rfl (by omega) (by decide) rfl dX5_putAside_19 (n := 20) rfl ?_
        refine n_iast (ws' := [(m 0, .inr (5, [.ref (m 1), .ref (m 2), .ref (m 3), .int (nI n), .ref (m 4), .ref (m 5), .ref (m 6), .int (nI ln), .ref (m 7), .ref (m 8)])), (m 1, aI κ 333 z), (m 2, aI κ 333 (va_up g i (z i)))]) hc 2 rfl (by omega) (by decide) rfl dX5_putAside_20 (n := 21) rfl ?_
        refine n_iinc (v := i + 1) (zk := 1) (lv2 := [(0, .ref (m 0)), (1, .int (nI (i + 1)))]) hc 1 rfl (by decide) rfl (by decide) [1, 0] rfl rfl dX5_putAside_21 (n := 24) rfl ?_
        refine g_goto (n := 2) hc dX5_putAside_24 (by decide) ?_
        exact ih_2 (i + 1) (va_up g i (z i)) (by omega) (fun k hk => (Nat.lt_succ_iff_lt_or_eq.mp hk).elim (fun q => (va_up_ne _ _ (by omega)).trans (hg k q)) (fun q => by subst q; exact va_up_self _ _ _)) (by omega)
  exact L_1 _ 0 y (by omega) (fun k hk => absurd hk (Nat.not_lt_zero _)) (Nat.lt_succ_self _)
set_option maxHeartbeats 1000000 in
set_option maxRecDepth 100000 in
theorem c_X5_putBack (κ : Kp) (l : Launch) (m : Nat → Nat) (n : Nat) (ln : Nat) (z : Nat → Nat) (y : Nat → Nat)  : CT κ l yX5_putBack cX5_putBack 2 none 0 0 0 0 [.ref (m 0)] [(m 0, .inr (5, [.ref (m 1), .ref (m 2), .ref (m 3), .int (nI n), .ref (m 4), .ref (m 5), .ref (m 6), .int (nI ln), .ref (m 7), .ref (m 8)])), (m 1, aI κ 333 z), (m 2, aI κ 333 y)] (PV (fun ww => ww = [(m 0, .inr (5, [.ref (m 1), .ref (m 2), .ref (m 3), .int (nI n), .ref (m 4), .ref (m 5), .ref (m 6), .int (nI ln), .ref (m 7), .ref (m 8)])), (m 1, aI κ 333 y), (m 2, aI κ 333 y)])) := by
  refine CT.go (plainFor_of_name (by decide)) (Nat.le_of_ble_eq_true rfl) ?_
  intro Γ A Q hl hc hret
  subst hl
  have hc : Cx κ Γ A cX5_putBack 2 RX5 "putBack" none { frames := 0, cells := 0, slots := 0, locals := 0 } := hc
  refine g_lv (lv' := [(0, .ref (m 0))]) rfl ?_
  refine g_iconst (v := nI 0) hc (by decide) dX5_putBack_0 (n := 1) rfl ?_
  refine g_istore_n (lv2 := [(0, .ref (m 0)), (1, .int (nI 0))]) hc rfl (by decide) [1, 0] rfl rfl dX5_putBack_1 (n := 2) rfl ?_
  have L_1 : ∀ (fuel : Nat) (i : Nat) (g : Nat → Nat), (i ≤ 333) → (∀ k, k < i → g k = y k) → 333 - i < fuel → G κ Γ A 2 0 0 Q [(m 0, .inr (5, [.ref (m 1), .ref (m 2), .ref (m 3), .int (nI n), .ref (m 4), .ref (m 5), .ref (m 6), .int (nI ln), .ref (m 7), .ref (m 8)])), (m 1, aI κ 333 g), (m 2, aI κ 333 y)] 2 [(0, .ref (m 0)), (1, .int (nI i))] [] := by
    intro fuel
    induction fuel with
    | zero => intro i g hi hg h; exact absurd h (Nat.not_lt_zero _)
    | succ fuel ih_2 =>
      intro i g hi hg hn_3
      refine g_iload_n hc 1 rfl rfl dX5_putBack_2 (n := 3) rfl ?_
      refine g_sipush (v := nI 333) hc (by decide) dX5_putBack_3 (n := 6) rfl ?_
      refine n_icmp_ge hc (by omega) (by omega) dX5_putBack_6 (tgt := 27) (by decide) (n := 9) rfl (fun c_4 => ?_) (fun c_4 => ?_)
      · skip
        refine g_arr (ws' := [(m 0, .inr (5, [.ref (m 1), .ref (m 2), .ref (m 3), .int (nI n), .ref (m 4), .ref (m 5), .ref (m 6), .int (nI ln), .ref (m 7), .ref (m 8)])), (m 1, aI κ 333 y), (m 2, aI κ 333 y)]) (f := g) (g := y) 1 rfl (fun k hk => hg k (by omega)) rfl ?_
        refine hret.2.2.1 _ _ _ _ _ rfl (by decide) (by decide) dX5_putBack_27 ?_
        exact ⟨rfl, rfl⟩
      · skip
        refine g_aload_n hc 0 rfl rfl dX5_putBack_9 (n := 10) rfl ?_
        refine g_getf hc 0 rfl vw_5 inX5 0 (by decide) k_fl_RX5_7 rfl rfl dX5_putBack_10 (n := 13) rfl ?_
        refine g_iload_n hc 1 rfl rfl dX5_putBack_13 (n := 14) rfl ?_
        refine g_aload_n hc 0 rfl rfl dX5_putBack_14 (n := 15) rfl ?_
        refine g_getf hc 0 rfl vw_5 inX5 1 (by decide) k_fl_RX5_13 rfl rfl dX5_putBack_15 (n := 18) rfl ?_
        refine g_iload_n hc 1 rfl rfl dX5_putBack_18 (n := 19) rfl ?_
        refine n_iald (v := y i) hc 2 rfl (by omega) (by decide) rfl dX5_putBack_19 (n := 20) rfl ?_
        refine n_iast (ws' := [(m 0, .inr (5, [.ref (m 1), .ref (m 2), .ref (m 3), .int (nI n), .ref (m 4), .ref (m 5), .ref (m 6), .int (nI ln), .ref (m 7), .ref (m 8)])), (m 1, aI κ 333 (va_up g i (y i))), (m 2, aI κ 333 y)]) hc 1 rfl (by omega) (by decide) rfl dX5_putBack_20 (n := 21) rfl ?_
        refine n_iinc (v := i + 1) (zk := 1) (lv2 := [(0, .ref (m 0)), (1, .int (nI (i + 1)))]) hc 1 rfl (by decide) rfl (by decide) [1, 0] rfl rfl dX5_putBack_21 (n := 24) rfl ?_
        refine g_goto (n := 2) hc dX5_putBack_24 (by decide) ?_
        exact ih_2 (i + 1) (va_up g i (y i)) (by omega) (fun k hk => (Nat.lt_succ_iff_lt_or_eq.mp hk).elim (fun q => (va_up_ne _ _ (by omega)).trans (hg k q)) (fun q => by subst q; exact va_up_self _ _ _)) (by omega)
  exact L_1 _ 0 z (by omega) (fun k hk => absurd hk (Nat.not_lt_zero _)) (Nat.lt_succ_self _)
set_option maxHeartbeats 1000000 in
set_option maxRecDepth 100000 in
theorem c_X5_draw (κ : Kp) (l : Launch) (m : Nat → Nat) (n : Nat) (ln : Nat) (z : Nat → Nat) (d : Nat) (hx : z 326 < 2 ^ 31) (hd : 0 < d) (hd2 : d < 2 ^ 31) : CT κ l yX5_draw cX5_draw 2 (some .int) 0 0 0 0 [.ref (m 0), .int (nI d)] [(m 0, .inr (5, [.ref (m 1), .ref (m 2), .ref (m 3), .int (nI n), .ref (m 4), .ref (m 5), .ref (m 6), .int (nI ln), .ref (m 7), .ref (m 8)])), (m 1, aI κ 333 z)] (PI (fun rr ww => rr = (nI (dv (nx (z 326)) d)) ∧ ww = [(m 0, .inr (5, [.ref (m 1), .ref (m 2), .ref (m 3), .int (nI n), .ref (m 4), .ref (m 5), .ref (m 6), .int (nI ln), .ref (m 7), .ref (m 8)])), (m 1, aI κ 333 (va_up z 326 (nx (z 326))))])) := by
  refine CT.go (plainFor_of_name (by decide)) (Nat.le_of_ble_eq_true rfl) ?_
  intro Γ A Q hl hc hret
  subst hl
  have hc : Cx κ Γ A cX5_draw 2 RX5 "draw" (some .int) { frames := 0, cells := 0, slots := 0, locals := 0 } := hc
  refine g_lv (lv' := [(0, .ref (m 0)), (1, .int (nI d))]) rfl ?_
  have hnx := nx_lt (z 326)
  refine g_aload_n hc 0 rfl rfl dX5_draw_0 (n := 1) rfl ?_
  refine g_getf hc 0 rfl vw_5 inX5 0 (by decide) k_fl_RX5_7 rfl rfl dX5_draw_1 (n := 4) rfl ?_
  refine g_sipush (v := nI 326) hc (by decide) dX5_draw_4 (n := 7) rfl ?_
  refine g_aload_n hc 0 rfl rfl dX5_draw_7 (n := 8) rfl ?_
  refine g_getf hc 0 rfl vw_5 inX5 0 (by decide) k_fl_RX5_7 rfl rfl dX5_draw_8 (n := 11) rfl ?_
  refine g_sipush (v := nI 326) hc (by decide) dX5_draw_11 (n := 14) rfl ?_
  refine n_iald (v := z 326) hc 1 rfl (by omega) (by decide) rfl dX5_draw_14 (n := 15) rfl ?_
  refine n_i2l hc (by omega) dX5_draw_15 (n := 16) rfl ?_
  refine g_ldc2 (v2 := lN 1103515245) hc k_kc_RX5_50 (by decide) dX5_draw_16 (n := 19) rfl ?_
  refine n_lmul (v := (z 326) * 1103515245) hc rfl dX5_draw_19 (n := 20) rfl ?_
  refine g_ldc2 (v2 := lN 12345) hc k_kc_RX5_52 (by decide) dX5_draw_20 (n := 23) rfl ?_
  refine n_ladd (v := ((z 326) * 1103515245) + 12345) hc rfl dX5_draw_23 (n := 24) rfl ?_
  refine g_ldc2 (v2 := lN 2147483648) hc k_kc_RX5_54 (by decide) dX5_draw_24 (n := 27) rfl ?_
  refine n_lrem (v := (((z 326) * 1103515245) + 12345) % 2147483648) hc (by omega) (by decide) (by decide) rfl dX5_draw_27 (n := 28) rfl ?_
  refine n_l2i hc dX5_draw_28 (n := 29) rfl ?_
  refine n_iast (ws' := [(m 0, .inr (5, [.ref (m 1), .ref (m 2), .ref (m 3), .int (nI n), .ref (m 4), .ref (m 5), .ref (m 6), .int (nI ln), .ref (m 7), .ref (m 8)])), (m 1, aI κ 333 (va_up z 326 ((((z 326) * 1103515245) + 12345) % 2147483648)))]) hc 1 rfl (by omega) (by decide) rfl dX5_draw_29 (n := 30) rfl ?_
  refine g_aload_n hc 0 rfl rfl dX5_draw_30 (n := 31) rfl ?_
  refine g_getf hc 0 rfl vw_5 inX5 0 (by decide) k_fl_RX5_7 rfl rfl dX5_draw_31 (n := 34) rfl ?_
  refine g_sipush (v := nI 326) hc (by decide) dX5_draw_34 (n := 37) rfl ?_
  refine n_iald (v := nx (z 326)) hc 1 rfl (by omega) (by decide) (va_up_self _ _ _) dX5_draw_37 (n := 38) rfl ?_
  refine g_ldc (v2 := nI 65536) hc k_kc_RX5_56 (by decide) dX5_draw_38 (n := 40) rfl ?_
  refine n_idiv (v := (nx (z 326)) / 65536) hc (by omega) (by decide) (by decide) rfl dX5_draw_40 (n := 41) rfl ?_
  refine g_iload_n hc 1 rfl rfl dX5_draw_41 (n := 42) rfl ?_
  refine n_irem (v := ((nx (z 326)) / 65536) % d) hc (by omega) (by omega) (by omega) rfl dX5_draw_42 (n := 43) rfl ?_
  refine hret.1 _ _ _ _ _ _ rfl (by decide) (by decide) dX5_draw_43 ?_
  exact ⟨_, rfl, rfl, rfl⟩
set_option maxHeartbeats 1000000 in
set_option maxRecDepth 100000 in
theorem c_X5_record (κ : Kp) (l : Launch) (m : Nat → Nat) (n : Nat) (ln : Nat) (z : Nat → Nat) (g : Nat → Nat) (hz : Nat → Nat → Nat) (hn : n ≤ 4) (hg : HB n g hz) : CT κ l yX5_record cX5_record 2 none 0 0 0 0 [.ref (m 0)] [(m 0, .inr (5, [.ref (m 1), .ref (m 2), .ref (m 3), .int (nI n), .ref (m 4), .ref (m 5), .ref (m 6), .int (nI ln), .ref (m 7), .ref (m 8)])), (m 1, aI κ 333 z), (m 3, aI κ 1332 g)] (PV (fun ww => ∃ g2 : Nat → Nat, (HB (rn n) g2 (rh n hz z)) ∧ ww = [(m 0, .inr (5, [.ref (m 1), .ref (m 2), .ref (m 3), .int (nI (rn n)), .ref (m 4), .ref (m 5), .ref (m 6), .int (nI ln), .ref (m 7), .ref (m 8)])), (m 1, aI κ 333 z), (m 3, aI κ 1332 g2)])) := by
  refine CT.go (plainFor_of_name (by decide)) (Nat.le_of_ble_eq_true rfl) ?_
  intro Γ A Q hl hc hret
  subst hl
  have hc : Cx κ Γ A cX5_record 2 RX5 "record" none { frames := 0, cells := 0, slots := 0, locals := 0 } := hc
  refine g_lv (lv' := [(0, .ref (m 0))]) rfl ?_
  by_cases hn4 : n = 4
  · subst hn4
    refine g_aload_n hc 0 rfl rfl dX5_record_0 (n := 1) rfl ?_
    refine g_getf hc 0 rfl vw_5 inX5 3 (by decide) k_fl_RX5_39 rfl rfl dX5_record_1 (n := 4) rfl ?_
    refine g_iconst (v := nI 4) hc (by decide) dX5_record_4 (n := 5) rfl ?_
    refine n_icmp_ne hc (by omega) (by omega) dX5_record_5 (tgt := 49) (by decide) (n := 8) rfl (fun c_1 => by (exfalso; revert c_1; first | omega | decide)) (fun c_1 => ?_)
    refine g_iconst (v := nI 0) hc (by decide) dX5_record_8 (n := 9) rfl ?_
    refine g_istore_n (lv2 := [(0, .ref (m 0)), (1, .int (nI 0))]) hc rfl (by decide) [1, 0] rfl rfl dX5_record_9 (n := 10) rfl ?_
    have L_2 : ∀ (fuel : Nat) (i : Nat) (g1 : Nat → Nat), (i ≤ 999) → (∀ k, k < i → g1 k = g (333 + k)) → (∀ k, i ≤ k → g1 k = g k) → 999 - i < fuel → G κ Γ A 2 0 0 Q [(m 0, .inr (5, [.ref (m 1), .ref (m 2), .ref (m 3), .int (nI 4), .ref (m 4), .ref (m 5), .ref (m 6), .int (nI ln), .ref (m 7), .ref (m 8)])), (m 1, aI κ 333 z), (m 3, aI κ 1332 g1)] 10 [(0, .ref (m 0)), (1, .int (nI i))] [] := by
      intro fuel
      induction fuel with
      | zero => intro i g1 hi ha hb h; exact absurd h (Nat.not_lt_zero _)
      | succ fuel ih_3 =>
        intro i g1 hi ha hb hn_4
        refine g_iload_n hc 1 rfl rfl dX5_record_10 (n := 11) rfl ?_
        refine g_sipush (v := nI 999) hc (by decide) dX5_record_11 (n := 14) rfl ?_
        refine n_icmp_ge hc (by omega) (by omega) dX5_record_14 (tgt := 39) (by decide) (n := 17) rfl (fun c_5 => ?_) (fun c_5 => ?_)
        · skip
          refine g_aload_n hc 0 rfl rfl dX5_record_39 (n := 40) rfl ?_
          refine g_dup hc rfl dX5_record_40 (n := 41) rfl ?_
          refine g_getf hc 0 rfl vw_5 inX5 3 (by decide) k_fl_RX5_39 rfl rfl dX5_record_41 (n := 44) rfl ?_
          refine g_iconst (v := nI 1) hc (by decide) dX5_record_44 (n := 45) rfl ?_
          refine n_isub (v := 3) hc (by omega) rfl dX5_record_45 (n := 46) rfl ?_
          refine g_putf (ws' := [(m 0, .inr (5, [.ref (m 1), .ref (m 2), .ref (m 3), .int (nI 3), .ref (m 4), .ref (m 5), .ref (m 6), .int (nI ln), .ref (m 7), .ref (m 8)])), (m 1, aI κ 333 z), (m 3, aI κ 1332 g1)]) hc 0 rfl vw_5 inX5 tyX5_ok nmX5 3 (by decide) k_fl_RX5_39 rfl rfl rfl rfl (Nat.le_of_ble_eq_true rfl) rfl dX5_record_46 (n := 49) rfl ?_
          refine g_iconst (v := nI 0) hc (by decide) dX5_record_49 (n := 50) rfl ?_
          refine g_istore_n (lv2 := [(0, .ref (m 0)), (1, .int (nI 0))]) hc rfl (by decide) [1, 0] rfl rfl dX5_record_50 (n := 51) rfl ?_
          have L_6 : ∀ (fuel : Nat) (i : Nat) (g2 : Nat → Nat), (i ≤ 333) → (∀ k, k < i → g2 (999 + k) = z k) → (∀ k, k < 999 → g2 k = g (333 + k)) → 333 - i < fuel → G κ Γ A 2 0 0 Q [(m 0, .inr (5, [.ref (m 1), .ref (m 2), .ref (m 3), .int (nI 3), .ref (m 4), .ref (m 5), .ref (m 6), .int (nI ln), .ref (m 7), .ref (m 8)])), (m 1, aI κ 333 z), (m 3, aI κ 1332 g2)] 51 [(0, .ref (m 0)), (1, .int (nI i))] [] := by
            intro fuel
            induction fuel with
            | zero => intro i g2 hi2 h1 h2 h; exact absurd h (Nat.not_lt_zero _)
            | succ fuel ih_7 =>
              intro i g2 hi2 h1 h2 hn_8
              refine g_iload_n hc 1 rfl rfl dX5_record_51 (n := 52) rfl ?_
              refine g_sipush (v := nI 333) hc (by decide) dX5_record_52 (n := 55) rfl ?_
              refine n_icmp_ge hc (by omega) (by omega) dX5_record_55 (tgt := 85) (by decide) (n := 58) rfl (fun c_9 => ?_) (fun c_9 => ?_)
              · skip
                refine g_aload_n hc 0 rfl rfl dX5_record_85 (n := 86) rfl ?_
                refine g_dup hc rfl dX5_record_86 (n := 87) rfl ?_
                refine g_getf hc 0 rfl vw_5 inX5 3 (by decide) k_fl_RX5_39 rfl rfl dX5_record_87 (n := 90) rfl ?_
                refine g_iconst (v := nI 1) hc (by decide) dX5_record_90 (n := 91) rfl ?_
                refine n_iadd (v := 4) hc rfl dX5_record_91 (n := 92) rfl ?_
                refine g_putf (ws' := [(m 0, .inr (5, [.ref (m 1), .ref (m 2), .ref (m 3), .int (nI 4), .ref (m 4), .ref (m 5), .ref (m 6), .int (nI ln), .ref (m 7), .ref (m 8)])), (m 1, aI κ 333 z), (m 3, aI κ 1332 g2)]) hc 0 rfl vw_5 inX5 tyX5_ok nmX5 3 (by decide) k_fl_RX5_39 rfl rfl rfl rfl (Nat.le_of_ble_eq_true rfl) rfl dX5_record_92 (n := 95) rfl ?_
                refine g_ws (ws' := [(m 0, .inr (5, [.ref (m 1), .ref (m 2), .ref (m 3), .int (nI (rn 4)), .ref (m 4), .ref (m 5), .ref (m 6), .int (nI ln), .ref (m 7), .ref (m 8)])), (m 1, aI κ 333 z), (m 3, aI κ 1332 g2)]) rfl ?_
                refine hret.2.2.1 _ _ _ _ _ rfl (by decide) (by decide) dX5_record_95 ?_
                exact ⟨rfl, g2, (hb_4 hg (fun k hk => h1 k (by omega)) h2), rfl⟩
              · skip
                refine g_aload_n hc 0 rfl rfl dX5_record_58 (n := 59) rfl ?_
                refine g_getf hc 0 rfl vw_5 inX5 2 (by decide) k_fl_RX5_16 rfl rfl dX5_record_59 (n := 62) rfl ?_
                refine g_sipush (v := nI 333) hc (by decide) dX5_record_62 (n := 65) rfl ?_
                refine g_aload_n hc 0 rfl rfl dX5_record_65 (n := 66) rfl ?_
                refine g_getf hc 0 rfl vw_5 inX5 3 (by decide) k_fl_RX5_39 rfl rfl dX5_record_66 (n := 69) rfl ?_
                refine n_imul (v := 999) hc rfl dX5_record_69 (n := 70) rfl ?_
                refine g_iload_n hc 1 rfl rfl dX5_record_70 (n := 71) rfl ?_
                refine n_iadd (v := 999 + i) hc rfl dX5_record_71 (n := 72) rfl ?_
                refine g_aload_n hc 0 rfl rfl dX5_record_72 (n := 73) rfl ?_
                refine g_getf hc 0 rfl vw_5 inX5 0 (by decide) k_fl_RX5_7 rfl rfl dX5_record_73 (n := 76) rfl ?_
                refine g_iload_n hc 1 rfl rfl dX5_record_76 (n := 77) rfl ?_
                refine n_iald (v := z i) hc 1 rfl (by omega) (by decide) rfl dX5_record_77 (n := 78) rfl ?_
                refine n_iast (ws' := [(m 0, .inr (5, [.ref (m 1), .ref (m 2), .ref (m 3), .int (nI 3), .ref (m 4), .ref (m 5), .ref (m 6), .int (nI ln), .ref (m 7), .ref (m 8)])), (m 1, aI κ 333 z), (m 3, aI κ 1332 (va_up g2 (999 + i) (z i)))]) hc 2 rfl (by omega) (by decide) rfl dX5_record_78 (n := 79) rfl ?_
                refine n_iinc (v := i + 1) (zk := 1) (lv2 := [(0, .ref (m 0)), (1, .int (nI (i + 1)))]) hc 1 rfl (by decide) rfl (by decide) [1, 0] rfl rfl dX5_record_79 (n := 82) rfl ?_
                refine g_goto (n := 51) hc dX5_record_82 (by decide) ?_
                exact ih_7 (i + 1) (va_up g2 (999 + i) (z i)) (by omega) (fun k hk => (Nat.lt_succ_iff_lt_or_eq.mp hk).elim (fun q => (va_up_ne _ _ (by omega)).trans (h1 k q)) (fun q => by subst q; exact va_up_self _ _ _)) (fun k hk => (va_up_ne _ _ (by omega)).trans (h2 k (by omega))) (by omega)
          exact L_6 _ 0 g1 (by omega) (fun k hk => absurd hk (Nat.not_lt_zero _)) (fun k hk => ha k (by omega)) (Nat.lt_succ_self _)
        · skip
          refine g_aload_n hc 0 rfl rfl dX5_record_17 (n := 18) rfl ?_
          refine g_getf hc 0 rfl vw_5 inX5 2 (by decide) k_fl_RX5_16 rfl rfl dX5_record_18 (n := 21) rfl ?_
          refine g_iload_n hc 1 rfl rfl dX5_record_21 (n := 22) rfl ?_
          refine g_aload_n hc 0 rfl rfl dX5_record_22 (n := 23) rfl ?_
          refine g_getf hc 0 rfl vw_5 inX5 2 (by decide) k_fl_RX5_16 rfl rfl dX5_record_23 (n := 26) rfl ?_
          refine g_sipush (v := nI 333) hc (by decide) dX5_record_26 (n := 29) rfl ?_
          refine g_iload_n hc 1 rfl rfl dX5_record_29 (n := 30) rfl ?_
          refine n_iadd (v := 333 + i) hc rfl dX5_record_30 (n := 31) rfl ?_
          refine n_iald (v := g1 (333 + i)) hc 2 rfl (by omega) (by decide) rfl dX5_record_31 (n := 32) rfl ?_
          refine n_iast (ws' := [(m 0, .inr (5, [.ref (m 1), .ref (m 2), .ref (m 3), .int (nI 4), .ref (m 4), .ref (m 5), .ref (m 6), .int (nI ln), .ref (m 7), .ref (m 8)])), (m 1, aI κ 333 z), (m 3, aI κ 1332 (va_up g1 i (g1 (333 + i))))]) hc 2 rfl (by omega) (by decide) rfl dX5_record_32 (n := 33) rfl ?_
          refine n_iinc (v := i + 1) (zk := 1) (lv2 := [(0, .ref (m 0)), (1, .int (nI (i + 1)))]) hc 1 rfl (by decide) rfl (by decide) [1, 0] rfl rfl dX5_record_33 (n := 36) rfl ?_
          refine g_goto (n := 10) hc dX5_record_36 (by decide) ?_
          exact ih_3 (i + 1) (va_up g1 i (g1 (333 + i))) (by omega) (fun k hk => (Nat.lt_succ_iff_lt_or_eq.mp hk).elim (fun q => (va_up_ne _ _ (by omega)).trans (ha k q)) (fun q => by subst q; rw [va_up_self]; exact hb _ (by omega))) (fun k hk => (va_up_ne _ _ (by omega)).trans (hb k (by omega))) (by omega)
    exact L_2 _ 0 g (by omega) (fun k hk => absurd hk (Nat.not_lt_zero _)) (fun k hk => rfl) (Nat.lt_succ_self _)
  · skip
    refine g_aload_n hc 0 rfl rfl dX5_record_0 (n := 1) rfl ?_
    refine g_getf hc 0 rfl vw_5 inX5 3 (by decide) k_fl_RX5_39 rfl rfl dX5_record_1 (n := 4) rfl ?_
    refine g_iconst (v := nI 4) hc (by decide) dX5_record_4 (n := 5) rfl ?_
    refine n_icmp_ne hc (by omega) (by omega) dX5_record_5 (tgt := 49) (by decide) (n := 8) rfl (fun c_10 => ?_) (fun c_10 => by (exfalso; revert c_10; first | omega | decide))
    refine g_iconst (v := nI 0) hc (by decide) dX5_record_49 (n := 50) rfl ?_
    refine g_istore_n (lv2 := [(0, .ref (m 0)), (1, .int (nI 0))]) hc rfl (by decide) [1, 0] rfl rfl dX5_record_50 (n := 51) rfl ?_
    have L_11 : ∀ (fuel : Nat) (i : Nat) (g2 : Nat → Nat), (i ≤ 333) → (∀ k, k < i → g2 (333 * n + k) = z k) → (∀ k, k < 333 * n → g2 k = g k) → 333 - i < fuel → G κ Γ A 2 0 0 Q [(m 0, .inr (5, [.ref (m 1), .ref (m 2), .ref (m 3), .int (nI n), .ref (m 4), .ref (m 5), .ref (m 6), .int (nI ln), .ref (m 7), .ref (m 8)])), (m 1, aI κ 333 z), (m 3, aI κ 1332 g2)] 51 [(0, .ref (m 0)), (1, .int (nI i))] [] := by
      intro fuel
      induction fuel with
      | zero => intro i g2 hi2 h1 h2 h; exact absurd h (Nat.not_lt_zero _)
      | succ fuel ih_12 =>
        intro i g2 hi2 h1 h2 hn_13
        refine g_iload_n hc 1 rfl rfl dX5_record_51 (n := 52) rfl ?_
        refine g_sipush (v := nI 333) hc (by decide) dX5_record_52 (n := 55) rfl ?_
        refine n_icmp_ge hc (by omega) (by omega) dX5_record_55 (tgt := 85) (by decide) (n := 58) rfl (fun c_14 => ?_) (fun c_14 => ?_)
        · skip
          refine g_aload_n hc 0 rfl rfl dX5_record_85 (n := 86) rfl ?_
          refine g_dup hc rfl dX5_record_86 (n := 87) rfl ?_
          refine g_getf hc 0 rfl vw_5 inX5 3 (by decide) k_fl_RX5_39 rfl rfl dX5_record_87 (n := 90) rfl ?_
          refine g_iconst (v := nI 1) hc (by decide) dX5_record_90 (n := 91) rfl ?_
          refine n_iadd (v := n + 1) hc rfl dX5_record_91 (n := 92) rfl ?_
          refine g_putf (ws' := [(m 0, .inr (5, [.ref (m 1), .ref (m 2), .ref (m 3), .int (nI (n + 1)), .ref (m 4), .ref (m 5), .ref (m 6), .int (nI ln), .ref (m 7), .ref (m 8)])), (m 1, aI κ 333 z), (m 3, aI κ 1332 g2)]) hc 0 rfl vw_5 inX5 tyX5_ok nmX5 3 (by decide) k_fl_RX5_39 rfl rfl rfl rfl (Nat.le_of_ble_eq_true rfl) rfl dX5_record_92 (n := 95) rfl ?_
          refine g_ws (ws' := [(m 0, .inr (5, [.ref (m 1), .ref (m 2), .ref (m 3), .int (nI (rn n)), .ref (m 4), .ref (m 5), .ref (m 6), .int (nI ln), .ref (m 7), .ref (m 8)])), (m 1, aI κ 333 z), (m 3, aI κ 1332 g2)]) (by simp only [rn, if_pos, if_neg hn4]) ?_
          refine hret.2.2.1 _ _ _ _ _ rfl (by decide) (by decide) dX5_record_95 ?_
          exact ⟨rfl, g2, (hb_lt (by omega) hg (fun k hk => h1 k (by omega)) h2), rfl⟩
        · skip
          refine g_aload_n hc 0 rfl rfl dX5_record_58 (n := 59) rfl ?_
          refine g_getf hc 0 rfl vw_5 inX5 2 (by decide) k_fl_RX5_16 rfl rfl dX5_record_59 (n := 62) rfl ?_
          refine g_sipush (v := nI 333) hc (by decide) dX5_record_62 (n := 65) rfl ?_
          refine g_aload_n hc 0 rfl rfl dX5_record_65 (n := 66) rfl ?_
          refine g_getf hc 0 rfl vw_5 inX5 3 (by decide) k_fl_RX5_39 rfl rfl dX5_record_66 (n := 69) rfl ?_
          refine n_imul (v := 333 * n) hc rfl dX5_record_69 (n := 70) rfl ?_
          refine g_iload_n hc 1 rfl rfl dX5_record_70 (n := 71) rfl ?_
          refine n_iadd (v := (333 * n) + i) hc rfl dX5_record_71 (n := 72) rfl ?_
          refine g_aload_n hc 0 rfl rfl dX5_record_72 (n := 73) rfl ?_
          refine g_getf hc 0 rfl vw_5 inX5 0 (by decide) k_fl_RX5_7 rfl rfl dX5_record_73 (n := 76) rfl ?_
          refine g_iload_n hc 1 rfl rfl dX5_record_76 (n := 77) rfl ?_
          refine n_iald (v := z i) hc 1 rfl (by omega) (by decide) rfl dX5_record_77 (n := 78) rfl ?_
          refine n_iast (ws' := [(m 0, .inr (5, [.ref (m 1), .ref (m 2), .ref (m 3), .int (nI n), .ref (m 4), .ref (m 5), .ref (m 6), .int (nI ln), .ref (m 7), .ref (m 8)])), (m 1, aI κ 333 z), (m 3, aI κ 1332 (va_up g2 ((333 * n) + i) (z i)))]) hc 2 rfl (by omega) (by decide) rfl dX5_record_78 (n := 79) rfl ?_
          refine n_iinc (v := i + 1) (zk := 1) (lv2 := [(0, .ref (m 0)), (1, .int (nI (i + 1)))]) hc 1 rfl (by decide) rfl (by decide) [1, 0] rfl rfl dX5_record_79 (n := 82) rfl ?_
          refine g_goto (n := 51) hc dX5_record_82 (by decide) ?_
          exact ih_12 (i + 1) (va_up g2 ((333 * n) + i) (z i)) (by omega) (fun k hk => (Nat.lt_succ_iff_lt_or_eq.mp hk).elim (fun q => (va_up_ne _ _ (by omega)).trans (h1 k q)) (fun q => by subst q; exact va_up_self _ _ _)) (fun k hk => (va_up_ne _ _ (by omega)).trans (h2 k (by omega))) (by omega)
    exact L_11 _ 0 g (by omega) (fun k hk => absurd hk (Nat.not_lt_zero _)) (fun k hk => rfl) (Nat.lt_succ_self _)
set_option maxHeartbeats 1000000 in
set_option maxRecDepth 100000 in
theorem c_X5_undo (κ : Kp) (l : Launch) (m : Nat → Nat) (n : Nat) (ln : Nat) (z : Nat → Nat) (g : Nat → Nat) (hz : Nat → Nat → Nat) (hn : n ≤ 4) (hg : HB n g hz) : CT κ l yX5_undo cX5_undo 2 (some .int) 0 0 0 0 [.ref (m 0)] [(m 0, .inr (5, [.ref (m 1), .ref (m 2), .ref (m 3), .int (nI n), .ref (m 4), .ref (m 5), .ref (m 6), .int (nI ln), .ref (m 7), .ref (m 8)])), (m 1, aI κ 333 z), (m 3, aI κ 1332 g)] (PI (fun rr ww => rr = (nI (a_undo n)) ∧ ww = [(m 0, .inr (5, [.ref (m 1), .ref (m 2), .ref (m 3), .int (nI (u_n n)), .ref (m 4), .ref (m 5), .ref (m 6), .int (nI ln), .ref (m 7), .ref (m 8)])), (m 1, aI κ 333 (u_z n hz z)), (m 3, aI κ 1332 g)])) := by
  refine CT.go (plainFor_of_name (by decide)) (Nat.le_of_ble_eq_true rfl) ?_
  intro Γ A Q hl hc hret
  subst hl
  have hc : Cx κ Γ A cX5_undo 2 RX5 "undo" (some .int) { frames := 0, cells := 0, slots := 0, locals := 0 } := hc
  refine g_lv (lv' := [(0, .ref (m 0))]) rfl ?_
  rcases Nat.eq_zero_or_pos n with hn0 | hn0
  · subst hn0
    refine g_aload_n hc 0 rfl rfl dX5_undo_0 (n := 1) rfl ?_
    refine g_getf hc 0 rfl vw_5 inX5 3 (by decide) k_fl_RX5_39 rfl rfl dX5_undo_1 (n := 4) rfl ?_
    refine n_if_ne hc (by omega) dX5_undo_4 (tgt := 10) (by decide) (n := 7) rfl (fun c_1 => by (exfalso; revert c_1; first | omega | decide)) (fun c_1 => ?_)
    refine g_bipush (v := nI 4294967291) hc (by decide) dX5_undo_7 (n := 9) rfl ?_
    refine hret.1 _ _ _ _ _ _ rfl (by decide) (by decide) dX5_undo_9 ?_
    exact ⟨_, rfl, rfl, rfl⟩
  · obtain ⟨t, rfl⟩ : ∃ t, n = t + 1 := ⟨n - 1, by omega⟩
    refine g_aload_n hc 0 rfl rfl dX5_undo_0 (n := 1) rfl ?_
    refine g_getf hc 0 rfl vw_5 inX5 3 (by decide) k_fl_RX5_39 rfl rfl dX5_undo_1 (n := 4) rfl ?_
    refine n_if_ne hc (by omega) dX5_undo_4 (tgt := 10) (by decide) (n := 7) rfl (fun c_2 => ?_) (fun c_2 => by (exfalso; revert c_2; first | omega | decide))
    refine g_aload_n hc 0 rfl rfl dX5_undo_10 (n := 11) rfl ?_
    refine g_dup hc rfl dX5_undo_11 (n := 12) rfl ?_
    refine g_getf hc 0 rfl vw_5 inX5 3 (by decide) k_fl_RX5_39 rfl rfl dX5_undo_12 (n := 15) rfl ?_
    refine g_iconst (v := nI 1) hc (by decide) dX5_undo_15 (n := 16) rfl ?_
    refine n_isub (v := t) hc (by omega) rfl dX5_undo_16 (n := 17) rfl ?_
    refine g_putf (ws' := [(m 0, .inr (5, [.ref (m 1), .ref (m 2), .ref (m 3), .int (nI t), .ref (m 4), .ref (m 5), .ref (m 6), .int (nI ln), .ref (m 7), .ref (m 8)])), (m 1, aI κ 333 z), (m 3, aI κ 1332 g)]) hc 0 rfl vw_5 inX5 tyX5_ok nmX5 3 (by decide) k_fl_RX5_39 rfl rfl rfl rfl (Nat.le_of_ble_eq_true rfl) rfl dX5_undo_17 (n := 20) rfl ?_
    refine g_iconst (v := nI 0) hc (by decide) dX5_undo_20 (n := 21) rfl ?_
    refine g_istore_n (lv2 := [(0, .ref (m 0)), (1, .int (nI 0))]) hc rfl (by decide) [1, 0] rfl rfl dX5_undo_21 (n := 22) rfl ?_
    have L_3 : ∀ (fuel : Nat) (i : Nat) (y : Nat → Nat), (i ≤ 333) → (∀ k, k < i → y k = g (333 * t + k)) → 333 - i < fuel → G κ Γ A 2 0 0 Q [(m 0, .inr (5, [.ref (m 1), .ref (m 2), .ref (m 3), .int (nI t), .ref (m 4), .ref (m 5), .ref (m 6), .int (nI ln), .ref (m 7), .ref (m 8)])), (m 1, aI κ 333 y), (m 3, aI κ 1332 g)] 22 [(0, .ref (m 0)), (1, .int (nI i))] [] := by
      intro fuel
      induction fuel with
      | zero => intro i y hi ha h; exact absurd h (Nat.not_lt_zero _)
      | succ fuel ih_4 =>
        intro i y hi ha hn_5
        refine g_iload_n hc 1 rfl rfl dX5_undo_22 (n := 23) rfl ?_
        refine g_sipush (v := nI 333) hc (by decide) dX5_undo_23 (n := 26) rfl ?_
        refine n_icmp_ge hc (by omega) (by omega) dX5_undo_26 (tgt := 56) (by decide) (n := 29) rfl (fun c_6 => ?_) (fun c_6 => ?_)
        · skip
          refine g_aload_n hc 0 rfl rfl dX5_undo_56 (n := 57) rfl ?_
          refine g_getf hc 0 rfl vw_5 inX5 3 (by decide) k_fl_RX5_39 rfl rfl dX5_undo_57 (n := 60) rfl ?_
          refine g_ws (ws' := [(m 0, .inr (5, [.ref (m 1), .ref (m 2), .ref (m 3), .int (nI (u_n (t + 1))), .ref (m 4), .ref (m 5), .ref (m 6), .int (nI ln), .ref (m 7), .ref (m 8)])), (m 1, aI κ 333 y), (m 3, aI κ 1332 g)]) rfl ?_
          refine g_arr (ws' := [(m 0, .inr (5, [.ref (m 1), .ref (m 2), .ref (m 3), .int (nI (u_n (t + 1))), .ref (m 4), .ref (m 5), .ref (m 6), .int (nI ln), .ref (m 7), .ref (m 8)])), (m 1, aI κ 333 (u_z (t + 1) hz z)), (m 3, aI κ 1332 g)]) (f := y) (g := u_z (t + 1) hz z) 1 rfl (fun k hk => by rw [ha k (by omega)]; exact hg t (by omega) k hk) rfl ?_
          refine hret.1 _ _ _ _ _ _ rfl (by decide) (by decide) dX5_undo_60 ?_
          exact ⟨_, rfl, rfl, rfl⟩
        · skip
          refine g_aload_n hc 0 rfl rfl dX5_undo_29 (n := 30) rfl ?_
          refine g_getf hc 0 rfl vw_5 inX5 0 (by decide) k_fl_RX5_7 rfl rfl dX5_undo_30 (n := 33) rfl ?_
          refine g_iload_n hc 1 rfl rfl dX5_undo_33 (n := 34) rfl ?_
          refine g_aload_n hc 0 rfl rfl dX5_undo_34 (n := 35) rfl ?_
          refine g_getf hc 0 rfl vw_5 inX5 2 (by decide) k_fl_RX5_16 rfl rfl dX5_undo_35 (n := 38) rfl ?_
          refine g_sipush (v := nI 333) hc (by decide) dX5_undo_38 (n := 41) rfl ?_
          refine g_aload_n hc 0 rfl rfl dX5_undo_41 (n := 42) rfl ?_
          refine g_getf hc 0 rfl vw_5 inX5 3 (by decide) k_fl_RX5_39 rfl rfl dX5_undo_42 (n := 45) rfl ?_
          refine n_imul (v := 333 * t) hc rfl dX5_undo_45 (n := 46) rfl ?_
          refine g_iload_n hc 1 rfl rfl dX5_undo_46 (n := 47) rfl ?_
          refine n_iadd (v := (333 * t) + i) hc rfl dX5_undo_47 (n := 48) rfl ?_
          refine n_iald (v := g ((333 * t) + i)) hc 2 rfl (by omega) (by decide) rfl dX5_undo_48 (n := 49) rfl ?_
          refine n_iast (ws' := [(m 0, .inr (5, [.ref (m 1), .ref (m 2), .ref (m 3), .int (nI t), .ref (m 4), .ref (m 5), .ref (m 6), .int (nI ln), .ref (m 7), .ref (m 8)])), (m 1, aI κ 333 (va_up y i (g ((333 * t) + i)))), (m 3, aI κ 1332 g)]) hc 1 rfl (by omega) (by decide) rfl dX5_undo_49 (n := 50) rfl ?_
          refine n_iinc (v := i + 1) (zk := 1) (lv2 := [(0, .ref (m 0)), (1, .int (nI (i + 1)))]) hc 1 rfl (by decide) rfl (by decide) [1, 0] rfl rfl dX5_undo_50 (n := 53) rfl ?_
          refine g_goto (n := 22) hc dX5_undo_53 (by decide) ?_
          exact ih_4 (i + 1) (va_up y i (g ((333 * t) + i))) (by omega) (fun k hk => (Nat.lt_succ_iff_lt_or_eq.mp hk).elim (fun q => (va_up_ne _ _ (by omega)).trans (ha k q)) (fun q => by subst q; exact va_up_self _ _ _)) (by omega)
    exact L_3 _ 0 z (by omega) (fun k hk => absurd hk (Nat.not_lt_zero _)) (Nat.lt_succ_self _)
set_option maxHeartbeats 1000000 in
set_option maxRecDepth 100000 in
theorem c_X5_save0 (κ : Kp) (l : Launch) (m : Nat → Nat) (n : Nat) (ln : Nat) (z : Nat → Nat) (s : Nat → Nat) (bb : Bool) (bs : Bool)  : CT κ l yX5_save cX5_save 3 (some .int) 1 23 0 0 [.ref (m 0), .int (nI 0)] [(m 0, .inr (5, [.ref (m 1), .ref (m 2), .ref (m 3), .int (nI n), .ref (m 4), .ref (m 5), .ref (m 6), .int (nI ln), .ref (m 7), .ref (m 8)])), (m 1, aI κ 333 z), (m 4, aI κ 666 s), (m 5, aZ κ 2 (sb bs bb))] (PI (fun rr ww => ∃ s2 : Nat → Nat, (∀ k, k < 333 → s2 (0 + k) = z k) ∧ (∀ k, (k < 0 ∨ 333 ≤ k) → s2 k = s k) ∧ rr = (nI (nbd z)) ∧ ww = [(m 0, .inr (5, [.ref (m 1), .ref (m 2), .ref (m 3), .int (nI n), .ref (m 4), .ref (m 5), .ref (m 6), .int (nI ln), .ref (m 7), .ref (m 8)])), (m 1, aI κ 333 z), (m 4, aI κ 666 s2), (m 5, aZ κ 2 (sb true bb))])) := by
  refine CT.go (plainFor_of_name (by decide)) (Nat.le_of_ble_eq_true rfl) ?_
  intro Γ A Q hl hc hret
  subst hl
  have hc : Cx κ Γ A cX5_save 3 RX5 "save" (some .int) { frames := 1, cells := 0, slots := 0, locals := 23 } := hc
  refine g_lv (lv' := [(0, .ref (m 0)), (1, .int (nI 0))]) rfl ?_
  refine g_iload_n hc 1 rfl rfl dX5_save_0 (n := 1) rfl ?_
  refine g_iconst (v := nI 0) hc (by decide) dX5_save_1 (n := 2) rfl ?_
  refine g_iconst (v := nI 1) hc (by decide) dX5_save_2 (n := 3) rfl ?_
  refine g_callS (rest := []) (As := [.int (nI 0), .int (nI 0), .int (nI 1)]) (cells' := 0) (slots' := 0) hc (c_X5_in_y κ _ (nI 0) (nI 0) (nI 1) (by decide)) q_X5_in k_ml_RX5_35 rfl rfl (jn_ix (wr := [(m 0, .inr (5, [.ref (m 1), .ref (m 2), .ref (m 3), .int (nI n), .ref (m 4), .ref (m 5), .ref (m 6), .int (nI ln), .ref (m 7), .ref (m 8)])), (m 1, aI κ 333 z), (m 4, aI κ 666 s), (m 5, aZ κ 2 (sb bs bb))]) [] [0, 1, 2, 3] rfl rfl rfl rfl (by decide)) ⟨⟨by decide, by decide⟩, by decide, by decide⟩ (Nat.le_of_ble_eq_true rfl) rfl rfl dX5_save_3 (n := 6) rfl (fun vv ww hp => ?_)
  obtain ⟨rr, rfl, rfl, rfl⟩ := hp
  refine ⟨_, rfl, ?_⟩
  refine g_ws (ws' := [(m 0, .inr (5, [.ref (m 1), .ref (m 2), .ref (m 3), .int (nI n), .ref (m 4), .ref (m 5), .ref (m 6), .int (nI ln), .ref (m 7), .ref (m 8)])), (m 1, aI κ 333 z), (m 4, aI κ 666 s), (m 5, aZ κ 2 (sb bs bb))]) rfl ?_
  refine g_st (st' := [.int (nI 1)]) rfl ?_
  refine n_if_ne hc (by omega) dX5_save_6 (tgt := 12) (by decide) (n := 9) rfl (fun c_1 => ?_) (fun c_1 => by (exfalso; revert c_1; first | omega | decide))
  refine g_iconst (v := nI 0) hc (by decide) dX5_save_12 (n := 13) rfl ?_
  refine g_istore_n (lv2 := [(0, .ref (m 0)), (1, .int (nI 0)), (2, .int (nI 0))]) hc rfl (by decide) [1, 2, 0] rfl rfl dX5_save_13 (n := 14) rfl ?_
  have L_2 : ∀ (fuel : Nat) (i : Nat) (s2 : Nat → Nat), (i ≤ 333) → (∀ k, k < i → s2 (0 + k) = z k) → (∀ k, (k < 0 ∨ 333 ≤ k) → s2 k = s k) → 333 - i < fuel → G κ Γ A 3 0 0 Q [(m 0, .inr (5, [.ref (m 1), .ref (m 2), .ref (m 3), .int (nI n), .ref (m 4), .ref (m 5), .ref (m 6), .int (nI ln), .ref (m 7), .ref (m 8)])), (m 1, aI κ 333 z), (m 4, aI κ 666 s2), (m 5, aZ κ 2 (sb bs bb))] 14 [(0, .ref (m 0)), (1, .int (nI 0)), (2, .int (nI i))] [] := by
    intro fuel
    induction fuel with
    | zero => intro i s2 hi h1 h2 h; exact absurd h (Nat.not_lt_zero _)
    | succ fuel ih_3 =>
      intro i s2 hi h1 h2 hn_4
      refine g_iload_n hc 2 rfl rfl dX5_save_14 (n := 15) rfl ?_
      refine g_sipush (v := nI 333) hc (by decide) dX5_save_15 (n := 18) rfl ?_
      refine n_icmp_ge hc (by omega) (by omega) dX5_save_18 (tgt := 45) (by decide) (n := 21) rfl (fun c_5 => ?_) (fun c_5 => ?_)
      · skip
        refine g_aload_n hc 0 rfl rfl dX5_save_45 (n := 46) rfl ?_
        refine g_getf hc 0 rfl vw_5 inX5 5 (by decide) k_fl_RX5_22 rfl rfl dX5_save_46 (n := 49) rfl ?_
        refine g_iload_n hc 1 rfl rfl dX5_save_49 (n := 50) rfl ?_
        refine g_iconst (v := nI 1) hc (by decide) dX5_save_50 (n := 51) rfl ?_
        refine n_zast (ws' := [(m 0, .inr (5, [.ref (m 1), .ref (m 2), .ref (m 3), .int (nI n), .ref (m 4), .ref (m 5), .ref (m 6), .int (nI ln), .ref (m 7), .ref (m 8)])), (m 1, aI κ 333 z), (m 4, aI κ 666 s2), (m 5, aZ κ 2 (va_up (sb bs bb) 0 1))]) hc 3 rfl (by omega) (by decide) (by omega) rfl dX5_save_51 (n := 52) rfl ?_
        refine g_aload_n hc 0 rfl rfl dX5_save_52 (n := 53) rfl ?_
        refine g_sipush (v := nI 312) hc (by decide) dX5_save_53 (n := 56) rfl ?_
        refine g_callV (rest := []) (As := [.int (nI 312)]) (cells' := 0) (slots' := 0) hc (c_X5_boardsOf κ _ m n ln z 312 (by decide)) q_X5_boardsOf k_ml_RX5_43 rfl rfl (jn_ix (wr := [(m 4, aI κ 666 s2), (m 5, aZ κ 2 (va_up (sb bs bb) 0 1))]) [0, 1] [2, 3] rfl rfl rfl rfl (by decide)) (qr := 0) rfl vw_5 ⟨⟨by decide, by decide⟩, by decide, by decide⟩ (Nat.le_of_ble_eq_true rfl) rfl rfl dX5_save_56 (n := 59) rfl (fun vv ww hp => ?_)
        obtain ⟨rr, rfl, rfl, rfl⟩ := hp
        refine ⟨_, rfl, ?_⟩
        refine g_ws (ws' := [(m 4, aI κ 666 s2), (m 5, aZ κ 2 (va_up (sb bs bb) 0 1)), (m 0, .inr (5, [.ref (m 1), .ref (m 2), .ref (m 3), .int (nI n), .ref (m 4), .ref (m 5), .ref (m 6), .int (nI ln), .ref (m 7), .ref (m 8)])), (m 1, aI κ 333 z)]) rfl ?_
        refine g_st (st' := [.int (nI (sm (fun k => z (312 + k)) 4))]) rfl ?_
        refine g_sub (ws' := [(m 0, .inr (5, [.ref (m 1), .ref (m 2), .ref (m 3), .int (nI n), .ref (m 4), .ref (m 5), .ref (m 6), .int (nI ln), .ref (m 7), .ref (m 8)])), (m 1, aI κ 333 z), (m 4, aI κ 666 s2), (m 5, aZ κ 2 (va_up (sb bs bb) 0 1))]) [2, 3, 0, 1] rfl rfl ?_
        refine g_arr (ws' := [(m 0, .inr (5, [.ref (m 1), .ref (m 2), .ref (m 3), .int (nI n), .ref (m 4), .ref (m 5), .ref (m 6), .int (nI ln), .ref (m 7), .ref (m 8)])), (m 1, aI κ 333 z), (m 4, aI κ 666 s2), (m 5, aZ κ 2 (sb true bb))]) (f := va_up (sb bs bb) 0 1) (g := sb true bb) 3 rfl (fun k hk => by match k, hk with | 0, _ => rfl | 1, _ => rfl) rfl ?_
        refine hret.1 _ _ _ _ _ _ rfl (by decide) (by decide) dX5_save_59 ?_
        exact ⟨_, rfl, s2, (fun k hk => h1 k (by omega)), (h2), rfl, rfl⟩
      · skip
        refine g_aload_n hc 0 rfl rfl dX5_save_21 (n := 22) rfl ?_
        refine g_getf hc 0 rfl vw_5 inX5 4 (by decide) k_fl_RX5_19 rfl rfl dX5_save_22 (n := 25) rfl ?_
        refine g_sipush (v := nI 333) hc (by decide) dX5_save_25 (n := 28) rfl ?_
        refine g_iload_n hc 1 rfl rfl dX5_save_28 (n := 29) rfl ?_
        refine n_imul (v := 0) hc rfl dX5_save_29 (n := 30) rfl ?_
        refine g_iload_n hc 2 rfl rfl dX5_save_30 (n := 31) rfl ?_
        refine n_iadd (v := 0 + i) hc rfl dX5_save_31 (n := 32) rfl ?_
        refine g_aload_n hc 0 rfl rfl dX5_save_32 (n := 33) rfl ?_
        refine g_getf hc 0 rfl vw_5 inX5 0 (by decide) k_fl_RX5_7 rfl rfl dX5_save_33 (n := 36) rfl ?_
        refine g_iload_n hc 2 rfl rfl dX5_save_36 (n := 37) rfl ?_
        refine n_iald (v := z i) hc 1 rfl (by omega) (by decide) rfl dX5_save_37 (n := 38) rfl ?_
        refine n_iast (ws' := [(m 0, .inr (5, [.ref (m 1), .ref (m 2), .ref (m 3), .int (nI n), .ref (m 4), .ref (m 5), .ref (m 6), .int (nI ln), .ref (m 7), .ref (m 8)])), (m 1, aI κ 333 z), (m 4, aI κ 666 (va_up s2 (0 + i) (z i))), (m 5, aZ κ 2 (sb bs bb))]) hc 2 rfl (by omega) (by decide) rfl dX5_save_38 (n := 39) rfl ?_
        refine n_iinc (v := i + 1) (zk := 1) (lv2 := [(0, .ref (m 0)), (1, .int (nI 0)), (2, .int (nI (i + 1)))]) hc 2 rfl (by decide) rfl (by decide) [1, 2, 0] rfl rfl dX5_save_39 (n := 42) rfl ?_
        refine g_goto (n := 14) hc dX5_save_42 (by decide) ?_
        exact ih_3 (i + 1) (va_up s2 (0 + i) (z i)) (by omega) (fun k hk => (Nat.lt_succ_iff_lt_or_eq.mp hk).elim (fun q => (va_up_ne _ _ (by omega)).trans (h1 k q)) (fun q => by subst q; exact va_up_self _ _ _)) (fun k hk => (va_up_ne _ _ (by omega)).trans (h2 k (by omega))) (by omega)
  exact L_2 _ 0 s (by omega) (fun k hk => absurd hk (Nat.not_lt_zero _)) (fun k hk => rfl) (Nat.lt_succ_self _)
set_option maxHeartbeats 1000000 in
set_option maxRecDepth 100000 in
theorem c_X5_restore0_ok (κ : Kp) (l : Launch) (m : Nat → Nat) (n : Nat) (ln : Nat) (z : Nat → Nat) (g : Nat → Nat) (hz : Nat → Nat → Nat) (s : Nat → Nat) (bb : Bool) (y : Nat → Nat) (hn : n ≤ 4) (hg : HB n g hz) (hsy : ∀ k, k < 333 → s (0 + k) = y k) : CT κ l yX5_restore cX5_restore 3 (some .int) 1 23 0 0 [.ref (m 0), .int (nI 0)] [(m 0, .inr (5, [.ref (m 1), .ref (m 2), .ref (m 3), .int (nI n), .ref (m 4), .ref (m 5), .ref (m 6), .int (nI ln), .ref (m 7), .ref (m 8)])), (m 1, aI κ 333 z), (m 3, aI κ 1332 g), (m 4, aI κ 666 s), (m 5, aZ κ 2 (sb true bb))] (PI (fun rr ww => ∃ g2 : Nat → Nat, (HB (rn n) g2 (rh n hz z)) ∧ rr = (nI (nbd y)) ∧ ww = [(m 0, .inr (5, [.ref (m 1), .ref (m 2), .ref (m 3), .int (nI (rn n)), .ref (m 4), .ref (m 5), .ref (m 6), .int (nI ln), .ref (m 7), .ref (m 8)])), (m 1, aI κ 333 y), (m 3, aI κ 1332 g2), (m 4, aI κ 666 s), (m 5, aZ κ 2 (sb true bb))])) := by
  refine CT.go (plainFor_of_name (by decide)) (Nat.le_of_ble_eq_true rfl) ?_
  intro Γ A Q hl hc hret
  subst hl
  have hc : Cx κ Γ A cX5_restore 3 RX5 "restore" (some .int) { frames := 1, cells := 0, slots := 0, locals := 23 } := hc
  refine g_lv (lv' := [(0, .ref (m 0)), (1, .int (nI 0))]) rfl ?_
  refine g_iload_n hc 1 rfl rfl dX5_restore_0 (n := 1) rfl ?_
  refine g_iconst (v := nI 0) hc (by decide) dX5_restore_1 (n := 2) rfl ?_
  refine g_iconst (v := nI 1) hc (by decide) dX5_restore_2 (n := 3) rfl ?_
  refine g_callS (rest := []) (As := [.int (nI 0), .int (nI 0), .int (nI 1)]) (cells' := 0) (slots' := 0) hc (c_X5_in_y κ _ (nI 0) (nI 0) (nI 1) (by decide)) q_X5_in k_ml_RX5_35 rfl rfl (jn_ix (wr := [(m 0, .inr (5, [.ref (m 1), .ref (m 2), .ref (m 3), .int (nI n), .ref (m 4), .ref (m 5), .ref (m 6), .int (nI ln), .ref (m 7), .ref (m 8)])), (m 1, aI κ 333 z), (m 3, aI κ 1332 g), (m 4, aI κ 666 s), (m 5, aZ κ 2 (sb true bb))]) [] [0, 1, 2, 3, 4] rfl rfl rfl rfl (by decide)) ⟨⟨by decide, by decide⟩, by decide, by decide⟩ (Nat.le_of_ble_eq_true rfl) rfl rfl dX5_restore_3 (n := 6) rfl (fun vv ww hp => ?_)
  obtain ⟨rr, rfl, rfl, rfl⟩ := hp
  refine ⟨_, rfl, ?_⟩
  refine g_ws (ws' := [(m 0, .inr (5, [.ref (m 1), .ref (m 2), .ref (m 3), .int (nI n), .ref (m 4), .ref (m 5), .ref (m 6), .int (nI ln), .ref (m 7), .ref (m 8)])), (m 1, aI κ 333 z), (m 3, aI κ 1332 g), (m 4, aI κ 666 s), (m 5, aZ κ 2 (sb true bb))]) rfl ?_
  refine g_st (st' := [.int (nI 1)]) rfl ?_
  refine n_if_ne hc (by omega) dX5_restore_6 (tgt := 12) (by decide) (n := 9) rfl (fun c_1 => ?_) (fun c_1 => by (exfalso; revert c_1; first | omega | decide))
  refine g_aload_n hc 0 rfl rfl dX5_restore_12 (n := 13) rfl ?_
  refine g_getf hc 0 rfl vw_5 inX5 5 (by decide) k_fl_RX5_22 rfl rfl dX5_restore_13 (n := 16) rfl ?_
  refine g_iload_n hc 1 rfl rfl dX5_restore_16 (n := 17) rfl ?_
  refine n_zald (v := 1) hc 4 rfl (by omega) (by decide) (rfl) dX5_restore_17 (n := 18) rfl ?_
  refine n_if_ne hc (by omega) dX5_restore_18 (tgt := 24) (by decide) (n := 21) rfl (fun c_2 => ?_) (fun c_2 => by (exfalso; revert c_2; first | omega | decide))
  refine g_aload_n hc 0 rfl rfl dX5_restore_24 (n := 25) rfl ?_
  refine g_callV (rest := []) (As := []) (cells' := 0) (slots' := 0) hc (c_X5_record κ _ m n ln z g hz hn hg) q_X5_record k_ml_RX5_47 rfl rfl (jn_ix (wr := [(m 4, aI κ 666 s), (m 5, aZ κ 2 (sb true bb))]) [0, 1, 2] [3, 4] rfl rfl rfl rfl (by decide)) (qr := 0) rfl vw_5 ⟨⟨by decide, by decide⟩, by decide, by decide⟩ (Nat.le_of_ble_eq_true rfl) rfl rfl dX5_restore_25 (n := 28) rfl (fun vv ww hp => ?_)
  obtain ⟨rfl, g2, hg2, rfl⟩ := hp
  refine ⟨_, rfl, ?_⟩
  refine g_ws (ws' := [(m 4, aI κ 666 s), (m 5, aZ κ 2 (sb true bb)), (m 0, .inr (5, [.ref (m 1), .ref (m 2), .ref (m 3), .int (nI (rn n)), .ref (m 4), .ref (m 5), .ref (m 6), .int (nI ln), .ref (m 7), .ref (m 8)])), (m 1, aI κ 333 z), (m 3, aI κ 1332 g2)]) rfl ?_
  refine g_st (st' := []) rfl ?_
  refine g_iconst (v := nI 0) hc (by decide) dX5_restore_28 (n := 29) rfl ?_
  refine g_istore_n (lv2 := [(0, .ref (m 0)), (1, .int (nI 0)), (2, .int (nI 0))]) hc rfl (by decide) [1, 2, 0] rfl rfl dX5_restore_29 (n := 30) rfl ?_
  have L_3 : ∀ (fuel : Nat) (i : Nat) (z2 : Nat → Nat), (i ≤ 333) → (∀ k, k < i → z2 k = s (0 + k)) → 333 - i < fuel → G κ Γ A 3 0 0 Q [(m 4, aI κ 666 s), (m 5, aZ κ 2 (sb true bb)), (m 0, .inr (5, [.ref (m 1), .ref (m 2), .ref (m 3), .int (nI (rn n)), .ref (m 4), .ref (m 5), .ref (m 6), .int (nI ln), .ref (m 7), .ref (m 8)])), (m 1, aI κ 333 z2), (m 3, aI κ 1332 g2)] 30 [(0, .ref (m 0)), (1, .int (nI 0)), (2, .int (nI i))] [] := by
    intro fuel
    induction fuel with
    | zero => intro i z2 hi ha h; exact absurd h (Nat.not_lt_zero _)
    | succ fuel ih_4 =>
      intro i z2 hi ha hn_5
      refine g_iload_n hc 2 rfl rfl dX5_restore_30 (n := 31) rfl ?_
      refine g_sipush (v := nI 333) hc (by decide) dX5_restore_31 (n := 34) rfl ?_
      refine n_icmp_ge hc (by omega) (by omega) dX5_restore_34 (tgt := 61) (by decide) (n := 37) rfl (fun c_6 => ?_) (fun c_6 => ?_)
      · skip
        refine g_arr (ws' := [(m 4, aI κ 666 s), (m 5, aZ κ 2 (sb true bb)), (m 0, .inr (5, [.ref (m 1), .ref (m 2), .ref (m 3), .int (nI (rn n)), .ref (m 4), .ref (m 5), .ref (m 6), .int (nI ln), .ref (m 7), .ref (m 8)])), (m 1, aI κ 333 y), (m 3, aI κ 1332 g2)]) (f := z2) (g := y) 3 rfl (fun k hk => by rw [ha k (by omega)]; exact hsy k hk) rfl ?_
        refine g_aload_n hc 0 rfl rfl dX5_restore_61 (n := 62) rfl ?_
        refine g_sipush (v := nI 312) hc (by decide) dX5_restore_62 (n := 65) rfl ?_
        refine g_callV (rest := []) (As := [.int (nI 312)]) (cells' := 0) (slots' := 0) hc (c_X5_boardsOf κ _ m (rn n) ln y 312 (by decide)) q_X5_boardsOf k_ml_RX5_43 rfl rfl (jn_ix (wr := [(m 4, aI κ 666 s), (m 5, aZ κ 2 (sb true bb)), (m 3, aI κ 1332 g2)]) [2, 3] [0, 1, 4] rfl rfl rfl rfl (by decide)) (qr := 2) rfl vw_5 ⟨⟨by decide, by decide⟩, by decide, by decide⟩ (Nat.le_of_ble_eq_true rfl) rfl rfl dX5_restore_65 (n := 68) rfl (fun vv ww hp => ?_)
        obtain ⟨rr, rfl, rfl, rfl⟩ := hp
        refine ⟨_, rfl, ?_⟩
        refine g_ws (ws' := [(m 4, aI κ 666 s), (m 5, aZ κ 2 (sb true bb)), (m 3, aI κ 1332 g2), (m 0, .inr (5, [.ref (m 1), .ref (m 2), .ref (m 3), .int (nI (rn n)), .ref (m 4), .ref (m 5), .ref (m 6), .int (nI ln), .ref (m 7), .ref (m 8)])), (m 1, aI κ 333 y)]) rfl ?_
        refine g_st (st' := [.int (nI (sm (fun k => y (312 + k)) 4))]) rfl ?_
        refine g_sub (ws' := [(m 0, .inr (5, [.ref (m 1), .ref (m 2), .ref (m 3), .int (nI (rn n)), .ref (m 4), .ref (m 5), .ref (m 6), .int (nI ln), .ref (m 7), .ref (m 8)])), (m 1, aI κ 333 y), (m 3, aI κ 1332 g2), (m 4, aI κ 666 s), (m 5, aZ κ 2 (sb true bb))]) [3, 4, 2, 0, 1] rfl rfl ?_
        refine hret.1 _ _ _ _ _ _ rfl (by decide) (by decide) dX5_restore_68 ?_
        exact ⟨_, rfl, g2, (by assumption), rfl, rfl⟩
      · skip
        refine g_aload_n hc 0 rfl rfl dX5_restore_37 (n := 38) rfl ?_
        refine g_getf hc 2 rfl vw_5 inX5 0 (by decide) k_fl_RX5_7 rfl rfl dX5_restore_38 (n := 41) rfl ?_
        refine g_iload_n hc 2 rfl rfl dX5_restore_41 (n := 42) rfl ?_
        refine g_aload_n hc 0 rfl rfl dX5_restore_42 (n := 43) rfl ?_
        refine g_getf hc 2 rfl vw_5 inX5 4 (by decide) k_fl_RX5_19 rfl rfl dX5_restore_43 (n := 46) rfl ?_
        refine g_sipush (v := nI 333) hc (by decide) dX5_restore_46 (n := 49) rfl ?_
        refine g_iload_n hc 1 rfl rfl dX5_restore_49 (n := 50) rfl ?_
        refine n_imul (v := 0) hc rfl dX5_restore_50 (n := 51) rfl ?_
        refine g_iload_n hc 2 rfl rfl dX5_restore_51 (n := 52) rfl ?_
        refine n_iadd (v := 0 + i) hc rfl dX5_restore_52 (n := 53) rfl ?_
        refine n_iald (v := s (0 + i)) hc 0 rfl (by omega) (by decide) rfl dX5_restore_53 (n := 54) rfl ?_
        refine n_iast (ws' := [(m 4, aI κ 666 s), (m 5, aZ κ 2 (sb true bb)), (m 0, .inr (5, [.ref (m 1), .ref (m 2), .ref (m 3), .int (nI (rn n)), .ref (m 4), .ref (m 5), .ref (m 6), .int (nI ln), .ref (m 7), .ref (m 8)])), (m 1, aI κ 333 (va_up z2 i (s (0 + i)))), (m 3, aI κ 1332 g2)]) hc 3 rfl (by omega) (by decide) rfl dX5_restore_54 (n := 55) rfl ?_
        refine n_iinc (v := i + 1) (zk := 1) (lv2 := [(0, .ref (m 0)), (1, .int (nI 0)), (2, .int (nI (i + 1)))]) hc 2 rfl (by decide) rfl (by decide) [1, 2, 0] rfl rfl dX5_restore_55 (n := 58) rfl ?_
        refine g_goto (n := 30) hc dX5_restore_58 (by decide) ?_
        exact ih_4 (i + 1) (va_up z2 i (s (0 + i))) (by omega) (fun k hk => (Nat.lt_succ_iff_lt_or_eq.mp hk).elim (fun q => (va_up_ne _ _ (by omega)).trans (ha k q)) (fun q => by subst q; exact va_up_self _ _ _)) (by omega)
  exact L_3 _ 0 z (by omega) (fun k hk => absurd hk (Nat.not_lt_zero _)) (Nat.lt_succ_self _)
set_option maxHeartbeats 1000000 in
set_option maxRecDepth 100000 in
theorem c_X5_restore0_no (κ : Kp) (l : Launch) (m : Nat → Nat) (n : Nat) (ln : Nat) (bb : Bool)  : CT κ l yX5_restore cX5_restore 3 (some .int) 1 22 0 0 [.ref (m 0), .int (nI 0)] [(m 0, .inr (5, [.ref (m 1), .ref (m 2), .ref (m 3), .int (nI n), .ref (m 4), .ref (m 5), .ref (m 6), .int (nI ln), .ref (m 7), .ref (m 8)])), (m 5, aZ κ 2 (sb false bb))] (PI (fun rr ww => rr = (nI 4294967291) ∧ ww = [(m 0, .inr (5, [.ref (m 1), .ref (m 2), .ref (m 3), .int (nI n), .ref (m 4), .ref (m 5), .ref (m 6), .int (nI ln), .ref (m 7), .ref (m 8)])), (m 5, aZ κ 2 (sb false bb))])) := by
  refine CT.go (plainFor_of_name (by decide)) (Nat.le_of_ble_eq_true rfl) ?_
  intro Γ A Q hl hc hret
  subst hl
  have hc : Cx κ Γ A cX5_restore 3 RX5 "restore" (some .int) { frames := 1, cells := 0, slots := 0, locals := 22 } := hc
  refine g_lv (lv' := [(0, .ref (m 0)), (1, .int (nI 0))]) rfl ?_
  refine g_iload_n hc 1 rfl rfl dX5_restore_0 (n := 1) rfl ?_
  refine g_iconst (v := nI 0) hc (by decide) dX5_restore_1 (n := 2) rfl ?_
  refine g_iconst (v := nI 1) hc (by decide) dX5_restore_2 (n := 3) rfl ?_
  refine g_callS (rest := []) (As := [.int (nI 0), .int (nI 0), .int (nI 1)]) (cells' := 0) (slots' := 0) hc (c_X5_in_y κ _ (nI 0) (nI 0) (nI 1) (by decide)) q_X5_in k_ml_RX5_35 rfl rfl (jn_ix (wr := [(m 0, .inr (5, [.ref (m 1), .ref (m 2), .ref (m 3), .int (nI n), .ref (m 4), .ref (m 5), .ref (m 6), .int (nI ln), .ref (m 7), .ref (m 8)])), (m 5, aZ κ 2 (sb false bb))]) [] [0, 1] rfl rfl rfl rfl (by decide)) ⟨⟨by decide, by decide⟩, by decide, by decide⟩ (Nat.le_of_ble_eq_true rfl) rfl rfl dX5_restore_3 (n := 6) rfl (fun vv ww hp => ?_)
  obtain ⟨rr, rfl, rfl, rfl⟩ := hp
  refine ⟨_, rfl, ?_⟩
  refine g_ws (ws' := [(m 0, .inr (5, [.ref (m 1), .ref (m 2), .ref (m 3), .int (nI n), .ref (m 4), .ref (m 5), .ref (m 6), .int (nI ln), .ref (m 7), .ref (m 8)])), (m 5, aZ κ 2 (sb false bb))]) rfl ?_
  refine g_st (st' := [.int (nI 1)]) rfl ?_
  refine n_if_ne hc (by omega) dX5_restore_6 (tgt := 12) (by decide) (n := 9) rfl (fun c_1 => ?_) (fun c_1 => by (exfalso; revert c_1; first | omega | decide))
  refine g_aload_n hc 0 rfl rfl dX5_restore_12 (n := 13) rfl ?_
  refine g_getf hc 0 rfl vw_5 inX5 5 (by decide) k_fl_RX5_22 rfl rfl dX5_restore_13 (n := 16) rfl ?_
  refine g_iload_n hc 1 rfl rfl dX5_restore_16 (n := 17) rfl ?_
  refine n_zald (v := 0) hc 1 rfl (by omega) (by decide) (rfl) dX5_restore_17 (n := 18) rfl ?_
  refine n_if_ne hc (by omega) dX5_restore_18 (tgt := 24) (by decide) (n := 21) rfl (fun c_2 => by (exfalso; revert c_2; first | omega | decide)) (fun c_2 => ?_)
  refine g_bipush (v := nI 4294967291) hc (by decide) dX5_restore_21 (n := 23) rfl ?_
  refine hret.1 _ _ _ _ _ _ rfl (by decide) (by decide) dX5_restore_23 ?_
  exact ⟨_, rfl, rfl, rfl⟩
set_option maxHeartbeats 1000000 in
set_option maxRecDepth 100000 in
theorem c_X5_save1 (κ : Kp) (l : Launch) (m : Nat → Nat) (n : Nat) (ln : Nat) (z : Nat → Nat) (s : Nat → Nat) (bb : Bool) (bs : Bool)  : CT κ l yX5_save cX5_save 3 (some .int) 1 23 0 0 [.ref (m 0), .int (nI 1)] [(m 0, .inr (5, [.ref (m 1), .ref (m 2), .ref (m 3), .int (nI n), .ref (m 4), .ref (m 5), .ref (m 6), .int (nI ln), .ref (m 7), .ref (m 8)])), (m 1, aI κ 333 z), (m 4, aI κ 666 s), (m 5, aZ κ 2 (sb bb bs))] (PI (fun rr ww => ∃ s2 : Nat → Nat, (∀ k, k < 333 → s2 (333 + k) = z k) ∧ (∀ k, (k < 333 ∨ 666 ≤ k) → s2 k = s k) ∧ rr = (nI (nbd z)) ∧ ww = [(m 0, .inr (5, [.ref (m 1), .ref (m 2), .ref (m 3), .int (nI n), .ref (m 4), .ref (m 5), .ref (m 6), .int (nI ln), .ref (m 7), .ref (m 8)])), (m 1, aI κ 333 z), (m 4, aI κ 666 s2), (m 5, aZ κ 2 (sb bb true))])) := by
  refine CT.go (plainFor_of_name (by decide)) (Nat.le_of_ble_eq_true rfl) ?_
  intro Γ A Q hl hc hret
  subst hl
  have hc : Cx κ Γ A cX5_save 3 RX5 "save" (some .int) { frames := 1, cells := 0, slots := 0, locals := 23 } := hc
  refine g_lv (lv' := [(0, .ref (m 0)), (1, .int (nI 1))]) rfl ?_
  refine g_iload_n hc 1 rfl rfl dX5_save_0 (n := 1) rfl ?_
  refine g_iconst (v := nI 0) hc (by decide) dX5_save_1 (n := 2) rfl ?_
  refine g_iconst (v := nI 1) hc (by decide) dX5_save_2 (n := 3) rfl ?_
  refine g_callS (rest := []) (As := [.int (nI 1), .int (nI 0), .int (nI 1)]) (cells' := 0) (slots' := 0) hc (c_X5_in_y κ _ (nI 1) (nI 0) (nI 1) (by decide)) q_X5_in k_ml_RX5_35 rfl rfl (jn_ix (wr := [(m 0, .inr (5, [.ref (m 1), .ref (m 2), .ref (m 3), .int (nI n), .ref (m 4), .ref (m 5), .ref (m 6), .int (nI ln), .ref (m 7), .ref (m 8)])), (m 1, aI κ 333 z), (m 4, aI κ 666 s), (m 5, aZ κ 2 (sb bb bs))]) [] [0, 1, 2, 3] rfl rfl rfl rfl (by decide)) ⟨⟨by decide, by decide⟩, by decide, by decide⟩ (Nat.le_of_ble_eq_true rfl) rfl rfl dX5_save_3 (n := 6) rfl (fun vv ww hp => ?_)
  obtain ⟨rr, rfl, rfl, rfl⟩ := hp
  refine ⟨_, rfl, ?_⟩
  refine g_ws (ws' := [(m 0, .inr (5, [.ref (m 1), .ref (m 2), .ref (m 3), .int (nI n), .ref (m 4), .ref (m 5), .ref (m 6), .int (nI ln), .ref (m 7), .ref (m 8)])), (m 1, aI κ 333 z), (m 4, aI κ 666 s), (m 5, aZ κ 2 (sb bb bs))]) rfl ?_
  refine g_st (st' := [.int (nI 1)]) rfl ?_
  refine n_if_ne hc (by omega) dX5_save_6 (tgt := 12) (by decide) (n := 9) rfl (fun c_1 => ?_) (fun c_1 => by (exfalso; revert c_1; first | omega | decide))
  refine g_iconst (v := nI 0) hc (by decide) dX5_save_12 (n := 13) rfl ?_
  refine g_istore_n (lv2 := [(0, .ref (m 0)), (1, .int (nI 1)), (2, .int (nI 0))]) hc rfl (by decide) [1, 2, 0] rfl rfl dX5_save_13 (n := 14) rfl ?_
  have L_2 : ∀ (fuel : Nat) (i : Nat) (s2 : Nat → Nat), (i ≤ 333) → (∀ k, k < i → s2 (333 + k) = z k) → (∀ k, (k < 333 ∨ 666 ≤ k) → s2 k = s k) → 333 - i < fuel → G κ Γ A 3 0 0 Q [(m 0, .inr (5, [.ref (m 1), .ref (m 2), .ref (m 3), .int (nI n), .ref (m 4), .ref (m 5), .ref (m 6), .int (nI ln), .ref (m 7), .ref (m 8)])), (m 1, aI κ 333 z), (m 4, aI κ 666 s2), (m 5, aZ κ 2 (sb bb bs))] 14 [(0, .ref (m 0)), (1, .int (nI 1)), (2, .int (nI i))] [] := by
    intro fuel
    induction fuel with
    | zero => intro i s2 hi h1 h2 h; exact absurd h (Nat.not_lt_zero _)
    | succ fuel ih_3 =>
      intro i s2 hi h1 h2 hn_4
      refine g_iload_n hc 2 rfl rfl dX5_save_14 (n := 15) rfl ?_
      refine g_sipush (v := nI 333) hc (by decide) dX5_save_15 (n := 18) rfl ?_
      refine n_icmp_ge hc (by omega) (by omega) dX5_save_18 (tgt := 45) (by decide) (n := 21) rfl (fun c_5 => ?_) (fun c_5 => ?_)
      · skip
        refine g_aload_n hc 0 rfl rfl dX5_save_45 (n := 46) rfl ?_
        refine g_getf hc 0 rfl vw_5 inX5 5 (by decide) k_fl_RX5_22 rfl rfl dX5_save_46 (n := 49) rfl ?_
        refine g_iload_n hc 1 rfl rfl dX5_save_49 (n := 50) rfl ?_
        refine g_iconst (v := nI 1) hc (by decide) dX5_save_50 (n := 51) rfl ?_
        refine n_zast (ws' := [(m 0, .inr (5, [.ref (m 1), .ref (m 2), .ref (m 3), .int (nI n), .ref (m 4), .ref (m 5), .ref (m 6), .int (nI ln), .ref (m 7), .ref (m 8)])), (m 1, aI κ 333 z), (m 4, aI κ 666 s2), (m 5, aZ κ 2 (va_up (sb bb bs) 1 1))]) hc 3 rfl (by omega) (by decide) (by omega) rfl dX5_save_51 (n := 52) rfl ?_
        refine g_aload_n hc 0 rfl rfl dX5_save_52 (n := 53) rfl ?_
        refine g_sipush (v := nI 312) hc (by decide) dX5_save_53 (n := 56) rfl ?_
        refine g_callV (rest := []) (As := [.int (nI 312)]) (cells' := 0) (slots' := 0) hc (c_X5_boardsOf κ _ m n ln z 312 (by decide)) q_X5_boardsOf k_ml_RX5_43 rfl rfl (jn_ix (wr := [(m 4, aI κ 666 s2), (m 5, aZ κ 2 (va_up (sb bb bs) 1 1))]) [0, 1] [2, 3] rfl rfl rfl rfl (by decide)) (qr := 0) rfl vw_5 ⟨⟨by decide, by decide⟩, by decide, by decide⟩ (Nat.le_of_ble_eq_true rfl) rfl rfl dX5_save_56 (n := 59) rfl (fun vv ww hp => ?_)
        obtain ⟨rr, rfl, rfl, rfl⟩ := hp
        refine ⟨_, rfl, ?_⟩
        refine g_ws (ws' := [(m 4, aI κ 666 s2), (m 5, aZ κ 2 (va_up (sb bb bs) 1 1)), (m 0, .inr (5, [.ref (m 1), .ref (m 2), .ref (m 3), .int (nI n), .ref (m 4), .ref (m 5), .ref (m 6), .int (nI ln), .ref (m 7), .ref (m 8)])), (m 1, aI κ 333 z)]) rfl ?_
        refine g_st (st' := [.int (nI (sm (fun k => z (312 + k)) 4))]) rfl ?_
        refine g_sub (ws' := [(m 0, .inr (5, [.ref (m 1), .ref (m 2), .ref (m 3), .int (nI n), .ref (m 4), .ref (m 5), .ref (m 6), .int (nI ln), .ref (m 7), .ref (m 8)])), (m 1, aI κ 333 z), (m 4, aI κ 666 s2), (m 5, aZ κ 2 (va_up (sb bb bs) 1 1))]) [2, 3, 0, 1] rfl rfl ?_
        refine g_arr (ws' := [(m 0, .inr (5, [.ref (m 1), .ref (m 2), .ref (m 3), .int (nI n), .ref (m 4), .ref (m 5), .ref (m 6), .int (nI ln), .ref (m 7), .ref (m 8)])), (m 1, aI κ 333 z), (m 4, aI κ 666 s2), (m 5, aZ κ 2 (sb bb true))]) (f := va_up (sb bb bs) 1 1) (g := sb bb true) 3 rfl (fun k hk => by match k, hk with | 0, _ => rfl | 1, _ => rfl) rfl ?_
        refine hret.1 _ _ _ _ _ _ rfl (by decide) (by decide) dX5_save_59 ?_
        exact ⟨_, rfl, s2, (fun k hk => h1 k (by omega)), (h2), rfl, rfl⟩
      · skip
        refine g_aload_n hc 0 rfl rfl dX5_save_21 (n := 22) rfl ?_
        refine g_getf hc 0 rfl vw_5 inX5 4 (by decide) k_fl_RX5_19 rfl rfl dX5_save_22 (n := 25) rfl ?_
        refine g_sipush (v := nI 333) hc (by decide) dX5_save_25 (n := 28) rfl ?_
        refine g_iload_n hc 1 rfl rfl dX5_save_28 (n := 29) rfl ?_
        refine n_imul (v := 333) hc rfl dX5_save_29 (n := 30) rfl ?_
        refine g_iload_n hc 2 rfl rfl dX5_save_30 (n := 31) rfl ?_
        refine n_iadd (v := 333 + i) hc rfl dX5_save_31 (n := 32) rfl ?_
        refine g_aload_n hc 0 rfl rfl dX5_save_32 (n := 33) rfl ?_
        refine g_getf hc 0 rfl vw_5 inX5 0 (by decide) k_fl_RX5_7 rfl rfl dX5_save_33 (n := 36) rfl ?_
        refine g_iload_n hc 2 rfl rfl dX5_save_36 (n := 37) rfl ?_
        refine n_iald (v := z i) hc 1 rfl (by omega) (by decide) rfl dX5_save_37 (n := 38) rfl ?_
        refine n_iast (ws' := [(m 0, .inr (5, [.ref (m 1), .ref (m 2), .ref (m 3), .int (nI n), .ref (m 4), .ref (m 5), .ref (m 6), .int (nI ln), .ref (m 7), .ref (m 8)])), (m 1, aI κ 333 z), (m 4, aI κ 666 (va_up s2 (333 + i) (z i))), (m 5, aZ κ 2 (sb bb bs))]) hc 2 rfl (by omega) (by decide) rfl dX5_save_38 (n := 39) rfl ?_
        refine n_iinc (v := i + 1) (zk := 1) (lv2 := [(0, .ref (m 0)), (1, .int (nI 1)), (2, .int (nI (i + 1)))]) hc 2 rfl (by decide) rfl (by decide) [1, 2, 0] rfl rfl dX5_save_39 (n := 42) rfl ?_
        refine g_goto (n := 14) hc dX5_save_42 (by decide) ?_
        exact ih_3 (i + 1) (va_up s2 (333 + i) (z i)) (by omega) (fun k hk => (Nat.lt_succ_iff_lt_or_eq.mp hk).elim (fun q => (va_up_ne _ _ (by omega)).trans (h1 k q)) (fun q => by subst q; exact va_up_self _ _ _)) (fun k hk => (va_up_ne _ _ (by omega)).trans (h2 k (by omega))) (by omega)
  exact L_2 _ 0 s (by omega) (fun k hk => absurd hk (Nat.not_lt_zero _)) (fun k hk => rfl) (Nat.lt_succ_self _)
set_option maxHeartbeats 1000000 in
set_option maxRecDepth 100000 in
theorem c_X5_restore1_ok (κ : Kp) (l : Launch) (m : Nat → Nat) (n : Nat) (ln : Nat) (z : Nat → Nat) (g : Nat → Nat) (hz : Nat → Nat → Nat) (s : Nat → Nat) (bb : Bool) (y : Nat → Nat) (hn : n ≤ 4) (hg : HB n g hz) (hsy : ∀ k, k < 333 → s (333 + k) = y k) : CT κ l yX5_restore cX5_restore 3 (some .int) 1 23 0 0 [.ref (m 0), .int (nI 1)] [(m 0, .inr (5, [.ref (m 1), .ref (m 2), .ref (m 3), .int (nI n), .ref (m 4), .ref (m 5), .ref (m 6), .int (nI ln), .ref (m 7), .ref (m 8)])), (m 1, aI κ 333 z), (m 3, aI κ 1332 g), (m 4, aI κ 666 s), (m 5, aZ κ 2 (sb bb true))] (PI (fun rr ww => ∃ g2 : Nat → Nat, (HB (rn n) g2 (rh n hz z)) ∧ rr = (nI (nbd y)) ∧ ww = [(m 0, .inr (5, [.ref (m 1), .ref (m 2), .ref (m 3), .int (nI (rn n)), .ref (m 4), .ref (m 5), .ref (m 6), .int (nI ln), .ref (m 7), .ref (m 8)])), (m 1, aI κ 333 y), (m 3, aI κ 1332 g2), (m 4, aI κ 666 s), (m 5, aZ κ 2 (sb bb true))])) := by
  refine CT.go (plainFor_of_name (by decide)) (Nat.le_of_ble_eq_true rfl) ?_
  intro Γ A Q hl hc hret
  subst hl
  have hc : Cx κ Γ A cX5_restore 3 RX5 "restore" (some .int) { frames := 1, cells := 0, slots := 0, locals := 23 } := hc
  refine g_lv (lv' := [(0, .ref (m 0)), (1, .int (nI 1))]) rfl ?_
  refine g_iload_n hc 1 rfl rfl dX5_restore_0 (n := 1) rfl ?_
  refine g_iconst (v := nI 0) hc (by decide) dX5_restore_1 (n := 2) rfl ?_
  refine g_iconst (v := nI 1) hc (by decide) dX5_restore_2 (n := 3) rfl ?_
  refine g_callS (rest := []) (As := [.int (nI 1), .int (nI 0), .int (nI 1)]) (cells' := 0) (slots' := 0) hc (c_X5_in_y κ _ (nI 1) (nI 0) (nI 1) (by decide)) q_X5_in k_ml_RX5_35 rfl rfl (jn_ix (wr := [(m 0, .inr (5, [.ref (m 1), .ref (m 2), .ref (m 3), .int (nI n), .ref (m 4), .ref (m 5), .ref (m 6), .int (nI ln), .ref (m 7), .ref (m 8)])), (m 1, aI κ 333 z), (m 3, aI κ 1332 g), (m 4, aI κ 666 s), (m 5, aZ κ 2 (sb bb true))]) [] [0, 1, 2, 3, 4] rfl rfl rfl rfl (by decide)) ⟨⟨by decide, by decide⟩, by decide, by decide⟩ (Nat.le_of_ble_eq_true rfl) rfl rfl dX5_restore_3 (n := 6) rfl (fun vv ww hp => ?_)
  obtain ⟨rr, rfl, rfl, rfl⟩ := hp
  refine ⟨_, rfl, ?_⟩
  refine g_ws (ws' := [(m 0, .inr (5, [.ref (m 1), .ref (m 2), .ref (m 3), .int (nI n), .ref (m 4), .ref (m 5), .ref (m 6), .int (nI ln), .ref (m 7), .ref (m 8)])), (m 1, aI κ 333 z), (m 3, aI κ 1332 g), (m 4, aI κ 666 s), (m 5, aZ κ 2 (sb bb true))]) rfl ?_
  refine g_st (st' := [.int (nI 1)]) rfl ?_
  refine n_if_ne hc (by omega) dX5_restore_6 (tgt := 12) (by decide) (n := 9) rfl (fun c_1 => ?_) (fun c_1 => by (exfalso; revert c_1; first | omega | decide))
  refine g_aload_n hc 0 rfl rfl dX5_restore_12 (n := 13) rfl ?_
  refine g_getf hc 0 rfl vw_5 inX5 5 (by decide) k_fl_RX5_22 rfl rfl dX5_restore_13 (n := 16) rfl ?_
  refine g_iload_n hc 1 rfl rfl dX5_restore_16 (n := 17) rfl ?_
  refine n_zald (v := 1) hc 4 rfl (by omega) (by decide) (rfl) dX5_restore_17 (n := 18) rfl ?_
  refine n_if_ne hc (by omega) dX5_restore_18 (tgt := 24) (by decide) (n := 21) rfl (fun c_2 => ?_) (fun c_2 => by (exfalso; revert c_2; first | omega | decide))
  refine g_aload_n hc 0 rfl rfl dX5_restore_24 (n := 25) rfl ?_
  refine g_callV (rest := []) (As := []) (cells' := 0) (slots' := 0) hc (c_X5_record κ _ m n ln z g hz hn hg) q_X5_record k_ml_RX5_47 rfl rfl (jn_ix (wr := [(m 4, aI κ 666 s), (m 5, aZ κ 2 (sb bb true))]) [0, 1, 2] [3, 4] rfl rfl rfl rfl (by decide)) (qr := 0) rfl vw_5 ⟨⟨by decide, by decide⟩, by decide, by decide⟩ (Nat.le_of_ble_eq_true rfl) rfl rfl dX5_restore_25 (n := 28) rfl (fun vv ww hp => ?_)
  obtain ⟨rfl, g2, hg2, rfl⟩ := hp
  refine ⟨_, rfl, ?_⟩
  refine g_ws (ws' := [(m 4, aI κ 666 s), (m 5, aZ κ 2 (sb bb true)), (m 0, .inr (5, [.ref (m 1), .ref (m 2), .ref (m 3), .int (nI (rn n)), .ref (m 4), .ref (m 5), .ref (m 6), .int (nI ln), .ref (m 7), .ref (m 8)])), (m 1, aI κ 333 z), (m 3, aI κ 1332 g2)]) rfl ?_
  refine g_st (st' := []) rfl ?_
  refine g_iconst (v := nI 0) hc (by decide) dX5_restore_28 (n := 29) rfl ?_
  refine g_istore_n (lv2 := [(0, .ref (m 0)), (1, .int (nI 1)), (2, .int (nI 0))]) hc rfl (by decide) [1, 2, 0] rfl rfl dX5_restore_29 (n := 30) rfl ?_
  have L_3 : ∀ (fuel : Nat) (i : Nat) (z2 : Nat → Nat), (i ≤ 333) → (∀ k, k < i → z2 k = s (333 + k)) → 333 - i < fuel → G κ Γ A 3 0 0 Q [(m 4, aI κ 666 s), (m 5, aZ κ 2 (sb bb true)), (m 0, .inr (5, [.ref (m 1), .ref (m 2), .ref (m 3), .int (nI (rn n)), .ref (m 4), .ref (m 5), .ref (m 6), .int (nI ln), .ref (m 7), .ref (m 8)])), (m 1, aI κ 333 z2), (m 3, aI κ 1332 g2)] 30 [(0, .ref (m 0)), (1, .int (nI 1)), (2, .int (nI i))] [] := by
    intro fuel
    induction fuel with
    | zero => intro i z2 hi ha h; exact absurd h (Nat.not_lt_zero _)
    | succ fuel ih_4 =>
      intro i z2 hi ha hn_5
      refine g_iload_n hc 2 rfl rfl dX5_restore_30 (n := 31) rfl ?_
      refine g_sipush (v := nI 333) hc (by decide) dX5_restore_31 (n := 34) rfl ?_
      refine n_icmp_ge hc (by omega) (by omega) dX5_restore_34 (tgt := 61) (by decide) (n := 37) rfl (fun c_6 => ?_) (fun c_6 => ?_)
      · skip
        refine g_arr (ws' := [(m 4, aI κ 666 s), (m 5, aZ κ 2 (sb bb true)), (m 0, .inr (5, [.ref (m 1), .ref (m 2), .ref (m 3), .int (nI (rn n)), .ref (m 4), .ref (m 5), .ref (m 6), .int (nI ln), .ref (m 7), .ref (m 8)])), (m 1, aI κ 333 y), (m 3, aI κ 1332 g2)]) (f := z2) (g := y) 3 rfl (fun k hk => by rw [ha k (by omega)]; exact hsy k hk) rfl ?_
        refine g_aload_n hc 0 rfl rfl dX5_restore_61 (n := 62) rfl ?_
        refine g_sipush (v := nI 312) hc (by decide) dX5_restore_62 (n := 65) rfl ?_
        refine g_callV (rest := []) (As := [.int (nI 312)]) (cells' := 0) (slots' := 0) hc (c_X5_boardsOf κ _ m (rn n) ln y 312 (by decide)) q_X5_boardsOf k_ml_RX5_43 rfl rfl (jn_ix (wr := [(m 4, aI κ 666 s), (m 5, aZ κ 2 (sb bb true)), (m 3, aI κ 1332 g2)]) [2, 3] [0, 1, 4] rfl rfl rfl rfl (by decide)) (qr := 2) rfl vw_5 ⟨⟨by decide, by decide⟩, by decide, by decide⟩ (Nat.le_of_ble_eq_true rfl) rfl rfl dX5_restore_65 (n := 68) rfl (fun vv ww hp => ?_)
        obtain ⟨rr, rfl, rfl, rfl⟩ := hp
        refine ⟨_, rfl, ?_⟩
        refine g_ws (ws' := [(m 4, aI κ 666 s), (m 5, aZ κ 2 (sb bb true)), (m 3, aI κ 1332 g2), (m 0, .inr (5, [.ref (m 1), .ref (m 2), .ref (m 3), .int (nI (rn n)), .ref (m 4), .ref (m 5), .ref (m 6), .int (nI ln), .ref (m 7), .ref (m 8)])), (m 1, aI κ 333 y)]) rfl ?_
        refine g_st (st' := [.int (nI (sm (fun k => y (312 + k)) 4))]) rfl ?_
        refine g_sub (ws' := [(m 0, .inr (5, [.ref (m 1), .ref (m 2), .ref (m 3), .int (nI (rn n)), .ref (m 4), .ref (m 5), .ref (m 6), .int (nI ln), .ref (m 7), .ref (m 8)])), (m 1, aI κ 333 y), (m 3, aI κ 1332 g2), (m 4, aI κ 666 s), (m 5, aZ κ 2 (sb bb true))]) [3, 4, 2, 0, 1] rfl rfl ?_
        refine hret.1 _ _ _ _ _ _ rfl (by decide) (by decide) dX5_restore_68 ?_
        exact ⟨_, rfl, g2, (by assumption), rfl, rfl⟩
      · skip
        refine g_aload_n hc 0 rfl rfl dX5_restore_37 (n := 38) rfl ?_
        refine g_getf hc 2 rfl vw_5 inX5 0 (by decide) k_fl_RX5_7 rfl rfl dX5_restore_38 (n := 41) rfl ?_
        refine g_iload_n hc 2 rfl rfl dX5_restore_41 (n := 42) rfl ?_
        refine g_aload_n hc 0 rfl rfl dX5_restore_42 (n := 43) rfl ?_
        refine g_getf hc 2 rfl vw_5 inX5 4 (by decide) k_fl_RX5_19 rfl rfl dX5_restore_43 (n := 46) rfl ?_
        refine g_sipush (v := nI 333) hc (by decide) dX5_restore_46 (n := 49) rfl ?_
        refine g_iload_n hc 1 rfl rfl dX5_restore_49 (n := 50) rfl ?_
        refine n_imul (v := 333) hc rfl dX5_restore_50 (n := 51) rfl ?_
        refine g_iload_n hc 2 rfl rfl dX5_restore_51 (n := 52) rfl ?_
        refine n_iadd (v := 333 + i) hc rfl dX5_restore_52 (n := 53) rfl ?_
        refine n_iald (v := s (333 + i)) hc 0 rfl (by omega) (by decide) rfl dX5_restore_53 (n := 54) rfl ?_
        refine n_iast (ws' := [(m 4, aI κ 666 s), (m 5, aZ κ 2 (sb bb true)), (m 0, .inr (5, [.ref (m 1), .ref (m 2), .ref (m 3), .int (nI (rn n)), .ref (m 4), .ref (m 5), .ref (m 6), .int (nI ln), .ref (m 7), .ref (m 8)])), (m 1, aI κ 333 (va_up z2 i (s (333 + i)))), (m 3, aI κ 1332 g2)]) hc 3 rfl (by omega) (by decide) rfl dX5_restore_54 (n := 55) rfl ?_
        refine n_iinc (v := i + 1) (zk := 1) (lv2 := [(0, .ref (m 0)), (1, .int (nI 1)), (2, .int (nI (i + 1)))]) hc 2 rfl (by decide) rfl (by decide) [1, 2, 0] rfl rfl dX5_restore_55 (n := 58) rfl ?_
        refine g_goto (n := 30) hc dX5_restore_58 (by decide) ?_
        exact ih_4 (i + 1) (va_up z2 i (s (333 + i))) (by omega) (fun k hk => (Nat.lt_succ_iff_lt_or_eq.mp hk).elim (fun q => (va_up_ne _ _ (by omega)).trans (ha k q)) (fun q => by subst q; exact va_up_self _ _ _)) (by omega)
  exact L_3 _ 0 z (by omega) (fun k hk => absurd hk (Nat.not_lt_zero _)) (Nat.lt_succ_self _)
set_option maxHeartbeats 1000000 in
set_option maxRecDepth 100000 in
theorem c_X5_restore1_no (κ : Kp) (l : Launch) (m : Nat → Nat) (n : Nat) (ln : Nat) (bb : Bool)  : CT κ l yX5_restore cX5_restore 3 (some .int) 1 22 0 0 [.ref (m 0), .int (nI 1)] [(m 0, .inr (5, [.ref (m 1), .ref (m 2), .ref (m 3), .int (nI n), .ref (m 4), .ref (m 5), .ref (m 6), .int (nI ln), .ref (m 7), .ref (m 8)])), (m 5, aZ κ 2 (sb bb false))] (PI (fun rr ww => rr = (nI 4294967291) ∧ ww = [(m 0, .inr (5, [.ref (m 1), .ref (m 2), .ref (m 3), .int (nI n), .ref (m 4), .ref (m 5), .ref (m 6), .int (nI ln), .ref (m 7), .ref (m 8)])), (m 5, aZ κ 2 (sb bb false))])) := by
  refine CT.go (plainFor_of_name (by decide)) (Nat.le_of_ble_eq_true rfl) ?_
  intro Γ A Q hl hc hret
  subst hl
  have hc : Cx κ Γ A cX5_restore 3 RX5 "restore" (some .int) { frames := 1, cells := 0, slots := 0, locals := 22 } := hc
  refine g_lv (lv' := [(0, .ref (m 0)), (1, .int (nI 1))]) rfl ?_
  refine g_iload_n hc 1 rfl rfl dX5_restore_0 (n := 1) rfl ?_
  refine g_iconst (v := nI 0) hc (by decide) dX5_restore_1 (n := 2) rfl ?_
  refine g_iconst (v := nI 1) hc (by decide) dX5_restore_2 (n := 3) rfl ?_
  refine g_callS (rest := []) (As := [.int (nI 1), .int (nI 0), .int (nI 1)]) (cells' := 0) (slots' := 0) hc (c_X5_in_y κ _ (nI 1) (nI 0) (nI 1) (by decide)) q_X5_in k_ml_RX5_35 rfl rfl (jn_ix (wr := [(m 0, .inr (5, [.ref (m 1), .ref (m 2), .ref (m 3), .int (nI n), .ref (m 4), .ref (m 5), .ref (m 6), .int (nI ln), .ref (m 7), .ref (m 8)])), (m 5, aZ κ 2 (sb bb false))]) [] [0, 1] rfl rfl rfl rfl (by decide)) ⟨⟨by decide, by decide⟩, by decide, by decide⟩ (Nat.le_of_ble_eq_true rfl) rfl rfl dX5_restore_3 (n := 6) rfl (fun vv ww hp => ?_)
  obtain ⟨rr, rfl, rfl, rfl⟩ := hp
  refine ⟨_, rfl, ?_⟩
  refine g_ws (ws' := [(m 0, .inr (5, [.ref (m 1), .ref (m 2), .ref (m 3), .int (nI n), .ref (m 4), .ref (m 5), .ref (m 6), .int (nI ln), .ref (m 7), .ref (m 8)])), (m 5, aZ κ 2 (sb bb false))]) rfl ?_
  refine g_st (st' := [.int (nI 1)]) rfl ?_
  refine n_if_ne hc (by omega) dX5_restore_6 (tgt := 12) (by decide) (n := 9) rfl (fun c_1 => ?_) (fun c_1 => by (exfalso; revert c_1; first | omega | decide))
  refine g_aload_n hc 0 rfl rfl dX5_restore_12 (n := 13) rfl ?_
  refine g_getf hc 0 rfl vw_5 inX5 5 (by decide) k_fl_RX5_22 rfl rfl dX5_restore_13 (n := 16) rfl ?_
  refine g_iload_n hc 1 rfl rfl dX5_restore_16 (n := 17) rfl ?_
  refine n_zald (v := 0) hc 1 rfl (by omega) (by decide) (rfl) dX5_restore_17 (n := 18) rfl ?_
  refine n_if_ne hc (by omega) dX5_restore_18 (tgt := 24) (by decide) (n := 21) rfl (fun c_2 => by (exfalso; revert c_2; first | omega | decide)) (fun c_2 => ?_)
  refine g_bipush (v := nI 4294967291) hc (by decide) dX5_restore_21 (n := 23) rfl ?_
  refine hret.1 _ _ _ _ _ _ rfl (by decide) (by decide) dX5_restore_23 ?_
  exact ⟨_, rfl, rfl, rfl⟩
set_option maxHeartbeats 1000000 in
set_option maxRecDepth 100000 in
theorem c_X5_save_er (κ : Kp) (l : Launch) (m : Nat → Nat) (n : Nat) (ln : Nat) (x : Int32) (hx1 : x < 0 ∨ nI 2 ≤ x) : CT κ l yX5_save cX5_save 3 (some .int) 1 22 0 0 [.ref (m 0), .int x] [(m 0, .inr (5, [.ref (m 1), .ref (m 2), .ref (m 3), .int (nI n), .ref (m 4), .ref (m 5), .ref (m 6), .int (nI ln), .ref (m 7), .ref (m 8)]))] (PI (fun rr ww => rr = (nI 4294967294) ∧ ww = [(m 0, .inr (5, [.ref (m 1), .ref (m 2), .ref (m 3), .int (nI n), .ref (m 4), .ref (m 5), .ref (m 6), .int (nI ln), .ref (m 7), .ref (m 8)]))])) := by
  refine CT.go (plainFor_of_name (by decide)) (Nat.le_of_ble_eq_true rfl) ?_
  intro Γ A Q hl hc hret
  subst hl
  have hc : Cx κ Γ A cX5_save 3 RX5 "save" (some .int) { frames := 1, cells := 0, slots := 0, locals := 22 } := hc
  refine g_lv (lv' := [(0, .ref (m 0)), (1, .int x)]) rfl ?_
  refine g_iload_n hc 1 rfl rfl dX5_save_0 (n := 1) rfl ?_
  refine g_iconst (v := nI 0) hc (by decide) dX5_save_1 (n := 2) rfl ?_
  refine g_iconst (v := nI 1) hc (by decide) dX5_save_2 (n := 3) rfl ?_
  refine g_callS (rest := []) (As := [.int x, .int (nI 0), .int (nI 1)]) (cells' := 0) (slots' := 0) hc (c_X5_in_n κ _ x (nI 0) (nI 1) (in_n1 hx1)) q_X5_in k_ml_RX5_35 rfl rfl (jn_ix (wr := [(m 0, .inr (5, [.ref (m 1), .ref (m 2), .ref (m 3), .int (nI n), .ref (m 4), .ref (m 5), .ref (m 6), .int (nI ln), .ref (m 7), .ref (m 8)]))]) [] [0] rfl rfl rfl rfl (by decide)) ⟨⟨by decide, by decide⟩, by decide, by decide⟩ (Nat.le_of_ble_eq_true rfl) rfl rfl dX5_save_3 (n := 6) rfl (fun vv ww hp => ?_)
  obtain ⟨rr, rfl, rfl, rfl⟩ := hp
  refine ⟨_, rfl, ?_⟩
  refine g_ws (ws' := [(m 0, .inr (5, [.ref (m 1), .ref (m 2), .ref (m 3), .int (nI n), .ref (m 4), .ref (m 5), .ref (m 6), .int (nI ln), .ref (m 7), .ref (m 8)]))]) rfl ?_
  refine g_st (st' := [.int (nI 0)]) rfl ?_
  refine n_if_ne hc (by omega) dX5_save_6 (tgt := 12) (by decide) (n := 9) rfl (fun c_1 => by (exfalso; revert c_1; first | omega | decide)) (fun c_1 => ?_)
  refine g_bipush (v := nI 4294967294) hc (by decide) dX5_save_9 (n := 11) rfl ?_
  refine hret.1 _ _ _ _ _ _ rfl (by decide) (by decide) dX5_save_11 ?_
  exact ⟨_, rfl, rfl, rfl⟩
set_option maxHeartbeats 1000000 in
set_option maxRecDepth 100000 in
theorem c_X5_restore_er (κ : Kp) (l : Launch) (m : Nat → Nat) (n : Nat) (ln : Nat) (x : Int32) (hx1 : x < 0 ∨ nI 2 ≤ x) : CT κ l yX5_restore cX5_restore 3 (some .int) 1 22 0 0 [.ref (m 0), .int x] [(m 0, .inr (5, [.ref (m 1), .ref (m 2), .ref (m 3), .int (nI n), .ref (m 4), .ref (m 5), .ref (m 6), .int (nI ln), .ref (m 7), .ref (m 8)]))] (PI (fun rr ww => rr = (nI 4294967294) ∧ ww = [(m 0, .inr (5, [.ref (m 1), .ref (m 2), .ref (m 3), .int (nI n), .ref (m 4), .ref (m 5), .ref (m 6), .int (nI ln), .ref (m 7), .ref (m 8)]))])) := by
  refine CT.go (plainFor_of_name (by decide)) (Nat.le_of_ble_eq_true rfl) ?_
  intro Γ A Q hl hc hret
  subst hl
  have hc : Cx κ Γ A cX5_restore 3 RX5 "restore" (some .int) { frames := 1, cells := 0, slots := 0, locals := 22 } := hc
  refine g_lv (lv' := [(0, .ref (m 0)), (1, .int x)]) rfl ?_
  refine g_iload_n hc 1 rfl rfl dX5_restore_0 (n := 1) rfl ?_
  refine g_iconst (v := nI 0) hc (by decide) dX5_restore_1 (n := 2) rfl ?_
  refine g_iconst (v := nI 1) hc (by decide) dX5_restore_2 (n := 3) rfl ?_
  refine g_callS (rest := []) (As := [.int x, .int (nI 0), .int (nI 1)]) (cells' := 0) (slots' := 0) hc (c_X5_in_n κ _ x (nI 0) (nI 1) (in_n1 hx1)) q_X5_in k_ml_RX5_35 rfl rfl (jn_ix (wr := [(m 0, .inr (5, [.ref (m 1), .ref (m 2), .ref (m 3), .int (nI n), .ref (m 4), .ref (m 5), .ref (m 6), .int (nI ln), .ref (m 7), .ref (m 8)]))]) [] [0] rfl rfl rfl rfl (by decide)) ⟨⟨by decide, by decide⟩, by decide, by decide⟩ (Nat.le_of_ble_eq_true rfl) rfl rfl dX5_restore_3 (n := 6) rfl (fun vv ww hp => ?_)
  obtain ⟨rr, rfl, rfl, rfl⟩ := hp
  refine ⟨_, rfl, ?_⟩
  refine g_ws (ws' := [(m 0, .inr (5, [.ref (m 1), .ref (m 2), .ref (m 3), .int (nI n), .ref (m 4), .ref (m 5), .ref (m 6), .int (nI ln), .ref (m 7), .ref (m 8)]))]) rfl ?_
  refine g_st (st' := [.int (nI 0)]) rfl ?_
  refine n_if_ne hc (by omega) dX5_restore_6 (tgt := 12) (by decide) (n := 9) rfl (fun c_1 => by (exfalso; revert c_1; first | omega | decide)) (fun c_1 => ?_)
  refine g_bipush (v := nI 4294967294) hc (by decide) dX5_restore_9 (n := 11) rfl ?_
  refine hret.1 _ _ _ _ _ _ rfl (by decide) (by decide) dX5_restore_11 ?_
  exact ⟨_, rfl, rfl, rfl⟩
set_option maxHeartbeats 1000000 in
set_option maxRecDepth 100000 in
theorem c_X5_keptPairs (κ : Kp) (l : Launch) (m : Nat → Nat) (n : Nat) (ln : Nat) (z : Nat → Nat) (y : Nat → Nat) (p0 : Nat → Nat) (p : Nat → Nat) (hp : Perm p) (hzp : ∀ k, k < 52 → z k = p k) (hq : Perm y) : CT κ l yX5_keptPairs cX5_keptPairs 3 (some .int) 0 0 0 0 [.ref (m 0)] [(m 0, .inr (5, [.ref (m 1), .ref (m 2), .ref (m 3), .int (nI n), .ref (m 4), .ref (m 5), .ref (m 6), .int (nI ln), .ref (m 7), .ref (m 8)])), (m 1, aI κ 333 z), (m 2, aI κ 333 y), (m 8, aI κ 52 p0)] (PI (fun rr ww => rr = (nI (kp y p)) ∧ ww = [(m 0, .inr (5, [.ref (m 1), .ref (m 2), .ref (m 3), .int (nI n), .ref (m 4), .ref (m 5), .ref (m 6), .int (nI ln), .ref (m 7), .ref (m 8)])), (m 1, aI κ 333 z), (m 2, aI κ 333 y), (m 8, aI κ 52 (inv p))])) := by
  refine CT.go (plainFor_of_name (by decide)) (Nat.le_of_ble_eq_true rfl) ?_
  intro Γ A Q hl hc hret
  subst hl
  have hc : Cx κ Γ A cX5_keptPairs 3 RX5 "keptPairs" (some .int) { frames := 0, cells := 0, slots := 0, locals := 0 } := hc
  refine g_lv (lv' := [(0, .ref (m 0))]) rfl ?_
  refine g_iconst (v := nI 0) hc (by decide) dX5_keptPairs_0 (n := 1) rfl ?_
  refine g_istore_n (lv2 := [(0, .ref (m 0)), (1, .int (nI 0))]) hc rfl (by decide) [1, 0] rfl rfl dX5_keptPairs_1 (n := 2) rfl ?_
  have L_1 : ∀ (fuel : Nat) (i : Nat) (g : Nat → Nat), (i ≤ 52) → (∀ k, k < i → g (p k) = k) → 52 - i < fuel → G κ Γ A 3 0 0 Q [(m 0, .inr (5, [.ref (m 1), .ref (m 2), .ref (m 3), .int (nI n), .ref (m 4), .ref (m 5), .ref (m 6), .int (nI ln), .ref (m 7), .ref (m 8)])), (m 1, aI κ 333 z), (m 2, aI κ 333 y), (m 8, aI κ 52 g)] 2 [(0, .ref (m 0)), (1, .int (nI i))] [] := by
    intro fuel
    induction fuel with
    | zero => intro i g hi hg h; exact absurd h (Nat.not_lt_zero _)
    | succ fuel ih_2 =>
      intro i g hi hg hn_3
      refine g_iload_n hc 1 rfl rfl dX5_keptPairs_2 (n := 3) rfl ?_
      refine g_bipush (v := nI 52) hc (by decide) dX5_keptPairs_3 (n := 5) rfl ?_
      refine n_icmp_ge hc (by omega) (by omega) dX5_keptPairs_5 (tgt := 26) (by decide) (n := 8) rfl (fun c_4 => ?_) (fun c_4 => ?_)
      · skip
        refine g_arr (ws' := [(m 0, .inr (5, [.ref (m 1), .ref (m 2), .ref (m 3), .int (nI n), .ref (m 4), .ref (m 5), .ref (m 6), .int (nI ln), .ref (m 7), .ref (m 8)])), (m 1, aI κ 333 z), (m 2, aI κ 333 y), (m 8, aI κ 52 (inv p))]) (f := g) (g := inv p) 3 rfl (fun c hc => by obtain ⟨e1, e2⟩ := p_inv hp hc; have := hg (inv p c) (by omega); rwa [e1] at this) rfl ?_
        refine g_iconst (v := nI 0) hc (by decide) dX5_keptPairs_26 (n := 27) rfl ?_
        refine g_istore_n (lv2 := [(0, .ref (m 0)), (1, .int (nI 0))]) hc rfl (by decide) [1, 0] rfl rfl dX5_keptPairs_27 (n := 28) rfl ?_
        refine g_iconst (v := nI 0) hc (by decide) dX5_keptPairs_28 (n := 29) rfl ?_
        refine g_istore_n (lv2 := [(0, .ref (m 0)), (1, .int (nI 0)), (2, .int (nI 0))]) hc rfl (by decide) [1, 2, 0] rfl rfl dX5_keptPairs_29 (n := 30) rfl ?_
        have L_5 : ∀ (fuel : Nat) (i : Nat) (t : Nat), (i ≤ 51) → (t = sm (fun k => if inv p (y (k + 1)) = inv p (y k) + 1 then 1 else 0) i) → 51 - i < fuel → G κ Γ A 3 0 0 Q [(m 0, .inr (5, [.ref (m 1), .ref (m 2), .ref (m 3), .int (nI n), .ref (m 4), .ref (m 5), .ref (m 6), .int (nI ln), .ref (m 7), .ref (m 8)])), (m 1, aI κ 333 z), (m 2, aI κ 333 y), (m 8, aI κ 52 (inv p))] 30 [(0, .ref (m 0)), (1, .int (nI t)), (2, .int (nI i))] [] := by
          intro fuel
          induction fuel with
          | zero => intro i t hi hs h; exact absurd h (Nat.not_lt_zero _)
          | succ fuel ih_6 =>
            intro i t hi hs hn_7
            have hy1 := fun h : i < 52 => (p_inv hp (hq.1 i h)).2
            have hy2 := fun h : i + 1 < 52 => (p_inv hp (hq.1 (i + 1) h)).2
            refine g_iload_n hc 2 rfl rfl dX5_keptPairs_30 (n := 31) rfl ?_
            refine g_iconst (v := nI 1) hc (by decide) dX5_keptPairs_31 (n := 32) rfl ?_
            refine n_iadd (v := i + 1) hc rfl dX5_keptPairs_32 (n := 33) rfl ?_
            refine g_bipush (v := nI 52) hc (by decide) dX5_keptPairs_33 (n := 35) rfl ?_
            refine n_icmp_ge hc (by omega) (by omega) dX5_keptPairs_35 (tgt := 81) (by decide) (n := 38) rfl (fun c_8 => ?_) (fun c_8 => ?_)
            · skip
              refine g_iload_n hc 1 rfl rfl dX5_keptPairs_81 (n := 82) rfl ?_
              refine hret.1 _ _ _ _ _ _ rfl (by decide) (by decide) dX5_keptPairs_82 ?_
              exact ⟨_, rfl, (by have e9 : i = 51 := (by omega); subst e9; rw [hs]; rfl), rfl⟩
            · skip
              refine g_iload_n hc 1 rfl rfl dX5_keptPairs_38 (n := 39) rfl ?_
              refine g_aload_n hc 0 rfl rfl dX5_keptPairs_39 (n := 40) rfl ?_
              refine g_getf hc 0 rfl vw_5 inX5 9 (by decide) k_fl_RX5_32 rfl rfl dX5_keptPairs_40 (n := 43) rfl ?_
              refine g_aload_n hc 0 rfl rfl dX5_keptPairs_43 (n := 44) rfl ?_
              refine g_getf hc 0 rfl vw_5 inX5 1 (by decide) k_fl_RX5_13 rfl rfl dX5_keptPairs_44 (n := 47) rfl ?_
              refine g_iload_n hc 2 rfl rfl dX5_keptPairs_47 (n := 48) rfl ?_
              refine n_iald (v := y i) hc 2 rfl (by omega) (by decide) rfl dX5_keptPairs_48 (n := 49) rfl ?_
              have b_9 := hq.1 i (by omega)
              refine n_iald (v := inv p (y i)) hc 3 rfl (by omega) (by decide) rfl dX5_keptPairs_49 (n := 50) rfl ?_
              refine g_iconst (v := nI 1) hc (by decide) dX5_keptPairs_50 (n := 51) rfl ?_
              refine n_iadd (v := (inv p (y i)) + 1) hc rfl dX5_keptPairs_51 (n := 52) rfl ?_
              refine g_aload_n hc 0 rfl rfl dX5_keptPairs_52 (n := 53) rfl ?_
              refine g_getf hc 0 rfl vw_5 inX5 9 (by decide) k_fl_RX5_32 rfl rfl dX5_keptPairs_53 (n := 56) rfl ?_
              refine g_aload_n hc 0 rfl rfl dX5_keptPairs_56 (n := 57) rfl ?_
              refine g_getf hc 0 rfl vw_5 inX5 1 (by decide) k_fl_RX5_13 rfl rfl dX5_keptPairs_57 (n := 60) rfl ?_
              refine g_iload_n hc 2 rfl rfl dX5_keptPairs_60 (n := 61) rfl ?_
              refine g_iconst (v := nI 1) hc (by decide) dX5_keptPairs_61 (n := 62) rfl ?_
              refine n_iadd (v := i + 1) hc rfl dX5_keptPairs_62 (n := 63) rfl ?_
              refine n_iald (v := y (i + 1)) hc 2 rfl (by omega) (by decide) rfl dX5_keptPairs_63 (n := 64) rfl ?_
              have b_10 := hq.1 (i + 1) (by omega)
              refine n_iald (v := inv p (y (i + 1))) hc 3 rfl (by omega) (by decide) rfl dX5_keptPairs_64 (n := 65) rfl ?_
              have hy3 := hy1 (by omega)
              have hy4 := hy2 (by omega)
              refine n_icmp_ne hc (by omega) (by omega) dX5_keptPairs_65 (tgt := 72) (by decide) (n := 68) rfl (fun c_11 => ?_) (fun c_11 => ?_)
              · skip
                refine g_iconst (v := nI 0) hc (by decide) dX5_keptPairs_72 (n := 73) rfl ?_
                refine n_iadd (v := t + 0) hc rfl dX5_keptPairs_73 (n := 74) rfl ?_
                refine g_istore_n (lv2 := [(0, .ref (m 0)), (1, .int (nI (t + 0))), (2, .int (nI i))]) hc rfl (by decide) [1, 0, 2] rfl rfl dX5_keptPairs_74 (n := 75) rfl ?_
                refine n_iinc (v := i + 1) (zk := 1) (lv2 := [(0, .ref (m 0)), (1, .int (nI (t + 0))), (2, .int (nI (i + 1)))]) hc 2 rfl (by decide) rfl (by decide) [1, 2, 0] rfl rfl dX5_keptPairs_75 (n := 78) rfl ?_
                refine g_goto (n := 30) hc dX5_keptPairs_78 (by decide) ?_
                exact ih_6 (i + 1) (t + 0) (by omega) (by rw [sm_s, ← hs]; first | (split <;> omega) | omega) (by omega)
              · skip
                refine g_iconst (v := nI 1) hc (by decide) dX5_keptPairs_68 (n := 69) rfl ?_
                refine g_goto (n := 73) hc dX5_keptPairs_69 (by decide) ?_
                refine n_iadd (v := t + 1) hc rfl dX5_keptPairs_73 (n := 74) rfl ?_
                refine g_istore_n (lv2 := [(0, .ref (m 0)), (1, .int (nI (t + 1))), (2, .int (nI i))]) hc rfl (by decide) [1, 0, 2] rfl rfl dX5_keptPairs_74 (n := 75) rfl ?_
                refine n_iinc (v := i + 1) (zk := 1) (lv2 := [(0, .ref (m 0)), (1, .int (nI (t + 1))), (2, .int (nI (i + 1)))]) hc 2 rfl (by decide) rfl (by decide) [1, 2, 0] rfl rfl dX5_keptPairs_75 (n := 78) rfl ?_
                refine g_goto (n := 30) hc dX5_keptPairs_78 (by decide) ?_
                exact ih_6 (i + 1) (t + 1) (by omega) (by rw [sm_s, ← hs]; first | (split <;> omega) | omega) (by omega)
        exact L_5 _ 0 0 (by omega) (rfl) (Nat.lt_succ_self _)
      · skip
        refine g_aload_n hc 0 rfl rfl dX5_keptPairs_8 (n := 9) rfl ?_
        refine g_getf hc 0 rfl vw_5 inX5 9 (by decide) k_fl_RX5_32 rfl rfl dX5_keptPairs_9 (n := 12) rfl ?_
        refine g_aload_n hc 0 rfl rfl dX5_keptPairs_12 (n := 13) rfl ?_
        refine g_getf hc 0 rfl vw_5 inX5 0 (by decide) k_fl_RX5_7 rfl rfl dX5_keptPairs_13 (n := 16) rfl ?_
        refine g_iload_n hc 1 rfl rfl dX5_keptPairs_16 (n := 17) rfl ?_
        refine n_iald (v := p i) hc 1 rfl (by omega) (by decide) (hzp i (by omega)) dX5_keptPairs_17 (n := 18) rfl ?_
        have hpi := hp.1 i (by omega)
        refine g_iload_n hc 1 rfl rfl dX5_keptPairs_18 (n := 19) rfl ?_
        refine n_iast (ws' := [(m 0, .inr (5, [.ref (m 1), .ref (m 2), .ref (m 3), .int (nI n), .ref (m 4), .ref (m 5), .ref (m 6), .int (nI ln), .ref (m 7), .ref (m 8)])), (m 1, aI κ 333 z), (m 2, aI κ 333 y), (m 8, aI κ 52 (va_up g (p i) i))]) hc 3 rfl (by omega) (by decide) rfl dX5_keptPairs_19 (n := 20) rfl ?_
        refine n_iinc (v := i + 1) (zk := 1) (lv2 := [(0, .ref (m 0)), (1, .int (nI (i + 1)))]) hc 1 rfl (by decide) rfl (by decide) [1, 0] rfl rfl dX5_keptPairs_20 (n := 23) rfl ?_
        refine g_goto (n := 2) hc dX5_keptPairs_23 (by decide) ?_
        exact ih_2 (i + 1) (va_up g (p i) i) (by omega) (fun k hk => (Nat.lt_succ_iff_lt_or_eq.mp hk).elim (fun q => (va_up_ne _ _ (fun e => by have := hp.2 k i (by omega) (by omega) e; omega)).trans (hg k q)) (fun q => by subst q; exact va_up_self _ _ _)) (by omega)
  exact L_1 _ 0 p0 (by omega) (fun k hk => absurd hk (Nat.not_lt_zero _)) (Nat.lt_succ_self _)
