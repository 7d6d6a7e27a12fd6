set_option maxHeartbeats 1000000 in
set_option maxRecDepth 100000 in
theorem c_X5_deal_no (κ : Kp) (l : Launch) (m : Nat → Nat) (n : Nat) (ln : Nat) (z : Nat → Nat) (b : Nat) (hb : b < 4) (hno : z (316 + b) = 1 ∨ z 327 = 0) (hf : z (316 + b) ≤ 1) : CT κ l yX5_deal cX5_deal 3 (some .int) 2 42 0 0 [.ref (m 0), .int (nI b)] [(m 0, .inr (5, [.ref (m 1), .ref (m 2), .ref (m 3), .int (nI n), .ref (m 4), .ref (m 5), .ref (m 6), .int (nI ln), .ref (m 7), .ref (m 8)])), (m 1, aI κ 333 z)] (PI (fun rr ww => rr = (nI 4294967291) ∧ ww = [(m 0, .inr (5, [.ref (m 1), .ref (m 2), .ref (m 3), .int (nI n), .ref (m 4), .ref (m 5), .ref (m 6), .int (nI ln), .ref (m 7), .ref (m 8)])), (m 1, aI κ 333 z)])) := by
  refine CT.go (plainFor_of_name (by decide)) (Nat.le_of_ble_eq_true rfl) ?_
  intro Γ A Q hl hc hret
  subst hl
  have hc : Cx κ Γ A cX5_deal 3 RX5 "deal" (some .int) { frames := 2, cells := 0, slots := 0, locals := 42 } := hc
  refine g_lv (lv' := [(0, .ref (m 0)), (1, .int (nI b))]) rfl ?_
  refine g_iload_n hc 1 rfl rfl dX5_deal_0 (n := 1) rfl ?_
  refine g_callS (rest := []) (As := [.int (nI b)]) (cells' := 0) (slots' := 0) hc (c_X5_isBoard_y κ _ b (by omega)) q_X5_isBoard k_ml_RX5_96 rfl rfl (jn_ix (wr := [(m 0, .inr (5, [.ref (m 1), .ref (m 2), .ref (m 3), .int (nI n), .ref (m 4), .ref (m 5), .ref (m 6), .int (nI ln), .ref (m 7), .ref (m 8)])), (m 1, aI κ 333 z)]) [] [0, 1] rfl rfl rfl rfl (by decide)) ⟨⟨by decide, by decide⟩, by decide, by decide⟩ (Nat.le_of_ble_eq_true rfl) rfl rfl dX5_deal_1 (n := 4) rfl (fun vv ww hp => ?_)
  obtain ⟨rr, rfl, rfl, rfl⟩ := hp
  refine ⟨_, rfl, ?_⟩
  refine g_ws (ws' := [(m 0, .inr (5, [.ref (m 1), .ref (m 2), .ref (m 3), .int (nI n), .ref (m 4), .ref (m 5), .ref (m 6), .int (nI ln), .ref (m 7), .ref (m 8)])), (m 1, aI κ 333 z)]) rfl ?_
  refine g_st (st' := [.int (nI 1)]) rfl ?_
  refine n_if_ne hc (by omega) dX5_deal_4 (tgt := 9) (by decide) (n := 7) rfl (fun c_1 => ?_) (fun c_1 => by (exfalso; revert c_1; first | omega | decide))
  refine g_aload_n hc 0 rfl rfl dX5_deal_9 (n := 10) rfl ?_
  refine g_getf hc 0 rfl vw_5 inX5 0 (by decide) k_fl_RX5_7 rfl rfl dX5_deal_10 (n := 13) rfl ?_
  refine g_sipush (v := nI 316) hc (by decide) dX5_deal_13 (n := 16) rfl ?_
  refine g_iload_n hc 1 rfl rfl dX5_deal_16 (n := 17) rfl ?_
  refine n_iadd (v := 316 + b) hc rfl dX5_deal_17 (n := 18) rfl ?_
  refine n_iald (v := z (316 + b)) hc 1 rfl (by omega) (by decide) rfl dX5_deal_18 (n := 19) rfl ?_
  refine g_iconst (v := nI 1) hc (by decide) dX5_deal_19 (n := 20) rfl ?_
  refine n_icmp_eq hc (by omega) (by omega) dX5_deal_20 (tgt := 34) (by decide) (n := 23) rfl (fun c_2 => ?_) (fun c_2 => ?_)
  · skip
    refine g_bipush (v := nI 4294967291) hc (by decide) dX5_deal_34 (n := 36) rfl ?_
    refine hret.1 _ _ _ _ _ _ rfl (by decide) (by decide) dX5_deal_36 ?_
    exact ⟨_, rfl, rfl, rfl⟩
  · skip
    refine g_aload_n hc 0 rfl rfl dX5_deal_23 (n := 24) rfl ?_
    refine g_getf hc 0 rfl vw_5 inX5 0 (by decide) k_fl_RX5_7 rfl rfl dX5_deal_24 (n := 27) rfl ?_
    refine g_sipush (v := nI 327) hc (by decide) dX5_deal_27 (n := 30) rfl ?_
    refine n_iald (v := z 327) hc 1 rfl (by omega) (by decide) rfl dX5_deal_30 (n := 31) rfl ?_
    refine n_if_ne hc (by omega) dX5_deal_31 (tgt := 37) (by decide) (n := 34) rfl (fun c_3 => by (exfalso; revert c_3; first | omega | decide)) (fun c_3 => ?_)
    refine g_bipush (v := nI 4294967291) hc (by decide) dX5_deal_34 (n := 36) rfl ?_
    refine hret.1 _ _ _ _ _ _ rfl (by decide) (by decide) dX5_deal_36 ?_
    exact ⟨_, rfl, rfl, rfl⟩
set_option maxHeartbeats 1000000 in
set_option maxRecDepth 100000 in
theorem c_X5_deal_er (κ : Kp) (l : Launch) (m : Nat → Nat) (n : Nat) (ln : Nat) (x : Int32) (hx1 : x < 0 ∨ nI 4 ≤ x) : CT κ l yX5_deal cX5_deal 3 (some .int) 2 42 0 0 [.ref (m 0), .int x] [(m 0, .inr (5, [.ref (m 1), .ref (m 2), .ref (m 3), .int (nI n), .ref (m 4), .ref (m 5), .ref (m 6), .int (nI ln), .ref (m 7), .ref (m 8)]))] (PI (fun rr ww => rr = (nI 4294967295) ∧ ww = [(m 0, .inr (5, [.ref (m 1), .ref (m 2), .ref (m 3), .int (nI n), .ref (m 4), .ref (m 5), .ref (m 6), .int (nI ln), .ref (m 7), .ref (m 8)]))])) := by
  refine CT.go (plainFor_of_name (by decide)) (Nat.le_of_ble_eq_true rfl) ?_
  intro Γ A Q hl hc hret
  subst hl
  have hc : Cx κ Γ A cX5_deal 3 RX5 "deal" (some .int) { frames := 2, cells := 0, slots := 0, locals := 42 } := hc
  refine g_lv (lv' := [(0, .ref (m 0)), (1, .int x)]) rfl ?_
  refine g_iload_n hc 1 rfl rfl dX5_deal_0 (n := 1) rfl ?_
  refine g_callS (rest := []) (As := [.int x]) (cells' := 0) (slots' := 0) hc (c_X5_isBoard_n κ _ x hx1) q_X5_isBoard k_ml_RX5_96 rfl rfl (jn_ix (wr := [(m 0, .inr (5, [.ref (m 1), .ref (m 2), .ref (m 3), .int (nI n), .ref (m 4), .ref (m 5), .ref (m 6), .int (nI ln), .ref (m 7), .ref (m 8)]))]) [] [0] rfl rfl rfl rfl (by decide)) ⟨⟨by decide, by decide⟩, by decide, by decide⟩ (Nat.le_of_ble_eq_true rfl) rfl rfl dX5_deal_1 (n := 4) rfl (fun vv ww hp => ?_)
  obtain ⟨rr, rfl, rfl, rfl⟩ := hp
  refine ⟨_, rfl, ?_⟩
  refine g_ws (ws' := [(m 0, .inr (5, [.ref (m 1), .ref (m 2), .ref (m 3), .int (nI n), .ref (m 4), .ref (m 5), .ref (m 6), .int (nI ln), .ref (m 7), .ref (m 8)]))]) rfl ?_
  refine g_st (st' := [.int (nI 0)]) rfl ?_
  refine n_if_ne hc (by omega) dX5_deal_4 (tgt := 9) (by decide) (n := 7) rfl (fun c_1 => by (exfalso; revert c_1; first | omega | decide)) (fun c_1 => ?_)
  refine g_iconst (v := nI 4294967295) hc (by decide) dX5_deal_7 (n := 8) rfl ?_
  refine hret.1 _ _ _ _ _ _ rfl (by decide) (by decide) dX5_deal_8 ?_
  exact ⟨_, rfl, rfl, rfl⟩
set_option maxHeartbeats 1000000 in
set_option maxRecDepth 100000 in
theorem c_X5_seal_er (κ : Kp) (l : Launch) (m : Nat → Nat) (n : Nat) (ln : Nat) (x : Int32) (hx1 : x < 0 ∨ nI 4 ≤ x) : CT κ l yX5_seal cX5_seal 2 (some .int) 2 42 0 0 [.ref (m 0), .int x] [(m 0, .inr (5, [.ref (m 1), .ref (m 2), .ref (m 3), .int (nI n), .ref (m 4), .ref (m 5), .ref (m 6), .int (nI ln), .ref (m 7), .ref (m 8)]))] (PI (fun rr ww => rr = (nI 4294967295) ∧ ww = [(m 0, .inr (5, [.ref (m 1), .ref (m 2), .ref (m 3), .int (nI n), .ref (m 4), .ref (m 5), .ref (m 6), .int (nI ln), .ref (m 7), .ref (m 8)]))])) := by
  refine CT.go (plainFor_of_name (by decide)) (Nat.le_of_ble_eq_true rfl) ?_
  intro Γ A Q hl hc hret
  subst hl
  have hc : Cx κ Γ A cX5_seal 2 RX5 "seal" (some .int) { frames := 2, cells := 0, slots := 0, locals := 42 } := hc
  refine g_lv (lv' := [(0, .ref (m 0)), (1, .int x)]) rfl ?_
  refine g_iload_n hc 1 rfl rfl dX5_seal_0 (n := 1) rfl ?_
  refine g_callS (rest := []) (As := [.int x]) (cells' := 0) (slots' := 0) hc (c_X5_isBoard_n κ _ x hx1) q_X5_isBoard k_ml_RX5_96 rfl rfl (jn_ix (wr := [(m 0, .inr (5, [.ref (m 1), .ref (m 2), .ref (m 3), .int (nI n), .ref (m 4), .ref (m 5), .ref (m 6), .int (nI ln), .ref (m 7), .ref (m 8)]))]) [] [0] rfl rfl rfl rfl (by decide)) ⟨⟨by decide, by decide⟩, by decide, by decide⟩ (Nat.le_of_ble_eq_true rfl) rfl rfl dX5_seal_1 (n := 4) rfl (fun vv ww hp => ?_)
  obtain ⟨rr, rfl, rfl, rfl⟩ := hp
  refine ⟨_, rfl, ?_⟩
  refine g_ws (ws' := [(m 0, .inr (5, [.ref (m 1), .ref (m 2), .ref (m 3), .int (nI n), .ref (m 4), .ref (m 5), .ref (m 6), .int (nI ln), .ref (m 7), .ref (m 8)]))]) rfl ?_
  refine g_st (st' := [.int (nI 0)]) rfl ?_
  refine n_if_ne hc (by omega) dX5_seal_4 (tgt := 9) (by decide) (n := 7) rfl (fun c_1 => by (exfalso; revert c_1; first | omega | decide)) (fun c_1 => ?_)
  refine g_iconst (v := nI 4294967295) hc (by decide) dX5_seal_7 (n := 8) rfl ?_
  refine hret.1 _ _ _ _ _ _ rfl (by decide) (by decide) dX5_seal_8 ?_
  exact ⟨_, rfl, rfl, rfl⟩
set_option maxHeartbeats 1000000 in
set_option maxRecDepth 100000 in
theorem c_X5_open_er (κ : Kp) (l : Launch) (m : Nat → Nat) (n : Nat) (ln : Nat) (x : Int32) (hx1 : x < 0 ∨ nI 4 ≤ x) : CT κ l yX5_open cX5_open 2 (some .int) 2 42 0 0 [.ref (m 0), .int x] [(m 0, .inr (5, [.ref (m 1), .ref (m 2), .ref (m 3), .int (nI n), .ref (m 4), .ref (m 5), .ref (m 6), .int (nI ln), .ref (m 7), .ref (m 8)]))] (PI (fun rr ww => rr = (nI 4294967295) ∧ ww = [(m 0, .inr (5, [.ref (m 1), .ref (m 2), .ref (m 3), .int (nI n), .ref (m 4), .ref (m 5), .ref (m 6), .int (nI ln), .ref (m 7), .ref (m 8)]))])) := by
  refine CT.go (plainFor_of_name (by decide)) (Nat.le_of_ble_eq_true rfl) ?_
  intro Γ A Q hl hc hret
  subst hl
  have hc : Cx κ Γ A cX5_open 2 RX5 "open" (some .int) { frames := 2, cells := 0, slots := 0, locals := 42 } := hc
  refine g_lv (lv' := [(0, .ref (m 0)), (1, .int x)]) rfl ?_
  refine g_iload_n hc 1 rfl rfl dX5_open_0 (n := 1) rfl ?_
  refine g_callS (rest := []) (As := [.int x]) (cells' := 0) (slots' := 0) hc (c_X5_isBoard_n κ _ x hx1) q_X5_isBoard k_ml_RX5_96 rfl rfl (jn_ix (wr := [(m 0, .inr (5, [.ref (m 1), .ref (m 2), .ref (m 3), .int (nI n), .ref (m 4), .ref (m 5), .ref (m 6), .int (nI ln), .ref (m 7), .ref (m 8)]))]) [] [0] rfl rfl rfl rfl (by decide)) ⟨⟨by decide, by decide⟩, by decide, by decide⟩ (Nat.le_of_ble_eq_true rfl) rfl rfl dX5_open_1 (n := 4) rfl (fun vv ww hp => ?_)
  obtain ⟨rr, rfl, rfl, rfl⟩ := hp
  refine ⟨_, rfl, ?_⟩
  refine g_ws (ws' := [(m 0, .inr (5, [.ref (m 1), .ref (m 2), .ref (m 3), .int (nI n), .ref (m 4), .ref (m 5), .ref (m 6), .int (nI ln), .ref (m 7), .ref (m 8)]))]) rfl ?_
  refine g_st (st' := [.int (nI 0)]) rfl ?_
  refine n_if_ne hc (by omega) dX5_open_4 (tgt := 9) (by decide) (n := 7) rfl (fun c_1 => by (exfalso; revert c_1; first | omega | decide)) (fun c_1 => ?_)
  refine g_iconst (v := nI 4294967295) hc (by decide) dX5_open_7 (n := 8) rfl ?_
  refine hret.1 _ _ _ _ _ _ rfl (by decide) (by decide) dX5_open_8 ?_
  exact ⟨_, rfl, rfl, rfl⟩
set_option maxHeartbeats 1000000 in
set_option maxRecDepth 100000 in
theorem c_X5_deal_ok (κ : Kp) (l : Launch) (m : Nat → Nat) (n : Nat) (ln : Nat) (z : Nat → Nat) (g : Nat → Nat) (hz : Nat → Nat → Nat) (b : Nat) (hv : Zv z) (hn : n ≤ 4) (hg : HB n g hz) (hb : b < 4) (hs0 : z (316 + b) = 0) (hc1 : z 327 = 1) : CT κ l yX5_deal cX5_deal 3 (some .int) 2 47 0 0 [.ref (m 0), .int (nI b)] [(m 0, .inr (5, [.ref (m 1), .ref (m 2), .ref (m 3), .int (nI n), .ref (m 4), .ref (m 5), .ref (m 6), .int (nI ln), .ref (m 7), .ref (m 8)])), (m 1, aI κ 333 z), (m 3, aI κ 1332 g)] (PI (fun rr ww => ∃ g2 : Nat → Nat, (HB (rn n) g2 (rh n hz z)) ∧ rr = (nI (pt (hd (dez z b) b) 0)) ∧ ww = [(m 0, .inr (5, [.ref (m 1), .ref (m 2), .ref (m 3), .int (nI (rn n)), .ref (m 4), .ref (m 5), .ref (m 6), .int (nI ln), .ref (m 7), .ref (m 8)])), (m 1, aI κ 333 (dez z b)), (m 3, aI κ 1332 g2)])) := by
  refine CT.go (plainFor_of_name (by decide)) (Nat.le_of_ble_eq_true rfl) ?_
  intro Γ A Q hl hc hret
  subst hl
  have hc : Cx κ Γ A cX5_deal 3 RX5 "deal" (some .int) { frames := 2, cells := 0, slots := 0, locals := 47 } := hc
  refine g_lv (lv' := [(0, .ref (m 0)), (1, .int (nI b))]) rfl ?_
  obtain ⟨hzb, hzf, hzc, hp, hh, hk1, hk2, hx⟩ := id hv
  refine g_iload_n hc 1 rfl rfl dX5_deal_0 (n := 1) rfl ?_
  refine g_callS (rest := []) (As := [.int (nI b)]) (cells' := 0) (slots' := 0) hc (c_X5_isBoard_y κ _ b (by omega)) q_X5_isBoard k_ml_RX5_96 rfl rfl (jn_ix (wr := [(m 0, .inr (5, [.ref (m 1), .ref (m 2), .ref (m 3), .int (nI n), .ref (m 4), .ref (m 5), .ref (m 6), .int (nI ln), .ref (m 7), .ref (m 8)])), (m 1, aI κ 333 z), (m 3, aI κ 1332 g)]) [] [0, 1, 2] rfl rfl rfl rfl (by decide)) ⟨⟨by decide, by decide⟩, by decide, by decide⟩ (Nat.le_of_ble_eq_true rfl) rfl rfl dX5_deal_1 (n := 4) rfl (fun vv ww hp => ?_)
  obtain ⟨rr, rfl, rfl, rfl⟩ := hp
  refine ⟨_, rfl, ?_⟩
  refine g_ws (ws' := [(m 0, .inr (5, [.ref (m 1), .ref (m 2), .ref (m 3), .int (nI n), .ref (m 4), .ref (m 5), .ref (m 6), .int (nI ln), .ref (m 7), .ref (m 8)])), (m 1, aI κ 333 z), (m 3, aI κ 1332 g)]) rfl ?_
  refine g_st (st' := [.int (nI 1)]) rfl ?_
  refine n_if_ne hc (by omega) dX5_deal_4 (tgt := 9) (by decide) (n := 7) rfl (fun c_1 => ?_) (fun c_1 => by (exfalso; revert c_1; first | omega | decide))
  refine g_aload_n hc 0 rfl rfl dX5_deal_9 (n := 10) rfl ?_
  refine g_getf hc 0 rfl vw_5 inX5 0 (by decide) k_fl_RX5_7 rfl rfl dX5_deal_10 (n := 13) rfl ?_
  refine g_sipush (v := nI 316) hc (by decide) dX5_deal_13 (n := 16) rfl ?_
  refine g_iload_n hc 1 rfl rfl dX5_deal_16 (n := 17) rfl ?_
  refine n_iadd (v := 316 + b) hc rfl dX5_deal_17 (n := 18) rfl ?_
  refine n_iald (v := z (316 + b)) hc 1 rfl (by omega) (by decide) rfl dX5_deal_18 (n := 19) rfl ?_
  refine g_iconst (v := nI 1) hc (by decide) dX5_deal_19 (n := 20) rfl ?_
  refine n_icmp_eq hc (by omega) (by omega) dX5_deal_20 (tgt := 34) (by decide) (n := 23) rfl (fun c_2 => by (exfalso; revert c_2; first | omega | decide)) (fun c_2 => ?_)
  refine g_aload_n hc 0 rfl rfl dX5_deal_23 (n := 24) rfl ?_
  refine g_getf hc 0 rfl vw_5 inX5 0 (by decide) k_fl_RX5_7 rfl rfl dX5_deal_24 (n := 27) rfl ?_
  refine g_sipush (v := nI 327) hc (by decide) dX5_deal_27 (n := 30) rfl ?_
  refine n_iald (v := z 327) hc 1 rfl (by omega) (by decide) rfl dX5_deal_30 (n := 31) rfl ?_
  refine n_if_ne hc (by omega) dX5_deal_31 (tgt := 37) (by decide) (n := 34) rfl (fun c_3 => ?_) (fun c_3 => by (exfalso; revert c_3; first | omega | decide))
  refine g_aload_n hc 0 rfl rfl dX5_deal_37 (n := 38) rfl ?_
  refine g_callV (rest := []) (As := []) (cells' := 0) (slots' := 0) hc (c_X5_record κ _ m n ln z g hz hn hg) q_X5_record k_ml_RX5_47 rfl rfl (jn_ix (wr := []) [0, 1, 2] [] rfl rfl rfl rfl (by decide)) (qr := 0) rfl vw_5 ⟨⟨by decide, by decide⟩, by decide, by decide⟩ (Nat.le_of_ble_eq_true rfl) rfl rfl dX5_deal_38 (n := 41) rfl (fun vv ww hp => ?_)
  obtain ⟨rfl, g2, hg2, rfl⟩ := hp
  refine ⟨_, rfl, ?_⟩
  refine g_ws (ws' := [(m 0, .inr (5, [.ref (m 1), .ref (m 2), .ref (m 3), .int (nI (rn n)), .ref (m 4), .ref (m 5), .ref (m 6), .int (nI ln), .ref (m 7), .ref (m 8)])), (m 1, aI κ 333 z), (m 3, aI κ 1332 g2)]) rfl ?_
  refine g_st (st' := []) rfl ?_
  refine g_iconst (v := nI 0) hc (by decide) dX5_deal_41 (n := 42) rfl ?_
  refine g_istore_n (lv2 := [(0, .ref (m 0)), (1, .int (nI b)), (2, .int (nI 0))]) hc rfl (by decide) [1, 2, 0] rfl rfl dX5_deal_42 (n := 43) rfl ?_
  have L_4 : ∀ (fuel : Nat) (i : Nat) (y : Nat → Nat), (i ≤ 52) → (∀ k, k < i → y (104 + 52 * b + z k) = k % 4) → (∀ k, (k < 104 + 52 * b ∨ 156 + 52 * b ≤ k) → y k = z k) → 52 - i < fuel → G κ Γ A 3 0 0 Q [(m 0, .inr (5, [.ref (m 1), .ref (m 2), .ref (m 3), .int (nI (rn n)), .ref (m 4), .ref (m 5), .ref (m 6), .int (nI ln), .ref (m 7), .ref (m 8)])), (m 1, aI κ 333 y), (m 3, aI κ 1332 g2)] 43 [(0, .ref (m 0)), (1, .int (nI b)), (2, .int (nI i))] [] := by
    intro fuel
    induction fuel with
    | zero => intro i y hi h1 h2 h; exact absurd h (Nat.not_lt_zero _)
    | succ fuel ih_5 =>
      intro i y hi h1 h2 hn_6
      refine g_iload_n hc 2 rfl rfl dX5_deal_43 (n := 44) rfl ?_
      refine g_bipush (v := nI 52) hc (by decide) dX5_deal_44 (n := 46) rfl ?_
      refine n_icmp_ge hc (by omega) (by omega) dX5_deal_46 (tgt := 77) (by decide) (n := 49) rfl (fun c_7 => ?_) (fun c_7 => ?_)
      · skip
        refine g_aload_n hc 0 rfl rfl dX5_deal_77 (n := 78) rfl ?_
        refine g_getf hc 0 rfl vw_5 inX5 0 (by decide) k_fl_RX5_7 rfl rfl dX5_deal_78 (n := 81) rfl ?_
        refine g_sipush (v := nI 312) hc (by decide) dX5_deal_81 (n := 84) rfl ?_
        refine g_iload_n hc 1 rfl rfl dX5_deal_84 (n := 85) rfl ?_
        refine n_iadd (v := 312 + b) hc rfl dX5_deal_85 (n := 86) rfl ?_
        refine g_iconst (v := nI 1) hc (by decide) dX5_deal_86 (n := 87) rfl ?_
        refine n_iast (ws' := [(m 0, .inr (5, [.ref (m 1), .ref (m 2), .ref (m 3), .int (nI (rn n)), .ref (m 4), .ref (m 5), .ref (m 6), .int (nI ln), .ref (m 7), .ref (m 8)])), (m 1, aI κ 333 (va_up y (312 + b) 1)), (m 3, aI κ 1332 g2)]) hc 1 rfl (by omega) (by decide) rfl dX5_deal_87 (n := 88) rfl ?_
        refine g_aload_n hc 0 rfl rfl dX5_deal_88 (n := 89) rfl ?_
        refine g_getf hc 0 rfl vw_5 inX5 0 (by decide) k_fl_RX5_7 rfl rfl dX5_deal_89 (n := 92) rfl ?_
        refine g_sipush (v := nI 320) hc (by decide) dX5_deal_92 (n := 95) rfl ?_
        refine g_iload_n hc 1 rfl rfl dX5_deal_95 (n := 96) rfl ?_
        refine n_iadd (v := 320 + b) hc rfl dX5_deal_96 (n := 97) rfl ?_
        refine g_iconst (v := nI 0) hc (by decide) dX5_deal_97 (n := 98) rfl ?_
        refine n_iast (ws' := [(m 0, .inr (5, [.ref (m 1), .ref (m 2), .ref (m 3), .int (nI (rn n)), .ref (m 4), .ref (m 5), .ref (m 6), .int (nI ln), .ref (m 7), .ref (m 8)])), (m 1, aI κ 333 (va_up (va_up y (312 + b) 1) (320 + b) 0)), (m 3, aI κ 1332 g2)]) hc 1 rfl (by omega) (by decide) rfl dX5_deal_98 (n := 99) rfl ?_
        refine g_aload_n hc 0 rfl rfl dX5_deal_99 (n := 100) rfl ?_
        refine g_getf hc 0 rfl vw_5 inX5 0 (by decide) k_fl_RX5_7 rfl rfl dX5_deal_100 (n := 103) rfl ?_
        refine g_sipush (v := nI 327) hc (by decide) dX5_deal_103 (n := 106) rfl ?_
        refine g_iconst (v := nI 0) hc (by decide) dX5_deal_106 (n := 107) rfl ?_
        refine n_iast (ws' := [(m 0, .inr (5, [.ref (m 1), .ref (m 2), .ref (m 3), .int (nI (rn n)), .ref (m 4), .ref (m 5), .ref (m 6), .int (nI ln), .ref (m 7), .ref (m 8)])), (m 1, aI κ 333 (va_up (va_up (va_up y (312 + b) 1) (320 + b) 0) 327 0)), (m 3, aI κ 1332 g2)]) hc 1 rfl (by omega) (by decide) rfl dX5_deal_107 (n := 108) rfl ?_
        refine g_aload_n hc 0 rfl rfl dX5_deal_108 (n := 109) rfl ?_
        refine g_getf hc 0 rfl vw_5 inX5 0 (by decide) k_fl_RX5_7 rfl rfl dX5_deal_109 (n := 112) rfl ?_
        refine g_sipush (v := nI 331) hc (by decide) dX5_deal_112 (n := 115) rfl ?_
        refine g_dup2 hc rfl rfl dX5_deal_115 (n := 116) rfl ?_
        refine n_iald (v := z 331) hc 1 rfl (by omega) (by decide) ((va_up_ne _ _ (by omega)).trans ((va_up_ne _ _ (by omega)).trans ((va_up_ne _ _ (by omega)).trans (h2 331 (Or.inr (by omega)))))) dX5_deal_116 (n := 117) rfl ?_
        refine g_iconst (v := nI 1) hc (by decide) dX5_deal_117 (n := 118) rfl ?_
        refine n_iadd (v := (z 331) + 1) hc rfl dX5_deal_118 (n := 119) rfl ?_
        refine n_iast (ws' := [(m 0, .inr (5, [.ref (m 1), .ref (m 2), .ref (m 3), .int (nI (rn n)), .ref (m 4), .ref (m 5), .ref (m 6), .int (nI ln), .ref (m 7), .ref (m 8)])), (m 1, aI κ 333 (va_up (va_up (va_up (va_up y (312 + b) 1) (320 + b) 0) 327 0) 331 ((z 331) + 1))), (m 3, aI κ 1332 g2)]) hc 1 rfl (by omega) (by decide) rfl dX5_deal_119 (n := 120) rfl ?_
        refine g_arr (ws' := [(m 0, .inr (5, [.ref (m 1), .ref (m 2), .ref (m 3), .int (nI (rn n)), .ref (m 4), .ref (m 5), .ref (m 6), .int (nI ln), .ref (m 7), .ref (m 8)])), (m 1, aI κ 333 (dez z b)), (m 3, aI κ 1332 g2)]) (f := va_up (va_up (va_up (va_up y (312 + b) 1) (320 + b) 0) 327 0) 331 ((z 331) + 1)) (g := dez z b) 1 rfl (fun k hk => dez_of hb hp (fun k hk => h1 k (by omega)) h2 k) rfl ?_
        refine g_aload_n hc 0 rfl rfl dX5_deal_120 (n := 121) rfl ?_
        refine g_iload_n hc 1 rfl rfl dX5_deal_121 (n := 122) rfl ?_
        refine g_iconst (v := nI 0) hc (by decide) dX5_deal_122 (n := 123) rfl ?_
        refine g_callV (rest := []) (As := [.int (nI b), .int (nI 0)]) (cells' := 0) (slots' := 0) hc (c_X5_pointsOf κ _ m (rn n) ln (dez z b) b 0 hb (by decide) (fun k hk => dez_hd k hk)) q_X5_pointsOf k_ml_RX5_99 rfl rfl (jn_ix (wr := [(m 3, aI κ 1332 g2)]) [0, 1] [2] rfl rfl rfl rfl (by decide)) (qr := 0) rfl vw_5 ⟨⟨by decide, by decide⟩, by decide, by decide⟩ (Nat.le_of_ble_eq_true rfl) rfl rfl dX5_deal_123 (n := 126) rfl (fun vv ww hp => ?_)
        obtain ⟨rr, rfl, rfl, rfl⟩ := hp
        refine ⟨_, rfl, ?_⟩
        refine g_ws (ws' := [(m 3, aI κ 1332 g2), (m 0, .inr (5, [.ref (m 1), .ref (m 2), .ref (m 3), .int (nI (rn n)), .ref (m 4), .ref (m 5), .ref (m 6), .int (nI ln), .ref (m 7), .ref (m 8)])), (m 1, aI κ 333 (dez z b))]) rfl ?_
        refine g_st (st' := [.int (nI (pt (hd (dez z b) b) 0))]) rfl ?_
        refine g_sub (ws' := [(m 0, .inr (5, [.ref (m 1), .ref (m 2), .ref (m 3), .int (nI (rn n)), .ref (m 4), .ref (m 5), .ref (m 6), .int (nI ln), .ref (m 7), .ref (m 8)])), (m 1, aI κ 333 (dez z b)), (m 3, aI κ 1332 g2)]) [1, 2, 0] rfl rfl ?_
        refine hret.1 _ _ _ _ _ _ rfl (by decide) (by decide) dX5_deal_126 ?_
        exact ⟨_, rfl, g2, (by assumption), rfl, rfl⟩
      · skip
        refine g_aload_n hc 0 rfl rfl dX5_deal_49 (n := 50) rfl ?_
        refine g_getf hc 0 rfl vw_5 inX5 0 (by decide) k_fl_RX5_7 rfl rfl dX5_deal_50 (n := 53) rfl ?_
        refine g_bipush (v := nI 104) hc (by decide) dX5_deal_53 (n := 55) rfl ?_
        refine g_bipush (v := nI 52) hc (by decide) dX5_deal_55 (n := 57) rfl ?_
        refine g_iload_n hc 1 rfl rfl dX5_deal_57 (n := 58) rfl ?_
        refine n_imul (v := 52 * b) hc rfl dX5_deal_58 (n := 59) rfl ?_
        refine n_iadd (v := 104 + (52 * b)) hc rfl dX5_deal_59 (n := 60) rfl ?_
        refine g_aload_n hc 0 rfl rfl dX5_deal_60 (n := 61) rfl ?_
        refine g_getf hc 0 rfl vw_5 inX5 0 (by decide) k_fl_RX5_7 rfl rfl dX5_deal_61 (n := 64) rfl ?_
        refine g_iload_n hc 2 rfl rfl dX5_deal_64 (n := 65) rfl ?_
        refine n_iald (v := z i) hc 1 rfl (by omega) (by decide) (h2 i (Or.inl (by omega))) dX5_deal_65 (n := 66) rfl ?_
        have hpi := hp.1 i (by omega)
        refine n_iadd (v := (104 + (52 * b)) + (z i)) hc rfl dX5_deal_66 (n := 67) rfl ?_
        refine g_iload_n hc 2 rfl rfl dX5_deal_67 (n := 68) rfl ?_
        refine g_iconst (v := nI 4) hc (by decide) dX5_deal_68 (n := 69) rfl ?_
        refine n_irem (v := i % 4) hc (by omega) (by decide) (by decide) rfl dX5_deal_69 (n := 70) rfl ?_
        refine n_iast (ws' := [(m 0, .inr (5, [.ref (m 1), .ref (m 2), .ref (m 3), .int (nI (rn n)), .ref (m 4), .ref (m 5), .ref (m 6), .int (nI ln), .ref (m 7), .ref (m 8)])), (m 1, aI κ 333 (va_up y ((104 + (52 * b)) + (z i)) (i % 4))), (m 3, aI κ 1332 g2)]) hc 1 rfl (by omega) (by decide) rfl dX5_deal_70 (n := 71) rfl ?_
        refine n_iinc (v := i + 1) (zk := 1) (lv2 := [(0, .ref (m 0)), (1, .int (nI b)), (2, .int (nI (i + 1)))]) hc 2 rfl (by decide) rfl (by decide) [1, 2, 0] rfl rfl dX5_deal_71 (n := 74) rfl ?_
        refine g_goto (n := 43) hc dX5_deal_74 (by decide) ?_
        exact ih_5 (i + 1) (va_up y ((104 + (52 * b)) + (z i)) (i % 4)) (by omega) (fun k hk => (Nat.lt_succ_iff_lt_or_eq.mp hk).elim (fun q => (va_up_ne _ _ (fun e => by have := hp.2 k i (by omega) (by omega) (by omega); omega)).trans (h1 k q)) (fun q => by subst q; exact va_up_self _ _ _)) (fun k hk => (va_up_ne _ _ (by omega)).trans (h2 k (by omega))) (by omega)
  exact L_4 _ 0 z (by omega) (fun k hk => absurd hk (Nat.not_lt_zero _)) (fun k hk => rfl) (Nat.lt_succ_self _)
set_option maxHeartbeats 1000000 in
set_option maxRecDepth 100000 in
theorem c_X5_seal_no (κ : Kp) (l : Launch) (m : Nat → Nat) (n : Nat) (ln : Nat) (z : Nat → Nat) (b : Nat) (hb : b < 4) (hno : z (312 + b) = 0 ∨ z (316 + b) = 1) (hf : z (316 + b) ≤ 1) (hg : z (312 + b) ≤ 1) : CT κ l yX5_seal cX5_seal 2 (some .int) 2 42 0 0 [.ref (m 0), .int (nI b)] [(m 0, .inr (5, [.ref (m 1), .ref (m 2), .ref (m 3), .int (nI n), .ref (m 4), .ref (m 5), .ref (m 6), .int (nI ln), .ref (m 7), .ref (m 8)])), (m 1, aI κ 333 z)] (PI (fun rr ww => rr = (nI 4294967291) ∧ ww = [(m 0, .inr (5, [.ref (m 1), .ref (m 2), .ref (m 3), .int (nI n), .ref (m 4), .ref (m 5), .ref (m 6), .int (nI ln), .ref (m 7), .ref (m 8)])), (m 1, aI κ 333 z)])) := by
  refine CT.go (plainFor_of_name (by decide)) (Nat.le_of_ble_eq_true rfl) ?_
  intro Γ A Q hl hc hret
  subst hl
  have hc : Cx κ Γ A cX5_seal 2 RX5 "seal" (some .int) { frames := 2, cells := 0, slots := 0, locals := 42 } := hc
  refine g_lv (lv' := [(0, .ref (m 0)), (1, .int (nI b))]) rfl ?_
  refine g_iload_n hc 1 rfl rfl dX5_seal_0 (n := 1) rfl ?_
  refine g_callS (rest := []) (As := [.int (nI b)]) (cells' := 0) (slots' := 0) hc (c_X5_isBoard_y κ _ b (by omega)) q_X5_isBoard k_ml_RX5_96 rfl rfl (jn_ix (wr := [(m 0, .inr (5, [.ref (m 1), .ref (m 2), .ref (m 3), .int (nI n), .ref (m 4), .ref (m 5), .ref (m 6), .int (nI ln), .ref (m 7), .ref (m 8)])), (m 1, aI κ 333 z)]) [] [0, 1] rfl rfl rfl rfl (by decide)) ⟨⟨by decide, by decide⟩, by decide, by decide⟩ (Nat.le_of_ble_eq_true rfl) rfl rfl dX5_seal_1 (n := 4) rfl (fun vv ww hp => ?_)
  obtain ⟨rr, rfl, rfl, rfl⟩ := hp
  refine ⟨_, rfl, ?_⟩
  refine g_ws (ws' := [(m 0, .inr (5, [.ref (m 1), .ref (m 2), .ref (m 3), .int (nI n), .ref (m 4), .ref (m 5), .ref (m 6), .int (nI ln), .ref (m 7), .ref (m 8)])), (m 1, aI κ 333 z)]) rfl ?_
  refine g_st (st' := [.int (nI 1)]) rfl ?_
  refine n_if_ne hc (by omega) dX5_seal_4 (tgt := 9) (by decide) (n := 7) rfl (fun c_1 => ?_) (fun c_1 => by (exfalso; revert c_1; first | omega | decide))
  refine g_aload_n hc 0 rfl rfl dX5_seal_9 (n := 10) rfl ?_
  refine g_getf hc 0 rfl vw_5 inX5 0 (by decide) k_fl_RX5_7 rfl rfl dX5_seal_10 (n := 13) rfl ?_
  refine g_sipush (v := nI 312) hc (by decide) dX5_seal_13 (n := 16) rfl ?_
  refine g_iload_n hc 1 rfl rfl dX5_seal_16 (n := 17) rfl ?_
  refine n_iadd (v := 312 + b) hc rfl dX5_seal_17 (n := 18) rfl ?_
  refine n_iald (v := z (312 + b)) hc 1 rfl (by omega) (by decide) rfl dX5_seal_18 (n := 19) rfl ?_
  refine n_if_eq hc (by omega) dX5_seal_19 (tgt := 36) (by decide) (n := 22) rfl (fun c_2 => ?_) (fun c_2 => ?_)
  · skip
    refine g_bipush (v := nI 4294967291) hc (by decide) dX5_seal_36 (n := 38) rfl ?_
    refine hret.1 _ _ _ _ _ _ rfl (by decide) (by decide) dX5_seal_38 ?_
    exact ⟨_, rfl, rfl, rfl⟩
  · skip
    refine g_aload_n hc 0 rfl rfl dX5_seal_22 (n := 23) rfl ?_
    refine g_getf hc 0 rfl vw_5 inX5 0 (by decide) k_fl_RX5_7 rfl rfl dX5_seal_23 (n := 26) rfl ?_
    refine g_sipush (v := nI 316) hc (by decide) dX5_seal_26 (n := 29) rfl ?_
    refine g_iload_n hc 1 rfl rfl dX5_seal_29 (n := 30) rfl ?_
    refine n_iadd (v := 316 + b) hc rfl dX5_seal_30 (n := 31) rfl ?_
    refine n_iald (v := z (316 + b)) hc 1 rfl (by omega) (by decide) rfl dX5_seal_31 (n := 32) rfl ?_
    refine g_iconst (v := nI 1) hc (by decide) dX5_seal_32 (n := 33) rfl ?_
    refine n_icmp_ne hc (by omega) (by omega) dX5_seal_33 (tgt := 39) (by decide) (n := 36) rfl (fun c_3 => by (exfalso; revert c_3; first | omega | decide)) (fun c_3 => ?_)
    refine g_bipush (v := nI 4294967291) hc (by decide) dX5_seal_36 (n := 38) rfl ?_
    refine hret.1 _ _ _ _ _ _ rfl (by decide) (by decide) dX5_seal_38 ?_
    exact ⟨_, rfl, rfl, rfl⟩
set_option maxHeartbeats 1000000 in
set_option maxRecDepth 100000 in
theorem c_X5_seal_ok (κ : Kp) (l : Launch) (m : Nat → Nat) (n : Nat) (ln : Nat) (z : Nat → Nat) (g : Nat → Nat) (hz : Nat → Nat → Nat) (b : Nat) (hv : Zv z) (hn : n ≤ 4) (hg : HB n g hz) (hb : b < 4) (hh1 : z (312 + b) = 1) (hs0 : z (316 + b) = 0) : CT κ l yX5_seal cX5_seal 2 (some .int) 2 42 0 0 [.ref (m 0), .int (nI b)] [(m 0, .inr (5, [.ref (m 1), .ref (m 2), .ref (m 3), .int (nI n), .ref (m 4), .ref (m 5), .ref (m 6), .int (nI ln), .ref (m 7), .ref (m 8)])), (m 1, aI κ 333 z), (m 3, aI κ 1332 g)] (PI (fun rr ww => ∃ g2 : Nat → Nat, (HB (rn n) g2 (rh n hz z)) ∧ rr = (nI (sm (fun k => sez z b (316 + k)) 4)) ∧ ww = [(m 0, .inr (5, [.ref (m 1), .ref (m 2), .ref (m 3), .int (nI (rn n)), .ref (m 4), .ref (m 5), .ref (m 6), .int (nI ln), .ref (m 7), .ref (m 8)])), (m 1, aI κ 333 (sez z b)), (m 3, aI κ 1332 g2)])) := by
  refine CT.go (plainFor_of_name (by decide)) (Nat.le_of_ble_eq_true rfl) ?_
  intro Γ A Q hl hc hret
  subst hl
  have hc : Cx κ Γ A cX5_seal 2 RX5 "seal" (some .int) { frames := 2, cells := 0, slots := 0, locals := 42 } := hc
  refine g_lv (lv' := [(0, .ref (m 0)), (1, .int (nI b))]) rfl ?_
  obtain ⟨hzb, hzf, hzc, hp, hh, hk1, hk2, hx⟩ := id hv
  refine g_iload_n hc 1 rfl rfl dX5_seal_0 (n := 1) rfl ?_
  refine g_callS (rest := []) (As := [.int (nI b)]) (cells' := 0) (slots' := 0) hc (c_X5_isBoard_y κ _ b (by omega)) q_X5_isBoard k_ml_RX5_96 rfl rfl (jn_ix (wr := [(m 0, .inr (5, [.ref (m 1), .ref (m 2), .ref (m 3), .int (nI n), .ref (m 4), .ref (m 5), .ref (m 6), .int (nI ln), .ref (m 7), .ref (m 8)])), (m 1, aI κ 333 z), (m 3, aI κ 1332 g)]) [] [0, 1, 2] rfl rfl rfl rfl (by decide)) ⟨⟨by decide, by decide⟩, by decide, by decide⟩ (Nat.le_of_ble_eq_true rfl) rfl rfl dX5_seal_1 (n := 4) rfl (fun vv ww hp => ?_)
  obtain ⟨rr, rfl, rfl, rfl⟩ := hp
  refine ⟨_, rfl, ?_⟩
  refine g_ws (ws' := [(m 0, .inr (5, [.ref (m 1), .ref (m 2), .ref (m 3), .int (nI n), .ref (m 4), .ref (m 5), .ref (m 6), .int (nI ln), .ref (m 7), .ref (m 8)])), (m 1, aI κ 333 z), (m 3, aI κ 1332 g)]) rfl ?_
  refine g_st (st' := [.int (nI 1)]) rfl ?_
  refine n_if_ne hc (by omega) dX5_seal_4 (tgt := 9) (by decide) (n := 7) rfl (fun c_1 => ?_) (fun c_1 => by (exfalso; revert c_1; first | omega | decide))
  refine g_aload_n hc 0 rfl rfl dX5_seal_9 (n := 10) rfl ?_
  refine g_getf hc 0 rfl vw_5 inX5 0 (by decide) k_fl_RX5_7 rfl rfl dX5_seal_10 (n := 13) rfl ?_
  refine g_sipush (v := nI 312) hc (by decide) dX5_seal_13 (n := 16) rfl ?_
  refine g_iload_n hc 1 rfl rfl dX5_seal_16 (n := 17) rfl ?_
  refine n_iadd (v := 312 + b) hc rfl dX5_seal_17 (n := 18) rfl ?_
  refine n_iald (v := z (312 + b)) hc 1 rfl (by omega) (by decide) rfl dX5_seal_18 (n := 19) rfl ?_
  refine n_if_eq hc (by omega) dX5_seal_19 (tgt := 36) (by decide) (n := 22) rfl (fun c_2 => by (exfalso; revert c_2; first | omega | decide)) (fun c_2 => ?_)
  refine g_aload_n hc 0 rfl rfl dX5_seal_22 (n := 23) rfl ?_
  refine g_getf hc 0 rfl vw_5 inX5 0 (by decide) k_fl_RX5_7 rfl rfl dX5_seal_23 (n := 26) rfl ?_
  refine g_sipush (v := nI 316) hc (by decide) dX5_seal_26 (n := 29) rfl ?_
  refine g_iload_n hc 1 rfl rfl dX5_seal_29 (n := 30) rfl ?_
  refine n_iadd (v := 316 + b) hc rfl dX5_seal_30 (n := 31) rfl ?_
  refine n_iald (v := z (316 + b)) hc 1 rfl (by omega) (by decide) rfl dX5_seal_31 (n := 32) rfl ?_
  refine g_iconst (v := nI 1) hc (by decide) dX5_seal_32 (n := 33) rfl ?_
  refine n_icmp_ne hc (by omega) (by omega) dX5_seal_33 (tgt := 39) (by decide) (n := 36) rfl (fun c_3 => ?_) (fun c_3 => by (exfalso; revert c_3; first | omega | decide))
  refine g_aload_n hc 0 rfl rfl dX5_seal_39 (n := 40) rfl ?_
  refine g_callV (rest := []) (As := []) (cells' := 0) (slots' := 0) hc (c_X5_record κ _ m n ln z g hz hn hg) q_X5_record k_ml_RX5_47 rfl rfl (jn_ix (wr := []) [0, 1, 2] [] rfl rfl rfl rfl (by decide)) (qr := 0) rfl vw_5 ⟨⟨by decide, by decide⟩, by decide, by decide⟩ (Nat.le_of_ble_eq_true rfl) rfl rfl dX5_seal_40 (n := 43) rfl (fun vv ww hp => ?_)
  obtain ⟨rfl, g2, hg2, rfl⟩ := hp
  refine ⟨_, rfl, ?_⟩
  refine g_ws (ws' := [(m 0, .inr (5, [.ref (m 1), .ref (m 2), .ref (m 3), .int (nI (rn n)), .ref (m 4), .ref (m 5), .ref (m 6), .int (nI ln), .ref (m 7), .ref (m 8)])), (m 1, aI κ 333 z), (m 3, aI κ 1332 g2)]) rfl ?_
  refine g_st (st' := []) rfl ?_
  refine g_aload_n hc 0 rfl rfl dX5_seal_43 (n := 44) rfl ?_
  refine g_getf hc 0 rfl vw_5 inX5 0 (by decide) k_fl_RX5_7 rfl rfl dX5_seal_44 (n := 47) rfl ?_
  refine g_sipush (v := nI 316) hc (by decide) dX5_seal_47 (n := 50) rfl ?_
  refine g_iload_n hc 1 rfl rfl dX5_seal_50 (n := 51) rfl ?_
  refine n_iadd (v := 316 + b) hc rfl dX5_seal_51 (n := 52) rfl ?_
  refine g_iconst (v := nI 1) hc (by decide) dX5_seal_52 (n := 53) rfl ?_
  refine n_iast (ws' := [(m 0, .inr (5, [.ref (m 1), .ref (m 2), .ref (m 3), .int (nI (rn n)), .ref (m 4), .ref (m 5), .ref (m 6), .int (nI ln), .ref (m 7), .ref (m 8)])), (m 1, aI κ 333 (va_up z (316 + b) 1)), (m 3, aI κ 1332 g2)]) hc 1 rfl (by omega) (by decide) rfl dX5_seal_53 (n := 54) rfl ?_
  refine g_arr (ws' := [(m 0, .inr (5, [.ref (m 1), .ref (m 2), .ref (m 3), .int (nI (rn n)), .ref (m 4), .ref (m 5), .ref (m 6), .int (nI ln), .ref (m 7), .ref (m 8)])), (m 1, aI κ 333 (sez z b)), (m 3, aI κ 1332 g2)]) (f := va_up z (316 + b) 1) (g := sez z b) 1 rfl (fun k hk => rfl) rfl ?_
  refine g_aload_n hc 0 rfl rfl dX5_seal_54 (n := 55) rfl ?_
  refine g_sipush (v := nI 316) hc (by decide) dX5_seal_55 (n := 58) rfl ?_
  refine g_callV (rest := []) (As := [.int (nI 316)]) (cells' := 0) (slots' := 0) hc (c_X5_boardsOf κ _ m (rn n) ln (sez z b) 316 (by decide)) q_X5_boardsOf k_ml_RX5_43 rfl rfl (jn_ix (wr := [(m 3, aI κ 1332 g2)]) [0, 1] [2] rfl rfl rfl rfl (by decide)) (qr := 0) rfl vw_5 ⟨⟨by decide, by decide⟩, by decide, by decide⟩ (Nat.le_of_ble_eq_true rfl) rfl rfl dX5_seal_58 (n := 61) rfl (fun vv ww hp => ?_)
  obtain ⟨rr, rfl, rfl, rfl⟩ := hp
  refine ⟨_, rfl, ?_⟩
  refine g_ws (ws' := [(m 3, aI κ 1332 g2), (m 0, .inr (5, [.ref (m 1), .ref (m 2), .ref (m 3), .int (nI (rn n)), .ref (m 4), .ref (m 5), .ref (m 6), .int (nI ln), .ref (m 7), .ref (m 8)])), (m 1, aI κ 333 (sez z b))]) rfl ?_
  refine g_st (st' := [.int (nI (sm (fun k => (sez z b) (316 + k)) 4))]) rfl ?_
  refine g_sub (ws' := [(m 0, .inr (5, [.ref (m 1), .ref (m 2), .ref (m 3), .int (nI (rn n)), .ref (m 4), .ref (m 5), .ref (m 6), .int (nI ln), .ref (m 7), .ref (m 8)])), (m 1, aI κ 333 (sez z b)), (m 3, aI κ 1332 g2)]) [1, 2, 0] rfl rfl ?_
  refine hret.1 _ _ _ _ _ _ rfl (by decide) (by decide) dX5_seal_61 ?_
  exact ⟨_, rfl, g2, (by assumption), rfl, rfl⟩
set_option maxHeartbeats 1000000 in
set_option maxRecDepth 100000 in
theorem c_X5_open_no (κ : Kp) (l : Launch) (m : Nat → Nat) (n : Nat) (ln : Nat) (z : Nat → Nat) (b : Nat) (hb : b < 4) (hs0 : z (316 + b) = 0) : CT κ l yX5_open cX5_open 2 (some .int) 2 42 0 0 [.ref (m 0), .int (nI b)] [(m 0, .inr (5, [.ref (m 1), .ref (m 2), .ref (m 3), .int (nI n), .ref (m 4), .ref (m 5), .ref (m 6), .int (nI ln), .ref (m 7), .ref (m 8)])), (m 1, aI κ 333 z)] (PI (fun rr ww => rr = (nI 4294967291) ∧ ww = [(m 0, .inr (5, [.ref (m 1), .ref (m 2), .ref (m 3), .int (nI n), .ref (m 4), .ref (m 5), .ref (m 6), .int (nI ln), .ref (m 7), .ref (m 8)])), (m 1, aI κ 333 z)])) := by
  refine CT.go (plainFor_of_name (by decide)) (Nat.le_of_ble_eq_true rfl) ?_
  intro Γ A Q hl hc hret
  subst hl
  have hc : Cx κ Γ A cX5_open 2 RX5 "open" (some .int) { frames := 2, cells := 0, slots := 0, locals := 42 } := hc
  refine g_lv (lv' := [(0, .ref (m 0)), (1, .int (nI b))]) rfl ?_
  refine g_iload_n hc 1 rfl rfl dX5_open_0 (n := 1) rfl ?_
  refine g_callS (rest := []) (As := [.int (nI b)]) (cells' := 0) (slots' := 0) hc (c_X5_isBoard_y κ _ b (by omega)) q_X5_isBoard k_ml_RX5_96 rfl rfl (jn_ix (wr := [(m 0, .inr (5, [.ref (m 1), .ref (m 2), .ref (m 3), .int (nI n), .ref (m 4), .ref (m 5), .ref (m 6), .int (nI ln), .ref (m 7), .ref (m 8)])), (m 1, aI κ 333 z)]) [] [0, 1] rfl rfl rfl rfl (by decide)) ⟨⟨by decide, by decide⟩, by decide, by decide⟩ (Nat.le_of_ble_eq_true rfl) rfl rfl dX5_open_1 (n := 4) rfl (fun vv ww hp => ?_)
  obtain ⟨rr, rfl, rfl, rfl⟩ := hp
  refine ⟨_, rfl, ?_⟩
  refine g_ws (ws' := [(m 0, .inr (5, [.ref (m 1), .ref (m 2), .ref (m 3), .int (nI n), .ref (m 4), .ref (m 5), .ref (m 6), .int (nI ln), .ref (m 7), .ref (m 8)])), (m 1, aI κ 333 z)]) rfl ?_
  refine g_st (st' := [.int (nI 1)]) rfl ?_
  refine n_if_ne hc (by omega) dX5_open_4 (tgt := 9) (by decide) (n := 7) rfl (fun c_1 => ?_) (fun c_1 => by (exfalso; revert c_1; first | omega | decide))
  refine g_aload_n hc 0 rfl rfl dX5_open_9 (n := 10) rfl ?_
  refine g_getf hc 0 rfl vw_5 inX5 0 (by decide) k_fl_RX5_7 rfl rfl dX5_open_10 (n := 13) rfl ?_
  refine g_sipush (v := nI 316) hc (by decide) dX5_open_13 (n := 16) rfl ?_
  refine g_iload_n hc 1 rfl rfl dX5_open_16 (n := 17) rfl ?_
  refine n_iadd (v := 316 + b) hc rfl dX5_open_17 (n := 18) rfl ?_
  refine n_iald (v := z (316 + b)) hc 1 rfl (by omega) (by decide) rfl dX5_open_18 (n := 19) rfl ?_
  refine n_if_ne hc (by omega) dX5_open_19 (tgt := 25) (by decide) (n := 22) rfl (fun c_2 => by (exfalso; revert c_2; first | omega | decide)) (fun c_2 => ?_)
  refine g_bipush (v := nI 4294967291) hc (by decide) dX5_open_22 (n := 24) rfl ?_
  refine hret.1 _ _ _ _ _ _ rfl (by decide) (by decide) dX5_open_24 ?_
  exact ⟨_, rfl, rfl, rfl⟩
set_option maxHeartbeats 1000000 in
set_option maxRecDepth 100000 in
theorem c_X5_open_ok (κ : Kp) (l : Launch) (m : Nat → Nat) (n : Nat) (ln : Nat) (z : Nat → Nat) (g : Nat → Nat) (hz : Nat → Nat → Nat) (b : Nat) (hv : Zv z) (hn : n ≤ 4) (hg : HB n g hz) (hb : b < 4) (hs1 : z (316 + b) = 1) : CT κ l yX5_open cX5_open 2 (some .int) 2 42 0 0 [.ref (m 0), .int (nI b)] [(m 0, .inr (5, [.ref (m 1), .ref (m 2), .ref (m 3), .int (nI n), .ref (m 4), .ref (m 5), .ref (m 6), .int (nI ln), .ref (m 7), .ref (m 8)])), (m 1, aI κ 333 z), (m 3, aI κ 1332 g)] (PI (fun rr ww => ∃ g2 : Nat → Nat, (HB (rn n) g2 (rh n hz z)) ∧ rr = (nI (z (320 + b) + 1)) ∧ ww = [(m 0, .inr (5, [.ref (m 1), .ref (m 2), .ref (m 3), .int (nI (rn n)), .ref (m 4), .ref (m 5), .ref (m 6), .int (nI ln), .ref (m 7), .ref (m 8)])), (m 1, aI κ 333 (opz z b)), (m 3, aI κ 1332 g2)])) := by
  refine CT.go (plainFor_of_name (by decide)) (Nat.le_of_ble_eq_true rfl) ?_
  intro Γ A Q hl hc hret
  subst hl
  have hc : Cx κ Γ A cX5_open 2 RX5 "open" (some .int) { frames := 2, cells := 0, slots := 0, locals := 42 } := hc
  refine g_lv (lv' := [(0, .ref (m 0)), (1, .int (nI b))]) rfl ?_
  obtain ⟨hzb, hzf, hzc, hp, hh, hk1, hk2, hx⟩ := id hv
  refine g_iload_n hc 1 rfl rfl dX5_open_0 (n := 1) rfl ?_
  refine g_callS (rest := []) (As := [.int (nI b)]) (cells' := 0) (slots' := 0) hc (c_X5_isBoard_y κ _ b (by omega)) q_X5_isBoard k_ml_RX5_96 rfl rfl (jn_ix (wr := [(m 0, .inr (5, [.ref (m 1), .ref (m 2), .ref (m 3), .int (nI n), .ref (m 4), .ref (m 5), .ref (m 6), .int (nI ln), .ref (m 7), .ref (m 8)])), (m 1, aI κ 333 z), (m 3, aI κ 1332 g)]) [] [0, 1, 2] rfl rfl rfl rfl (by decide)) ⟨⟨by decide, by decide⟩, by decide, by decide⟩ (Nat.le_of_ble_eq_true rfl) rfl rfl dX5_open_1 (n := 4) rfl (fun vv ww hp => ?_)
  obtain ⟨rr, rfl, rfl, rfl⟩ := hp
  refine ⟨_, rfl, ?_⟩
  refine g_ws (ws' := [(m 0, .inr (5, [.ref (m 1), .ref (m 2), .ref (m 3), .int (nI n), .ref (m 4), .ref (m 5), .ref (m 6), .int (nI ln), .ref (m 7), .ref (m 8)])), (m 1, aI κ 333 z), (m 3, aI κ 1332 g)]) rfl ?_
  refine g_st (st' := [.int (nI 1)]) rfl ?_
  refine n_if_ne hc (by omega) dX5_open_4 (tgt := 9) (by decide) (n := 7) rfl (fun c_1 => ?_) (fun c_1 => by (exfalso; revert c_1; first | omega | decide))
  refine g_aload_n hc 0 rfl rfl dX5_open_9 (n := 10) rfl ?_
  refine g_getf hc 0 rfl vw_5 inX5 0 (by decide) k_fl_RX5_7 rfl rfl dX5_open_10 (n := 13) rfl ?_
  refine g_sipush (v := nI 316) hc (by decide) dX5_open_13 (n := 16) rfl ?_
  refine g_iload_n hc 1 rfl rfl dX5_open_16 (n := 17) rfl ?_
  refine n_iadd (v := 316 + b) hc rfl dX5_open_17 (n := 18) rfl ?_
  refine n_iald (v := z (316 + b)) hc 1 rfl (by omega) (by decide) rfl dX5_open_18 (n := 19) rfl ?_
  refine n_if_ne hc (by omega) dX5_open_19 (tgt := 25) (by decide) (n := 22) rfl (fun c_2 => ?_) (fun c_2 => by (exfalso; revert c_2; first | omega | decide))
  refine g_aload_n hc 0 rfl rfl dX5_open_25 (n := 26) rfl ?_
  refine g_callV (rest := []) (As := []) (cells' := 0) (slots' := 0) hc (c_X5_record κ _ m n ln z g hz hn hg) q_X5_record k_ml_RX5_47 rfl rfl (jn_ix (wr := []) [0, 1, 2] [] rfl rfl rfl rfl (by decide)) (qr := 0) rfl vw_5 ⟨⟨by decide, by decide⟩, by decide, by decide⟩ (Nat.le_of_ble_eq_true rfl) rfl rfl dX5_open_26 (n := 29) rfl (fun vv ww hp => ?_)
  obtain ⟨rfl, g2, hg2, rfl⟩ := hp
  refine ⟨_, rfl, ?_⟩
  refine g_ws (ws' := [(m 0, .inr (5, [.ref (m 1), .ref (m 2), .ref (m 3), .int (nI (rn n)), .ref (m 4), .ref (m 5), .ref (m 6), .int (nI ln), .ref (m 7), .ref (m 8)])), (m 1, aI κ 333 z), (m 3, aI κ 1332 g2)]) rfl ?_
  refine g_st (st' := []) rfl ?_
  refine g_aload_n hc 0 rfl rfl dX5_open_29 (n := 30) rfl ?_
  refine g_getf hc 0 rfl vw_5 inX5 0 (by decide) k_fl_RX5_7 rfl rfl dX5_open_30 (n := 33) rfl ?_
  refine g_sipush (v := nI 316) hc (by decide) dX5_open_33 (n := 36) rfl ?_
  refine g_iload_n hc 1 rfl rfl dX5_open_36 (n := 37) rfl ?_
  refine n_iadd (v := 316 + b) hc rfl dX5_open_37 (n := 38) rfl ?_
  refine g_iconst (v := nI 0) hc (by decide) dX5_open_38 (n := 39) rfl ?_
  refine n_iast (ws' := [(m 0, .inr (5, [.ref (m 1), .ref (m 2), .ref (m 3), .int (nI (rn n)), .ref (m 4), .ref (m 5), .ref (m 6), .int (nI ln), .ref (m 7), .ref (m 8)])), (m 1, aI κ 333 (va_up z (316 + b) 0)), (m 3, aI κ 1332 g2)]) hc 1 rfl (by omega) (by decide) rfl dX5_open_39 (n := 40) rfl ?_
  refine g_aload_n hc 0 rfl rfl dX5_open_40 (n := 41) rfl ?_
  refine g_getf hc 0 rfl vw_5 inX5 0 (by decide) k_fl_RX5_7 rfl rfl dX5_open_41 (n := 44) rfl ?_
  refine g_sipush (v := nI 320) hc (by decide) dX5_open_44 (n := 47) rfl ?_
  refine g_iload_n hc 1 rfl rfl dX5_open_47 (n := 48) rfl ?_
  refine n_iadd (v := 320 + b) hc rfl dX5_open_48 (n := 49) rfl ?_
  refine g_dup2 hc rfl rfl dX5_open_49 (n := 50) rfl ?_
  refine n_iald (v := z (320 + b)) hc 1 rfl (by omega) (by decide) (va_up_ne _ _ (by omega)) dX5_open_50 (n := 51) rfl ?_
  refine g_iconst (v := nI 1) hc (by decide) dX5_open_51 (n := 52) rfl ?_
  refine n_iadd (v := (z (320 + b)) + 1) hc rfl dX5_open_52 (n := 53) rfl ?_
  refine n_iast (ws' := [(m 0, .inr (5, [.ref (m 1), .ref (m 2), .ref (m 3), .int (nI (rn n)), .ref (m 4), .ref (m 5), .ref (m 6), .int (nI ln), .ref (m 7), .ref (m 8)])), (m 1, aI κ 333 (va_up (va_up z (316 + b) 0) (320 + b) ((z (320 + b)) + 1))), (m 3, aI κ 1332 g2)]) hc 1 rfl (by omega) (by decide) rfl dX5_open_53 (n := 54) rfl ?_
  refine g_aload_n hc 0 rfl rfl dX5_open_54 (n := 55) rfl ?_
  refine g_getf hc 0 rfl vw_5 inX5 0 (by decide) k_fl_RX5_7 rfl rfl dX5_open_55 (n := 58) rfl ?_
  refine g_sipush (v := nI 332) hc (by decide) dX5_open_58 (n := 61) rfl ?_
  refine g_dup2 hc rfl rfl dX5_open_61 (n := 62) rfl ?_
  refine n_iald (v := z 332) hc 1 rfl (by omega) (by decide) ((va_up_ne _ _ (by omega)).trans (va_up_ne _ _ (by omega))) dX5_open_62 (n := 63) rfl ?_
  refine g_iconst (v := nI 1) hc (by decide) dX5_open_63 (n := 64) rfl ?_
  refine n_iadd (v := (z 332) + 1) hc rfl dX5_open_64 (n := 65) rfl ?_
  refine n_iast (ws' := [(m 0, .inr (5, [.ref (m 1), .ref (m 2), .ref (m 3), .int (nI (rn n)), .ref (m 4), .ref (m 5), .ref (m 6), .int (nI ln), .ref (m 7), .ref (m 8)])), (m 1, aI κ 333 (va_up (va_up (va_up z (316 + b) 0) (320 + b) ((z (320 + b)) + 1)) 332 ((z 332) + 1))), (m 3, aI κ 1332 g2)]) hc 1 rfl (by omega) (by decide) rfl dX5_open_65 (n := 66) rfl ?_
  refine g_aload_n hc 0 rfl rfl dX5_open_66 (n := 67) rfl ?_
  refine g_getf hc 0 rfl vw_5 inX5 0 (by decide) k_fl_RX5_7 rfl rfl dX5_open_67 (n := 70) rfl ?_
  refine g_sipush (v := nI 320) hc (by decide) dX5_open_70 (n := 73) rfl ?_
  refine g_iload_n hc 1 rfl rfl dX5_open_73 (n := 74) rfl ?_
  refine n_iadd (v := 320 + b) hc rfl dX5_open_74 (n := 75) rfl ?_
  refine n_iald (v := z (320 + b) + 1) hc 1 rfl (by omega) (by decide) ((va_up_ne _ _ (by omega)).trans (va_up_self _ _ _)) dX5_open_75 (n := 76) rfl ?_
  refine g_arr (ws' := [(m 0, .inr (5, [.ref (m 1), .ref (m 2), .ref (m 3), .int (nI (rn n)), .ref (m 4), .ref (m 5), .ref (m 6), .int (nI ln), .ref (m 7), .ref (m 8)])), (m 1, aI κ 333 (opz z b)), (m 3, aI κ 1332 g2)]) (f := va_up (va_up (va_up z (316 + b) 0) (320 + b) ((z (320 + b)) + 1)) 332 ((z 332) + 1)) (g := opz z b) 1 rfl (fun k hk => by unfold opz va_up; (repeat' split) <;> first | rfl | (exfalso; omega)) rfl ?_
  refine hret.1 _ _ _ _ _ _ rfl (by decide) (by decide) dX5_open_76 ?_
  exact ⟨_, rfl, g2, (by assumption), rfl, rfl⟩
set_option maxHeartbeats 1000000 in
set_option maxRecDepth 100000 in
theorem c_X5_card_ok (κ : Kp) (l : Launch) (m : Nat → Nat) (n : Nat) (ln : Nat) (z : Nat → Nat) (j : Nat) (hj : j < 52) : CT κ l yX5_card cX5_card 2 (some .int) 2 42 0 0 [.ref (m 0), .int (nI j)] [(m 0, .inr (5, [.ref (m 1), .ref (m 2), .ref (m 3), .int (nI n), .ref (m 4), .ref (m 5), .ref (m 6), .int (nI ln), .ref (m 7), .ref (m 8)])), (m 1, aI κ 333 z)] (PI (fun rr ww => rr = (nI (z j)) ∧ ww = [(m 0, .inr (5, [.ref (m 1), .ref (m 2), .ref (m 3), .int (nI n), .ref (m 4), .ref (m 5), .ref (m 6), .int (nI ln), .ref (m 7), .ref (m 8)])), (m 1, aI κ 333 z)])) := by
  refine CT.go (plainFor_of_name (by decide)) (Nat.le_of_ble_eq_true rfl) ?_
  intro Γ A Q hl hc hret
  subst hl
  have hc : Cx κ Γ A cX5_card 2 RX5 "card" (some .int) { frames := 2, cells := 0, slots := 0, locals := 42 } := hc
  refine g_lv (lv' := [(0, .ref (m 0)), (1, .int (nI j))]) rfl ?_
  refine g_iload_n hc 1 rfl rfl dX5_card_0 (n := 1) rfl ?_
  refine g_callS (rest := []) (As := [.int (nI j)]) (cells' := 0) (slots' := 0) hc (c_X5_isCard_y κ _ j (by omega)) q_X5_isCard k_ml_RX5_73 rfl rfl (jn_ix (wr := [(m 0, .inr (5, [.ref (m 1), .ref (m 2), .ref (m 3), .int (nI n), .ref (m 4), .ref (m 5), .ref (m 6), .int (nI ln), .ref (m 7), .ref (m 8)])), (m 1, aI κ 333 z)]) [] [0, 1] rfl rfl rfl rfl (by decide)) ⟨⟨by decide, by decide⟩, by decide, by decide⟩ (Nat.le_of_ble_eq_true rfl) rfl rfl dX5_card_1 (n := 4) rfl (fun vv ww hp => ?_)
  obtain ⟨rr, rfl, rfl, rfl⟩ := hp
  refine ⟨_, rfl, ?_⟩
  refine g_ws (ws' := [(m 0, .inr (5, [.ref (m 1), .ref (m 2), .ref (m 3), .int (nI n), .ref (m 4), .ref (m 5), .ref (m 6), .int (nI ln), .ref (m 7), .ref (m 8)])), (m 1, aI κ 333 z)]) rfl ?_
  refine g_st (st' := [.int (nI 1)]) rfl ?_
  refine n_if_eq hc (by omega) dX5_card_4 (tgt := 16) (by decide) (n := 7) rfl (fun c_1 => by (exfalso; revert c_1; first | omega | decide)) (fun c_1 => ?_)
  refine g_aload_n hc 0 rfl rfl dX5_card_7 (n := 8) rfl ?_
  refine g_getf hc 0 rfl vw_5 inX5 0 (by decide) k_fl_RX5_7 rfl rfl dX5_card_8 (n := 11) rfl ?_
  refine g_iload_n hc 1 rfl rfl dX5_card_11 (n := 12) rfl ?_
  refine n_iald (v := z j) hc 1 rfl (by omega) (by decide) rfl dX5_card_12 (n := 13) rfl ?_
  refine g_goto (n := 17) hc dX5_card_13 (by decide) ?_
  refine hret.1 _ _ _ _ _ _ rfl (by decide) (by decide) dX5_card_17 ?_
  exact ⟨_, rfl, rfl, rfl⟩
set_option maxHeartbeats 1000000 in
set_option maxRecDepth 100000 in
theorem c_X5_card_er (κ : Kp) (l : Launch) (m : Nat → Nat) (n : Nat) (ln : Nat) (x : Int32) (hx1 : x < 0 ∨ nI 52 ≤ x) : CT κ l yX5_card cX5_card 2 (some .int) 2 42 0 0 [.ref (m 0), .int x] [(m 0, .inr (5, [.ref (m 1), .ref (m 2), .ref (m 3), .int (nI n), .ref (m 4), .ref (m 5), .ref (m 6), .int (nI ln), .ref (m 7), .ref (m 8)]))] (PI (fun rr ww => rr = (nI 4294967295) ∧ ww = [(m 0, .inr (5, [.ref (m 1), .ref (m 2), .ref (m 3), .int (nI n), .ref (m 4), .ref (m 5), .ref (m 6), .int (nI ln), .ref (m 7), .ref (m 8)]))])) := by
  refine CT.go (plainFor_of_name (by decide)) (Nat.le_of_ble_eq_true rfl) ?_
  intro Γ A Q hl hc hret
  subst hl
  have hc : Cx κ Γ A cX5_card 2 RX5 "card" (some .int) { frames := 2, cells := 0, slots := 0, locals := 42 } := hc
  refine g_lv (lv' := [(0, .ref (m 0)), (1, .int x)]) rfl ?_
  refine g_iload_n hc 1 rfl rfl dX5_card_0 (n := 1) rfl ?_
  refine g_callS (rest := []) (As := [.int x]) (cells' := 0) (slots' := 0) hc (c_X5_isCard_n κ _ x hx1) q_X5_isCard k_ml_RX5_73 rfl rfl (jn_ix (wr := [(m 0, .inr (5, [.ref (m 1), .ref (m 2), .ref (m 3), .int (nI n), .ref (m 4), .ref (m 5), .ref (m 6), .int (nI ln), .ref (m 7), .ref (m 8)]))]) [] [0] rfl rfl rfl rfl (by decide)) ⟨⟨by decide, by decide⟩, by decide, by decide⟩ (Nat.le_of_ble_eq_true rfl) rfl rfl dX5_card_1 (n := 4) rfl (fun vv ww hp => ?_)
  obtain ⟨rr, rfl, rfl, rfl⟩ := hp
  refine ⟨_, rfl, ?_⟩
  refine g_ws (ws' := [(m 0, .inr (5, [.ref (m 1), .ref (m 2), .ref (m 3), .int (nI n), .ref (m 4), .ref (m 5), .ref (m 6), .int (nI ln), .ref (m 7), .ref (m 8)]))]) rfl ?_
  refine g_st (st' := [.int (nI 0)]) rfl ?_
  refine n_if_eq hc (by omega) dX5_card_4 (tgt := 16) (by decide) (n := 7) rfl (fun c_1 => ?_) (fun c_1 => by (exfalso; revert c_1; first | omega | decide))
  refine g_iconst (v := nI 4294967295) hc (by decide) dX5_card_16 (n := 17) rfl ?_
  refine hret.1 _ _ _ _ _ _ rfl (by decide) (by decide) dX5_card_17 ?_
  exact ⟨_, rfl, rfl, rfl⟩
set_option maxHeartbeats 1000000 in
set_option maxRecDepth 100000 in
theorem c_X5_placeOf_ok (κ : Kp) (l : Launch) (m : Nat → Nat) (n : Nat) (ln : Nat) (z : Nat → Nat) (c : Nat) (hv : Zv z) (hcc : c < 52) : CT κ l yX5_placeOf cX5_placeOf 4 (some .int) 0 0 0 0 [.ref (m 0), .int (nI c)] [(m 0, .inr (5, [.ref (m 1), .ref (m 2), .ref (m 3), .int (nI n), .ref (m 4), .ref (m 5), .ref (m 6), .int (nI ln), .ref (m 7), .ref (m 8)])), (m 1, aI κ 333 z)] (PI (fun rr ww => rr = (nI (inv z c)) ∧ ww = [(m 0, .inr (5, [.ref (m 1), .ref (m 2), .ref (m 3), .int (nI n), .ref (m 4), .ref (m 5), .ref (m 6), .int (nI ln), .ref (m 7), .ref (m 8)])), (m 1, aI κ 333 z)])) := by
  refine CT.go (plainFor_of_name (by decide)) (Nat.le_of_ble_eq_true rfl) ?_
  intro Γ A Q hl hc hret
  subst hl
  have hc : Cx κ Γ A cX5_placeOf 4 RX5 "placeOf" (some .int) { frames := 0, cells := 0, slots := 0, locals := 0 } := hc
  refine g_lv (lv' := [(0, .ref (m 0)), (1, .int (nI c))]) rfl ?_
  obtain ⟨hzb, hzf, hzc, hp, hh, hk1, hk2, hx⟩ := id hv
  refine g_iconst (v := nI 4294967295) hc (by decide) dX5_placeOf_0 (n := 1) rfl ?_
  refine g_istore_n (lv2 := [(0, .ref (m 0)), (1, .int (nI c)), (2, .int (nI 4294967295))]) hc rfl (by decide) [1, 2, 0] rfl rfl dX5_placeOf_1 (n := 2) rfl ?_
  refine g_iconst (v := nI 0) hc (by decide) dX5_placeOf_2 (n := 3) rfl ?_
  refine g_istore_n (lv2 := [(0, .ref (m 0)), (1, .int (nI c)), (2, .int (nI 4294967295)), (3, .int (nI 0))]) hc rfl (by decide) [1, 2, 3, 0] rfl rfl dX5_placeOf_3 (n := 4) rfl ?_
  have L_1 : ∀ (fuel : Nat) (i : Nat) (t : Nat), (i ≤ 52) → (t = if inv z c < i then inv z c else 4294967295) → 52 - i < fuel → G κ Γ A 4 0 0 Q [(m 0, .inr (5, [.ref (m 1), .ref (m 2), .ref (m 3), .int (nI n), .ref (m 4), .ref (m 5), .ref (m 6), .int (nI ln), .ref (m 7), .ref (m 8)])), (m 1, aI κ 333 z)] 4 [(0, .ref (m 0)), (1, .int (nI c)), (2, .int (nI t)), (3, .int (nI i))] [] := by
    intro fuel
    induction fuel with
    | zero => intro i t hi ht h; exact absurd h (Nat.not_lt_zero _)
    | succ fuel ih_2 =>
      intro i t hi ht hn_3
      have hpi2 := p_inv hp hcc
      refine g_iload_n hc 3 rfl rfl dX5_placeOf_4 (n := 5) rfl ?_
      refine g_bipush (v := nI 52) hc (by decide) dX5_placeOf_5 (n := 7) rfl ?_
      refine n_icmp_ge hc (by omega) (by omega) dX5_placeOf_7 (tgt := 32) (by decide) (n := 10) rfl (fun c_4 => ?_) (fun c_4 => ?_)
      · skip
        refine g_iload_n hc 2 rfl rfl dX5_placeOf_32 (n := 33) rfl ?_
        refine hret.1 _ _ _ _ _ _ rfl (by decide) (by decide) dX5_placeOf_33 ?_
        exact ⟨_, rfl, (by have e9 : i = 52 := (by omega); subst e9; rw [ht, if_pos hpi2.2]), rfl⟩
      · skip
        refine g_aload_n hc 0 rfl rfl dX5_placeOf_10 (n := 11) rfl ?_
        refine g_getf hc 0 rfl vw_5 inX5 0 (by decide) k_fl_RX5_7 rfl rfl dX5_placeOf_11 (n := 14) rfl ?_
        refine g_iload_n hc 3 rfl rfl dX5_placeOf_14 (n := 15) rfl ?_
        have hpi := hp.1 i (by omega)
        refine n_iald (v := z i) hc 1 rfl (by omega) (by decide) rfl dX5_placeOf_15 (n := 16) rfl ?_
        refine g_iload_n hc 1 rfl rfl dX5_placeOf_16 (n := 17) rfl ?_
        refine n_icmp_ne hc (by omega) (by omega) dX5_placeOf_17 (tgt := 24) (by decide) (n := 20) rfl (fun c_5 => ?_) (fun c_5 => ?_)
        · skip
          refine g_iload_n hc 2 rfl rfl dX5_placeOf_24 (n := 25) rfl ?_
          refine g_istore_n (lv2 := [(0, .ref (m 0)), (1, .int (nI c)), (2, .int (nI t)), (3, .int (nI i))]) hc rfl (by decide) [1, 2, 0, 3] rfl rfl dX5_placeOf_25 (n := 26) rfl ?_
          refine n_iinc (v := i + 1) (zk := 1) (lv2 := [(0, .ref (m 0)), (1, .int (nI c)), (2, .int (nI t)), (3, .int (nI (i + 1)))]) hc 3 rfl (by decide) rfl (by decide) [1, 2, 3, 0] rfl rfl dX5_placeOf_26 (n := 29) rfl ?_
          refine g_goto (n := 4) hc dX5_placeOf_29 (by decide) ?_
          exact ih_2 (i + 1) t (by omega) (by first | (have e : z i = c := (by assumption); have e2 := inv_p hp (k := i) (by omega); rw [e] at e2; rw [if_pos (by omega)]; exact e2.symm) | (have e : ¬ z i = c := (by assumption); have e2 : inv z c ≠ i := (fun q => e (by rw [← q]; exact hpi2.1)); rw [ht]; (repeat' split) <;> first | rfl | (exfalso; omega))) (by omega)
        · skip
          refine g_iload_n hc 3 rfl rfl dX5_placeOf_20 (n := 21) rfl ?_
          refine g_goto (n := 25) hc dX5_placeOf_21 (by decide) ?_
          refine g_istore_n (lv2 := [(0, .ref (m 0)), (1, .int (nI c)), (2, .int (nI i)), (3, .int (nI i))]) hc rfl (by decide) [1, 2, 0, 3] rfl rfl dX5_placeOf_25 (n := 26) rfl ?_
          refine n_iinc (v := i + 1) (zk := 1) (lv2 := [(0, .ref (m 0)), (1, .int (nI c)), (2, .int (nI i)), (3, .int (nI (i + 1)))]) hc 3 rfl (by decide) rfl (by decide) [1, 2, 3, 0] rfl rfl dX5_placeOf_26 (n := 29) rfl ?_
          refine g_goto (n := 4) hc dX5_placeOf_29 (by decide) ?_
          exact ih_2 (i + 1) i (by omega) (by first | (have e : z i = c := (by assumption); have e2 := inv_p hp (k := i) (by omega); rw [e] at e2; rw [if_pos (by omega)]; exact e2.symm) | (have e : ¬ z i = c := (by assumption); have e2 : inv z c ≠ i := (fun q => e (by rw [← q]; exact hpi2.1)); rw [ht]; (repeat' split) <;> first | rfl | (exfalso; omega))) (by omega)
  exact L_1 _ 0 4294967295 (by omega) (rfl) (Nat.lt_succ_self _)
set_option maxHeartbeats 1000000 in
set_option maxRecDepth 100000 in
theorem c_X5_placeOf_er (κ : Kp) (l : Launch) (m : Nat → Nat) (n : Nat) (ln : Nat) (z : Nat → Nat) (x : Int32) (hv : Zv z) (hx1 : x < 0 ∨ nI 52 ≤ x) : CT κ l yX5_placeOf cX5_placeOf 4 (some .int) 0 0 0 0 [.ref (m 0), .int x] [(m 0, .inr (5, [.ref (m 1), .ref (m 2), .ref (m 3), .int (nI n), .ref (m 4), .ref (m 5), .ref (m 6), .int (nI ln), .ref (m 7), .ref (m 8)])), (m 1, aI κ 333 z)] (PI (fun rr ww => rr = (nI 4294967295) ∧ ww = [(m 0, .inr (5, [.ref (m 1), .ref (m 2), .ref (m 3), .int (nI n), .ref (m 4), .ref (m 5), .ref (m 6), .int (nI ln), .ref (m 7), .ref (m 8)])), (m 1, aI κ 333 z)])) := by
  refine CT.go (plainFor_of_name (by decide)) (Nat.le_of_ble_eq_true rfl) ?_
  intro Γ A Q hl hc hret
  subst hl
  have hc : Cx κ Γ A cX5_placeOf 4 RX5 "placeOf" (some .int) { frames := 0, cells := 0, slots := 0, locals := 0 } := hc
  refine g_lv (lv' := [(0, .ref (m 0)), (1, .int x)]) rfl ?_
  obtain ⟨hzb, hzf, hzc, hp, hh, hk1, hk2, hx⟩ := id hv
  refine g_iconst (v := nI 4294967295) hc (by decide) dX5_placeOf_0 (n := 1) rfl ?_
  refine g_istore_n (lv2 := [(0, .ref (m 0)), (1, .int x), (2, .int (nI 4294967295))]) hc rfl (by decide) [1, 2, 0] rfl rfl dX5_placeOf_1 (n := 2) rfl ?_
  refine g_iconst (v := nI 0) hc (by decide) dX5_placeOf_2 (n := 3) rfl ?_
  refine g_istore_n (lv2 := [(0, .ref (m 0)), (1, .int x), (2, .int (nI 4294967295)), (3, .int (nI 0))]) hc rfl (by decide) [1, 2, 3, 0] rfl rfl dX5_placeOf_3 (n := 4) rfl ?_
  have L_1 : ∀ (fuel : Nat) (i : Nat), (i ≤ 52) → 52 - i < fuel → G κ Γ A 4 0 0 Q [(m 0, .inr (5, [.ref (m 1), .ref (m 2), .ref (m 3), .int (nI n), .ref (m 4), .ref (m 5), .ref (m 6), .int (nI ln), .ref (m 7), .ref (m 8)])), (m 1, aI κ 333 z)] 4 [(0, .ref (m 0)), (1, .int x), (2, .int (nI 4294967295)), (3, .int (nI i))] [] := by
    intro fuel
    induction fuel with
    | zero => intro i hi h; exact absurd h (Nat.not_lt_zero _)
    | succ fuel ih_2 =>
      intro i hi hn_3
      refine g_iload_n hc 3 rfl rfl dX5_placeOf_4 (n := 5) rfl ?_
      refine g_bipush (v := nI 52) hc (by decide) dX5_placeOf_5 (n := 7) rfl ?_
      refine n_icmp_ge hc (by omega) (by omega) dX5_placeOf_7 (tgt := 32) (by decide) (n := 10) rfl (fun c_4 => ?_) (fun c_4 => ?_)
      · skip
        refine g_iload_n hc 2 rfl rfl dX5_placeOf_32 (n := 33) rfl ?_
        refine hret.1 _ _ _ _ _ _ rfl (by decide) (by decide) dX5_placeOf_33 ?_
        exact ⟨_, rfl, rfl, rfl⟩
      · skip
        refine g_aload_n hc 0 rfl rfl dX5_placeOf_10 (n := 11) rfl ?_
        refine g_getf hc 0 rfl vw_5 inX5 0 (by decide) k_fl_RX5_7 rfl rfl dX5_placeOf_11 (n := 14) rfl ?_
        refine g_iload_n hc 3 rfl rfl dX5_placeOf_14 (n := 15) rfl ?_
        have hpi := hp.1 i (by omega)
        refine n_iald (v := z i) hc 1 rfl (by omega) (by decide) rfl dX5_placeOf_15 (n := 16) rfl ?_
        refine g_iload_n hc 1 rfl rfl dX5_placeOf_16 (n := 17) rfl ?_
        refine g_icmp_ne hc dX5_placeOf_17 (tgt := 24) (by decide) (n := 20) rfl (fun c_5 => ?_) (fun c_5 => by exact arg_ne hpi hx1 c_5)
        refine g_iload_n hc 2 rfl rfl dX5_placeOf_24 (n := 25) rfl ?_
        refine g_istore_n (lv2 := [(0, .ref (m 0)), (1, .int x), (2, .int (nI 4294967295)), (3, .int (nI i))]) hc rfl (by decide) [1, 2, 0, 3] rfl rfl dX5_placeOf_25 (n := 26) rfl ?_
        refine n_iinc (v := i + 1) (zk := 1) (lv2 := [(0, .ref (m 0)), (1, .int x), (2, .int (nI 4294967295)), (3, .int (nI (i + 1)))]) hc 3 rfl (by decide) rfl (by decide) [1, 2, 3, 0] rfl rfl dX5_placeOf_26 (n := 29) rfl ?_
        refine g_goto (n := 4) hc dX5_placeOf_29 (by decide) ?_
        exact ih_2 (i + 1) (by omega) (by omega)
  exact L_1 _ 0 (by omega) (Nat.lt_succ_self _)
set_option maxHeartbeats 1000000 in
set_option maxRecDepth 100000 in
theorem c_X5_holder_ok (κ : Kp) (l : Launch) (m : Nat → Nat) (n : Nat) (ln : Nat) (z : Nat → Nat) (b : Nat) (c : Nat) (hb : b < 4) (hcc : c < 52) (hha : z (312 + b) = 1) : CT κ l yX5_holder cX5_holder 3 (some .int) 2 42 0 0 [.ref (m 0), .int (nI b), .int (nI c)] [(m 0, .inr (5, [.ref (m 1), .ref (m 2), .ref (m 3), .int (nI n), .ref (m 4), .ref (m 5), .ref (m 6), .int (nI ln), .ref (m 7), .ref (m 8)])), (m 1, aI κ 333 z)] (PI (fun rr ww => rr = (nI (hd z b c)) ∧ ww = [(m 0, .inr (5, [.ref (m 1), .ref (m 2), .ref (m 3), .int (nI n), .ref (m 4), .ref (m 5), .ref (m 6), .int (nI ln), .ref (m 7), .ref (m 8)])), (m 1, aI κ 333 z)])) := by
  refine CT.go (plainFor_of_name (by decide)) (Nat.le_of_ble_eq_true rfl) ?_
  intro Γ A Q hl hc hret
  subst hl
  have hc : Cx κ Γ A cX5_holder 3 RX5 "holder" (some .int) { frames := 2, cells := 0, slots := 0, locals := 42 } := hc
  refine g_lv (lv' := [(0, .ref (m 0)), (1, .int (nI b)), (2, .int (nI c))]) rfl ?_
  refine g_iload_n hc 1 rfl rfl dX5_holder_0 (n := 1) rfl ?_
  refine g_callS (rest := []) (As := [.int (nI b)]) (cells' := 0) (slots' := 0) hc (c_X5_isBoard_y κ _ b (by omega)) q_X5_isBoard k_ml_RX5_96 rfl rfl (jn_ix (wr := [(m 0, .inr (5, [.ref (m 1), .ref (m 2), .ref (m 3), .int (nI n), .ref (m 4), .ref (m 5), .ref (m 6), .int (nI ln), .ref (m 7), .ref (m 8)])), (m 1, aI κ 333 z)]) [] [0, 1] rfl rfl rfl rfl (by decide)) ⟨⟨by decide, by decide⟩, by decide, by decide⟩ (Nat.le_of_ble_eq_true rfl) rfl rfl dX5_holder_1 (n := 4) rfl (fun vv ww hp => ?_)
  obtain ⟨rr, rfl, rfl, rfl⟩ := hp
  refine ⟨_, rfl, ?_⟩
  refine g_ws (ws' := [(m 0, .inr (5, [.ref (m 1), .ref (m 2), .ref (m 3), .int (nI n), .ref (m 4), .ref (m 5), .ref (m 6), .int (nI ln), .ref (m 7), .ref (m 8)])), (m 1, aI κ 333 z)]) rfl ?_
  refine g_st (st' := [.int (nI 1)]) rfl ?_
  refine n_if_eq hc (by omega) dX5_holder_4 (tgt := 14) (by decide) (n := 7) rfl (fun c_1 => by (exfalso; revert c_1; first | omega | decide)) (fun c_1 => ?_)
  refine g_iload_n hc 2 rfl rfl dX5_holder_7 (n := 8) rfl ?_
  refine g_callS (rest := []) (As := [.int (nI c)]) (cells' := 0) (slots' := 0) hc (c_X5_isCard_y κ _ c (by omega)) q_X5_isCard k_ml_RX5_73 rfl rfl (jn_ix (wr := [(m 0, .inr (5, [.ref (m 1), .ref (m 2), .ref (m 3), .int (nI n), .ref (m 4), .ref (m 5), .ref (m 6), .int (nI ln), .ref (m 7), .ref (m 8)])), (m 1, aI κ 333 z)]) [] [0, 1] rfl rfl rfl rfl (by decide)) ⟨⟨by decide, by decide⟩, by decide, by decide⟩ (Nat.le_of_ble_eq_true rfl) rfl rfl dX5_holder_8 (n := 11) rfl (fun vv ww hp => ?_)
  obtain ⟨rr, rfl, rfl, rfl⟩ := hp
  refine ⟨_, rfl, ?_⟩
  refine g_ws (ws' := [(m 0, .inr (5, [.ref (m 1), .ref (m 2), .ref (m 3), .int (nI n), .ref (m 4), .ref (m 5), .ref (m 6), .int (nI ln), .ref (m 7), .ref (m 8)])), (m 1, aI κ 333 z)]) rfl ?_
  refine g_st (st' := [.int (nI 1)]) rfl ?_
  refine n_if_ne hc (by omega) dX5_holder_11 (tgt := 16) (by decide) (n := 14) rfl (fun c_2 => ?_) (fun c_2 => by (exfalso; revert c_2; first | omega | decide))
  refine g_aload_n hc 0 rfl rfl dX5_holder_16 (n := 17) rfl ?_
  refine g_getf hc 0 rfl vw_5 inX5 0 (by decide) k_fl_RX5_7 rfl rfl dX5_holder_17 (n := 20) rfl ?_
  refine g_sipush (v := nI 312) hc (by decide) dX5_holder_20 (n := 23) rfl ?_
  refine g_iload_n hc 1 rfl rfl dX5_holder_23 (n := 24) rfl ?_
  refine n_iadd (v := 312 + b) hc rfl dX5_holder_24 (n := 25) rfl ?_
  refine n_iald (v := z (312 + b)) hc 1 rfl (by omega) (by decide) rfl dX5_holder_25 (n := 26) rfl ?_
  refine n_if_ne hc (by omega) dX5_holder_26 (tgt := 34) (by decide) (n := 29) rfl (fun c_3 => ?_) (fun c_3 => by (exfalso; revert c_3; first | omega | decide))
  refine g_aload_n hc 0 rfl rfl dX5_holder_34 (n := 35) rfl ?_
  refine g_iload_n hc 1 rfl rfl dX5_holder_35 (n := 36) rfl ?_
  refine g_iload_n hc 2 rfl rfl dX5_holder_36 (n := 37) rfl ?_
  refine g_callV (rest := []) (As := [.int (nI b), .int (nI c)]) (cells' := 0) (slots' := 0) hc (c_X5_holderOf κ _ m n ln z b c hb hcc) q_X5_holderOf k_ml_RX5_92 rfl rfl (jn_ix (wr := []) [0, 1] [] rfl rfl rfl rfl (by decide)) (qr := 0) rfl vw_5 ⟨⟨by decide, by decide⟩, by decide, by decide⟩ (Nat.le_of_ble_eq_true rfl) rfl rfl dX5_holder_37 (n := 40) rfl (fun vv ww hp => ?_)
  obtain ⟨rr, rfl, rfl, rfl⟩ := hp
  refine ⟨_, rfl, ?_⟩
  refine g_ws (ws' := [(m 0, .inr (5, [.ref (m 1), .ref (m 2), .ref (m 3), .int (nI n), .ref (m 4), .ref (m 5), .ref (m 6), .int (nI ln), .ref (m 7), .ref (m 8)])), (m 1, aI κ 333 z)]) rfl ?_
  refine g_st (st' := [.int (nI (hd z b c))]) rfl ?_
  refine hret.1 _ _ _ _ _ _ rfl (by decide) (by decide) dX5_holder_40 ?_
  exact ⟨_, rfl, rfl, rfl⟩
set_option maxHeartbeats 1000000 in
set_option maxRecDepth 100000 in
theorem c_X5_holder_no (κ : Kp) (l : Launch) (m : Nat → Nat) (n : Nat) (ln : Nat) (z : Nat → Nat) (b : Nat) (c : Nat) (hb : b < 4) (hcc : c < 52) (hha : z (312 + b) = 0) : CT κ l yX5_holder cX5_holder 3 (some .int) 2 42 0 0 [.ref (m 0), .int (nI b), .int (nI c)] [(m 0, .inr (5, [.ref (m 1), .ref (m 2), .ref (m 3), .int (nI n), .ref (m 4), .ref (m 5), .ref (m 6), .int (nI ln), .ref (m 7), .ref (m 8)])), (m 1, aI κ 333 z)] (PI (fun rr ww => rr = (nI 4294967290) ∧ ww = [(m 0, .inr (5, [.ref (m 1), .ref (m 2), .ref (m 3), .int (nI n), .ref (m 4), .ref (m 5), .ref (m 6), .int (nI ln), .ref (m 7), .ref (m 8)])), (m 1, aI κ 333 z)])) := by
  refine CT.go (plainFor_of_name (by decide)) (Nat.le_of_ble_eq_true rfl) ?_
  intro Γ A Q hl hc hret
  subst hl
  have hc : Cx κ Γ A cX5_holder 3 RX5 "holder" (some .int) { frames := 2, cells := 0, slots := 0, locals := 42 } := hc
  refine g_lv (lv' := [(0, .ref (m 0)), (1, .int (nI b)), (2, .int (nI c))]) rfl ?_
  refine g_iload_n hc 1 rfl rfl dX5_holder_0 (n := 1) rfl ?_
  refine g_callS (rest := []) (As := [.int (nI b)]) (cells' := 0) (slots' := 0) hc (c_X5_isBoard_y κ _ b (by omega)) q_X5_isBoard k_ml_RX5_96 rfl rfl (jn_ix (wr := [(m 0, .inr (5, [.ref (m 1), .ref (m 2), .ref (m 3), .int (nI n), .ref (m 4), .ref (m 5), .ref (m 6), .int (nI ln), .ref (m 7), .ref (m 8)])), (m 1, aI κ 333 z)]) [] [0, 1] rfl rfl rfl rfl (by decide)) ⟨⟨by decide, by decide⟩, by decide, by decide⟩ (Nat.le_of_ble_eq_true rfl) rfl rfl dX5_holder_1 (n := 4) rfl (fun vv ww hp => ?_)
  obtain ⟨rr, rfl, rfl, rfl⟩ := hp
  refine ⟨_, rfl, ?_⟩
  refine g_ws (ws' := [(m 0, .inr (5, [.ref (m 1), .ref (m 2), .ref (m 3), .int (nI n), .ref (m 4), .ref (m 5), .ref (m 6), .int (nI ln), .ref (m 7), .ref (m 8)])), (m 1, aI κ 333 z)]) rfl ?_
  refine g_st (st' := [.int (nI 1)]) rfl ?_
  refine n_if_eq hc (by omega) dX5_holder_4 (tgt := 14) (by decide) (n := 7) rfl (fun c_1 => by (exfalso; revert c_1; first | omega | decide)) (fun c_1 => ?_)
  refine g_iload_n hc 2 rfl rfl dX5_holder_7 (n := 8) rfl ?_
  refine g_callS (rest := []) (As := [.int (nI c)]) (cells' := 0) (slots' := 0) hc (c_X5_isCard_y κ _ c (by omega)) q_X5_isCard k_ml_RX5_73 rfl rfl (jn_ix (wr := [(m 0, .inr (5, [.ref (m 1), .ref (m 2), .ref (m 3), .int (nI n), .ref (m 4), .ref (m 5), .ref (m 6), .int (nI ln), .ref (m 7), .ref (m 8)])), (m 1, aI κ 333 z)]) [] [0, 1] rfl rfl rfl rfl (by decide)) ⟨⟨by decide, by decide⟩, by decide, by decide⟩ (Nat.le_of_ble_eq_true rfl) rfl rfl dX5_holder_8 (n := 11) rfl (fun vv ww hp => ?_)
  obtain ⟨rr, rfl, rfl, rfl⟩ := hp
  refine ⟨_, rfl, ?_⟩
  refine g_ws (ws' := [(m 0, .inr (5, [.ref (m 1), .ref (m 2), .ref (m 3), .int (nI n), .ref (m 4), .ref (m 5), .ref (m 6), .int (nI ln), .ref (m 7), .ref (m 8)])), (m 1, aI κ 333 z)]) rfl ?_
  refine g_st (st' := [.int (nI 1)]) rfl ?_
  refine n_if_ne hc (by omega) dX5_holder_11 (tgt := 16) (by decide) (n := 14) rfl (fun c_2 => ?_) (fun c_2 => by (exfalso; revert c_2; first | omega | decide))
  refine g_aload_n hc 0 rfl rfl dX5_holder_16 (n := 17) rfl ?_
  refine g_getf hc 0 rfl vw_5 inX5 0 (by decide) k_fl_RX5_7 rfl rfl dX5_holder_17 (n := 20) rfl ?_
  refine g_sipush (v := nI 312) hc (by decide) dX5_holder_20 (n := 23) rfl ?_
  refine g_iload_n hc 1 rfl rfl dX5_holder_23 (n := 24) rfl ?_
  refine n_iadd (v := 312 + b) hc rfl dX5_holder_24 (n := 25) rfl ?_
  refine n_iald (v := z (312 + b)) hc 1 rfl (by omega) (by decide) rfl dX5_holder_25 (n := 26) rfl ?_
  refine n_if_ne hc (by omega) dX5_holder_26 (tgt := 34) (by decide) (n := 29) rfl (fun c_3 => by (exfalso; revert c_3; first | omega | decide)) (fun c_3 => ?_)
  refine g_bipush (v := nI 4294967290) hc (by decide) dX5_holder_29 (n := 31) rfl ?_
  refine g_goto (n := 40) hc dX5_holder_31 (by decide) ?_
  refine hret.1 _ _ _ _ _ _ rfl (by decide) (by decide) dX5_holder_40 ?_
  exact ⟨_, rfl, rfl, rfl⟩
set_option maxHeartbeats 1000000 in
set_option maxRecDepth 100000 in
theorem c_X5_holder_er1 (κ : Kp) (l : Launch) (m : Nat → Nat) (n : Nat) (ln : Nat) (x : Int32) (y : Int32) (hx1 : x < 0 ∨ nI 4 ≤ x) : CT κ l yX5_holder cX5_holder 3 (some .int) 2 42 0 0 [.ref (m 0), .int x, .int y] [(m 0, .inr (5, [.ref (m 1), .ref (m 2), .ref (m 3), .int (nI n), .ref (m 4), .ref (m 5), .ref (m 6), .int (nI ln), .ref (m 7), .ref (m 8)]))] (PI (fun rr ww => rr = (nI 4294967295) ∧ ww = [(m 0, .inr (5, [.ref (m 1), .ref (m 2), .ref (m 3), .int (nI n), .ref (m 4), .ref (m 5), .ref (m 6), .int (nI ln), .ref (m 7), .ref (m 8)]))])) := by
  refine CT.go (plainFor_of_name (by decide)) (Nat.le_of_ble_eq_true rfl) ?_
  intro Γ A Q hl hc hret
  subst hl
  have hc : Cx κ Γ A cX5_holder 3 RX5 "holder" (some .int) { frames := 2, cells := 0, slots := 0, locals := 42 } := hc
  refine g_lv (lv' := [(0, .ref (m 0)), (1, .int x), (2, .int y)]) rfl ?_
  refine g_iload_n hc 1 rfl rfl dX5_holder_0 (n := 1) rfl ?_
  refine g_callS (rest := []) (As := [.int x]) (cells' := 0) (slots' := 0) hc (c_X5_isBoard_n κ _ x hx1) q_X5_isBoard k_ml_RX5_96 rfl rfl (jn_ix (wr := [(m 0, .inr (5, [.ref (m 1), .ref (m 2), .ref (m 3), .int (nI n), .ref (m 4), .ref (m 5), .ref (m 6), .int (nI ln), .ref (m 7), .ref (m 8)]))]) [] [0] rfl rfl rfl rfl (by decide)) ⟨⟨by decide, by decide⟩, by decide, by decide⟩ (Nat.le_of_ble_eq_true rfl) rfl rfl dX5_holder_1 (n := 4) rfl (fun vv ww hp => ?_)
  obtain ⟨rr, rfl, rfl, rfl⟩ := hp
  refine ⟨_, rfl, ?_⟩
  refine g_ws (ws' := [(m 0, .inr (5, [.ref (m 1), .ref (m 2), .ref (m 3), .int (nI n), .ref (m 4), .ref (m 5), .ref (m 6), .int (nI ln), .ref (m 7), .ref (m 8)]))]) rfl ?_
  refine g_st (st' := [.int (nI 0)]) rfl ?_
  refine n_if_eq hc (by omega) dX5_holder_4 (tgt := 14) (by decide) (n := 7) rfl (fun c_1 => ?_) (fun c_1 => by (exfalso; revert c_1; first | omega | decide))
  refine g_iconst (v := nI 4294967295) hc (by decide) dX5_holder_14 (n := 15) rfl ?_
  refine hret.1 _ _ _ _ _ _ rfl (by decide) (by decide) dX5_holder_15 ?_
  exact ⟨_, rfl, rfl, rfl⟩
set_option maxHeartbeats 1000000 in
set_option maxRecDepth 100000 in
theorem c_X5_holder_er2 (κ : Kp) (l : Launch) (m : Nat → Nat) (n : Nat) (ln : Nat) (b : Nat) (y : Int32) (hb : b < 4) (hx2 : y < 0 ∨ nI 52 ≤ y) : CT κ l yX5_holder cX5_holder 3 (some .int) 2 42 0 0 [.ref (m 0), .int (nI b), .int y] [(m 0, .inr (5, [.ref (m 1), .ref (m 2), .ref (m 3), .int (nI n), .ref (m 4), .ref (m 5), .ref (m 6), .int (nI ln), .ref (m 7), .ref (m 8)]))] (PI (fun rr ww => rr = (nI 4294967295) ∧ ww = [(m 0, .inr (5, [.ref (m 1), .ref (m 2), .ref (m 3), .int (nI n), .ref (m 4), .ref (m 5), .ref (m 6), .int (nI ln), .ref (m 7), .ref (m 8)]))])) := by
  refine CT.go (plainFor_of_name (by decide)) (Nat.le_of_ble_eq_true rfl) ?_
  intro Γ A Q hl hc hret
  subst hl
  have hc : Cx κ Γ A cX5_holder 3 RX5 "holder" (some .int) { frames := 2, cells := 0, slots := 0, locals := 42 } := hc
  refine g_lv (lv' := [(0, .ref (m 0)), (1, .int (nI b)), (2, .int y)]) rfl ?_
  refine g_iload_n hc 1 rfl rfl dX5_holder_0 (n := 1) rfl ?_
  refine g_callS (rest := []) (As := [.int (nI b)]) (cells' := 0) (slots' := 0) hc (c_X5_isBoard_y κ _ b (by omega)) q_X5_isBoard k_ml_RX5_96 rfl rfl (jn_ix (wr := [(m 0, .inr (5, [.ref (m 1), .ref (m 2), .ref (m 3), .int (nI n), .ref (m 4), .ref (m 5), .ref (m 6), .int (nI ln), .ref (m 7), .ref (m 8)]))]) [] [0] rfl rfl rfl rfl (by decide)) ⟨⟨by decide, by decide⟩, by decide, by decide⟩ (Nat.le_of_ble_eq_true rfl) rfl rfl dX5_holder_1 (n := 4) rfl (fun vv ww hp => ?_)
  obtain ⟨rr, rfl, rfl, rfl⟩ := hp
  refine ⟨_, rfl, ?_⟩
  refine g_ws (ws' := [(m 0, .inr (5, [.ref (m 1), .ref (m 2), .ref (m 3), .int (nI n), .ref (m 4), .ref (m 5), .ref (m 6), .int (nI ln), .ref (m 7), .ref (m 8)]))]) rfl ?_
  refine g_st (st' := [.int (nI 1)]) rfl ?_
  refine n_if_eq hc (by omega) dX5_holder_4 (tgt := 14) (by decide) (n := 7) rfl (fun c_1 => by (exfalso; revert c_1; first | omega | decide)) (fun c_1 => ?_)
  refine g_iload_n hc 2 rfl rfl dX5_holder_7 (n := 8) rfl ?_
  refine g_callS (rest := []) (As := [.int y]) (cells' := 0) (slots' := 0) hc (c_X5_isCard_n κ _ y hx2) q_X5_isCard k_ml_RX5_73 rfl rfl (jn_ix (wr := [(m 0, .inr (5, [.ref (m 1), .ref (m 2), .ref (m 3), .int (nI n), .ref (m 4), .ref (m 5), .ref (m 6), .int (nI ln), .ref (m 7), .ref (m 8)]))]) [] [0] rfl rfl rfl rfl (by decide)) ⟨⟨by decide, by decide⟩, by decide, by decide⟩ (Nat.le_of_ble_eq_true rfl) rfl rfl dX5_holder_8 (n := 11) rfl (fun vv ww hp => ?_)
  obtain ⟨rr, rfl, rfl, rfl⟩ := hp
  refine ⟨_, rfl, ?_⟩
  refine g_ws (ws' := [(m 0, .inr (5, [.ref (m 1), .ref (m 2), .ref (m 3), .int (nI n), .ref (m 4), .ref (m 5), .ref (m 6), .int (nI ln), .ref (m 7), .ref (m 8)]))]) rfl ?_
  refine g_st (st' := [.int (nI 0)]) rfl ?_
  refine n_if_ne hc (by omega) dX5_holder_11 (tgt := 16) (by decide) (n := 14) rfl (fun c_2 => by (exfalso; revert c_2; first | omega | decide)) (fun c_2 => ?_)
  refine g_iconst (v := nI 4294967295) hc (by decide) dX5_holder_14 (n := 15) rfl ?_
  refine hret.1 _ _ _ _ _ _ rfl (by decide) (by decide) dX5_holder_15 ?_
  exact ⟨_, rfl, rfl, rfl⟩
set_option maxHeartbeats 1000000 in
set_option maxRecDepth 100000 in
theorem c_X5_hand_ok (κ : Kp) (l : Launch) (m : Nat → Nat) (n : Nat) (ln : Nat) (z : Nat → Nat) (b : Nat) (h : Nat) (w : Nat) (hv : Zv z) (hb : b < 4) (hh4 : h < 4) (hw7 : w < 7) (hha : z (312 + b) = 1) : CT κ l yX5_hand cX5_hand 4 (some .int) 3 73 0 0 [.ref (m 0), .int (nI b), .int (nI h), .int (nI w)] [(m 0, .inr (5, [.ref (m 1), .ref (m 2), .ref (m 3), .int (nI n), .ref (m 4), .ref (m 5), .ref (m 6), .int (nI ln), .ref (m 7), .ref (m 8)])), (m 1, aI κ 333 z)] (PI (fun rr ww => rr = (nI (a_hand z b h w)) ∧ ww = [(m 0, .inr (5, [.ref (m 1), .ref (m 2), .ref (m 3), .int (nI n), .ref (m 4), .ref (m 5), .ref (m 6), .int (nI ln), .ref (m 7), .ref (m 8)])), (m 1, aI κ 333 z)])) := by
  refine CT.go (plainFor_of_name (by decide)) (Nat.le_of_ble_eq_true rfl) ?_
  intro Γ A Q hl hc hret
  subst hl
  have hc : Cx κ Γ A cX5_hand 4 RX5 "hand" (some .int) { frames := 3, cells := 0, slots := 0, locals := 73 } := hc
  refine g_lv (lv' := [(0, .ref (m 0)), (1, .int (nI b)), (2, .int (nI h)), (3, .int (nI w))]) rfl ?_
  obtain ⟨hzb, hzf, hzc, hp, hh, hk1, hk2, hx⟩ := id hv
  refine g_iload_n hc 1 rfl rfl dX5_hand_0 (n := 1) rfl ?_
  refine g_callS (rest := []) (As := [.int (nI b)]) (cells' := 0) (slots' := 0) hc (c_X5_isBoard_y κ _ b (by omega)) q_X5_isBoard k_ml_RX5_96 rfl rfl (jn_ix (wr := [(m 0, .inr (5, [.ref (m 1), .ref (m 2), .ref (m 3), .int (nI n), .ref (m 4), .ref (m 5), .ref (m 6), .int (nI ln), .ref (m 7), .ref (m 8)])), (m 1, aI κ 333 z)]) [] [0, 1] rfl rfl rfl rfl (by decide)) ⟨⟨by decide, by decide⟩, by decide, by decide⟩ (Nat.le_of_ble_eq_true rfl) rfl rfl dX5_hand_1 (n := 4) rfl (fun vv ww hp => ?_)
  obtain ⟨rr, rfl, rfl, rfl⟩ := hp
  refine ⟨_, rfl, ?_⟩
  refine g_ws (ws' := [(m 0, .inr (5, [.ref (m 1), .ref (m 2), .ref (m 3), .int (nI n), .ref (m 4), .ref (m 5), .ref (m 6), .int (nI ln), .ref (m 7), .ref (m 8)])), (m 1, aI κ 333 z)]) rfl ?_
  refine g_st (st' := [.int (nI 1)]) rfl ?_
  refine n_if_eq hc (by omega) dX5_hand_4 (tgt := 16) (by decide) (n := 7) rfl (fun c_1 => by (exfalso; revert c_1; first | omega | decide)) (fun c_1 => ?_)
  refine g_iload_n hc 2 rfl rfl dX5_hand_7 (n := 8) rfl ?_
  refine g_iconst (v := nI 0) hc (by decide) dX5_hand_8 (n := 9) rfl ?_
  refine g_iconst (v := nI 3) hc (by decide) dX5_hand_9 (n := 10) rfl ?_
  refine g_callS (rest := []) (As := [.int (nI h), .int (nI 0), .int (nI 3)]) (cells' := 0) (slots' := 0) hc (c_X5_in_y κ _ (nI h) (nI 0) (nI 3) (in_y (by omega) (by omega))) q_X5_in k_ml_RX5_35 rfl rfl (jn_ix (wr := [(m 0, .inr (5, [.ref (m 1), .ref (m 2), .ref (m 3), .int (nI n), .ref (m 4), .ref (m 5), .ref (m 6), .int (nI ln), .ref (m 7), .ref (m 8)])), (m 1, aI κ 333 z)]) [] [0, 1] rfl rfl rfl rfl (by decide)) ⟨⟨by decide, by decide⟩, by decide, by decide⟩ (Nat.le_of_ble_eq_true rfl) rfl rfl dX5_hand_10 (n := 13) rfl (fun vv ww hp => ?_)
  obtain ⟨rr, rfl, rfl, rfl⟩ := hp
  refine ⟨_, rfl, ?_⟩
  refine g_ws (ws' := [(m 0, .inr (5, [.ref (m 1), .ref (m 2), .ref (m 3), .int (nI n), .ref (m 4), .ref (m 5), .ref (m 6), .int (nI ln), .ref (m 7), .ref (m 8)])), (m 1, aI κ 333 z)]) rfl ?_
  refine g_st (st' := [.int (nI 1)]) rfl ?_
  refine n_if_ne hc (by omega) dX5_hand_13 (tgt := 18) (by decide) (n := 16) rfl (fun c_2 => ?_) (fun c_2 => by (exfalso; revert c_2; first | omega | decide))
  refine g_iload_n hc 3 rfl rfl dX5_hand_18 (n := 19) rfl ?_
  refine g_iconst (v := nI 0) hc (by decide) dX5_hand_19 (n := 20) rfl ?_
  refine g_bipush (v := nI 6) hc (by decide) dX5_hand_20 (n := 22) rfl ?_
  refine g_callS (rest := []) (As := [.int (nI w), .int (nI 0), .int (nI 6)]) (cells' := 0) (slots' := 0) hc (c_X5_in_y κ _ (nI w) (nI 0) (nI 6) (in_y (by omega) (by omega))) q_X5_in k_ml_RX5_35 rfl rfl (jn_ix (wr := [(m 0, .inr (5, [.ref (m 1), .ref (m 2), .ref (m 3), .int (nI n), .ref (m 4), .ref (m 5), .ref (m 6), .int (nI ln), .ref (m 7), .ref (m 8)])), (m 1, aI κ 333 z)]) [] [0, 1] rfl rfl rfl rfl (by decide)) ⟨⟨by decide, by decide⟩, by decide, by decide⟩ (Nat.le_of_ble_eq_true rfl) rfl rfl dX5_hand_22 (n := 25) rfl (fun vv ww hp => ?_)
  obtain ⟨rr, rfl, rfl, rfl⟩ := hp
  refine ⟨_, rfl, ?_⟩
  refine g_ws (ws' := [(m 0, .inr (5, [.ref (m 1), .ref (m 2), .ref (m 3), .int (nI n), .ref (m 4), .ref (m 5), .ref (m 6), .int (nI ln), .ref (m 7), .ref (m 8)])), (m 1, aI κ 333 z)]) rfl ?_
  refine g_st (st' := [.int (nI 1)]) rfl ?_
  refine n_if_ne hc (by omega) dX5_hand_25 (tgt := 31) (by decide) (n := 28) rfl (fun c_3 => ?_) (fun c_3 => by (exfalso; revert c_3; first | omega | decide))
  refine g_aload_n hc 0 rfl rfl dX5_hand_31 (n := 32) rfl ?_
  refine g_getf hc 0 rfl vw_5 inX5 0 (by decide) k_fl_RX5_7 rfl rfl dX5_hand_32 (n := 35) rfl ?_
  refine g_sipush (v := nI 312) hc (by decide) dX5_hand_35 (n := 38) rfl ?_
  refine g_iload_n hc 1 rfl rfl dX5_hand_38 (n := 39) rfl ?_
  refine n_iadd (v := 312 + b) hc rfl dX5_hand_39 (n := 40) rfl ?_
  refine n_iald (v := z (312 + b)) hc 1 rfl (by omega) (by decide) rfl dX5_hand_40 (n := 41) rfl ?_
  refine n_if_ne hc (by omega) dX5_hand_41 (tgt := 47) (by decide) (n := 44) rfl (fun c_4 => ?_) (fun c_4 => by (exfalso; revert c_4; first | omega | decide))
  rcases (show w = 0 ∨ w = 1 ∨ w = 2 ∨ w = 3 ∨ w = 4 ∨ w = 5 ∨ w = 6 by omega) with rfl | rfl | rfl | rfl | rfl | rfl | rfl
  · skip
    refine g_iload_n hc 3 rfl rfl dX5_hand_47 (n := 48) rfl ?_
    refine g_tsOut (tgt := 105) hc dX5_hand_48 (by decide) (by decide) ?_
    refine g_aload_n hc 0 rfl rfl dX5_hand_105 (n := 106) rfl ?_
    refine g_iload_n hc 1 rfl rfl dX5_hand_106 (n := 107) rfl ?_
    refine g_iload_n hc 2 rfl rfl dX5_hand_107 (n := 108) rfl ?_
    refine g_iload_n hc 3 rfl rfl dX5_hand_108 (n := 109) rfl ?_
    refine g_callV (rest := []) (As := [.int (nI b), .int (nI h), .int (nI 0)]) (cells' := 0) (slots' := 0) hc (c_X5_lengthOf κ _ m n ln z b h 0 hb hh4 (by decide) (hd_lt hh hb)) q_X5_lengthOf k_ml_RX5_102 rfl rfl (jn_ix (wr := []) [0, 1] [] rfl rfl rfl rfl (by decide)) (qr := 0) rfl vw_5 ⟨⟨by decide, by decide⟩, by decide, by decide⟩ (Nat.le_of_ble_eq_true rfl) rfl rfl dX5_hand_109 (n := 112) rfl (fun vv ww hp => ?_)
    obtain ⟨rr, rfl, rfl, rfl⟩ := hp
    refine ⟨_, rfl, ?_⟩
    refine g_ws (ws' := [(m 0, .inr (5, [.ref (m 1), .ref (m 2), .ref (m 3), .int (nI n), .ref (m 4), .ref (m 5), .ref (m 6), .int (nI ln), .ref (m 7), .ref (m 8)])), (m 1, aI κ 333 z)]) rfl ?_
    refine g_st (st' := [.int (nI (sl (hd z b) h 0))]) rfl ?_
    refine hret.1 _ _ _ _ _ _ rfl (by decide) (by decide) dX5_hand_112 ?_
    exact ⟨_, rfl, (by unfold a_hand; rw [if_neg (by omega), if_neg (by omega), if_neg (by omega)]; simp only [Nat.reduceEqDiff, if_true, if_false, reduceIte] <;> first | rfl | exact congrArg nI (show sl (hd z b) h 0 = bl (hd z b) h by omega)), rfl⟩
  · skip
    refine g_iload_n hc 3 rfl rfl dX5_hand_47 (n := 48) rfl ?_
    refine g_tsOut (tgt := 105) hc dX5_hand_48 (by decide) (by decide) ?_
    refine g_aload_n hc 0 rfl rfl dX5_hand_105 (n := 106) rfl ?_
    refine g_iload_n hc 1 rfl rfl dX5_hand_106 (n := 107) rfl ?_
    refine g_iload_n hc 2 rfl rfl dX5_hand_107 (n := 108) rfl ?_
    refine g_iload_n hc 3 rfl rfl dX5_hand_108 (n := 109) rfl ?_
    refine g_callV (rest := []) (As := [.int (nI b), .int (nI h), .int (nI 1)]) (cells' := 0) (slots' := 0) hc (c_X5_lengthOf κ _ m n ln z b h 1 hb hh4 (by decide) (hd_lt hh hb)) q_X5_lengthOf k_ml_RX5_102 rfl rfl (jn_ix (wr := []) [0, 1] [] rfl rfl rfl rfl (by decide)) (qr := 0) rfl vw_5 ⟨⟨by decide, by decide⟩, by decide, by decide⟩ (Nat.le_of_ble_eq_true rfl) rfl rfl dX5_hand_109 (n := 112) rfl (fun vv ww hp => ?_)
    obtain ⟨rr, rfl, rfl, rfl⟩ := hp
    refine ⟨_, rfl, ?_⟩
    refine g_ws (ws' := [(m 0, .inr (5, [.ref (m 1), .ref (m 2), .ref (m 3), .int (nI n), .ref (m 4), .ref (m 5), .ref (m 6), .int (nI ln), .ref (m 7), .ref (m 8)])), (m 1, aI κ 333 z)]) rfl ?_
    refine g_st (st' := [.int (nI (sl (hd z b) h 1))]) rfl ?_
    refine hret.1 _ _ _ _ _ _ rfl (by decide) (by decide) dX5_hand_112 ?_
    exact ⟨_, rfl, (by unfold a_hand; rw [if_neg (by omega), if_neg (by omega), if_neg (by omega)]; simp only [Nat.reduceEqDiff, if_true, if_false, reduceIte] <;> first | rfl | exact congrArg nI (show sl (hd z b) h 1 = bl (hd z b) h by omega)), rfl⟩
  · skip
    refine g_iload_n hc 3 rfl rfl dX5_hand_47 (n := 48) rfl ?_
    refine g_tsOut (tgt := 105) hc dX5_hand_48 (by decide) (by decide) ?_
    refine g_aload_n hc 0 rfl rfl dX5_hand_105 (n := 106) rfl ?_
    refine g_iload_n hc 1 rfl rfl dX5_hand_106 (n := 107) rfl ?_
    refine g_iload_n hc 2 rfl rfl dX5_hand_107 (n := 108) rfl ?_
    refine g_iload_n hc 3 rfl rfl dX5_hand_108 (n := 109) rfl ?_
    refine g_callV (rest := []) (As := [.int (nI b), .int (nI h), .int (nI 2)]) (cells' := 0) (slots' := 0) hc (c_X5_lengthOf κ _ m n ln z b h 2 hb hh4 (by decide) (hd_lt hh hb)) q_X5_lengthOf k_ml_RX5_102 rfl rfl (jn_ix (wr := []) [0, 1] [] rfl rfl rfl rfl (by decide)) (qr := 0) rfl vw_5 ⟨⟨by decide, by decide⟩, by decide, by decide⟩ (Nat.le_of_ble_eq_true rfl) rfl rfl dX5_hand_109 (n := 112) rfl (fun vv ww hp => ?_)
    obtain ⟨rr, rfl, rfl, rfl⟩ := hp
    refine ⟨_, rfl, ?_⟩
    refine g_ws (ws' := [(m 0, .inr (5, [.ref (m 1), .ref (m 2), .ref (m 3), .int (nI n), .ref (m 4), .ref (m 5), .ref (m 6), .int (nI ln), .ref (m 7), .ref (m 8)])), (m 1, aI κ 333 z)]) rfl ?_
    refine g_st (st' := [.int (nI (sl (hd z b) h 2))]) rfl ?_
    refine hret.1 _ _ _ _ _ _ rfl (by decide) (by decide) dX5_hand_112 ?_
    exact ⟨_, rfl, (by unfold a_hand; rw [if_neg (by omega), if_neg (by omega), if_neg (by omega)]; simp only [Nat.reduceEqDiff, if_true, if_false, reduceIte] <;> first | rfl | exact congrArg nI (show sl (hd z b) h 2 = bl (hd z b) h by omega)), rfl⟩
  · skip
    refine g_iload_n hc 3 rfl rfl dX5_hand_47 (n := 48) rfl ?_
    refine g_tsOut (tgt := 105) hc dX5_hand_48 (by decide) (by decide) ?_
    refine g_aload_n hc 0 rfl rfl dX5_hand_105 (n := 106) rfl ?_
    refine g_iload_n hc 1 rfl rfl dX5_hand_106 (n := 107) rfl ?_
    refine g_iload_n hc 2 rfl rfl dX5_hand_107 (n := 108) rfl ?_
    refine g_iload_n hc 3 rfl rfl dX5_hand_108 (n := 109) rfl ?_
    refine g_callV (rest := []) (As := [.int (nI b), .int (nI h), .int (nI 3)]) (cells' := 0) (slots' := 0) hc (c_X5_lengthOf κ _ m n ln z b h 3 hb hh4 (by decide) (hd_lt hh hb)) q_X5_lengthOf k_ml_RX5_102 rfl rfl (jn_ix (wr := []) [0, 1] [] rfl rfl rfl rfl (by decide)) (qr := 0) rfl vw_5 ⟨⟨by decide, by decide⟩, by decide, by decide⟩ (Nat.le_of_ble_eq_true rfl) rfl rfl dX5_hand_109 (n := 112) rfl (fun vv ww hp => ?_)
    obtain ⟨rr, rfl, rfl, rfl⟩ := hp
    refine ⟨_, rfl, ?_⟩
    refine g_ws (ws' := [(m 0, .inr (5, [.ref (m 1), .ref (m 2), .ref (m 3), .int (nI n), .ref (m 4), .ref (m 5), .ref (m 6), .int (nI ln), .ref (m 7), .ref (m 8)])), (m 1, aI κ 333 z)]) rfl ?_
    refine g_st (st' := [.int (nI (sl (hd z b) h 3))]) rfl ?_
    refine hret.1 _ _ _ _ _ _ rfl (by decide) (by decide) dX5_hand_112 ?_
    exact ⟨_, rfl, (by unfold a_hand; rw [if_neg (by omega), if_neg (by omega), if_neg (by omega)]; simp only [Nat.reduceEqDiff, if_true, if_false, reduceIte] <;> first | rfl | exact congrArg nI (show sl (hd z b) h 3 = bl (hd z b) h by omega)), rfl⟩
  · skip
    refine g_iload_n hc 3 rfl rfl dX5_hand_47 (n := 48) rfl ?_
    refine g_tsIn (off := 28) (tgt := 76) hc dX5_hand_48 (by decide) (by decide) (by decide) (by decide) ?_
    refine g_aload_n hc 0 rfl rfl dX5_hand_76 (n := 77) rfl ?_
    refine g_iload_n hc 1 rfl rfl dX5_hand_77 (n := 78) rfl ?_
    refine g_iload_n hc 2 rfl rfl dX5_hand_78 (n := 79) rfl ?_
    refine g_callV (rest := []) (As := [.int (nI b), .int (nI h)]) (cells' := 0) (slots' := 0) hc (c_X5_pointsOf κ _ m n ln z b h hb hh4 (hd_lt hh hb)) q_X5_pointsOf k_ml_RX5_99 rfl rfl (jn_ix (wr := []) [0, 1] [] rfl rfl rfl rfl (by decide)) (qr := 0) rfl vw_5 ⟨⟨by decide, by decide⟩, by decide, by decide⟩ (Nat.le_of_ble_eq_true rfl) rfl rfl dX5_hand_79 (n := 82) rfl (fun vv ww hp => ?_)
    obtain ⟨rr, rfl, rfl, rfl⟩ := hp
    refine ⟨_, rfl, ?_⟩
    refine g_ws (ws' := [(m 0, .inr (5, [.ref (m 1), .ref (m 2), .ref (m 3), .int (nI n), .ref (m 4), .ref (m 5), .ref (m 6), .int (nI ln), .ref (m 7), .ref (m 8)])), (m 1, aI κ 333 z)]) rfl ?_
    refine g_st (st' := [.int (nI (pt (hd z b) h))]) rfl ?_
    refine hret.1 _ _ _ _ _ _ rfl (by decide) (by decide) dX5_hand_82 ?_
    exact ⟨_, rfl, (by unfold a_hand; rw [if_neg (by omega), if_neg (by omega), if_neg (by omega)]; simp only [Nat.reduceEqDiff, if_true, if_false, reduceIte] <;> first | rfl | exact congrArg nI (show pt (hd z b) h = bl (hd z b) h by omega)), rfl⟩
  · skip
    refine g_iload_n hc 3 rfl rfl dX5_hand_47 (n := 48) rfl ?_
    refine g_tsIn (off := 35) (tgt := 83) hc dX5_hand_48 (by decide) (by decide) (by decide) (by decide) ?_
    refine g_aload_n hc 0 rfl rfl dX5_hand_83 (n := 84) rfl ?_
    refine g_iload_n hc 1 rfl rfl dX5_hand_84 (n := 85) rfl ?_
    refine g_iload_n hc 2 rfl rfl dX5_hand_85 (n := 86) rfl ?_
    refine g_callV (rest := []) (As := [.int (nI b), .int (nI h)]) (cells' := 0) (slots' := 0) hc (c_X5_isBalanced κ _ m n ln z b h hb hh4 (hd_lt hh hb)) q_X5_isBalanced k_ml_RX5_106 rfl rfl (jn_ix (wr := []) [0, 1] [] rfl rfl rfl rfl (by decide)) (qr := 0) rfl vw_5 ⟨⟨by decide, by decide⟩, by decide, by decide⟩ (Nat.le_of_ble_eq_true rfl) rfl rfl dX5_hand_86 (n := 89) rfl (fun vv ww hp => ?_)
    obtain ⟨rr, rfl, rfl, rfl⟩ := hp
    refine ⟨_, rfl, ?_⟩
    refine g_ws (ws' := [(m 0, .inr (5, [.ref (m 1), .ref (m 2), .ref (m 3), .int (nI n), .ref (m 4), .ref (m 5), .ref (m 6), .int (nI ln), .ref (m 7), .ref (m 8)])), (m 1, aI κ 333 z)]) rfl ?_
    refine g_st (st' := [.int (nI (bl (hd z b) h))]) rfl ?_
    have hbl := bl_le (hd z b) h
    refine n_if_eq hc (by omega) dX5_hand_89 (tgt := 96) (by decide) (n := 92) rfl (fun c_5 => ?_) (fun c_5 => ?_)
    · skip
      refine g_iconst (v := nI 0) hc (by decide) dX5_hand_96 (n := 97) rfl ?_
      refine hret.1 _ _ _ _ _ _ rfl (by decide) (by decide) dX5_hand_97 ?_
      exact ⟨_, rfl, (by unfold a_hand; rw [if_neg (by omega), if_neg (by omega), if_neg (by omega)]; simp only [Nat.reduceEqDiff, if_true, if_false, reduceIte] <;> first | rfl | exact congrArg nI (show 0 = bl (hd z b) h by omega)), rfl⟩
    · skip
      refine g_iconst (v := nI 1) hc (by decide) dX5_hand_92 (n := 93) rfl ?_
      refine g_goto (n := 97) hc dX5_hand_93 (by decide) ?_
      refine hret.1 _ _ _ _ _ _ rfl (by decide) (by decide) dX5_hand_97 ?_
      exact ⟨_, rfl, (by unfold a_hand; rw [if_neg (by omega), if_neg (by omega), if_neg (by omega)]; simp only [Nat.reduceEqDiff, if_true, if_false, reduceIte] <;> first | rfl | exact congrArg nI (show 1 = bl (hd z b) h by omega)), rfl⟩
  · skip
    refine g_iload_n hc 3 rfl rfl dX5_hand_47 (n := 48) rfl ?_
    refine g_tsIn (off := 50) (tgt := 98) hc dX5_hand_48 (by decide) (by decide) (by decide) (by decide) ?_
    refine g_aload_n hc 0 rfl rfl dX5_hand_98 (n := 99) rfl ?_
    refine g_iload_n hc 1 rfl rfl dX5_hand_99 (n := 100) rfl ?_
    refine g_iload_n hc 2 rfl rfl dX5_hand_100 (n := 101) rfl ?_
    refine g_callV (rest := []) (As := [.int (nI b), .int (nI h)]) (cells' := 0) (slots' := 0) hc (c_X5_highestSpade κ _ m n ln z b h hb hh4 (hd_lt hh hb)) q_X5_highestSpade k_ml_RX5_110 rfl rfl (jn_ix (wr := []) [0, 1] [] rfl rfl rfl rfl (by decide)) (qr := 0) rfl vw_5 ⟨⟨by decide, by decide⟩, by decide, by decide⟩ (Nat.le_of_ble_eq_true rfl) rfl rfl dX5_hand_101 (n := 104) rfl (fun vv ww hp => ?_)
    obtain ⟨rr, rfl, rfl, rfl⟩ := hp
    refine ⟨_, rfl, ?_⟩
    refine g_ws (ws' := [(m 0, .inr (5, [.ref (m 1), .ref (m 2), .ref (m 3), .int (nI n), .ref (m 4), .ref (m 5), .ref (m 6), .int (nI ln), .ref (m 7), .ref (m 8)])), (m 1, aI κ 333 z)]) rfl ?_
    refine g_st (st' := [.int (nI (hs (hd z b) h))]) rfl ?_
    refine hret.1 _ _ _ _ _ _ rfl (by decide) (by decide) dX5_hand_104 ?_
    exact ⟨_, rfl, (by unfold a_hand; rw [if_neg (by omega), if_neg (by omega), if_neg (by omega)]; simp only [Nat.reduceEqDiff, if_true, if_false, reduceIte] <;> first | rfl | exact congrArg nI (show hs (hd z b) h = bl (hd z b) h by omega)), rfl⟩
set_option maxHeartbeats 1000000 in
set_option maxRecDepth 100000 in
theorem c_X5_hand_no (κ : Kp) (l : Launch) (m : Nat → Nat) (n : Nat) (ln : Nat) (z : Nat → Nat) (b : Nat) (h : Nat) (w : Nat) (hb : b < 4) (hh4 : h < 4) (hw7 : w < 7) (hha : z (312 + b) = 0) : CT κ l yX5_hand cX5_hand 4 (some .int) 2 42 0 0 [.ref (m 0), .int (nI b), .int (nI h), .int (nI w)] [(m 0, .inr (5, [.ref (m 1), .ref (m 2), .ref (m 3), .int (nI n), .ref (m 4), .ref (m 5), .ref (m 6), .int (nI ln), .ref (m 7), .ref (m 8)])), (m 1, aI κ 333 z)] (PI (fun rr ww => rr = (nI 4294967290) ∧ ww = [(m 0, .inr (5, [.ref (m 1), .ref (m 2), .ref (m 3), .int (nI n), .ref (m 4), .ref (m 5), .ref (m 6), .int (nI ln), .ref (m 7), .ref (m 8)])), (m 1, aI κ 333 z)])) := by
  refine CT.go (plainFor_of_name (by decide)) (Nat.le_of_ble_eq_true rfl) ?_
  intro Γ A Q hl hc hret
  subst hl
  have hc : Cx κ Γ A cX5_hand 4 RX5 "hand" (some .int) { frames := 2, cells := 0, slots := 0, locals := 42 } := hc
  refine g_lv (lv' := [(0, .ref (m 0)), (1, .int (nI b)), (2, .int (nI h)), (3, .int (nI w))]) rfl ?_
  refine g_iload_n hc 1 rfl rfl dX5_hand_0 (n := 1) rfl ?_
  refine g_callS (rest := []) (As := [.int (nI b)]) (cells' := 0) (slots' := 0) hc (c_X5_isBoard_y κ _ b (by omega)) q_X5_isBoard k_ml_RX5_96 rfl rfl (jn_ix (wr := [(m 0, .inr (5, [.ref (m 1), .ref (m 2), .ref (m 3), .int (nI n), .ref (m 4), .ref (m 5), .ref (m 6), .int (nI ln), .ref (m 7), .ref (m 8)])), (m 1, aI κ 333 z)]) [] [0, 1] rfl rfl rfl rfl (by decide)) ⟨⟨by decide, by decide⟩, by decide, by decide⟩ (Nat.le_of_ble_eq_true rfl) rfl rfl dX5_hand_1 (n := 4) rfl (fun vv ww hp => ?_)
  obtain ⟨rr, rfl, rfl, rfl⟩ := hp
  refine ⟨_, rfl, ?_⟩
  refine g_ws (ws' := [(m 0, .inr (5, [.ref (m 1), .ref (m 2), .ref (m 3), .int (nI n), .ref (m 4), .ref (m 5), .ref (m 6), .int (nI ln), .ref (m 7), .ref (m 8)])), (m 1, aI κ 333 z)]) rfl ?_
  refine g_st (st' := [.int (nI 1)]) rfl ?_
  refine n_if_eq hc (by omega) dX5_hand_4 (tgt := 16) (by decide) (n := 7) rfl (fun c_1 => by (exfalso; revert c_1; first | omega | decide)) (fun c_1 => ?_)
  refine g_iload_n hc 2 rfl rfl dX5_hand_7 (n := 8) rfl ?_
  refine g_iconst (v := nI 0) hc (by decide) dX5_hand_8 (n := 9) rfl ?_
  refine g_iconst (v := nI 3) hc (by decide) dX5_hand_9 (n := 10) rfl ?_
  refine g_callS (rest := []) (As := [.int (nI h), .int (nI 0), .int (nI 3)]) (cells' := 0) (slots' := 0) hc (c_X5_in_y κ _ (nI h) (nI 0) (nI 3) (in_y (by omega) (by omega))) q_X5_in k_ml_RX5_35 rfl rfl (jn_ix (wr := [(m 0, .inr (5, [.ref (m 1), .ref (m 2), .ref (m 3), .int (nI n), .ref (m 4), .ref (m 5), .ref (m 6), .int (nI ln), .ref (m 7), .ref (m 8)])), (m 1, aI κ 333 z)]) [] [0, 1] rfl rfl rfl rfl (by decide)) ⟨⟨by decide, by decide⟩, by decide, by decide⟩ (Nat.le_of_ble_eq_true rfl) rfl rfl dX5_hand_10 (n := 13) rfl (fun vv ww hp => ?_)
  obtain ⟨rr, rfl, rfl, rfl⟩ := hp
  refine ⟨_, rfl, ?_⟩
  refine g_ws (ws' := [(m 0, .inr (5, [.ref (m 1), .ref (m 2), .ref (m 3), .int (nI n), .ref (m 4), .ref (m 5), .ref (m 6), .int (nI ln), .ref (m 7), .ref (m 8)])), (m 1, aI κ 333 z)]) rfl ?_
  refine g_st (st' := [.int (nI 1)]) rfl ?_
  refine n_if_ne hc (by omega) dX5_hand_13 (tgt := 18) (by decide) (n := 16) rfl (fun c_2 => ?_) (fun c_2 => by (exfalso; revert c_2; first | omega | decide))
  refine g_iload_n hc 3 rfl rfl dX5_hand_18 (n := 19) rfl ?_
  refine g_iconst (v := nI 0) hc (by decide) dX5_hand_19 (n := 20) rfl ?_
  refine g_bipush (v := nI 6) hc (by decide) dX5_hand_20 (n := 22) rfl ?_
  refine g_callS (rest := []) (As := [.int (nI w), .int (nI 0), .int (nI 6)]) (cells' := 0) (slots' := 0) hc (c_X5_in_y κ _ (nI w) (nI 0) (nI 6) (in_y (by omega) (by omega))) q_X5_in k_ml_RX5_35 rfl rfl (jn_ix (wr := [(m 0, .inr (5, [.ref (m 1), .ref (m 2), .ref (m 3), .int (nI n), .ref (m 4), .ref (m 5), .ref (m 6), .int (nI ln), .ref (m 7), .ref (m 8)])), (m 1, aI κ 333 z)]) [] [0, 1] rfl rfl rfl rfl (by decide)) ⟨⟨by decide, by decide⟩, by decide, by decide⟩ (Nat.le_of_ble_eq_true rfl) rfl rfl dX5_hand_22 (n := 25) rfl (fun vv ww hp => ?_)
  obtain ⟨rr, rfl, rfl, rfl⟩ := hp
  refine ⟨_, rfl, ?_⟩
  refine g_ws (ws' := [(m 0, .inr (5, [.ref (m 1), .ref (m 2), .ref (m 3), .int (nI n), .ref (m 4), .ref (m 5), .ref (m 6), .int (nI ln), .ref (m 7), .ref (m 8)])), (m 1, aI κ 333 z)]) rfl ?_
  refine g_st (st' := [.int (nI 1)]) rfl ?_
  refine n_if_ne hc (by omega) dX5_hand_25 (tgt := 31) (by decide) (n := 28) rfl (fun c_3 => ?_) (fun c_3 => by (exfalso; revert c_3; first | omega | decide))
  refine g_aload_n hc 0 rfl rfl dX5_hand_31 (n := 32) rfl ?_
  refine g_getf hc 0 rfl vw_5 inX5 0 (by decide) k_fl_RX5_7 rfl rfl dX5_hand_32 (n := 35) rfl ?_
  refine g_sipush (v := nI 312) hc (by decide) dX5_hand_35 (n := 38) rfl ?_
  refine g_iload_n hc 1 rfl rfl dX5_hand_38 (n := 39) rfl ?_
  refine n_iadd (v := 312 + b) hc rfl dX5_hand_39 (n := 40) rfl ?_
  refine n_iald (v := z (312 + b)) hc 1 rfl (by omega) (by decide) rfl dX5_hand_40 (n := 41) rfl ?_
  refine n_if_ne hc (by omega) dX5_hand_41 (tgt := 47) (by decide) (n := 44) rfl (fun c_4 => by (exfalso; revert c_4; first | omega | decide)) (fun c_4 => ?_)
  refine g_bipush (v := nI 4294967290) hc (by decide) dX5_hand_44 (n := 46) rfl ?_
  refine hret.1 _ _ _ _ _ _ rfl (by decide) (by decide) dX5_hand_46 ?_
  exact ⟨_, rfl, rfl, rfl⟩
set_option maxHeartbeats 1000000 in
set_option maxRecDepth 100000 in
theorem c_X5_hand_er1 (κ : Kp) (l : Launch) (m : Nat → Nat) (n : Nat) (ln : Nat) (x : Int32) (y : Int32) (v : Int32) (hx1 : x < 0 ∨ nI 4 ≤ x) : CT κ l yX5_hand cX5_hand 4 (some .int) 2 42 0 0 [.ref (m 0), .int x, .int y, .int v] [(m 0, .inr (5, [.ref (m 1), .ref (m 2), .ref (m 3), .int (nI n), .ref (m 4), .ref (m 5), .ref (m 6), .int (nI ln), .ref (m 7), .ref (m 8)]))] (PI (fun rr ww => rr = (nI 4294967295) ∧ ww = [(m 0, .inr (5, [.ref (m 1), .ref (m 2), .ref (m 3), .int (nI n), .ref (m 4), .ref (m 5), .ref (m 6), .int (nI ln), .ref (m 7), .ref (m 8)]))])) := by
  refine CT.go (plainFor_of_name (by decide)) (Nat.le_of_ble_eq_true rfl) ?_
  intro Γ A Q hl hc hret
  subst hl
  have hc : Cx κ Γ A cX5_hand 4 RX5 "hand" (some .int) { frames := 2, cells := 0, slots := 0, locals := 42 } := hc
  refine g_lv (lv' := [(0, .ref (m 0)), (1, .int x), (2, .int y), (3, .int v)]) rfl ?_
  refine g_iload_n hc 1 rfl rfl dX5_hand_0 (n := 1) rfl ?_
  refine g_callS (rest := []) (As := [.int x]) (cells' := 0) (slots' := 0) hc (c_X5_isBoard_n κ _ x hx1) q_X5_isBoard k_ml_RX5_96 rfl rfl (jn_ix (wr := [(m 0, .inr (5, [.ref (m 1), .ref (m 2), .ref (m 3), .int (nI n), .ref (m 4), .ref (m 5), .ref (m 6), .int (nI ln), .ref (m 7), .ref (m 8)]))]) [] [0] rfl rfl rfl rfl (by decide)) ⟨⟨by decide, by decide⟩, by decide, by decide⟩ (Nat.le_of_ble_eq_true rfl) rfl rfl dX5_hand_1 (n := 4) rfl (fun vv ww hp => ?_)
  obtain ⟨rr, rfl, rfl, rfl⟩ := hp
  refine ⟨_, rfl, ?_⟩
  refine g_ws (ws' := [(m 0, .inr (5, [.ref (m 1), .ref (m 2), .ref (m 3), .int (nI n), .ref (m 4), .ref (m 5), .ref (m 6), .int (nI ln), .ref (m 7), .ref (m 8)]))]) rfl ?_
  refine g_st (st' := [.int (nI 0)]) rfl ?_
  refine n_if_eq hc (by omega) dX5_hand_4 (tgt := 16) (by decide) (n := 7) rfl (fun c_1 => ?_) (fun c_1 => by (exfalso; revert c_1; first | omega | decide))
  refine g_iconst (v := nI 4294967295) hc (by decide) dX5_hand_16 (n := 17) rfl ?_
  refine hret.1 _ _ _ _ _ _ rfl (by decide) (by decide) dX5_hand_17 ?_
  exact ⟨_, rfl, rfl, rfl⟩
set_option maxHeartbeats 1000000 in
set_option maxRecDepth 100000 in
theorem c_X5_hand_er2 (κ : Kp) (l : Launch) (m : Nat → Nat) (n : Nat) (ln : Nat) (b : Nat) (y : Int32) (v : Int32) (hb : b < 4) (hx2 : y < 0 ∨ nI 4 ≤ y) : CT κ l yX5_hand cX5_hand 4 (some .int) 2 42 0 0 [.ref (m 0), .int (nI b), .int y, .int v] [(m 0, .inr (5, [.ref (m 1), .ref (m 2), .ref (m 3), .int (nI n), .ref (m 4), .ref (m 5), .ref (m 6), .int (nI ln), .ref (m 7), .ref (m 8)]))] (PI (fun rr ww => rr = (nI 4294967295) ∧ ww = [(m 0, .inr (5, [.ref (m 1), .ref (m 2), .ref (m 3), .int (nI n), .ref (m 4), .ref (m 5), .ref (m 6), .int (nI ln), .ref (m 7), .ref (m 8)]))])) := by
  refine CT.go (plainFor_of_name (by decide)) (Nat.le_of_ble_eq_true rfl) ?_
  intro Γ A Q hl hc hret
  subst hl
  have hc : Cx κ Γ A cX5_hand 4 RX5 "hand" (some .int) { frames := 2, cells := 0, slots := 0, locals := 42 } := hc
  refine g_lv (lv' := [(0, .ref (m 0)), (1, .int (nI b)), (2, .int y), (3, .int v)]) rfl ?_
  refine g_iload_n hc 1 rfl rfl dX5_hand_0 (n := 1) rfl ?_
  refine g_callS (rest := []) (As := [.int (nI b)]) (cells' := 0) (slots' := 0) hc (c_X5_isBoard_y κ _ b (by omega)) q_X5_isBoard k_ml_RX5_96 rfl rfl (jn_ix (wr := [(m 0, .inr (5, [.ref (m 1), .ref (m 2), .ref (m 3), .int (nI n), .ref (m 4), .ref (m 5), .ref (m 6), .int (nI ln), .ref (m 7), .ref (m 8)]))]) [] [0] rfl rfl rfl rfl (by decide)) ⟨⟨by decide, by decide⟩, by decide, by decide⟩ (Nat.le_of_ble_eq_true rfl) rfl rfl dX5_hand_1 (n := 4) rfl (fun vv ww hp => ?_)
  obtain ⟨rr, rfl, rfl, rfl⟩ := hp
  refine ⟨_, rfl, ?_⟩
  refine g_ws (ws' := [(m 0, .inr (5, [.ref (m 1), .ref (m 2), .ref (m 3), .int (nI n), .ref (m 4), .ref (m 5), .ref (m 6), .int (nI ln), .ref (m 7), .ref (m 8)]))]) rfl ?_
  refine g_st (st' := [.int (nI 1)]) rfl ?_
  refine n_if_eq hc (by omega) dX5_hand_4 (tgt := 16) (by decide) (n := 7) rfl (fun c_1 => by (exfalso; revert c_1; first | omega | decide)) (fun c_1 => ?_)
  refine g_iload_n hc 2 rfl rfl dX5_hand_7 (n := 8) rfl ?_
  refine g_iconst (v := nI 0) hc (by decide) dX5_hand_8 (n := 9) rfl ?_
  refine g_iconst (v := nI 3) hc (by decide) dX5_hand_9 (n := 10) rfl ?_
  refine g_callS (rest := []) (As := [.int y, .int (nI 0), .int (nI 3)]) (cells' := 0) (slots' := 0) hc (c_X5_in_n κ _ y (nI 0) (nI 3) (in_n1 hx2)) q_X5_in k_ml_RX5_35 rfl rfl (jn_ix (wr := [(m 0, .inr (5, [.ref (m 1), .ref (m 2), .ref (m 3), .int (nI n), .ref (m 4), .ref (m 5), .ref (m 6), .int (nI ln), .ref (m 7), .ref (m 8)]))]) [] [0] rfl rfl rfl rfl (by decide)) ⟨⟨by decide, by decide⟩, by decide, by decide⟩ (Nat.le_of_ble_eq_true rfl) rfl rfl dX5_hand_10 (n := 13) rfl (fun vv ww hp => ?_)
  obtain ⟨rr, rfl, rfl, rfl⟩ := hp
  refine ⟨_, rfl, ?_⟩
  refine g_ws (ws' := [(m 0, .inr (5, [.ref (m 1), .ref (m 2), .ref (m 3), .int (nI n), .ref (m 4), .ref (m 5), .ref (m 6), .int (nI ln), .ref (m 7), .ref (m 8)]))]) rfl ?_
  refine g_st (st' := [.int (nI 0)]) rfl ?_
  refine n_if_ne hc (by omega) dX5_hand_13 (tgt := 18) (by decide) (n := 16) rfl (fun c_2 => by (exfalso; revert c_2; first | omega | decide)) (fun c_2 => ?_)
  refine g_iconst (v := nI 4294967295) hc (by decide) dX5_hand_16 (n := 17) rfl ?_
  refine hret.1 _ _ _ _ _ _ rfl (by decide) (by decide) dX5_hand_17 ?_
  exact ⟨_, rfl, rfl, rfl⟩
set_option maxHeartbeats 1000000 in
set_option maxRecDepth 100000 in
theorem c_X5_hand_er3 (κ : Kp) (l : Launch) (m : Nat → Nat) (n : Nat) (ln : Nat) (b : Nat) (h : Nat) (x : Int32) (hb : b < 4) (hh4 : h < 4) (hx1 : x < 0 ∨ nI 7 ≤ x) : CT κ l yX5_hand cX5_hand 4 (some .int) 2 42 0 0 [.ref (m 0), .int (nI b), .int (nI h), .int x] [(m 0, .inr (5, [.ref (m 1), .ref (m 2), .ref (m 3), .int (nI n), .ref (m 4), .ref (m 5), .ref (m 6), .int (nI ln), .ref (m 7), .ref (m 8)]))] (PI (fun rr ww => rr = (nI 4294967294) ∧ ww = [(m 0, .inr (5, [.ref (m 1), .ref (m 2), .ref (m 3), .int (nI n), .ref (m 4), .ref (m 5), .ref (m 6), .int (nI ln), .ref (m 7), .ref (m 8)]))])) := by
  refine CT.go (plainFor_of_name (by decide)) (Nat.le_of_ble_eq_true rfl) ?_
  intro Γ A Q hl hc hret
  subst hl
  have hc : Cx κ Γ A cX5_hand 4 RX5 "hand" (some .int) { frames := 2, cells := 0, slots := 0, locals := 42 } := hc
  refine g_lv (lv' := [(0, .ref (m 0)), (1, .int (nI b)), (2, .int (nI h)), (3, .int x)]) rfl ?_
  refine g_iload_n hc 1 rfl rfl dX5_hand_0 (n := 1) rfl ?_
  refine g_callS (rest := []) (As := [.int (nI b)]) (cells' := 0) (slots' := 0) hc (c_X5_isBoard_y κ _ b (by omega)) q_X5_isBoard k_ml_RX5_96 rfl rfl (jn_ix (wr := [(m 0, .inr (5, [.ref (m 1), .ref (m 2), .ref (m 3), .int (nI n), .ref (m 4), .ref (m 5), .ref (m 6), .int (nI ln), .ref (m 7), .ref (m 8)]))]) [] [0] rfl rfl rfl rfl (by decide)) ⟨⟨by decide, by decide⟩, by decide, by decide⟩ (Nat.le_of_ble_eq_true rfl) rfl rfl dX5_hand_1 (n := 4) rfl (fun vv ww hp => ?_)
  obtain ⟨rr, rfl, rfl, rfl⟩ := hp
  refine ⟨_, rfl, ?_⟩
  refine g_ws (ws' := [(m 0, .inr (5, [.ref (m 1), .ref (m 2), .ref (m 3), .int (nI n), .ref (m 4), .ref (m 5), .ref (m 6), .int (nI ln), .ref (m 7), .ref (m 8)]))]) rfl ?_
  refine g_st (st' := [.int (nI 1)]) rfl ?_
  refine n_if_eq hc (by omega) dX5_hand_4 (tgt := 16) (by decide) (n := 7) rfl (fun c_1 => by (exfalso; revert c_1; first | omega | decide)) (fun c_1 => ?_)
  refine g_iload_n hc 2 rfl rfl dX5_hand_7 (n := 8) rfl ?_
  refine g_iconst (v := nI 0) hc (by decide) dX5_hand_8 (n := 9) rfl ?_
  refine g_iconst (v := nI 3) hc (by decide) dX5_hand_9 (n := 10) rfl ?_
  refine g_callS (rest := []) (As := [.int (nI h), .int (nI 0), .int (nI 3)]) (cells' := 0) (slots' := 0) hc (c_X5_in_y κ _ (nI h) (nI 0) (nI 3) (in_y (by omega) (by omega))) q_X5_in k_ml_RX5_35 rfl rfl (jn_ix (wr := [(m 0, .inr (5, [.ref (m 1), .ref (m 2), .ref (m 3), .int (nI n), .ref (m 4), .ref (m 5), .ref (m 6), .int (nI ln), .ref (m 7), .ref (m 8)]))]) [] [0] rfl rfl rfl rfl (by decide)) ⟨⟨by decide, by decide⟩, by decide, by decide⟩ (Nat.le_of_ble_eq_true rfl) rfl rfl dX5_hand_10 (n := 13) rfl (fun vv ww hp => ?_)
  obtain ⟨rr, rfl, rfl, rfl⟩ := hp
  refine ⟨_, rfl, ?_⟩
  refine g_ws (ws' := [(m 0, .inr (5, [.ref (m 1), .ref (m 2), .ref (m 3), .int (nI n), .ref (m 4), .ref (m 5), .ref (m 6), .int (nI ln), .ref (m 7), .ref (m 8)]))]) rfl ?_
  refine g_st (st' := [.int (nI 1)]) rfl ?_
  refine n_if_ne hc (by omega) dX5_hand_13 (tgt := 18) (by decide) (n := 16) rfl (fun c_2 => ?_) (fun c_2 => by (exfalso; revert c_2; first | omega | decide))
  refine g_iload_n hc 3 rfl rfl dX5_hand_18 (n := 19) rfl ?_
  refine g_iconst (v := nI 0) hc (by decide) dX5_hand_19 (n := 20) rfl ?_
  refine g_bipush (v := nI 6) hc (by decide) dX5_hand_20 (n := 22) rfl ?_
  refine g_callS (rest := []) (As := [.int x, .int (nI 0), .int (nI 6)]) (cells' := 0) (slots' := 0) hc (c_X5_in_n κ _ x (nI 0) (nI 6) (in_n1 hx1)) q_X5_in k_ml_RX5_35 rfl rfl (jn_ix (wr := [(m 0, .inr (5, [.ref (m 1), .ref (m 2), .ref (m 3), .int (nI n), .ref (m 4), .ref (m 5), .ref (m 6), .int (nI ln), .ref (m 7), .ref (m 8)]))]) [] [0] rfl rfl rfl rfl (by decide)) ⟨⟨by decide, by decide⟩, by decide, by decide⟩ (Nat.le_of_ble_eq_true rfl) rfl rfl dX5_hand_22 (n := 25) rfl (fun vv ww hp => ?_)
  obtain ⟨rr, rfl, rfl, rfl⟩ := hp
  refine ⟨_, rfl, ?_⟩
  refine g_ws (ws' := [(m 0, .inr (5, [.ref (m 1), .ref (m 2), .ref (m 3), .int (nI n), .ref (m 4), .ref (m 5), .ref (m 6), .int (nI ln), .ref (m 7), .ref (m 8)]))]) rfl ?_
  refine g_st (st' := [.int (nI 0)]) rfl ?_
  refine n_if_ne hc (by omega) dX5_hand_25 (tgt := 31) (by decide) (n := 28) rfl (fun c_3 => by (exfalso; revert c_3; first | omega | decide)) (fun c_3 => ?_)
  refine g_bipush (v := nI 4294967294) hc (by decide) dX5_hand_28 (n := 30) rfl ?_
  refine hret.1 _ _ _ _ _ _ rfl (by decide) (by decide) dX5_hand_30 ?_
  exact ⟨_, rfl, rfl, rfl⟩
set_option maxHeartbeats 1000000 in
set_option maxRecDepth 100000 in
theorem c_X5_board_ok1 (κ : Kp) (l : Launch) (m : Nat → Nat) (n : Nat) (ln : Nat) (z : Nat → Nat) (b : Nat) (w : Nat) (hv : Zv z) (hb : b < 4) (hw5 : w < 5) (hha : z (312 + b) = 1) : CT κ l yX5_board cX5_board 3 (some .int) 4 96 0 0 [.ref (m 0), .int (nI b), .int (nI w)] [(m 0, .inr (5, [.ref (m 1), .ref (m 2), .ref (m 3), .int (nI n), .ref (m 4), .ref (m 5), .ref (m 6), .int (nI ln), .ref (m 7), .ref (m 8)])), (m 1, aI κ 333 z)] (PI (fun rr ww => rr = (nI (a_board z b w)) ∧ ww = [(m 0, .inr (5, [.ref (m 1), .ref (m 2), .ref (m 3), .int (nI n), .ref (m 4), .ref (m 5), .ref (m 6), .int (nI ln), .ref (m 7), .ref (m 8)])), (m 1, aI κ 333 z)])) := by
  refine CT.go (plainFor_of_name (by decide)) (Nat.le_of_ble_eq_true rfl) ?_
  intro Γ A Q hl hc hret
  subst hl
  have hc : Cx κ Γ A cX5_board 3 RX5 "board" (some .int) { frames := 4, cells := 0, slots := 0, locals := 96 } := hc
  refine g_lv (lv' := [(0, .ref (m 0)), (1, .int (nI b)), (2, .int (nI w))]) rfl ?_
  obtain ⟨hzb, hzf, hzc, hp, hh, hk1, hk2, hx⟩ := id hv
  refine g_iload_n hc 1 rfl rfl dX5_board_0 (n := 1) rfl ?_
  refine g_callS (rest := []) (As := [.int (nI b)]) (cells' := 0) (slots' := 0) hc (c_X5_isBoard_y κ _ b (by omega)) q_X5_isBoard k_ml_RX5_96 rfl rfl (jn_ix (wr := [(m 0, .inr (5, [.ref (m 1), .ref (m 2), .ref (m 3), .int (nI n), .ref (m 4), .ref (m 5), .ref (m 6), .int (nI ln), .ref (m 7), .ref (m 8)])), (m 1, aI κ 333 z)]) [] [0, 1] rfl rfl rfl rfl (by decide)) ⟨⟨by decide, by decide⟩, by decide, by decide⟩ (Nat.le_of_ble_eq_true rfl) rfl rfl dX5_board_1 (n := 4) rfl (fun vv ww hp => ?_)
  obtain ⟨rr, rfl, rfl, rfl⟩ := hp
  refine ⟨_, rfl, ?_⟩
  refine g_ws (ws' := [(m 0, .inr (5, [.ref (m 1), .ref (m 2), .ref (m 3), .int (nI n), .ref (m 4), .ref (m 5), .ref (m 6), .int (nI ln), .ref (m 7), .ref (m 8)])), (m 1, aI κ 333 z)]) rfl ?_
  refine g_st (st' := [.int (nI 1)]) rfl ?_
  refine n_if_ne hc (by omega) dX5_board_4 (tgt := 9) (by decide) (n := 7) rfl (fun c_1 => ?_) (fun c_1 => by (exfalso; revert c_1; first | omega | decide))
  rcases (show w = 0 ∨ w = 1 ∨ w = 2 ∨ w = 3 ∨ w = 4 by omega) with rfl | rfl | rfl | rfl | rfl
  · skip
    refine g_iload_n hc 2 rfl rfl dX5_board_9 (n := 10) rfl ?_
    refine g_tsIn (off := 34) (tgt := 44) hc dX5_board_10 (by decide) (by decide) (by decide) (by decide) ?_
    refine g_aload_n hc 0 rfl rfl dX5_board_44 (n := 45) rfl ?_
    refine g_getf hc 0 rfl vw_5 inX5 0 (by decide) k_fl_RX5_7 rfl rfl dX5_board_45 (n := 48) rfl ?_
    refine g_sipush (v := nI 312) hc (by decide) dX5_board_48 (n := 51) rfl ?_
    refine g_iload_n hc 1 rfl rfl dX5_board_51 (n := 52) rfl ?_
    refine n_iadd (v := 312 + b) hc rfl dX5_board_52 (n := 53) rfl ?_
    refine n_iald (v := z (312 + b)) hc 1 rfl (by omega) (by decide) rfl dX5_board_53 (n := 54) rfl ?_
    refine hret.1 _ _ _ _ _ _ rfl (by decide) (by decide) dX5_board_54 ?_
    exact ⟨_, rfl, (by unfold a_board; rw [if_neg (by omega)]; rfl), rfl⟩
  · skip
    refine g_iload_n hc 2 rfl rfl dX5_board_9 (n := 10) rfl ?_
    refine g_tsIn (off := 45) (tgt := 55) hc dX5_board_10 (by decide) (by decide) (by decide) (by decide) ?_
    refine g_aload_n hc 0 rfl rfl dX5_board_55 (n := 56) rfl ?_
    refine g_getf hc 0 rfl vw_5 inX5 0 (by decide) k_fl_RX5_7 rfl rfl dX5_board_56 (n := 59) rfl ?_
    refine g_sipush (v := nI 316) hc (by decide) dX5_board_59 (n := 62) rfl ?_
    refine g_iload_n hc 1 rfl rfl dX5_board_62 (n := 63) rfl ?_
    refine n_iadd (v := 316 + b) hc rfl dX5_board_63 (n := 64) rfl ?_
    refine n_iald (v := z (316 + b)) hc 1 rfl (by omega) (by decide) rfl dX5_board_64 (n := 65) rfl ?_
    refine hret.1 _ _ _ _ _ _ rfl (by decide) (by decide) dX5_board_65 ?_
    exact ⟨_, rfl, (by unfold a_board; rw [if_neg (by omega)]; rfl), rfl⟩
  · skip
    refine g_iload_n hc 2 rfl rfl dX5_board_9 (n := 10) rfl ?_
    refine g_tsIn (off := 56) (tgt := 66) hc dX5_board_10 (by decide) (by decide) (by decide) (by decide) ?_
    refine g_aload_n hc 0 rfl rfl dX5_board_66 (n := 67) rfl ?_
    refine g_getf hc 0 rfl vw_5 inX5 0 (by decide) k_fl_RX5_7 rfl rfl dX5_board_67 (n := 70) rfl ?_
    refine g_sipush (v := nI 320) hc (by decide) dX5_board_70 (n := 73) rfl ?_
    refine g_iload_n hc 1 rfl rfl dX5_board_73 (n := 74) rfl ?_
    refine n_iadd (v := 320 + b) hc rfl dX5_board_74 (n := 75) rfl ?_
    refine n_iald (v := z (320 + b)) hc 1 rfl (by omega) (by decide) rfl dX5_board_75 (n := 76) rfl ?_
    refine hret.1 _ _ _ _ _ _ rfl (by decide) (by decide) dX5_board_76 ?_
    exact ⟨_, rfl, (by unfold a_board; rw [if_neg (by omega)]; rfl), rfl⟩
  · skip
    refine g_iload_n hc 2 rfl rfl dX5_board_9 (n := 10) rfl ?_
    refine g_tsIn (off := 67) (tgt := 77) hc dX5_board_10 (by decide) (by decide) (by decide) (by decide) ?_
    refine g_aload_n hc 0 rfl rfl dX5_board_77 (n := 78) rfl ?_
    refine g_iload_n hc 1 rfl rfl dX5_board_78 (n := 79) rfl ?_
    refine g_callV (rest := []) (As := [.int (nI b)]) (cells' := 0) (slots' := 0) hc (c_X5_bestHand1 κ _ m n ln z b hb (hd_lt hh hb) hha) q_X5_bestHand k_ml_RX5_113 rfl rfl (jn_ix (wr := []) [0, 1] [] rfl rfl rfl rfl (by decide)) (qr := 0) rfl vw_5 ⟨⟨by decide, by decide⟩, by decide, by decide⟩ (Nat.le_of_ble_eq_true rfl) rfl rfl dX5_board_79 (n := 82) rfl (fun vv ww hp => ?_)
    obtain ⟨rr, rfl, rfl, rfl⟩ := hp
    refine ⟨_, rfl, ?_⟩
    refine g_ws (ws' := [(m 0, .inr (5, [.ref (m 1), .ref (m 2), .ref (m 3), .int (nI n), .ref (m 4), .ref (m 5), .ref (m 6), .int (nI ln), .ref (m 7), .ref (m 8)])), (m 1, aI κ 333 z)]) rfl ?_
    refine g_st (st' := [.int (nI (bh (hd z b)))]) rfl ?_
    refine hret.1 _ _ _ _ _ _ rfl (by decide) (by decide) dX5_board_82 ?_
    exact ⟨_, rfl, (by unfold a_board; rw [if_neg (by omega)]; simp only [Nat.reduceEqDiff, if_true, if_false, reduceIte, hha]), rfl⟩
  · skip
    refine g_iload_n hc 2 rfl rfl dX5_board_9 (n := 10) rfl ?_
    refine g_tsIn (off := 73) (tgt := 83) hc dX5_board_10 (by decide) (by decide) (by decide) (by decide) ?_
    refine g_aload_n hc 0 rfl rfl dX5_board_83 (n := 84) rfl ?_
    refine g_iload_n hc 1 rfl rfl dX5_board_84 (n := 85) rfl ?_
    refine g_callV (rest := []) (As := [.int (nI b)]) (cells' := 0) (slots' := 0) hc (c_X5_balancedHands1 κ _ m n ln z b hb (hd_lt hh hb) hha) q_X5_balancedHands k_ml_RX5_116 rfl rfl (jn_ix (wr := []) [0, 1] [] rfl rfl rfl rfl (by decide)) (qr := 0) rfl vw_5 ⟨⟨by decide, by decide⟩, by decide, by decide⟩ (Nat.le_of_ble_eq_true rfl) rfl rfl dX5_board_85 (n := 88) rfl (fun vv ww hp => ?_)
    obtain ⟨rr, rfl, rfl, rfl⟩ := hp
    refine ⟨_, rfl, ?_⟩
    refine g_ws (ws' := [(m 0, .inr (5, [.ref (m 1), .ref (m 2), .ref (m 3), .int (nI n), .ref (m 4), .ref (m 5), .ref (m 6), .int (nI ln), .ref (m 7), .ref (m 8)])), (m 1, aI κ 333 z)]) rfl ?_
    refine g_st (st' := [.int (nI (bm (hd z b)))]) rfl ?_
    refine hret.1 _ _ _ _ _ _ rfl (by decide) (by decide) dX5_board_88 ?_
    exact ⟨_, rfl, (by unfold a_board; rw [if_neg (by omega)]; simp only [Nat.reduceEqDiff, if_true, if_false, reduceIte, hha]), rfl⟩
set_option maxHeartbeats 1000000 in
set_option maxRecDepth 100000 in
theorem c_X5_board_ok0 (κ : Kp) (l : Launch) (m : Nat → Nat) (n : Nat) (ln : Nat) (z : Nat → Nat) (b : Nat) (w : Nat) (hv : Zv z) (hb : b < 4) (hw5 : w < 5) (hha : z (312 + b) = 0) : CT κ l yX5_board cX5_board 3 (some .int) 3 70 0 0 [.ref (m 0), .int (nI b), .int (nI w)] [(m 0, .inr (5, [.ref (m 1), .ref (m 2), .ref (m 3), .int (nI n), .ref (m 4), .ref (m 5), .ref (m 6), .int (nI ln), .ref (m 7), .ref (m 8)])), (m 1, aI κ 333 z)] (PI (fun rr ww => rr = (nI (a_board z b w)) ∧ ww = [(m 0, .inr (5, [.ref (m 1), .ref (m 2), .ref (m 3), .int (nI n), .ref (m 4), .ref (m 5), .ref (m 6), .int (nI ln), .ref (m 7), .ref (m 8)])), (m 1, aI κ 333 z)])) := by
  refine CT.go (plainFor_of_name (by decide)) (Nat.le_of_ble_eq_true rfl) ?_
  intro Γ A Q hl hc hret
  subst hl
  have hc : Cx κ Γ A cX5_board 3 RX5 "board" (some .int) { frames := 3, cells := 0, slots := 0, locals := 70 } := hc
  refine g_lv (lv' := [(0, .ref (m 0)), (1, .int (nI b)), (2, .int (nI w))]) rfl ?_
  obtain ⟨hzb, hzf, hzc, hp, hh, hk1, hk2, hx⟩ := id hv
  refine g_iload_n hc 1 rfl rfl dX5_board_0 (n := 1) rfl ?_
  refine g_callS (rest := []) (As := [.int (nI b)]) (cells' := 0) (slots' := 0) hc (c_X5_isBoard_y κ _ b (by omega)) q_X5_isBoard k_ml_RX5_96 rfl rfl (jn_ix (wr := [(m 0, .inr (5, [.ref (m 1), .ref (m 2), .ref (m 3), .int (nI n), .ref (m 4), .ref (m 5), .ref (m 6), .int (nI ln), .ref (m 7), .ref (m 8)])), (m 1, aI κ 333 z)]) [] [0, 1] rfl rfl rfl rfl (by decide)) ⟨⟨by decide, by decide⟩, by decide, by decide⟩ (Nat.le_of_ble_eq_true rfl) rfl rfl dX5_board_1 (n := 4) rfl (fun vv ww hp => ?_)
  obtain ⟨rr, rfl, rfl, rfl⟩ := hp
  refine ⟨_, rfl, ?_⟩
  refine g_ws (ws' := [(m 0, .inr (5, [.ref (m 1), .ref (m 2), .ref (m 3), .int (nI n), .ref (m 4), .ref (m 5), .ref (m 6), .int (nI ln), .ref (m 7), .ref (m 8)])), (m 1, aI κ 333 z)]) rfl ?_
  refine g_st (st' := [.int (nI 1)]) rfl ?_
  refine n_if_ne hc (by omega) dX5_board_4 (tgt := 9) (by decide) (n := 7) rfl (fun c_1 => ?_) (fun c_1 => by (exfalso; revert c_1; first | omega | decide))
  rcases (show w = 0 ∨ w = 1 ∨ w = 2 ∨ w = 3 ∨ w = 4 by omega) with rfl | rfl | rfl | rfl | rfl
  · skip
    refine g_iload_n hc 2 rfl rfl dX5_board_9 (n := 10) rfl ?_
    refine g_tsIn (off := 34) (tgt := 44) hc dX5_board_10 (by decide) (by decide) (by decide) (by decide) ?_
    refine g_aload_n hc 0 rfl rfl dX5_board_44 (n := 45) rfl ?_
    refine g_getf hc 0 rfl vw_5 inX5 0 (by decide) k_fl_RX5_7 rfl rfl dX5_board_45 (n := 48) rfl ?_
    refine g_sipush (v := nI 312) hc (by decide) dX5_board_48 (n := 51) rfl ?_
    refine g_iload_n hc 1 rfl rfl dX5_board_51 (n := 52) rfl ?_
    refine n_iadd (v := 312 + b) hc rfl dX5_board_52 (n := 53) rfl ?_
    refine n_iald (v := z (312 + b)) hc 1 rfl (by omega) (by decide) rfl dX5_board_53 (n := 54) rfl ?_
    refine hret.1 _ _ _ _ _ _ rfl (by decide) (by decide) dX5_board_54 ?_
    exact ⟨_, rfl, (by unfold a_board; rw [if_neg (by omega)]; rfl), rfl⟩
  · skip
    refine g_iload_n hc 2 rfl rfl dX5_board_9 (n := 10) rfl ?_
    refine g_tsIn (off := 45) (tgt := 55) hc dX5_board_10 (by decide) (by decide) (by decide) (by decide) ?_
    refine g_aload_n hc 0 rfl rfl dX5_board_55 (n := 56) rfl ?_
    refine g_getf hc 0 rfl vw_5 inX5 0 (by decide) k_fl_RX5_7 rfl rfl dX5_board_56 (n := 59) rfl ?_
    refine g_sipush (v := nI 316) hc (by decide) dX5_board_59 (n := 62) rfl ?_
    refine g_iload_n hc 1 rfl rfl dX5_board_62 (n := 63) rfl ?_
    refine n_iadd (v := 316 + b) hc rfl dX5_board_63 (n := 64) rfl ?_
    refine n_iald (v := z (316 + b)) hc 1 rfl (by omega) (by decide) rfl dX5_board_64 (n := 65) rfl ?_
    refine hret.1 _ _ _ _ _ _ rfl (by decide) (by decide) dX5_board_65 ?_
    exact ⟨_, rfl, (by unfold a_board; rw [if_neg (by omega)]; rfl), rfl⟩
  · skip
    refine g_iload_n hc 2 rfl rfl dX5_board_9 (n := 10) rfl ?_
    refine g_tsIn (off := 56) (tgt := 66) hc dX5_board_10 (by decide) (by decide) (by decide) (by decide) ?_
    refine g_aload_n hc 0 rfl rfl dX5_board_66 (n := 67) rfl ?_
    refine g_getf hc 0 rfl vw_5 inX5 0 (by decide) k_fl_RX5_7 rfl rfl dX5_board_67 (n := 70) rfl ?_
    refine g_sipush (v := nI 320) hc (by decide) dX5_board_70 (n := 73) rfl ?_
    refine g_iload_n hc 1 rfl rfl dX5_board_73 (n := 74) rfl ?_
    refine n_iadd (v := 320 + b) hc rfl dX5_board_74 (n := 75) rfl ?_
    refine n_iald (v := z (320 + b)) hc 1 rfl (by omega) (by decide) rfl dX5_board_75 (n := 76) rfl ?_
    refine hret.1 _ _ _ _ _ _ rfl (by decide) (by decide) dX5_board_76 ?_
    exact ⟨_, rfl, (by unfold a_board; rw [if_neg (by omega)]; rfl), rfl⟩
  · skip
    refine g_iload_n hc 2 rfl rfl dX5_board_9 (n := 10) rfl ?_
    refine g_tsIn (off := 67) (tgt := 77) hc dX5_board_10 (by decide) (by decide) (by decide) (by decide) ?_
    refine g_aload_n hc 0 rfl rfl dX5_board_77 (n := 78) rfl ?_
    refine g_iload_n hc 1 rfl rfl dX5_board_78 (n := 79) rfl ?_
    refine g_callV (rest := []) (As := [.int (nI b)]) (cells' := 0) (slots' := 0) hc (c_X5_bestHand0 κ _ m n ln z b hb (hd_lt hh hb) hha) q_X5_bestHand k_ml_RX5_113 rfl rfl (jn_ix (wr := []) [0, 1] [] rfl rfl rfl rfl (by decide)) (qr := 0) rfl vw_5 ⟨⟨by decide, by decide⟩, by decide, by decide⟩ (Nat.le_of_ble_eq_true rfl) rfl rfl dX5_board_79 (n := 82) rfl (fun vv ww hp => ?_)
    obtain ⟨rr, rfl, rfl, rfl⟩ := hp
    refine ⟨_, rfl, ?_⟩
    refine g_ws (ws' := [(m 0, .inr (5, [.ref (m 1), .ref (m 2), .ref (m 3), .int (nI n), .ref (m 4), .ref (m 5), .ref (m 6), .int (nI ln), .ref (m 7), .ref (m 8)])), (m 1, aI κ 333 z)]) rfl ?_
    refine g_st (st' := [.int (nI 4294967290)]) rfl ?_
    refine hret.1 _ _ _ _ _ _ rfl (by decide) (by decide) dX5_board_82 ?_
    exact ⟨_, rfl, (by unfold a_board; rw [if_neg (by omega)]; simp only [Nat.reduceEqDiff, if_true, if_false, reduceIte, hha]), rfl⟩
  · skip
    refine g_iload_n hc 2 rfl rfl dX5_board_9 (n := 10) rfl ?_
    refine g_tsIn (off := 73) (tgt := 83) hc dX5_board_10 (by decide) (by decide) (by decide) (by decide) ?_
    refine g_aload_n hc 0 rfl rfl dX5_board_83 (n := 84) rfl ?_
    refine g_iload_n hc 1 rfl rfl dX5_board_84 (n := 85) rfl ?_
    refine g_callV (rest := []) (As := [.int (nI b)]) (cells' := 0) (slots' := 0) hc (c_X5_balancedHands0 κ _ m n ln z b hb (hd_lt hh hb) hha) q_X5_balancedHands k_ml_RX5_116 rfl rfl (jn_ix (wr := []) [0, 1] [] rfl rfl rfl rfl (by decide)) (qr := 0) rfl vw_5 ⟨⟨by decide, by decide⟩, by decide, by decide⟩ (Nat.le_of_ble_eq_true rfl) rfl rfl dX5_board_85 (n := 88) rfl (fun vv ww hp => ?_)
    obtain ⟨rr, rfl, rfl, rfl⟩ := hp
    refine ⟨_, rfl, ?_⟩
    refine g_ws (ws' := [(m 0, .inr (5, [.ref (m 1), .ref (m 2), .ref (m 3), .int (nI n), .ref (m 4), .ref (m 5), .ref (m 6), .int (nI ln), .ref (m 7), .ref (m 8)])), (m 1, aI κ 333 z)]) rfl ?_
    refine g_st (st' := [.int (nI 0)]) rfl ?_
    refine hret.1 _ _ _ _ _ _ rfl (by decide) (by decide) dX5_board_88 ?_
    exact ⟨_, rfl, (by unfold a_board; rw [if_neg (by omega)]; simp only [Nat.reduceEqDiff, if_true, if_false, reduceIte, hha]), rfl⟩
set_option maxHeartbeats 1000000 in
set_option maxRecDepth 100000 in
theorem c_X5_board_er1 (κ : Kp) (l : Launch) (m : Nat → Nat) (n : Nat) (ln : Nat) (x : Int32) (y : Int32) (hx1 : x < 0 ∨ nI 4 ≤ x) : CT κ l yX5_board cX5_board 3 (some .int) 2 42 0 0 [.ref (m 0), .int x, .int y] [(m 0, .inr (5, [.ref (m 1), .ref (m 2), .ref (m 3), .int (nI n), .ref (m 4), .ref (m 5), .ref (m 6), .int (nI ln), .ref (m 7), .ref (m 8)]))] (PI (fun rr ww => rr = (nI 4294967295) ∧ ww = [(m 0, .inr (5, [.ref (m 1), .ref (m 2), .ref (m 3), .int (nI n), .ref (m 4), .ref (m 5), .ref (m 6), .int (nI ln), .ref (m 7), .ref (m 8)]))])) := by
  refine CT.go (plainFor_of_name (by decide)) (Nat.le_of_ble_eq_true rfl) ?_
  intro Γ A Q hl hc hret
  subst hl
  have hc : Cx κ Γ A cX5_board 3 RX5 "board" (some .int) { frames := 2, cells := 0, slots := 0, locals := 42 } := hc
  refine g_lv (lv' := [(0, .ref (m 0)), (1, .int x), (2, .int y)]) rfl ?_
  refine g_iload_n hc 1 rfl rfl dX5_board_0 (n := 1) rfl ?_
  refine g_callS (rest := []) (As := [.int x]) (cells' := 0) (slots' := 0) hc (c_X5_isBoard_n κ _ x hx1) q_X5_isBoard k_ml_RX5_96 rfl rfl (jn_ix (wr := [(m 0, .inr (5, [.ref (m 1), .ref (m 2), .ref (m 3), .int (nI n), .ref (m 4), .ref (m 5), .ref (m 6), .int (nI ln), .ref (m 7), .ref (m 8)]))]) [] [0] rfl rfl rfl rfl (by decide)) ⟨⟨by decide, by decide⟩, by decide, by decide⟩ (Nat.le_of_ble_eq_true rfl) rfl rfl dX5_board_1 (n := 4) rfl (fun vv ww hp => ?_)
  obtain ⟨rr, rfl, rfl, rfl⟩ := hp
  refine ⟨_, rfl, ?_⟩
  refine g_ws (ws' := [(m 0, .inr (5, [.ref (m 1), .ref (m 2), .ref (m 3), .int (nI n), .ref (m 4), .ref (m 5), .ref (m 6), .int (nI ln), .ref (m 7), .ref (m 8)]))]) rfl ?_
  refine g_st (st' := [.int (nI 0)]) rfl ?_
  refine n_if_ne hc (by omega) dX5_board_4 (tgt := 9) (by decide) (n := 7) rfl (fun c_1 => by (exfalso; revert c_1; first | omega | decide)) (fun c_1 => ?_)
  refine g_iconst (v := nI 4294967295) hc (by decide) dX5_board_7 (n := 8) rfl ?_
  refine hret.1 _ _ _ _ _ _ rfl (by decide) (by decide) dX5_board_8 ?_
  exact ⟨_, rfl, rfl, rfl⟩
set_option maxHeartbeats 1000000 in
set_option maxRecDepth 100000 in
theorem c_X5_board_er2 (κ : Kp) (l : Launch) (m : Nat → Nat) (n : Nat) (ln : Nat) (b : Nat) (x : Int32) (hb : b < 4) (hx1 : x < 0 ∨ nI 5 ≤ x) : CT κ l yX5_board cX5_board 3 (some .int) 2 42 0 0 [.ref (m 0), .int (nI b), .int x] [(m 0, .inr (5, [.ref (m 1), .ref (m 2), .ref (m 3), .int (nI n), .ref (m 4), .ref (m 5), .ref (m 6), .int (nI ln), .ref (m 7), .ref (m 8)]))] (PI (fun rr ww => rr = (nI 4294967294) ∧ ww = [(m 0, .inr (5, [.ref (m 1), .ref (m 2), .ref (m 3), .int (nI n), .ref (m 4), .ref (m 5), .ref (m 6), .int (nI ln), .ref (m 7), .ref (m 8)]))])) := by
  refine CT.go (plainFor_of_name (by decide)) (Nat.le_of_ble_eq_true rfl) ?_
  intro Γ A Q hl hc hret
  subst hl
  have hc : Cx κ Γ A cX5_board 3 RX5 "board" (some .int) { frames := 2, cells := 0, slots := 0, locals := 42 } := hc
  refine g_lv (lv' := [(0, .ref (m 0)), (1, .int (nI b)), (2, .int x)]) rfl ?_
  refine g_iload_n hc 1 rfl rfl dX5_board_0 (n := 1) rfl ?_
  refine g_callS (rest := []) (As := [.int (nI b)]) (cells' := 0) (slots' := 0) hc (c_X5_isBoard_y κ _ b (by omega)) q_X5_isBoard k_ml_RX5_96 rfl rfl (jn_ix (wr := [(m 0, .inr (5, [.ref (m 1), .ref (m 2), .ref (m 3), .int (nI n), .ref (m 4), .ref (m 5), .ref (m 6), .int (nI ln), .ref (m 7), .ref (m 8)]))]) [] [0] rfl rfl rfl rfl (by decide)) ⟨⟨by decide, by decide⟩, by decide, by decide⟩ (Nat.le_of_ble_eq_true rfl) rfl rfl dX5_board_1 (n := 4) rfl (fun vv ww hp => ?_)
  obtain ⟨rr, rfl, rfl, rfl⟩ := hp
  refine ⟨_, rfl, ?_⟩
  refine g_ws (ws' := [(m 0, .inr (5, [.ref (m 1), .ref (m 2), .ref (m 3), .int (nI n), .ref (m 4), .ref (m 5), .ref (m 6), .int (nI ln), .ref (m 7), .ref (m 8)]))]) rfl ?_
  refine g_st (st' := [.int (nI 1)]) rfl ?_
  refine n_if_ne hc (by omega) dX5_board_4 (tgt := 9) (by decide) (n := 7) rfl (fun c_1 => ?_) (fun c_1 => by (exfalso; revert c_1; first | omega | decide))
  refine g_iload_n hc 2 rfl rfl dX5_board_9 (n := 10) rfl ?_
  refine g_tsOut (tgt := 89) hc dX5_board_10 (arg_out (a := 4) (by decide) hx1) (by decide) ?_
  refine g_bipush (v := nI 4294967294) hc (by decide) dX5_board_89 (n := 91) rfl ?_
  refine hret.1 _ _ _ _ _ _ rfl (by decide) (by decide) dX5_board_91 ?_
  exact ⟨_, rfl, rfl, rfl⟩
set_option maxHeartbeats 1000000 in
set_option maxRecDepth 100000 in
theorem c_X5_pairsInOrder (κ : Kp) (l : Launch) (m : Nat → Nat) (n : Nat) (ln : Nat) (z : Nat → Nat) (hz : ∀ k, k < 52 → z k < 52) : CT κ l yX5_pairsInOrder cX5_pairsInOrder 3 (some .int) 0 0 0 0 [.ref (m 0)] [(m 0, .inr (5, [.ref (m 1), .ref (m 2), .ref (m 3), .int (nI n), .ref (m 4), .ref (m 5), .ref (m 6), .int (nI ln), .ref (m 7), .ref (m 8)])), (m 1, aI κ 333 z)] (PI (fun rr ww => rr = (nI (sm (fun k => if z (k + 1) = z k + 1 then 1 else 0) 51)) ∧ ww = [(m 0, .inr (5, [.ref (m 1), .ref (m 2), .ref (m 3), .int (nI n), .ref (m 4), .ref (m 5), .ref (m 6), .int (nI ln), .ref (m 7), .ref (m 8)])), (m 1, aI κ 333 z)])) := by
  refine CT.go (plainFor_of_name (by decide)) (Nat.le_of_ble_eq_true rfl) ?_
  intro Γ A Q hl hc hret
  subst hl
  have hc : Cx κ Γ A cX5_pairsInOrder 3 RX5 "pairsInOrder" (some .int) { frames := 0, cells := 0, slots := 0, locals := 0 } := hc
  refine g_lv (lv' := [(0, .ref (m 0))]) rfl ?_
  refine g_iconst (v := nI 0) hc (by decide) dX5_pairsInOrder_0 (n := 1) rfl ?_
  refine g_istore_n (lv2 := [(0, .ref (m 0)), (1, .int (nI 0))]) hc rfl (by decide) [1, 0] rfl rfl dX5_pairsInOrder_1 (n := 2) rfl ?_
  refine g_iconst (v := nI 0) hc (by decide) dX5_pairsInOrder_2 (n := 3) rfl ?_
  refine g_istore_n (lv2 := [(0, .ref (m 0)), (1, .int (nI 0)), (2, .int (nI 0))]) hc rfl (by decide) [1, 2, 0] rfl rfl dX5_pairsInOrder_3 (n := 4) rfl ?_
  have L_1 : ∀ (fuel : Nat) (i : Nat) (t : Nat), (i ≤ 51) → (t = sm (fun k => if z (k + 1) = z k + 1 then 1 else 0) i) → 51 - i < fuel → G κ Γ A 3 0 0 Q [(m 0, .inr (5, [.ref (m 1), .ref (m 2), .ref (m 3), .int (nI n), .ref (m 4), .ref (m 5), .ref (m 6), .int (nI ln), .ref (m 7), .ref (m 8)])), (m 1, aI κ 333 z)] 4 [(0, .ref (m 0)), (1, .int (nI t)), (2, .int (nI i))] [] := by
    intro fuel
    induction fuel with
    | zero => intro i t hi hs h; exact absurd h (Nat.not_lt_zero _)
    | succ fuel ih_2 =>
      intro i t hi hs hn_3
      refine g_iload_n hc 2 rfl rfl dX5_pairsInOrder_4 (n := 5) rfl ?_
      refine g_iconst (v := nI 1) hc (by decide) dX5_pairsInOrder_5 (n := 6) rfl ?_
      refine n_iadd (v := i + 1) hc rfl dX5_pairsInOrder_6 (n := 7) rfl ?_
      refine g_bipush (v := nI 52) hc (by decide) dX5_pairsInOrder_7 (n := 9) rfl ?_
      refine n_icmp_ge hc (by omega) (by omega) dX5_pairsInOrder_9 (tgt := 45) (by decide) (n := 12) rfl (fun c_4 => ?_) (fun c_4 => ?_)
      · skip
        refine g_iload_n hc 1 rfl rfl dX5_pairsInOrder_45 (n := 46) rfl ?_
        refine hret.1 _ _ _ _ _ _ rfl (by decide) (by decide) dX5_pairsInOrder_46 ?_
        exact ⟨_, rfl, (by have e9 : i = 51 := (by omega); subst e9; rw [hs]), rfl⟩
      · skip
        refine g_iload_n hc 1 rfl rfl dX5_pairsInOrder_12 (n := 13) rfl ?_
        refine g_aload_n hc 0 rfl rfl dX5_pairsInOrder_13 (n := 14) rfl ?_
        refine g_getf hc 0 rfl vw_5 inX5 0 (by decide) k_fl_RX5_7 rfl rfl dX5_pairsInOrder_14 (n := 17) rfl ?_
        refine g_iload_n hc 2 rfl rfl dX5_pairsInOrder_17 (n := 18) rfl ?_
        refine g_iconst (v := nI 1) hc (by decide) dX5_pairsInOrder_18 (n := 19) rfl ?_
        refine n_iadd (v := i + 1) hc rfl dX5_pairsInOrder_19 (n := 20) rfl ?_
        refine n_iald (v := z (i + 1)) hc 1 rfl (by omega) (by decide) rfl dX5_pairsInOrder_20 (n := 21) rfl ?_
        have b_5 := hz (i + 1) (by omega)
        refine g_aload_n hc 0 rfl rfl dX5_pairsInOrder_21 (n := 22) rfl ?_
        refine g_getf hc 0 rfl vw_5 inX5 0 (by decide) k_fl_RX5_7 rfl rfl dX5_pairsInOrder_22 (n := 25) rfl ?_
        refine g_iload_n hc 2 rfl rfl dX5_pairsInOrder_25 (n := 26) rfl ?_
        refine n_iald (v := z i) hc 1 rfl (by omega) (by decide) rfl dX5_pairsInOrder_26 (n := 27) rfl ?_
        have b_6 := hz i (by omega)
        refine g_iconst (v := nI 1) hc (by decide) dX5_pairsInOrder_27 (n := 28) rfl ?_
        refine n_iadd (v := (z i) + 1) hc rfl dX5_pairsInOrder_28 (n := 29) rfl ?_
        refine n_icmp_ne hc (by omega) (by omega) dX5_pairsInOrder_29 (tgt := 36) (by decide) (n := 32) rfl (fun c_7 => ?_) (fun c_7 => ?_)
        · skip
          refine g_iconst (v := nI 0) hc (by decide) dX5_pairsInOrder_36 (n := 37) rfl ?_
          refine n_iadd (v := t + 0) hc rfl dX5_pairsInOrder_37 (n := 38) rfl ?_
          refine g_istore_n (lv2 := [(0, .ref (m 0)), (1, .int (nI (t + 0))), (2, .int (nI i))]) hc rfl (by decide) [1, 0, 2] rfl rfl dX5_pairsInOrder_38 (n := 39) rfl ?_
          refine n_iinc (v := i + 1) (zk := 1) (lv2 := [(0, .ref (m 0)), (1, .int (nI (t + 0))), (2, .int (nI (i + 1)))]) hc 2 rfl (by decide) rfl (by decide) [1, 2, 0] rfl rfl dX5_pairsInOrder_39 (n := 42) rfl ?_
          refine g_goto (n := 4) hc dX5_pairsInOrder_42 (by decide) ?_
          exact ih_2 (i + 1) (t + 0) (by omega) (by rw [sm_s, ← hs]; first | (split <;> omega) | omega) (by omega)
        · skip
          refine g_iconst (v := nI 1) hc (by decide) dX5_pairsInOrder_32 (n := 33) rfl ?_
          refine g_goto (n := 37) hc dX5_pairsInOrder_33 (by decide) ?_
          refine n_iadd (v := t + 1) hc rfl dX5_pairsInOrder_37 (n := 38) rfl ?_
          refine g_istore_n (lv2 := [(0, .ref (m 0)), (1, .int (nI (t + 1))), (2, .int (nI i))]) hc rfl (by decide) [1, 0, 2] rfl rfl dX5_pairsInOrder_38 (n := 39) rfl ?_
          refine n_iinc (v := i + 1) (zk := 1) (lv2 := [(0, .ref (m 0)), (1, .int (nI (t + 1))), (2, .int (nI (i + 1)))]) hc 2 rfl (by decide) rfl (by decide) [1, 2, 0] rfl rfl dX5_pairsInOrder_39 (n := 42) rfl ?_
          refine g_goto (n := 4) hc dX5_pairsInOrder_42 (by decide) ?_
          exact ih_2 (i + 1) (t + 1) (by omega) (by rw [sm_s, ← hs]; first | (split <;> omega) | omega) (by omega)
  exact L_1 _ 0 0 (by omega) (rfl) (Nat.lt_succ_self _)
set_option maxHeartbeats 1000000 in
set_option maxRecDepth 100000 in
theorem c_X5_count_ok (κ : Kp) (l : Launch) (m : Nat → Nat) (n : Nat) (ln : Nat) (z : Nat → Nat) (w : Nat) (hv : Zv z) (hw14 : w < 14) : CT κ l yX5_count cX5_count 2 (some .int) 1 23 0 0 [.ref (m 0), .int (nI w)] [(m 0, .inr (5, [.ref (m 1), .ref (m 2), .ref (m 3), .int (nI n), .ref (m 4), .ref (m 5), .ref (m 6), .int (nI ln), .ref (m 7), .ref (m 8)])), (m 1, aI κ 333 z)] (PI (fun rr ww => rr = (nI (a_count z n ln w)) ∧ ww = [(m 0, .inr (5, [.ref (m 1), .ref (m 2), .ref (m 3), .int (nI n), .ref (m 4), .ref (m 5), .ref (m 6), .int (nI ln), .ref (m 7), .ref (m 8)])), (m 1, aI κ 333 z)])) := by
  refine CT.go (plainFor_of_name (by decide)) (Nat.le_of_ble_eq_true rfl) ?_
  intro Γ A Q hl hc hret
  subst hl
  have hc : Cx κ Γ A cX5_count 2 RX5 "count" (some .int) { frames := 1, cells := 0, slots := 0, locals := 23 } := hc
  refine g_lv (lv' := [(0, .ref (m 0)), (1, .int (nI w))]) rfl ?_
  obtain ⟨hzb, hzf, hzc, hp, hh, hk1, hk2, hx⟩ := id hv
  rcases (show w = 0 ∨ w = 1 ∨ w = 2 ∨ w = 3 ∨ w = 4 ∨ w = 5 ∨ w = 6 ∨ w = 7 ∨ w = 8 ∨ w = 9 ∨ w = 10 ∨ w = 11 ∨ w = 12 ∨ w = 13 by omega) with rfl | rfl | rfl | rfl | rfl | rfl | rfl | rfl | rfl | rfl | rfl | rfl | rfl | rfl
  · skip
    refine g_iload_n hc 1 rfl rfl dX5_count_0 (n := 1) rfl ?_
    refine g_tsIn (off := 71) (tgt := 72) hc dX5_count_1 (by decide) (by decide) (by decide) (by decide) ?_
    refine g_aload_n hc 0 rfl rfl dX5_count_72 (n := 73) rfl ?_
    refine g_getf hc 0 rfl vw_5 inX5 0 (by decide) k_fl_RX5_7 rfl rfl dX5_count_73 (n := 76) rfl ?_
    refine g_sipush (v := nI 324) hc (by decide) dX5_count_76 (n := 79) rfl ?_
    refine g_iload_n hc 1 rfl rfl dX5_count_79 (n := 80) rfl ?_
    refine n_iadd (v := 324) hc rfl dX5_count_80 (n := 81) rfl ?_
    refine n_iald (v := z 324) hc 1 rfl (by omega) (by decide) rfl dX5_count_81 (n := 82) rfl ?_
    refine hret.1 _ _ _ _ _ _ rfl (by decide) (by decide) dX5_count_82 ?_
    exact ⟨_, rfl, rfl, rfl⟩
  · skip
    refine g_iload_n hc 1 rfl rfl dX5_count_0 (n := 1) rfl ?_
    refine g_tsIn (off := 71) (tgt := 72) hc dX5_count_1 (by decide) (by decide) (by decide) (by decide) ?_
    refine g_aload_n hc 0 rfl rfl dX5_count_72 (n := 73) rfl ?_
    refine g_getf hc 0 rfl vw_5 inX5 0 (by decide) k_fl_RX5_7 rfl rfl dX5_count_73 (n := 76) rfl ?_
    refine g_sipush (v := nI 324) hc (by decide) dX5_count_76 (n := 79) rfl ?_
    refine g_iload_n hc 1 rfl rfl dX5_count_79 (n := 80) rfl ?_
    refine n_iadd (v := 325) hc rfl dX5_count_80 (n := 81) rfl ?_
    refine n_iald (v := z 325) hc 1 rfl (by omega) (by decide) rfl dX5_count_81 (n := 82) rfl ?_
    refine hret.1 _ _ _ _ _ _ rfl (by decide) (by decide) dX5_count_82 ?_
    exact ⟨_, rfl, rfl, rfl⟩
  · skip
    refine g_iload_n hc 1 rfl rfl dX5_count_0 (n := 1) rfl ?_
    refine g_tsIn (off := 71) (tgt := 72) hc dX5_count_1 (by decide) (by decide) (by decide) (by decide) ?_
    refine g_aload_n hc 0 rfl rfl dX5_count_72 (n := 73) rfl ?_
    refine g_getf hc 0 rfl vw_5 inX5 0 (by decide) k_fl_RX5_7 rfl rfl dX5_count_73 (n := 76) rfl ?_
    refine g_sipush (v := nI 324) hc (by decide) dX5_count_76 (n := 79) rfl ?_
    refine g_iload_n hc 1 rfl rfl dX5_count_79 (n := 80) rfl ?_
    refine n_iadd (v := 326) hc rfl dX5_count_80 (n := 81) rfl ?_
    refine n_iald (v := z 326) hc 1 rfl (by omega) (by decide) rfl dX5_count_81 (n := 82) rfl ?_
    refine hret.1 _ _ _ _ _ _ rfl (by decide) (by decide) dX5_count_82 ?_
    exact ⟨_, rfl, rfl, rfl⟩
  · skip
    refine g_iload_n hc 1 rfl rfl dX5_count_0 (n := 1) rfl ?_
    refine g_tsIn (off := 82) (tgt := 83) hc dX5_count_1 (by decide) (by decide) (by decide) (by decide) ?_
    refine g_aload_n hc 0 rfl rfl dX5_count_83 (n := 84) rfl ?_
    refine g_callV (rest := []) (As := []) (cells' := 0) (slots' := 0) hc (c_X5_bentCards κ _ m n ln z ) q_X5_bentCards k_ml_RX5_77 rfl rfl (jn_ix (wr := []) [0, 1] [] rfl rfl rfl rfl (by decide)) (qr := 0) rfl vw_5 ⟨⟨by decide, by decide⟩, by decide, by decide⟩ (Nat.le_of_ble_eq_true rfl) rfl rfl dX5_count_84 (n := 87) rfl (fun vv ww hp => ?_)
    obtain ⟨rr, rfl, rfl, rfl⟩ := hp
    refine ⟨_, rfl, ?_⟩
    refine g_ws (ws' := [(m 0, .inr (5, [.ref (m 1), .ref (m 2), .ref (m 3), .int (nI n), .ref (m 4), .ref (m 5), .ref (m 6), .int (nI ln), .ref (m 7), .ref (m 8)])), (m 1, aI κ 333 z)]) rfl ?_
    refine g_st (st' := [.int (nI (nbt z))]) rfl ?_
    refine hret.1 _ _ _ _ _ _ rfl (by decide) (by decide) dX5_count_87 ?_
    exact ⟨_, rfl, rfl, rfl⟩
  · skip
    refine g_iload_n hc 1 rfl rfl dX5_count_0 (n := 1) rfl ?_
    refine g_tsIn (off := 87) (tgt := 88) hc dX5_count_1 (by decide) (by decide) (by decide) (by decide) ?_
    refine g_aload_n hc 0 rfl rfl dX5_count_88 (n := 89) rfl ?_
    refine g_getf hc 0 rfl vw_5 inX5 0 (by decide) k_fl_RX5_7 rfl rfl dX5_count_89 (n := 92) rfl ?_
    refine g_sipush (v := nI 327) hc (by decide) dX5_count_92 (n := 95) rfl ?_
    refine g_iload_n hc 1 rfl rfl dX5_count_95 (n := 96) rfl ?_
    refine n_iadd (v := 331) hc rfl dX5_count_96 (n := 97) rfl ?_
    refine g_iconst (v := nI 4) hc (by decide) dX5_count_97 (n := 98) rfl ?_
    refine n_isub (v := 327) hc (by omega) rfl dX5_count_98 (n := 99) rfl ?_
    refine n_iald (v := z 327) hc 1 rfl (by omega) (by decide) rfl dX5_count_99 (n := 100) rfl ?_
    refine hret.1 _ _ _ _ _ _ rfl (by decide) (by decide) dX5_count_100 ?_
    exact ⟨_, rfl, rfl, rfl⟩
  · skip
    refine g_iload_n hc 1 rfl rfl dX5_count_0 (n := 1) rfl ?_
    refine g_tsIn (off := 87) (tgt := 88) hc dX5_count_1 (by decide) (by decide) (by decide) (by decide) ?_
    refine g_aload_n hc 0 rfl rfl dX5_count_88 (n := 89) rfl ?_
    refine g_getf hc 0 rfl vw_5 inX5 0 (by decide) k_fl_RX5_7 rfl rfl dX5_count_89 (n := 92) rfl ?_
    refine g_sipush (v := nI 327) hc (by decide) dX5_count_92 (n := 95) rfl ?_
    refine g_iload_n hc 1 rfl rfl dX5_count_95 (n := 96) rfl ?_
    refine n_iadd (v := 332) hc rfl dX5_count_96 (n := 97) rfl ?_
    refine g_iconst (v := nI 4) hc (by decide) dX5_count_97 (n := 98) rfl ?_
    refine n_isub (v := 328) hc (by omega) rfl dX5_count_98 (n := 99) rfl ?_
    refine n_iald (v := z 328) hc 1 rfl (by omega) (by decide) rfl dX5_count_99 (n := 100) rfl ?_
    refine hret.1 _ _ _ _ _ _ rfl (by decide) (by decide) dX5_count_100 ?_
    exact ⟨_, rfl, rfl, rfl⟩
  · skip
    refine g_iload_n hc 1 rfl rfl dX5_count_0 (n := 1) rfl ?_
    refine g_tsIn (off := 87) (tgt := 88) hc dX5_count_1 (by decide) (by decide) (by decide) (by decide) ?_
    refine g_aload_n hc 0 rfl rfl dX5_count_88 (n := 89) rfl ?_
    refine g_getf hc 0 rfl vw_5 inX5 0 (by decide) k_fl_RX5_7 rfl rfl dX5_count_89 (n := 92) rfl ?_
    refine g_sipush (v := nI 327) hc (by decide) dX5_count_92 (n := 95) rfl ?_
    refine g_iload_n hc 1 rfl rfl dX5_count_95 (n := 96) rfl ?_
    refine n_iadd (v := 333) hc rfl dX5_count_96 (n := 97) rfl ?_
    refine g_iconst (v := nI 4) hc (by decide) dX5_count_97 (n := 98) rfl ?_
    refine n_isub (v := 329) hc (by omega) rfl dX5_count_98 (n := 99) rfl ?_
    refine n_iald (v := z 329) hc 1 rfl (by omega) (by decide) rfl dX5_count_99 (n := 100) rfl ?_
    refine hret.1 _ _ _ _ _ _ rfl (by decide) (by decide) dX5_count_100 ?_
    exact ⟨_, rfl, rfl, rfl⟩
  · skip
    refine g_iload_n hc 1 rfl rfl dX5_count_0 (n := 1) rfl ?_
    refine g_tsIn (off := 87) (tgt := 88) hc dX5_count_1 (by decide) (by decide) (by decide) (by decide) ?_
    refine g_aload_n hc 0 rfl rfl dX5_count_88 (n := 89) rfl ?_
    refine g_getf hc 0 rfl vw_5 inX5 0 (by decide) k_fl_RX5_7 rfl rfl dX5_count_89 (n := 92) rfl ?_
    refine g_sipush (v := nI 327) hc (by decide) dX5_count_92 (n := 95) rfl ?_
    refine g_iload_n hc 1 rfl rfl dX5_count_95 (n := 96) rfl ?_
    refine n_iadd (v := 334) hc rfl dX5_count_96 (n := 97) rfl ?_
    refine g_iconst (v := nI 4) hc (by decide) dX5_count_97 (n := 98) rfl ?_
    refine n_isub (v := 330) hc (by omega) rfl dX5_count_98 (n := 99) rfl ?_
    refine n_iald (v := z 330) hc 1 rfl (by omega) (by decide) rfl dX5_count_99 (n := 100) rfl ?_
    refine hret.1 _ _ _ _ _ _ rfl (by decide) (by decide) dX5_count_100 ?_
    exact ⟨_, rfl, rfl, rfl⟩
  · skip
    refine g_iload_n hc 1 rfl rfl dX5_count_0 (n := 1) rfl ?_
    refine g_tsIn (off := 87) (tgt := 88) hc dX5_count_1 (by decide) (by decide) (by decide) (by decide) ?_
    refine g_aload_n hc 0 rfl rfl dX5_count_88 (n := 89) rfl ?_
    refine g_getf hc 0 rfl vw_5 inX5 0 (by decide) k_fl_RX5_7 rfl rfl dX5_count_89 (n := 92) rfl ?_
    refine g_sipush (v := nI 327) hc (by decide) dX5_count_92 (n := 95) rfl ?_
    refine g_iload_n hc 1 rfl rfl dX5_count_95 (n := 96) rfl ?_
    refine n_iadd (v := 335) hc rfl dX5_count_96 (n := 97) rfl ?_
    refine g_iconst (v := nI 4) hc (by decide) dX5_count_97 (n := 98) rfl ?_
    refine n_isub (v := 331) hc (by omega) rfl dX5_count_98 (n := 99) rfl ?_
    refine n_iald (v := z 331) hc 1 rfl (by omega) (by decide) rfl dX5_count_99 (n := 100) rfl ?_
    refine hret.1 _ _ _ _ _ _ rfl (by decide) (by decide) dX5_count_100 ?_
    exact ⟨_, rfl, rfl, rfl⟩
  · skip
    refine g_iload_n hc 1 rfl rfl dX5_count_0 (n := 1) rfl ?_
    refine g_tsIn (off := 87) (tgt := 88) hc dX5_count_1 (by decide) (by decide) (by decide) (by decide) ?_
    refine g_aload_n hc 0 rfl rfl dX5_count_88 (n := 89) rfl ?_
    refine g_getf hc 0 rfl vw_5 inX5 0 (by decide) k_fl_RX5_7 rfl rfl dX5_count_89 (n := 92) rfl ?_
    refine g_sipush (v := nI 327) hc (by decide) dX5_count_92 (n := 95) rfl ?_
    refine g_iload_n hc 1 rfl rfl dX5_count_95 (n := 96) rfl ?_
    refine n_iadd (v := 336) hc rfl dX5_count_96 (n := 97) rfl ?_
    refine g_iconst (v := nI 4) hc (by decide) dX5_count_97 (n := 98) rfl ?_
    refine n_isub (v := 332) hc (by omega) rfl dX5_count_98 (n := 99) rfl ?_
    refine n_iald (v := z 332) hc 1 rfl (by omega) (by decide) rfl dX5_count_99 (n := 100) rfl ?_
    refine hret.1 _ _ _ _ _ _ rfl (by decide) (by decide) dX5_count_100 ?_
    exact ⟨_, rfl, rfl, rfl⟩
  · skip
    refine g_iload_n hc 1 rfl rfl dX5_count_0 (n := 1) rfl ?_
    refine g_tsIn (off := 100) (tgt := 101) hc dX5_count_1 (by decide) (by decide) (by decide) (by decide) ?_
    refine g_aload_n hc 0 rfl rfl dX5_count_101 (n := 102) rfl ?_
    refine g_sipush (v := nI 316) hc (by decide) dX5_count_102 (n := 105) rfl ?_
    refine g_callV (rest := []) (As := [.int (nI 316)]) (cells' := 0) (slots' := 0) hc (c_X5_boardsOf κ _ m n ln z 316 (by decide)) q_X5_boardsOf k_ml_RX5_43 rfl rfl (jn_ix (wr := []) [0, 1] [] rfl rfl rfl rfl (by decide)) (qr := 0) rfl vw_5 ⟨⟨by decide, by decide⟩, by decide, by decide⟩ (Nat.le_of_ble_eq_true rfl) rfl rfl dX5_count_105 (n := 108) rfl (fun vv ww hp => ?_)
    obtain ⟨rr, rfl, rfl, rfl⟩ := hp
    refine ⟨_, rfl, ?_⟩
    refine g_ws (ws' := [(m 0, .inr (5, [.ref (m 1), .ref (m 2), .ref (m 3), .int (nI n), .ref (m 4), .ref (m 5), .ref (m 6), .int (nI ln), .ref (m 7), .ref (m 8)])), (m 1, aI κ 333 z)]) rfl ?_
    refine g_st (st' := [.int (nI (sm (fun k => z (316 + k)) 4))]) rfl ?_
    refine hret.1 _ _ _ _ _ _ rfl (by decide) (by decide) dX5_count_108 ?_
    exact ⟨_, rfl, rfl, rfl⟩
  · skip
    refine g_iload_n hc 1 rfl rfl dX5_count_0 (n := 1) rfl ?_
    refine g_tsIn (off := 108) (tgt := 109) hc dX5_count_1 (by decide) (by decide) (by decide) (by decide) ?_
    refine g_aload_n hc 0 rfl rfl dX5_count_109 (n := 110) rfl ?_
    refine g_callV (rest := []) (As := []) (cells' := 0) (slots' := 0) hc (c_X5_pairsInOrder κ _ m n ln z hp.1) q_X5_pairsInOrder k_ml_RX5_119 rfl rfl (jn_ix (wr := []) [0, 1] [] rfl rfl rfl rfl (by decide)) (qr := 0) rfl vw_5 ⟨⟨by decide, by decide⟩, by decide, by decide⟩ (Nat.le_of_ble_eq_true rfl) rfl rfl dX5_count_110 (n := 113) rfl (fun vv ww hp => ?_)
    obtain ⟨rr, rfl, rfl, rfl⟩ := hp
    refine ⟨_, rfl, ?_⟩
    refine g_ws (ws' := [(m 0, .inr (5, [.ref (m 1), .ref (m 2), .ref (m 3), .int (nI n), .ref (m 4), .ref (m 5), .ref (m 6), .int (nI ln), .ref (m 7), .ref (m 8)])), (m 1, aI κ 333 z)]) rfl ?_
    refine g_st (st' := [.int (nI (sm (fun k => if z (k + 1) = z k + 1 then 1 else 0) 51))]) rfl ?_
    refine hret.1 _ _ _ _ _ _ rfl (by decide) (by decide) dX5_count_113 ?_
    exact ⟨_, rfl, rfl, rfl⟩
  · skip
    refine g_iload_n hc 1 rfl rfl dX5_count_0 (n := 1) rfl ?_
    refine g_tsIn (off := 113) (tgt := 114) hc dX5_count_1 (by decide) (by decide) (by decide) (by decide) ?_
    refine g_aload_n hc 0 rfl rfl dX5_count_114 (n := 115) rfl ?_
    refine g_getf hc 0 rfl vw_5 inX5 7 (by decide) k_fl_RX5_83 rfl rfl dX5_count_115 (n := 118) rfl ?_
    refine hret.1 _ _ _ _ _ _ rfl (by decide) (by decide) dX5_count_118 ?_
    exact ⟨_, rfl, rfl, rfl⟩
  · skip
    refine g_iload_n hc 1 rfl rfl dX5_count_0 (n := 1) rfl ?_
    refine g_tsIn (off := 118) (tgt := 119) hc dX5_count_1 (by decide) (by decide) (by decide) (by decide) ?_
    refine g_aload_n hc 0 rfl rfl dX5_count_119 (n := 120) rfl ?_
    refine g_getf hc 0 rfl vw_5 inX5 3 (by decide) k_fl_RX5_39 rfl rfl dX5_count_120 (n := 123) rfl ?_
    refine hret.1 _ _ _ _ _ _ rfl (by decide) (by decide) dX5_count_123 ?_
    exact ⟨_, rfl, rfl, rfl⟩
set_option maxHeartbeats 1000000 in
set_option maxRecDepth 100000 in
theorem c_X5_count_er (κ : Kp) (l : Launch) (m : Nat → Nat) (n : Nat) (ln : Nat) (x : Int32) (hx1 : x < 0 ∨ nI 14 ≤ x) : CT κ l yX5_count cX5_count 2 (some .int) 0 0 0 0 [.ref (m 0), .int x] [(m 0, .inr (5, [.ref (m 1), .ref (m 2), .ref (m 3), .int (nI n), .ref (m 4), .ref (m 5), .ref (m 6), .int (nI ln), .ref (m 7), .ref (m 8)]))] (PI (fun rr ww => rr = (nI 4294967294) ∧ ww = [(m 0, .inr (5, [.ref (m 1), .ref (m 2), .ref (m 3), .int (nI n), .ref (m 4), .ref (m 5), .ref (m 6), .int (nI ln), .ref (m 7), .ref (m 8)]))])) := by
  refine CT.go (plainFor_of_name (by decide)) (Nat.le_of_ble_eq_true rfl) ?_
  intro Γ A Q hl hc hret
  subst hl
  have hc : Cx κ Γ A cX5_count 2 RX5 "count" (some .int) { frames := 0, cells := 0, slots := 0, locals := 0 } := hc
  refine g_lv (lv' := [(0, .ref (m 0)), (1, .int x)]) rfl ?_
  refine g_iload_n hc 1 rfl rfl dX5_count_0 (n := 1) rfl ?_
  refine g_tsOut (tgt := 124) hc dX5_count_1 (arg_out (a := 13) (by decide) hx1) (by decide) ?_
  refine g_bipush (v := nI 4294967294) hc (by decide) dX5_count_124 (n := 126) rfl ?_
  refine hret.1 _ _ _ _ _ _ rfl (by decide) (by decide) dX5_count_126 ?_
  exact ⟨_, rfl, rfl, rfl⟩
set_option maxHeartbeats 1000000 in
set_option maxRecDepth 100000 in
theorem c_X5_alike_ok (κ : Kp) (l : Launch) (m : Nat → Nat) (n : Nat) (ln : Nat) (z : Nat → Nat) (b : Nat) (c : Nat) (hv : Zv z) (hb : b < 4) (hc4 : c < 4) (hha : z (312 + b) = 1) (hhc : z (312 + c) = 1) : CT κ l yX5_alike cX5_alike 5 (some .int) 2 42 0 0 [.ref (m 0), .int (nI b), .int (nI c)] [(m 0, .inr (5, [.ref (m 1), .ref (m 2), .ref (m 3), .int (nI n), .ref (m 4), .ref (m 5), .ref (m 6), .int (nI ln), .ref (m 7), .ref (m 8)])), (m 1, aI κ 333 z)] (PI (fun rr ww => rr = (nI (al (hd z b) (hd z c))) ∧ ww = [(m 0, .inr (5, [.ref (m 1), .ref (m 2), .ref (m 3), .int (nI n), .ref (m 4), .ref (m 5), .ref (m 6), .int (nI ln), .ref (m 7), .ref (m 8)])), (m 1, aI κ 333 z)])) := by
  refine CT.go (plainFor_of_name (by decide)) (Nat.le_of_ble_eq_true rfl) ?_
  intro Γ A Q hl hc hret
  subst hl
  have hc : Cx κ Γ A cX5_alike 5 RX5 "alike" (some .int) { frames := 2, cells := 0, slots := 0, locals := 42 } := hc
  refine g_lv (lv' := [(0, .ref (m 0)), (1, .int (nI b)), (2, .int (nI c))]) rfl ?_
  obtain ⟨hzb, hzf, hzc, hp, hh, hk1, hk2, hx⟩ := id hv
  refine g_iload_n hc 1 rfl rfl dX5_alike_0 (n := 1) rfl ?_
  refine g_callS (rest := []) (As := [.int (nI b)]) (cells' := 0) (slots' := 0) hc (c_X5_isBoard_y κ _ b (by omega)) q_X5_isBoard k_ml_RX5_96 rfl rfl (jn_ix (wr := [(m 0, .inr (5, [.ref (m 1), .ref (m 2), .ref (m 3), .int (nI n), .ref (m 4), .ref (m 5), .ref (m 6), .int (nI ln), .ref (m 7), .ref (m 8)])), (m 1, aI κ 333 z)]) [] [0, 1] rfl rfl rfl rfl (by decide)) ⟨⟨by decide, by decide⟩, by decide, by decide⟩ (Nat.le_of_ble_eq_true rfl) rfl rfl dX5_alike_1 (n := 4) rfl (fun vv ww hp => ?_)
  obtain ⟨rr, rfl, rfl, rfl⟩ := hp
  refine ⟨_, rfl, ?_⟩
  refine g_ws (ws' := [(m 0, .inr (5, [.ref (m 1), .ref (m 2), .ref (m 3), .int (nI n), .ref (m 4), .ref (m 5), .ref (m 6), .int (nI ln), .ref (m 7), .ref (m 8)])), (m 1, aI κ 333 z)]) rfl ?_
  refine g_st (st' := [.int (nI 1)]) rfl ?_
  refine n_if_eq hc (by omega) dX5_alike_4 (tgt := 14) (by decide) (n := 7) rfl (fun c_1 => by (exfalso; revert c_1; first | omega | decide)) (fun c_1 => ?_)
  refine g_iload_n hc 2 rfl rfl dX5_alike_7 (n := 8) rfl ?_
  refine g_callS (rest := []) (As := [.int (nI c)]) (cells' := 0) (slots' := 0) hc (c_X5_isBoard_y κ _ c (by omega)) q_X5_isBoard k_ml_RX5_96 rfl rfl (jn_ix (wr := [(m 0, .inr (5, [.ref (m 1), .ref (m 2), .ref (m 3), .int (nI n), .ref (m 4), .ref (m 5), .ref (m 6), .int (nI ln), .ref (m 7), .ref (m 8)])), (m 1, aI κ 333 z)]) [] [0, 1] rfl rfl rfl rfl (by decide)) ⟨⟨by decide, by decide⟩, by decide, by decide⟩ (Nat.le_of_ble_eq_true rfl) rfl rfl dX5_alike_8 (n := 11) rfl (fun vv ww hp => ?_)
  obtain ⟨rr, rfl, rfl, rfl⟩ := hp
  refine ⟨_, rfl, ?_⟩
  refine g_ws (ws' := [(m 0, .inr (5, [.ref (m 1), .ref (m 2), .ref (m 3), .int (nI n), .ref (m 4), .ref (m 5), .ref (m 6), .int (nI ln), .ref (m 7), .ref (m 8)])), (m 1, aI κ 333 z)]) rfl ?_
  refine g_st (st' := [.int (nI 1)]) rfl ?_
  refine n_if_ne hc (by omega) dX5_alike_11 (tgt := 16) (by decide) (n := 14) rfl (fun c_2 => ?_) (fun c_2 => by (exfalso; revert c_2; first | omega | decide))
  refine g_aload_n hc 0 rfl rfl dX5_alike_16 (n := 17) rfl ?_
  refine g_getf hc 0 rfl vw_5 inX5 0 (by decide) k_fl_RX5_7 rfl rfl dX5_alike_17 (n := 20) rfl ?_
  refine g_sipush (v := nI 312) hc (by decide) dX5_alike_20 (n := 23) rfl ?_
  refine g_iload_n hc 1 rfl rfl dX5_alike_23 (n := 24) rfl ?_
  refine n_iadd (v := 312 + b) hc rfl dX5_alike_24 (n := 25) rfl ?_
  refine n_iald (v := z (312 + b)) hc 1 rfl (by omega) (by decide) rfl dX5_alike_25 (n := 26) rfl ?_
  refine n_if_eq hc (by omega) dX5_alike_26 (tgt := 42) (by decide) (n := 29) rfl (fun c_3 => by (exfalso; revert c_3; first | omega | decide)) (fun c_3 => ?_)
  refine g_aload_n hc 0 rfl rfl dX5_alike_29 (n := 30) rfl ?_
  refine g_getf hc 0 rfl vw_5 inX5 0 (by decide) k_fl_RX5_7 rfl rfl dX5_alike_30 (n := 33) rfl ?_
  refine g_sipush (v := nI 312) hc (by decide) dX5_alike_33 (n := 36) rfl ?_
  refine g_iload_n hc 2 rfl rfl dX5_alike_36 (n := 37) rfl ?_
  refine n_iadd (v := 312 + c) hc rfl dX5_alike_37 (n := 38) rfl ?_
  refine n_iald (v := z (312 + c)) hc 1 rfl (by omega) (by decide) rfl dX5_alike_38 (n := 39) rfl ?_
  refine n_if_ne hc (by omega) dX5_alike_39 (tgt := 45) (by decide) (n := 42) rfl (fun c_4 => ?_) (fun c_4 => by (exfalso; revert c_4; first | omega | decide))
  refine g_iconst (v := nI 1) hc (by decide) dX5_alike_45 (n := 46) rfl ?_
  refine g_istore_n (lv2 := [(0, .ref (m 0)), (1, .int (nI b)), (2, .int (nI c)), (3, .int (nI 1))]) hc rfl (by decide) [1, 2, 3, 0] rfl rfl dX5_alike_46 (n := 47) rfl ?_
  refine g_iconst (v := nI 0) hc (by decide) dX5_alike_47 (n := 48) rfl ?_
  refine g_istore (lv2 := [(0, .ref (m 0)), (1, .int (nI b)), (2, .int (nI c)), (3, .int (nI 1)), (4, .int (nI 0))]) hc (by decide) [1, 2, 3, 4, 0] rfl rfl dX5_alike_48 (n := 50) rfl ?_
  have L_5 : ∀ (fuel : Nat) (i : Nat) (e : Nat), (i ≤ 52) → (e ≤ 1) → (e = if sm (fun k => if hd z b k = hd z c k then 0 else 1) i = 0 then 1 else 0) → 52 - i < fuel → G κ Γ A 5 0 0 Q [(m 0, .inr (5, [.ref (m 1), .ref (m 2), .ref (m 3), .int (nI n), .ref (m 4), .ref (m 5), .ref (m 6), .int (nI ln), .ref (m 7), .ref (m 8)])), (m 1, aI κ 333 z)] 50 [(0, .ref (m 0)), (1, .int (nI b)), (2, .int (nI c)), (3, .int (nI e)), (4, .int (nI i))] [] := by
    intro fuel
    induction fuel with
    | zero => intro i e hi he hs h; exact absurd h (Nat.not_lt_zero _)
    | succ fuel ih_6 =>
      intro i e hi he hs hn_7
      refine g_iload hc 4 rfl dX5_alike_50 (n := 52) rfl ?_
      refine g_bipush (v := nI 52) hc (by decide) dX5_alike_52 (n := 54) rfl ?_
      refine n_icmp_ge hc (by omega) (by omega) dX5_alike_54 (tgt := 90) (by decide) (n := 57) rfl (fun c_8 => ?_) (fun c_8 => ?_)
      · skip
        refine g_iload_n hc 3 rfl rfl dX5_alike_90 (n := 91) rfl ?_
        refine n_if_eq hc (by omega) dX5_alike_91 (tgt := 98) (by decide) (n := 94) rfl (fun c_9 => ?_) (fun c_9 => ?_)
        · skip
          refine g_iconst (v := nI 0) hc (by decide) dX5_alike_98 (n := 99) rfl ?_
          refine hret.1 _ _ _ _ _ _ rfl (by decide) (by decide) dX5_alike_99 ?_
          exact ⟨_, rfl, (by have e9 : i = 52 := (by omega); subst e9; exact congrArg nI (show 0 = al (hd z b) (hd z c) by unfold al; omega)), rfl⟩
        · skip
          refine g_iconst (v := nI 1) hc (by decide) dX5_alike_94 (n := 95) rfl ?_
          refine g_goto (n := 99) hc dX5_alike_95 (by decide) ?_
          refine hret.1 _ _ _ _ _ _ rfl (by decide) (by decide) dX5_alike_99 ?_
          exact ⟨_, rfl, (by have e9 : i = 52 := (by omega); subst e9; exact congrArg nI (show 1 = al (hd z b) (hd z c) by unfold al; omega)), rfl⟩
      · skip
        refine g_iload_n hc 3 rfl rfl dX5_alike_57 (n := 58) rfl ?_
        refine n_if_eq hc (by omega) dX5_alike_58 (tgt := 82) (by decide) (n := 61) rfl (fun c_10 => ?_) (fun c_10 => ?_)
        · skip
          refine g_iconst (v := nI 0) hc (by decide) dX5_alike_82 (n := 83) rfl ?_
          refine g_istore_n (lv2 := [(0, .ref (m 0)), (1, .int (nI b)), (2, .int (nI c)), (3, .int (nI 0)), (4, .int (nI i))]) hc rfl (by decide) [1, 2, 3, 0, 4] rfl rfl dX5_alike_83 (n := 84) rfl ?_
          refine n_iinc (v := i + 1) (zk := 1) (lv2 := [(0, .ref (m 0)), (1, .int (nI b)), (2, .int (nI c)), (3, .int (nI 0)), (4, .int (nI (i + 1)))]) hc 4 rfl (by decide) rfl (by decide) [1, 2, 3, 4, 0] rfl rfl dX5_alike_84 (n := 87) rfl ?_
          refine g_goto (n := 50) hc dX5_alike_87 (by decide) ?_
          exact ih_6 (i + 1) 0 (by omega) (by omega) (by rw [sm_s]; by_cases q0 : sm (fun k => if hd z b k = hd z c k then 0 else 1) i = 0; (rw [if_pos q0] at hs; (repeat' split) <;> omega); (rw [if_neg q0] at hs; (repeat' split) <;> omega)) (by omega)
        · skip
          refine g_aload_n hc 0 rfl rfl dX5_alike_61 (n := 62) rfl ?_
          refine g_iload_n hc 1 rfl rfl dX5_alike_62 (n := 63) rfl ?_
          refine g_iload hc 4 rfl dX5_alike_63 (n := 65) rfl ?_
          refine g_callV (rest := []) (As := [.int (nI b), .int (nI i)]) (cells' := 0) (slots' := 0) hc (c_X5_holderOf κ _ m n ln z b i hb (by omega)) q_X5_holderOf k_ml_RX5_92 rfl rfl (jn_ix (wr := []) [0, 1] [] rfl rfl rfl rfl (by decide)) (qr := 0) rfl vw_5 ⟨⟨by decide, by decide⟩, by decide, by decide⟩ (Nat.le_of_ble_eq_true rfl) rfl rfl dX5_alike_65 (n := 68) rfl (fun vv ww hp => ?_)
          obtain ⟨rr, rfl, rfl, rfl⟩ := hp
          refine ⟨_, rfl, ?_⟩
          refine g_ws (ws' := [(m 0, .inr (5, [.ref (m 1), .ref (m 2), .ref (m 3), .int (nI n), .ref (m 4), .ref (m 5), .ref (m 6), .int (nI ln), .ref (m 7), .ref (m 8)])), (m 1, aI κ 333 z)]) rfl ?_
          refine g_st (st' := [.int (nI (hd z b i))]) rfl ?_
          have hq_11 := hd_lt hh hb i (by omega)
          refine g_aload_n hc 0 rfl rfl dX5_alike_68 (n := 69) rfl ?_
          refine g_iload_n hc 2 rfl rfl dX5_alike_69 (n := 70) rfl ?_
          refine g_iload hc 4 rfl dX5_alike_70 (n := 72) rfl ?_
          refine g_callV (rest := [.int (nI (hd z b i))]) (As := [.int (nI c), .int (nI i)]) (cells' := 0) (slots' := 0) hc (c_X5_holderOf κ _ m n ln z c i hc4 (by omega)) q_X5_holderOf k_ml_RX5_92 rfl rfl (jn_ix (wr := []) [0, 1] [] rfl rfl rfl rfl (by decide)) (qr := 0) rfl vw_5 ⟨⟨by decide, by decide⟩, by decide, by decide⟩ (Nat.le_of_ble_eq_true rfl) rfl rfl dX5_alike_72 (n := 75) rfl (fun vv ww hp => ?_)
          obtain ⟨rr, rfl, rfl, rfl⟩ := hp
          refine ⟨_, rfl, ?_⟩
          refine g_ws (ws' := [(m 0, .inr (5, [.ref (m 1), .ref (m 2), .ref (m 3), .int (nI n), .ref (m 4), .ref (m 5), .ref (m 6), .int (nI ln), .ref (m 7), .ref (m 8)])), (m 1, aI κ 333 z)]) rfl ?_
          refine g_st (st' := [.int (nI (hd z c i)), .int (nI (hd z b i))]) rfl ?_
          have hq_12 := hd_lt hh hc4 i (by omega)
          refine n_icmp_ne hc (by omega) (by omega) dX5_alike_75 (tgt := 82) (by decide) (n := 78) rfl (fun c_13 => ?_) (fun c_13 => ?_)
          · skip
            refine g_iconst (v := nI 0) hc (by decide) dX5_alike_82 (n := 83) rfl ?_
            refine g_istore_n (lv2 := [(0, .ref (m 0)), (1, .int (nI b)), (2, .int (nI c)), (3, .int (nI 0)), (4, .int (nI i))]) hc rfl (by decide) [1, 2, 3, 0, 4] rfl rfl dX5_alike_83 (n := 84) rfl ?_
            refine n_iinc (v := i + 1) (zk := 1) (lv2 := [(0, .ref (m 0)), (1, .int (nI b)), (2, .int (nI c)), (3, .int (nI 0)), (4, .int (nI (i + 1)))]) hc 4 rfl (by decide) rfl (by decide) [1, 2, 3, 4, 0] rfl rfl dX5_alike_84 (n := 87) rfl ?_
            refine g_goto (n := 50) hc dX5_alike_87 (by decide) ?_
            exact ih_6 (i + 1) 0 (by omega) (by omega) (by rw [sm_s]; by_cases q0 : sm (fun k => if hd z b k = hd z c k then 0 else 1) i = 0; (rw [if_pos q0] at hs; (repeat' split) <;> omega); (rw [if_neg q0] at hs; (repeat' split) <;> omega)) (by omega)
          · skip
            refine g_iconst (v := nI 1) hc (by decide) dX5_alike_78 (n := 79) rfl ?_
            refine g_goto (n := 83) hc dX5_alike_79 (by decide) ?_
            refine g_istore_n (lv2 := [(0, .ref (m 0)), (1, .int (nI b)), (2, .int (nI c)), (3, .int (nI 1)), (4, .int (nI i))]) hc rfl (by decide) [1, 2, 3, 0, 4] rfl rfl dX5_alike_83 (n := 84) rfl ?_
            refine n_iinc (v := i + 1) (zk := 1) (lv2 := [(0, .ref (m 0)), (1, .int (nI b)), (2, .int (nI c)), (3, .int (nI 1)), (4, .int (nI (i + 1)))]) hc 4 rfl (by decide) rfl (by decide) [1, 2, 3, 4, 0] rfl rfl dX5_alike_84 (n := 87) rfl ?_
            refine g_goto (n := 50) hc dX5_alike_87 (by decide) ?_
            exact ih_6 (i + 1) 1 (by omega) (by omega) (by rw [sm_s]; by_cases q0 : sm (fun k => if hd z b k = hd z c k then 0 else 1) i = 0; (rw [if_pos q0] at hs; (repeat' split) <;> omega); (rw [if_neg q0] at hs; (repeat' split) <;> omega)) (by omega)
  exact L_5 _ 0 1 (by omega) (by decide) (rfl) (Nat.lt_succ_self _)
set_option maxHeartbeats 1000000 in
set_option maxRecDepth 100000 in
theorem c_X5_alike_no (κ : Kp) (l : Launch) (m : Nat → Nat) (n : Nat) (ln : Nat) (z : Nat → Nat) (b : Nat) (c : Nat) (hb : b < 4) (hc4 : c < 4) (hno : z (312 + b) = 0 ∨ z (312 + c) = 0) (hf : ∀ k, k < 8 → z (312 + k) ≤ 1) : CT κ l yX5_alike cX5_alike 5 (some .int) 2 42 0 0 [.ref (m 0), .int (nI b), .int (nI c)] [(m 0, .inr (5, [.ref (m 1), .ref (m 2), .ref (m 3), .int (nI n), .ref (m 4), .ref (m 5), .ref (m 6), .int (nI ln), .ref (m 7), .ref (m 8)])), (m 1, aI κ 333 z)] (PI (fun rr ww => rr = (nI 4294967290) ∧ ww = [(m 0, .inr (5, [.ref (m 1), .ref (m 2), .ref (m 3), .int (nI n), .ref (m 4), .ref (m 5), .ref (m 6), .int (nI ln), .ref (m 7), .ref (m 8)])), (m 1, aI κ 333 z)])) := by
  refine CT.go (plainFor_of_name (by decide)) (Nat.le_of_ble_eq_true rfl) ?_
  intro Γ A Q hl hc hret
  subst hl
  have hc : Cx κ Γ A cX5_alike 5 RX5 "alike" (some .int) { frames := 2, cells := 0, slots := 0, locals := 42 } := hc
  refine g_lv (lv' := [(0, .ref (m 0)), (1, .int (nI b)), (2, .int (nI c))]) rfl ?_
  have f0 := hf b (by omega)
  have f1 := hf c (by omega)
  refine g_iload_n hc 1 rfl rfl dX5_alike_0 (n := 1) rfl ?_
  refine g_callS (rest := []) (As := [.int (nI b)]) (cells' := 0) (slots' := 0) hc (c_X5_isBoard_y κ _ b (by omega)) q_X5_isBoard k_ml_RX5_96 rfl rfl (jn_ix (wr := [(m 0, .inr (5, [.ref (m 1), .ref (m 2), .ref (m 3), .int (nI n), .ref (m 4), .ref (m 5), .ref (m 6), .int (nI ln), .ref (m 7), .ref (m 8)])), (m 1, aI κ 333 z)]) [] [0, 1] rfl rfl rfl rfl (by decide)) ⟨⟨by decide, by decide⟩, by decide, by decide⟩ (Nat.le_of_ble_eq_true rfl) rfl rfl dX5_alike_1 (n := 4) rfl (fun vv ww hp => ?_)
  obtain ⟨rr, rfl, rfl, rfl⟩ := hp
  refine ⟨_, rfl, ?_⟩
  refine g_ws (ws' := [(m 0, .inr (5, [.ref (m 1), .ref (m 2), .ref (m 3), .int (nI n), .ref (m 4), .ref (m 5), .ref (m 6), .int (nI ln), .ref (m 7), .ref (m 8)])), (m 1, aI κ 333 z)]) rfl ?_
  refine g_st (st' := [.int (nI 1)]) rfl ?_
  refine n_if_eq hc (by omega) dX5_alike_4 (tgt := 14) (by decide) (n := 7) rfl (fun c_1 => by (exfalso; revert c_1; first | omega | decide)) (fun c_1 => ?_)
  refine g_iload_n hc 2 rfl rfl dX5_alike_7 (n := 8) rfl ?_
  refine g_callS (rest := []) (As := [.int (nI c)]) (cells' := 0) (slots' := 0) hc (c_X5_isBoard_y κ _ c (by omega)) q_X5_isBoard k_ml_RX5_96 rfl rfl (jn_ix (wr := [(m 0, .inr (5, [.ref (m 1), .ref (m 2), .ref (m 3), .int (nI n), .ref (m 4), .ref (m 5), .ref (m 6), .int (nI ln), .ref (m 7), .ref (m 8)])), (m 1, aI κ 333 z)]) [] [0, 1] rfl rfl rfl rfl (by decide)) ⟨⟨by decide, by decide⟩, by decide, by decide⟩ (Nat.le_of_ble_eq_true rfl) rfl rfl dX5_alike_8 (n := 11) rfl (fun vv ww hp => ?_)
  obtain ⟨rr, rfl, rfl, rfl⟩ := hp
  refine ⟨_, rfl, ?_⟩
  refine g_ws (ws' := [(m 0, .inr (5, [.ref (m 1), .ref (m 2), .ref (m 3), .int (nI n), .ref (m 4), .ref (m 5), .ref (m 6), .int (nI ln), .ref (m 7), .ref (m 8)])), (m 1, aI κ 333 z)]) rfl ?_
  refine g_st (st' := [.int (nI 1)]) rfl ?_
  refine n_if_ne hc (by omega) dX5_alike_11 (tgt := 16) (by decide) (n := 14) rfl (fun c_2 => ?_) (fun c_2 => by (exfalso; revert c_2; first | omega | decide))
  refine g_aload_n hc 0 rfl rfl dX5_alike_16 (n := 17) rfl ?_
  refine g_getf hc 0 rfl vw_5 inX5 0 (by decide) k_fl_RX5_7 rfl rfl dX5_alike_17 (n := 20) rfl ?_
  refine g_sipush (v := nI 312) hc (by decide) dX5_alike_20 (n := 23) rfl ?_
  refine g_iload_n hc 1 rfl rfl dX5_alike_23 (n := 24) rfl ?_
  refine n_iadd (v := 312 + b) hc rfl dX5_alike_24 (n := 25) rfl ?_
  refine n_iald (v := z (312 + b)) hc 1 rfl (by omega) (by decide) rfl dX5_alike_25 (n := 26) rfl ?_
  refine n_if_eq hc (by omega) dX5_alike_26 (tgt := 42) (by decide) (n := 29) rfl (fun c_3 => ?_) (fun c_3 => ?_)
  · skip
    refine g_bipush (v := nI 4294967290) hc (by decide) dX5_alike_42 (n := 44) rfl ?_
    refine hret.1 _ _ _ _ _ _ rfl (by decide) (by decide) dX5_alike_44 ?_
    exact ⟨_, rfl, rfl, rfl⟩
  · skip
    refine g_aload_n hc 0 rfl rfl dX5_alike_29 (n := 30) rfl ?_
    refine g_getf hc 0 rfl vw_5 inX5 0 (by decide) k_fl_RX5_7 rfl rfl dX5_alike_30 (n := 33) rfl ?_
    refine g_sipush (v := nI 312) hc (by decide) dX5_alike_33 (n := 36) rfl ?_
    refine g_iload_n hc 2 rfl rfl dX5_alike_36 (n := 37) rfl ?_
    refine n_iadd (v := 312 + c) hc rfl dX5_alike_37 (n := 38) rfl ?_
    refine n_iald (v := z (312 + c)) hc 1 rfl (by omega) (by decide) rfl dX5_alike_38 (n := 39) rfl ?_
    refine n_if_ne hc (by omega) dX5_alike_39 (tgt := 45) (by decide) (n := 42) rfl (fun c_4 => by (exfalso; revert c_4; first | omega | decide)) (fun c_4 => ?_)
    refine g_bipush (v := nI 4294967290) hc (by decide) dX5_alike_42 (n := 44) rfl ?_
    refine hret.1 _ _ _ _ _ _ rfl (by decide) (by decide) dX5_alike_44 ?_
    exact ⟨_, rfl, rfl, rfl⟩
set_option maxHeartbeats 1000000 in
set_option maxRecDepth 100000 in
theorem c_X5_alike_er1 (κ : Kp) (l : Launch) (m : Nat → Nat) (n : Nat) (ln : Nat) (x : Int32) (y : Int32) (hx1 : x < 0 ∨ nI 4 ≤ x) : CT κ l yX5_alike cX5_alike 5 (some .int) 2 42 0 0 [.ref (m 0), .int x, .int y] [(m 0, .inr (5, [.ref (m 1), .ref (m 2), .ref (m 3), .int (nI n), .ref (m 4), .ref (m 5), .ref (m 6), .int (nI ln), .ref (m 7), .ref (m 8)]))] (PI (fun rr ww => rr = (nI 4294967295) ∧ ww = [(m 0, .inr (5, [.ref (m 1), .ref (m 2), .ref (m 3), .int (nI n), .ref (m 4), .ref (m 5), .ref (m 6), .int (nI ln), .ref (m 7), .ref (m 8)]))])) := by
  refine CT.go (plainFor_of_name (by decide)) (Nat.le_of_ble_eq_true rfl) ?_
  intro Γ A Q hl hc hret
  subst hl
  have hc : Cx κ Γ A cX5_alike 5 RX5 "alike" (some .int) { frames := 2, cells := 0, slots := 0, locals := 42 } := hc
  refine g_lv (lv' := [(0, .ref (m 0)), (1, .int x), (2, .int y)]) rfl ?_
  refine g_iload_n hc 1 rfl rfl dX5_alike_0 (n := 1) rfl ?_
  refine g_callS (rest := []) (As := [.int x]) (cells' := 0) (slots' := 0) hc (c_X5_isBoard_n κ _ x hx1) q_X5_isBoard k_ml_RX5_96 rfl rfl (jn_ix (wr := [(m 0, .inr (5, [.ref (m 1), .ref (m 2), .ref (m 3), .int (nI n), .ref (m 4), .ref (m 5), .ref (m 6), .int (nI ln), .ref (m 7), .ref (m 8)]))]) [] [0] rfl rfl rfl rfl (by decide)) ⟨⟨by decide, by decide⟩, by decide, by decide⟩ (Nat.le_of_ble_eq_true rfl) rfl rfl dX5_alike_1 (n := 4) rfl (fun vv ww hp => ?_)
  obtain ⟨rr, rfl, rfl, rfl⟩ := hp
  refine ⟨_, rfl, ?_⟩
  refine g_ws (ws' := [(m 0, .inr (5, [.ref (m 1), .ref (m 2), .ref (m 3), .int (nI n), .ref (m 4), .ref (m 5), .ref (m 6), .int (nI ln), .ref (m 7), .ref (m 8)]))]) rfl ?_
  refine g_st (st' := [.int (nI 0)]) rfl ?_
  refine n_if_eq hc (by omega) dX5_alike_4 (tgt := 14) (by decide) (n := 7) rfl (fun c_1 => ?_) (fun c_1 => by (exfalso; revert c_1; first | omega | decide))
  refine g_iconst (v := nI 4294967295) hc (by decide) dX5_alike_14 (n := 15) rfl ?_
  refine hret.1 _ _ _ _ _ _ rfl (by decide) (by decide) dX5_alike_15 ?_
  exact ⟨_, rfl, rfl, rfl⟩
set_option maxHeartbeats 1000000 in
set_option maxRecDepth 100000 in
theorem c_X5_alike_er3 (κ : Kp) (l : Launch) (m : Nat → Nat) (n : Nat) (ln : Nat) (b : Nat) (y : Int32) (hb : b < 4) (hx2 : y < 0 ∨ nI 4 ≤ y) : CT κ l yX5_alike cX5_alike 5 (some .int) 2 42 0 0 [.ref (m 0), .int (nI b), .int y] [(m 0, .inr (5, [.ref (m 1), .ref (m 2), .ref (m 3), .int (nI n), .ref (m 4), .ref (m 5), .ref (m 6), .int (nI ln), .ref (m 7), .ref (m 8)]))] (PI (fun rr ww => rr = (nI 4294967295) ∧ ww = [(m 0, .inr (5, [.ref (m 1), .ref (m 2), .ref (m 3), .int (nI n), .ref (m 4), .ref (m 5), .ref (m 6), .int (nI ln), .ref (m 7), .ref (m 8)]))])) := by
  refine CT.go (plainFor_of_name (by decide)) (Nat.le_of_ble_eq_true rfl) ?_
  intro Γ A Q hl hc hret
  subst hl
  have hc : Cx κ Γ A cX5_alike 5 RX5 "alike" (some .int) { frames := 2, cells := 0, slots := 0, locals := 42 } := hc
  refine g_lv (lv' := [(0, .ref (m 0)), (1, .int (nI b)), (2, .int y)]) rfl ?_
  refine g_iload_n hc 1 rfl rfl dX5_alike_0 (n := 1) rfl ?_
  refine g_callS (rest := []) (As := [.int (nI b)]) (cells' := 0) (slots' := 0) hc (c_X5_isBoard_y κ _ b (by omega)) q_X5_isBoard k_ml_RX5_96 rfl rfl (jn_ix (wr := [(m 0, .inr (5, [.ref (m 1), .ref (m 2), .ref (m 3), .int (nI n), .ref (m 4), .ref (m 5), .ref (m 6), .int (nI ln), .ref (m 7), .ref (m 8)]))]) [] [0] rfl rfl rfl rfl (by decide)) ⟨⟨by decide, by decide⟩, by decide, by decide⟩ (Nat.le_of_ble_eq_true rfl) rfl rfl dX5_alike_1 (n := 4) rfl (fun vv ww hp => ?_)
  obtain ⟨rr, rfl, rfl, rfl⟩ := hp
  refine ⟨_, rfl, ?_⟩
  refine g_ws (ws' := [(m 0, .inr (5, [.ref (m 1), .ref (m 2), .ref (m 3), .int (nI n), .ref (m 4), .ref (m 5), .ref (m 6), .int (nI ln), .ref (m 7), .ref (m 8)]))]) rfl ?_
  refine g_st (st' := [.int (nI 1)]) rfl ?_
  refine n_if_eq hc (by omega) dX5_alike_4 (tgt := 14) (by decide) (n := 7) rfl (fun c_1 => by (exfalso; revert c_1; first | omega | decide)) (fun c_1 => ?_)
  refine g_iload_n hc 2 rfl rfl dX5_alike_7 (n := 8) rfl ?_
  refine g_callS (rest := []) (As := [.int y]) (cells' := 0) (slots' := 0) hc (c_X5_isBoard_n κ _ y hx2) q_X5_isBoard k_ml_RX5_96 rfl rfl (jn_ix (wr := [(m 0, .inr (5, [.ref (m 1), .ref (m 2), .ref (m 3), .int (nI n), .ref (m 4), .ref (m 5), .ref (m 6), .int (nI ln), .ref (m 7), .ref (m 8)]))]) [] [0] rfl rfl rfl rfl (by decide)) ⟨⟨by decide, by decide⟩, by decide, by decide⟩ (Nat.le_of_ble_eq_true rfl) rfl rfl dX5_alike_8 (n := 11) rfl (fun vv ww hp => ?_)
  obtain ⟨rr, rfl, rfl, rfl⟩ := hp
  refine ⟨_, rfl, ?_⟩
  refine g_ws (ws' := [(m 0, .inr (5, [.ref (m 1), .ref (m 2), .ref (m 3), .int (nI n), .ref (m 4), .ref (m 5), .ref (m 6), .int (nI ln), .ref (m 7), .ref (m 8)]))]) rfl ?_
  refine g_st (st' := [.int (nI 0)]) rfl ?_
  refine n_if_ne hc (by omega) dX5_alike_11 (tgt := 16) (by decide) (n := 14) rfl (fun c_2 => by (exfalso; revert c_2; first | omega | decide)) (fun c_2 => ?_)
  refine g_iconst (v := nI 4294967295) hc (by decide) dX5_alike_14 (n := 15) rfl ?_
  refine hret.1 _ _ _ _ _ _ rfl (by decide) (by decide) dX5_alike_15 ?_
  exact ⟨_, rfl, rfl, rfl⟩
set_option maxHeartbeats 1000000 in
set_option maxRecDepth 100000 in
theorem c_X5_wipe (κ : Kp) (l : Launch) (m : Nat → Nat) (n : Nat) (ln : Nat)  : CT κ l yX5_wipe cX5_wipe 2 (some .int) 0 0 0 0 [.ref (m 0)] [(m 0, .inr (5, [.ref (m 1), .ref (m 2), .ref (m 3), .int (nI n), .ref (m 4), .ref (m 5), .ref (m 6), .int (nI ln), .ref (m 7), .ref (m 8)]))] (PI (fun rr ww => rr = (nI ln) ∧ ww = [(m 0, .inr (5, [.ref (m 1), .ref (m 2), .ref (m 3), .int (nI n), .ref (m 4), .ref (m 5), .ref (m 6), .int (nI 0), .ref (m 7), .ref (m 8)]))])) := by
  refine CT.go (plainFor_of_name (by decide)) (Nat.le_of_ble_eq_true rfl) ?_
  intro Γ A Q hl hc hret
  subst hl
  have hc : Cx κ Γ A cX5_wipe 2 RX5 "wipe" (some .int) { frames := 0, cells := 0, slots := 0, locals := 0 } := hc
  refine g_lv (lv' := [(0, .ref (m 0))]) rfl ?_
  refine g_aload_n hc 0 rfl rfl dX5_wipe_0 (n := 1) rfl ?_
  refine g_getf hc 0 rfl vw_5 inX5 7 (by decide) k_fl_RX5_83 rfl rfl dX5_wipe_1 (n := 4) rfl ?_
  refine g_istore_n (lv2 := [(0, .ref (m 0)), (1, .int (nI ln))]) hc rfl (by decide) [1, 0] rfl rfl dX5_wipe_4 (n := 5) rfl ?_
  refine g_aload_n hc 0 rfl rfl dX5_wipe_5 (n := 6) rfl ?_
  refine g_iconst (v := nI 0) hc (by decide) dX5_wipe_6 (n := 7) rfl ?_
  refine g_putf (ws' := [(m 0, .inr (5, [.ref (m 1), .ref (m 2), .ref (m 3), .int (nI n), .ref (m 4), .ref (m 5), .ref (m 6), .int (nI 0), .ref (m 7), .ref (m 8)]))]) hc 0 rfl vw_5 inX5 tyX5_ok nmX5 7 (by decide) k_fl_RX5_83 rfl rfl rfl rfl (Nat.le_of_ble_eq_true rfl) rfl dX5_wipe_7 (n := 10) rfl ?_
  refine g_iload_n hc 1 rfl rfl dX5_wipe_10 (n := 11) rfl ?_
  refine hret.1 _ _ _ _ _ _ rfl (by decide) (by decide) dX5_wipe_11 ?_
  exact ⟨_, rfl, rfl, rfl⟩
set_option maxHeartbeats 1000000 in
set_option maxRecDepth 100000 in
theorem c_X5_shuffle (κ : Kp) (l : Launch) (m : Nat → Nat) (n : Nat) (ln : Nat) (z : Nat → Nat) (g : Nat → Nat) (hz : Nat → Nat → Nat) (y : Nat → Nat) (r0 : Nat → Nat) (p0 : Nat → Nat) (hv : Zv z) (hn : n ≤ 4) (hg : HB n g hz) : CT κ l yX5_shuffle cX5_shuffle 2 (some .int) 2 48 0 0 [.ref (m 0)] [(m 0, .inr (5, [.ref (m 1), .ref (m 2), .ref (m 3), .int (nI n), .ref (m 4), .ref (m 5), .ref (m 6), .int (nI ln), .ref (m 7), .ref (m 8)])), (m 1, aI κ 333 z), (m 3, aI κ 1332 g), (m 2, aI κ 333 y), (m 7, aI κ 52 r0), (m 8, aI κ 52 p0)] (PI (fun rr ww => ∃ g2 : Nat → Nat, ∃ r2 : Nat → Nat, ∃ p2 : Nat → Nat, (HB (rn n) g2 (rh n hz z)) ∧ rr = (nI (shk z)) ∧ ww = [(m 0, .inr (5, [.ref (m 1), .ref (m 2), .ref (m 3), .int (nI (rn n)), .ref (m 4), .ref (m 5), .ref (m 6), .int (nI ln), .ref (m 7), .ref (m 8)])), (m 1, aI κ 333 (shz z)), (m 3, aI κ 1332 g2), (m 2, aI κ 333 z), (m 7, aI κ 52 r2), (m 8, aI κ 52 p2)])) := by
  refine CT.go (plainFor_of_name (by decide)) (Nat.le_of_ble_eq_true rfl) ?_
  intro Γ A Q hl hc hret
  subst hl
  have hc : Cx κ Γ A cX5_shuffle 2 RX5 "shuffle" (some .int) { frames := 2, cells := 0, slots := 0, locals := 48 } := hc
  refine g_lv (lv' := [(0, .ref (m 0))]) rfl ?_
  obtain ⟨hzb, hzf, hzc, hp, hh, hk1, hk2, hx⟩ := id hv
  refine g_aload_n hc 0 rfl rfl dX5_shuffle_0 (n := 1) rfl ?_
  refine g_callV (rest := []) (As := []) (cells' := 0) (slots' := 0) hc (c_X5_record κ _ m n ln z g hz hn hg) q_X5_record k_ml_RX5_47 rfl rfl (jn_ix (wr := [(m 2, aI κ 333 y), (m 7, aI κ 52 r0), (m 8, aI κ 52 p0)]) [0, 1, 2] [3, 4, 5] rfl rfl rfl rfl (by decide)) (qr := 0) rfl vw_5 ⟨⟨by decide, by decide⟩, by decide, by decide⟩ (Nat.le_of_ble_eq_true rfl) rfl rfl dX5_shuffle_1 (n := 4) rfl (fun vv ww hp => ?_)
  obtain ⟨rfl, g2, hg2, rfl⟩ := hp
  refine ⟨_, rfl, ?_⟩
  refine g_ws (ws' := [(m 2, aI κ 333 y), (m 7, aI κ 52 r0), (m 8, aI κ 52 p0), (m 0, .inr (5, [.ref (m 1), .ref (m 2), .ref (m 3), .int (nI (rn n)), .ref (m 4), .ref (m 5), .ref (m 6), .int (nI ln), .ref (m 7), .ref (m 8)])), (m 1, aI κ 333 z), (m 3, aI κ 1332 g2)]) rfl ?_
  refine g_st (st' := []) rfl ?_
  refine g_aload_n hc 0 rfl rfl dX5_shuffle_4 (n := 5) rfl ?_
  refine g_callV (rest := []) (As := []) (cells' := 0) (slots' := 0) hc (c_X5_putAside κ _ m (rn n) ln z y ) q_X5_putAside k_ml_RX5_60 rfl rfl (jn_ix (wr := [(m 7, aI κ 52 r0), (m 8, aI κ 52 p0), (m 3, aI κ 1332 g2)]) [3, 4, 0] [1, 2, 5] rfl rfl rfl rfl (by decide)) (qr := 3) rfl vw_5 ⟨⟨by decide, by decide⟩, by decide, by decide⟩ (Nat.le_of_ble_eq_true rfl) rfl rfl dX5_shuffle_5 (n := 8) rfl (fun vv ww hp => ?_)
  obtain ⟨rfl, rfl⟩ := hp
  refine ⟨_, rfl, ?_⟩
  refine g_ws (ws' := [(m 7, aI κ 52 r0), (m 8, aI κ 52 p0), (m 3, aI κ 1332 g2), (m 0, .inr (5, [.ref (m 1), .ref (m 2), .ref (m 3), .int (nI (rn n)), .ref (m 4), .ref (m 5), .ref (m 6), .int (nI ln), .ref (m 7), .ref (m 8)])), (m 1, aI κ 333 z), (m 2, aI κ 333 z)]) rfl ?_
  refine g_st (st' := []) rfl ?_
  refine g_arr (ws' := [(m 7, aI κ 52 r0), (m 8, aI κ 52 p0), (m 3, aI κ 1332 g2), (m 0, .inr (5, [.ref (m 1), .ref (m 2), .ref (m 3), .int (nI (rn n)), .ref (m 4), .ref (m 5), .ref (m 6), .int (nI ln), .ref (m 7), .ref (m 8)])), (m 1, aI κ 333 (rfn z (bz z) z (z 326) 0)), (m 2, aI κ 333 z)]) (f := z) (g := rfn z (bz z) z (z 326) 0) 4 rfl (fun k hk => rfn_0 _ (fun k hk => rfl) rfl k) rfl ?_
  refine g_iconst (v := nI 0) hc (by decide) dX5_shuffle_8 (n := 9) rfl ?_
  refine g_istore_n (lv2 := [(0, .ref (m 0)), (1, .int (nI 0))]) hc rfl (by decide) [1, 0] rfl rfl dX5_shuffle_9 (n := 10) rfl ?_
  have L_1 : ∀ (fuel : Nat) (i : Nat) (r1 : Nat → Nat), (i ≤ z 325) → z 325 - i < fuel → G κ Γ A 2 0 0 Q [(m 7, aI κ 52 r1), (m 8, aI κ 52 p0), (m 3, aI κ 1332 g2), (m 0, .inr (5, [.ref (m 1), .ref (m 2), .ref (m 3), .int (nI (rn n)), .ref (m 4), .ref (m 5), .ref (m 6), .int (nI ln), .ref (m 7), .ref (m 8)])), (m 1, aI κ 333 (rfn z (bz z) z (z 326) i)), (m 2, aI κ 333 z)] 10 [(0, .ref (m 0)), (1, .int (nI i))] [] := by
    intro fuel
    induction fuel with
    | zero => intro i r1 hi h; exact absurd h (Nat.not_lt_zero _)
    | succ fuel ih_2 =>
      intro i r1 hi hn_3
      refine g_iload_n hc 1 rfl rfl dX5_shuffle_10 (n := 11) rfl ?_
      refine g_aload_n hc 0 rfl rfl dX5_shuffle_11 (n := 12) rfl ?_
      refine g_getf hc 3 rfl vw_5 inX5 0 (by decide) k_fl_RX5_7 rfl rfl dX5_shuffle_12 (n := 15) rfl ?_
      refine g_sipush (v := nI 325) hc (by decide) dX5_shuffle_15 (n := 18) rfl ?_
      refine n_iald (v := z 325) hc 4 rfl (by omega) (by decide) (rfn_o _ _ _ _ _ (by decide) (by decide)) dX5_shuffle_18 (n := 19) rfl ?_
      refine n_icmp_ge hc (by omega) (by omega) dX5_shuffle_19 (tgt := 32) (by decide) (n := 22) rfl (fun c_4 => ?_) (fun c_4 => ?_)
      · skip
        have e9 : i = z 325 := by omega
        refine g_ws (ws' := [(m 7, aI κ 52 r1), (m 8, aI κ 52 p0), (m 3, aI κ 1332 g2), (m 0, .inr (5, [.ref (m 1), .ref (m 2), .ref (m 3), .int (nI (rn n)), .ref (m 4), .ref (m 5), .ref (m 6), .int (nI ln), .ref (m 7), .ref (m 8)])), (m 1, aI κ 333 (rfn z (bz z) z (z 326) (z 325))), (m 2, aI κ 333 z)]) (by rw [e9]) ?_
        refine g_lsub (lv' := [(0, .ref (m 0))]) [0] rfl ?_
        refine g_aload_n hc 0 rfl rfl dX5_shuffle_32 (n := 33) rfl ?_
        refine g_getf hc 3 rfl vw_5 inX5 0 (by decide) k_fl_RX5_7 rfl rfl dX5_shuffle_33 (n := 36) rfl ?_
        refine g_sipush (v := nI 328) hc (by decide) dX5_shuffle_36 (n := 39) rfl ?_
        refine g_aload_n hc 0 rfl rfl dX5_shuffle_39 (n := 40) rfl ?_
        have hin := rit_in (b := bz z) hp hx (z 325)
        refine g_callV (rest := [.int (nI 328), .ref (m 1)]) (As := []) (cells' := 0) (slots' := 0) hc (c_X5_keptPairs κ _ m (rn n) ln (rfn z (bz z) z (z 326) (z 325)) z p0 ((rit (bz z) z (z 326) (z 325)).2) hin.2 (fun k hk => rfn_p _ _ _ _ _ hk) hp) q_X5_keptPairs k_ml_RX5_66 rfl rfl (jn_ix (wr := [(m 7, aI κ 52 r1), (m 3, aI κ 1332 g2)]) [3, 4, 5, 1] [0, 2] rfl rfl rfl rfl (by decide)) (qr := 3) rfl vw_5 ⟨⟨by decide, by decide⟩, by decide, by decide⟩ (Nat.le_of_ble_eq_true rfl) rfl rfl dX5_shuffle_40 (n := 43) rfl (fun vv ww hp => ?_)
        obtain ⟨rr, rfl, rfl, rfl⟩ := hp
        refine ⟨_, rfl, ?_⟩
        refine g_ws (ws' := [(m 7, aI κ 52 r1), (m 3, aI κ 1332 g2), (m 0, .inr (5, [.ref (m 1), .ref (m 2), .ref (m 3), .int (nI (rn n)), .ref (m 4), .ref (m 5), .ref (m 6), .int (nI ln), .ref (m 7), .ref (m 8)])), (m 1, aI κ 333 (rfn z (bz z) z (z 326) (z 325))), (m 2, aI κ 333 z), (m 8, aI κ 52 (inv ((rit (bz z) z (z 326) (z 325)).2)))]) rfl ?_
        refine g_st (st' := [.int (nI (kp z ((rit (bz z) z (z 326) (z 325)).2))), .int (nI 328), .ref (m 1)]) rfl ?_
        have hkl : shk z ≤ 51 := kp_le _ _
        refine g_st (st' := [.int (nI (shk z)), .int (nI 328), .ref (m 1)]) rfl ?_
        refine n_iast (ws' := [(m 7, aI κ 52 r1), (m 3, aI κ 1332 g2), (m 0, .inr (5, [.ref (m 1), .ref (m 2), .ref (m 3), .int (nI (rn n)), .ref (m 4), .ref (m 5), .ref (m 6), .int (nI ln), .ref (m 7), .ref (m 8)])), (m 1, aI κ 333 (va_up (rfn z (bz z) z (z 326) (z 325)) 328 (shk z))), (m 2, aI κ 333 z), (m 8, aI κ 52 (inv ((rit (bz z) z (z 326) (z 325)).2)))]) hc 3 rfl (by omega) (by decide) rfl dX5_shuffle_43 (n := 44) rfl ?_
        refine g_aload_n hc 0 rfl rfl dX5_shuffle_44 (n := 45) rfl ?_
        refine g_getf hc 2 rfl vw_5 inX5 0 (by decide) k_fl_RX5_7 rfl rfl dX5_shuffle_45 (n := 48) rfl ?_
        refine g_sipush (v := nI 327) hc (by decide) dX5_shuffle_48 (n := 51) rfl ?_
        refine g_aload_n hc 0 rfl rfl dX5_shuffle_51 (n := 52) rfl ?_
        refine g_getf hc 2 rfl vw_5 inX5 0 (by decide) k_fl_RX5_7 rfl rfl dX5_shuffle_52 (n := 55) rfl ?_
        refine g_sipush (v := nI 328) hc (by decide) dX5_shuffle_55 (n := 58) rfl ?_
        refine n_iald (v := shk z) hc 3 rfl (by omega) (by decide) (va_up_self _ _ _) dX5_shuffle_58 (n := 59) rfl ?_
        refine g_aload_n hc 0 rfl rfl dX5_shuffle_59 (n := 60) rfl ?_
        refine g_getf hc 2 rfl vw_5 inX5 0 (by decide) k_fl_RX5_7 rfl rfl dX5_shuffle_60 (n := 63) rfl ?_
        refine g_sipush (v := nI 324) hc (by decide) dX5_shuffle_63 (n := 66) rfl ?_
        refine n_iald (v := z 324) hc 3 rfl (by omega) (by decide) ((va_up_ne _ _ (by decide)).trans (rfn_o _ _ _ _ _ (by decide) (by decide))) dX5_shuffle_66 (n := 67) rfl ?_
        refine n_icmp_gt hc (by omega) (by omega) dX5_shuffle_67 (tgt := 74) (by decide) (n := 70) rfl (fun c_5 => ?_) (fun c_5 => ?_)
        · skip
          refine g_iconst (v := nI 0) hc (by decide) dX5_shuffle_74 (n := 75) rfl ?_
          refine n_iast (ws' := [(m 7, aI κ 52 r1), (m 3, aI κ 1332 g2), (m 0, .inr (5, [.ref (m 1), .ref (m 2), .ref (m 3), .int (nI (rn n)), .ref (m 4), .ref (m 5), .ref (m 6), .int (nI ln), .ref (m 7), .ref (m 8)])), (m 1, aI κ 333 (va_up (va_up (rfn z (bz z) z (z 326) (z 325)) 328 (shk z)) 327 0)), (m 2, aI κ 333 z), (m 8, aI κ 52 (inv ((rit (bz z) z (z 326) (z 325)).2)))]) hc 3 rfl (by omega) (by decide) rfl dX5_shuffle_75 (n := 76) rfl ?_
          refine g_aload_n hc 0 rfl rfl dX5_shuffle_76 (n := 77) rfl ?_
          refine g_getf hc 2 rfl vw_5 inX5 0 (by decide) k_fl_RX5_7 rfl rfl dX5_shuffle_77 (n := 80) rfl ?_
          refine g_sipush (v := nI 329) hc (by decide) dX5_shuffle_80 (n := 83) rfl ?_
          refine g_dup2 hc rfl rfl dX5_shuffle_83 (n := 84) rfl ?_
          refine n_iald (v := z 329) hc 3 rfl (by omega) (by decide) ((va_up_ne _ _ (by decide)).trans ((va_up_ne _ _ (by decide)).trans (rfn_o _ _ _ _ _ (by decide) (by decide)))) dX5_shuffle_84 (n := 85) rfl ?_
          refine g_iconst (v := nI 1) hc (by decide) dX5_shuffle_85 (n := 86) rfl ?_
          refine n_iadd (v := (z 329) + 1) hc rfl dX5_shuffle_86 (n := 87) rfl ?_
          refine n_iast (ws' := [(m 7, aI κ 52 r1), (m 3, aI κ 1332 g2), (m 0, .inr (5, [.ref (m 1), .ref (m 2), .ref (m 3), .int (nI (rn n)), .ref (m 4), .ref (m 5), .ref (m 6), .int (nI ln), .ref (m 7), .ref (m 8)])), (m 1, aI κ 333 (va_up (va_up (va_up (rfn z (bz z) z (z 326) (z 325)) 328 (shk z)) 327 0) 329 ((z 329) + 1))), (m 2, aI κ 333 z), (m 8, aI κ 52 (inv ((rit (bz z) z (z 326) (z 325)).2)))]) hc 3 rfl (by omega) (by decide) rfl dX5_shuffle_87 (n := 88) rfl ?_
          refine g_aload_n hc 0 rfl rfl dX5_shuffle_88 (n := 89) rfl ?_
          refine g_getf hc 2 rfl vw_5 inX5 0 (by decide) k_fl_RX5_7 rfl rfl dX5_shuffle_89 (n := 92) rfl ?_
          refine g_sipush (v := nI 330) hc (by decide) dX5_shuffle_92 (n := 95) rfl ?_
          refine g_dup2 hc rfl rfl dX5_shuffle_95 (n := 96) rfl ?_
          refine n_iald (v := z 330) hc 3 rfl (by omega) (by decide) ((va_up_ne _ _ (by decide)).trans ((va_up_ne _ _ (by decide)).trans ((va_up_ne _ _ (by decide)).trans (rfn_o _ _ _ _ _ (by decide) (by decide))))) dX5_shuffle_96 (n := 97) rfl ?_
          refine g_aload_n hc 0 rfl rfl dX5_shuffle_97 (n := 98) rfl ?_
          refine g_getf hc 2 rfl vw_5 inX5 0 (by decide) k_fl_RX5_7 rfl rfl dX5_shuffle_98 (n := 101) rfl ?_
          refine g_sipush (v := nI 327) hc (by decide) dX5_shuffle_101 (n := 104) rfl ?_
          refine n_iald (v := 0) hc 3 rfl (by omega) (by decide) ((va_up_ne _ _ (by decide)).trans (va_up_self _ _ _)) dX5_shuffle_104 (n := 105) rfl ?_
          refine n_iadd (v := (z 330) + 0) hc rfl dX5_shuffle_105 (n := 106) rfl ?_
          refine n_iast (ws' := [(m 7, aI κ 52 r1), (m 3, aI κ 1332 g2), (m 0, .inr (5, [.ref (m 1), .ref (m 2), .ref (m 3), .int (nI (rn n)), .ref (m 4), .ref (m 5), .ref (m 6), .int (nI ln), .ref (m 7), .ref (m 8)])), (m 1, aI κ 333 (va_up (va_up (va_up (va_up (rfn z (bz z) z (z 326) (z 325)) 328 (shk z)) 327 0) 329 ((z 329) + 1)) 330 ((z 330) + 0))), (m 2, aI κ 333 z), (m 8, aI κ 52 (inv ((rit (bz z) z (z 326) (z 325)).2)))]) hc 3 rfl (by omega) (by decide) rfl dX5_shuffle_106 (n := 107) rfl ?_
          refine g_aload_n hc 0 rfl rfl dX5_shuffle_107 (n := 108) rfl ?_
          refine g_getf hc 2 rfl vw_5 inX5 0 (by decide) k_fl_RX5_7 rfl rfl dX5_shuffle_108 (n := 111) rfl ?_
          refine g_sipush (v := nI 328) hc (by decide) dX5_shuffle_111 (n := 114) rfl ?_
          refine n_iald (v := shk z) hc 3 rfl (by omega) (by decide) ((va_up_ne _ _ (by decide)).trans ((va_up_ne _ _ (by decide)).trans ((va_up_ne _ _ (by decide)).trans (va_up_self _ _ _)))) dX5_shuffle_114 (n := 115) rfl ?_
          refine g_sub (ws' := [(m 0, .inr (5, [.ref (m 1), .ref (m 2), .ref (m 3), .int (nI (rn n)), .ref (m 4), .ref (m 5), .ref (m 6), .int (nI ln), .ref (m 7), .ref (m 8)])), (m 1, aI κ 333 (va_up (va_up (va_up (va_up (rfn z (bz z) z (z 326) (z 325)) 328 (shk z)) 327 0) 329 ((z 329) + 1)) 330 ((z 330) + 0))), (m 3, aI κ 1332 g2), (m 2, aI κ 333 z), (m 7, aI κ 52 r1), (m 8, aI κ 52 (inv ((rit (bz z) z (z 326) (z 325)).2)))]) [2, 3, 1, 4, 0, 5] rfl rfl ?_
          refine g_arr (ws' := [(m 0, .inr (5, [.ref (m 1), .ref (m 2), .ref (m 3), .int (nI (rn n)), .ref (m 4), .ref (m 5), .ref (m 6), .int (nI ln), .ref (m 7), .ref (m 8)])), (m 1, aI κ 333 (shz z)), (m 3, aI κ 1332 g2), (m 2, aI κ 333 z), (m 7, aI κ 52 r1), (m 8, aI κ 52 (inv ((rit (bz z) z (z 326) (z 325)).2)))]) (f := va_up (va_up (va_up (va_up (rfn z (bz z) z (z 326) (z 325)) 328 (shk z)) 327 0) 329 ((z 329) + 1)) 330 ((z 330) + 0)) (g := shz z) 1 rfl (fun k hk => shz_of rfl (by unfold shc; first | exact (if_pos (by omega)).symm | exact (if_neg (by omega)).symm) k) rfl ?_
          refine hret.1 _ _ _ _ _ _ rfl (by decide) (by decide) dX5_shuffle_115 ?_
          exact ⟨_, rfl, g2, r1, (inv ((rit (bz z) z (z 326) (z 325)).2)), (by assumption), rfl, rfl⟩
        · skip
          refine g_iconst (v := nI 1) hc (by decide) dX5_shuffle_70 (n := 71) rfl ?_
          refine g_goto (n := 75) hc dX5_shuffle_71 (by decide) ?_
          refine n_iast (ws' := [(m 7, aI κ 52 r1), (m 3, aI κ 1332 g2), (m 0, .inr (5, [.ref (m 1), .ref (m 2), .ref (m 3), .int (nI (rn n)), .ref (m 4), .ref (m 5), .ref (m 6), .int (nI ln), .ref (m 7), .ref (m 8)])), (m 1, aI κ 333 (va_up (va_up (rfn z (bz z) z (z 326) (z 325)) 328 (shk z)) 327 1)), (m 2, aI κ 333 z), (m 8, aI κ 52 (inv ((rit (bz z) z (z 326) (z 325)).2)))]) hc 3 rfl (by omega) (by decide) rfl dX5_shuffle_75 (n := 76) rfl ?_
          refine g_aload_n hc 0 rfl rfl dX5_shuffle_76 (n := 77) rfl ?_
          refine g_getf hc 2 rfl vw_5 inX5 0 (by decide) k_fl_RX5_7 rfl rfl dX5_shuffle_77 (n := 80) rfl ?_
          refine g_sipush (v := nI 329) hc (by decide) dX5_shuffle_80 (n := 83) rfl ?_
          refine g_dup2 hc rfl rfl dX5_shuffle_83 (n := 84) rfl ?_
          refine n_iald (v := z 329) hc 3 rfl (by omega) (by decide) ((va_up_ne _ _ (by decide)).trans ((va_up_ne _ _ (by decide)).trans (rfn_o _ _ _ _ _ (by decide) (by decide)))) dX5_shuffle_84 (n := 85) rfl ?_
          refine g_iconst (v := nI 1) hc (by decide) dX5_shuffle_85 (n := 86) rfl ?_
          refine n_iadd (v := (z 329) + 1) hc rfl dX5_shuffle_86 (n := 87) rfl ?_
          refine n_iast (ws' := [(m 7, aI κ 52 r1), (m 3, aI κ 1332 g2), (m 0, .inr (5, [.ref (m 1), .ref (m 2), .ref (m 3), .int (nI (rn n)), .ref (m 4), .ref (m 5), .ref (m 6), .int (nI ln), .ref (m 7), .ref (m 8)])), (m 1, aI κ 333 (va_up (va_up (va_up (rfn z (bz z) z (z 326) (z 325)) 328 (shk z)) 327 1) 329 ((z 329) + 1))), (m 2, aI κ 333 z), (m 8, aI κ 52 (inv ((rit (bz z) z (z 326) (z 325)).2)))]) hc 3 rfl (by omega) (by decide) rfl dX5_shuffle_87 (n := 88) rfl ?_
          refine g_aload_n hc 0 rfl rfl dX5_shuffle_88 (n := 89) rfl ?_
          refine g_getf hc 2 rfl vw_5 inX5 0 (by decide) k_fl_RX5_7 rfl rfl dX5_shuffle_89 (n := 92) rfl ?_
          refine g_sipush (v := nI 330) hc (by decide) dX5_shuffle_92 (n := 95) rfl ?_
          refine g_dup2 hc rfl rfl dX5_shuffle_95 (n := 96) rfl ?_
          refine n_iald (v := z 330) hc 3 rfl (by omega) (by decide) ((va_up_ne _ _ (by decide)).trans ((va_up_ne _ _ (by decide)).trans ((va_up_ne _ _ (by decide)).trans (rfn_o _ _ _ _ _ (by decide) (by decide))))) dX5_shuffle_96 (n := 97) rfl ?_
          refine g_aload_n hc 0 rfl rfl dX5_shuffle_97 (n := 98) rfl ?_
          refine g_getf hc 2 rfl vw_5 inX5 0 (by decide) k_fl_RX5_7 rfl rfl dX5_shuffle_98 (n := 101) rfl ?_
          refine g_sipush (v := nI 327) hc (by decide) dX5_shuffle_101 (n := 104) rfl ?_
          refine n_iald (v := 1) hc 3 rfl (by omega) (by decide) ((va_up_ne _ _ (by decide)).trans (va_up_self _ _ _)) dX5_shuffle_104 (n := 105) rfl ?_
          refine n_iadd (v := (z 330) + 1) hc rfl dX5_shuffle_105 (n := 106) rfl ?_
          refine n_iast (ws' := [(m 7, aI κ 52 r1), (m 3, aI κ 1332 g2), (m 0, .inr (5, [.ref (m 1), .ref (m 2), .ref (m 3), .int (nI (rn n)), .ref (m 4), .ref (m 5), .ref (m 6), .int (nI ln), .ref (m 7), .ref (m 8)])), (m 1, aI κ 333 (va_up (va_up (va_up (va_up (rfn z (bz z) z (z 326) (z 325)) 328 (shk z)) 327 1) 329 ((z 329) + 1)) 330 ((z 330) + 1))), (m 2, aI κ 333 z), (m 8, aI κ 52 (inv ((rit (bz z) z (z 326) (z 325)).2)))]) hc 3 rfl (by omega) (by decide) rfl dX5_shuffle_106 (n := 107) rfl ?_
          refine g_aload_n hc 0 rfl rfl dX5_shuffle_107 (n := 108) rfl ?_
          refine g_getf hc 2 rfl vw_5 inX5 0 (by decide) k_fl_RX5_7 rfl rfl dX5_shuffle_108 (n := 111) rfl ?_
          refine g_sipush (v := nI 328) hc (by decide) dX5_shuffle_111 (n := 114) rfl ?_
          refine n_iald (v := shk z) hc 3 rfl (by omega) (by decide) ((va_up_ne _ _ (by decide)).trans ((va_up_ne _ _ (by decide)).trans ((va_up_ne _ _ (by decide)).trans (va_up_self _ _ _)))) dX5_shuffle_114 (n := 115) rfl ?_
          refine g_sub (ws' := [(m 0, .inr (5, [.ref (m 1), .ref (m 2), .ref (m 3), .int (nI (rn n)), .ref (m 4), .ref (m 5), .ref (m 6), .int (nI ln), .ref (m 7), .ref (m 8)])), (m 1, aI κ 333 (va_up (va_up (va_up (va_up (rfn z (bz z) z (z 326) (z 325)) 328 (shk z)) 327 1) 329 ((z 329) + 1)) 330 ((z 330) + 1))), (m 3, aI κ 1332 g2), (m 2, aI κ 333 z), (m 7, aI κ 52 r1), (m 8, aI κ 52 (inv ((rit (bz z) z (z 326) (z 325)).2)))]) [2, 3, 1, 4, 0, 5] rfl rfl ?_
          refine g_arr (ws' := [(m 0, .inr (5, [.ref (m 1), .ref (m 2), .ref (m 3), .int (nI (rn n)), .ref (m 4), .ref (m 5), .ref (m 6), .int (nI ln), .ref (m 7), .ref (m 8)])), (m 1, aI κ 333 (shz z)), (m 3, aI κ 1332 g2), (m 2, aI κ 333 z), (m 7, aI κ 52 r1), (m 8, aI κ 52 (inv ((rit (bz z) z (z 326) (z 325)).2)))]) (f := va_up (va_up (va_up (va_up (rfn z (bz z) z (z 326) (z 325)) 328 (shk z)) 327 1) 329 ((z 329) + 1)) 330 ((z 330) + 1)) (g := shz z) 1 rfl (fun k hk => shz_of rfl (by unfold shc; first | exact (if_pos (by omega)).symm | exact (if_neg (by omega)).symm) k) rfl ?_
          refine hret.1 _ _ _ _ _ _ rfl (by decide) (by decide) dX5_shuffle_115 ?_
          exact ⟨_, rfl, g2, r1, (inv ((rit (bz z) z (z 326) (z 325)).2)), (by assumption), rfl, rfl⟩
      · skip
        refine g_aload_n hc 0 rfl rfl dX5_shuffle_22 (n := 23) rfl ?_
        have hin := rit_in (b := bz z) hp hx i
        refine g_callV (rest := []) (As := []) (cells' := 0) (slots' := 0) hc (c_X5_riffle κ _ m (rn n) ln (rfn z (bz z) z (z 326) i) r1 ((rit (bz z) z (z 326) i).2) (bz z) hin.2 (by rw [rfn_x]; exact hin.1) (fun k hk => hzb k hk) (fun k hk => rfn_p _ _ _ _ _ hk) (fun k hk => (rfn_o _ _ _ _ _ (by omega) (by omega)).trans rfl)) q_X5_riffle k_ml_RX5_63 rfl rfl (jn_ix (wr := [(m 8, aI κ 52 p0), (m 3, aI κ 1332 g2), (m 2, aI κ 333 z)]) [3, 4, 0] [1, 2, 5] rfl rfl rfl rfl (by decide)) (qr := 3) rfl vw_5 ⟨⟨by decide, by decide⟩, by decide, by decide⟩ (Nat.le_of_ble_eq_true rfl) rfl rfl dX5_shuffle_23 (n := 26) rfl (fun vv ww hp => ?_)
        obtain ⟨rfl, r2_6, rfl⟩ := hp
        refine ⟨_, rfl, ?_⟩
        refine g_ws (ws' := [(m 8, aI κ 52 p0), (m 3, aI κ 1332 g2), (m 2, aI κ 333 z), (m 0, .inr (5, [.ref (m 1), .ref (m 2), .ref (m 3), .int (nI (rn n)), .ref (m 4), .ref (m 5), .ref (m 6), .int (nI ln), .ref (m 7), .ref (m 8)])), (m 1, aI κ 333 (rfg (rfn z (bz z) z (z 326) i) (bz z) ((rit (bz z) z (z 326) i).2))), (m 7, aI κ 52 r2_6)]) rfl ?_
        refine g_st (st' := []) rfl ?_
        refine g_arr (ws' := [(m 8, aI κ 52 p0), (m 3, aI κ 1332 g2), (m 2, aI κ 333 z), (m 0, .inr (5, [.ref (m 1), .ref (m 2), .ref (m 3), .int (nI (rn n)), .ref (m 4), .ref (m 5), .ref (m 6), .int (nI ln), .ref (m 7), .ref (m 8)])), (m 1, aI κ 333 (rfn z (bz z) z (z 326) (i + 1))), (m 7, aI κ 52 r2_6)]) (f := rfg (rfn z (bz z) z (z 326) i) (bz z) ((rit (bz z) z (z 326) i).2)) (g := rfn z (bz z) z (z 326) (i + 1)) 4 rfl (fun k hk => rfn_s _ _ _ _ _ _) rfl ?_
        refine n_iinc (v := i + 1) (zk := 1) (lv2 := [(0, .ref (m 0)), (1, .int (nI (i + 1)))]) hc 1 rfl (by decide) rfl (by decide) [1, 0] rfl rfl dX5_shuffle_26 (n := 29) rfl ?_
        refine g_goto (n := 10) hc dX5_shuffle_29 (by decide) ?_
        refine g_sub (ws' := [(m 7, aI κ 52 r2_6), (m 8, aI κ 52 p0), (m 3, aI κ 1332 g2), (m 0, .inr (5, [.ref (m 1), .ref (m 2), .ref (m 3), .int (nI (rn n)), .ref (m 4), .ref (m 5), .ref (m 6), .int (nI ln), .ref (m 7), .ref (m 8)])), (m 1, aI κ 333 (rfn z (bz z) z (z 326) (i + 1))), (m 2, aI κ 333 z)]) [5, 0, 1, 3, 4, 2] rfl rfl ?_
        exact ih_2 (i + 1) r2_6 (by omega) (by omega)
  exact L_1 _ 0 r0 (by omega) (Nat.lt_succ_self _)
