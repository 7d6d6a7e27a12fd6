set_option maxHeartbeats 1000000 in
set_option maxRecDepth 100000 in
theorem c_X2_boardAt (κ : Kp) (l : Launch) (t0 : Nat) (t1 : Nat) (t2 : Nat) (t3 : Nat) (t4 : Nat) (tx : Nat) (tc : Nat) (tk : Nat) (ts : Nat) (tg : Nat) (td : Nat) (te : Nat) (j : Nat) (bj : Nat) (bf : Nat → Option Nat) (hj : j < 4) (hbj : bf j = some bj) : CT κ l yX2_boardAt cX2_boardAt 2 (some (.object "SealedDeals$Board")) 0 0 0 0 [.ref t0, .int (nI j)] [(t0, .inr (2, [.ref t1, .ref t2, .ref t3, .ref t4, .int (nI tx), .int (nI tc), .int (nI tk), .int (nI ts), .int (nI tg), .int (nI td), .int (nI te)])), (t4, aB κ 4 bf)] (PR (fun rr ww => rr = some bj ∧ ww = [(t0, .inr (2, [.ref t1, .ref t2, .ref t3, .ref t4, .int (nI tx), .int (nI tc), .int (nI tk), .int (nI ts), .int (nI tg), .int (nI td), .int (nI te)])), (t4, aB κ 4 bf)])) := by
  refine CT.go (plainFor_of_name (by decide)) (Nat.le_of_ble_eq_true rfl) ?_
  intro Γ A Q hl hc hret
  subst hl
  have hc : Cx κ Γ A cX2_boardAt 2 RX2 "boardAt" (some (.object "SealedDeals$Board")) { frames := 0, cells := 0, slots := 0, locals := 0 } := hc
  refine g_lv (lv' := [(0, .ref t0), (1, .int (nI j))]) rfl ?_
  refine g_iload_n hc 1 rfl rfl dX2_boardAt_0 (n := 1) rfl ?_
  refine n_if_lt hc (by omega) dX2_boardAt_1 (tgt := 9) (by decide) (n := 4) rfl ?_
  refine g_iload_n hc 1 rfl rfl dX2_boardAt_4 (n := 5) rfl ?_
  refine g_iconst (v := nI 4) hc (by decide) dX2_boardAt_5 (n := 6) rfl ?_
  refine n_icmp_lt hc (by omega) (by omega) dX2_boardAt_6 (tgt := 11) (by decide) (n := 9) rfl (fun c_2 => ?_) (fun c_2 => by (exfalso; revert c_2; first | omega | decide))
  refine g_aload_n hc 0 rfl rfl dX2_boardAt_11 (n := 12) rfl ?_
  refine g_getf hc 0 rfl vw_2 inX2 3 (by decide) k_fl_RX2_27 rfl rfl dX2_boardAt_12 (n := 15) rfl ?_
  refine g_iload_n hc 1 rfl rfl dX2_boardAt_15 (n := 16) rfl ?_
  refine n_aldB (b := bj) hc 1 rfl (by omega) (by decide) (hbj) dX2_boardAt_16 (n := 17) rfl ?_
  refine hret.2.2.2 _ _ _ _ _ _ _ rfl (Or.inl ⟨_, rfl⟩) (Or.inr ⟨_, rfl⟩) (by decide) (by decide) dX2_boardAt_17 ?_
  exact ⟨some _, rfl, rfl, rfl⟩
set_option maxHeartbeats 1000000 in
set_option maxRecDepth 100000 in
theorem c_X2_boardAtN (κ : Kp) (l : Launch) (t0 : Nat) (t1 : Nat) (t2 : Nat) (t3 : Nat) (t4 : Nat) (tx : Nat) (tc : Nat) (tk : Nat) (ts : Nat) (tg : Nat) (td : Nat) (te : Nat) (x : Int32) (bf : Nat → Option Nat) (hx : x < 0 ∨ nI 4 ≤ x) : CT κ l yX2_boardAt cX2_boardAt 2 (some (.object "SealedDeals$Board")) 0 0 0 0 [.ref t0, .int x] [(t0, .inr (2, [.ref t1, .ref t2, .ref t3, .ref t4, .int (nI tx), .int (nI tc), .int (nI tk), .int (nI ts), .int (nI tg), .int (nI td), .int (nI te)])), (t4, aB κ 4 bf)] (PR (fun rr ww => rr = none ∧ ww = [(t0, .inr (2, [.ref t1, .ref t2, .ref t3, .ref t4, .int (nI tx), .int (nI tc), .int (nI tk), .int (nI ts), .int (nI tg), .int (nI td), .int (nI te)])), (t4, aB κ 4 bf)])) := by
  refine CT.go (plainFor_of_name (by decide)) (Nat.le_of_ble_eq_true rfl) ?_
  intro Γ A Q hl hc hret
  subst hl
  have hc : Cx κ Γ A cX2_boardAt 2 RX2 "boardAt" (some (.object "SealedDeals$Board")) { frames := 0, cells := 0, slots := 0, locals := 0 } := hc
  refine g_lv (lv' := [(0, .ref t0), (1, .int x)]) rfl ?_
  refine g_iload_n hc 1 rfl rfl dX2_boardAt_0 (n := 1) rfl ?_
  refine g_if_lt hc dX2_boardAt_1 (tgt := 9) (by decide) (n := 4) rfl (fun c_1 => ?_) (fun c_1 => ?_)
  · skip
    refine g_null hc dX2_boardAt_9 (n := 10) rfl ?_
    refine hret.2.2.2 _ _ _ _ _ _ _ rfl (Or.inl ⟨_, rfl⟩) (Or.inl rfl) (by decide) (by decide) dX2_boardAt_10 ?_
    exact ⟨none, rfl, rfl, rfl⟩
  · skip
    refine g_iload_n hc 1 rfl rfl dX2_boardAt_4 (n := 5) rfl ?_
    refine g_iconst (v := nI 4) hc (by decide) dX2_boardAt_5 (n := 6) rfl ?_
    refine g_icmp_lt hc dX2_boardAt_6 (tgt := 11) (by decide) (n := 9) rfl (fun c_2 => by exact absurd c_2 (by rcases hx with h | h; exact absurd h (by assumption); exact Int32.not_lt.mpr h)) (fun c_2 => ?_)
    refine g_null hc dX2_boardAt_9 (n := 10) rfl ?_
    refine hret.2.2.2 _ _ _ _ _ _ _ rfl (Or.inl ⟨_, rfl⟩) (Or.inl rfl) (by decide) (by decide) dX2_boardAt_10 ?_
    exact ⟨none, rfl, rfl, rfl⟩
set_option maxHeartbeats 1000000 in
set_option maxRecDepth 100000 in
theorem c_X2_bendOrFlatten (κ : Kp) (l : Launch) (t0 : Nat) (t1 : Nat) (t2 : Nat) (t3 : Nat) (t4 : Nat) (tx : Nat) (tc : Nat) (tk : Nat) (ts : Nat) (tg : Nat) (td : Nat) (te : Nat) (c : Nat) (b : Nat → Nat) (hcc : c < 52) (hb : ∀ k, k < 52 → b k ≤ 1) : CT κ l yX2_bendOrFlatten cX2_bendOrFlatten 2 none 0 0 0 0 [.ref t0, .int (nI c)] [(t0, .inr (2, [.ref t1, .ref t2, .ref t3, .ref t4, .int (nI tx), .int (nI tc), .int (nI tk), .int (nI ts), .int (nI tg), .int (nI td), .int (nI te)])), (t3, aZ κ 52 b)] (PV (fun ww => ww = [(t0, .inr (2, [.ref t1, .ref t2, .ref t3, .ref t4, .int (nI tx), .int (nI tc), .int (nI tk), .int (nI ts), .int (nI tg), .int (nI td), .int (nI te)])), (t3, aZ κ 52 (va_up b c (1 - b c)))])) := by
  refine CT.go (plainFor_of_name (by decide)) (Nat.le_of_ble_eq_true rfl) ?_
  intro Γ A Q hl hc hret
  subst hl
  have hc : Cx κ Γ A cX2_bendOrFlatten 2 RX2 "bendOrFlatten" none { frames := 0, cells := 0, slots := 0, locals := 0 } := hc
  refine g_lv (lv' := [(0, .ref t0), (1, .int (nI c))]) rfl ?_
  refine g_iload_n hc 1 rfl rfl dX2_bendOrFlatten_0 (n := 1) rfl ?_
  refine n_if_lt hc (by omega) dX2_bendOrFlatten_1 (tgt := 30) (by decide) (n := 4) rfl ?_
  refine g_iload_n hc 1 rfl rfl dX2_bendOrFlatten_4 (n := 5) rfl ?_
  refine g_bipush (v := nI 52) hc (by decide) dX2_bendOrFlatten_5 (n := 7) rfl ?_
  refine n_icmp_ge hc (by omega) (by omega) dX2_bendOrFlatten_7 (tgt := 30) (by decide) (n := 10) rfl (fun c_2 => by (exfalso; revert c_2; first | omega | decide)) (fun c_2 => ?_)
  refine g_aload_n hc 0 rfl rfl dX2_bendOrFlatten_10 (n := 11) rfl ?_
  refine g_getf hc 0 rfl vw_2 inX2 2 (by decide) k_fl_RX2_21 rfl rfl dX2_bendOrFlatten_11 (n := 14) rfl ?_
  refine g_iload_n hc 1 rfl rfl dX2_bendOrFlatten_14 (n := 15) rfl ?_
  refine g_aload_n hc 0 rfl rfl dX2_bendOrFlatten_15 (n := 16) rfl ?_
  refine g_getf hc 0 rfl vw_2 inX2 2 (by decide) k_fl_RX2_21 rfl rfl dX2_bendOrFlatten_16 (n := 19) rfl ?_
  refine g_iload_n hc 1 rfl rfl dX2_bendOrFlatten_19 (n := 20) rfl ?_
  refine n_zald (v := b c) hc 1 rfl (by omega) (by decide) rfl dX2_bendOrFlatten_20 (n := 21) rfl ?_
  have b_3 := hb c (by omega)
  refine n_if_ne hc (by omega) dX2_bendOrFlatten_21 (tgt := 28) (by decide) (n := 24) rfl (fun c_4 => ?_) (fun c_4 => ?_)
  · skip
    refine g_iconst (v := nI 0) hc (by decide) dX2_bendOrFlatten_28 (n := 29) rfl ?_
    refine n_zast (ws' := [(t0, .inr (2, [.ref t1, .ref t2, .ref t3, .ref t4, .int (nI tx), .int (nI tc), .int (nI tk), .int (nI ts), .int (nI tg), .int (nI td), .int (nI te)])), (t3, aZ κ 52 (va_up b c 0))]) hc 1 rfl (by omega) (by decide) (by omega) rfl dX2_bendOrFlatten_29 (n := 30) rfl ?_
    refine g_arr (ws' := [(t0, .inr (2, [.ref t1, .ref t2, .ref t3, .ref t4, .int (nI tx), .int (nI tc), .int (nI tk), .int (nI ts), .int (nI tg), .int (nI td), .int (nI te)])), (t3, aZ κ 52 (va_up b c (1 - b c)))]) (f := va_up b c 0) (g := va_up b c (1 - b c)) 1 rfl (fun k hk => by first | rw [show 1 - b c = 1 from by omega] | rw [show 1 - b c = 0 from by omega]) rfl ?_
    refine hret.2.2.1 _ _ _ _ _ rfl (by decide) (by decide) dX2_bendOrFlatten_30 ?_
    exact ⟨rfl, rfl⟩
  · skip
    refine g_iconst (v := nI 1) hc (by decide) dX2_bendOrFlatten_24 (n := 25) rfl ?_
    refine g_goto (n := 29) hc dX2_bendOrFlatten_25 (by decide) ?_
    refine n_zast (ws' := [(t0, .inr (2, [.ref t1, .ref t2, .ref t3, .ref t4, .int (nI tx), .int (nI tc), .int (nI tk), .int (nI ts), .int (nI tg), .int (nI td), .int (nI te)])), (t3, aZ κ 52 (va_up b c 1))]) hc 1 rfl (by omega) (by decide) (by omega) rfl dX2_bendOrFlatten_29 (n := 30) rfl ?_
    refine g_arr (ws' := [(t0, .inr (2, [.ref t1, .ref t2, .ref t3, .ref t4, .int (nI tx), .int (nI tc), .int (nI tk), .int (nI ts), .int (nI tg), .int (nI td), .int (nI te)])), (t3, aZ κ 52 (va_up b c (1 - b c)))]) (f := va_up b c 1) (g := va_up b c (1 - b c)) 1 rfl (fun k hk => by first | rw [show 1 - b c = 1 from by omega] | rw [show 1 - b c = 0 from by omega]) rfl ?_
    refine hret.2.2.1 _ _ _ _ _ rfl (by decide) (by decide) dX2_bendOrFlatten_30 ?_
    exact ⟨rfl, rfl⟩
set_option maxHeartbeats 1000000 in
set_option maxRecDepth 100000 in
theorem c_X2_countShuffle (κ : Kp) (l : Launch) (t0 : Nat) (t1 : Nat) (t2 : Nat) (t3 : Nat) (t4 : Nat) (tx : Nat) (tc : Nat) (tk : Nat) (ts : Nat) (tg : Nat) (td : Nat) (te : Nat) (m : Nat) (sf : Nat → Nat) (hm : m ≤ 51) (hsf : ∀ k, k < 2 → sf k ≤ 51) : CT κ l yX2_countShuffle cX2_countShuffle 2 none 0 0 0 0 [.ref t0, .int (nI m)] [(t0, .inr (2, [.ref t1, .ref t2, .ref t3, .ref t4, .int (nI tx), .int (nI tc), .int (nI tk), .int (nI ts), .int (nI tg), .int (nI td), .int (nI te)])), (t1, aI κ 2 sf)] (PV (fun ww => ww = [(t0, .inr (2, [.ref t1, .ref t2, .ref t3, .ref t4, .int (nI tx), .int (nI (if m ≤ sf 0 then 1 else 0)), .int (nI m), .int (nI (ts + 1)), .int (nI (tg + (if m ≤ sf 0 then 1 else 0))), .int (nI td), .int (nI te)])), (t1, aI κ 2 sf)])) := by
  refine CT.go (plainFor_of_name (by decide)) (Nat.le_of_ble_eq_true rfl) ?_
  intro Γ A Q hl hc hret
  subst hl
  have hc : Cx κ Γ A cX2_countShuffle 2 RX2 "countShuffle" none { frames := 0, cells := 0, slots := 0, locals := 0 } := hc
  refine g_lv (lv' := [(0, .ref t0), (1, .int (nI m))]) rfl ?_
  refine g_aload_n hc 0 rfl rfl dX2_countShuffle_0 (n := 1) rfl ?_
  refine g_iload_n hc 1 rfl rfl dX2_countShuffle_1 (n := 2) rfl ?_
  refine g_putf (ws' := [(t0, .inr (2, [.ref t1, .ref t2, .ref t3, .ref t4, .int (nI tx), .int (nI tc), .int (nI m), .int (nI ts), .int (nI tg), .int (nI td), .int (nI te)])), (t1, aI κ 2 sf)]) hc 0 rfl vw_2 inX2 tyX2_ok nmX2 6 (by decide) k_fl_RX2_36 rfl rfl rfl rfl (Nat.le_of_ble_eq_true rfl) rfl dX2_countShuffle_2 (n := 5) rfl ?_
  refine g_aload_n hc 0 rfl rfl dX2_countShuffle_5 (n := 6) rfl ?_
  refine g_dup hc rfl dX2_countShuffle_6 (n := 7) rfl ?_
  refine g_getf hc 0 rfl vw_2 inX2 7 (by decide) k_fl_RX2_53 rfl rfl dX2_countShuffle_7 (n := 10) rfl ?_
  refine g_iconst (v := nI 1) hc (by decide) dX2_countShuffle_10 (n := 11) rfl ?_
  refine n_iadd (v := ts + 1) hc rfl dX2_countShuffle_11 (n := 12) rfl ?_
  refine g_putf (ws' := [(t0, .inr (2, [.ref t1, .ref t2, .ref t3, .ref t4, .int (nI tx), .int (nI tc), .int (nI m), .int (nI (ts + 1)), .int (nI tg), .int (nI td), .int (nI te)])), (t1, aI κ 2 sf)]) hc 0 rfl vw_2 inX2 tyX2_ok nmX2 7 (by decide) k_fl_RX2_53 rfl rfl rfl rfl (Nat.le_of_ble_eq_true rfl) rfl dX2_countShuffle_12 (n := 15) rfl ?_
  refine g_aload_n hc 0 rfl rfl dX2_countShuffle_15 (n := 16) rfl ?_
  refine g_iload_n hc 1 rfl rfl dX2_countShuffle_16 (n := 17) rfl ?_
  refine g_aload_n hc 0 rfl rfl dX2_countShuffle_17 (n := 18) rfl ?_
  refine g_getf hc 0 rfl vw_2 inX2 0 (by decide) k_fl_RX2_9 rfl rfl dX2_countShuffle_18 (n := 21) rfl ?_
  refine g_iconst (v := nI 0) hc (by decide) dX2_countShuffle_21 (n := 22) rfl ?_
  refine n_iald (v := sf 0) hc 1 rfl (by omega) (by decide) rfl dX2_countShuffle_22 (n := 23) rfl ?_
  have b_1 := hsf 0 (by omega)
  refine n_icmp_gt hc (by omega) (by omega) dX2_countShuffle_23 (tgt := 30) (by decide) (n := 26) rfl (fun c_2 => ?_) (fun c_2 => ?_)
  · skip
    refine g_iconst (v := nI 0) hc (by decide) dX2_countShuffle_30 (n := 31) rfl ?_
    refine g_putf (ws' := [(t0, .inr (2, [.ref t1, .ref t2, .ref t3, .ref t4, .int (nI tx), .int (nI 0), .int (nI m), .int (nI (ts + 1)), .int (nI tg), .int (nI td), .int (nI te)])), (t1, aI κ 2 sf)]) hc 0 rfl vw_2 inX2 tyX2_ok nmX2 5 (by decide) k_fl_RX2_49 rfl rfl rfl rfl (Nat.le_of_ble_eq_true rfl) rfl dX2_countShuffle_31 (n := 34) rfl ?_
    refine g_aload_n hc 0 rfl rfl dX2_countShuffle_34 (n := 35) rfl ?_
    refine g_getf hc 0 rfl vw_2 inX2 5 (by decide) k_fl_RX2_49 rfl rfl dX2_countShuffle_35 (n := 38) rfl ?_
    refine n_if_eq hc (by omega) dX2_countShuffle_38 (tgt := 51) (by decide) (n := 41) rfl (fun c_3 => ?_) (fun c_3 => by (exfalso; revert c_3; first | omega | decide))
    refine g_ws (ws' := [(t0, .inr (2, [.ref t1, .ref t2, .ref t3, .ref t4, .int (nI tx), .int (nI (if m ≤ sf 0 then 1 else 0)), .int (nI m), .int (nI (ts + 1)), .int (nI (tg + (if m ≤ sf 0 then 1 else 0))), .int (nI td), .int (nI te)])), (t1, aI κ 2 sf)]) (by simp only [if_neg (show ¬ m ≤ sf 0 by omega), Nat.add_zero]) ?_
    refine hret.2.2.1 _ _ _ _ _ rfl (by decide) (by decide) dX2_countShuffle_51 ?_
    exact ⟨rfl, rfl⟩
  · skip
    refine g_iconst (v := nI 1) hc (by decide) dX2_countShuffle_26 (n := 27) rfl ?_
    refine g_goto (n := 31) hc dX2_countShuffle_27 (by decide) ?_
    refine g_putf (ws' := [(t0, .inr (2, [.ref t1, .ref t2, .ref t3, .ref t4, .int (nI tx), .int (nI 1), .int (nI m), .int (nI (ts + 1)), .int (nI tg), .int (nI td), .int (nI te)])), (t1, aI κ 2 sf)]) hc 0 rfl vw_2 inX2 tyX2_ok nmX2 5 (by decide) k_fl_RX2_49 rfl rfl rfl rfl (Nat.le_of_ble_eq_true rfl) rfl dX2_countShuffle_31 (n := 34) rfl ?_
    refine g_aload_n hc 0 rfl rfl dX2_countShuffle_34 (n := 35) rfl ?_
    refine g_getf hc 0 rfl vw_2 inX2 5 (by decide) k_fl_RX2_49 rfl rfl dX2_countShuffle_35 (n := 38) rfl ?_
    refine n_if_eq hc (by omega) dX2_countShuffle_38 (tgt := 51) (by decide) (n := 41) rfl (fun c_4 => by (exfalso; revert c_4; first | omega | decide)) (fun c_4 => ?_)
    refine g_aload_n hc 0 rfl rfl dX2_countShuffle_41 (n := 42) rfl ?_
    refine g_dup hc rfl dX2_countShuffle_42 (n := 43) rfl ?_
    refine g_getf hc 0 rfl vw_2 inX2 8 (by decide) k_fl_RX2_56 rfl rfl dX2_countShuffle_43 (n := 46) rfl ?_
    refine g_iconst (v := nI 1) hc (by decide) dX2_countShuffle_46 (n := 47) rfl ?_
    refine n_iadd (v := tg + 1) hc rfl dX2_countShuffle_47 (n := 48) rfl ?_
    refine g_putf (ws' := [(t0, .inr (2, [.ref t1, .ref t2, .ref t3, .ref t4, .int (nI tx), .int (nI 1), .int (nI m), .int (nI (ts + 1)), .int (nI (tg + 1)), .int (nI td), .int (nI te)])), (t1, aI κ 2 sf)]) hc 0 rfl vw_2 inX2 tyX2_ok nmX2 8 (by decide) k_fl_RX2_56 rfl rfl rfl rfl (Nat.le_of_ble_eq_true rfl) rfl dX2_countShuffle_48 (n := 51) rfl ?_
    refine g_ws (ws' := [(t0, .inr (2, [.ref t1, .ref t2, .ref t3, .ref t4, .int (nI tx), .int (nI (if m ≤ sf 0 then 1 else 0)), .int (nI m), .int (nI (ts + 1)), .int (nI (tg + (if m ≤ sf 0 then 1 else 0))), .int (nI td), .int (nI te)])), (t1, aI κ 2 sf)]) (by simp only [if_pos (show m ≤ sf 0 by omega)]) ?_
    refine hret.2.2.1 _ _ _ _ _ rfl (by decide) (by decide) dX2_countShuffle_51 ?_
    exact ⟨rfl, rfl⟩
set_option maxHeartbeats 1000000 in
set_option maxRecDepth 100000 in
theorem c_X2_layInOrder (κ : Kp) (l : Launch) (t0 : Nat) (t1 : Nat) (t2 : Nat) (t3 : Nat) (t4 : Nat) (tx : Nat) (tc : Nat) (tk : Nat) (ts : Nat) (tg : Nat) (td : Nat) (te : Nat) (p : Nat → Nat) (hp : ∀ k, k < 52 → p k < 52) : CT κ l yX2_layInOrder cX2_layInOrder 3 (some .int) 0 0 0 0 [.ref t0] [(t0, .inr (2, [.ref t1, .ref t2, .ref t3, .ref t4, .int (nI tx), .int (nI tc), .int (nI tk), .int (nI ts), .int (nI tg), .int (nI td), .int (nI te)])), (t2, aI κ 52 p)] (PI (fun rr ww => rr = (nI (sm (fun k => if p k = k then 0 else 1) 52)) ∧ ww = [(t0, .inr (2, [.ref t1, .ref t2, .ref t3, .ref t4, .int (nI tx), .int (nI tc), .int (nI tk), .int (nI ts), .int (nI tg), .int (nI td), .int (nI te)])), (t2, aI κ 52 (fun k => k))])) := by
  refine CT.go (plainFor_of_name (by decide)) (Nat.le_of_ble_eq_true rfl) ?_
  intro Γ A Q hl hc hret
  subst hl
  have hc : Cx κ Γ A cX2_layInOrder 3 RX2 "layInOrder" (some .int) { frames := 0, cells := 0, slots := 0, locals := 0 } := hc
  refine g_lv (lv' := [(0, .ref t0)]) rfl ?_
  refine g_iconst (v := nI 0) hc (by decide) dX2_layInOrder_0 (n := 1) rfl ?_
  refine g_istore_n (lv2 := [(0, .ref t0), (1, .int (nI 0))]) hc rfl (by decide) [1, 0] rfl rfl dX2_layInOrder_1 (n := 2) rfl ?_
  refine g_iconst (v := nI 0) hc (by decide) dX2_layInOrder_2 (n := 3) rfl ?_
  refine g_istore_n (lv2 := [(0, .ref t0), (1, .int (nI 0)), (2, .int (nI 0))]) hc rfl (by decide) [1, 2, 0] rfl rfl dX2_layInOrder_3 (n := 4) rfl ?_
  have L_1 : ∀ (fuel : Nat) (i : Nat) (s : Nat) (g : Nat → Nat), (i ≤ 52) → (s = sm (fun k => if p k = k then 0 else 1) i) → (∀ k, k < i → g k = k) → (∀ k, i ≤ k → g k = p k) → 52 - i < fuel → G κ Γ A 3 0 0 Q [(t0, .inr (2, [.ref t1, .ref t2, .ref t3, .ref t4, .int (nI tx), .int (nI tc), .int (nI tk), .int (nI ts), .int (nI tg), .int (nI td), .int (nI te)])), (t2, aI κ 52 g)] 4 [(0, .ref t0), (1, .int (nI s)), (2, .int (nI i))] [] := by
    intro fuel
    induction fuel with
    | zero => intro i s g hi hs hg1 hg2 h; exact absurd h (Nat.not_lt_zero _)
    | succ fuel ih_2 =>
      intro i s g hi hs hg1 hg2 hn_3
      refine g_iload_n hc 2 rfl rfl dX2_layInOrder_4 (n := 5) rfl ?_
      refine g_bipush (v := nI 52) hc (by decide) dX2_layInOrder_5 (n := 7) rfl ?_
      refine n_icmp_ge hc (by omega) (by omega) dX2_layInOrder_7 (tgt := 36) (by decide) (n := 10) rfl (fun c_4 => ?_) (fun c_4 => ?_)
      · skip
        refine g_iload_n hc 1 rfl rfl dX2_layInOrder_36 (n := 37) rfl ?_
        refine g_arr (ws' := [(t0, .inr (2, [.ref t1, .ref t2, .ref t3, .ref t4, .int (nI tx), .int (nI tc), .int (nI tk), .int (nI ts), .int (nI tg), .int (nI td), .int (nI te)])), (t2, aI κ 52 (fun k => k))]) (f := g) (g := fun k => k) 1 rfl (fun k hk => hg1 k (by omega)) rfl ?_
        refine hret.1 _ _ _ _ _ _ rfl (by decide) (by decide) dX2_layInOrder_37 ?_
        exact ⟨_, rfl, (by have e9 : i = 52 := (by omega); subst e9; rw [hs]), rfl⟩
      · skip
        refine g_aload_n hc 0 rfl rfl dX2_layInOrder_10 (n := 11) rfl ?_
        refine g_getf hc 0 rfl vw_2 inX2 1 (by decide) k_fl_RX2_18 rfl rfl dX2_layInOrder_11 (n := 14) rfl ?_
        refine g_iload_n hc 2 rfl rfl dX2_layInOrder_14 (n := 15) rfl ?_
        refine n_iald (v := p i) hc 1 rfl (by omega) (by decide) (hg2 i (Nat.le_refl i)) dX2_layInOrder_15 (n := 16) rfl ?_
        have hpi := hp i (by omega)
        refine g_iload_n hc 2 rfl rfl dX2_layInOrder_16 (n := 17) rfl ?_
        refine n_icmp_eq hc (by omega) (by omega) dX2_layInOrder_17 (tgt := 23) (by decide) (n := 20) rfl (fun c_5 => ?_) (fun c_5 => ?_)
        · skip
          refine g_aload_n hc 0 rfl rfl dX2_layInOrder_23 (n := 24) rfl ?_
          refine g_getf hc 0 rfl vw_2 inX2 1 (by decide) k_fl_RX2_18 rfl rfl dX2_layInOrder_24 (n := 27) rfl ?_
          refine g_iload_n hc 2 rfl rfl dX2_layInOrder_27 (n := 28) rfl ?_
          refine g_iload_n hc 2 rfl rfl dX2_layInOrder_28 (n := 29) rfl ?_
          refine n_iast (ws' := [(t0, .inr (2, [.ref t1, .ref t2, .ref t3, .ref t4, .int (nI tx), .int (nI tc), .int (nI tk), .int (nI ts), .int (nI tg), .int (nI td), .int (nI te)])), (t2, aI κ 52 (va_up g i i))]) hc 1 rfl (by omega) (by decide) rfl dX2_layInOrder_29 (n := 30) rfl ?_
          refine n_iinc (v := i + 1) (zk := 1) (lv2 := [(0, .ref t0), (1, .int (nI s)), (2, .int (nI (i + 1)))]) hc 2 rfl (by decide) rfl (by decide) [1, 2, 0] rfl rfl dX2_layInOrder_30 (n := 33) rfl ?_
          refine g_goto (n := 4) hc dX2_layInOrder_33 (by decide) ?_
          exact ih_2 (i + 1) s (va_up g i i) (by omega) (by rw [sm_s, ← hs]; first | (split <;> omega) | omega) (fun k hk => (Nat.lt_succ_iff_lt_or_eq.mp hk).elim (fun q => (va_up_ne _ _ (by omega)).trans (hg1 k q)) (fun q => by subst q; exact va_up_self _ _ _)) (fun k hk => (va_up_ne _ _ (by omega)).trans (hg2 k (by omega))) (by omega)
        · skip
          refine n_iinc (v := s + 1) (zk := 1) (lv2 := [(0, .ref t0), (1, .int (nI (s + 1))), (2, .int (nI i))]) hc 1 rfl (by decide) rfl (by decide) [1, 0, 2] rfl rfl dX2_layInOrder_20 (n := 23) rfl ?_
          refine g_aload_n hc 0 rfl rfl dX2_layInOrder_23 (n := 24) rfl ?_
          refine g_getf hc 0 rfl vw_2 inX2 1 (by decide) k_fl_RX2_18 rfl rfl dX2_layInOrder_24 (n := 27) rfl ?_
          refine g_iload_n hc 2 rfl rfl dX2_layInOrder_27 (n := 28) rfl ?_
          refine g_iload_n hc 2 rfl rfl dX2_layInOrder_28 (n := 29) rfl ?_
          refine n_iast (ws' := [(t0, .inr (2, [.ref t1, .ref t2, .ref t3, .ref t4, .int (nI tx), .int (nI tc), .int (nI tk), .int (nI ts), .int (nI tg), .int (nI td), .int (nI te)])), (t2, aI κ 52 (va_up g i i))]) hc 1 rfl (by omega) (by decide) rfl dX2_layInOrder_29 (n := 30) rfl ?_
          refine n_iinc (v := i + 1) (zk := 1) (lv2 := [(0, .ref t0), (1, .int (nI (s + 1))), (2, .int (nI (i + 1)))]) hc 2 rfl (by decide) rfl (by decide) [1, 2, 0] rfl rfl dX2_layInOrder_30 (n := 33) rfl ?_
          refine g_goto (n := 4) hc dX2_layInOrder_33 (by decide) ?_
          exact ih_2 (i + 1) (s + 1) (va_up g i i) (by omega) (by rw [sm_s, ← hs]; first | (split <;> omega) | omega) (fun k hk => (Nat.lt_succ_iff_lt_or_eq.mp hk).elim (fun q => (va_up_ne _ _ (by omega)).trans (hg1 k q)) (fun q => by subst q; exact va_up_self _ _ _)) (fun k hk => (va_up_ne _ _ (by omega)).trans (hg2 k (by omega))) (by omega)
  exact L_1 _ 0 0 p (by omega) (rfl) (fun k hk => absurd hk (Nat.not_lt_zero _)) (fun k hk => rfl) (Nat.lt_succ_self _)
set_option maxHeartbeats 1000000 in
set_option maxRecDepth 100000 in
theorem c_X2_bentCards (κ : Kp) (l : Launch) (t0 : Nat) (t1 : Nat) (t2 : Nat) (t3 : Nat) (t4 : Nat) (tx : Nat) (tc : Nat) (tk : Nat) (ts : Nat) (tg : Nat) (td : Nat) (te : Nat) (b : Nat → Nat) (hb : ∀ k, k < 52 → b k ≤ 1) : CT κ l yX2_bentCards cX2_bentCards 3 (some .int) 0 0 0 0 [.ref t0] [(t0, .inr (2, [.ref t1, .ref t2, .ref t3, .ref t4, .int (nI tx), .int (nI tc), .int (nI tk), .int (nI ts), .int (nI tg), .int (nI td), .int (nI te)])), (t3, aZ κ 52 b)] (PI (fun rr ww => rr = (nI (sm b 52)) ∧ ww = [(t0, .inr (2, [.ref t1, .ref t2, .ref t3, .ref t4, .int (nI tx), .int (nI tc), .int (nI tk), .int (nI ts), .int (nI tg), .int (nI td), .int (nI te)])), (t3, aZ κ 52 b)])) := by
  refine CT.go (plainFor_of_name (by decide)) (Nat.le_of_ble_eq_true rfl) ?_
  intro Γ A Q hl hc hret
  subst hl
  have hc : Cx κ Γ A cX2_bentCards 3 RX2 "bentCards" (some .int) { frames := 0, cells := 0, slots := 0, locals := 0 } := hc
  refine g_lv (lv' := [(0, .ref t0)]) rfl ?_
  refine g_iconst (v := nI 0) hc (by decide) dX2_bentCards_0 (n := 1) rfl ?_
  refine g_istore_n (lv2 := [(0, .ref t0), (1, .int (nI 0))]) hc rfl (by decide) [1, 0] rfl rfl dX2_bentCards_1 (n := 2) rfl ?_
  refine g_iconst (v := nI 0) hc (by decide) dX2_bentCards_2 (n := 3) rfl ?_
  refine g_istore_n (lv2 := [(0, .ref t0), (1, .int (nI 0)), (2, .int (nI 0))]) hc rfl (by decide) [1, 2, 0] rfl rfl dX2_bentCards_3 (n := 4) rfl ?_
  have L_1 : ∀ (fuel : Nat) (i : Nat) (s : Nat), (i ≤ 52) → (s = sm b i) → 52 - i < fuel → G κ Γ A 3 0 0 Q [(t0, .inr (2, [.ref t1, .ref t2, .ref t3, .ref t4, .int (nI tx), .int (nI tc), .int (nI tk), .int (nI ts), .int (nI tg), .int (nI td), .int (nI te)])), (t3, aZ κ 52 b)] 4 [(0, .ref t0), (1, .int (nI s)), (2, .int (nI i))] [] := by
    intro fuel
    induction fuel with
    | zero => intro i s hi hs h; exact absurd h (Nat.not_lt_zero _)
    | succ fuel ih_2 =>
      intro i s hi hs hn_3
      refine g_iload_n hc 2 rfl rfl dX2_bentCards_4 (n := 5) rfl ?_
      refine g_bipush (v := nI 52) hc (by decide) dX2_bentCards_5 (n := 7) rfl ?_
      refine n_icmp_ge hc (by omega) (by omega) dX2_bentCards_7 (tgt := 28) (by decide) (n := 10) rfl (fun c_4 => ?_) (fun c_4 => ?_)
      · skip
        refine g_iload_n hc 1 rfl rfl dX2_bentCards_28 (n := 29) rfl ?_
        refine hret.1 _ _ _ _ _ _ rfl (by decide) (by decide) dX2_bentCards_29 ?_
        exact ⟨_, rfl, (by have e9 : i = 52 := (by omega); subst e9; rw [hs]), rfl⟩
      · skip
        refine g_aload_n hc 0 rfl rfl dX2_bentCards_10 (n := 11) rfl ?_
        refine g_getf hc 0 rfl vw_2 inX2 2 (by decide) k_fl_RX2_21 rfl rfl dX2_bentCards_11 (n := 14) rfl ?_
        refine g_iload_n hc 2 rfl rfl dX2_bentCards_14 (n := 15) rfl ?_
        refine n_zald (v := b i) hc 1 rfl (by omega) (by decide) rfl dX2_bentCards_15 (n := 16) rfl ?_
        have b_5 := hb i (by omega)
        refine n_if_eq hc (by omega) dX2_bentCards_16 (tgt := 22) (by decide) (n := 19) rfl (fun c_6 => ?_) (fun c_6 => ?_)
        · skip
          refine n_iinc (v := i + 1) (zk := 1) (lv2 := [(0, .ref t0), (1, .int (nI s)), (2, .int (nI (i + 1)))]) hc 2 rfl (by decide) rfl (by decide) [1, 2, 0] rfl rfl dX2_bentCards_22 (n := 25) rfl ?_
          refine g_goto (n := 4) hc dX2_bentCards_25 (by decide) ?_
          exact ih_2 (i + 1) s (by omega) (by rw [sm_s, ← hs]; omega) (by omega)
        · skip
          refine n_iinc (v := s + 1) (zk := 1) (lv2 := [(0, .ref t0), (1, .int (nI (s + 1))), (2, .int (nI i))]) hc 1 rfl (by decide) rfl (by decide) [1, 0, 2] rfl rfl dX2_bentCards_19 (n := 22) rfl ?_
          refine n_iinc (v := i + 1) (zk := 1) (lv2 := [(0, .ref t0), (1, .int (nI (s + 1))), (2, .int (nI (i + 1)))]) hc 2 rfl (by decide) rfl (by decide) [1, 2, 0] rfl rfl dX2_bentCards_22 (n := 25) rfl ?_
          refine g_goto (n := 4) hc dX2_bentCards_25 (by decide) ?_
          exact ih_2 (i + 1) (s + 1) (by omega) (by rw [sm_s, ← hs]; omega) (by omega)
  exact L_1 _ 0 0 (by omega) (rfl) (Nat.lt_succ_self _)
set_option maxHeartbeats 1000000 in
set_option maxRecDepth 100000 in
theorem c_X2_risingPairs (κ : Kp) (l : Launch) (t0 : Nat) (t1 : Nat) (t2 : Nat) (t3 : Nat) (t4 : Nat) (tx : Nat) (tc : Nat) (tk : Nat) (ts : Nat) (tg : Nat) (td : Nat) (te : Nat) (p : Nat → Nat) (hp : ∀ k, k < 52 → p k < 52) : CT κ l yX2_risingPairs cX2_risingPairs 3 (some .int) 0 0 0 0 [.ref t0] [(t0, .inr (2, [.ref t1, .ref t2, .ref t3, .ref t4, .int (nI tx), .int (nI tc), .int (nI tk), .int (nI ts), .int (nI tg), .int (nI td), .int (nI te)])), (t2, aI κ 52 p)] (PI (fun rr ww => rr = (nI (sm (fun k => if p (k + 1) = p k + 1 then 1 else 0) 51)) ∧ ww = [(t0, .inr (2, [.ref t1, .ref t2, .ref t3, .ref t4, .int (nI tx), .int (nI tc), .int (nI tk), .int (nI ts), .int (nI tg), .int (nI td), .int (nI te)])), (t2, aI κ 52 p)])) := by
  refine CT.go (plainFor_of_name (by decide)) (Nat.le_of_ble_eq_true rfl) ?_
  intro Γ A Q hl hc hret
  subst hl
  have hc : Cx κ Γ A cX2_risingPairs 3 RX2 "risingPairs" (some .int) { frames := 0, cells := 0, slots := 0, locals := 0 } := hc
  refine g_lv (lv' := [(0, .ref t0)]) rfl ?_
  refine g_iconst (v := nI 0) hc (by decide) dX2_risingPairs_0 (n := 1) rfl ?_
  refine g_istore_n (lv2 := [(0, .ref t0), (1, .int (nI 0))]) hc rfl (by decide) [1, 0] rfl rfl dX2_risingPairs_1 (n := 2) rfl ?_
  refine g_iconst (v := nI 1) hc (by decide) dX2_risingPairs_2 (n := 3) rfl ?_
  refine g_istore_n (lv2 := [(0, .ref t0), (1, .int (nI 0)), (2, .int (nI 1))]) hc rfl (by decide) [1, 2, 0] rfl rfl dX2_risingPairs_3 (n := 4) rfl ?_
  have L_1 : ∀ (fuel : Nat) (i : Nat) (s : Nat), (i ≤ 51) → (s = sm (fun k => if p (k + 1) = p k + 1 then 1 else 0) i) → 51 - i < fuel → G κ Γ A 3 0 0 Q [(t0, .inr (2, [.ref t1, .ref t2, .ref t3, .ref t4, .int (nI tx), .int (nI tc), .int (nI tk), .int (nI ts), .int (nI tg), .int (nI td), .int (nI te)])), (t2, aI κ 52 p)] 4 [(0, .ref t0), (1, .int (nI s)), (2, .int (nI (i + 1)))] [] := by
    intro fuel
    induction fuel with
    | zero => intro i s hi hs h; exact absurd h (Nat.not_lt_zero _)
    | succ fuel ih_2 =>
      intro i s hi hs hn_3
      refine g_iload_n hc 2 rfl rfl dX2_risingPairs_4 (n := 5) rfl ?_
      refine g_bipush (v := nI 52) hc (by decide) dX2_risingPairs_5 (n := 7) rfl ?_
      refine n_icmp_ge hc (by omega) (by omega) dX2_risingPairs_7 (tgt := 38) (by decide) (n := 10) rfl (fun c_4 => ?_) (fun c_4 => ?_)
      · skip
        refine g_iload_n hc 1 rfl rfl dX2_risingPairs_38 (n := 39) rfl ?_
        refine hret.1 _ _ _ _ _ _ rfl (by decide) (by decide) dX2_risingPairs_39 ?_
        exact ⟨_, rfl, (by have e9 : i = 51 := (by omega); subst e9; rw [hs]), rfl⟩
      · skip
        refine g_aload_n hc 0 rfl rfl dX2_risingPairs_10 (n := 11) rfl ?_
        refine g_getf hc 0 rfl vw_2 inX2 1 (by decide) k_fl_RX2_18 rfl rfl dX2_risingPairs_11 (n := 14) rfl ?_
        refine g_iload_n hc 2 rfl rfl dX2_risingPairs_14 (n := 15) rfl ?_
        refine n_iald (v := p (i + 1)) hc 1 rfl (by omega) (by decide) rfl dX2_risingPairs_15 (n := 16) rfl ?_
        have b_5 := hp (i + 1) (by omega)
        refine g_aload_n hc 0 rfl rfl dX2_risingPairs_16 (n := 17) rfl ?_
        refine g_getf hc 0 rfl vw_2 inX2 1 (by decide) k_fl_RX2_18 rfl rfl dX2_risingPairs_17 (n := 20) rfl ?_
        refine g_iload_n hc 2 rfl rfl dX2_risingPairs_20 (n := 21) rfl ?_
        refine g_iconst (v := nI 1) hc (by decide) dX2_risingPairs_21 (n := 22) rfl ?_
        refine n_isub (v := i) hc (by omega) rfl dX2_risingPairs_22 (n := 23) rfl ?_
        refine n_iald (v := p i) hc 1 rfl (by omega) (by decide) rfl dX2_risingPairs_23 (n := 24) rfl ?_
        have b_6 := hp i (by omega)
        refine g_iconst (v := nI 1) hc (by decide) dX2_risingPairs_24 (n := 25) rfl ?_
        refine n_iadd (v := (p i) + 1) hc rfl dX2_risingPairs_25 (n := 26) rfl ?_
        refine n_icmp_ne hc (by omega) (by omega) dX2_risingPairs_26 (tgt := 32) (by decide) (n := 29) rfl (fun c_7 => ?_) (fun c_7 => ?_)
        · skip
          refine n_iinc (v := (i + 1) + 1) (zk := 1) (lv2 := [(0, .ref t0), (1, .int (nI s)), (2, .int (nI ((i + 1) + 1)))]) hc 2 rfl (by decide) rfl (by decide) [1, 2, 0] rfl rfl dX2_risingPairs_32 (n := 35) rfl ?_
          refine g_goto (n := 4) hc dX2_risingPairs_35 (by decide) ?_
          exact ih_2 (i + 1) s (by omega) (by rw [sm_s, ← hs]; first | (split <;> omega) | omega) (by omega)
        · skip
          refine n_iinc (v := s + 1) (zk := 1) (lv2 := [(0, .ref t0), (1, .int (nI (s + 1))), (2, .int (nI (i + 1)))]) hc 1 rfl (by decide) rfl (by decide) [1, 0, 2] rfl rfl dX2_risingPairs_29 (n := 32) rfl ?_
          refine n_iinc (v := (i + 1) + 1) (zk := 1) (lv2 := [(0, .ref t0), (1, .int (nI (s + 1))), (2, .int (nI ((i + 1) + 1)))]) hc 2 rfl (by decide) rfl (by decide) [1, 2, 0] rfl rfl dX2_risingPairs_32 (n := 35) rfl ?_
          refine g_goto (n := 4) hc dX2_risingPairs_35 (by decide) ?_
          exact ih_2 (i + 1) (s + 1) (by omega) (by rw [sm_s, ← hs]; first | (split <;> omega) | omega) (by omega)
  exact L_1 _ 0 0 (by omega) (rfl) (Nat.lt_succ_self _)
set_option maxHeartbeats 1000000 in
set_option maxRecDepth 100000 in
theorem c_X2_boardsWithCards (κ : Kp) (l : Launch) (t0 : Nat) (t1 : Nat) (t2 : Nat) (t3 : Nat) (t4 : Nat) (tx : Nat) (tc : Nat) (tk : Nat) (ts : Nat) (tg : Nat) (td : Nat) (te : Nat) (q : Nat → Nat) (e : Nat → Nat) (y0 : Nat) (y1 : Nat) (y2 : Nat) (y3 : Nat) (v0 : Nat) (v1 : Nat) (v2 : Nat) (v3 : Nat) (w0 : Nat) (w1 : Nat) (w2 : Nat) (w3 : Nat) (he : ∀ k, k < 4 → e k ≤ 1) : CT κ l yX2_boardsWithCards cX2_boardsWithCards 3 (some .int) 0 0 0 0 [.ref t0] [(t0, .inr (2, [.ref t1, .ref t2, .ref t3, .ref t4, .int (nI tx), .int (nI tc), .int (nI tk), .int (nI ts), .int (nI tg), .int (nI td), .int (nI te)])), (t4, aB κ 4 (fun k => some (q (5 + 2 * k)))), (q 5, .inr (0, [.ref y0, .int (nI (e 0)), .int (nI v0), .int (nI w0)])), (q 7, .inr (0, [.ref y1, .int (nI (e 1)), .int (nI v1), .int (nI w1)])), (q 9, .inr (0, [.ref y2, .int (nI (e 2)), .int (nI v2), .int (nI w2)])), (q 11, .inr (0, [.ref y3, .int (nI (e 3)), .int (nI v3), .int (nI w3)]))] (PI (fun rr ww => rr = (nI (sm e 4)) ∧ ww = [(t0, .inr (2, [.ref t1, .ref t2, .ref t3, .ref t4, .int (nI tx), .int (nI tc), .int (nI tk), .int (nI ts), .int (nI tg), .int (nI td), .int (nI te)])), (t4, aB κ 4 (fun k => some (q (5 + 2 * k)))), (q 5, .inr (0, [.ref y0, .int (nI (e 0)), .int (nI v0), .int (nI w0)])), (q 7, .inr (0, [.ref y1, .int (nI (e 1)), .int (nI v1), .int (nI w1)])), (q 9, .inr (0, [.ref y2, .int (nI (e 2)), .int (nI v2), .int (nI w2)])), (q 11, .inr (0, [.ref y3, .int (nI (e 3)), .int (nI v3), .int (nI w3)]))])) := by
  refine CT.go (plainFor_of_name (by decide)) (Nat.le_of_ble_eq_true rfl) ?_
  intro Γ A Q hl hc hret
  subst hl
  have hc : Cx κ Γ A cX2_boardsWithCards 3 RX2 "boardsWithCards" (some .int) { frames := 0, cells := 0, slots := 0, locals := 0 } := hc
  refine g_lv (lv' := [(0, .ref t0)]) rfl ?_
  have he0 := he 0 (by decide)
  have he1 := he 1 (by decide)
  have he2 := he 2 (by decide)
  have he3 := he 3 (by decide)
  refine g_iconst (v := nI 0) hc (by decide) dX2_boardsWithCards_0 (n := 1) rfl ?_
  refine g_istore_n (lv2 := [(0, .ref t0), (1, .int (nI 0))]) hc rfl (by decide) [1, 0] rfl rfl dX2_boardsWithCards_1 (n := 2) rfl ?_
  refine g_iconst (v := nI 0) hc (by decide) dX2_boardsWithCards_2 (n := 3) rfl ?_
  refine g_istore_n (lv2 := [(0, .ref t0), (1, .int (nI 0)), (2, .int (nI 0))]) hc rfl (by decide) [1, 2, 0] rfl rfl dX2_boardsWithCards_3 (n := 4) rfl ?_
  refine g_iload_n hc 2 rfl rfl dX2_boardsWithCards_4 (n := 5) rfl ?_
  refine g_iconst (v := nI 4) hc (by decide) dX2_boardsWithCards_5 (n := 6) rfl ?_
  refine n_icmp_ge hc (by omega) (by omega) dX2_boardsWithCards_6 (tgt := 30) (by decide) (n := 9) rfl (fun c_1 => by (exfalso; revert c_1; first | omega | decide)) (fun c_1 => ?_)
  refine g_aload_n hc 0 rfl rfl dX2_boardsWithCards_9 (n := 10) rfl ?_
  refine g_getf hc 0 rfl vw_2 inX2 3 (by decide) k_fl_RX2_27 rfl rfl dX2_boardsWithCards_10 (n := 13) rfl ?_
  refine g_iload_n hc 2 rfl rfl dX2_boardsWithCards_13 (n := 14) rfl ?_
  refine n_aldB (b := q 5) hc 1 rfl (by omega) (by decide) (rfl) dX2_boardsWithCards_14 (n := 15) rfl ?_
  refine g_getf hc 2 rfl vw_0 inX0 1 (by decide) k_fl_RX2_65 rfl rfl dX2_boardsWithCards_15 (n := 18) rfl ?_
  refine n_if_eq hc (by omega) dX2_boardsWithCards_18 (tgt := 24) (by decide) (n := 21) rfl (fun c_2 => ?_) (fun c_2 => ?_)
  · skip
    refine n_iinc (v := 1) (zk := 1) (lv2 := [(0, .ref t0), (1, .int (nI 0)), (2, .int (nI 1))]) hc 2 rfl (by decide) rfl (by decide) [1, 2, 0] rfl rfl dX2_boardsWithCards_24 (n := 27) rfl ?_
    refine g_goto (n := 4) hc dX2_boardsWithCards_27 (by decide) ?_
    refine g_iload_n hc 2 rfl rfl dX2_boardsWithCards_4 (n := 5) rfl ?_
    refine g_iconst (v := nI 4) hc (by decide) dX2_boardsWithCards_5 (n := 6) rfl ?_
    refine n_icmp_ge hc (by omega) (by omega) dX2_boardsWithCards_6 (tgt := 30) (by decide) (n := 9) rfl (fun c_3 => by (exfalso; revert c_3; first | omega | decide)) (fun c_3 => ?_)
    refine g_aload_n hc 0 rfl rfl dX2_boardsWithCards_9 (n := 10) rfl ?_
    refine g_getf hc 0 rfl vw_2 inX2 3 (by decide) k_fl_RX2_27 rfl rfl dX2_boardsWithCards_10 (n := 13) rfl ?_
    refine g_iload_n hc 2 rfl rfl dX2_boardsWithCards_13 (n := 14) rfl ?_
    refine n_aldB (b := q 7) hc 1 rfl (by omega) (by decide) (rfl) dX2_boardsWithCards_14 (n := 15) rfl ?_
    refine g_getf hc 3 rfl vw_0 inX0 1 (by decide) k_fl_RX2_65 rfl rfl dX2_boardsWithCards_15 (n := 18) rfl ?_
    refine n_if_eq hc (by omega) dX2_boardsWithCards_18 (tgt := 24) (by decide) (n := 21) rfl (fun c_4 => ?_) (fun c_4 => ?_)
    · skip
      refine n_iinc (v := 2) (zk := 1) (lv2 := [(0, .ref t0), (1, .int (nI 0)), (2, .int (nI 2))]) hc 2 rfl (by decide) rfl (by decide) [1, 2, 0] rfl rfl dX2_boardsWithCards_24 (n := 27) rfl ?_
      refine g_goto (n := 4) hc dX2_boardsWithCards_27 (by decide) ?_
      refine g_iload_n hc 2 rfl rfl dX2_boardsWithCards_4 (n := 5) rfl ?_
      refine g_iconst (v := nI 4) hc (by decide) dX2_boardsWithCards_5 (n := 6) rfl ?_
      refine n_icmp_ge hc (by omega) (by omega) dX2_boardsWithCards_6 (tgt := 30) (by decide) (n := 9) rfl (fun c_5 => by (exfalso; revert c_5; first | omega | decide)) (fun c_5 => ?_)
      refine g_aload_n hc 0 rfl rfl dX2_boardsWithCards_9 (n := 10) rfl ?_
      refine g_getf hc 0 rfl vw_2 inX2 3 (by decide) k_fl_RX2_27 rfl rfl dX2_boardsWithCards_10 (n := 13) rfl ?_
      refine g_iload_n hc 2 rfl rfl dX2_boardsWithCards_13 (n := 14) rfl ?_
      refine n_aldB (b := q 9) hc 1 rfl (by omega) (by decide) (rfl) dX2_boardsWithCards_14 (n := 15) rfl ?_
      refine g_getf hc 4 rfl vw_0 inX0 1 (by decide) k_fl_RX2_65 rfl rfl dX2_boardsWithCards_15 (n := 18) rfl ?_
      refine n_if_eq hc (by omega) dX2_boardsWithCards_18 (tgt := 24) (by decide) (n := 21) rfl (fun c_6 => ?_) (fun c_6 => ?_)
      · skip
        refine n_iinc (v := 3) (zk := 1) (lv2 := [(0, .ref t0), (1, .int (nI 0)), (2, .int (nI 3))]) hc 2 rfl (by decide) rfl (by decide) [1, 2, 0] rfl rfl dX2_boardsWithCards_24 (n := 27) rfl ?_
        refine g_goto (n := 4) hc dX2_boardsWithCards_27 (by decide) ?_
        refine g_iload_n hc 2 rfl rfl dX2_boardsWithCards_4 (n := 5) rfl ?_
        refine g_iconst (v := nI 4) hc (by decide) dX2_boardsWithCards_5 (n := 6) rfl ?_
        refine n_icmp_ge hc (by omega) (by omega) dX2_boardsWithCards_6 (tgt := 30) (by decide) (n := 9) rfl (fun c_7 => by (exfalso; revert c_7; first | omega | decide)) (fun c_7 => ?_)
        refine g_aload_n hc 0 rfl rfl dX2_boardsWithCards_9 (n := 10) rfl ?_
        refine g_getf hc 0 rfl vw_2 inX2 3 (by decide) k_fl_RX2_27 rfl rfl dX2_boardsWithCards_10 (n := 13) rfl ?_
        refine g_iload_n hc 2 rfl rfl dX2_boardsWithCards_13 (n := 14) rfl ?_
        refine n_aldB (b := q 11) hc 1 rfl (by omega) (by decide) (rfl) dX2_boardsWithCards_14 (n := 15) rfl ?_
        refine g_getf hc 5 rfl vw_0 inX0 1 (by decide) k_fl_RX2_65 rfl rfl dX2_boardsWithCards_15 (n := 18) rfl ?_
        refine n_if_eq hc (by omega) dX2_boardsWithCards_18 (tgt := 24) (by decide) (n := 21) rfl (fun c_8 => ?_) (fun c_8 => ?_)
        · skip
          refine n_iinc (v := 4) (zk := 1) (lv2 := [(0, .ref t0), (1, .int (nI 0)), (2, .int (nI 4))]) hc 2 rfl (by decide) rfl (by decide) [1, 2, 0] rfl rfl dX2_boardsWithCards_24 (n := 27) rfl ?_
          refine g_goto (n := 4) hc dX2_boardsWithCards_27 (by decide) ?_
          refine g_iload_n hc 2 rfl rfl dX2_boardsWithCards_4 (n := 5) rfl ?_
          refine g_iconst (v := nI 4) hc (by decide) dX2_boardsWithCards_5 (n := 6) rfl ?_
          refine n_icmp_ge hc (by omega) (by omega) dX2_boardsWithCards_6 (tgt := 30) (by decide) (n := 9) rfl (fun c_9 => ?_) (fun c_9 => by (exfalso; revert c_9; first | omega | decide))
          refine g_iload_n hc 1 rfl rfl dX2_boardsWithCards_30 (n := 31) rfl ?_
          refine hret.1 _ _ _ _ _ _ rfl (by decide) (by decide) dX2_boardsWithCards_31 ?_
          exact ⟨_, rfl, (congrArg nI (show 0 = sm e 4 from by show 0 = 0 + e 0 + e 1 + e 2 + e 3; omega)), rfl⟩
        · skip
          refine n_iinc (v := 1) (zk := 1) (lv2 := [(0, .ref t0), (1, .int (nI 1)), (2, .int (nI 3))]) hc 1 rfl (by decide) rfl (by decide) [1, 0, 2] rfl rfl dX2_boardsWithCards_21 (n := 24) rfl ?_
          refine n_iinc (v := 4) (zk := 1) (lv2 := [(0, .ref t0), (1, .int (nI 1)), (2, .int (nI 4))]) hc 2 rfl (by decide) rfl (by decide) [1, 2, 0] rfl rfl dX2_boardsWithCards_24 (n := 27) rfl ?_
          refine g_goto (n := 4) hc dX2_boardsWithCards_27 (by decide) ?_
          refine g_iload_n hc 2 rfl rfl dX2_boardsWithCards_4 (n := 5) rfl ?_
          refine g_iconst (v := nI 4) hc (by decide) dX2_boardsWithCards_5 (n := 6) rfl ?_
          refine n_icmp_ge hc (by omega) (by omega) dX2_boardsWithCards_6 (tgt := 30) (by decide) (n := 9) rfl (fun c_10 => ?_) (fun c_10 => by (exfalso; revert c_10; first | omega | decide))
          refine g_iload_n hc 1 rfl rfl dX2_boardsWithCards_30 (n := 31) rfl ?_
          refine hret.1 _ _ _ _ _ _ rfl (by decide) (by decide) dX2_boardsWithCards_31 ?_
          exact ⟨_, rfl, (congrArg nI (show 1 = sm e 4 from by show 1 = 0 + e 0 + e 1 + e 2 + e 3; omega)), rfl⟩
      · skip
        refine n_iinc (v := 1) (zk := 1) (lv2 := [(0, .ref t0), (1, .int (nI 1)), (2, .int (nI 2))]) hc 1 rfl (by decide) rfl (by decide) [1, 0, 2] rfl rfl dX2_boardsWithCards_21 (n := 24) rfl ?_
        refine n_iinc (v := 3) (zk := 1) (lv2 := [(0, .ref t0), (1, .int (nI 1)), (2, .int (nI 3))]) hc 2 rfl (by decide) rfl (by decide) [1, 2, 0] rfl rfl dX2_boardsWithCards_24 (n := 27) rfl ?_
        refine g_goto (n := 4) hc dX2_boardsWithCards_27 (by decide) ?_
        refine g_iload_n hc 2 rfl rfl dX2_boardsWithCards_4 (n := 5) rfl ?_
        refine g_iconst (v := nI 4) hc (by decide) dX2_boardsWithCards_5 (n := 6) rfl ?_
        refine n_icmp_ge hc (by omega) (by omega) dX2_boardsWithCards_6 (tgt := 30) (by decide) (n := 9) rfl (fun c_11 => by (exfalso; revert c_11; first | omega | decide)) (fun c_11 => ?_)
        refine g_aload_n hc 0 rfl rfl dX2_boardsWithCards_9 (n := 10) rfl ?_
        refine g_getf hc 0 rfl vw_2 inX2 3 (by decide) k_fl_RX2_27 rfl rfl dX2_boardsWithCards_10 (n := 13) rfl ?_
        refine g_iload_n hc 2 rfl rfl dX2_boardsWithCards_13 (n := 14) rfl ?_
        refine n_aldB (b := q 11) hc 1 rfl (by omega) (by decide) (rfl) dX2_boardsWithCards_14 (n := 15) rfl ?_
        refine g_getf hc 5 rfl vw_0 inX0 1 (by decide) k_fl_RX2_65 rfl rfl dX2_boardsWithCards_15 (n := 18) rfl ?_
        refine n_if_eq hc (by omega) dX2_boardsWithCards_18 (tgt := 24) (by decide) (n := 21) rfl (fun c_12 => ?_) (fun c_12 => ?_)
        · skip
          refine n_iinc (v := 4) (zk := 1) (lv2 := [(0, .ref t0), (1, .int (nI 1)), (2, .int (nI 4))]) hc 2 rfl (by decide) rfl (by decide) [1, 2, 0] rfl rfl dX2_boardsWithCards_24 (n := 27) rfl ?_
          refine g_goto (n := 4) hc dX2_boardsWithCards_27 (by decide) ?_
          refine g_iload_n hc 2 rfl rfl dX2_boardsWithCards_4 (n := 5) rfl ?_
          refine g_iconst (v := nI 4) hc (by decide) dX2_boardsWithCards_5 (n := 6) rfl ?_
          refine n_icmp_ge hc (by omega) (by omega) dX2_boardsWithCards_6 (tgt := 30) (by decide) (n := 9) rfl (fun c_13 => ?_) (fun c_13 => by (exfalso; revert c_13; first | omega | decide))
          refine g_iload_n hc 1 rfl rfl dX2_boardsWithCards_30 (n := 31) rfl ?_
          refine hret.1 _ _ _ _ _ _ rfl (by decide) (by decide) dX2_boardsWithCards_31 ?_
          exact ⟨_, rfl, (congrArg nI (show 1 = sm e 4 from by show 1 = 0 + e 0 + e 1 + e 2 + e 3; omega)), rfl⟩
        · skip
          refine n_iinc (v := 2) (zk := 1) (lv2 := [(0, .ref t0), (1, .int (nI 2)), (2, .int (nI 3))]) hc 1 rfl (by decide) rfl (by decide) [1, 0, 2] rfl rfl dX2_boardsWithCards_21 (n := 24) rfl ?_
          refine n_iinc (v := 4) (zk := 1) (lv2 := [(0, .ref t0), (1, .int (nI 2)), (2, .int (nI 4))]) hc 2 rfl (by decide) rfl (by decide) [1, 2, 0] rfl rfl dX2_boardsWithCards_24 (n := 27) rfl ?_
          refine g_goto (n := 4) hc dX2_boardsWithCards_27 (by decide) ?_
          refine g_iload_n hc 2 rfl rfl dX2_boardsWithCards_4 (n := 5) rfl ?_
          refine g_iconst (v := nI 4) hc (by decide) dX2_boardsWithCards_5 (n := 6) rfl ?_
          refine n_icmp_ge hc (by omega) (by omega) dX2_boardsWithCards_6 (tgt := 30) (by decide) (n := 9) rfl (fun c_14 => ?_) (fun c_14 => by (exfalso; revert c_14; first | omega | decide))
          refine g_iload_n hc 1 rfl rfl dX2_boardsWithCards_30 (n := 31) rfl ?_
          refine hret.1 _ _ _ _ _ _ rfl (by decide) (by decide) dX2_boardsWithCards_31 ?_
          exact ⟨_, rfl, (congrArg nI (show 2 = sm e 4 from by show 2 = 0 + e 0 + e 1 + e 2 + e 3; omega)), rfl⟩
    · skip
      refine n_iinc (v := 1) (zk := 1) (lv2 := [(0, .ref t0), (1, .int (nI 1)), (2, .int (nI 1))]) hc 1 rfl (by decide) rfl (by decide) [1, 0, 2] rfl rfl dX2_boardsWithCards_21 (n := 24) rfl ?_
      refine n_iinc (v := 2) (zk := 1) (lv2 := [(0, .ref t0), (1, .int (nI 1)), (2, .int (nI 2))]) hc 2 rfl (by decide) rfl (by decide) [1, 2, 0] rfl rfl dX2_boardsWithCards_24 (n := 27) rfl ?_
      refine g_goto (n := 4) hc dX2_boardsWithCards_27 (by decide) ?_
      refine g_iload_n hc 2 rfl rfl dX2_boardsWithCards_4 (n := 5) rfl ?_
      refine g_iconst (v := nI 4) hc (by decide) dX2_boardsWithCards_5 (n := 6) rfl ?_
      refine n_icmp_ge hc (by omega) (by omega) dX2_boardsWithCards_6 (tgt := 30) (by decide) (n := 9) rfl (fun c_15 => by (exfalso; revert c_15; first | omega | decide)) (fun c_15 => ?_)
      refine g_aload_n hc 0 rfl rfl dX2_boardsWithCards_9 (n := 10) rfl ?_
      refine g_getf hc 0 rfl vw_2 inX2 3 (by decide) k_fl_RX2_27 rfl rfl dX2_boardsWithCards_10 (n := 13) rfl ?_
      refine g_iload_n hc 2 rfl rfl dX2_boardsWithCards_13 (n := 14) rfl ?_
      refine n_aldB (b := q 9) hc 1 rfl (by omega) (by decide) (rfl) dX2_boardsWithCards_14 (n := 15) rfl ?_
      refine g_getf hc 4 rfl vw_0 inX0 1 (by decide) k_fl_RX2_65 rfl rfl dX2_boardsWithCards_15 (n := 18) rfl ?_
      refine n_if_eq hc (by omega) dX2_boardsWithCards_18 (tgt := 24) (by decide) (n := 21) rfl (fun c_16 => ?_) (fun c_16 => ?_)
      · skip
        refine n_iinc (v := 3) (zk := 1) (lv2 := [(0, .ref t0), (1, .int (nI 1)), (2, .int (nI 3))]) hc 2 rfl (by decide) rfl (by decide) [1, 2, 0] rfl rfl dX2_boardsWithCards_24 (n := 27) rfl ?_
        refine g_goto (n := 4) hc dX2_boardsWithCards_27 (by decide) ?_
        refine g_iload_n hc 2 rfl rfl dX2_boardsWithCards_4 (n := 5) rfl ?_
        refine g_iconst (v := nI 4) hc (by decide) dX2_boardsWithCards_5 (n := 6) rfl ?_
        refine n_icmp_ge hc (by omega) (by omega) dX2_boardsWithCards_6 (tgt := 30) (by decide) (n := 9) rfl (fun c_17 => by (exfalso; revert c_17; first | omega | decide)) (fun c_17 => ?_)
        refine g_aload_n hc 0 rfl rfl dX2_boardsWithCards_9 (n := 10) rfl ?_
        refine g_getf hc 0 rfl vw_2 inX2 3 (by decide) k_fl_RX2_27 rfl rfl dX2_boardsWithCards_10 (n := 13) rfl ?_
        refine g_iload_n hc 2 rfl rfl dX2_boardsWithCards_13 (n := 14) rfl ?_
        refine n_aldB (b := q 11) hc 1 rfl (by omega) (by decide) (rfl) dX2_boardsWithCards_14 (n := 15) rfl ?_
        refine g_getf hc 5 rfl vw_0 inX0 1 (by decide) k_fl_RX2_65 rfl rfl dX2_boardsWithCards_15 (n := 18) rfl ?_
        refine n_if_eq hc (by omega) dX2_boardsWithCards_18 (tgt := 24) (by decide) (n := 21) rfl (fun c_18 => ?_) (fun c_18 => ?_)
        · skip
          refine n_iinc (v := 4) (zk := 1) (lv2 := [(0, .ref t0), (1, .int (nI 1)), (2, .int (nI 4))]) hc 2 rfl (by decide) rfl (by decide) [1, 2, 0] rfl rfl dX2_boardsWithCards_24 (n := 27) rfl ?_
          refine g_goto (n := 4) hc dX2_boardsWithCards_27 (by decide) ?_
          refine g_iload_n hc 2 rfl rfl dX2_boardsWithCards_4 (n := 5) rfl ?_
          refine g_iconst (v := nI 4) hc (by decide) dX2_boardsWithCards_5 (n := 6) rfl ?_
          refine n_icmp_ge hc (by omega) (by omega) dX2_boardsWithCards_6 (tgt := 30) (by decide) (n := 9) rfl (fun c_19 => ?_) (fun c_19 => by (exfalso; revert c_19; first | omega | decide))
          refine g_iload_n hc 1 rfl rfl dX2_boardsWithCards_30 (n := 31) rfl ?_
          refine hret.1 _ _ _ _ _ _ rfl (by decide) (by decide) dX2_boardsWithCards_31 ?_
          exact ⟨_, rfl, (congrArg nI (show 1 = sm e 4 from by show 1 = 0 + e 0 + e 1 + e 2 + e 3; omega)), rfl⟩
        · skip
          refine n_iinc (v := 2) (zk := 1) (lv2 := [(0, .ref t0), (1, .int (nI 2)), (2, .int (nI 3))]) hc 1 rfl (by decide) rfl (by decide) [1, 0, 2] rfl rfl dX2_boardsWithCards_21 (n := 24) rfl ?_
          refine n_iinc (v := 4) (zk := 1) (lv2 := [(0, .ref t0), (1, .int (nI 2)), (2, .int (nI 4))]) hc 2 rfl (by decide) rfl (by decide) [1, 2, 0] rfl rfl dX2_boardsWithCards_24 (n := 27) rfl ?_
          refine g_goto (n := 4) hc dX2_boardsWithCards_27 (by decide) ?_
          refine g_iload_n hc 2 rfl rfl dX2_boardsWithCards_4 (n := 5) rfl ?_
          refine g_iconst (v := nI 4) hc (by decide) dX2_boardsWithCards_5 (n := 6) rfl ?_
          refine n_icmp_ge hc (by omega) (by omega) dX2_boardsWithCards_6 (tgt := 30) (by decide) (n := 9) rfl (fun c_20 => ?_) (fun c_20 => by (exfalso; revert c_20; first | omega | decide))
          refine g_iload_n hc 1 rfl rfl dX2_boardsWithCards_30 (n := 31) rfl ?_
          refine hret.1 _ _ _ _ _ _ rfl (by decide) (by decide) dX2_boardsWithCards_31 ?_
          exact ⟨_, rfl, (congrArg nI (show 2 = sm e 4 from by show 2 = 0 + e 0 + e 1 + e 2 + e 3; omega)), rfl⟩
      · skip
        refine n_iinc (v := 2) (zk := 1) (lv2 := [(0, .ref t0), (1, .int (nI 2)), (2, .int (nI 2))]) hc 1 rfl (by decide) rfl (by decide) [1, 0, 2] rfl rfl dX2_boardsWithCards_21 (n := 24) rfl ?_
        refine n_iinc (v := 3) (zk := 1) (lv2 := [(0, .ref t0), (1, .int (nI 2)), (2, .int (nI 3))]) hc 2 rfl (by decide) rfl (by decide) [1, 2, 0] rfl rfl dX2_boardsWithCards_24 (n := 27) rfl ?_
        refine g_goto (n := 4) hc dX2_boardsWithCards_27 (by decide) ?_
        refine g_iload_n hc 2 rfl rfl dX2_boardsWithCards_4 (n := 5) rfl ?_
        refine g_iconst (v := nI 4) hc (by decide) dX2_boardsWithCards_5 (n := 6) rfl ?_
        refine n_icmp_ge hc (by omega) (by omega) dX2_boardsWithCards_6 (tgt := 30) (by decide) (n := 9) rfl (fun c_21 => by (exfalso; revert c_21; first | omega | decide)) (fun c_21 => ?_)
        refine g_aload_n hc 0 rfl rfl dX2_boardsWithCards_9 (n := 10) rfl ?_
        refine g_getf hc 0 rfl vw_2 inX2 3 (by decide) k_fl_RX2_27 rfl rfl dX2_boardsWithCards_10 (n := 13) rfl ?_
        refine g_iload_n hc 2 rfl rfl dX2_boardsWithCards_13 (n := 14) rfl ?_
        refine n_aldB (b := q 11) hc 1 rfl (by omega) (by decide) (rfl) dX2_boardsWithCards_14 (n := 15) rfl ?_
        refine g_getf hc 5 rfl vw_0 inX0 1 (by decide) k_fl_RX2_65 rfl rfl dX2_boardsWithCards_15 (n := 18) rfl ?_
        refine n_if_eq hc (by omega) dX2_boardsWithCards_18 (tgt := 24) (by decide) (n := 21) rfl (fun c_22 => ?_) (fun c_22 => ?_)
        · skip
          refine n_iinc (v := 4) (zk := 1) (lv2 := [(0, .ref t0), (1, .int (nI 2)), (2, .int (nI 4))]) hc 2 rfl (by decide) rfl (by decide) [1, 2, 0] rfl rfl dX2_boardsWithCards_24 (n := 27) rfl ?_
          refine g_goto (n := 4) hc dX2_boardsWithCards_27 (by decide) ?_
          refine g_iload_n hc 2 rfl rfl dX2_boardsWithCards_4 (n := 5) rfl ?_
          refine g_iconst (v := nI 4) hc (by decide) dX2_boardsWithCards_5 (n := 6) rfl ?_
          refine n_icmp_ge hc (by omega) (by omega) dX2_boardsWithCards_6 (tgt := 30) (by decide) (n := 9) rfl (fun c_23 => ?_) (fun c_23 => by (exfalso; revert c_23; first | omega | decide))
          refine g_iload_n hc 1 rfl rfl dX2_boardsWithCards_30 (n := 31) rfl ?_
          refine hret.1 _ _ _ _ _ _ rfl (by decide) (by decide) dX2_boardsWithCards_31 ?_
          exact ⟨_, rfl, (congrArg nI (show 2 = sm e 4 from by show 2 = 0 + e 0 + e 1 + e 2 + e 3; omega)), rfl⟩
        · skip
          refine n_iinc (v := 3) (zk := 1) (lv2 := [(0, .ref t0), (1, .int (nI 3)), (2, .int (nI 3))]) hc 1 rfl (by decide) rfl (by decide) [1, 0, 2] rfl rfl dX2_boardsWithCards_21 (n := 24) rfl ?_
          refine n_iinc (v := 4) (zk := 1) (lv2 := [(0, .ref t0), (1, .int (nI 3)), (2, .int (nI 4))]) hc 2 rfl (by decide) rfl (by decide) [1, 2, 0] rfl rfl dX2_boardsWithCards_24 (n := 27) rfl ?_
          refine g_goto (n := 4) hc dX2_boardsWithCards_27 (by decide) ?_
          refine g_iload_n hc 2 rfl rfl dX2_boardsWithCards_4 (n := 5) rfl ?_
          refine g_iconst (v := nI 4) hc (by decide) dX2_boardsWithCards_5 (n := 6) rfl ?_
          refine n_icmp_ge hc (by omega) (by omega) dX2_boardsWithCards_6 (tgt := 30) (by decide) (n := 9) rfl (fun c_24 => ?_) (fun c_24 => by (exfalso; revert c_24; first | omega | decide))
          refine g_iload_n hc 1 rfl rfl dX2_boardsWithCards_30 (n := 31) rfl ?_
          refine hret.1 _ _ _ _ _ _ rfl (by decide) (by decide) dX2_boardsWithCards_31 ?_
          exact ⟨_, rfl, (congrArg nI (show 3 = sm e 4 from by show 3 = 0 + e 0 + e 1 + e 2 + e 3; omega)), rfl⟩
  · skip
    refine n_iinc (v := 1) (zk := 1) (lv2 := [(0, .ref t0), (1, .int (nI 1)), (2, .int (nI 0))]) hc 1 rfl (by decide) rfl (by decide) [1, 0, 2] rfl rfl dX2_boardsWithCards_21 (n := 24) rfl ?_
    refine n_iinc (v := 1) (zk := 1) (lv2 := [(0, .ref t0), (1, .int (nI 1)), (2, .int (nI 1))]) hc 2 rfl (by decide) rfl (by decide) [1, 2, 0] rfl rfl dX2_boardsWithCards_24 (n := 27) rfl ?_
    refine g_goto (n := 4) hc dX2_boardsWithCards_27 (by decide) ?_
    refine g_iload_n hc 2 rfl rfl dX2_boardsWithCards_4 (n := 5) rfl ?_
    refine g_iconst (v := nI 4) hc (by decide) dX2_boardsWithCards_5 (n := 6) rfl ?_
    refine n_icmp_ge hc (by omega) (by omega) dX2_boardsWithCards_6 (tgt := 30) (by decide) (n := 9) rfl (fun c_25 => by (exfalso; revert c_25; first | omega | decide)) (fun c_25 => ?_)
    refine g_aload_n hc 0 rfl rfl dX2_boardsWithCards_9 (n := 10) rfl ?_
    refine g_getf hc 0 rfl vw_2 inX2 3 (by decide) k_fl_RX2_27 rfl rfl dX2_boardsWithCards_10 (n := 13) rfl ?_
    refine g_iload_n hc 2 rfl rfl dX2_boardsWithCards_13 (n := 14) rfl ?_
    refine n_aldB (b := q 7) hc 1 rfl (by omega) (by decide) (rfl) dX2_boardsWithCards_14 (n := 15) rfl ?_
    refine g_getf hc 3 rfl vw_0 inX0 1 (by decide) k_fl_RX2_65 rfl rfl dX2_boardsWithCards_15 (n := 18) rfl ?_
    refine n_if_eq hc (by omega) dX2_boardsWithCards_18 (tgt := 24) (by decide) (n := 21) rfl (fun c_26 => ?_) (fun c_26 => ?_)
    · skip
      refine n_iinc (v := 2) (zk := 1) (lv2 := [(0, .ref t0), (1, .int (nI 1)), (2, .int (nI 2))]) hc 2 rfl (by decide) rfl (by decide) [1, 2, 0] rfl rfl dX2_boardsWithCards_24 (n := 27) rfl ?_
      refine g_goto (n := 4) hc dX2_boardsWithCards_27 (by decide) ?_
      refine g_iload_n hc 2 rfl rfl dX2_boardsWithCards_4 (n := 5) rfl ?_
      refine g_iconst (v := nI 4) hc (by decide) dX2_boardsWithCards_5 (n := 6) rfl ?_
      refine n_icmp_ge hc (by omega) (by omega) dX2_boardsWithCards_6 (tgt := 30) (by decide) (n := 9) rfl (fun c_27 => by (exfalso; revert c_27; first | omega | decide)) (fun c_27 => ?_)
      refine g_aload_n hc 0 rfl rfl dX2_boardsWithCards_9 (n := 10) rfl ?_
      refine g_getf hc 0 rfl vw_2 inX2 3 (by decide) k_fl_RX2_27 rfl rfl dX2_boardsWithCards_10 (n := 13) rfl ?_
      refine g_iload_n hc 2 rfl rfl dX2_boardsWithCards_13 (n := 14) rfl ?_
      refine n_aldB (b := q 9) hc 1 rfl (by omega) (by decide) (rfl) dX2_boardsWithCards_14 (n := 15) rfl ?_
      refine g_getf hc 4 rfl vw_0 inX0 1 (by decide) k_fl_RX2_65 rfl rfl dX2_boardsWithCards_15 (n := 18) rfl ?_
      refine n_if_eq hc (by omega) dX2_boardsWithCards_18 (tgt := 24) (by decide) (n := 21) rfl (fun c_28 => ?_) (fun c_28 => ?_)
      · skip
        refine n_iinc (v := 3) (zk := 1) (lv2 := [(0, .ref t0), (1, .int (nI 1)), (2, .int (nI 3))]) hc 2 rfl (by decide) rfl (by decide) [1, 2, 0] rfl rfl dX2_boardsWithCards_24 (n := 27) rfl ?_
        refine g_goto (n := 4) hc dX2_boardsWithCards_27 (by decide) ?_
        refine g_iload_n hc 2 rfl rfl dX2_boardsWithCards_4 (n := 5) rfl ?_
        refine g_iconst (v := nI 4) hc (by decide) dX2_boardsWithCards_5 (n := 6) rfl ?_
        refine n_icmp_ge hc (by omega) (by omega) dX2_boardsWithCards_6 (tgt := 30) (by decide) (n := 9) rfl (fun c_29 => by (exfalso; revert c_29; first | omega | decide)) (fun c_29 => ?_)
        refine g_aload_n hc 0 rfl rfl dX2_boardsWithCards_9 (n := 10) rfl ?_
        refine g_getf hc 0 rfl vw_2 inX2 3 (by decide) k_fl_RX2_27 rfl rfl dX2_boardsWithCards_10 (n := 13) rfl ?_
        refine g_iload_n hc 2 rfl rfl dX2_boardsWithCards_13 (n := 14) rfl ?_
        refine n_aldB (b := q 11) hc 1 rfl (by omega) (by decide) (rfl) dX2_boardsWithCards_14 (n := 15) rfl ?_
        refine g_getf hc 5 rfl vw_0 inX0 1 (by decide) k_fl_RX2_65 rfl rfl dX2_boardsWithCards_15 (n := 18) rfl ?_
        refine n_if_eq hc (by omega) dX2_boardsWithCards_18 (tgt := 24) (by decide) (n := 21) rfl (fun c_30 => ?_) (fun c_30 => ?_)
        · skip
          refine n_iinc (v := 4) (zk := 1) (lv2 := [(0, .ref t0), (1, .int (nI 1)), (2, .int (nI 4))]) hc 2 rfl (by decide) rfl (by decide) [1, 2, 0] rfl rfl dX2_boardsWithCards_24 (n := 27) rfl ?_
          refine g_goto (n := 4) hc dX2_boardsWithCards_27 (by decide) ?_
          refine g_iload_n hc 2 rfl rfl dX2_boardsWithCards_4 (n := 5) rfl ?_
          refine g_iconst (v := nI 4) hc (by decide) dX2_boardsWithCards_5 (n := 6) rfl ?_
          refine n_icmp_ge hc (by omega) (by omega) dX2_boardsWithCards_6 (tgt := 30) (by decide) (n := 9) rfl (fun c_31 => ?_) (fun c_31 => by (exfalso; revert c_31; first | omega | decide))
          refine g_iload_n hc 1 rfl rfl dX2_boardsWithCards_30 (n := 31) rfl ?_
          refine hret.1 _ _ _ _ _ _ rfl (by decide) (by decide) dX2_boardsWithCards_31 ?_
          exact ⟨_, rfl, (congrArg nI (show 1 = sm e 4 from by show 1 = 0 + e 0 + e 1 + e 2 + e 3; omega)), rfl⟩
        · skip
          refine n_iinc (v := 2) (zk := 1) (lv2 := [(0, .ref t0), (1, .int (nI 2)), (2, .int (nI 3))]) hc 1 rfl (by decide) rfl (by decide) [1, 0, 2] rfl rfl dX2_boardsWithCards_21 (n := 24) rfl ?_
          refine n_iinc (v := 4) (zk := 1) (lv2 := [(0, .ref t0), (1, .int (nI 2)), (2, .int (nI 4))]) hc 2 rfl (by decide) rfl (by decide) [1, 2, 0] rfl rfl dX2_boardsWithCards_24 (n := 27) rfl ?_
          refine g_goto (n := 4) hc dX2_boardsWithCards_27 (by decide) ?_
          refine g_iload_n hc 2 rfl rfl dX2_boardsWithCards_4 (n := 5) rfl ?_
          refine g_iconst (v := nI 4) hc (by decide) dX2_boardsWithCards_5 (n := 6) rfl ?_
          refine n_icmp_ge hc (by omega) (by omega) dX2_boardsWithCards_6 (tgt := 30) (by decide) (n := 9) rfl (fun c_32 => ?_) (fun c_32 => by (exfalso; revert c_32; first | omega | decide))
          refine g_iload_n hc 1 rfl rfl dX2_boardsWithCards_30 (n := 31) rfl ?_
          refine hret.1 _ _ _ _ _ _ rfl (by decide) (by decide) dX2_boardsWithCards_31 ?_
          exact ⟨_, rfl, (congrArg nI (show 2 = sm e 4 from by show 2 = 0 + e 0 + e 1 + e 2 + e 3; omega)), rfl⟩
      · skip
        refine n_iinc (v := 2) (zk := 1) (lv2 := [(0, .ref t0), (1, .int (nI 2)), (2, .int (nI 2))]) hc 1 rfl (by decide) rfl (by decide) [1, 0, 2] rfl rfl dX2_boardsWithCards_21 (n := 24) rfl ?_
        refine n_iinc (v := 3) (zk := 1) (lv2 := [(0, .ref t0), (1, .int (nI 2)), (2, .int (nI 3))]) hc 2 rfl (by decide) rfl (by decide) [1, 2, 0] rfl rfl dX2_boardsWithCards_24 (n := 27) rfl ?_
        refine g_goto (n := 4) hc dX2_boardsWithCards_27 (by decide) ?_
        refine g_iload_n hc 2 rfl rfl dX2_boardsWithCards_4 (n := 5) rfl ?_
        refine g_iconst (v := nI 4) hc (by decide) dX2_boardsWithCards_5 (n := 6) rfl ?_
        refine n_icmp_ge hc (by omega) (by omega) dX2_boardsWithCards_6 (tgt := 30) (by decide) (n := 9) rfl (fun c_33 => by (exfalso; revert c_33; first | omega | decide)) (fun c_33 => ?_)
        refine g_aload_n hc 0 rfl rfl dX2_boardsWithCards_9 (n := 10) rfl ?_
        refine g_getf hc 0 rfl vw_2 inX2 3 (by decide) k_fl_RX2_27 rfl rfl dX2_boardsWithCards_10 (n := 13) rfl ?_
        refine g_iload_n hc 2 rfl rfl dX2_boardsWithCards_13 (n := 14) rfl ?_
        refine n_aldB (b := q 11) hc 1 rfl (by omega) (by decide) (rfl) dX2_boardsWithCards_14 (n := 15) rfl ?_
        refine g_getf hc 5 rfl vw_0 inX0 1 (by decide) k_fl_RX2_65 rfl rfl dX2_boardsWithCards_15 (n := 18) rfl ?_
        refine n_if_eq hc (by omega) dX2_boardsWithCards_18 (tgt := 24) (by decide) (n := 21) rfl (fun c_34 => ?_) (fun c_34 => ?_)
        · skip
          refine n_iinc (v := 4) (zk := 1) (lv2 := [(0, .ref t0), (1, .int (nI 2)), (2, .int (nI 4))]) hc 2 rfl (by decide) rfl (by decide) [1, 2, 0] rfl rfl dX2_boardsWithCards_24 (n := 27) rfl ?_
          refine g_goto (n := 4) hc dX2_boardsWithCards_27 (by decide) ?_
          refine g_iload_n hc 2 rfl rfl dX2_boardsWithCards_4 (n := 5) rfl ?_
          refine g_iconst (v := nI 4) hc (by decide) dX2_boardsWithCards_5 (n := 6) rfl ?_
          refine n_icmp_ge hc (by omega) (by omega) dX2_boardsWithCards_6 (tgt := 30) (by decide) (n := 9) rfl (fun c_35 => ?_) (fun c_35 => by (exfalso; revert c_35; first | omega | decide))
          refine g_iload_n hc 1 rfl rfl dX2_boardsWithCards_30 (n := 31) rfl ?_
          refine hret.1 _ _ _ _ _ _ rfl (by decide) (by decide) dX2_boardsWithCards_31 ?_
          exact ⟨_, rfl, (congrArg nI (show 2 = sm e 4 from by show 2 = 0 + e 0 + e 1 + e 2 + e 3; omega)), rfl⟩
        · skip
          refine n_iinc (v := 3) (zk := 1) (lv2 := [(0, .ref t0), (1, .int (nI 3)), (2, .int (nI 3))]) hc 1 rfl (by decide) rfl (by decide) [1, 0, 2] rfl rfl dX2_boardsWithCards_21 (n := 24) rfl ?_
          refine n_iinc (v := 4) (zk := 1) (lv2 := [(0, .ref t0), (1, .int (nI 3)), (2, .int (nI 4))]) hc 2 rfl (by decide) rfl (by decide) [1, 2, 0] rfl rfl dX2_boardsWithCards_24 (n := 27) rfl ?_
          refine g_goto (n := 4) hc dX2_boardsWithCards_27 (by decide) ?_
          refine g_iload_n hc 2 rfl rfl dX2_boardsWithCards_4 (n := 5) rfl ?_
          refine g_iconst (v := nI 4) hc (by decide) dX2_boardsWithCards_5 (n := 6) rfl ?_
          refine n_icmp_ge hc (by omega) (by omega) dX2_boardsWithCards_6 (tgt := 30) (by decide) (n := 9) rfl (fun c_36 => ?_) (fun c_36 => by (exfalso; revert c_36; first | omega | decide))
          refine g_iload_n hc 1 rfl rfl dX2_boardsWithCards_30 (n := 31) rfl ?_
          refine hret.1 _ _ _ _ _ _ rfl (by decide) (by decide) dX2_boardsWithCards_31 ?_
          exact ⟨_, rfl, (congrArg nI (show 3 = sm e 4 from by show 3 = 0 + e 0 + e 1 + e 2 + e 3; omega)), rfl⟩
    · skip
      refine n_iinc (v := 2) (zk := 1) (lv2 := [(0, .ref t0), (1, .int (nI 2)), (2, .int (nI 1))]) hc 1 rfl (by decide) rfl (by decide) [1, 0, 2] rfl rfl dX2_boardsWithCards_21 (n := 24) rfl ?_
      refine n_iinc (v := 2) (zk := 1) (lv2 := [(0, .ref t0), (1, .int (nI 2)), (2, .int (nI 2))]) hc 2 rfl (by decide) rfl (by decide) [1, 2, 0] rfl rfl dX2_boardsWithCards_24 (n := 27) rfl ?_
      refine g_goto (n := 4) hc dX2_boardsWithCards_27 (by decide) ?_
      refine g_iload_n hc 2 rfl rfl dX2_boardsWithCards_4 (n := 5) rfl ?_
      refine g_iconst (v := nI 4) hc (by decide) dX2_boardsWithCards_5 (n := 6) rfl ?_
      refine n_icmp_ge hc (by omega) (by omega) dX2_boardsWithCards_6 (tgt := 30) (by decide) (n := 9) rfl (fun c_37 => by (exfalso; revert c_37; first | omega | decide)) (fun c_37 => ?_)
      refine g_aload_n hc 0 rfl rfl dX2_boardsWithCards_9 (n := 10) rfl ?_
      refine g_getf hc 0 rfl vw_2 inX2 3 (by decide) k_fl_RX2_27 rfl rfl dX2_boardsWithCards_10 (n := 13) rfl ?_
      refine g_iload_n hc 2 rfl rfl dX2_boardsWithCards_13 (n := 14) rfl ?_
      refine n_aldB (b := q 9) hc 1 rfl (by omega) (by decide) (rfl) dX2_boardsWithCards_14 (n := 15) rfl ?_
      refine g_getf hc 4 rfl vw_0 inX0 1 (by decide) k_fl_RX2_65 rfl rfl dX2_boardsWithCards_15 (n := 18) rfl ?_
      refine n_if_eq hc (by omega) dX2_boardsWithCards_18 (tgt := 24) (by decide) (n := 21) rfl (fun c_38 => ?_) (fun c_38 => ?_)
      · skip
        refine n_iinc (v := 3) (zk := 1) (lv2 := [(0, .ref t0), (1, .int (nI 2)), (2, .int (nI 3))]) hc 2 rfl (by decide) rfl (by decide) [1, 2, 0] rfl rfl dX2_boardsWithCards_24 (n := 27) rfl ?_
        refine g_goto (n := 4) hc dX2_boardsWithCards_27 (by decide) ?_
        refine g_iload_n hc 2 rfl rfl dX2_boardsWithCards_4 (n := 5) rfl ?_
        refine g_iconst (v := nI 4) hc (by decide) dX2_boardsWithCards_5 (n := 6) rfl ?_
        refine n_icmp_ge hc (by omega) (by omega) dX2_boardsWithCards_6 (tgt := 30) (by decide) (n := 9) rfl (fun c_39 => by (exfalso; revert c_39; first | omega | decide)) (fun c_39 => ?_)
        refine g_aload_n hc 0 rfl rfl dX2_boardsWithCards_9 (n := 10) rfl ?_
        refine g_getf hc 0 rfl vw_2 inX2 3 (by decide) k_fl_RX2_27 rfl rfl dX2_boardsWithCards_10 (n := 13) rfl ?_
        refine g_iload_n hc 2 rfl rfl dX2_boardsWithCards_13 (n := 14) rfl ?_
        refine n_aldB (b := q 11) hc 1 rfl (by omega) (by decide) (rfl) dX2_boardsWithCards_14 (n := 15) rfl ?_
        refine g_getf hc 5 rfl vw_0 inX0 1 (by decide) k_fl_RX2_65 rfl rfl dX2_boardsWithCards_15 (n := 18) rfl ?_
        refine n_if_eq hc (by omega) dX2_boardsWithCards_18 (tgt := 24) (by decide) (n := 21) rfl (fun c_40 => ?_) (fun c_40 => ?_)
        · skip
          refine n_iinc (v := 4) (zk := 1) (lv2 := [(0, .ref t0), (1, .int (nI 2)), (2, .int (nI 4))]) hc 2 rfl (by decide) rfl (by decide) [1, 2, 0] rfl rfl dX2_boardsWithCards_24 (n := 27) rfl ?_
          refine g_goto (n := 4) hc dX2_boardsWithCards_27 (by decide) ?_
          refine g_iload_n hc 2 rfl rfl dX2_boardsWithCards_4 (n := 5) rfl ?_
          refine g_iconst (v := nI 4) hc (by decide) dX2_boardsWithCards_5 (n := 6) rfl ?_
          refine n_icmp_ge hc (by omega) (by omega) dX2_boardsWithCards_6 (tgt := 30) (by decide) (n := 9) rfl (fun c_41 => ?_) (fun c_41 => by (exfalso; revert c_41; first | omega | decide))
          refine g_iload_n hc 1 rfl rfl dX2_boardsWithCards_30 (n := 31) rfl ?_
          refine hret.1 _ _ _ _ _ _ rfl (by decide) (by decide) dX2_boardsWithCards_31 ?_
          exact ⟨_, rfl, (congrArg nI (show 2 = sm e 4 from by show 2 = 0 + e 0 + e 1 + e 2 + e 3; omega)), rfl⟩
        · skip
          refine n_iinc (v := 3) (zk := 1) (lv2 := [(0, .ref t0), (1, .int (nI 3)), (2, .int (nI 3))]) hc 1 rfl (by decide) rfl (by decide) [1, 0, 2] rfl rfl dX2_boardsWithCards_21 (n := 24) rfl ?_
          refine n_iinc (v := 4) (zk := 1) (lv2 := [(0, .ref t0), (1, .int (nI 3)), (2, .int (nI 4))]) hc 2 rfl (by decide) rfl (by decide) [1, 2, 0] rfl rfl dX2_boardsWithCards_24 (n := 27) rfl ?_
          refine g_goto (n := 4) hc dX2_boardsWithCards_27 (by decide) ?_
          refine g_iload_n hc 2 rfl rfl dX2_boardsWithCards_4 (n := 5) rfl ?_
          refine g_iconst (v := nI 4) hc (by decide) dX2_boardsWithCards_5 (n := 6) rfl ?_
          refine n_icmp_ge hc (by omega) (by omega) dX2_boardsWithCards_6 (tgt := 30) (by decide) (n := 9) rfl (fun c_42 => ?_) (fun c_42 => by (exfalso; revert c_42; first | omega | decide))
          refine g_iload_n hc 1 rfl rfl dX2_boardsWithCards_30 (n := 31) rfl ?_
          refine hret.1 _ _ _ _ _ _ rfl (by decide) (by decide) dX2_boardsWithCards_31 ?_
          exact ⟨_, rfl, (congrArg nI (show 3 = sm e 4 from by show 3 = 0 + e 0 + e 1 + e 2 + e 3; omega)), rfl⟩
      · skip
        refine n_iinc (v := 3) (zk := 1) (lv2 := [(0, .ref t0), (1, .int (nI 3)), (2, .int (nI 2))]) hc 1 rfl (by decide) rfl (by decide) [1, 0, 2] rfl rfl dX2_boardsWithCards_21 (n := 24) rfl ?_
        refine n_iinc (v := 3) (zk := 1) (lv2 := [(0, .ref t0), (1, .int (nI 3)), (2, .int (nI 3))]) hc 2 rfl (by decide) rfl (by decide) [1, 2, 0] rfl rfl dX2_boardsWithCards_24 (n := 27) rfl ?_
        refine g_goto (n := 4) hc dX2_boardsWithCards_27 (by decide) ?_
        refine g_iload_n hc 2 rfl rfl dX2_boardsWithCards_4 (n := 5) rfl ?_
        refine g_iconst (v := nI 4) hc (by decide) dX2_boardsWithCards_5 (n := 6) rfl ?_
        refine n_icmp_ge hc (by omega) (by omega) dX2_boardsWithCards_6 (tgt := 30) (by decide) (n := 9) rfl (fun c_43 => by (exfalso; revert c_43; first | omega | decide)) (fun c_43 => ?_)
        refine g_aload_n hc 0 rfl rfl dX2_boardsWithCards_9 (n := 10) rfl ?_
        refine g_getf hc 0 rfl vw_2 inX2 3 (by decide) k_fl_RX2_27 rfl rfl dX2_boardsWithCards_10 (n := 13) rfl ?_
        refine g_iload_n hc 2 rfl rfl dX2_boardsWithCards_13 (n := 14) rfl ?_
        refine n_aldB (b := q 11) hc 1 rfl (by omega) (by decide) (rfl) dX2_boardsWithCards_14 (n := 15) rfl ?_
        refine g_getf hc 5 rfl vw_0 inX0 1 (by decide) k_fl_RX2_65 rfl rfl dX2_boardsWithCards_15 (n := 18) rfl ?_
        refine n_if_eq hc (by omega) dX2_boardsWithCards_18 (tgt := 24) (by decide) (n := 21) rfl (fun c_44 => ?_) (fun c_44 => ?_)
        · skip
          refine n_iinc (v := 4) (zk := 1) (lv2 := [(0, .ref t0), (1, .int (nI 3)), (2, .int (nI 4))]) hc 2 rfl (by decide) rfl (by decide) [1, 2, 0] rfl rfl dX2_boardsWithCards_24 (n := 27) rfl ?_
          refine g_goto (n := 4) hc dX2_boardsWithCards_27 (by decide) ?_
          refine g_iload_n hc 2 rfl rfl dX2_boardsWithCards_4 (n := 5) rfl ?_
          refine g_iconst (v := nI 4) hc (by decide) dX2_boardsWithCards_5 (n := 6) rfl ?_
          refine n_icmp_ge hc (by omega) (by omega) dX2_boardsWithCards_6 (tgt := 30) (by decide) (n := 9) rfl (fun c_45 => ?_) (fun c_45 => by (exfalso; revert c_45; first | omega | decide))
          refine g_iload_n hc 1 rfl rfl dX2_boardsWithCards_30 (n := 31) rfl ?_
          refine hret.1 _ _ _ _ _ _ rfl (by decide) (by decide) dX2_boardsWithCards_31 ?_
          exact ⟨_, rfl, (congrArg nI (show 3 = sm e 4 from by show 3 = 0 + e 0 + e 1 + e 2 + e 3; omega)), rfl⟩
        · skip
          refine n_iinc (v := 4) (zk := 1) (lv2 := [(0, .ref t0), (1, .int (nI 4)), (2, .int (nI 3))]) hc 1 rfl (by decide) rfl (by decide) [1, 0, 2] rfl rfl dX2_boardsWithCards_21 (n := 24) rfl ?_
          refine n_iinc (v := 4) (zk := 1) (lv2 := [(0, .ref t0), (1, .int (nI 4)), (2, .int (nI 4))]) hc 2 rfl (by decide) rfl (by decide) [1, 2, 0] rfl rfl dX2_boardsWithCards_24 (n := 27) rfl ?_
          refine g_goto (n := 4) hc dX2_boardsWithCards_27 (by decide) ?_
          refine g_iload_n hc 2 rfl rfl dX2_boardsWithCards_4 (n := 5) rfl ?_
          refine g_iconst (v := nI 4) hc (by decide) dX2_boardsWithCards_5 (n := 6) rfl ?_
          refine n_icmp_ge hc (by omega) (by omega) dX2_boardsWithCards_6 (tgt := 30) (by decide) (n := 9) rfl (fun c_46 => ?_) (fun c_46 => by (exfalso; revert c_46; first | omega | decide))
          refine g_iload_n hc 1 rfl rfl dX2_boardsWithCards_30 (n := 31) rfl ?_
          refine hret.1 _ _ _ _ _ _ rfl (by decide) (by decide) dX2_boardsWithCards_31 ?_
          exact ⟨_, rfl, (congrArg nI (show 4 = sm e 4 from by show 4 = 0 + e 0 + e 1 + e 2 + e 3; omega)), rfl⟩
set_option maxHeartbeats 1000000 in
set_option maxRecDepth 100000 in
theorem c_X2_sealedBoards (κ : Kp) (l : Launch) (t0 : Nat) (t1 : Nat) (t2 : Nat) (t3 : Nat) (t4 : Nat) (tx : Nat) (tc : Nat) (tk : Nat) (ts : Nat) (tg : Nat) (td : Nat) (te : Nat) (q : Nat → Nat) (e : Nat → Nat) (y0 : Nat) (y1 : Nat) (y2 : Nat) (y3 : Nat) (u0 : Nat) (u1 : Nat) (u2 : Nat) (u3 : Nat) (w0 : Nat) (w1 : Nat) (w2 : Nat) (w3 : Nat) (he : ∀ k, k < 4 → e k ≤ 1) : CT κ l yX2_sealedBoards cX2_sealedBoards 3 (some .int) 0 0 0 0 [.ref t0] [(t0, .inr (2, [.ref t1, .ref t2, .ref t3, .ref t4, .int (nI tx), .int (nI tc), .int (nI tk), .int (nI ts), .int (nI tg), .int (nI td), .int (nI te)])), (t4, aB κ 4 (fun k => some (q (5 + 2 * k)))), (q 5, .inr (0, [.ref y0, .int (nI u0), .int (nI (e 0)), .int (nI w0)])), (q 7, .inr (0, [.ref y1, .int (nI u1), .int (nI (e 1)), .int (nI w1)])), (q 9, .inr (0, [.ref y2, .int (nI u2), .int (nI (e 2)), .int (nI w2)])), (q 11, .inr (0, [.ref y3, .int (nI u3), .int (nI (e 3)), .int (nI w3)]))] (PI (fun rr ww => rr = (nI (sm e 4)) ∧ ww = [(t0, .inr (2, [.ref t1, .ref t2, .ref t3, .ref t4, .int (nI tx), .int (nI tc), .int (nI tk), .int (nI ts), .int (nI tg), .int (nI td), .int (nI te)])), (t4, aB κ 4 (fun k => some (q (5 + 2 * k)))), (q 5, .inr (0, [.ref y0, .int (nI u0), .int (nI (e 0)), .int (nI w0)])), (q 7, .inr (0, [.ref y1, .int (nI u1), .int (nI (e 1)), .int (nI w1)])), (q 9, .inr (0, [.ref y2, .int (nI u2), .int (nI (e 2)), .int (nI w2)])), (q 11, .inr (0, [.ref y3, .int (nI u3), .int (nI (e 3)), .int (nI w3)]))])) := by
  refine CT.go (plainFor_of_name (by decide)) (Nat.le_of_ble_eq_true rfl) ?_
  intro Γ A Q hl hc hret
  subst hl
  have hc : Cx κ Γ A cX2_sealedBoards 3 RX2 "sealedBoards" (some .int) { frames := 0, cells := 0, slots := 0, locals := 0 } := hc
  refine g_lv (lv' := [(0, .ref t0)]) rfl ?_
  have he0 := he 0 (by decide)
  have he1 := he 1 (by decide)
  have he2 := he 2 (by decide)
  have he3 := he 3 (by decide)
  refine g_iconst (v := nI 0) hc (by decide) dX2_sealedBoards_0 (n := 1) rfl ?_
  refine g_istore_n (lv2 := [(0, .ref t0), (1, .int (nI 0))]) hc rfl (by decide) [1, 0] rfl rfl dX2_sealedBoards_1 (n := 2) rfl ?_
  refine g_iconst (v := nI 0) hc (by decide) dX2_sealedBoards_2 (n := 3) rfl ?_
  refine g_istore_n (lv2 := [(0, .ref t0), (1, .int (nI 0)), (2, .int (nI 0))]) hc rfl (by decide) [1, 2, 0] rfl rfl dX2_sealedBoards_3 (n := 4) rfl ?_
  refine g_iload_n hc 2 rfl rfl dX2_sealedBoards_4 (n := 5) rfl ?_
  refine g_iconst (v := nI 4) hc (by decide) dX2_sealedBoards_5 (n := 6) rfl ?_
  refine n_icmp_ge hc (by omega) (by omega) dX2_sealedBoards_6 (tgt := 30) (by decide) (n := 9) rfl (fun c_1 => by (exfalso; revert c_1; first | omega | decide)) (fun c_1 => ?_)
  refine g_aload_n hc 0 rfl rfl dX2_sealedBoards_9 (n := 10) rfl ?_
  refine g_getf hc 0 rfl vw_2 inX2 3 (by decide) k_fl_RX2_27 rfl rfl dX2_sealedBoards_10 (n := 13) rfl ?_
  refine g_iload_n hc 2 rfl rfl dX2_sealedBoards_13 (n := 14) rfl ?_
  refine n_aldB (b := q 5) hc 1 rfl (by omega) (by decide) (rfl) dX2_sealedBoards_14 (n := 15) rfl ?_
  refine g_getf hc 2 rfl vw_0 inX0 2 (by decide) k_fl_RX2_68 rfl rfl dX2_sealedBoards_15 (n := 18) rfl ?_
  refine n_if_eq hc (by omega) dX2_sealedBoards_18 (tgt := 24) (by decide) (n := 21) rfl (fun c_2 => ?_) (fun c_2 => ?_)
  · skip
    refine n_iinc (v := 1) (zk := 1) (lv2 := [(0, .ref t0), (1, .int (nI 0)), (2, .int (nI 1))]) hc 2 rfl (by decide) rfl (by decide) [1, 2, 0] rfl rfl dX2_sealedBoards_24 (n := 27) rfl ?_
    refine g_goto (n := 4) hc dX2_sealedBoards_27 (by decide) ?_
    refine g_iload_n hc 2 rfl rfl dX2_sealedBoards_4 (n := 5) rfl ?_
    refine g_iconst (v := nI 4) hc (by decide) dX2_sealedBoards_5 (n := 6) rfl ?_
    refine n_icmp_ge hc (by omega) (by omega) dX2_sealedBoards_6 (tgt := 30) (by decide) (n := 9) rfl (fun c_3 => by (exfalso; revert c_3; first | omega | decide)) (fun c_3 => ?_)
    refine g_aload_n hc 0 rfl rfl dX2_sealedBoards_9 (n := 10) rfl ?_
    refine g_getf hc 0 rfl vw_2 inX2 3 (by decide) k_fl_RX2_27 rfl rfl dX2_sealedBoards_10 (n := 13) rfl ?_
    refine g_iload_n hc 2 rfl rfl dX2_sealedBoards_13 (n := 14) rfl ?_
    refine n_aldB (b := q 7) hc 1 rfl (by omega) (by decide) (rfl) dX2_sealedBoards_14 (n := 15) rfl ?_
    refine g_getf hc 3 rfl vw_0 inX0 2 (by decide) k_fl_RX2_68 rfl rfl dX2_sealedBoards_15 (n := 18) rfl ?_
    refine n_if_eq hc (by omega) dX2_sealedBoards_18 (tgt := 24) (by decide) (n := 21) rfl (fun c_4 => ?_) (fun c_4 => ?_)
    · skip
      refine n_iinc (v := 2) (zk := 1) (lv2 := [(0, .ref t0), (1, .int (nI 0)), (2, .int (nI 2))]) hc 2 rfl (by decide) rfl (by decide) [1, 2, 0] rfl rfl dX2_sealedBoards_24 (n := 27) rfl ?_
      refine g_goto (n := 4) hc dX2_sealedBoards_27 (by decide) ?_
      refine g_iload_n hc 2 rfl rfl dX2_sealedBoards_4 (n := 5) rfl ?_
      refine g_iconst (v := nI 4) hc (by decide) dX2_sealedBoards_5 (n := 6) rfl ?_
      refine n_icmp_ge hc (by omega) (by omega) dX2_sealedBoards_6 (tgt := 30) (by decide) (n := 9) rfl (fun c_5 => by (exfalso; revert c_5; first | omega | decide)) (fun c_5 => ?_)
      refine g_aload_n hc 0 rfl rfl dX2_sealedBoards_9 (n := 10) rfl ?_
      refine g_getf hc 0 rfl vw_2 inX2 3 (by decide) k_fl_RX2_27 rfl rfl dX2_sealedBoards_10 (n := 13) rfl ?_
      refine g_iload_n hc 2 rfl rfl dX2_sealedBoards_13 (n := 14) rfl ?_
      refine n_aldB (b := q 9) hc 1 rfl (by omega) (by decide) (rfl) dX2_sealedBoards_14 (n := 15) rfl ?_
      refine g_getf hc 4 rfl vw_0 inX0 2 (by decide) k_fl_RX2_68 rfl rfl dX2_sealedBoards_15 (n := 18) rfl ?_
      refine n_if_eq hc (by omega) dX2_sealedBoards_18 (tgt := 24) (by decide) (n := 21) rfl (fun c_6 => ?_) (fun c_6 => ?_)
      · skip
        refine n_iinc (v := 3) (zk := 1) (lv2 := [(0, .ref t0), (1, .int (nI 0)), (2, .int (nI 3))]) hc 2 rfl (by decide) rfl (by decide) [1, 2, 0] rfl rfl dX2_sealedBoards_24 (n := 27) rfl ?_
        refine g_goto (n := 4) hc dX2_sealedBoards_27 (by decide) ?_
        refine g_iload_n hc 2 rfl rfl dX2_sealedBoards_4 (n := 5) rfl ?_
        refine g_iconst (v := nI 4) hc (by decide) dX2_sealedBoards_5 (n := 6) rfl ?_
        refine n_icmp_ge hc (by omega) (by omega) dX2_sealedBoards_6 (tgt := 30) (by decide) (n := 9) rfl (fun c_7 => by (exfalso; revert c_7; first | omega | decide)) (fun c_7 => ?_)
        refine g_aload_n hc 0 rfl rfl dX2_sealedBoards_9 (n := 10) rfl ?_
        refine g_getf hc 0 rfl vw_2 inX2 3 (by decide) k_fl_RX2_27 rfl rfl dX2_sealedBoards_10 (n := 13) rfl ?_
        refine g_iload_n hc 2 rfl rfl dX2_sealedBoards_13 (n := 14) rfl ?_
        refine n_aldB (b := q 11) hc 1 rfl (by omega) (by decide) (rfl) dX2_sealedBoards_14 (n := 15) rfl ?_
        refine g_getf hc 5 rfl vw_0 inX0 2 (by decide) k_fl_RX2_68 rfl rfl dX2_sealedBoards_15 (n := 18) rfl ?_
        refine n_if_eq hc (by omega) dX2_sealedBoards_18 (tgt := 24) (by decide) (n := 21) rfl (fun c_8 => ?_) (fun c_8 => ?_)
        · skip
          refine n_iinc (v := 4) (zk := 1) (lv2 := [(0, .ref t0), (1, .int (nI 0)), (2, .int (nI 4))]) hc 2 rfl (by decide) rfl (by decide) [1, 2, 0] rfl rfl dX2_sealedBoards_24 (n := 27) rfl ?_
          refine g_goto (n := 4) hc dX2_sealedBoards_27 (by decide) ?_
          refine g_iload_n hc 2 rfl rfl dX2_sealedBoards_4 (n := 5) rfl ?_
          refine g_iconst (v := nI 4) hc (by decide) dX2_sealedBoards_5 (n := 6) rfl ?_
          refine n_icmp_ge hc (by omega) (by omega) dX2_sealedBoards_6 (tgt := 30) (by decide) (n := 9) rfl (fun c_9 => ?_) (fun c_9 => by (exfalso; revert c_9; first | omega | decide))
          refine g_iload_n hc 1 rfl rfl dX2_sealedBoards_30 (n := 31) rfl ?_
          refine hret.1 _ _ _ _ _ _ rfl (by decide) (by decide) dX2_sealedBoards_31 ?_
          exact ⟨_, rfl, (congrArg nI (show 0 = sm e 4 from by show 0 = 0 + e 0 + e 1 + e 2 + e 3; omega)), rfl⟩
        · skip
          refine n_iinc (v := 1) (zk := 1) (lv2 := [(0, .ref t0), (1, .int (nI 1)), (2, .int (nI 3))]) hc 1 rfl (by decide) rfl (by decide) [1, 0, 2] rfl rfl dX2_sealedBoards_21 (n := 24) rfl ?_
          refine n_iinc (v := 4) (zk := 1) (lv2 := [(0, .ref t0), (1, .int (nI 1)), (2, .int (nI 4))]) hc 2 rfl (by decide) rfl (by decide) [1, 2, 0] rfl rfl dX2_sealedBoards_24 (n := 27) rfl ?_
          refine g_goto (n := 4) hc dX2_sealedBoards_27 (by decide) ?_
          refine g_iload_n hc 2 rfl rfl dX2_sealedBoards_4 (n := 5) rfl ?_
          refine g_iconst (v := nI 4) hc (by decide) dX2_sealedBoards_5 (n := 6) rfl ?_
          refine n_icmp_ge hc (by omega) (by omega) dX2_sealedBoards_6 (tgt := 30) (by decide) (n := 9) rfl (fun c_10 => ?_) (fun c_10 => by (exfalso; revert c_10; first | omega | decide))
          refine g_iload_n hc 1 rfl rfl dX2_sealedBoards_30 (n := 31) rfl ?_
          refine hret.1 _ _ _ _ _ _ rfl (by decide) (by decide) dX2_sealedBoards_31 ?_
          exact ⟨_, rfl, (congrArg nI (show 1 = sm e 4 from by show 1 = 0 + e 0 + e 1 + e 2 + e 3; omega)), rfl⟩
      · skip
        refine n_iinc (v := 1) (zk := 1) (lv2 := [(0, .ref t0), (1, .int (nI 1)), (2, .int (nI 2))]) hc 1 rfl (by decide) rfl (by decide) [1, 0, 2] rfl rfl dX2_sealedBoards_21 (n := 24) rfl ?_
        refine n_iinc (v := 3) (zk := 1) (lv2 := [(0, .ref t0), (1, .int (nI 1)), (2, .int (nI 3))]) hc 2 rfl (by decide) rfl (by decide) [1, 2, 0] rfl rfl dX2_sealedBoards_24 (n := 27) rfl ?_
        refine g_goto (n := 4) hc dX2_sealedBoards_27 (by decide) ?_
        refine g_iload_n hc 2 rfl rfl dX2_sealedBoards_4 (n := 5) rfl ?_
        refine g_iconst (v := nI 4) hc (by decide) dX2_sealedBoards_5 (n := 6) rfl ?_
        refine n_icmp_ge hc (by omega) (by omega) dX2_sealedBoards_6 (tgt := 30) (by decide) (n := 9) rfl (fun c_11 => by (exfalso; revert c_11; first | omega | decide)) (fun c_11 => ?_)
        refine g_aload_n hc 0 rfl rfl dX2_sealedBoards_9 (n := 10) rfl ?_
        refine g_getf hc 0 rfl vw_2 inX2 3 (by decide) k_fl_RX2_27 rfl rfl dX2_sealedBoards_10 (n := 13) rfl ?_
        refine g_iload_n hc 2 rfl rfl dX2_sealedBoards_13 (n := 14) rfl ?_
        refine n_aldB (b := q 11) hc 1 rfl (by omega) (by decide) (rfl) dX2_sealedBoards_14 (n := 15) rfl ?_
        refine g_getf hc 5 rfl vw_0 inX0 2 (by decide) k_fl_RX2_68 rfl rfl dX2_sealedBoards_15 (n := 18) rfl ?_
        refine n_if_eq hc (by omega) dX2_sealedBoards_18 (tgt := 24) (by decide) (n := 21) rfl (fun c_12 => ?_) (fun c_12 => ?_)
        · skip
          refine n_iinc (v := 4) (zk := 1) (lv2 := [(0, .ref t0), (1, .int (nI 1)), (2, .int (nI 4))]) hc 2 rfl (by decide) rfl (by decide) [1, 2, 0] rfl rfl dX2_sealedBoards_24 (n := 27) rfl ?_
          refine g_goto (n := 4) hc dX2_sealedBoards_27 (by decide) ?_
          refine g_iload_n hc 2 rfl rfl dX2_sealedBoards_4 (n := 5) rfl ?_
          refine g_iconst (v := nI 4) hc (by decide) dX2_sealedBoards_5 (n := 6) rfl ?_
          refine n_icmp_ge hc (by omega) (by omega) dX2_sealedBoards_6 (tgt := 30) (by decide) (n := 9) rfl (fun c_13 => ?_) (fun c_13 => by (exfalso; revert c_13; first | omega | decide))
          refine g_iload_n hc 1 rfl rfl dX2_sealedBoards_30 (n := 31) rfl ?_
          refine hret.1 _ _ _ _ _ _ rfl (by decide) (by decide) dX2_sealedBoards_31 ?_
          exact ⟨_, rfl, (congrArg nI (show 1 = sm e 4 from by show 1 = 0 + e 0 + e 1 + e 2 + e 3; omega)), rfl⟩
        · skip
          refine n_iinc (v := 2) (zk := 1) (lv2 := [(0, .ref t0), (1, .int (nI 2)), (2, .int (nI 3))]) hc 1 rfl (by decide) rfl (by decide) [1, 0, 2] rfl rfl dX2_sealedBoards_21 (n := 24) rfl ?_
          refine n_iinc (v := 4) (zk := 1) (lv2 := [(0, .ref t0), (1, .int (nI 2)), (2, .int (nI 4))]) hc 2 rfl (by decide) rfl (by decide) [1, 2, 0] rfl rfl dX2_sealedBoards_24 (n := 27) rfl ?_
          refine g_goto (n := 4) hc dX2_sealedBoards_27 (by decide) ?_
          refine g_iload_n hc 2 rfl rfl dX2_sealedBoards_4 (n := 5) rfl ?_
          refine g_iconst (v := nI 4) hc (by decide) dX2_sealedBoards_5 (n := 6) rfl ?_
          refine n_icmp_ge hc (by omega) (by omega) dX2_sealedBoards_6 (tgt := 30) (by decide) (n := 9) rfl (fun c_14 => ?_) (fun c_14 => by (exfalso; revert c_14; first | omega | decide))
          refine g_iload_n hc 1 rfl rfl dX2_sealedBoards_30 (n := 31) rfl ?_
          refine hret.1 _ _ _ _ _ _ rfl (by decide) (by decide) dX2_sealedBoards_31 ?_
          exact ⟨_, rfl, (congrArg nI (show 2 = sm e 4 from by show 2 = 0 + e 0 + e 1 + e 2 + e 3; omega)), rfl⟩
    · skip
      refine n_iinc (v := 1) (zk := 1) (lv2 := [(0, .ref t0), (1, .int (nI 1)), (2, .int (nI 1))]) hc 1 rfl (by decide) rfl (by decide) [1, 0, 2] rfl rfl dX2_sealedBoards_21 (n := 24) rfl ?_
      refine n_iinc (v := 2) (zk := 1) (lv2 := [(0, .ref t0), (1, .int (nI 1)), (2, .int (nI 2))]) hc 2 rfl (by decide) rfl (by decide) [1, 2, 0] rfl rfl dX2_sealedBoards_24 (n := 27) rfl ?_
      refine g_goto (n := 4) hc dX2_sealedBoards_27 (by decide) ?_
      refine g_iload_n hc 2 rfl rfl dX2_sealedBoards_4 (n := 5) rfl ?_
      refine g_iconst (v := nI 4) hc (by decide) dX2_sealedBoards_5 (n := 6) rfl ?_
      refine n_icmp_ge hc (by omega) (by omega) dX2_sealedBoards_6 (tgt := 30) (by decide) (n := 9) rfl (fun c_15 => by (exfalso; revert c_15; first | omega | decide)) (fun c_15 => ?_)
      refine g_aload_n hc 0 rfl rfl dX2_sealedBoards_9 (n := 10) rfl ?_
      refine g_getf hc 0 rfl vw_2 inX2 3 (by decide) k_fl_RX2_27 rfl rfl dX2_sealedBoards_10 (n := 13) rfl ?_
      refine g_iload_n hc 2 rfl rfl dX2_sealedBoards_13 (n := 14) rfl ?_
      refine n_aldB (b := q 9) hc 1 rfl (by omega) (by decide) (rfl) dX2_sealedBoards_14 (n := 15) rfl ?_
      refine g_getf hc 4 rfl vw_0 inX0 2 (by decide) k_fl_RX2_68 rfl rfl dX2_sealedBoards_15 (n := 18) rfl ?_
      refine n_if_eq hc (by omega) dX2_sealedBoards_18 (tgt := 24) (by decide) (n := 21) rfl (fun c_16 => ?_) (fun c_16 => ?_)
      · skip
        refine n_iinc (v := 3) (zk := 1) (lv2 := [(0, .ref t0), (1, .int (nI 1)), (2, .int (nI 3))]) hc 2 rfl (by decide) rfl (by decide) [1, 2, 0] rfl rfl dX2_sealedBoards_24 (n := 27) rfl ?_
        refine g_goto (n := 4) hc dX2_sealedBoards_27 (by decide) ?_
        refine g_iload_n hc 2 rfl rfl dX2_sealedBoards_4 (n := 5) rfl ?_
        refine g_iconst (v := nI 4) hc (by decide) dX2_sealedBoards_5 (n := 6) rfl ?_
        refine n_icmp_ge hc (by omega) (by omega) dX2_sealedBoards_6 (tgt := 30) (by decide) (n := 9) rfl (fun c_17 => by (exfalso; revert c_17; first | omega | decide)) (fun c_17 => ?_)
        refine g_aload_n hc 0 rfl rfl dX2_sealedBoards_9 (n := 10) rfl ?_
        refine g_getf hc 0 rfl vw_2 inX2 3 (by decide) k_fl_RX2_27 rfl rfl dX2_sealedBoards_10 (n := 13) rfl ?_
        refine g_iload_n hc 2 rfl rfl dX2_sealedBoards_13 (n := 14) rfl ?_
        refine n_aldB (b := q 11) hc 1 rfl (by omega) (by decide) (rfl) dX2_sealedBoards_14 (n := 15) rfl ?_
        refine g_getf hc 5 rfl vw_0 inX0 2 (by decide) k_fl_RX2_68 rfl rfl dX2_sealedBoards_15 (n := 18) rfl ?_
        refine n_if_eq hc (by omega) dX2_sealedBoards_18 (tgt := 24) (by decide) (n := 21) rfl (fun c_18 => ?_) (fun c_18 => ?_)
        · skip
          refine n_iinc (v := 4) (zk := 1) (lv2 := [(0, .ref t0), (1, .int (nI 1)), (2, .int (nI 4))]) hc 2 rfl (by decide) rfl (by decide) [1, 2, 0] rfl rfl dX2_sealedBoards_24 (n := 27) rfl ?_
          refine g_goto (n := 4) hc dX2_sealedBoards_27 (by decide) ?_
          refine g_iload_n hc 2 rfl rfl dX2_sealedBoards_4 (n := 5) rfl ?_
          refine g_iconst (v := nI 4) hc (by decide) dX2_sealedBoards_5 (n := 6) rfl ?_
          refine n_icmp_ge hc (by omega) (by omega) dX2_sealedBoards_6 (tgt := 30) (by decide) (n := 9) rfl (fun c_19 => ?_) (fun c_19 => by (exfalso; revert c_19; first | omega | decide))
          refine g_iload_n hc 1 rfl rfl dX2_sealedBoards_30 (n := 31) rfl ?_
          refine hret.1 _ _ _ _ _ _ rfl (by decide) (by decide) dX2_sealedBoards_31 ?_
          exact ⟨_, rfl, (congrArg nI (show 1 = sm e 4 from by show 1 = 0 + e 0 + e 1 + e 2 + e 3; omega)), rfl⟩
        · skip
          refine n_iinc (v := 2) (zk := 1) (lv2 := [(0, .ref t0), (1, .int (nI 2)), (2, .int (nI 3))]) hc 1 rfl (by decide) rfl (by decide) [1, 0, 2] rfl rfl dX2_sealedBoards_21 (n := 24) rfl ?_
          refine n_iinc (v := 4) (zk := 1) (lv2 := [(0, .ref t0), (1, .int (nI 2)), (2, .int (nI 4))]) hc 2 rfl (by decide) rfl (by decide) [1, 2, 0] rfl rfl dX2_sealedBoards_24 (n := 27) rfl ?_
          refine g_goto (n := 4) hc dX2_sealedBoards_27 (by decide) ?_
          refine g_iload_n hc 2 rfl rfl dX2_sealedBoards_4 (n := 5) rfl ?_
          refine g_iconst (v := nI 4) hc (by decide) dX2_sealedBoards_5 (n := 6) rfl ?_
          refine n_icmp_ge hc (by omega) (by omega) dX2_sealedBoards_6 (tgt := 30) (by decide) (n := 9) rfl (fun c_20 => ?_) (fun c_20 => by (exfalso; revert c_20; first | omega | decide))
          refine g_iload_n hc 1 rfl rfl dX2_sealedBoards_30 (n := 31) rfl ?_
          refine hret.1 _ _ _ _ _ _ rfl (by decide) (by decide) dX2_sealedBoards_31 ?_
          exact ⟨_, rfl, (congrArg nI (show 2 = sm e 4 from by show 2 = 0 + e 0 + e 1 + e 2 + e 3; omega)), rfl⟩
      · skip
        refine n_iinc (v := 2) (zk := 1) (lv2 := [(0, .ref t0), (1, .int (nI 2)), (2, .int (nI 2))]) hc 1 rfl (by decide) rfl (by decide) [1, 0, 2] rfl rfl dX2_sealedBoards_21 (n := 24) rfl ?_
        refine n_iinc (v := 3) (zk := 1) (lv2 := [(0, .ref t0), (1, .int (nI 2)), (2, .int (nI 3))]) hc 2 rfl (by decide) rfl (by decide) [1, 2, 0] rfl rfl dX2_sealedBoards_24 (n := 27) rfl ?_
        refine g_goto (n := 4) hc dX2_sealedBoards_27 (by decide) ?_
        refine g_iload_n hc 2 rfl rfl dX2_sealedBoards_4 (n := 5) rfl ?_
        refine g_iconst (v := nI 4) hc (by decide) dX2_sealedBoards_5 (n := 6) rfl ?_
        refine n_icmp_ge hc (by omega) (by omega) dX2_sealedBoards_6 (tgt := 30) (by decide) (n := 9) rfl (fun c_21 => by (exfalso; revert c_21; first | omega | decide)) (fun c_21 => ?_)
        refine g_aload_n hc 0 rfl rfl dX2_sealedBoards_9 (n := 10) rfl ?_
        refine g_getf hc 0 rfl vw_2 inX2 3 (by decide) k_fl_RX2_27 rfl rfl dX2_sealedBoards_10 (n := 13) rfl ?_
        refine g_iload_n hc 2 rfl rfl dX2_sealedBoards_13 (n := 14) rfl ?_
        refine n_aldB (b := q 11) hc 1 rfl (by omega) (by decide) (rfl) dX2_sealedBoards_14 (n := 15) rfl ?_
        refine g_getf hc 5 rfl vw_0 inX0 2 (by decide) k_fl_RX2_68 rfl rfl dX2_sealedBoards_15 (n := 18) rfl ?_
        refine n_if_eq hc (by omega) dX2_sealedBoards_18 (tgt := 24) (by decide) (n := 21) rfl (fun c_22 => ?_) (fun c_22 => ?_)
        · skip
          refine n_iinc (v := 4) (zk := 1) (lv2 := [(0, .ref t0), (1, .int (nI 2)), (2, .int (nI 4))]) hc 2 rfl (by decide) rfl (by decide) [1, 2, 0] rfl rfl dX2_sealedBoards_24 (n := 27) rfl ?_
          refine g_goto (n := 4) hc dX2_sealedBoards_27 (by decide) ?_
          refine g_iload_n hc 2 rfl rfl dX2_sealedBoards_4 (n := 5) rfl ?_
          refine g_iconst (v := nI 4) hc (by decide) dX2_sealedBoards_5 (n := 6) rfl ?_
          refine n_icmp_ge hc (by omega) (by omega) dX2_sealedBoards_6 (tgt := 30) (by decide) (n := 9) rfl (fun c_23 => ?_) (fun c_23 => by (exfalso; revert c_23; first | omega | decide))
          refine g_iload_n hc 1 rfl rfl dX2_sealedBoards_30 (n := 31) rfl ?_
          refine hret.1 _ _ _ _ _ _ rfl (by decide) (by decide) dX2_sealedBoards_31 ?_
          exact ⟨_, rfl, (congrArg nI (show 2 = sm e 4 from by show 2 = 0 + e 0 + e 1 + e 2 + e 3; omega)), rfl⟩
        · skip
          refine n_iinc (v := 3) (zk := 1) (lv2 := [(0, .ref t0), (1, .int (nI 3)), (2, .int (nI 3))]) hc 1 rfl (by decide) rfl (by decide) [1, 0, 2] rfl rfl dX2_sealedBoards_21 (n := 24) rfl ?_
          refine n_iinc (v := 4) (zk := 1) (lv2 := [(0, .ref t0), (1, .int (nI 3)), (2, .int (nI 4))]) hc 2 rfl (by decide) rfl (by decide) [1, 2, 0] rfl rfl dX2_sealedBoards_24 (n := 27) rfl ?_
          refine g_goto (n := 4) hc dX2_sealedBoards_27 (by decide) ?_
          refine g_iload_n hc 2 rfl rfl dX2_sealedBoards_4 (n := 5) rfl ?_
          refine g_iconst (v := nI 4) hc (by decide) dX2_sealedBoards_5 (n := 6) rfl ?_
          refine n_icmp_ge hc (by omega) (by omega) dX2_sealedBoards_6 (tgt := 30) (by decide) (n := 9) rfl (fun c_24 => ?_) (fun c_24 => by (exfalso; revert c_24; first | omega | decide))
          refine g_iload_n hc 1 rfl rfl dX2_sealedBoards_30 (n := 31) rfl ?_
          refine hret.1 _ _ _ _ _ _ rfl (by decide) (by decide) dX2_sealedBoards_31 ?_
          exact ⟨_, rfl, (congrArg nI (show 3 = sm e 4 from by show 3 = 0 + e 0 + e 1 + e 2 + e 3; omega)), rfl⟩
  · skip
    refine n_iinc (v := 1) (zk := 1) (lv2 := [(0, .ref t0), (1, .int (nI 1)), (2, .int (nI 0))]) hc 1 rfl (by decide) rfl (by decide) [1, 0, 2] rfl rfl dX2_sealedBoards_21 (n := 24) rfl ?_
    refine n_iinc (v := 1) (zk := 1) (lv2 := [(0, .ref t0), (1, .int (nI 1)), (2, .int (nI 1))]) hc 2 rfl (by decide) rfl (by decide) [1, 2, 0] rfl rfl dX2_sealedBoards_24 (n := 27) rfl ?_
    refine g_goto (n := 4) hc dX2_sealedBoards_27 (by decide) ?_
    refine g_iload_n hc 2 rfl rfl dX2_sealedBoards_4 (n := 5) rfl ?_
    refine g_iconst (v := nI 4) hc (by decide) dX2_sealedBoards_5 (n := 6) rfl ?_
    refine n_icmp_ge hc (by omega) (by omega) dX2_sealedBoards_6 (tgt := 30) (by decide) (n := 9) rfl (fun c_25 => by (exfalso; revert c_25; first | omega | decide)) (fun c_25 => ?_)
    refine g_aload_n hc 0 rfl rfl dX2_sealedBoards_9 (n := 10) rfl ?_
    refine g_getf hc 0 rfl vw_2 inX2 3 (by decide) k_fl_RX2_27 rfl rfl dX2_sealedBoards_10 (n := 13) rfl ?_
    refine g_iload_n hc 2 rfl rfl dX2_sealedBoards_13 (n := 14) rfl ?_
    refine n_aldB (b := q 7) hc 1 rfl (by omega) (by decide) (rfl) dX2_sealedBoards_14 (n := 15) rfl ?_
    refine g_getf hc 3 rfl vw_0 inX0 2 (by decide) k_fl_RX2_68 rfl rfl dX2_sealedBoards_15 (n := 18) rfl ?_
    refine n_if_eq hc (by omega) dX2_sealedBoards_18 (tgt := 24) (by decide) (n := 21) rfl (fun c_26 => ?_) (fun c_26 => ?_)
    · skip
      refine n_iinc (v := 2) (zk := 1) (lv2 := [(0, .ref t0), (1, .int (nI 1)), (2, .int (nI 2))]) hc 2 rfl (by decide) rfl (by decide) [1, 2, 0] rfl rfl dX2_sealedBoards_24 (n := 27) rfl ?_
      refine g_goto (n := 4) hc dX2_sealedBoards_27 (by decide) ?_
      refine g_iload_n hc 2 rfl rfl dX2_sealedBoards_4 (n := 5) rfl ?_
      refine g_iconst (v := nI 4) hc (by decide) dX2_sealedBoards_5 (n := 6) rfl ?_
      refine n_icmp_ge hc (by omega) (by omega) dX2_sealedBoards_6 (tgt := 30) (by decide) (n := 9) rfl (fun c_27 => by (exfalso; revert c_27; first | omega | decide)) (fun c_27 => ?_)
      refine g_aload_n hc 0 rfl rfl dX2_sealedBoards_9 (n := 10) rfl ?_
      refine g_getf hc 0 rfl vw_2 inX2 3 (by decide) k_fl_RX2_27 rfl rfl dX2_sealedBoards_10 (n := 13) rfl ?_
      refine g_iload_n hc 2 rfl rfl dX2_sealedBoards_13 (n := 14) rfl ?_
      refine n_aldB (b := q 9) hc 1 rfl (by omega) (by decide) (rfl) dX2_sealedBoards_14 (n := 15) rfl ?_
      refine g_getf hc 4 rfl vw_0 inX0 2 (by decide) k_fl_RX2_68 rfl rfl dX2_sealedBoards_15 (n := 18) rfl ?_
      refine n_if_eq hc (by omega) dX2_sealedBoards_18 (tgt := 24) (by decide) (n := 21) rfl (fun c_28 => ?_) (fun c_28 => ?_)
      · skip
        refine n_iinc (v := 3) (zk := 1) (lv2 := [(0, .ref t0), (1, .int (nI 1)), (2, .int (nI 3))]) hc 2 rfl (by decide) rfl (by decide) [1, 2, 0] rfl rfl dX2_sealedBoards_24 (n := 27) rfl ?_
        refine g_goto (n := 4) hc dX2_sealedBoards_27 (by decide) ?_
        refine g_iload_n hc 2 rfl rfl dX2_sealedBoards_4 (n := 5) rfl ?_
        refine g_iconst (v := nI 4) hc (by decide) dX2_sealedBoards_5 (n := 6) rfl ?_
        refine n_icmp_ge hc (by omega) (by omega) dX2_sealedBoards_6 (tgt := 30) (by decide) (n := 9) rfl (fun c_29 => by (exfalso; revert c_29; first | omega | decide)) (fun c_29 => ?_)
        refine g_aload_n hc 0 rfl rfl dX2_sealedBoards_9 (n := 10) rfl ?_
        refine g_getf hc 0 rfl vw_2 inX2 3 (by decide) k_fl_RX2_27 rfl rfl dX2_sealedBoards_10 (n := 13) rfl ?_
        refine g_iload_n hc 2 rfl rfl dX2_sealedBoards_13 (n := 14) rfl ?_
        refine n_aldB (b := q 11) hc 1 rfl (by omega) (by decide) (rfl) dX2_sealedBoards_14 (n := 15) rfl ?_
        refine g_getf hc 5 rfl vw_0 inX0 2 (by decide) k_fl_RX2_68 rfl rfl dX2_sealedBoards_15 (n := 18) rfl ?_
        refine n_if_eq hc (by omega) dX2_sealedBoards_18 (tgt := 24) (by decide) (n := 21) rfl (fun c_30 => ?_) (fun c_30 => ?_)
        · skip
          refine n_iinc (v := 4) (zk := 1) (lv2 := [(0, .ref t0), (1, .int (nI 1)), (2, .int (nI 4))]) hc 2 rfl (by decide) rfl (by decide) [1, 2, 0] rfl rfl dX2_sealedBoards_24 (n := 27) rfl ?_
          refine g_goto (n := 4) hc dX2_sealedBoards_27 (by decide) ?_
          refine g_iload_n hc 2 rfl rfl dX2_sealedBoards_4 (n := 5) rfl ?_
          refine g_iconst (v := nI 4) hc (by decide) dX2_sealedBoards_5 (n := 6) rfl ?_
          refine n_icmp_ge hc (by omega) (by omega) dX2_sealedBoards_6 (tgt := 30) (by decide) (n := 9) rfl (fun c_31 => ?_) (fun c_31 => by (exfalso; revert c_31; first | omega | decide))
          refine g_iload_n hc 1 rfl rfl dX2_sealedBoards_30 (n := 31) rfl ?_
          refine hret.1 _ _ _ _ _ _ rfl (by decide) (by decide) dX2_sealedBoards_31 ?_
          exact ⟨_, rfl, (congrArg nI (show 1 = sm e 4 from by show 1 = 0 + e 0 + e 1 + e 2 + e 3; omega)), rfl⟩
        · skip
          refine n_iinc (v := 2) (zk := 1) (lv2 := [(0, .ref t0), (1, .int (nI 2)), (2, .int (nI 3))]) hc 1 rfl (by decide) rfl (by decide) [1, 0, 2] rfl rfl dX2_sealedBoards_21 (n := 24) rfl ?_
          refine n_iinc (v := 4) (zk := 1) (lv2 := [(0, .ref t0), (1, .int (nI 2)), (2, .int (nI 4))]) hc 2 rfl (by decide) rfl (by decide) [1, 2, 0] rfl rfl dX2_sealedBoards_24 (n := 27) rfl ?_
          refine g_goto (n := 4) hc dX2_sealedBoards_27 (by decide) ?_
          refine g_iload_n hc 2 rfl rfl dX2_sealedBoards_4 (n := 5) rfl ?_
          refine g_iconst (v := nI 4) hc (by decide) dX2_sealedBoards_5 (n := 6) rfl ?_
          refine n_icmp_ge hc (by omega) (by omega) dX2_sealedBoards_6 (tgt := 30) (by decide) (n := 9) rfl (fun c_32 => ?_) (fun c_32 => by (exfalso; revert c_32; first | omega | decide))
          refine g_iload_n hc 1 rfl rfl dX2_sealedBoards_30 (n := 31) rfl ?_
          refine hret.1 _ _ _ _ _ _ rfl (by decide) (by decide) dX2_sealedBoards_31 ?_
          exact ⟨_, rfl, (congrArg nI (show 2 = sm e 4 from by show 2 = 0 + e 0 + e 1 + e 2 + e 3; omega)), rfl⟩
      · skip
        refine n_iinc (v := 2) (zk := 1) (lv2 := [(0, .ref t0), (1, .int (nI 2)), (2, .int (nI 2))]) hc 1 rfl (by decide) rfl (by decide) [1, 0, 2] rfl rfl dX2_sealedBoards_21 (n := 24) rfl ?_
        refine n_iinc (v := 3) (zk := 1) (lv2 := [(0, .ref t0), (1, .int (nI 2)), (2, .int (nI 3))]) hc 2 rfl (by decide) rfl (by decide) [1, 2, 0] rfl rfl dX2_sealedBoards_24 (n := 27) rfl ?_
        refine g_goto (n := 4) hc dX2_sealedBoards_27 (by decide) ?_
        refine g_iload_n hc 2 rfl rfl dX2_sealedBoards_4 (n := 5) rfl ?_
        refine g_iconst (v := nI 4) hc (by decide) dX2_sealedBoards_5 (n := 6) rfl ?_
        refine n_icmp_ge hc (by omega) (by omega) dX2_sealedBoards_6 (tgt := 30) (by decide) (n := 9) rfl (fun c_33 => by (exfalso; revert c_33; first | omega | decide)) (fun c_33 => ?_)
        refine g_aload_n hc 0 rfl rfl dX2_sealedBoards_9 (n := 10) rfl ?_
        refine g_getf hc 0 rfl vw_2 inX2 3 (by decide) k_fl_RX2_27 rfl rfl dX2_sealedBoards_10 (n := 13) rfl ?_
        refine g_iload_n hc 2 rfl rfl dX2_sealedBoards_13 (n := 14) rfl ?_
        refine n_aldB (b := q 11) hc 1 rfl (by omega) (by decide) (rfl) dX2_sealedBoards_14 (n := 15) rfl ?_
        refine g_getf hc 5 rfl vw_0 inX0 2 (by decide) k_fl_RX2_68 rfl rfl dX2_sealedBoards_15 (n := 18) rfl ?_
        refine n_if_eq hc (by omega) dX2_sealedBoards_18 (tgt := 24) (by decide) (n := 21) rfl (fun c_34 => ?_) (fun c_34 => ?_)
        · skip
          refine n_iinc (v := 4) (zk := 1) (lv2 := [(0, .ref t0), (1, .int (nI 2)), (2, .int (nI 4))]) hc 2 rfl (by decide) rfl (by decide) [1, 2, 0] rfl rfl dX2_sealedBoards_24 (n := 27) rfl ?_
          refine g_goto (n := 4) hc dX2_sealedBoards_27 (by decide) ?_
          refine g_iload_n hc 2 rfl rfl dX2_sealedBoards_4 (n := 5) rfl ?_
          refine g_iconst (v := nI 4) hc (by decide) dX2_sealedBoards_5 (n := 6) rfl ?_
          refine n_icmp_ge hc (by omega) (by omega) dX2_sealedBoards_6 (tgt := 30) (by decide) (n := 9) rfl (fun c_35 => ?_) (fun c_35 => by (exfalso; revert c_35; first | omega | decide))
          refine g_iload_n hc 1 rfl rfl dX2_sealedBoards_30 (n := 31) rfl ?_
          refine hret.1 _ _ _ _ _ _ rfl (by decide) (by decide) dX2_sealedBoards_31 ?_
          exact ⟨_, rfl, (congrArg nI (show 2 = sm e 4 from by show 2 = 0 + e 0 + e 1 + e 2 + e 3; omega)), rfl⟩
        · skip
          refine n_iinc (v := 3) (zk := 1) (lv2 := [(0, .ref t0), (1, .int (nI 3)), (2, .int (nI 3))]) hc 1 rfl (by decide) rfl (by decide) [1, 0, 2] rfl rfl dX2_sealedBoards_21 (n := 24) rfl ?_
          refine n_iinc (v := 4) (zk := 1) (lv2 := [(0, .ref t0), (1, .int (nI 3)), (2, .int (nI 4))]) hc 2 rfl (by decide) rfl (by decide) [1, 2, 0] rfl rfl dX2_sealedBoards_24 (n := 27) rfl ?_
          refine g_goto (n := 4) hc dX2_sealedBoards_27 (by decide) ?_
          refine g_iload_n hc 2 rfl rfl dX2_sealedBoards_4 (n := 5) rfl ?_
          refine g_iconst (v := nI 4) hc (by decide) dX2_sealedBoards_5 (n := 6) rfl ?_
          refine n_icmp_ge hc (by omega) (by omega) dX2_sealedBoards_6 (tgt := 30) (by decide) (n := 9) rfl (fun c_36 => ?_) (fun c_36 => by (exfalso; revert c_36; first | omega | decide))
          refine g_iload_n hc 1 rfl rfl dX2_sealedBoards_30 (n := 31) rfl ?_
          refine hret.1 _ _ _ _ _ _ rfl (by decide) (by decide) dX2_sealedBoards_31 ?_
          exact ⟨_, rfl, (congrArg nI (show 3 = sm e 4 from by show 3 = 0 + e 0 + e 1 + e 2 + e 3; omega)), rfl⟩
    · skip
      refine n_iinc (v := 2) (zk := 1) (lv2 := [(0, .ref t0), (1, .int (nI 2)), (2, .int (nI 1))]) hc 1 rfl (by decide) rfl (by decide) [1, 0, 2] rfl rfl dX2_sealedBoards_21 (n := 24) rfl ?_
      refine n_iinc (v := 2) (zk := 1) (lv2 := [(0, .ref t0), (1, .int (nI 2)), (2, .int (nI 2))]) hc 2 rfl (by decide) rfl (by decide) [1, 2, 0] rfl rfl dX2_sealedBoards_24 (n := 27) rfl ?_
      refine g_goto (n := 4) hc dX2_sealedBoards_27 (by decide) ?_
      refine g_iload_n hc 2 rfl rfl dX2_sealedBoards_4 (n := 5) rfl ?_
      refine g_iconst (v := nI 4) hc (by decide) dX2_sealedBoards_5 (n := 6) rfl ?_
      refine n_icmp_ge hc (by omega) (by omega) dX2_sealedBoards_6 (tgt := 30) (by decide) (n := 9) rfl (fun c_37 => by (exfalso; revert c_37; first | omega | decide)) (fun c_37 => ?_)
      refine g_aload_n hc 0 rfl rfl dX2_sealedBoards_9 (n := 10) rfl ?_
      refine g_getf hc 0 rfl vw_2 inX2 3 (by decide) k_fl_RX2_27 rfl rfl dX2_sealedBoards_10 (n := 13) rfl ?_
      refine g_iload_n hc 2 rfl rfl dX2_sealedBoards_13 (n := 14) rfl ?_
      refine n_aldB (b := q 9) hc 1 rfl (by omega) (by decide) (rfl) dX2_sealedBoards_14 (n := 15) rfl ?_
      refine g_getf hc 4 rfl vw_0 inX0 2 (by decide) k_fl_RX2_68 rfl rfl dX2_sealedBoards_15 (n := 18) rfl ?_
      refine n_if_eq hc (by omega) dX2_sealedBoards_18 (tgt := 24) (by decide) (n := 21) rfl (fun c_38 => ?_) (fun c_38 => ?_)
      · skip
        refine n_iinc (v := 3) (zk := 1) (lv2 := [(0, .ref t0), (1, .int (nI 2)), (2, .int (nI 3))]) hc 2 rfl (by decide) rfl (by decide) [1, 2, 0] rfl rfl dX2_sealedBoards_24 (n := 27) rfl ?_
        refine g_goto (n := 4) hc dX2_sealedBoards_27 (by decide) ?_
        refine g_iload_n hc 2 rfl rfl dX2_sealedBoards_4 (n := 5) rfl ?_
        refine g_iconst (v := nI 4) hc (by decide) dX2_sealedBoards_5 (n := 6) rfl ?_
        refine n_icmp_ge hc (by omega) (by omega) dX2_sealedBoards_6 (tgt := 30) (by decide) (n := 9) rfl (fun c_39 => by (exfalso; revert c_39; first | omega | decide)) (fun c_39 => ?_)
        refine g_aload_n hc 0 rfl rfl dX2_sealedBoards_9 (n := 10) rfl ?_
        refine g_getf hc 0 rfl vw_2 inX2 3 (by decide) k_fl_RX2_27 rfl rfl dX2_sealedBoards_10 (n := 13) rfl ?_
        refine g_iload_n hc 2 rfl rfl dX2_sealedBoards_13 (n := 14) rfl ?_
        refine n_aldB (b := q 11) hc 1 rfl (by omega) (by decide) (rfl) dX2_sealedBoards_14 (n := 15) rfl ?_
        refine g_getf hc 5 rfl vw_0 inX0 2 (by decide) k_fl_RX2_68 rfl rfl dX2_sealedBoards_15 (n := 18) rfl ?_
        refine n_if_eq hc (by omega) dX2_sealedBoards_18 (tgt := 24) (by decide) (n := 21) rfl (fun c_40 => ?_) (fun c_40 => ?_)
        · skip
          refine n_iinc (v := 4) (zk := 1) (lv2 := [(0, .ref t0), (1, .int (nI 2)), (2, .int (nI 4))]) hc 2 rfl (by decide) rfl (by decide) [1, 2, 0] rfl rfl dX2_sealedBoards_24 (n := 27) rfl ?_
          refine g_goto (n := 4) hc dX2_sealedBoards_27 (by decide) ?_
          refine g_iload_n hc 2 rfl rfl dX2_sealedBoards_4 (n := 5) rfl ?_
          refine g_iconst (v := nI 4) hc (by decide) dX2_sealedBoards_5 (n := 6) rfl ?_
          refine n_icmp_ge hc (by omega) (by omega) dX2_sealedBoards_6 (tgt := 30) (by decide) (n := 9) rfl (fun c_41 => ?_) (fun c_41 => by (exfalso; revert c_41; first | omega | decide))
          refine g_iload_n hc 1 rfl rfl dX2_sealedBoards_30 (n := 31) rfl ?_
          refine hret.1 _ _ _ _ _ _ rfl (by decide) (by decide) dX2_sealedBoards_31 ?_
          exact ⟨_, rfl, (congrArg nI (show 2 = sm e 4 from by show 2 = 0 + e 0 + e 1 + e 2 + e 3; omega)), rfl⟩
        · skip
          refine n_iinc (v := 3) (zk := 1) (lv2 := [(0, .ref t0), (1, .int (nI 3)), (2, .int (nI 3))]) hc 1 rfl (by decide) rfl (by decide) [1, 0, 2] rfl rfl dX2_sealedBoards_21 (n := 24) rfl ?_
          refine n_iinc (v := 4) (zk := 1) (lv2 := [(0, .ref t0), (1, .int (nI 3)), (2, .int (nI 4))]) hc 2 rfl (by decide) rfl (by decide) [1, 2, 0] rfl rfl dX2_sealedBoards_24 (n := 27) rfl ?_
          refine g_goto (n := 4) hc dX2_sealedBoards_27 (by decide) ?_
          refine g_iload_n hc 2 rfl rfl dX2_sealedBoards_4 (n := 5) rfl ?_
          refine g_iconst (v := nI 4) hc (by decide) dX2_sealedBoards_5 (n := 6) rfl ?_
          refine n_icmp_ge hc (by omega) (by omega) dX2_sealedBoards_6 (tgt := 30) (by decide) (n := 9) rfl (fun c_42 => ?_) (fun c_42 => by (exfalso; revert c_42; first | omega | decide))
          refine g_iload_n hc 1 rfl rfl dX2_sealedBoards_30 (n := 31) rfl ?_
          refine hret.1 _ _ _ _ _ _ rfl (by decide) (by decide) dX2_sealedBoards_31 ?_
          exact ⟨_, rfl, (congrArg nI (show 3 = sm e 4 from by show 3 = 0 + e 0 + e 1 + e 2 + e 3; omega)), rfl⟩
      · skip
        refine n_iinc (v := 3) (zk := 1) (lv2 := [(0, .ref t0), (1, .int (nI 3)), (2, .int (nI 2))]) hc 1 rfl (by decide) rfl (by decide) [1, 0, 2] rfl rfl dX2_sealedBoards_21 (n := 24) rfl ?_
        refine n_iinc (v := 3) (zk := 1) (lv2 := [(0, .ref t0), (1, .int (nI 3)), (2, .int (nI 3))]) hc 2 rfl (by decide) rfl (by decide) [1, 2, 0] rfl rfl dX2_sealedBoards_24 (n := 27) rfl ?_
        refine g_goto (n := 4) hc dX2_sealedBoards_27 (by decide) ?_
        refine g_iload_n hc 2 rfl rfl dX2_sealedBoards_4 (n := 5) rfl ?_
        refine g_iconst (v := nI 4) hc (by decide) dX2_sealedBoards_5 (n := 6) rfl ?_
        refine n_icmp_ge hc (by omega) (by omega) dX2_sealedBoards_6 (tgt := 30) (by decide) (n := 9) rfl (fun c_43 => by (exfalso; revert c_43; first | omega | decide)) (fun c_43 => ?_)
        refine g_aload_n hc 0 rfl rfl dX2_sealedBoards_9 (n := 10) rfl ?_
        refine g_getf hc 0 rfl vw_2 inX2 3 (by decide) k_fl_RX2_27 rfl rfl dX2_sealedBoards_10 (n := 13) rfl ?_
        refine g_iload_n hc 2 rfl rfl dX2_sealedBoards_13 (n := 14) rfl ?_
        refine n_aldB (b := q 11) hc 1 rfl (by omega) (by decide) (rfl) dX2_sealedBoards_14 (n := 15) rfl ?_
        refine g_getf hc 5 rfl vw_0 inX0 2 (by decide) k_fl_RX2_68 rfl rfl dX2_sealedBoards_15 (n := 18) rfl ?_
        refine n_if_eq hc (by omega) dX2_sealedBoards_18 (tgt := 24) (by decide) (n := 21) rfl (fun c_44 => ?_) (fun c_44 => ?_)
        · skip
          refine n_iinc (v := 4) (zk := 1) (lv2 := [(0, .ref t0), (1, .int (nI 3)), (2, .int (nI 4))]) hc 2 rfl (by decide) rfl (by decide) [1, 2, 0] rfl rfl dX2_sealedBoards_24 (n := 27) rfl ?_
          refine g_goto (n := 4) hc dX2_sealedBoards_27 (by decide) ?_
          refine g_iload_n hc 2 rfl rfl dX2_sealedBoards_4 (n := 5) rfl ?_
          refine g_iconst (v := nI 4) hc (by decide) dX2_sealedBoards_5 (n := 6) rfl ?_
          refine n_icmp_ge hc (by omega) (by omega) dX2_sealedBoards_6 (tgt := 30) (by decide) (n := 9) rfl (fun c_45 => ?_) (fun c_45 => by (exfalso; revert c_45; first | omega | decide))
          refine g_iload_n hc 1 rfl rfl dX2_sealedBoards_30 (n := 31) rfl ?_
          refine hret.1 _ _ _ _ _ _ rfl (by decide) (by decide) dX2_sealedBoards_31 ?_
          exact ⟨_, rfl, (congrArg nI (show 3 = sm e 4 from by show 3 = 0 + e 0 + e 1 + e 2 + e 3; omega)), rfl⟩
        · skip
          refine n_iinc (v := 4) (zk := 1) (lv2 := [(0, .ref t0), (1, .int (nI 4)), (2, .int (nI 3))]) hc 1 rfl (by decide) rfl (by decide) [1, 0, 2] rfl rfl dX2_sealedBoards_21 (n := 24) rfl ?_
          refine n_iinc (v := 4) (zk := 1) (lv2 := [(0, .ref t0), (1, .int (nI 4)), (2, .int (nI 4))]) hc 2 rfl (by decide) rfl (by decide) [1, 2, 0] rfl rfl dX2_sealedBoards_24 (n := 27) rfl ?_
          refine g_goto (n := 4) hc dX2_sealedBoards_27 (by decide) ?_
          refine g_iload_n hc 2 rfl rfl dX2_sealedBoards_4 (n := 5) rfl ?_
          refine g_iconst (v := nI 4) hc (by decide) dX2_sealedBoards_5 (n := 6) rfl ?_
          refine n_icmp_ge hc (by omega) (by omega) dX2_sealedBoards_6 (tgt := 30) (by decide) (n := 9) rfl (fun c_46 => ?_) (fun c_46 => by (exfalso; revert c_46; first | omega | decide))
          refine g_iload_n hc 1 rfl rfl dX2_sealedBoards_30 (n := 31) rfl ?_
          refine hret.1 _ _ _ _ _ _ rfl (by decide) (by decide) dX2_sealedBoards_31 ?_
          exact ⟨_, rfl, (congrArg nI (show 4 = sm e 4 from by show 4 = 0 + e 0 + e 1 + e 2 + e 3; omega)), rfl⟩
set_option maxHeartbeats 1000000 in
set_option maxRecDepth 100000 in
theorem c_X2_copyFrom (κ : Kp) (l : Launch) (q : Nat → Nat) (z : Nat → Nat) (q2 : Nat → Nat) (z2 : Nat → Nat) (hzb : ∀ k, k < 52 → z2 (52 + k) ≤ 1) (hzf : ∀ k, k < 8 → z2 (312 + k) ≤ 1) (hzc : z2 327 ≤ 1) : CT κ l yX2_copyFrom cX2_copyFrom 3 none 2 61 0 0 [.ref (q 0), .ref (q2 0)] [(q 0, .inr (2, [.ref (q 1), .ref (q 2), .ref (q 3), .ref (q 4), .int (nI (z 326)), .int (nI (z 327)), .int (nI (z 328)), .int (nI (z 329)), .int (nI (z 330)), .int (nI (z 331)), .int (nI (z 332))])), (q 1, aI κ 2 (fun k => z (324 + k))), (q 2, aI κ 52 z), (q 3, aZ κ 52 (fun k => z (52 + k))), (q 4, aB κ 4 (fun k => some (q (5 + 2 * k)))), (q 5, .inr (0, [.ref (q 6), .int (nI (z 312)), .int (nI (z 316)), .int (nI (z 320))])), (q 6, aI κ 52 (fun k => z (104 + k))), (q 7, .inr (0, [.ref (q 8), .int (nI (z 313)), .int (nI (z 317)), .int (nI (z 321))])), (q 8, aI κ 52 (fun k => z (156 + k))), (q 9, .inr (0, [.ref (q 10), .int (nI (z 314)), .int (nI (z 318)), .int (nI (z 322))])), (q 10, aI κ 52 (fun k => z (208 + k))), (q 11, .inr (0, [.ref (q 12), .int (nI (z 315)), .int (nI (z 319)), .int (nI (z 323))])), (q 12, aI κ 52 (fun k => z (260 + k))), (q2 0, .inr (2, [.ref (q2 1), .ref (q2 2), .ref (q2 3), .ref (q2 4), .int (nI (z2 326)), .int (nI (z2 327)), .int (nI (z2 328)), .int (nI (z2 329)), .int (nI (z2 330)), .int (nI (z2 331)), .int (nI (z2 332))])), (q2 1, aI κ 2 (fun k => z2 (324 + k))), (q2 2, aI κ 52 z2), (q2 3, aZ κ 52 (fun k => z2 (52 + k))), (q2 4, aB κ 4 (fun k => some (q2 (5 + 2 * k)))), (q2 5, .inr (0, [.ref (q2 6), .int (nI (z2 312)), .int (nI (z2 316)), .int (nI (z2 320))])), (q2 6, aI κ 52 (fun k => z2 (104 + k))), (q2 7, .inr (0, [.ref (q2 8), .int (nI (z2 313)), .int (nI (z2 317)), .int (nI (z2 321))])), (q2 8, aI κ 52 (fun k => z2 (156 + k))), (q2 9, .inr (0, [.ref (q2 10), .int (nI (z2 314)), .int (nI (z2 318)), .int (nI (z2 322))])), (q2 10, aI κ 52 (fun k => z2 (208 + k))), (q2 11, .inr (0, [.ref (q2 12), .int (nI (z2 315)), .int (nI (z2 319)), .int (nI (z2 323))])), (q2 12, aI κ 52 (fun k => z2 (260 + k)))] (PV (fun ww => ww = [(q 0, .inr (2, [.ref (q 1), .ref (q 2), .ref (q 3), .ref (q 4), .int (nI (z2 326)), .int (nI (z2 327)), .int (nI (z2 328)), .int (nI (z2 329)), .int (nI (z2 330)), .int (nI (z2 331)), .int (nI (z2 332))])), (q 1, aI κ 2 (fun k => z2 (324 + k))), (q 2, aI κ 52 z2), (q 3, aZ κ 52 (fun k => z2 (52 + k))), (q 4, aB κ 4 (fun k => some (q (5 + 2 * k)))), (q 5, .inr (0, [.ref (q 6), .int (nI (z2 312)), .int (nI (z2 316)), .int (nI (z2 320))])), (q 6, aI κ 52 (fun k => z2 (104 + k))), (q 7, .inr (0, [.ref (q 8), .int (nI (z2 313)), .int (nI (z2 317)), .int (nI (z2 321))])), (q 8, aI κ 52 (fun k => z2 (156 + k))), (q 9, .inr (0, [.ref (q 10), .int (nI (z2 314)), .int (nI (z2 318)), .int (nI (z2 322))])), (q 10, aI κ 52 (fun k => z2 (208 + k))), (q 11, .inr (0, [.ref (q 12), .int (nI (z2 315)), .int (nI (z2 319)), .int (nI (z2 323))])), (q 12, aI κ 52 (fun k => z2 (260 + k))), (q2 0, .inr (2, [.ref (q2 1), .ref (q2 2), .ref (q2 3), .ref (q2 4), .int (nI (z2 326)), .int (nI (z2 327)), .int (nI (z2 328)), .int (nI (z2 329)), .int (nI (z2 330)), .int (nI (z2 331)), .int (nI (z2 332))])), (q2 1, aI κ 2 (fun k => z2 (324 + k))), (q2 2, aI κ 52 z2), (q2 3, aZ κ 52 (fun k => z2 (52 + k))), (q2 4, aB κ 4 (fun k => some (q2 (5 + 2 * k)))), (q2 5, .inr (0, [.ref (q2 6), .int (nI (z2 312)), .int (nI (z2 316)), .int (nI (z2 320))])), (q2 6, aI κ 52 (fun k => z2 (104 + k))), (q2 7, .inr (0, [.ref (q2 8), .int (nI (z2 313)), .int (nI (z2 317)), .int (nI (z2 321))])), (q2 8, aI κ 52 (fun k => z2 (156 + k))), (q2 9, .inr (0, [.ref (q2 10), .int (nI (z2 314)), .int (nI (z2 318)), .int (nI (z2 322))])), (q2 10, aI κ 52 (fun k => z2 (208 + k))), (q2 11, .inr (0, [.ref (q2 12), .int (nI (z2 315)), .int (nI (z2 319)), .int (nI (z2 323))])), (q2 12, aI κ 52 (fun k => z2 (260 + k)))])) := by
  refine CT.go (plainFor_of_name (by decide)) (Nat.le_of_ble_eq_true rfl) ?_
  intro Γ A Q hl hc hret
  subst hl
  have hc : Cx κ Γ A cX2_copyFrom 3 RX2 "copyFrom" none { frames := 2, cells := 0, slots := 0, locals := 61 } := hc
  refine g_lv (lv' := [(0, .ref (q 0)), (1, .ref (q2 0))]) rfl ?_
  refine g_aload_n hc 1 rfl rfl dX2_copyFrom_0 (n := 1) rfl ?_
  refine g_getf hc 13 rfl vw_2 inX2 0 (by decide) k_fl_RX2_9 rfl rfl dX2_copyFrom_1 (n := 4) rfl ?_
  refine g_iconst (v := nI 0) hc (by decide) dX2_copyFrom_4 (n := 5) rfl ?_
  refine g_aload_n hc 0 rfl rfl dX2_copyFrom_5 (n := 6) rfl ?_
  refine g_getf hc 0 rfl vw_2 inX2 0 (by decide) k_fl_RX2_9 rfl rfl dX2_copyFrom_6 (n := 9) rfl ?_
  refine g_iconst (v := nI 0) hc (by decide) dX2_copyFrom_9 (n := 10) rfl ?_
  refine g_iconst (v := nI 2) hc (by decide) dX2_copyFrom_10 (n := 11) rfl ?_
  refine n_copy (ws' := [(q 0, .inr (2, [.ref (q 1), .ref (q 2), .ref (q 3), .ref (q 4), .int (nI (z 326)), .int (nI (z 327)), .int (nI (z 328)), .int (nI (z 329)), .int (nI (z 330)), .int (nI (z 331)), .int (nI (z 332))])), (q 1, aI κ 2 (va_cpy (fun k => z2 (324 + k)) (fun k => z (324 + k)) 0 0 2)), (q 2, aI κ 52 z), (q 3, aZ κ 52 (fun k => z (52 + k))), (q 4, aB κ 4 (fun k => some (q (5 + 2 * k)))), (q 5, .inr (0, [.ref (q 6), .int (nI (z 312)), .int (nI (z 316)), .int (nI (z 320))])), (q 6, aI κ 52 (fun k => z (104 + k))), (q 7, .inr (0, [.ref (q 8), .int (nI (z 313)), .int (nI (z 317)), .int (nI (z 321))])), (q 8, aI κ 52 (fun k => z (156 + k))), (q 9, .inr (0, [.ref (q 10), .int (nI (z 314)), .int (nI (z 318)), .int (nI (z 322))])), (q 10, aI κ 52 (fun k => z (208 + k))), (q 11, .inr (0, [.ref (q 12), .int (nI (z 315)), .int (nI (z 319)), .int (nI (z 323))])), (q 12, aI κ 52 (fun k => z (260 + k))), (q2 0, .inr (2, [.ref (q2 1), .ref (q2 2), .ref (q2 3), .ref (q2 4), .int (nI (z2 326)), .int (nI (z2 327)), .int (nI (z2 328)), .int (nI (z2 329)), .int (nI (z2 330)), .int (nI (z2 331)), .int (nI (z2 332))])), (q2 1, aI κ 2 (fun k => z2 (324 + k))), (q2 2, aI κ 52 z2), (q2 3, aZ κ 52 (fun k => z2 (52 + k))), (q2 4, aB κ 4 (fun k => some (q2 (5 + 2 * k)))), (q2 5, .inr (0, [.ref (q2 6), .int (nI (z2 312)), .int (nI (z2 316)), .int (nI (z2 320))])), (q2 6, aI κ 52 (fun k => z2 (104 + k))), (q2 7, .inr (0, [.ref (q2 8), .int (nI (z2 313)), .int (nI (z2 317)), .int (nI (z2 321))])), (q2 8, aI κ 52 (fun k => z2 (156 + k))), (q2 9, .inr (0, [.ref (q2 10), .int (nI (z2 314)), .int (nI (z2 318)), .int (nI (z2 322))])), (q2 10, aI κ 52 (fun k => z2 (208 + k))), (q2 11, .inr (0, [.ref (q2 12), .int (nI (z2 315)), .int (nI (z2 319)), .int (nI (z2 323))])), (q2 12, aI κ 52 (fun k => z2 (260 + k)))]) (f := fun k => z2 (324 + k)) (g := fun k => z (324 + k)) hc 14 1 0 rfl rfl rfl rfl (by omega) (by omega) (by decide) (by decide) (fun _ _ => rfl) k_ml_RX2_39 ⟨by decide, Nat.le_of_ble_eq_true rfl⟩ rfl dX2_copyFrom_11 (n := 14) rfl ?_
  refine g_aload_n hc 1 rfl rfl dX2_copyFrom_14 (n := 15) rfl ?_
  refine g_getf hc 13 rfl vw_2 inX2 1 (by decide) k_fl_RX2_18 rfl rfl dX2_copyFrom_15 (n := 18) rfl ?_
  refine g_iconst (v := nI 0) hc (by decide) dX2_copyFrom_18 (n := 19) rfl ?_
  refine g_aload_n hc 0 rfl rfl dX2_copyFrom_19 (n := 20) rfl ?_
  refine g_getf hc 0 rfl vw_2 inX2 1 (by decide) k_fl_RX2_18 rfl rfl dX2_copyFrom_20 (n := 23) rfl ?_
  refine g_iconst (v := nI 0) hc (by decide) dX2_copyFrom_23 (n := 24) rfl ?_
  refine g_bipush (v := nI 52) hc (by decide) dX2_copyFrom_24 (n := 26) rfl ?_
  refine n_copy (ws' := [(q 0, .inr (2, [.ref (q 1), .ref (q 2), .ref (q 3), .ref (q 4), .int (nI (z 326)), .int (nI (z 327)), .int (nI (z 328)), .int (nI (z 329)), .int (nI (z 330)), .int (nI (z 331)), .int (nI (z 332))])), (q 1, aI κ 2 (va_cpy (fun k => z2 (324 + k)) (fun k => z (324 + k)) 0 0 2)), (q 2, aI κ 52 (va_cpy z2 z 0 0 52)), (q 3, aZ κ 52 (fun k => z (52 + k))), (q 4, aB κ 4 (fun k => some (q (5 + 2 * k)))), (q 5, .inr (0, [.ref (q 6), .int (nI (z 312)), .int (nI (z 316)), .int (nI (z 320))])), (q 6, aI κ 52 (fun k => z (104 + k))), (q 7, .inr (0, [.ref (q 8), .int (nI (z 313)), .int (nI (z 317)), .int (nI (z 321))])), (q 8, aI κ 52 (fun k => z (156 + k))), (q 9, .inr (0, [.ref (q 10), .int (nI (z 314)), .int (nI (z 318)), .int (nI (z 322))])), (q 10, aI κ 52 (fun k => z (208 + k))), (q 11, .inr (0, [.ref (q 12), .int (nI (z 315)), .int (nI (z 319)), .int (nI (z 323))])), (q 12, aI κ 52 (fun k => z (260 + k))), (q2 0, .inr (2, [.ref (q2 1), .ref (q2 2), .ref (q2 3), .ref (q2 4), .int (nI (z2 326)), .int (nI (z2 327)), .int (nI (z2 328)), .int (nI (z2 329)), .int (nI (z2 330)), .int (nI (z2 331)), .int (nI (z2 332))])), (q2 1, aI κ 2 (fun k => z2 (324 + k))), (q2 2, aI κ 52 z2), (q2 3, aZ κ 52 (fun k => z2 (52 + k))), (q2 4, aB κ 4 (fun k => some (q2 (5 + 2 * k)))), (q2 5, .inr (0, [.ref (q2 6), .int (nI (z2 312)), .int (nI (z2 316)), .int (nI (z2 320))])), (q2 6, aI κ 52 (fun k => z2 (104 + k))), (q2 7, .inr (0, [.ref (q2 8), .int (nI (z2 313)), .int (nI (z2 317)), .int (nI (z2 321))])), (q2 8, aI κ 52 (fun k => z2 (156 + k))), (q2 9, .inr (0, [.ref (q2 10), .int (nI (z2 314)), .int (nI (z2 318)), .int (nI (z2 322))])), (q2 10, aI κ 52 (fun k => z2 (208 + k))), (q2 11, .inr (0, [.ref (q2 12), .int (nI (z2 315)), .int (nI (z2 319)), .int (nI (z2 323))])), (q2 12, aI κ 52 (fun k => z2 (260 + k)))]) (f := z2) (g := z) hc 15 2 0 rfl rfl rfl rfl (by omega) (by omega) (by decide) (by decide) (fun _ _ => rfl) k_ml_RX2_39 ⟨by decide, Nat.le_of_ble_eq_true rfl⟩ rfl dX2_copyFrom_26 (n := 29) rfl ?_
  refine g_aload_n hc 1 rfl rfl dX2_copyFrom_29 (n := 30) rfl ?_
  refine g_getf hc 13 rfl vw_2 inX2 2 (by decide) k_fl_RX2_21 rfl rfl dX2_copyFrom_30 (n := 33) rfl ?_
  refine g_iconst (v := nI 0) hc (by decide) dX2_copyFrom_33 (n := 34) rfl ?_
  refine g_aload_n hc 0 rfl rfl dX2_copyFrom_34 (n := 35) rfl ?_
  refine g_getf hc 0 rfl vw_2 inX2 2 (by decide) k_fl_RX2_21 rfl rfl dX2_copyFrom_35 (n := 38) rfl ?_
  refine g_iconst (v := nI 0) hc (by decide) dX2_copyFrom_38 (n := 39) rfl ?_
  refine g_bipush (v := nI 52) hc (by decide) dX2_copyFrom_39 (n := 41) rfl ?_
  refine n_copy (ws' := [(q 0, .inr (2, [.ref (q 1), .ref (q 2), .ref (q 3), .ref (q 4), .int (nI (z 326)), .int (nI (z 327)), .int (nI (z 328)), .int (nI (z 329)), .int (nI (z 330)), .int (nI (z 331)), .int (nI (z 332))])), (q 1, aI κ 2 (va_cpy (fun k => z2 (324 + k)) (fun k => z (324 + k)) 0 0 2)), (q 2, aI κ 52 (va_cpy z2 z 0 0 52)), (q 3, aZ κ 52 (va_cpy (fun k => z2 (52 + k)) (fun k => z (52 + k)) 0 0 52)), (q 4, aB κ 4 (fun k => some (q (5 + 2 * k)))), (q 5, .inr (0, [.ref (q 6), .int (nI (z 312)), .int (nI (z 316)), .int (nI (z 320))])), (q 6, aI κ 52 (fun k => z (104 + k))), (q 7, .inr (0, [.ref (q 8), .int (nI (z 313)), .int (nI (z 317)), .int (nI (z 321))])), (q 8, aI κ 52 (fun k => z (156 + k))), (q 9, .inr (0, [.ref (q 10), .int (nI (z 314)), .int (nI (z 318)), .int (nI (z 322))])), (q 10, aI κ 52 (fun k => z (208 + k))), (q 11, .inr (0, [.ref (q 12), .int (nI (z 315)), .int (nI (z 319)), .int (nI (z 323))])), (q 12, aI κ 52 (fun k => z (260 + k))), (q2 0, .inr (2, [.ref (q2 1), .ref (q2 2), .ref (q2 3), .ref (q2 4), .int (nI (z2 326)), .int (nI (z2 327)), .int (nI (z2 328)), .int (nI (z2 329)), .int (nI (z2 330)), .int (nI (z2 331)), .int (nI (z2 332))])), (q2 1, aI κ 2 (fun k => z2 (324 + k))), (q2 2, aI κ 52 z2), (q2 3, aZ κ 52 (fun k => z2 (52 + k))), (q2 4, aB κ 4 (fun k => some (q2 (5 + 2 * k)))), (q2 5, .inr (0, [.ref (q2 6), .int (nI (z2 312)), .int (nI (z2 316)), .int (nI (z2 320))])), (q2 6, aI κ 52 (fun k => z2 (104 + k))), (q2 7, .inr (0, [.ref (q2 8), .int (nI (z2 313)), .int (nI (z2 317)), .int (nI (z2 321))])), (q2 8, aI κ 52 (fun k => z2 (156 + k))), (q2 9, .inr (0, [.ref (q2 10), .int (nI (z2 314)), .int (nI (z2 318)), .int (nI (z2 322))])), (q2 10, aI κ 52 (fun k => z2 (208 + k))), (q2 11, .inr (0, [.ref (q2 12), .int (nI (z2 315)), .int (nI (z2 319)), .int (nI (z2 323))])), (q2 12, aI κ 52 (fun k => z2 (260 + k)))]) (f := fun k => z2 (52 + k)) (g := fun k => z (52 + k)) hc 16 3 1 rfl rfl rfl rfl (by omega) (by omega) (by decide) (by decide) (fun i hi => fit_z (by simpa using hzb i (by omega))) k_ml_RX2_39 ⟨by decide, Nat.le_of_ble_eq_true rfl⟩ rfl dX2_copyFrom_41 (n := 44) rfl ?_
  refine g_iconst (v := nI 0) hc (by decide) dX2_copyFrom_44 (n := 45) rfl ?_
  refine g_istore_n (lv2 := [(0, .ref (q 0)), (1, .ref (q2 0)), (2, .int (nI 0))]) hc rfl (by decide) [1, 2, 0] rfl rfl dX2_copyFrom_45 (n := 46) rfl ?_
  refine g_iload_n hc 2 rfl rfl dX2_copyFrom_46 (n := 47) rfl ?_
  refine g_iconst (v := nI 4) hc (by decide) dX2_copyFrom_47 (n := 48) rfl ?_
  refine n_icmp_ge hc (by omega) (by omega) dX2_copyFrom_48 (tgt := 72) (by decide) (n := 51) rfl (fun c_1 => by (exfalso; revert c_1; first | omega | decide)) (fun c_1 => ?_)
  refine g_aload_n hc 0 rfl rfl dX2_copyFrom_51 (n := 52) rfl ?_
  refine g_getf hc 0 rfl vw_2 inX2 3 (by decide) k_fl_RX2_27 rfl rfl dX2_copyFrom_52 (n := 55) rfl ?_
  refine g_iload_n hc 2 rfl rfl dX2_copyFrom_55 (n := 56) rfl ?_
  refine n_aldB (b := q 5) hc 4 rfl (by omega) (by decide) (rfl) dX2_copyFrom_56 (n := 57) rfl ?_
  refine g_aload_n hc 1 rfl rfl dX2_copyFrom_57 (n := 58) rfl ?_
  refine g_getf hc 13 rfl vw_2 inX2 3 (by decide) k_fl_RX2_27 rfl rfl dX2_copyFrom_58 (n := 61) rfl ?_
  refine g_iload_n hc 2 rfl rfl dX2_copyFrom_61 (n := 62) rfl ?_
  refine n_aldB (b := q2 5) hc 17 rfl (by omega) (by decide) (rfl) dX2_copyFrom_62 (n := 63) rfl ?_
  refine g_callV (rest := []) (As := [.ref (q2 5)]) (cells' := 0) (slots' := 0) hc (c_X0_copyFrom κ _ (q 5) (q 6) (z 312) (z 316) (z 320) (fun k => z (104 + k)) (q2 5) (q2 6) (z2 312) (z2 316) (z2 320) (fun k => z2 (104 + k)) (hzf 0 (by decide)) (hzf 4 (by decide))) q_X0_copyFrom k_ml_RX2_45 rfl rfl (jn_ix (wr := [(q 0, .inr (2, [.ref (q 1), .ref (q 2), .ref (q 3), .ref (q 4), .int (nI (z 326)), .int (nI (z 327)), .int (nI (z 328)), .int (nI (z 329)), .int (nI (z 330)), .int (nI (z 331)), .int (nI (z 332))])), (q 1, aI κ 2 (va_cpy (fun k => z2 (324 + k)) (fun k => z (324 + k)) 0 0 2)), (q 2, aI κ 52 (va_cpy z2 z 0 0 52)), (q 3, aZ κ 52 (va_cpy (fun k => z2 (52 + k)) (fun k => z (52 + k)) 0 0 52)), (q 4, aB κ 4 (fun k => some (q (5 + 2 * k)))), (q 7, .inr (0, [.ref (q 8), .int (nI (z 313)), .int (nI (z 317)), .int (nI (z 321))])), (q 8, aI κ 52 (fun k => z (156 + k))), (q 9, .inr (0, [.ref (q 10), .int (nI (z 314)), .int (nI (z 318)), .int (nI (z 322))])), (q 10, aI κ 52 (fun k => z (208 + k))), (q 11, .inr (0, [.ref (q 12), .int (nI (z 315)), .int (nI (z 319)), .int (nI (z 323))])), (q 12, aI κ 52 (fun k => z (260 + k))), (q2 0, .inr (2, [.ref (q2 1), .ref (q2 2), .ref (q2 3), .ref (q2 4), .int (nI (z2 326)), .int (nI (z2 327)), .int (nI (z2 328)), .int (nI (z2 329)), .int (nI (z2 330)), .int (nI (z2 331)), .int (nI (z2 332))])), (q2 1, aI κ 2 (fun k => z2 (324 + k))), (q2 2, aI κ 52 z2), (q2 3, aZ κ 52 (fun k => z2 (52 + k))), (q2 4, aB κ 4 (fun k => some (q2 (5 + 2 * k)))), (q2 7, .inr (0, [.ref (q2 8), .int (nI (z2 313)), .int (nI (z2 317)), .int (nI (z2 321))])), (q2 8, aI κ 52 (fun k => z2 (156 + k))), (q2 9, .inr (0, [.ref (q2 10), .int (nI (z2 314)), .int (nI (z2 318)), .int (nI (z2 322))])), (q2 10, aI κ 52 (fun k => z2 (208 + k))), (q2 11, .inr (0, [.ref (q2 12), .int (nI (z2 315)), .int (nI (z2 319)), .int (nI (z2 323))])), (q2 12, aI κ 52 (fun k => z2 (260 + k)))]) [5, 6, 18, 19] [0, 1, 2, 3, 4, 7, 8, 9, 10, 11, 12, 13, 14, 15, 16, 17, 20, 21, 22, 23, 24, 25] rfl rfl rfl rfl (by decide)) (qr := 5) rfl vw_0 ⟨⟨by decide, by decide⟩, by decide, by decide⟩ (Nat.le_of_ble_eq_true rfl) rfl rfl dX2_copyFrom_63 (n := 66) rfl (fun vv ww hp => ?_)
  obtain ⟨rfl, rfl⟩ := hp
  refine ⟨_, rfl, ?_⟩
  refine g_ws (ws' := [(q 0, .inr (2, [.ref (q 1), .ref (q 2), .ref (q 3), .ref (q 4), .int (nI (z 326)), .int (nI (z 327)), .int (nI (z 328)), .int (nI (z 329)), .int (nI (z 330)), .int (nI (z 331)), .int (nI (z 332))])), (q 1, aI κ 2 (va_cpy (fun k => z2 (324 + k)) (fun k => z (324 + k)) 0 0 2)), (q 2, aI κ 52 (va_cpy z2 z 0 0 52)), (q 3, aZ κ 52 (va_cpy (fun k => z2 (52 + k)) (fun k => z (52 + k)) 0 0 52)), (q 4, aB κ 4 (fun k => some (q (5 + 2 * k)))), (q 7, .inr (0, [.ref (q 8), .int (nI (z 313)), .int (nI (z 317)), .int (nI (z 321))])), (q 8, aI κ 52 (fun k => z (156 + k))), (q 9, .inr (0, [.ref (q 10), .int (nI (z 314)), .int (nI (z 318)), .int (nI (z 322))])), (q 10, aI κ 52 (fun k => z (208 + k))), (q 11, .inr (0, [.ref (q 12), .int (nI (z 315)), .int (nI (z 319)), .int (nI (z 323))])), (q 12, aI κ 52 (fun k => z (260 + k))), (q2 0, .inr (2, [.ref (q2 1), .ref (q2 2), .ref (q2 3), .ref (q2 4), .int (nI (z2 326)), .int (nI (z2 327)), .int (nI (z2 328)), .int (nI (z2 329)), .int (nI (z2 330)), .int (nI (z2 331)), .int (nI (z2 332))])), (q2 1, aI κ 2 (fun k => z2 (324 + k))), (q2 2, aI κ 52 z2), (q2 3, aZ κ 52 (fun k => z2 (52 + k))), (q2 4, aB κ 4 (fun k => some (q2 (5 + 2 * k)))), (q2 7, .inr (0, [.ref (q2 8), .int (nI (z2 313)), .int (nI (z2 317)), .int (nI (z2 321))])), (q2 8, aI κ 52 (fun k => z2 (156 + k))), (q2 9, .inr (0, [.ref (q2 10), .int (nI (z2 314)), .int (nI (z2 318)), .int (nI (z2 322))])), (q2 10, aI κ 52 (fun k => z2 (208 + k))), (q2 11, .inr (0, [.ref (q2 12), .int (nI (z2 315)), .int (nI (z2 319)), .int (nI (z2 323))])), (q2 12, aI κ 52 (fun k => z2 (260 + k))), (q 5, .inr (0, [.ref (q 6), .int (nI (z2 312)), .int (nI (z2 316)), .int (nI (z2 320))])), (q 6, aI κ 52 (fun k => z2 (104 + k))), (q2 5, .inr (0, [.ref (q2 6), .int (nI (z2 312)), .int (nI (z2 316)), .int (nI (z2 320))])), (q2 6, aI κ 52 (fun k => z2 (104 + k)))]) rfl ?_
  refine g_st (st' := []) rfl ?_
  refine n_iinc (v := 1) (zk := 1) (lv2 := [(0, .ref (q 0)), (1, .ref (q2 0)), (2, .int (nI 1))]) hc 2 rfl (by decide) rfl (by decide) [1, 2, 0] rfl rfl dX2_copyFrom_66 (n := 69) rfl ?_
  refine g_goto (n := 46) hc dX2_copyFrom_69 (by decide) ?_
  refine g_iload_n hc 2 rfl rfl dX2_copyFrom_46 (n := 47) rfl ?_
  refine g_iconst (v := nI 4) hc (by decide) dX2_copyFrom_47 (n := 48) rfl ?_
  refine n_icmp_ge hc (by omega) (by omega) dX2_copyFrom_48 (tgt := 72) (by decide) (n := 51) rfl (fun c_2 => by (exfalso; revert c_2; first | omega | decide)) (fun c_2 => ?_)
  refine g_aload_n hc 0 rfl rfl dX2_copyFrom_51 (n := 52) rfl ?_
  refine g_getf hc 0 rfl vw_2 inX2 3 (by decide) k_fl_RX2_27 rfl rfl dX2_copyFrom_52 (n := 55) rfl ?_
  refine g_iload_n hc 2 rfl rfl dX2_copyFrom_55 (n := 56) rfl ?_
  refine n_aldB (b := q 7) hc 4 rfl (by omega) (by decide) (rfl) dX2_copyFrom_56 (n := 57) rfl ?_
  refine g_aload_n hc 1 rfl rfl dX2_copyFrom_57 (n := 58) rfl ?_
  refine g_getf hc 11 rfl vw_2 inX2 3 (by decide) k_fl_RX2_27 rfl rfl dX2_copyFrom_58 (n := 61) rfl ?_
  refine g_iload_n hc 2 rfl rfl dX2_copyFrom_61 (n := 62) rfl ?_
  refine n_aldB (b := q2 7) hc 15 rfl (by omega) (by decide) (rfl) dX2_copyFrom_62 (n := 63) rfl ?_
  refine g_callV (rest := []) (As := [.ref (q2 7)]) (cells' := 0) (slots' := 0) hc (c_X0_copyFrom κ _ (q 7) (q 8) (z 313) (z 317) (z 321) (fun k => z (156 + k)) (q2 7) (q2 8) (z2 313) (z2 317) (z2 321) (fun k => z2 (156 + k)) (hzf 1 (by decide)) (hzf 5 (by decide))) q_X0_copyFrom k_ml_RX2_45 rfl rfl (jn_ix (wr := [(q 0, .inr (2, [.ref (q 1), .ref (q 2), .ref (q 3), .ref (q 4), .int (nI (z 326)), .int (nI (z 327)), .int (nI (z 328)), .int (nI (z 329)), .int (nI (z 330)), .int (nI (z 331)), .int (nI (z 332))])), (q 1, aI κ 2 (va_cpy (fun k => z2 (324 + k)) (fun k => z (324 + k)) 0 0 2)), (q 2, aI κ 52 (va_cpy z2 z 0 0 52)), (q 3, aZ κ 52 (va_cpy (fun k => z2 (52 + k)) (fun k => z (52 + k)) 0 0 52)), (q 4, aB κ 4 (fun k => some (q (5 + 2 * k)))), (q 9, .inr (0, [.ref (q 10), .int (nI (z 314)), .int (nI (z 318)), .int (nI (z 322))])), (q 10, aI κ 52 (fun k => z (208 + k))), (q 11, .inr (0, [.ref (q 12), .int (nI (z 315)), .int (nI (z 319)), .int (nI (z 323))])), (q 12, aI κ 52 (fun k => z (260 + k))), (q2 0, .inr (2, [.ref (q2 1), .ref (q2 2), .ref (q2 3), .ref (q2 4), .int (nI (z2 326)), .int (nI (z2 327)), .int (nI (z2 328)), .int (nI (z2 329)), .int (nI (z2 330)), .int (nI (z2 331)), .int (nI (z2 332))])), (q2 1, aI κ 2 (fun k => z2 (324 + k))), (q2 2, aI κ 52 z2), (q2 3, aZ κ 52 (fun k => z2 (52 + k))), (q2 4, aB κ 4 (fun k => some (q2 (5 + 2 * k)))), (q2 9, .inr (0, [.ref (q2 10), .int (nI (z2 314)), .int (nI (z2 318)), .int (nI (z2 322))])), (q2 10, aI κ 52 (fun k => z2 (208 + k))), (q2 11, .inr (0, [.ref (q2 12), .int (nI (z2 315)), .int (nI (z2 319)), .int (nI (z2 323))])), (q2 12, aI κ 52 (fun k => z2 (260 + k))), (q 5, .inr (0, [.ref (q 6), .int (nI (z2 312)), .int (nI (z2 316)), .int (nI (z2 320))])), (q 6, aI κ 52 (fun k => z2 (104 + k))), (q2 5, .inr (0, [.ref (q2 6), .int (nI (z2 312)), .int (nI (z2 316)), .int (nI (z2 320))])), (q2 6, aI κ 52 (fun k => z2 (104 + k)))]) [5, 6, 16, 17] [0, 1, 2, 3, 4, 7, 8, 9, 10, 11, 12, 13, 14, 15, 18, 19, 20, 21, 22, 23, 24, 25] rfl rfl rfl rfl (by decide)) (qr := 5) rfl vw_0 ⟨⟨by decide, by decide⟩, by decide, by decide⟩ (Nat.le_of_ble_eq_true rfl) rfl rfl dX2_copyFrom_63 (n := 66) rfl (fun vv ww hp => ?_)
  obtain ⟨rfl, rfl⟩ := hp
  refine ⟨_, rfl, ?_⟩
  refine g_ws (ws' := [(q 0, .inr (2, [.ref (q 1), .ref (q 2), .ref (q 3), .ref (q 4), .int (nI (z 326)), .int (nI (z 327)), .int (nI (z 328)), .int (nI (z 329)), .int (nI (z 330)), .int (nI (z 331)), .int (nI (z 332))])), (q 1, aI κ 2 (va_cpy (fun k => z2 (324 + k)) (fun k => z (324 + k)) 0 0 2)), (q 2, aI κ 52 (va_cpy z2 z 0 0 52)), (q 3, aZ κ 52 (va_cpy (fun k => z2 (52 + k)) (fun k => z (52 + k)) 0 0 52)), (q 4, aB κ 4 (fun k => some (q (5 + 2 * k)))), (q 9, .inr (0, [.ref (q 10), .int (nI (z 314)), .int (nI (z 318)), .int (nI (z 322))])), (q 10, aI κ 52 (fun k => z (208 + k))), (q 11, .inr (0, [.ref (q 12), .int (nI (z 315)), .int (nI (z 319)), .int (nI (z 323))])), (q 12, aI κ 52 (fun k => z (260 + k))), (q2 0, .inr (2, [.ref (q2 1), .ref (q2 2), .ref (q2 3), .ref (q2 4), .int (nI (z2 326)), .int (nI (z2 327)), .int (nI (z2 328)), .int (nI (z2 329)), .int (nI (z2 330)), .int (nI (z2 331)), .int (nI (z2 332))])), (q2 1, aI κ 2 (fun k => z2 (324 + k))), (q2 2, aI κ 52 z2), (q2 3, aZ κ 52 (fun k => z2 (52 + k))), (q2 4, aB κ 4 (fun k => some (q2 (5 + 2 * k)))), (q2 9, .inr (0, [.ref (q2 10), .int (nI (z2 314)), .int (nI (z2 318)), .int (nI (z2 322))])), (q2 10, aI κ 52 (fun k => z2 (208 + k))), (q2 11, .inr (0, [.ref (q2 12), .int (nI (z2 315)), .int (nI (z2 319)), .int (nI (z2 323))])), (q2 12, aI κ 52 (fun k => z2 (260 + k))), (q 5, .inr (0, [.ref (q 6), .int (nI (z2 312)), .int (nI (z2 316)), .int (nI (z2 320))])), (q 6, aI κ 52 (fun k => z2 (104 + k))), (q2 5, .inr (0, [.ref (q2 6), .int (nI (z2 312)), .int (nI (z2 316)), .int (nI (z2 320))])), (q2 6, aI κ 52 (fun k => z2 (104 + k))), (q 7, .inr (0, [.ref (q 8), .int (nI (z2 313)), .int (nI (z2 317)), .int (nI (z2 321))])), (q 8, aI κ 52 (fun k => z2 (156 + k))), (q2 7, .inr (0, [.ref (q2 8), .int (nI (z2 313)), .int (nI (z2 317)), .int (nI (z2 321))])), (q2 8, aI κ 52 (fun k => z2 (156 + k)))]) rfl ?_
  refine g_st (st' := []) rfl ?_
  refine n_iinc (v := 2) (zk := 1) (lv2 := [(0, .ref (q 0)), (1, .ref (q2 0)), (2, .int (nI 2))]) hc 2 rfl (by decide) rfl (by decide) [1, 2, 0] rfl rfl dX2_copyFrom_66 (n := 69) rfl ?_
  refine g_goto (n := 46) hc dX2_copyFrom_69 (by decide) ?_
  refine g_iload_n hc 2 rfl rfl dX2_copyFrom_46 (n := 47) rfl ?_
  refine g_iconst (v := nI 4) hc (by decide) dX2_copyFrom_47 (n := 48) rfl ?_
  refine n_icmp_ge hc (by omega) (by omega) dX2_copyFrom_48 (tgt := 72) (by decide) (n := 51) rfl (fun c_3 => by (exfalso; revert c_3; first | omega | decide)) (fun c_3 => ?_)
  refine g_aload_n hc 0 rfl rfl dX2_copyFrom_51 (n := 52) rfl ?_
  refine g_getf hc 0 rfl vw_2 inX2 3 (by decide) k_fl_RX2_27 rfl rfl dX2_copyFrom_52 (n := 55) rfl ?_
  refine g_iload_n hc 2 rfl rfl dX2_copyFrom_55 (n := 56) rfl ?_
  refine n_aldB (b := q 9) hc 4 rfl (by omega) (by decide) (rfl) dX2_copyFrom_56 (n := 57) rfl ?_
  refine g_aload_n hc 1 rfl rfl dX2_copyFrom_57 (n := 58) rfl ?_
  refine g_getf hc 9 rfl vw_2 inX2 3 (by decide) k_fl_RX2_27 rfl rfl dX2_copyFrom_58 (n := 61) rfl ?_
  refine g_iload_n hc 2 rfl rfl dX2_copyFrom_61 (n := 62) rfl ?_
  refine n_aldB (b := q2 9) hc 13 rfl (by omega) (by decide) (rfl) dX2_copyFrom_62 (n := 63) rfl ?_
  refine g_callV (rest := []) (As := [.ref (q2 9)]) (cells' := 0) (slots' := 0) hc (c_X0_copyFrom κ _ (q 9) (q 10) (z 314) (z 318) (z 322) (fun k => z (208 + k)) (q2 9) (q2 10) (z2 314) (z2 318) (z2 322) (fun k => z2 (208 + k)) (hzf 2 (by decide)) (hzf 6 (by decide))) q_X0_copyFrom k_ml_RX2_45 rfl rfl (jn_ix (wr := [(q 0, .inr (2, [.ref (q 1), .ref (q 2), .ref (q 3), .ref (q 4), .int (nI (z 326)), .int (nI (z 327)), .int (nI (z 328)), .int (nI (z 329)), .int (nI (z 330)), .int (nI (z 331)), .int (nI (z 332))])), (q 1, aI κ 2 (va_cpy (fun k => z2 (324 + k)) (fun k => z (324 + k)) 0 0 2)), (q 2, aI κ 52 (va_cpy z2 z 0 0 52)), (q 3, aZ κ 52 (va_cpy (fun k => z2 (52 + k)) (fun k => z (52 + k)) 0 0 52)), (q 4, aB κ 4 (fun k => some (q (5 + 2 * k)))), (q 11, .inr (0, [.ref (q 12), .int (nI (z 315)), .int (nI (z 319)), .int (nI (z 323))])), (q 12, aI κ 52 (fun k => z (260 + k))), (q2 0, .inr (2, [.ref (q2 1), .ref (q2 2), .ref (q2 3), .ref (q2 4), .int (nI (z2 326)), .int (nI (z2 327)), .int (nI (z2 328)), .int (nI (z2 329)), .int (nI (z2 330)), .int (nI (z2 331)), .int (nI (z2 332))])), (q2 1, aI κ 2 (fun k => z2 (324 + k))), (q2 2, aI κ 52 z2), (q2 3, aZ κ 52 (fun k => z2 (52 + k))), (q2 4, aB κ 4 (fun k => some (q2 (5 + 2 * k)))), (q2 11, .inr (0, [.ref (q2 12), .int (nI (z2 315)), .int (nI (z2 319)), .int (nI (z2 323))])), (q2 12, aI κ 52 (fun k => z2 (260 + k))), (q 5, .inr (0, [.ref (q 6), .int (nI (z2 312)), .int (nI (z2 316)), .int (nI (z2 320))])), (q 6, aI κ 52 (fun k => z2 (104 + k))), (q2 5, .inr (0, [.ref (q2 6), .int (nI (z2 312)), .int (nI (z2 316)), .int (nI (z2 320))])), (q2 6, aI κ 52 (fun k => z2 (104 + k))), (q 7, .inr (0, [.ref (q 8), .int (nI (z2 313)), .int (nI (z2 317)), .int (nI (z2 321))])), (q 8, aI κ 52 (fun k => z2 (156 + k))), (q2 7, .inr (0, [.ref (q2 8), .int (nI (z2 313)), .int (nI (z2 317)), .int (nI (z2 321))])), (q2 8, aI κ 52 (fun k => z2 (156 + k)))]) [5, 6, 14, 15] [0, 1, 2, 3, 4, 7, 8, 9, 10, 11, 12, 13, 16, 17, 18, 19, 20, 21, 22, 23, 24, 25] rfl rfl rfl rfl (by decide)) (qr := 5) rfl vw_0 ⟨⟨by decide, by decide⟩, by decide, by decide⟩ (Nat.le_of_ble_eq_true rfl) rfl rfl dX2_copyFrom_63 (n := 66) rfl (fun vv ww hp => ?_)
  obtain ⟨rfl, rfl⟩ := hp
  refine ⟨_, rfl, ?_⟩
  refine g_ws (ws' := [(q 0, .inr (2, [.ref (q 1), .ref (q 2), .ref (q 3), .ref (q 4), .int (nI (z 326)), .int (nI (z 327)), .int (nI (z 328)), .int (nI (z 329)), .int (nI (z 330)), .int (nI (z 331)), .int (nI (z 332))])), (q 1, aI κ 2 (va_cpy (fun k => z2 (324 + k)) (fun k => z (324 + k)) 0 0 2)), (q 2, aI κ 52 (va_cpy z2 z 0 0 52)), (q 3, aZ κ 52 (va_cpy (fun k => z2 (52 + k)) (fun k => z (52 + k)) 0 0 52)), (q 4, aB κ 4 (fun k => some (q (5 + 2 * k)))), (q 11, .inr (0, [.ref (q 12), .int (nI (z 315)), .int (nI (z 319)), .int (nI (z 323))])), (q 12, aI κ 52 (fun k => z (260 + k))), (q2 0, .inr (2, [.ref (q2 1), .ref (q2 2), .ref (q2 3), .ref (q2 4), .int (nI (z2 326)), .int (nI (z2 327)), .int (nI (z2 328)), .int (nI (z2 329)), .int (nI (z2 330)), .int (nI (z2 331)), .int (nI (z2 332))])), (q2 1, aI κ 2 (fun k => z2 (324 + k))), (q2 2, aI κ 52 z2), (q2 3, aZ κ 52 (fun k => z2 (52 + k))), (q2 4, aB κ 4 (fun k => some (q2 (5 + 2 * k)))), (q2 11, .inr (0, [.ref (q2 12), .int (nI (z2 315)), .int (nI (z2 319)), .int (nI (z2 323))])), (q2 12, aI κ 52 (fun k => z2 (260 + k))), (q 5, .inr (0, [.ref (q 6), .int (nI (z2 312)), .int (nI (z2 316)), .int (nI (z2 320))])), (q 6, aI κ 52 (fun k => z2 (104 + k))), (q2 5, .inr (0, [.ref (q2 6), .int (nI (z2 312)), .int (nI (z2 316)), .int (nI (z2 320))])), (q2 6, aI κ 52 (fun k => z2 (104 + k))), (q 7, .inr (0, [.ref (q 8), .int (nI (z2 313)), .int (nI (z2 317)), .int (nI (z2 321))])), (q 8, aI κ 52 (fun k => z2 (156 + k))), (q2 7, .inr (0, [.ref (q2 8), .int (nI (z2 313)), .int (nI (z2 317)), .int (nI (z2 321))])), (q2 8, aI κ 52 (fun k => z2 (156 + k))), (q 9, .inr (0, [.ref (q 10), .int (nI (z2 314)), .int (nI (z2 318)), .int (nI (z2 322))])), (q 10, aI κ 52 (fun k => z2 (208 + k))), (q2 9, .inr (0, [.ref (q2 10), .int (nI (z2 314)), .int (nI (z2 318)), .int (nI (z2 322))])), (q2 10, aI κ 52 (fun k => z2 (208 + k)))]) rfl ?_
  refine g_st (st' := []) rfl ?_
  refine n_iinc (v := 3) (zk := 1) (lv2 := [(0, .ref (q 0)), (1, .ref (q2 0)), (2, .int (nI 3))]) hc 2 rfl (by decide) rfl (by decide) [1, 2, 0] rfl rfl dX2_copyFrom_66 (n := 69) rfl ?_
  refine g_goto (n := 46) hc dX2_copyFrom_69 (by decide) ?_
  refine g_iload_n hc 2 rfl rfl dX2_copyFrom_46 (n := 47) rfl ?_
  refine g_iconst (v := nI 4) hc (by decide) dX2_copyFrom_47 (n := 48) rfl ?_
  refine n_icmp_ge hc (by omega) (by omega) dX2_copyFrom_48 (tgt := 72) (by decide) (n := 51) rfl (fun c_4 => by (exfalso; revert c_4; first | omega | decide)) (fun c_4 => ?_)
  refine g_aload_n hc 0 rfl rfl dX2_copyFrom_51 (n := 52) rfl ?_
  refine g_getf hc 0 rfl vw_2 inX2 3 (by decide) k_fl_RX2_27 rfl rfl dX2_copyFrom_52 (n := 55) rfl ?_
  refine g_iload_n hc 2 rfl rfl dX2_copyFrom_55 (n := 56) rfl ?_
  refine n_aldB (b := q 11) hc 4 rfl (by omega) (by decide) (rfl) dX2_copyFrom_56 (n := 57) rfl ?_
  refine g_aload_n hc 1 rfl rfl dX2_copyFrom_57 (n := 58) rfl ?_
  refine g_getf hc 7 rfl vw_2 inX2 3 (by decide) k_fl_RX2_27 rfl rfl dX2_copyFrom_58 (n := 61) rfl ?_
  refine g_iload_n hc 2 rfl rfl dX2_copyFrom_61 (n := 62) rfl ?_
  refine n_aldB (b := q2 11) hc 11 rfl (by omega) (by decide) (rfl) dX2_copyFrom_62 (n := 63) rfl ?_
  refine g_callV (rest := []) (As := [.ref (q2 11)]) (cells' := 0) (slots' := 0) hc (c_X0_copyFrom κ _ (q 11) (q 12) (z 315) (z 319) (z 323) (fun k => z (260 + k)) (q2 11) (q2 12) (z2 315) (z2 319) (z2 323) (fun k => z2 (260 + k)) (hzf 3 (by decide)) (hzf 7 (by decide))) q_X0_copyFrom k_ml_RX2_45 rfl rfl (jn_ix (wr := [(q 0, .inr (2, [.ref (q 1), .ref (q 2), .ref (q 3), .ref (q 4), .int (nI (z 326)), .int (nI (z 327)), .int (nI (z 328)), .int (nI (z 329)), .int (nI (z 330)), .int (nI (z 331)), .int (nI (z 332))])), (q 1, aI κ 2 (va_cpy (fun k => z2 (324 + k)) (fun k => z (324 + k)) 0 0 2)), (q 2, aI κ 52 (va_cpy z2 z 0 0 52)), (q 3, aZ κ 52 (va_cpy (fun k => z2 (52 + k)) (fun k => z (52 + k)) 0 0 52)), (q 4, aB κ 4 (fun k => some (q (5 + 2 * k)))), (q2 0, .inr (2, [.ref (q2 1), .ref (q2 2), .ref (q2 3), .ref (q2 4), .int (nI (z2 326)), .int (nI (z2 327)), .int (nI (z2 328)), .int (nI (z2 329)), .int (nI (z2 330)), .int (nI (z2 331)), .int (nI (z2 332))])), (q2 1, aI κ 2 (fun k => z2 (324 + k))), (q2 2, aI κ 52 z2), (q2 3, aZ κ 52 (fun k => z2 (52 + k))), (q2 4, aB κ 4 (fun k => some (q2 (5 + 2 * k)))), (q 5, .inr (0, [.ref (q 6), .int (nI (z2 312)), .int (nI (z2 316)), .int (nI (z2 320))])), (q 6, aI κ 52 (fun k => z2 (104 + k))), (q2 5, .inr (0, [.ref (q2 6), .int (nI (z2 312)), .int (nI (z2 316)), .int (nI (z2 320))])), (q2 6, aI κ 52 (fun k => z2 (104 + k))), (q 7, .inr (0, [.ref (q 8), .int (nI (z2 313)), .int (nI (z2 317)), .int (nI (z2 321))])), (q 8, aI κ 52 (fun k => z2 (156 + k))), (q2 7, .inr (0, [.ref (q2 8), .int (nI (z2 313)), .int (nI (z2 317)), .int (nI (z2 321))])), (q2 8, aI κ 52 (fun k => z2 (156 + k))), (q 9, .inr (0, [.ref (q 10), .int (nI (z2 314)), .int (nI (z2 318)), .int (nI (z2 322))])), (q 10, aI κ 52 (fun k => z2 (208 + k))), (q2 9, .inr (0, [.ref (q2 10), .int (nI (z2 314)), .int (nI (z2 318)), .int (nI (z2 322))])), (q2 10, aI κ 52 (fun k => z2 (208 + k)))]) [5, 6, 12, 13] [0, 1, 2, 3, 4, 7, 8, 9, 10, 11, 14, 15, 16, 17, 18, 19, 20, 21, 22, 23, 24, 25] rfl rfl rfl rfl (by decide)) (qr := 5) rfl vw_0 ⟨⟨by decide, by decide⟩, by decide, by decide⟩ (Nat.le_of_ble_eq_true rfl) rfl rfl dX2_copyFrom_63 (n := 66) rfl (fun vv ww hp => ?_)
  obtain ⟨rfl, rfl⟩ := hp
  refine ⟨_, rfl, ?_⟩
  refine g_ws (ws' := [(q 0, .inr (2, [.ref (q 1), .ref (q 2), .ref (q 3), .ref (q 4), .int (nI (z 326)), .int (nI (z 327)), .int (nI (z 328)), .int (nI (z 329)), .int (nI (z 330)), .int (nI (z 331)), .int (nI (z 332))])), (q 1, aI κ 2 (va_cpy (fun k => z2 (324 + k)) (fun k => z (324 + k)) 0 0 2)), (q 2, aI κ 52 (va_cpy z2 z 0 0 52)), (q 3, aZ κ 52 (va_cpy (fun k => z2 (52 + k)) (fun k => z (52 + k)) 0 0 52)), (q 4, aB κ 4 (fun k => some (q (5 + 2 * k)))), (q2 0, .inr (2, [.ref (q2 1), .ref (q2 2), .ref (q2 3), .ref (q2 4), .int (nI (z2 326)), .int (nI (z2 327)), .int (nI (z2 328)), .int (nI (z2 329)), .int (nI (z2 330)), .int (nI (z2 331)), .int (nI (z2 332))])), (q2 1, aI κ 2 (fun k => z2 (324 + k))), (q2 2, aI κ 52 z2), (q2 3, aZ κ 52 (fun k => z2 (52 + k))), (q2 4, aB κ 4 (fun k => some (q2 (5 + 2 * k)))), (q 5, .inr (0, [.ref (q 6), .int (nI (z2 312)), .int (nI (z2 316)), .int (nI (z2 320))])), (q 6, aI κ 52 (fun k => z2 (104 + k))), (q2 5, .inr (0, [.ref (q2 6), .int (nI (z2 312)), .int (nI (z2 316)), .int (nI (z2 320))])), (q2 6, aI κ 52 (fun k => z2 (104 + k))), (q 7, .inr (0, [.ref (q 8), .int (nI (z2 313)), .int (nI (z2 317)), .int (nI (z2 321))])), (q 8, aI κ 52 (fun k => z2 (156 + k))), (q2 7, .inr (0, [.ref (q2 8), .int (nI (z2 313)), .int (nI (z2 317)), .int (nI (z2 321))])), (q2 8, aI κ 52 (fun k => z2 (156 + k))), (q 9, .inr (0, [.ref (q 10), .int (nI (z2 314)), .int (nI (z2 318)), .int (nI (z2 322))])), (q 10, aI κ 52 (fun k => z2 (208 + k))), (q2 9, .inr (0, [.ref (q2 10), .int (nI (z2 314)), .int (nI (z2 318)), .int (nI (z2 322))])), (q2 10, aI κ 52 (fun k => z2 (208 + k))), (q 11, .inr (0, [.ref (q 12), .int (nI (z2 315)), .int (nI (z2 319)), .int (nI (z2 323))])), (q 12, aI κ 52 (fun k => z2 (260 + k))), (q2 11, .inr (0, [.ref (q2 12), .int (nI (z2 315)), .int (nI (z2 319)), .int (nI (z2 323))])), (q2 12, aI κ 52 (fun k => z2 (260 + k)))]) rfl ?_
  refine g_st (st' := []) rfl ?_
  refine n_iinc (v := 4) (zk := 1) (lv2 := [(0, .ref (q 0)), (1, .ref (q2 0)), (2, .int (nI 4))]) hc 2 rfl (by decide) rfl (by decide) [1, 2, 0] rfl rfl dX2_copyFrom_66 (n := 69) rfl ?_
  refine g_goto (n := 46) hc dX2_copyFrom_69 (by decide) ?_
  refine g_iload_n hc 2 rfl rfl dX2_copyFrom_46 (n := 47) rfl ?_
  refine g_iconst (v := nI 4) hc (by decide) dX2_copyFrom_47 (n := 48) rfl ?_
  refine n_icmp_ge hc (by omega) (by omega) dX2_copyFrom_48 (tgt := 72) (by decide) (n := 51) rfl (fun c_5 => ?_) (fun c_5 => by (exfalso; revert c_5; first | omega | decide))
  refine g_aload_n hc 0 rfl rfl dX2_copyFrom_72 (n := 73) rfl ?_
  refine g_aload_n hc 1 rfl rfl dX2_copyFrom_73 (n := 74) rfl ?_
  refine g_getf hc 5 rfl vw_2 inX2 4 (by decide) k_fl_RX2_32 rfl rfl dX2_copyFrom_74 (n := 77) rfl ?_
  refine g_putf (ws' := [(q 0, .inr (2, [.ref (q 1), .ref (q 2), .ref (q 3), .ref (q 4), .int (nI (z2 326)), .int (nI (z 327)), .int (nI (z 328)), .int (nI (z 329)), .int (nI (z 330)), .int (nI (z 331)), .int (nI (z 332))])), (q 1, aI κ 2 (va_cpy (fun k => z2 (324 + k)) (fun k => z (324 + k)) 0 0 2)), (q 2, aI κ 52 (va_cpy z2 z 0 0 52)), (q 3, aZ κ 52 (va_cpy (fun k => z2 (52 + k)) (fun k => z (52 + k)) 0 0 52)), (q 4, aB κ 4 (fun k => some (q (5 + 2 * k)))), (q2 0, .inr (2, [.ref (q2 1), .ref (q2 2), .ref (q2 3), .ref (q2 4), .int (nI (z2 326)), .int (nI (z2 327)), .int (nI (z2 328)), .int (nI (z2 329)), .int (nI (z2 330)), .int (nI (z2 331)), .int (nI (z2 332))])), (q2 1, aI κ 2 (fun k => z2 (324 + k))), (q2 2, aI κ 52 z2), (q2 3, aZ κ 52 (fun k => z2 (52 + k))), (q2 4, aB κ 4 (fun k => some (q2 (5 + 2 * k)))), (q 5, .inr (0, [.ref (q 6), .int (nI (z2 312)), .int (nI (z2 316)), .int (nI (z2 320))])), (q 6, aI κ 52 (fun k => z2 (104 + k))), (q2 5, .inr (0, [.ref (q2 6), .int (nI (z2 312)), .int (nI (z2 316)), .int (nI (z2 320))])), (q2 6, aI κ 52 (fun k => z2 (104 + k))), (q 7, .inr (0, [.ref (q 8), .int (nI (z2 313)), .int (nI (z2 317)), .int (nI (z2 321))])), (q 8, aI κ 52 (fun k => z2 (156 + k))), (q2 7, .inr (0, [.ref (q2 8), .int (nI (z2 313)), .int (nI (z2 317)), .int (nI (z2 321))])), (q2 8, aI κ 52 (fun k => z2 (156 + k))), (q 9, .inr (0, [.ref (q 10), .int (nI (z2 314)), .int (nI (z2 318)), .int (nI (z2 322))])), (q 10, aI κ 52 (fun k => z2 (208 + k))), (q2 9, .inr (0, [.ref (q2 10), .int (nI (z2 314)), .int (nI (z2 318)), .int (nI (z2 322))])), (q2 10, aI κ 52 (fun k => z2 (208 + k))), (q 11, .inr (0, [.ref (q 12), .int (nI (z2 315)), .int (nI (z2 319)), .int (nI (z2 323))])), (q 12, aI κ 52 (fun k => z2 (260 + k))), (q2 11, .inr (0, [.ref (q2 12), .int (nI (z2 315)), .int (nI (z2 319)), .int (nI (z2 323))])), (q2 12, aI κ 52 (fun k => z2 (260 + k)))]) hc 0 rfl vw_2 inX2 tyX2_ok nmX2 4 (by decide) k_fl_RX2_32 rfl rfl rfl rfl (Nat.le_of_ble_eq_true rfl) rfl dX2_copyFrom_77 (n := 80) rfl ?_
  refine g_aload_n hc 0 rfl rfl dX2_copyFrom_80 (n := 81) rfl ?_
  refine g_aload_n hc 1 rfl rfl dX2_copyFrom_81 (n := 82) rfl ?_
  refine g_getf hc 5 rfl vw_2 inX2 5 (by decide) k_fl_RX2_49 rfl rfl dX2_copyFrom_82 (n := 85) rfl ?_
  refine g_putf (ws' := [(q 0, .inr (2, [.ref (q 1), .ref (q 2), .ref (q 3), .ref (q 4), .int (nI (z2 326)), .int (nI (z2 327)), .int (nI (z 328)), .int (nI (z 329)), .int (nI (z 330)), .int (nI (z 331)), .int (nI (z 332))])), (q 1, aI κ 2 (va_cpy (fun k => z2 (324 + k)) (fun k => z (324 + k)) 0 0 2)), (q 2, aI κ 52 (va_cpy z2 z 0 0 52)), (q 3, aZ κ 52 (va_cpy (fun k => z2 (52 + k)) (fun k => z (52 + k)) 0 0 52)), (q 4, aB κ 4 (fun k => some (q (5 + 2 * k)))), (q2 0, .inr (2, [.ref (q2 1), .ref (q2 2), .ref (q2 3), .ref (q2 4), .int (nI (z2 326)), .int (nI (z2 327)), .int (nI (z2 328)), .int (nI (z2 329)), .int (nI (z2 330)), .int (nI (z2 331)), .int (nI (z2 332))])), (q2 1, aI κ 2 (fun k => z2 (324 + k))), (q2 2, aI κ 52 z2), (q2 3, aZ κ 52 (fun k => z2 (52 + k))), (q2 4, aB κ 4 (fun k => some (q2 (5 + 2 * k)))), (q 5, .inr (0, [.ref (q 6), .int (nI (z2 312)), .int (nI (z2 316)), .int (nI (z2 320))])), (q 6, aI κ 52 (fun k => z2 (104 + k))), (q2 5, .inr (0, [.ref (q2 6), .int (nI (z2 312)), .int (nI (z2 316)), .int (nI (z2 320))])), (q2 6, aI κ 52 (fun k => z2 (104 + k))), (q 7, .inr (0, [.ref (q 8), .int (nI (z2 313)), .int (nI (z2 317)), .int (nI (z2 321))])), (q 8, aI κ 52 (fun k => z2 (156 + k))), (q2 7, .inr (0, [.ref (q2 8), .int (nI (z2 313)), .int (nI (z2 317)), .int (nI (z2 321))])), (q2 8, aI κ 52 (fun k => z2 (156 + k))), (q 9, .inr (0, [.ref (q 10), .int (nI (z2 314)), .int (nI (z2 318)), .int (nI (z2 322))])), (q 10, aI κ 52 (fun k => z2 (208 + k))), (q2 9, .inr (0, [.ref (q2 10), .int (nI (z2 314)), .int (nI (z2 318)), .int (nI (z2 322))])), (q2 10, aI κ 52 (fun k => z2 (208 + k))), (q 11, .inr (0, [.ref (q 12), .int (nI (z2 315)), .int (nI (z2 319)), .int (nI (z2 323))])), (q 12, aI κ 52 (fun k => z2 (260 + k))), (q2 11, .inr (0, [.ref (q2 12), .int (nI (z2 315)), .int (nI (z2 319)), .int (nI (z2 323))])), (q2 12, aI κ 52 (fun k => z2 (260 + k)))]) hc 0 rfl vw_2 inX2 tyX2_ok nmX2 5 (by decide) k_fl_RX2_49 rfl rfl (nar_z (hzc)) (fit_z (hzc)) (Nat.le_of_ble_eq_true rfl) rfl dX2_copyFrom_85 (n := 88) rfl ?_
  refine g_aload_n hc 0 rfl rfl dX2_copyFrom_88 (n := 89) rfl ?_
  refine g_aload_n hc 1 rfl rfl dX2_copyFrom_89 (n := 90) rfl ?_
  refine g_getf hc 5 rfl vw_2 inX2 6 (by decide) k_fl_RX2_36 rfl rfl dX2_copyFrom_90 (n := 93) rfl ?_
  refine g_putf (ws' := [(q 0, .inr (2, [.ref (q 1), .ref (q 2), .ref (q 3), .ref (q 4), .int (nI (z2 326)), .int (nI (z2 327)), .int (nI (z2 328)), .int (nI (z 329)), .int (nI (z 330)), .int (nI (z 331)), .int (nI (z 332))])), (q 1, aI κ 2 (va_cpy (fun k => z2 (324 + k)) (fun k => z (324 + k)) 0 0 2)), (q 2, aI κ 52 (va_cpy z2 z 0 0 52)), (q 3, aZ κ 52 (va_cpy (fun k => z2 (52 + k)) (fun k => z (52 + k)) 0 0 52)), (q 4, aB κ 4 (fun k => some (q (5 + 2 * k)))), (q2 0, .inr (2, [.ref (q2 1), .ref (q2 2), .ref (q2 3), .ref (q2 4), .int (nI (z2 326)), .int (nI (z2 327)), .int (nI (z2 328)), .int (nI (z2 329)), .int (nI (z2 330)), .int (nI (z2 331)), .int (nI (z2 332))])), (q2 1, aI κ 2 (fun k => z2 (324 + k))), (q2 2, aI κ 52 z2), (q2 3, aZ κ 52 (fun k => z2 (52 + k))), (q2 4, aB κ 4 (fun k => some (q2 (5 + 2 * k)))), (q 5, .inr (0, [.ref (q 6), .int (nI (z2 312)), .int (nI (z2 316)), .int (nI (z2 320))])), (q 6, aI κ 52 (fun k => z2 (104 + k))), (q2 5, .inr (0, [.ref (q2 6), .int (nI (z2 312)), .int (nI (z2 316)), .int (nI (z2 320))])), (q2 6, aI κ 52 (fun k => z2 (104 + k))), (q 7, .inr (0, [.ref (q 8), .int (nI (z2 313)), .int (nI (z2 317)), .int (nI (z2 321))])), (q 8, aI κ 52 (fun k => z2 (156 + k))), (q2 7, .inr (0, [.ref (q2 8), .int (nI (z2 313)), .int (nI (z2 317)), .int (nI (z2 321))])), (q2 8, aI κ 52 (fun k => z2 (156 + k))), (q 9, .inr (0, [.ref (q 10), .int (nI (z2 314)), .int (nI (z2 318)), .int (nI (z2 322))])), (q 10, aI κ 52 (fun k => z2 (208 + k))), (q2 9, .inr (0, [.ref (q2 10), .int (nI (z2 314)), .int (nI (z2 318)), .int (nI (z2 322))])), (q2 10, aI κ 52 (fun k => z2 (208 + k))), (q 11, .inr (0, [.ref (q 12), .int (nI (z2 315)), .int (nI (z2 319)), .int (nI (z2 323))])), (q 12, aI κ 52 (fun k => z2 (260 + k))), (q2 11, .inr (0, [.ref (q2 12), .int (nI (z2 315)), .int (nI (z2 319)), .int (nI (z2 323))])), (q2 12, aI κ 52 (fun k => z2 (260 + k)))]) hc 0 rfl vw_2 inX2 tyX2_ok nmX2 6 (by decide) k_fl_RX2_36 rfl rfl rfl rfl (Nat.le_of_ble_eq_true rfl) rfl dX2_copyFrom_93 (n := 96) rfl ?_
  refine g_aload_n hc 0 rfl rfl dX2_copyFrom_96 (n := 97) rfl ?_
  refine g_aload_n hc 1 rfl rfl dX2_copyFrom_97 (n := 98) rfl ?_
  refine g_getf hc 5 rfl vw_2 inX2 7 (by decide) k_fl_RX2_53 rfl rfl dX2_copyFrom_98 (n := 101) rfl ?_
  refine g_putf (ws' := [(q 0, .inr (2, [.ref (q 1), .ref (q 2), .ref (q 3), .ref (q 4), .int (nI (z2 326)), .int (nI (z2 327)), .int (nI (z2 328)), .int (nI (z2 329)), .int (nI (z 330)), .int (nI (z 331)), .int (nI (z 332))])), (q 1, aI κ 2 (va_cpy (fun k => z2 (324 + k)) (fun k => z (324 + k)) 0 0 2)), (q 2, aI κ 52 (va_cpy z2 z 0 0 52)), (q 3, aZ κ 52 (va_cpy (fun k => z2 (52 + k)) (fun k => z (52 + k)) 0 0 52)), (q 4, aB κ 4 (fun k => some (q (5 + 2 * k)))), (q2 0, .inr (2, [.ref (q2 1), .ref (q2 2), .ref (q2 3), .ref (q2 4), .int (nI (z2 326)), .int (nI (z2 327)), .int (nI (z2 328)), .int (nI (z2 329)), .int (nI (z2 330)), .int (nI (z2 331)), .int (nI (z2 332))])), (q2 1, aI κ 2 (fun k => z2 (324 + k))), (q2 2, aI κ 52 z2), (q2 3, aZ κ 52 (fun k => z2 (52 + k))), (q2 4, aB κ 4 (fun k => some (q2 (5 + 2 * k)))), (q 5, .inr (0, [.ref (q 6), .int (nI (z2 312)), .int (nI (z2 316)), .int (nI (z2 320))])), (q 6, aI κ 52 (fun k => z2 (104 + k))), (q2 5, .inr (0, [.ref (q2 6), .int (nI (z2 312)), .int (nI (z2 316)), .int (nI (z2 320))])), (q2 6, aI κ 52 (fun k => z2 (104 + k))), (q 7, .inr (0, [.ref (q 8), .int (nI (z2 313)), .int (nI (z2 317)), .int (nI (z2 321))])), (q 8, aI κ 52 (fun k => z2 (156 + k))), (q2 7, .inr (0, [.ref (q2 8), .int (nI (z2 313)), .int (nI (z2 317)), .int (nI (z2 321))])), (q2 8, aI κ 52 (fun k => z2 (156 + k))), (q 9, .inr (0, [.ref (q 10), .int (nI (z2 314)), .int (nI (z2 318)), .int (nI (z2 322))])), (q 10, aI κ 52 (fun k => z2 (208 + k))), (q2 9, .inr (0, [.ref (q2 10), .int (nI (z2 314)), .int (nI (z2 318)), .int (nI (z2 322))])), (q2 10, aI κ 52 (fun k => z2 (208 + k))), (q 11, .inr (0, [.ref (q 12), .int (nI (z2 315)), .int (nI (z2 319)), .int (nI (z2 323))])), (q 12, aI κ 52 (fun k => z2 (260 + k))), (q2 11, .inr (0, [.ref (q2 12), .int (nI (z2 315)), .int (nI (z2 319)), .int (nI (z2 323))])), (q2 12, aI κ 52 (fun k => z2 (260 + k)))]) hc 0 rfl vw_2 inX2 tyX2_ok nmX2 7 (by decide) k_fl_RX2_53 rfl rfl rfl rfl (Nat.le_of_ble_eq_true rfl) rfl dX2_copyFrom_101 (n := 104) rfl ?_
  refine g_aload_n hc 0 rfl rfl dX2_copyFrom_104 (n := 105) rfl ?_
  refine g_aload_n hc 1 rfl rfl dX2_copyFrom_105 (n := 106) rfl ?_
  refine g_getf hc 5 rfl vw_2 inX2 8 (by decide) k_fl_RX2_56 rfl rfl dX2_copyFrom_106 (n := 109) rfl ?_
  refine g_putf (ws' := [(q 0, .inr (2, [.ref (q 1), .ref (q 2), .ref (q 3), .ref (q 4), .int (nI (z2 326)), .int (nI (z2 327)), .int (nI (z2 328)), .int (nI (z2 329)), .int (nI (z2 330)), .int (nI (z 331)), .int (nI (z 332))])), (q 1, aI κ 2 (va_cpy (fun k => z2 (324 + k)) (fun k => z (324 + k)) 0 0 2)), (q 2, aI κ 52 (va_cpy z2 z 0 0 52)), (q 3, aZ κ 52 (va_cpy (fun k => z2 (52 + k)) (fun k => z (52 + k)) 0 0 52)), (q 4, aB κ 4 (fun k => some (q (5 + 2 * k)))), (q2 0, .inr (2, [.ref (q2 1), .ref (q2 2), .ref (q2 3), .ref (q2 4), .int (nI (z2 326)), .int (nI (z2 327)), .int (nI (z2 328)), .int (nI (z2 329)), .int (nI (z2 330)), .int (nI (z2 331)), .int (nI (z2 332))])), (q2 1, aI κ 2 (fun k => z2 (324 + k))), (q2 2, aI κ 52 z2), (q2 3, aZ κ 52 (fun k => z2 (52 + k))), (q2 4, aB κ 4 (fun k => some (q2 (5 + 2 * k)))), (q 5, .inr (0, [.ref (q 6), .int (nI (z2 312)), .int (nI (z2 316)), .int (nI (z2 320))])), (q 6, aI κ 52 (fun k => z2 (104 + k))), (q2 5, .inr (0, [.ref (q2 6), .int (nI (z2 312)), .int (nI (z2 316)), .int (nI (z2 320))])), (q2 6, aI κ 52 (fun k => z2 (104 + k))), (q 7, .inr (0, [.ref (q 8), .int (nI (z2 313)), .int (nI (z2 317)), .int (nI (z2 321))])), (q 8, aI κ 52 (fun k => z2 (156 + k))), (q2 7, .inr (0, [.ref (q2 8), .int (nI (z2 313)), .int (nI (z2 317)), .int (nI (z2 321))])), (q2 8, aI κ 52 (fun k => z2 (156 + k))), (q 9, .inr (0, [.ref (q 10), .int (nI (z2 314)), .int (nI (z2 318)), .int (nI (z2 322))])), (q 10, aI κ 52 (fun k => z2 (208 + k))), (q2 9, .inr (0, [.ref (q2 10), .int (nI (z2 314)), .int (nI (z2 318)), .int (nI (z2 322))])), (q2 10, aI κ 52 (fun k => z2 (208 + k))), (q 11, .inr (0, [.ref (q 12), .int (nI (z2 315)), .int (nI (z2 319)), .int (nI (z2 323))])), (q 12, aI κ 52 (fun k => z2 (260 + k))), (q2 11, .inr (0, [.ref (q2 12), .int (nI (z2 315)), .int (nI (z2 319)), .int (nI (z2 323))])), (q2 12, aI κ 52 (fun k => z2 (260 + k)))]) hc 0 rfl vw_2 inX2 tyX2_ok nmX2 8 (by decide) k_fl_RX2_56 rfl rfl rfl rfl (Nat.le_of_ble_eq_true rfl) rfl dX2_copyFrom_109 (n := 112) rfl ?_
  refine g_aload_n hc 0 rfl rfl dX2_copyFrom_112 (n := 113) rfl ?_
  refine g_aload_n hc 1 rfl rfl dX2_copyFrom_113 (n := 114) rfl ?_
  refine g_getf hc 5 rfl vw_2 inX2 9 (by decide) k_fl_RX2_59 rfl rfl dX2_copyFrom_114 (n := 117) rfl ?_
  refine g_putf (ws' := [(q 0, .inr (2, [.ref (q 1), .ref (q 2), .ref (q 3), .ref (q 4), .int (nI (z2 326)), .int (nI (z2 327)), .int (nI (z2 328)), .int (nI (z2 329)), .int (nI (z2 330)), .int (nI (z2 331)), .int (nI (z 332))])), (q 1, aI κ 2 (va_cpy (fun k => z2 (324 + k)) (fun k => z (324 + k)) 0 0 2)), (q 2, aI κ 52 (va_cpy z2 z 0 0 52)), (q 3, aZ κ 52 (va_cpy (fun k => z2 (52 + k)) (fun k => z (52 + k)) 0 0 52)), (q 4, aB κ 4 (fun k => some (q (5 + 2 * k)))), (q2 0, .inr (2, [.ref (q2 1), .ref (q2 2), .ref (q2 3), .ref (q2 4), .int (nI (z2 326)), .int (nI (z2 327)), .int (nI (z2 328)), .int (nI (z2 329)), .int (nI (z2 330)), .int (nI (z2 331)), .int (nI (z2 332))])), (q2 1, aI κ 2 (fun k => z2 (324 + k))), (q2 2, aI κ 52 z2), (q2 3, aZ κ 52 (fun k => z2 (52 + k))), (q2 4, aB κ 4 (fun k => some (q2 (5 + 2 * k)))), (q 5, .inr (0, [.ref (q 6), .int (nI (z2 312)), .int (nI (z2 316)), .int (nI (z2 320))])), (q 6, aI κ 52 (fun k => z2 (104 + k))), (q2 5, .inr (0, [.ref (q2 6), .int (nI (z2 312)), .int (nI (z2 316)), .int (nI (z2 320))])), (q2 6, aI κ 52 (fun k => z2 (104 + k))), (q 7, .inr (0, [.ref (q 8), .int (nI (z2 313)), .int (nI (z2 317)), .int (nI (z2 321))])), (q 8, aI κ 52 (fun k => z2 (156 + k))), (q2 7, .inr (0, [.ref (q2 8), .int (nI (z2 313)), .int (nI (z2 317)), .int (nI (z2 321))])), (q2 8, aI κ 52 (fun k => z2 (156 + k))), (q 9, .inr (0, [.ref (q 10), .int (nI (z2 314)), .int (nI (z2 318)), .int (nI (z2 322))])), (q 10, aI κ 52 (fun k => z2 (208 + k))), (q2 9, .inr (0, [.ref (q2 10), .int (nI (z2 314)), .int (nI (z2 318)), .int (nI (z2 322))])), (q2 10, aI κ 52 (fun k => z2 (208 + k))), (q 11, .inr (0, [.ref (q 12), .int (nI (z2 315)), .int (nI (z2 319)), .int (nI (z2 323))])), (q 12, aI κ 52 (fun k => z2 (260 + k))), (q2 11, .inr (0, [.ref (q2 12), .int (nI (z2 315)), .int (nI (z2 319)), .int (nI (z2 323))])), (q2 12, aI κ 52 (fun k => z2 (260 + k)))]) hc 0 rfl vw_2 inX2 tyX2_ok nmX2 9 (by decide) k_fl_RX2_59 rfl rfl rfl rfl (Nat.le_of_ble_eq_true rfl) rfl dX2_copyFrom_117 (n := 120) rfl ?_
  refine g_aload_n hc 0 rfl rfl dX2_copyFrom_120 (n := 121) rfl ?_
  refine g_aload_n hc 1 rfl rfl dX2_copyFrom_121 (n := 122) rfl ?_
  refine g_getf hc 5 rfl vw_2 inX2 10 (by decide) k_fl_RX2_62 rfl rfl dX2_copyFrom_122 (n := 125) rfl ?_
  refine g_putf (ws' := [(q 0, .inr (2, [.ref (q 1), .ref (q 2), .ref (q 3), .ref (q 4), .int (nI (z2 326)), .int (nI (z2 327)), .int (nI (z2 328)), .int (nI (z2 329)), .int (nI (z2 330)), .int (nI (z2 331)), .int (nI (z2 332))])), (q 1, aI κ 2 (va_cpy (fun k => z2 (324 + k)) (fun k => z (324 + k)) 0 0 2)), (q 2, aI κ 52 (va_cpy z2 z 0 0 52)), (q 3, aZ κ 52 (va_cpy (fun k => z2 (52 + k)) (fun k => z (52 + k)) 0 0 52)), (q 4, aB κ 4 (fun k => some (q (5 + 2 * k)))), (q2 0, .inr (2, [.ref (q2 1), .ref (q2 2), .ref (q2 3), .ref (q2 4), .int (nI (z2 326)), .int (nI (z2 327)), .int (nI (z2 328)), .int (nI (z2 329)), .int (nI (z2 330)), .int (nI (z2 331)), .int (nI (z2 332))])), (q2 1, aI κ 2 (fun k => z2 (324 + k))), (q2 2, aI κ 52 z2), (q2 3, aZ κ 52 (fun k => z2 (52 + k))), (q2 4, aB κ 4 (fun k => some (q2 (5 + 2 * k)))), (q 5, .inr (0, [.ref (q 6), .int (nI (z2 312)), .int (nI (z2 316)), .int (nI (z2 320))])), (q 6, aI κ 52 (fun k => z2 (104 + k))), (q2 5, .inr (0, [.ref (q2 6), .int (nI (z2 312)), .int (nI (z2 316)), .int (nI (z2 320))])), (q2 6, aI κ 52 (fun k => z2 (104 + k))), (q 7, .inr (0, [.ref (q 8), .int (nI (z2 313)), .int (nI (z2 317)), .int (nI (z2 321))])), (q 8, aI κ 52 (fun k => z2 (156 + k))), (q2 7, .inr (0, [.ref (q2 8), .int (nI (z2 313)), .int (nI (z2 317)), .int (nI (z2 321))])), (q2 8, aI κ 52 (fun k => z2 (156 + k))), (q 9, .inr (0, [.ref (q 10), .int (nI (z2 314)), .int (nI (z2 318)), .int (nI (z2 322))])), (q 10, aI κ 52 (fun k => z2 (208 + k))), (q2 9, .inr (0, [.ref (q2 10), .int (nI (z2 314)), .int (nI (z2 318)), .int (nI (z2 322))])), (q2 10, aI κ 52 (fun k => z2 (208 + k))), (q 11, .inr (0, [.ref (q 12), .int (nI (z2 315)), .int (nI (z2 319)), .int (nI (z2 323))])), (q 12, aI κ 52 (fun k => z2 (260 + k))), (q2 11, .inr (0, [.ref (q2 12), .int (nI (z2 315)), .int (nI (z2 319)), .int (nI (z2 323))])), (q2 12, aI κ 52 (fun k => z2 (260 + k)))]) hc 0 rfl vw_2 inX2 tyX2_ok nmX2 10 (by decide) k_fl_RX2_62 rfl rfl rfl rfl (Nat.le_of_ble_eq_true rfl) rfl dX2_copyFrom_125 (n := 128) rfl ?_
  refine g_sub (ws' := [(q 0, .inr (2, [.ref (q 1), .ref (q 2), .ref (q 3), .ref (q 4), .int (nI (z2 326)), .int (nI (z2 327)), .int (nI (z2 328)), .int (nI (z2 329)), .int (nI (z2 330)), .int (nI (z2 331)), .int (nI (z2 332))])), (q 1, aI κ 2 (va_cpy (fun k => z2 (324 + k)) (fun k => z (324 + k)) 0 0 2)), (q 2, aI κ 52 (va_cpy z2 z 0 0 52)), (q 3, aZ κ 52 (va_cpy (fun k => z2 (52 + k)) (fun k => z (52 + k)) 0 0 52)), (q 4, aB κ 4 (fun k => some (q (5 + 2 * k)))), (q 5, .inr (0, [.ref (q 6), .int (nI (z2 312)), .int (nI (z2 316)), .int (nI (z2 320))])), (q 6, aI κ 52 (fun k => z2 (104 + k))), (q 7, .inr (0, [.ref (q 8), .int (nI (z2 313)), .int (nI (z2 317)), .int (nI (z2 321))])), (q 8, aI κ 52 (fun k => z2 (156 + k))), (q 9, .inr (0, [.ref (q 10), .int (nI (z2 314)), .int (nI (z2 318)), .int (nI (z2 322))])), (q 10, aI κ 52 (fun k => z2 (208 + k))), (q 11, .inr (0, [.ref (q 12), .int (nI (z2 315)), .int (nI (z2 319)), .int (nI (z2 323))])), (q 12, aI κ 52 (fun k => z2 (260 + k))), (q2 0, .inr (2, [.ref (q2 1), .ref (q2 2), .ref (q2 3), .ref (q2 4), .int (nI (z2 326)), .int (nI (z2 327)), .int (nI (z2 328)), .int (nI (z2 329)), .int (nI (z2 330)), .int (nI (z2 331)), .int (nI (z2 332))])), (q2 1, aI κ 2 (fun k => z2 (324 + k))), (q2 2, aI κ 52 z2), (q2 3, aZ κ 52 (fun k => z2 (52 + k))), (q2 4, aB κ 4 (fun k => some (q2 (5 + 2 * k)))), (q2 5, .inr (0, [.ref (q2 6), .int (nI (z2 312)), .int (nI (z2 316)), .int (nI (z2 320))])), (q2 6, aI κ 52 (fun k => z2 (104 + k))), (q2 7, .inr (0, [.ref (q2 8), .int (nI (z2 313)), .int (nI (z2 317)), .int (nI (z2 321))])), (q2 8, aI κ 52 (fun k => z2 (156 + k))), (q2 9, .inr (0, [.ref (q2 10), .int (nI (z2 314)), .int (nI (z2 318)), .int (nI (z2 322))])), (q2 10, aI κ 52 (fun k => z2 (208 + k))), (q2 11, .inr (0, [.ref (q2 12), .int (nI (z2 315)), .int (nI (z2 319)), .int (nI (z2 323))])), (q2 12, aI κ 52 (fun k => z2 (260 + k)))]) [0, 1, 2, 3, 4, 10, 11, 14, 15, 18, 19, 22, 23, 5, 6, 7, 8, 9, 12, 13, 16, 17, 20, 21, 24, 25] rfl rfl ?_
  refine g_arr (ws' := [(q 0, .inr (2, [.ref (q 1), .ref (q 2), .ref (q 3), .ref (q 4), .int (nI (z2 326)), .int (nI (z2 327)), .int (nI (z2 328)), .int (nI (z2 329)), .int (nI (z2 330)), .int (nI (z2 331)), .int (nI (z2 332))])), (q 1, aI κ 2 (fun k => z2 (324 + k))), (q 2, aI κ 52 (va_cpy z2 z 0 0 52)), (q 3, aZ κ 52 (va_cpy (fun k => z2 (52 + k)) (fun k => z (52 + k)) 0 0 52)), (q 4, aB κ 4 (fun k => some (q (5 + 2 * k)))), (q 5, .inr (0, [.ref (q 6), .int (nI (z2 312)), .int (nI (z2 316)), .int (nI (z2 320))])), (q 6, aI κ 52 (fun k => z2 (104 + k))), (q 7, .inr (0, [.ref (q 8), .int (nI (z2 313)), .int (nI (z2 317)), .int (nI (z2 321))])), (q 8, aI κ 52 (fun k => z2 (156 + k))), (q 9, .inr (0, [.ref (q 10), .int (nI (z2 314)), .int (nI (z2 318)), .int (nI (z2 322))])), (q 10, aI κ 52 (fun k => z2 (208 + k))), (q 11, .inr (0, [.ref (q 12), .int (nI (z2 315)), .int (nI (z2 319)), .int (nI (z2 323))])), (q 12, aI κ 52 (fun k => z2 (260 + k))), (q2 0, .inr (2, [.ref (q2 1), .ref (q2 2), .ref (q2 3), .ref (q2 4), .int (nI (z2 326)), .int (nI (z2 327)), .int (nI (z2 328)), .int (nI (z2 329)), .int (nI (z2 330)), .int (nI (z2 331)), .int (nI (z2 332))])), (q2 1, aI κ 2 (fun k => z2 (324 + k))), (q2 2, aI κ 52 z2), (q2 3, aZ κ 52 (fun k => z2 (52 + k))), (q2 4, aB κ 4 (fun k => some (q2 (5 + 2 * k)))), (q2 5, .inr (0, [.ref (q2 6), .int (nI (z2 312)), .int (nI (z2 316)), .int (nI (z2 320))])), (q2 6, aI κ 52 (fun k => z2 (104 + k))), (q2 7, .inr (0, [.ref (q2 8), .int (nI (z2 313)), .int (nI (z2 317)), .int (nI (z2 321))])), (q2 8, aI κ 52 (fun k => z2 (156 + k))), (q2 9, .inr (0, [.ref (q2 10), .int (nI (z2 314)), .int (nI (z2 318)), .int (nI (z2 322))])), (q2 10, aI κ 52 (fun k => z2 (208 + k))), (q2 11, .inr (0, [.ref (q2 12), .int (nI (z2 315)), .int (nI (z2 319)), .int (nI (z2 323))])), (q2 12, aI κ 52 (fun k => z2 (260 + k)))]) (f := va_cpy (fun k => z2 (324 + k)) (fun k => z (324 + k)) 0 0 2) (g := fun k => z2 (324 + k)) 1 rfl (fun k hk => by rw [va_cpy, if_pos ⟨Nat.zero_le k, by omega⟩]; simp) rfl ?_
  refine g_arr (ws' := [(q 0, .inr (2, [.ref (q 1), .ref (q 2), .ref (q 3), .ref (q 4), .int (nI (z2 326)), .int (nI (z2 327)), .int (nI (z2 328)), .int (nI (z2 329)), .int (nI (z2 330)), .int (nI (z2 331)), .int (nI (z2 332))])), (q 1, aI κ 2 (fun k => z2 (324 + k))), (q 2, aI κ 52 z2), (q 3, aZ κ 52 (va_cpy (fun k => z2 (52 + k)) (fun k => z (52 + k)) 0 0 52)), (q 4, aB κ 4 (fun k => some (q (5 + 2 * k)))), (q 5, .inr (0, [.ref (q 6), .int (nI (z2 312)), .int (nI (z2 316)), .int (nI (z2 320))])), (q 6, aI κ 52 (fun k => z2 (104 + k))), (q 7, .inr (0, [.ref (q 8), .int (nI (z2 313)), .int (nI (z2 317)), .int (nI (z2 321))])), (q 8, aI κ 52 (fun k => z2 (156 + k))), (q 9, .inr (0, [.ref (q 10), .int (nI (z2 314)), .int (nI (z2 318)), .int (nI (z2 322))])), (q 10, aI κ 52 (fun k => z2 (208 + k))), (q 11, .inr (0, [.ref (q 12), .int (nI (z2 315)), .int (nI (z2 319)), .int (nI (z2 323))])), (q 12, aI κ 52 (fun k => z2 (260 + k))), (q2 0, .inr (2, [.ref (q2 1), .ref (q2 2), .ref (q2 3), .ref (q2 4), .int (nI (z2 326)), .int (nI (z2 327)), .int (nI (z2 328)), .int (nI (z2 329)), .int (nI (z2 330)), .int (nI (z2 331)), .int (nI (z2 332))])), (q2 1, aI κ 2 (fun k => z2 (324 + k))), (q2 2, aI κ 52 z2), (q2 3, aZ κ 52 (fun k => z2 (52 + k))), (q2 4, aB κ 4 (fun k => some (q2 (5 + 2 * k)))), (q2 5, .inr (0, [.ref (q2 6), .int (nI (z2 312)), .int (nI (z2 316)), .int (nI (z2 320))])), (q2 6, aI κ 52 (fun k => z2 (104 + k))), (q2 7, .inr (0, [.ref (q2 8), .int (nI (z2 313)), .int (nI (z2 317)), .int (nI (z2 321))])), (q2 8, aI κ 52 (fun k => z2 (156 + k))), (q2 9, .inr (0, [.ref (q2 10), .int (nI (z2 314)), .int (nI (z2 318)), .int (nI (z2 322))])), (q2 10, aI κ 52 (fun k => z2 (208 + k))), (q2 11, .inr (0, [.ref (q2 12), .int (nI (z2 315)), .int (nI (z2 319)), .int (nI (z2 323))])), (q2 12, aI κ 52 (fun k => z2 (260 + k)))]) (f := va_cpy z2 z 0 0 52) (g := z2) 2 rfl (fun k hk => by rw [va_cpy, if_pos ⟨Nat.zero_le k, by omega⟩]; simp) rfl ?_
  refine g_arr (ws' := [(q 0, .inr (2, [.ref (q 1), .ref (q 2), .ref (q 3), .ref (q 4), .int (nI (z2 326)), .int (nI (z2 327)), .int (nI (z2 328)), .int (nI (z2 329)), .int (nI (z2 330)), .int (nI (z2 331)), .int (nI (z2 332))])), (q 1, aI κ 2 (fun k => z2 (324 + k))), (q 2, aI κ 52 z2), (q 3, aZ κ 52 (fun k => z2 (52 + k))), (q 4, aB κ 4 (fun k => some (q (5 + 2 * k)))), (q 5, .inr (0, [.ref (q 6), .int (nI (z2 312)), .int (nI (z2 316)), .int (nI (z2 320))])), (q 6, aI κ 52 (fun k => z2 (104 + k))), (q 7, .inr (0, [.ref (q 8), .int (nI (z2 313)), .int (nI (z2 317)), .int (nI (z2 321))])), (q 8, aI κ 52 (fun k => z2 (156 + k))), (q 9, .inr (0, [.ref (q 10), .int (nI (z2 314)), .int (nI (z2 318)), .int (nI (z2 322))])), (q 10, aI κ 52 (fun k => z2 (208 + k))), (q 11, .inr (0, [.ref (q 12), .int (nI (z2 315)), .int (nI (z2 319)), .int (nI (z2 323))])), (q 12, aI κ 52 (fun k => z2 (260 + k))), (q2 0, .inr (2, [.ref (q2 1), .ref (q2 2), .ref (q2 3), .ref (q2 4), .int (nI (z2 326)), .int (nI (z2 327)), .int (nI (z2 328)), .int (nI (z2 329)), .int (nI (z2 330)), .int (nI (z2 331)), .int (nI (z2 332))])), (q2 1, aI κ 2 (fun k => z2 (324 + k))), (q2 2, aI κ 52 z2), (q2 3, aZ κ 52 (fun k => z2 (52 + k))), (q2 4, aB κ 4 (fun k => some (q2 (5 + 2 * k)))), (q2 5, .inr (0, [.ref (q2 6), .int (nI (z2 312)), .int (nI (z2 316)), .int (nI (z2 320))])), (q2 6, aI κ 52 (fun k => z2 (104 + k))), (q2 7, .inr (0, [.ref (q2 8), .int (nI (z2 313)), .int (nI (z2 317)), .int (nI (z2 321))])), (q2 8, aI κ 52 (fun k => z2 (156 + k))), (q2 9, .inr (0, [.ref (q2 10), .int (nI (z2 314)), .int (nI (z2 318)), .int (nI (z2 322))])), (q2 10, aI κ 52 (fun k => z2 (208 + k))), (q2 11, .inr (0, [.ref (q2 12), .int (nI (z2 315)), .int (nI (z2 319)), .int (nI (z2 323))])), (q2 12, aI κ 52 (fun k => z2 (260 + k)))]) (f := va_cpy (fun k => z2 (52 + k)) (fun k => z (52 + k)) 0 0 52) (g := fun k => z2 (52 + k)) 3 rfl (fun k hk => by rw [va_cpy, if_pos ⟨Nat.zero_le k, by omega⟩]; simp) rfl ?_
  refine hret.2.2.1 _ _ _ _ _ rfl (by decide) (by decide) dX2_copyFrom_128 ?_
  exact ⟨rfl, rfl⟩
set_option maxHeartbeats 1000000 in
set_option maxRecDepth 100000 in
theorem c_X2_init (κ : Kp) (l : Launch) (t0 : Nat)  : CT κ l yX2_init cX2_init 2 none 2 40 12 334 [.ref t0] [(t0, .inr (2, [.null, .null, .null, .null, .int (nI 0), .int (nI 0), .int (nI 0), .int (nI 0), .int (nI 0), .int (nI 0), .int (nI 0)]))] (PV (fun ww => ∃ q : Nat → Nat, (q 0 = t0) ∧ ww = [(q 0, .inr (2, [.ref (q 1), .ref (q 2), .ref (q 3), .ref (q 4), .int (nI (zi 326)), .int (nI (zi 327)), .int (nI (zi 328)), .int (nI (zi 329)), .int (nI (zi 330)), .int (nI (zi 331)), .int (nI (zi 332))])), (q 1, aI κ 2 (fun k => zi (324 + k))), (q 2, aI κ 52 zi), (q 3, aZ κ 52 (fun k => zi (52 + k))), (q 4, aB κ 4 (fun k => some (q (5 + 2 * k)))), (q 5, .inr (0, [.ref (q 6), .int (nI (zi 312)), .int (nI (zi 316)), .int (nI (zi 320))])), (q 6, aI κ 52 (fun k => zi (104 + k))), (q 7, .inr (0, [.ref (q 8), .int (nI (zi 313)), .int (nI (zi 317)), .int (nI (zi 321))])), (q 8, aI κ 52 (fun k => zi (156 + k))), (q 9, .inr (0, [.ref (q 10), .int (nI (zi 314)), .int (nI (zi 318)), .int (nI (zi 322))])), (q 10, aI κ 52 (fun k => zi (208 + k))), (q 11, .inr (0, [.ref (q 12), .int (nI (zi 315)), .int (nI (zi 319)), .int (nI (zi 323))])), (q 12, aI κ 52 (fun k => zi (260 + k)))])) := by
  refine CT.go (plainFor_of_name (by decide)) (Nat.le_of_ble_eq_true rfl) ?_
  intro Γ A Q hl hc hret
  subst hl
  have hc : Cx κ Γ A cX2_init 2 RX2 "<init>" none { frames := 2, cells := 12, slots := 334, locals := 40 } := hc
  refine g_lv (lv' := [(0, .ref t0)]) rfl ?_
  refine g_aload_n hc 0 rfl rfl dX2_init_0 (n := 1) rfl ?_
  refine g_objInit (rest := []) hc k_ml_RX2_3 ⟨by decide, Nat.le_of_ble_eq_true rfl⟩ dX2_init_1 (n := 4) rfl ?_
  refine g_aload_n hc 0 rfl rfl dX2_init_4 (n := 5) rfl ?_
  refine g_iconst (v := nI 2) hc (by decide) dX2_init_5 (n := 6) rfl ?_
  refine n_newI hc k_ac_int (by decide) ⟨by decide, by decide⟩ (cells' := 1) (slots' := 2) rfl rfl dX2_init_6 (n := 8) rfl (fun q_1 => ?_)
  refine g_ws (ws' := [(t0, .inr (2, [.null, .null, .null, .null, .int (nI 0), .int (nI 0), .int (nI 0), .int (nI 0), .int (nI 0), .int (nI 0), .int (nI 0)])), (q_1, aI κ 2 (fun _ => 0))]) rfl ?_
  refine g_putF (ws' := [(t0, .inr (2, [.ref q_1, .null, .null, .null, .int (nI 0), .int (nI 0), .int (nI 0), .int (nI 0), .int (nI 0), .int (nI 0), .int (nI 0)])), (q_1, aI κ 2 (fun _ => 0))]) hc 0 rfl vw_2 inX2 tyX2_ok nmX2 0 (by decide) k_fl_RX2_9 rfl rfl rfl rfl rfl rfl (Nat.le_of_ble_eq_true rfl) rfl dX2_init_8 (n := 11) rfl ?_
  refine g_iconst (v := nI 0) hc (by decide) dX2_init_11 (n := 12) rfl ?_
  refine g_istore_n (lv2 := [(0, .ref t0), (1, .int (nI 0))]) hc rfl (by decide) [1, 0] rfl rfl dX2_init_12 (n := 13) rfl ?_
  refine g_iload_n hc 1 rfl rfl dX2_init_13 (n := 14) rfl ?_
  refine g_iconst (v := nI 2) hc (by decide) dX2_init_14 (n := 15) rfl ?_
  refine n_icmp_ge hc (by omega) (by omega) dX2_init_15 (tgt := 35) (by decide) (n := 18) rfl (fun c_2 => by (exfalso; revert c_2; first | omega | decide)) (fun c_2 => ?_)
  refine g_aload_n hc 0 rfl rfl dX2_init_18 (n := 19) rfl ?_
  refine g_getf hc 0 rfl vw_2 inX2 0 (by decide) k_fl_RX2_9 rfl rfl dX2_init_19 (n := 22) rfl ?_
  refine g_iload_n hc 1 rfl rfl dX2_init_22 (n := 23) rfl ?_
  refine g_getsN hc hc.en.1.1 hc.er.2.2.2.2 rfl dX2_init_23 (n := 26) rfl ?_
  refine g_iload_n hc 1 rfl rfl dX2_init_26 (n := 27) rfl ?_
  refine g_tld (v := .int (nI 8)) hc hc.en.1.2 (k := 0) (by decide) (by decide) rfl dX2_init_27 (n := 28) rfl ?_
  refine n_iast (ws' := [(t0, .inr (2, [.ref q_1, .null, .null, .null, .int (nI 0), .int (nI 0), .int (nI 0), .int (nI 0), .int (nI 0), .int (nI 0), .int (nI 0)])), (q_1, aI κ 2 (va_up (fun _ => 0) 0 8))]) hc 1 rfl (by omega) (by decide) rfl dX2_init_28 (n := 29) rfl ?_
  refine n_iinc (v := 1) (zk := 1) (lv2 := [(0, .ref t0), (1, .int (nI 1))]) hc 1 rfl (by decide) rfl (by decide) [1, 0] rfl rfl dX2_init_29 (n := 32) rfl ?_
  refine g_goto (n := 13) hc dX2_init_32 (by decide) ?_
  refine g_iload_n hc 1 rfl rfl dX2_init_13 (n := 14) rfl ?_
  refine g_iconst (v := nI 2) hc (by decide) dX2_init_14 (n := 15) rfl ?_
  refine n_icmp_ge hc (by omega) (by omega) dX2_init_15 (tgt := 35) (by decide) (n := 18) rfl (fun c_3 => by (exfalso; revert c_3; first | omega | decide)) (fun c_3 => ?_)
  refine g_aload_n hc 0 rfl rfl dX2_init_18 (n := 19) rfl ?_
  refine g_getf hc 0 rfl vw_2 inX2 0 (by decide) k_fl_RX2_9 rfl rfl dX2_init_19 (n := 22) rfl ?_
  refine g_iload_n hc 1 rfl rfl dX2_init_22 (n := 23) rfl ?_
  refine g_getsN hc hc.en.1.1 hc.er.2.2.2.2 rfl dX2_init_23 (n := 26) rfl ?_
  refine g_iload_n hc 1 rfl rfl dX2_init_26 (n := 27) rfl ?_
  refine g_tld (v := .int (nI 3)) hc hc.en.1.2 (k := 1) (by decide) (by decide) rfl dX2_init_27 (n := 28) rfl ?_
  refine n_iast (ws' := [(t0, .inr (2, [.ref q_1, .null, .null, .null, .int (nI 0), .int (nI 0), .int (nI 0), .int (nI 0), .int (nI 0), .int (nI 0), .int (nI 0)])), (q_1, aI κ 2 (va_up (va_up (fun _ => 0) 0 8) 1 3))]) hc 1 rfl (by omega) (by decide) rfl dX2_init_28 (n := 29) rfl ?_
  refine n_iinc (v := 2) (zk := 1) (lv2 := [(0, .ref t0), (1, .int (nI 2))]) hc 1 rfl (by decide) rfl (by decide) [1, 0] rfl rfl dX2_init_29 (n := 32) rfl ?_
  refine g_goto (n := 13) hc dX2_init_32 (by decide) ?_
  refine g_iload_n hc 1 rfl rfl dX2_init_13 (n := 14) rfl ?_
  refine g_iconst (v := nI 2) hc (by decide) dX2_init_14 (n := 15) rfl ?_
  refine n_icmp_ge hc (by omega) (by omega) dX2_init_15 (tgt := 35) (by decide) (n := 18) rfl (fun c_4 => ?_) (fun c_4 => by (exfalso; revert c_4; first | omega | decide))
  refine g_aload_n hc 0 rfl rfl dX2_init_35 (n := 36) rfl ?_
  refine g_bipush (v := nI 52) hc (by decide) dX2_init_36 (n := 38) rfl ?_
  refine n_newI hc k_ac_int (by decide) ⟨by decide, by decide⟩ (cells' := 2) (slots' := 54) rfl rfl dX2_init_38 (n := 40) rfl (fun q_5 => ?_)
  refine g_ws (ws' := [(t0, .inr (2, [.ref q_1, .null, .null, .null, .int (nI 0), .int (nI 0), .int (nI 0), .int (nI 0), .int (nI 0), .int (nI 0), .int (nI 0)])), (q_1, aI κ 2 (va_up (va_up (fun _ => 0) 0 8) 1 3)), (q_5, aI κ 52 (fun _ => 0))]) rfl ?_
  refine g_putF (ws' := [(t0, .inr (2, [.ref q_1, .ref q_5, .null, .null, .int (nI 0), .int (nI 0), .int (nI 0), .int (nI 0), .int (nI 0), .int (nI 0), .int (nI 0)])), (q_1, aI κ 2 (va_up (va_up (fun _ => 0) 0 8) 1 3)), (q_5, aI κ 52 (fun _ => 0))]) hc 0 rfl vw_2 inX2 tyX2_ok nmX2 1 (by decide) k_fl_RX2_18 rfl rfl rfl rfl rfl rfl (Nat.le_of_ble_eq_true rfl) rfl dX2_init_40 (n := 43) rfl ?_
  refine g_iconst (v := nI 0) hc (by decide) dX2_init_43 (n := 44) rfl ?_
  refine g_istore_n (lv2 := [(0, .ref t0), (1, .int (nI 0))]) hc rfl (by decide) [1, 0] rfl rfl dX2_init_44 (n := 45) rfl ?_
  have L_6 : ∀ (fuel : Nat) (i : Nat) (g : Nat → Nat), (i ≤ 52) → (∀ k, k < i → g k = k) → 52 - i < fuel → G κ Γ A 2 2 54 Q [(t0, .inr (2, [.ref q_1, .ref q_5, .null, .null, .int (nI 0), .int (nI 0), .int (nI 0), .int (nI 0), .int (nI 0), .int (nI 0), .int (nI 0)])), (q_1, aI κ 2 (va_up (va_up (fun _ => 0) 0 8) 1 3)), (q_5, aI κ 52 g)] 45 [(0, .ref t0), (1, .int (nI i))] [] := by
    intro fuel
    induction fuel with
    | zero => intro i g hi hg h; exact absurd h (Nat.not_lt_zero _)
    | succ fuel ih_7 =>
      intro i g hi hg hn_8
      refine g_iload_n hc 1 rfl rfl dX2_init_45 (n := 46) rfl ?_
      refine g_bipush (v := nI 52) hc (by decide) dX2_init_46 (n := 48) rfl ?_
      refine n_icmp_ge hc (by omega) (by omega) dX2_init_48 (tgt := 64) (by decide) (n := 51) rfl (fun c_9 => ?_) (fun c_9 => ?_)
      · skip
        refine g_aload_n hc 0 rfl rfl dX2_init_64 (n := 65) rfl ?_
        refine g_bipush (v := nI 52) hc (by decide) dX2_init_65 (n := 67) rfl ?_
        refine n_newZ hc k_ac_boolean (by decide) ⟨by decide, by decide⟩ (cells' := 3) (slots' := 106) rfl rfl dX2_init_67 (n := 69) rfl (fun q_10 => ?_)
        refine g_ws (ws' := [(t0, .inr (2, [.ref q_1, .ref q_5, .null, .null, .int (nI 0), .int (nI 0), .int (nI 0), .int (nI 0), .int (nI 0), .int (nI 0), .int (nI 0)])), (q_1, aI κ 2 (va_up (va_up (fun _ => 0) 0 8) 1 3)), (q_5, aI κ 52 g), (q_10, aZ κ 52 (fun _ => 0))]) rfl ?_
        refine g_putF (ws' := [(t0, .inr (2, [.ref q_1, .ref q_5, .ref q_10, .null, .int (nI 0), .int (nI 0), .int (nI 0), .int (nI 0), .int (nI 0), .int (nI 0), .int (nI 0)])), (q_1, aI κ 2 (va_up (va_up (fun _ => 0) 0 8) 1 3)), (q_5, aI κ 52 g), (q_10, aZ κ 52 (fun _ => 0))]) hc 0 rfl vw_2 inX2 tyX2_ok nmX2 2 (by decide) k_fl_RX2_21 rfl rfl rfl rfl rfl rfl (Nat.le_of_ble_eq_true rfl) rfl dX2_init_69 (n := 72) rfl ?_
        refine g_aload_n hc 0 rfl rfl dX2_init_72 (n := 73) rfl ?_
        refine g_iconst (v := nI 4) hc (by decide) dX2_init_73 (n := 74) rfl ?_
        refine n_newB hc k_cl_RX2_25 (by decide) ⟨by decide, by decide⟩ (cells' := 4) (slots' := 110) rfl rfl dX2_init_74 (n := 77) rfl (fun q_11 => ?_)
        refine g_ws (ws' := [(t0, .inr (2, [.ref q_1, .ref q_5, .ref q_10, .null, .int (nI 0), .int (nI 0), .int (nI 0), .int (nI 0), .int (nI 0), .int (nI 0), .int (nI 0)])), (q_1, aI κ 2 (va_up (va_up (fun _ => 0) 0 8) 1 3)), (q_5, aI κ 52 g), (q_10, aZ κ 52 (fun _ => 0)), (q_11, aB κ 4 (fun _ => none))]) rfl ?_
        refine g_putF (ws' := [(t0, .inr (2, [.ref q_1, .ref q_5, .ref q_10, .ref q_11, .int (nI 0), .int (nI 0), .int (nI 0), .int (nI 0), .int (nI 0), .int (nI 0), .int (nI 0)])), (q_1, aI κ 2 (va_up (va_up (fun _ => 0) 0 8) 1 3)), (q_5, aI κ 52 g), (q_10, aZ κ 52 (fun _ => 0)), (q_11, aB κ 4 (fun _ => none))]) hc 0 rfl vw_2 inX2 tyX2_ok nmX2 3 (by decide) k_fl_RX2_27 rfl rfl rfl rfl rfl rfl (Nat.le_of_ble_eq_true rfl) rfl dX2_init_77 (n := 80) rfl ?_
        refine g_iconst (v := nI 0) hc (by decide) dX2_init_80 (n := 81) rfl ?_
        refine g_istore_n (lv2 := [(0, .ref t0), (1, .int (nI 0))]) hc rfl (by decide) [1, 0] rfl rfl dX2_init_81 (n := 82) rfl ?_
        refine g_iload_n hc 1 rfl rfl dX2_init_82 (n := 83) rfl ?_
        refine g_iconst (v := nI 4) hc (by decide) dX2_init_83 (n := 84) rfl ?_
        refine n_icmp_ge hc (by omega) (by omega) dX2_init_84 (tgt := 106) (by decide) (n := 87) rfl (fun c_12 => by (exfalso; revert c_12; first | omega | decide)) (fun c_12 => ?_)
        refine g_aload_n hc 0 rfl rfl dX2_init_87 (n := 88) rfl ?_
        refine g_getf hc 0 rfl vw_2 inX2 3 (by decide) k_fl_RX2_27 rfl rfl dX2_init_88 (n := 91) rfl ?_
        refine g_iload_n hc 1 rfl rfl dX2_init_91 (n := 92) rfl ?_
        refine g_new (fs := [.null, .int (nI 0), .int (nI 0), .int (nI 0)]) hc vw_0 inX0 tyX0_ok k_cl_RX2_25 k_is_RX0 k_in_RX0 (df_X0) ⟨by decide, by decide⟩ (cells' := 5) (slots' := 114) rfl rfl dX2_init_92 (n := 95) rfl (fun q_13 => ?_)
        refine g_ws (ws' := [(t0, .inr (2, [.ref q_1, .ref q_5, .ref q_10, .ref q_11, .int (nI 0), .int (nI 0), .int (nI 0), .int (nI 0), .int (nI 0), .int (nI 0), .int (nI 0)])), (q_1, aI κ 2 (va_up (va_up (fun _ => 0) 0 8) 1 3)), (q_5, aI κ 52 g), (q_10, aZ κ 52 (fun _ => 0)), (q_11, aB κ 4 (fun _ => none)), (q_13, .inr (0, [.null, .int (nI 0), .int (nI 0), .int (nI 0)]))]) rfl ?_
        refine g_dup hc rfl dX2_init_95 (n := 96) rfl ?_
        refine g_callI (rest := [.ref q_13, .int (nI 0), .ref q_11]) (As := []) (cells' := 6) (slots' := 166) hc (c_X0_init κ _ q_13) q_X0_init k_ml_RX2_31 rfl rfl (jn_ix (wr := [(t0, .inr (2, [.ref q_1, .ref q_5, .ref q_10, .ref q_11, .int (nI 0), .int (nI 0), .int (nI 0), .int (nI 0), .int (nI 0), .int (nI 0), .int (nI 0)])), (q_1, aI κ 2 (va_up (va_up (fun _ => 0) 0 8) 1 3)), (q_5, aI κ 52 g), (q_10, aZ κ 52 (fun _ => 0)), (q_11, aB κ 4 (fun _ => none))]) [5] [0, 1, 2, 3, 4] rfl rfl rfl rfl (by decide)) ⟨⟨by decide, by decide⟩, by decide, by decide⟩ (Nat.le_of_ble_eq_true rfl) rfl rfl dX2_init_96 (n := 99) rfl (fun vv ww hp => ?_)
        obtain ⟨rfl, q1_14, rfl⟩ := hp
        refine ⟨_, rfl, ?_⟩
        refine g_ws (ws' := [(t0, .inr (2, [.ref q_1, .ref q_5, .ref q_10, .ref q_11, .int (nI 0), .int (nI 0), .int (nI 0), .int (nI 0), .int (nI 0), .int (nI 0), .int (nI 0)])), (q_1, aI κ 2 (va_up (va_up (fun _ => 0) 0 8) 1 3)), (q_5, aI κ 52 g), (q_10, aZ κ 52 (fun _ => 0)), (q_11, aB κ 4 (fun _ => none)), (q_13, .inr (0, [.ref q1_14, .int (nI 0), .int (nI 0), .int (nI 0)])), (q1_14, aI κ 52 (fun _ => 0))]) rfl ?_
        refine g_st (st' := [.ref q_13, .int (nI 0), .ref q_11]) rfl ?_
        refine n_astB (ws' := [(t0, .inr (2, [.ref q_1, .ref q_5, .ref q_10, .ref q_11, .int (nI 0), .int (nI 0), .int (nI 0), .int (nI 0), .int (nI 0), .int (nI 0), .int (nI 0)])), (q_1, aI κ 2 (va_up (va_up (fun _ => 0) 0 8) 1 3)), (q_5, aI κ 52 g), (q_10, aZ κ 52 (fun _ => 0)), (q_11, aB κ 4 (va_up (fun _ => none) 0 (some q_13))), (q_13, .inr (0, [.ref q1_14, .int (nI 0), .int (nI 0), .int (nI 0)])), (q1_14, aI κ 52 (fun _ => 0))]) hc 4 5 rfl rfl vw_0 (by omega) (by decide) rfl dX2_init_99 (n := 100) rfl ?_
        refine n_iinc (v := 1) (zk := 1) (lv2 := [(0, .ref t0), (1, .int (nI 1))]) hc 1 rfl (by decide) rfl (by decide) [1, 0] rfl rfl dX2_init_100 (n := 103) rfl ?_
        refine g_goto (n := 82) hc dX2_init_103 (by decide) ?_
        refine g_iload_n hc 1 rfl rfl dX2_init_82 (n := 83) rfl ?_
        refine g_iconst (v := nI 4) hc (by decide) dX2_init_83 (n := 84) rfl ?_
        refine n_icmp_ge hc (by omega) (by omega) dX2_init_84 (tgt := 106) (by decide) (n := 87) rfl (fun c_15 => by (exfalso; revert c_15; first | omega | decide)) (fun c_15 => ?_)
        refine g_aload_n hc 0 rfl rfl dX2_init_87 (n := 88) rfl ?_
        refine g_getf hc 0 rfl vw_2 inX2 3 (by decide) k_fl_RX2_27 rfl rfl dX2_init_88 (n := 91) rfl ?_
        refine g_iload_n hc 1 rfl rfl dX2_init_91 (n := 92) rfl ?_
        refine g_new (fs := [.null, .int (nI 0), .int (nI 0), .int (nI 0)]) hc vw_0 inX0 tyX0_ok k_cl_RX2_25 k_is_RX0 k_in_RX0 (df_X0) ⟨by decide, by decide⟩ (cells' := 7) (slots' := 170) rfl rfl dX2_init_92 (n := 95) rfl (fun q_16 => ?_)
        refine g_ws (ws' := [(t0, .inr (2, [.ref q_1, .ref q_5, .ref q_10, .ref q_11, .int (nI 0), .int (nI 0), .int (nI 0), .int (nI 0), .int (nI 0), .int (nI 0), .int (nI 0)])), (q_1, aI κ 2 (va_up (va_up (fun _ => 0) 0 8) 1 3)), (q_5, aI κ 52 g), (q_10, aZ κ 52 (fun _ => 0)), (q_11, aB κ 4 (va_up (fun _ => none) 0 (some q_13))), (q_13, .inr (0, [.ref q1_14, .int (nI 0), .int (nI 0), .int (nI 0)])), (q1_14, aI κ 52 (fun _ => 0)), (q_16, .inr (0, [.null, .int (nI 0), .int (nI 0), .int (nI 0)]))]) rfl ?_
        refine g_dup hc rfl dX2_init_95 (n := 96) rfl ?_
        refine g_callI (rest := [.ref q_16, .int (nI 1), .ref q_11]) (As := []) (cells' := 8) (slots' := 222) hc (c_X0_init κ _ q_16) q_X0_init k_ml_RX2_31 rfl rfl (jn_ix (wr := [(t0, .inr (2, [.ref q_1, .ref q_5, .ref q_10, .ref q_11, .int (nI 0), .int (nI 0), .int (nI 0), .int (nI 0), .int (nI 0), .int (nI 0), .int (nI 0)])), (q_1, aI κ 2 (va_up (va_up (fun _ => 0) 0 8) 1 3)), (q_5, aI κ 52 g), (q_10, aZ κ 52 (fun _ => 0)), (q_11, aB κ 4 (va_up (fun _ => none) 0 (some q_13))), (q_13, .inr (0, [.ref q1_14, .int (nI 0), .int (nI 0), .int (nI 0)])), (q1_14, aI κ 52 (fun _ => 0))]) [7] [0, 1, 2, 3, 4, 5, 6] rfl rfl rfl rfl (by decide)) ⟨⟨by decide, by decide⟩, by decide, by decide⟩ (Nat.le_of_ble_eq_true rfl) rfl rfl dX2_init_96 (n := 99) rfl (fun vv ww hp => ?_)
        obtain ⟨rfl, q1_17, rfl⟩ := hp
        refine ⟨_, rfl, ?_⟩
        refine g_ws (ws' := [(t0, .inr (2, [.ref q_1, .ref q_5, .ref q_10, .ref q_11, .int (nI 0), .int (nI 0), .int (nI 0), .int (nI 0), .int (nI 0), .int (nI 0), .int (nI 0)])), (q_1, aI κ 2 (va_up (va_up (fun _ => 0) 0 8) 1 3)), (q_5, aI κ 52 g), (q_10, aZ κ 52 (fun _ => 0)), (q_11, aB κ 4 (va_up (fun _ => none) 0 (some q_13))), (q_13, .inr (0, [.ref q1_14, .int (nI 0), .int (nI 0), .int (nI 0)])), (q1_14, aI κ 52 (fun _ => 0)), (q_16, .inr (0, [.ref q1_17, .int (nI 0), .int (nI 0), .int (nI 0)])), (q1_17, aI κ 52 (fun _ => 0))]) rfl ?_
        refine g_st (st' := [.ref q_16, .int (nI 1), .ref q_11]) rfl ?_
        refine n_astB (ws' := [(t0, .inr (2, [.ref q_1, .ref q_5, .ref q_10, .ref q_11, .int (nI 0), .int (nI 0), .int (nI 0), .int (nI 0), .int (nI 0), .int (nI 0), .int (nI 0)])), (q_1, aI κ 2 (va_up (va_up (fun _ => 0) 0 8) 1 3)), (q_5, aI κ 52 g), (q_10, aZ κ 52 (fun _ => 0)), (q_11, aB κ 4 (va_up (va_up (fun _ => none) 0 (some q_13)) 1 (some q_16))), (q_13, .inr (0, [.ref q1_14, .int (nI 0), .int (nI 0), .int (nI 0)])), (q1_14, aI κ 52 (fun _ => 0)), (q_16, .inr (0, [.ref q1_17, .int (nI 0), .int (nI 0), .int (nI 0)])), (q1_17, aI κ 52 (fun _ => 0))]) hc 4 7 rfl rfl vw_0 (by omega) (by decide) rfl dX2_init_99 (n := 100) rfl ?_
        refine n_iinc (v := 2) (zk := 1) (lv2 := [(0, .ref t0), (1, .int (nI 2))]) hc 1 rfl (by decide) rfl (by decide) [1, 0] rfl rfl dX2_init_100 (n := 103) rfl ?_
        refine g_goto (n := 82) hc dX2_init_103 (by decide) ?_
        refine g_iload_n hc 1 rfl rfl dX2_init_82 (n := 83) rfl ?_
        refine g_iconst (v := nI 4) hc (by decide) dX2_init_83 (n := 84) rfl ?_
        refine n_icmp_ge hc (by omega) (by omega) dX2_init_84 (tgt := 106) (by decide) (n := 87) rfl (fun c_18 => by (exfalso; revert c_18; first | omega | decide)) (fun c_18 => ?_)
        refine g_aload_n hc 0 rfl rfl dX2_init_87 (n := 88) rfl ?_
        refine g_getf hc 0 rfl vw_2 inX2 3 (by decide) k_fl_RX2_27 rfl rfl dX2_init_88 (n := 91) rfl ?_
        refine g_iload_n hc 1 rfl rfl dX2_init_91 (n := 92) rfl ?_
        refine g_new (fs := [.null, .int (nI 0), .int (nI 0), .int (nI 0)]) hc vw_0 inX0 tyX0_ok k_cl_RX2_25 k_is_RX0 k_in_RX0 (df_X0) ⟨by decide, by decide⟩ (cells' := 9) (slots' := 226) rfl rfl dX2_init_92 (n := 95) rfl (fun q_19 => ?_)
        refine g_ws (ws' := [(t0, .inr (2, [.ref q_1, .ref q_5, .ref q_10, .ref q_11, .int (nI 0), .int (nI 0), .int (nI 0), .int (nI 0), .int (nI 0), .int (nI 0), .int (nI 0)])), (q_1, aI κ 2 (va_up (va_up (fun _ => 0) 0 8) 1 3)), (q_5, aI κ 52 g), (q_10, aZ κ 52 (fun _ => 0)), (q_11, aB κ 4 (va_up (va_up (fun _ => none) 0 (some q_13)) 1 (some q_16))), (q_13, .inr (0, [.ref q1_14, .int (nI 0), .int (nI 0), .int (nI 0)])), (q1_14, aI κ 52 (fun _ => 0)), (q_16, .inr (0, [.ref q1_17, .int (nI 0), .int (nI 0), .int (nI 0)])), (q1_17, aI κ 52 (fun _ => 0)), (q_19, .inr (0, [.null, .int (nI 0), .int (nI 0), .int (nI 0)]))]) rfl ?_
        refine g_dup hc rfl dX2_init_95 (n := 96) rfl ?_
        refine g_callI (rest := [.ref q_19, .int (nI 2), .ref q_11]) (As := []) (cells' := 10) (slots' := 278) hc (c_X0_init κ _ q_19) q_X0_init k_ml_RX2_31 rfl rfl (jn_ix (wr := [(t0, .inr (2, [.ref q_1, .ref q_5, .ref q_10, .ref q_11, .int (nI 0), .int (nI 0), .int (nI 0), .int (nI 0), .int (nI 0), .int (nI 0), .int (nI 0)])), (q_1, aI κ 2 (va_up (va_up (fun _ => 0) 0 8) 1 3)), (q_5, aI κ 52 g), (q_10, aZ κ 52 (fun _ => 0)), (q_11, aB κ 4 (va_up (va_up (fun _ => none) 0 (some q_13)) 1 (some q_16))), (q_13, .inr (0, [.ref q1_14, .int (nI 0), .int (nI 0), .int (nI 0)])), (q1_14, aI κ 52 (fun _ => 0)), (q_16, .inr (0, [.ref q1_17, .int (nI 0), .int (nI 0), .int (nI 0)])), (q1_17, aI κ 52 (fun _ => 0))]) [9] [0, 1, 2, 3, 4, 5, 6, 7, 8] rfl rfl rfl rfl (by decide)) ⟨⟨by decide, by decide⟩, by decide, by decide⟩ (Nat.le_of_ble_eq_true rfl) rfl rfl dX2_init_96 (n := 99) rfl (fun vv ww hp => ?_)
        obtain ⟨rfl, q1_20, rfl⟩ := hp
        refine ⟨_, rfl, ?_⟩
        refine g_ws (ws' := [(t0, .inr (2, [.ref q_1, .ref q_5, .ref q_10, .ref q_11, .int (nI 0), .int (nI 0), .int (nI 0), .int (nI 0), .int (nI 0), .int (nI 0), .int (nI 0)])), (q_1, aI κ 2 (va_up (va_up (fun _ => 0) 0 8) 1 3)), (q_5, aI κ 52 g), (q_10, aZ κ 52 (fun _ => 0)), (q_11, aB κ 4 (va_up (va_up (fun _ => none) 0 (some q_13)) 1 (some q_16))), (q_13, .inr (0, [.ref q1_14, .int (nI 0), .int (nI 0), .int (nI 0)])), (q1_14, aI κ 52 (fun _ => 0)), (q_16, .inr (0, [.ref q1_17, .int (nI 0), .int (nI 0), .int (nI 0)])), (q1_17, aI κ 52 (fun _ => 0)), (q_19, .inr (0, [.ref q1_20, .int (nI 0), .int (nI 0), .int (nI 0)])), (q1_20, aI κ 52 (fun _ => 0))]) rfl ?_
        refine g_st (st' := [.ref q_19, .int (nI 2), .ref q_11]) rfl ?_
        refine n_astB (ws' := [(t0, .inr (2, [.ref q_1, .ref q_5, .ref q_10, .ref q_11, .int (nI 0), .int (nI 0), .int (nI 0), .int (nI 0), .int (nI 0), .int (nI 0), .int (nI 0)])), (q_1, aI κ 2 (va_up (va_up (fun _ => 0) 0 8) 1 3)), (q_5, aI κ 52 g), (q_10, aZ κ 52 (fun _ => 0)), (q_11, aB κ 4 (va_up (va_up (va_up (fun _ => none) 0 (some q_13)) 1 (some q_16)) 2 (some q_19))), (q_13, .inr (0, [.ref q1_14, .int (nI 0), .int (nI 0), .int (nI 0)])), (q1_14, aI κ 52 (fun _ => 0)), (q_16, .inr (0, [.ref q1_17, .int (nI 0), .int (nI 0), .int (nI 0)])), (q1_17, aI κ 52 (fun _ => 0)), (q_19, .inr (0, [.ref q1_20, .int (nI 0), .int (nI 0), .int (nI 0)])), (q1_20, aI κ 52 (fun _ => 0))]) hc 4 9 rfl rfl vw_0 (by omega) (by decide) rfl dX2_init_99 (n := 100) rfl ?_
        refine n_iinc (v := 3) (zk := 1) (lv2 := [(0, .ref t0), (1, .int (nI 3))]) hc 1 rfl (by decide) rfl (by decide) [1, 0] rfl rfl dX2_init_100 (n := 103) rfl ?_
        refine g_goto (n := 82) hc dX2_init_103 (by decide) ?_
        refine g_iload_n hc 1 rfl rfl dX2_init_82 (n := 83) rfl ?_
        refine g_iconst (v := nI 4) hc (by decide) dX2_init_83 (n := 84) rfl ?_
        refine n_icmp_ge hc (by omega) (by omega) dX2_init_84 (tgt := 106) (by decide) (n := 87) rfl (fun c_21 => by (exfalso; revert c_21; first | omega | decide)) (fun c_21 => ?_)
        refine g_aload_n hc 0 rfl rfl dX2_init_87 (n := 88) rfl ?_
        refine g_getf hc 0 rfl vw_2 inX2 3 (by decide) k_fl_RX2_27 rfl rfl dX2_init_88 (n := 91) rfl ?_
        refine g_iload_n hc 1 rfl rfl dX2_init_91 (n := 92) rfl ?_
        refine g_new (fs := [.null, .int (nI 0), .int (nI 0), .int (nI 0)]) hc vw_0 inX0 tyX0_ok k_cl_RX2_25 k_is_RX0 k_in_RX0 (df_X0) ⟨by decide, by decide⟩ (cells' := 11) (slots' := 282) rfl rfl dX2_init_92 (n := 95) rfl (fun q_22 => ?_)
        refine g_ws (ws' := [(t0, .inr (2, [.ref q_1, .ref q_5, .ref q_10, .ref q_11, .int (nI 0), .int (nI 0), .int (nI 0), .int (nI 0), .int (nI 0), .int (nI 0), .int (nI 0)])), (q_1, aI κ 2 (va_up (va_up (fun _ => 0) 0 8) 1 3)), (q_5, aI κ 52 g), (q_10, aZ κ 52 (fun _ => 0)), (q_11, aB κ 4 (va_up (va_up (va_up (fun _ => none) 0 (some q_13)) 1 (some q_16)) 2 (some q_19))), (q_13, .inr (0, [.ref q1_14, .int (nI 0), .int (nI 0), .int (nI 0)])), (q1_14, aI κ 52 (fun _ => 0)), (q_16, .inr (0, [.ref q1_17, .int (nI 0), .int (nI 0), .int (nI 0)])), (q1_17, aI κ 52 (fun _ => 0)), (q_19, .inr (0, [.ref q1_20, .int (nI 0), .int (nI 0), .int (nI 0)])), (q1_20, aI κ 52 (fun _ => 0)), (q_22, .inr (0, [.null, .int (nI 0), .int (nI 0), .int (nI 0)]))]) rfl ?_
        refine g_dup hc rfl dX2_init_95 (n := 96) rfl ?_
        refine g_callI (rest := [.ref q_22, .int (nI 3), .ref q_11]) (As := []) (cells' := 12) (slots' := 334) hc (c_X0_init κ _ q_22) q_X0_init k_ml_RX2_31 rfl rfl (jn_ix (wr := [(t0, .inr (2, [.ref q_1, .ref q_5, .ref q_10, .ref q_11, .int (nI 0), .int (nI 0), .int (nI 0), .int (nI 0), .int (nI 0), .int (nI 0), .int (nI 0)])), (q_1, aI κ 2 (va_up (va_up (fun _ => 0) 0 8) 1 3)), (q_5, aI κ 52 g), (q_10, aZ κ 52 (fun _ => 0)), (q_11, aB κ 4 (va_up (va_up (va_up (fun _ => none) 0 (some q_13)) 1 (some q_16)) 2 (some q_19))), (q_13, .inr (0, [.ref q1_14, .int (nI 0), .int (nI 0), .int (nI 0)])), (q1_14, aI κ 52 (fun _ => 0)), (q_16, .inr (0, [.ref q1_17, .int (nI 0), .int (nI 0), .int (nI 0)])), (q1_17, aI κ 52 (fun _ => 0)), (q_19, .inr (0, [.ref q1_20, .int (nI 0), .int (nI 0), .int (nI 0)])), (q1_20, aI κ 52 (fun _ => 0))]) [11] [0, 1, 2, 3, 4, 5, 6, 7, 8, 9, 10] rfl rfl rfl rfl (by decide)) ⟨⟨by decide, by decide⟩, by decide, by decide⟩ (Nat.le_of_ble_eq_true rfl) rfl rfl dX2_init_96 (n := 99) rfl (fun vv ww hp => ?_)
        obtain ⟨rfl, q1_23, rfl⟩ := hp
        refine ⟨_, rfl, ?_⟩
        refine g_ws (ws' := [(t0, .inr (2, [.ref q_1, .ref q_5, .ref q_10, .ref q_11, .int (nI 0), .int (nI 0), .int (nI 0), .int (nI 0), .int (nI 0), .int (nI 0), .int (nI 0)])), (q_1, aI κ 2 (va_up (va_up (fun _ => 0) 0 8) 1 3)), (q_5, aI κ 52 g), (q_10, aZ κ 52 (fun _ => 0)), (q_11, aB κ 4 (va_up (va_up (va_up (fun _ => none) 0 (some q_13)) 1 (some q_16)) 2 (some q_19))), (q_13, .inr (0, [.ref q1_14, .int (nI 0), .int (nI 0), .int (nI 0)])), (q1_14, aI κ 52 (fun _ => 0)), (q_16, .inr (0, [.ref q1_17, .int (nI 0), .int (nI 0), .int (nI 0)])), (q1_17, aI κ 52 (fun _ => 0)), (q_19, .inr (0, [.ref q1_20, .int (nI 0), .int (nI 0), .int (nI 0)])), (q1_20, aI κ 52 (fun _ => 0)), (q_22, .inr (0, [.ref q1_23, .int (nI 0), .int (nI 0), .int (nI 0)])), (q1_23, aI κ 52 (fun _ => 0))]) rfl ?_
        refine g_st (st' := [.ref q_22, .int (nI 3), .ref q_11]) rfl ?_
        refine n_astB (ws' := [(t0, .inr (2, [.ref q_1, .ref q_5, .ref q_10, .ref q_11, .int (nI 0), .int (nI 0), .int (nI 0), .int (nI 0), .int (nI 0), .int (nI 0), .int (nI 0)])), (q_1, aI κ 2 (va_up (va_up (fun _ => 0) 0 8) 1 3)), (q_5, aI κ 52 g), (q_10, aZ κ 52 (fun _ => 0)), (q_11, aB κ 4 (va_up (va_up (va_up (va_up (fun _ => none) 0 (some q_13)) 1 (some q_16)) 2 (some q_19)) 3 (some q_22))), (q_13, .inr (0, [.ref q1_14, .int (nI 0), .int (nI 0), .int (nI 0)])), (q1_14, aI κ 52 (fun _ => 0)), (q_16, .inr (0, [.ref q1_17, .int (nI 0), .int (nI 0), .int (nI 0)])), (q1_17, aI κ 52 (fun _ => 0)), (q_19, .inr (0, [.ref q1_20, .int (nI 0), .int (nI 0), .int (nI 0)])), (q1_20, aI κ 52 (fun _ => 0)), (q_22, .inr (0, [.ref q1_23, .int (nI 0), .int (nI 0), .int (nI 0)])), (q1_23, aI κ 52 (fun _ => 0))]) hc 4 11 rfl rfl vw_0 (by omega) (by decide) rfl dX2_init_99 (n := 100) rfl ?_
        refine n_iinc (v := 4) (zk := 1) (lv2 := [(0, .ref t0), (1, .int (nI 4))]) hc 1 rfl (by decide) rfl (by decide) [1, 0] rfl rfl dX2_init_100 (n := 103) rfl ?_
        refine g_goto (n := 82) hc dX2_init_103 (by decide) ?_
        refine g_iload_n hc 1 rfl rfl dX2_init_82 (n := 83) rfl ?_
        refine g_iconst (v := nI 4) hc (by decide) dX2_init_83 (n := 84) rfl ?_
        refine n_icmp_ge hc (by omega) (by omega) dX2_init_84 (tgt := 106) (by decide) (n := 87) rfl (fun c_24 => ?_) (fun c_24 => by (exfalso; revert c_24; first | omega | decide))
        refine g_aload_n hc 0 rfl rfl dX2_init_106 (n := 107) rfl ?_
        refine g_iconst (v := nI 1) hc (by decide) dX2_init_107 (n := 108) rfl ?_
        refine g_putf (ws' := [(t0, .inr (2, [.ref q_1, .ref q_5, .ref q_10, .ref q_11, .int (nI 1), .int (nI 0), .int (nI 0), .int (nI 0), .int (nI 0), .int (nI 0), .int (nI 0)])), (q_1, aI κ 2 (va_up (va_up (fun _ => 0) 0 8) 1 3)), (q_5, aI κ 52 g), (q_10, aZ κ 52 (fun _ => 0)), (q_11, aB κ 4 (va_up (va_up (va_up (va_up (fun _ => none) 0 (some q_13)) 1 (some q_16)) 2 (some q_19)) 3 (some q_22))), (q_13, .inr (0, [.ref q1_14, .int (nI 0), .int (nI 0), .int (nI 0)])), (q1_14, aI κ 52 (fun _ => 0)), (q_16, .inr (0, [.ref q1_17, .int (nI 0), .int (nI 0), .int (nI 0)])), (q1_17, aI κ 52 (fun _ => 0)), (q_19, .inr (0, [.ref q1_20, .int (nI 0), .int (nI 0), .int (nI 0)])), (q1_20, aI κ 52 (fun _ => 0)), (q_22, .inr (0, [.ref q1_23, .int (nI 0), .int (nI 0), .int (nI 0)])), (q1_23, aI κ 52 (fun _ => 0))]) hc 0 rfl vw_2 inX2 tyX2_ok nmX2 4 (by decide) k_fl_RX2_32 rfl rfl rfl rfl (Nat.le_of_ble_eq_true rfl) rfl dX2_init_108 (n := 111) rfl ?_
        refine g_aload_n hc 0 rfl rfl dX2_init_111 (n := 112) rfl ?_
        refine g_bipush (v := nI 4294967290) hc (by decide) dX2_init_112 (n := 114) rfl ?_
        refine g_putf (ws' := [(t0, .inr (2, [.ref q_1, .ref q_5, .ref q_10, .ref q_11, .int (nI 1), .int (nI 0), .int (nI 4294967290), .int (nI 0), .int (nI 0), .int (nI 0), .int (nI 0)])), (q_1, aI κ 2 (va_up (va_up (fun _ => 0) 0 8) 1 3)), (q_5, aI κ 52 g), (q_10, aZ κ 52 (fun _ => 0)), (q_11, aB κ 4 (va_up (va_up (va_up (va_up (fun _ => none) 0 (some q_13)) 1 (some q_16)) 2 (some q_19)) 3 (some q_22))), (q_13, .inr (0, [.ref q1_14, .int (nI 0), .int (nI 0), .int (nI 0)])), (q1_14, aI κ 52 (fun _ => 0)), (q_16, .inr (0, [.ref q1_17, .int (nI 0), .int (nI 0), .int (nI 0)])), (q1_17, aI κ 52 (fun _ => 0)), (q_19, .inr (0, [.ref q1_20, .int (nI 0), .int (nI 0), .int (nI 0)])), (q1_20, aI κ 52 (fun _ => 0)), (q_22, .inr (0, [.ref q1_23, .int (nI 0), .int (nI 0), .int (nI 0)])), (q1_23, aI κ 52 (fun _ => 0))]) hc 0 rfl vw_2 inX2 tyX2_ok nmX2 6 (by decide) k_fl_RX2_36 rfl rfl rfl rfl (Nat.le_of_ble_eq_true rfl) rfl dX2_init_114 (n := 117) rfl ?_
        refine g_sub (ws' := [(t0, .inr (2, [.ref q_1, .ref q_5, .ref q_10, .ref q_11, .int (nI 1), .int (nI 0), .int (nI 4294967290), .int (nI 0), .int (nI 0), .int (nI 0), .int (nI 0)])), (q_1, aI κ 2 (va_up (va_up (fun _ => 0) 0 8) 1 3)), (q_5, aI κ 52 g), (q_10, aZ κ 52 (fun _ => 0)), (q_11, aB κ 4 (va_up (va_up (va_up (va_up (fun _ => none) 0 (some q_13)) 1 (some q_16)) 2 (some q_19)) 3 (some q_22))), (q_13, .inr (0, [.ref q1_14, .int (nI 0), .int (nI 0), .int (nI 0)])), (q1_14, aI κ 52 (fun _ => 0)), (q_16, .inr (0, [.ref q1_17, .int (nI 0), .int (nI 0), .int (nI 0)])), (q1_17, aI κ 52 (fun _ => 0)), (q_19, .inr (0, [.ref q1_20, .int (nI 0), .int (nI 0), .int (nI 0)])), (q1_20, aI κ 52 (fun _ => 0)), (q_22, .inr (0, [.ref q1_23, .int (nI 0), .int (nI 0), .int (nI 0)])), (q1_23, aI κ 52 (fun _ => 0))]) [0, 1, 2, 3, 4, 5, 6, 7, 8, 9, 10, 11, 12] rfl rfl ?_
        refine g_arr (ws' := [(t0, .inr (2, [.ref q_1, .ref q_5, .ref q_10, .ref q_11, .int (nI 1), .int (nI 0), .int (nI 4294967290), .int (nI 0), .int (nI 0), .int (nI 0), .int (nI 0)])), (q_1, aI κ 2 (fun k => zi (324 + k))), (q_5, aI κ 52 g), (q_10, aZ κ 52 (fun _ => 0)), (q_11, aB κ 4 (va_up (va_up (va_up (va_up (fun _ => none) 0 (some q_13)) 1 (some q_16)) 2 (some q_19)) 3 (some q_22))), (q_13, .inr (0, [.ref q1_14, .int (nI 0), .int (nI 0), .int (nI 0)])), (q1_14, aI κ 52 (fun _ => 0)), (q_16, .inr (0, [.ref q1_17, .int (nI 0), .int (nI 0), .int (nI 0)])), (q1_17, aI κ 52 (fun _ => 0)), (q_19, .inr (0, [.ref q1_20, .int (nI 0), .int (nI 0), .int (nI 0)])), (q1_20, aI κ 52 (fun _ => 0)), (q_22, .inr (0, [.ref q1_23, .int (nI 0), .int (nI 0), .int (nI 0)])), (q1_23, aI κ 52 (fun _ => 0))]) (f := va_up (va_up (fun _ => 0) 0 8) 1 3) (g := fun k => zi (324 + k)) 1 rfl (fun k hk => by match k, hk with | 0, _ => rfl | 1, _ => rfl) rfl ?_
        refine g_arr (ws' := [(t0, .inr (2, [.ref q_1, .ref q_5, .ref q_10, .ref q_11, .int (nI 1), .int (nI 0), .int (nI 4294967290), .int (nI 0), .int (nI 0), .int (nI 0), .int (nI 0)])), (q_1, aI κ 2 (fun k => zi (324 + k))), (q_5, aI κ 52 zi), (q_10, aZ κ 52 (fun _ => 0)), (q_11, aB κ 4 (va_up (va_up (va_up (va_up (fun _ => none) 0 (some q_13)) 1 (some q_16)) 2 (some q_19)) 3 (some q_22))), (q_13, .inr (0, [.ref q1_14, .int (nI 0), .int (nI 0), .int (nI 0)])), (q1_14, aI κ 52 (fun _ => 0)), (q_16, .inr (0, [.ref q1_17, .int (nI 0), .int (nI 0), .int (nI 0)])), (q1_17, aI κ 52 (fun _ => 0)), (q_19, .inr (0, [.ref q1_20, .int (nI 0), .int (nI 0), .int (nI 0)])), (q1_20, aI κ 52 (fun _ => 0)), (q_22, .inr (0, [.ref q1_23, .int (nI 0), .int (nI 0), .int (nI 0)])), (q1_23, aI κ 52 (fun _ => 0))]) (f := g) (g := zi) 2 rfl (fun k hk => by have := hg k (by omega); rw [this]; unfold zi; rw [if_pos hk]) rfl ?_
        refine g_arr (ws' := [(t0, .inr (2, [.ref q_1, .ref q_5, .ref q_10, .ref q_11, .int (nI 1), .int (nI 0), .int (nI 4294967290), .int (nI 0), .int (nI 0), .int (nI 0), .int (nI 0)])), (q_1, aI κ 2 (fun k => zi (324 + k))), (q_5, aI κ 52 zi), (q_10, aZ κ 52 (fun k => zi (52 + k))), (q_11, aB κ 4 (va_up (va_up (va_up (va_up (fun _ => none) 0 (some q_13)) 1 (some q_16)) 2 (some q_19)) 3 (some q_22))), (q_13, .inr (0, [.ref q1_14, .int (nI 0), .int (nI 0), .int (nI 0)])), (q1_14, aI κ 52 (fun _ => 0)), (q_16, .inr (0, [.ref q1_17, .int (nI 0), .int (nI 0), .int (nI 0)])), (q1_17, aI κ 52 (fun _ => 0)), (q_19, .inr (0, [.ref q1_20, .int (nI 0), .int (nI 0), .int (nI 0)])), (q1_20, aI κ 52 (fun _ => 0)), (q_22, .inr (0, [.ref q1_23, .int (nI 0), .int (nI 0), .int (nI 0)])), (q1_23, aI κ 52 (fun _ => 0))]) (f := fun _ => 0) (g := fun k => zi (52 + k)) 3 rfl (fun k hk => by unfold zi; repeat (rw [if_neg (by omega)])) rfl ?_
        refine g_arrq (ws' := [(t0, .inr (2, [.ref q_1, .ref q_5, .ref q_10, .ref q_11, .int (nI 1), .int (nI 0), .int (nI 4294967290), .int (nI 0), .int (nI 0), .int (nI 0), .int (nI 0)])), (q_1, aI κ 2 (fun k => zi (324 + k))), (q_5, aI κ 52 zi), (q_10, aZ κ 52 (fun k => zi (52 + k))), (q_11, aB κ 4 (fun k => some ((fun k => ([t0, q_1, q_5, q_10, q_11, q_13, q1_14, q_16, q1_17, q_19, q1_20, q_22, q1_23] : List Nat).getD k 0) (5 + 2 * k)))), (q_13, .inr (0, [.ref q1_14, .int (nI 0), .int (nI 0), .int (nI 0)])), (q1_14, aI κ 52 (fun _ => 0)), (q_16, .inr (0, [.ref q1_17, .int (nI 0), .int (nI 0), .int (nI 0)])), (q1_17, aI κ 52 (fun _ => 0)), (q_19, .inr (0, [.ref q1_20, .int (nI 0), .int (nI 0), .int (nI 0)])), (q1_20, aI κ 52 (fun _ => 0)), (q_22, .inr (0, [.ref q1_23, .int (nI 0), .int (nI 0), .int (nI 0)])), (q1_23, aI κ 52 (fun _ => 0))]) (f := va_up (va_up (va_up (va_up (fun _ => none) 0 (some q_13)) 1 (some q_16)) 2 (some q_19)) 3 (some q_22)) (g := fun k => some ((fun k => ([t0, q_1, q_5, q_10, q_11, q_13, q1_14, q_16, q1_17, q_19, q1_20, q_22, q1_23] : List Nat).getD k 0) (5 + 2 * k))) 4 rfl (fun k hk => by match k, hk with | 0, _ => rfl | 1, _ => rfl | 2, _ => rfl | 3, _ => rfl) rfl ?_
        refine g_arr (ws' := [(t0, .inr (2, [.ref q_1, .ref q_5, .ref q_10, .ref q_11, .int (nI 1), .int (nI 0), .int (nI 4294967290), .int (nI 0), .int (nI 0), .int (nI 0), .int (nI 0)])), (q_1, aI κ 2 (fun k => zi (324 + k))), (q_5, aI κ 52 zi), (q_10, aZ κ 52 (fun k => zi (52 + k))), (q_11, aB κ 4 (fun k => some ((fun k => ([t0, q_1, q_5, q_10, q_11, q_13, q1_14, q_16, q1_17, q_19, q1_20, q_22, q1_23] : List Nat).getD k 0) (5 + 2 * k)))), (q_13, .inr (0, [.ref q1_14, .int (nI 0), .int (nI 0), .int (nI 0)])), (q1_14, aI κ 52 (fun k => zi (104 + k))), (q_16, .inr (0, [.ref q1_17, .int (nI 0), .int (nI 0), .int (nI 0)])), (q1_17, aI κ 52 (fun _ => 0)), (q_19, .inr (0, [.ref q1_20, .int (nI 0), .int (nI 0), .int (nI 0)])), (q1_20, aI κ 52 (fun _ => 0)), (q_22, .inr (0, [.ref q1_23, .int (nI 0), .int (nI 0), .int (nI 0)])), (q1_23, aI κ 52 (fun _ => 0))]) (f := fun _ => 0) (g := fun k => zi (104 + k)) 6 rfl (fun k hk => by unfold zi; repeat (rw [if_neg (by omega)])) rfl ?_
        refine g_arr (ws' := [(t0, .inr (2, [.ref q_1, .ref q_5, .ref q_10, .ref q_11, .int (nI 1), .int (nI 0), .int (nI 4294967290), .int (nI 0), .int (nI 0), .int (nI 0), .int (nI 0)])), (q_1, aI κ 2 (fun k => zi (324 + k))), (q_5, aI κ 52 zi), (q_10, aZ κ 52 (fun k => zi (52 + k))), (q_11, aB κ 4 (fun k => some ((fun k => ([t0, q_1, q_5, q_10, q_11, q_13, q1_14, q_16, q1_17, q_19, q1_20, q_22, q1_23] : List Nat).getD k 0) (5 + 2 * k)))), (q_13, .inr (0, [.ref q1_14, .int (nI 0), .int (nI 0), .int (nI 0)])), (q1_14, aI κ 52 (fun k => zi (104 + k))), (q_16, .inr (0, [.ref q1_17, .int (nI 0), .int (nI 0), .int (nI 0)])), (q1_17, aI κ 52 (fun k => zi (156 + k))), (q_19, .inr (0, [.ref q1_20, .int (nI 0), .int (nI 0), .int (nI 0)])), (q1_20, aI κ 52 (fun _ => 0)), (q_22, .inr (0, [.ref q1_23, .int (nI 0), .int (nI 0), .int (nI 0)])), (q1_23, aI κ 52 (fun _ => 0))]) (f := fun _ => 0) (g := fun k => zi (156 + k)) 8 rfl (fun k hk => by unfold zi; repeat (rw [if_neg (by omega)])) rfl ?_
        refine g_arr (ws' := [(t0, .inr (2, [.ref q_1, .ref q_5, .ref q_10, .ref q_11, .int (nI 1), .int (nI 0), .int (nI 4294967290), .int (nI 0), .int (nI 0), .int (nI 0), .int (nI 0)])), (q_1, aI κ 2 (fun k => zi (324 + k))), (q_5, aI κ 52 zi), (q_10, aZ κ 52 (fun k => zi (52 + k))), (q_11, aB κ 4 (fun k => some ((fun k => ([t0, q_1, q_5, q_10, q_11, q_13, q1_14, q_16, q1_17, q_19, q1_20, q_22, q1_23] : List Nat).getD k 0) (5 + 2 * k)))), (q_13, .inr (0, [.ref q1_14, .int (nI 0), .int (nI 0), .int (nI 0)])), (q1_14, aI κ 52 (fun k => zi (104 + k))), (q_16, .inr (0, [.ref q1_17, .int (nI 0), .int (nI 0), .int (nI 0)])), (q1_17, aI κ 52 (fun k => zi (156 + k))), (q_19, .inr (0, [.ref q1_20, .int (nI 0), .int (nI 0), .int (nI 0)])), (q1_20, aI κ 52 (fun k => zi (208 + k))), (q_22, .inr (0, [.ref q1_23, .int (nI 0), .int (nI 0), .int (nI 0)])), (q1_23, aI κ 52 (fun _ => 0))]) (f := fun _ => 0) (g := fun k => zi (208 + k)) 10 rfl (fun k hk => by unfold zi; repeat (rw [if_neg (by omega)])) rfl ?_
        refine g_arr (ws' := [(t0, .inr (2, [.ref q_1, .ref q_5, .ref q_10, .ref q_11, .int (nI 1), .int (nI 0), .int (nI 4294967290), .int (nI 0), .int (nI 0), .int (nI 0), .int (nI 0)])), (q_1, aI κ 2 (fun k => zi (324 + k))), (q_5, aI κ 52 zi), (q_10, aZ κ 52 (fun k => zi (52 + k))), (q_11, aB κ 4 (fun k => some ((fun k => ([t0, q_1, q_5, q_10, q_11, q_13, q1_14, q_16, q1_17, q_19, q1_20, q_22, q1_23] : List Nat).getD k 0) (5 + 2 * k)))), (q_13, .inr (0, [.ref q1_14, .int (nI 0), .int (nI 0), .int (nI 0)])), (q1_14, aI κ 52 (fun k => zi (104 + k))), (q_16, .inr (0, [.ref q1_17, .int (nI 0), .int (nI 0), .int (nI 0)])), (q1_17, aI κ 52 (fun k => zi (156 + k))), (q_19, .inr (0, [.ref q1_20, .int (nI 0), .int (nI 0), .int (nI 0)])), (q1_20, aI κ 52 (fun k => zi (208 + k))), (q_22, .inr (0, [.ref q1_23, .int (nI 0), .int (nI 0), .int (nI 0)])), (q1_23, aI κ 52 (fun k => zi (260 + k)))]) (f := fun _ => 0) (g := fun k => zi (260 + k)) 12 rfl (fun k hk => by unfold zi; repeat (rw [if_neg (by omega)])) rfl ?_
        refine hret.2.2.1 _ _ _ _ _ rfl (by decide) (by decide) dX2_init_117 ?_
        exact ⟨rfl, (fun k => ([t0, q_1, q_5, q_10, q_11, q_13, q1_14, q_16, q1_17, q_19, q1_20, q_22, q1_23] : List Nat).getD k 0), rfl, rfl⟩
      · skip
        refine g_aload_n hc 0 rfl rfl dX2_init_51 (n := 52) rfl ?_
        refine g_getf hc 0 rfl vw_2 inX2 1 (by decide) k_fl_RX2_18 rfl rfl dX2_init_52 (n := 55) rfl ?_
        refine g_iload_n hc 1 rfl rfl dX2_init_55 (n := 56) rfl ?_
        refine g_iload_n hc 1 rfl rfl dX2_init_56 (n := 57) rfl ?_
        refine n_iast (ws' := [(t0, .inr (2, [.ref q_1, .ref q_5, .null, .null, .int (nI 0), .int (nI 0), .int (nI 0), .int (nI 0), .int (nI 0), .int (nI 0), .int (nI 0)])), (q_1, aI κ 2 (va_up (va_up (fun _ => 0) 0 8) 1 3)), (q_5, aI κ 52 (va_up g i i))]) hc 2 rfl (by omega) (by decide) rfl dX2_init_57 (n := 58) rfl ?_
        refine n_iinc (v := i + 1) (zk := 1) (lv2 := [(0, .ref t0), (1, .int (nI (i + 1)))]) hc 1 rfl (by decide) rfl (by decide) [1, 0] rfl rfl dX2_init_58 (n := 61) rfl ?_
        refine g_goto (n := 45) hc dX2_init_61 (by decide) ?_
        exact ih_7 (i + 1) (va_up g i i) (by omega) (fun k hk => (Nat.lt_succ_iff_lt_or_eq.mp hk).elim (fun q => (va_up_ne _ _ (by omega)).trans (hg k q)) (fun q => by subst q; exact va_up_self _ _ _)) (by omega)
  exact L_6 _ 0 (fun _ => 0) (by omega) (fun k hk => absurd hk (Nat.not_lt_zero _)) (Nat.lt_succ_self _)
