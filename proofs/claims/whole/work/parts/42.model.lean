set_option maxHeartbeats 1000000 in
set_option maxRecDepth 100000 in
theorem c_X5_keptIf_none (κ : Kp) (l : Launch) (m : Nat → Nat) (n : Nat) (ln : Nat) (z : Nat → Nat) (y : Nat → Nat) (r0 : Nat → Nat) (p0 : Nat → Nat) (r : Nat) (hv : Zv z) (hr : r < 2 ^ 31) : CT κ l yX5_keptIf cX5_keptIf 4 (some .int) 2 48 0 0 [.ref (m 0), .int (nI r), .int (-6)] [(m 0, .inr (5, [.ref (m 1), .ref (m 2), .ref (m 3), .int (nI n), .ref (m 4), .ref (m 5), .ref (m 6), .int (nI ln), .ref (m 7), .ref (m 8)])), (m 1, aI κ 333 z), (m 2, aI κ 333 y), (m 7, aI κ 52 r0), (m 8, aI κ 52 p0)] (PI (fun rr ww => ∃ r2 : Nat → Nat, ∃ p2 : Nat → Nat, rr = (nI (kp z (ri z r).2)) ∧ ww = [(m 0, .inr (5, [.ref (m 1), .ref (m 2), .ref (m 3), .int (nI n), .ref (m 4), .ref (m 5), .ref (m 6), .int (nI ln), .ref (m 7), .ref (m 8)])), (m 1, aI κ 333 z), (m 2, aI κ 333 z), (m 7, aI κ 52 r2), (m 8, aI κ 52 p2)])) := by
  refine CT.go (plainFor_of_name (by decide)) (Nat.le_of_ble_eq_true rfl) ?_
  intro Γ A Q hl hc hret
  subst hl
  have hc : Cx κ Γ A cX5_keptIf 4 RX5 "keptIf" (some .int) { frames := 2, cells := 0, slots := 0, locals := 48 } := hc
  refine g_lv (lv' := [(0, .ref (m 0)), (1, .int (nI r)), (2, .int (-6))]) rfl ?_
  obtain ⟨hzb, hzf, hzc, hp, hh, hk1, hk2, hx⟩ := id hv
  refine g_aload_n hc 0 rfl rfl dX5_keptIf_0 (n := 1) rfl ?_
  refine g_callV (rest := []) (As := []) (cells' := 0) (slots' := 0) hc (c_X5_putAside κ _ m n ln z y ) q_X5_putAside k_ml_RX5_60 rfl rfl (jn_ix (wr := [(m 7, aI κ 52 r0), (m 8, aI κ 52 p0)]) [0, 1, 2] [3, 4] rfl rfl rfl rfl (by decide)) (qr := 0) rfl vw_5 ⟨⟨by decide, by decide⟩, by decide, by decide⟩ (Nat.le_of_ble_eq_true rfl) rfl rfl dX5_keptIf_1 (n := 4) rfl (fun vv ww hp => ?_)
  obtain ⟨rfl, rfl⟩ := hp
  refine ⟨_, rfl, ?_⟩
  refine g_ws (ws' := [(m 7, aI κ 52 r0), (m 8, aI κ 52 p0), (m 0, .inr (5, [.ref (m 1), .ref (m 2), .ref (m 3), .int (nI n), .ref (m 4), .ref (m 5), .ref (m 6), .int (nI ln), .ref (m 7), .ref (m 8)])), (m 1, aI κ 333 z), (m 2, aI κ 333 z)]) rfl ?_
  refine g_st (st' := []) rfl ?_
  refine g_iload_n hc 2 rfl rfl dX5_keptIf_4 (n := 5) rfl ?_
  refine g_if_lt hc dX5_keptIf_5 (tgt := 18) (by decide) (n := 8) rfl (fun c_1 => ?_) (fun c_1 => by (exfalso; revert c_1; first | omega | decide))
  refine g_arr (ws' := [(m 7, aI κ 52 r0), (m 8, aI κ 52 p0), (m 0, .inr (5, [.ref (m 1), .ref (m 2), .ref (m 3), .int (nI n), .ref (m 4), .ref (m 5), .ref (m 6), .int (nI ln), .ref (m 7), .ref (m 8)])), (m 1, aI κ 333 (rfn z (bz z) z (z 326) 0)), (m 2, aI κ 333 z)]) (f := z) (g := rfn z (bz z) z (z 326) 0) 3 rfl (fun k hk => rfn_0 (bz z) (fun k hk => rfl) rfl k) rfl ?_
  refine g_iconst (v := nI 0) hc (by decide) dX5_keptIf_18 (n := 19) rfl ?_
  refine g_istore_n (lv2 := [(0, .ref (m 0)), (1, .int (nI r)), (2, .int (-6)), (3, .int (nI 0))]) hc rfl (by decide) [1, 2, 3, 0] rfl rfl dX5_keptIf_19 (n := 20) rfl ?_
  have L_2 : ∀ (fuel : Nat) (i : Nat) (r1 : Nat → Nat), (i ≤ r) → r - i < fuel → G κ Γ A 4 0 0 Q [(m 7, aI κ 52 r1), (m 8, aI κ 52 p0), (m 0, .inr (5, [.ref (m 1), .ref (m 2), .ref (m 3), .int (nI n), .ref (m 4), .ref (m 5), .ref (m 6), .int (nI ln), .ref (m 7), .ref (m 8)])), (m 1, aI κ 333 (rfn z (bz z) z (z 326) i)), (m 2, aI κ 333 z)] 20 [(0, .ref (m 0)), (1, .int (nI r)), (2, .int (-6)), (3, .int (nI i))] [] := by
    intro fuel
    induction fuel with
    | zero => intro i r1 hi h; exact absurd h (Nat.not_lt_zero _)
    | succ fuel ih_3 =>
      intro i r1 hi hn_4
      refine g_iload_n hc 3 rfl rfl dX5_keptIf_20 (n := 21) rfl ?_
      refine g_iload_n hc 1 rfl rfl dX5_keptIf_21 (n := 22) rfl ?_
      refine n_icmp_ge hc (by omega) (by omega) dX5_keptIf_22 (tgt := 35) (by decide) (n := 25) rfl (fun c_5 => ?_) (fun c_5 => ?_)
      · skip
        refine g_aload_n hc 0 rfl rfl dX5_keptIf_35 (n := 36) rfl ?_
        have hin := rit_in (b := (bz z)) hp hx (i)
        refine g_callV (rest := []) (As := []) (cells' := 0) (slots' := 0) hc (c_X5_keptPairs κ _ m n ln (rfn z (bz z) z (z 326) i) z p0 ((rit (bz z) z (z 326) i).2) hin.2 (fun k hk => rfn_p _ _ _ _ _ hk) hp) q_X5_keptPairs k_ml_RX5_66 rfl rfl (jn_ix (wr := [(m 7, aI κ 52 r1)]) [2, 3, 4, 1] [0] rfl rfl rfl rfl (by decide)) (qr := 2) rfl vw_5 ⟨⟨by decide, by decide⟩, by decide, by decide⟩ (Nat.le_of_ble_eq_true rfl) rfl rfl dX5_keptIf_36 (n := 39) rfl (fun vv ww hp => ?_)
        obtain ⟨rr, rfl, rfl, rfl⟩ := hp
        refine ⟨_, rfl, ?_⟩
        refine g_ws (ws' := [(m 7, aI κ 52 r1), (m 0, .inr (5, [.ref (m 1), .ref (m 2), .ref (m 3), .int (nI n), .ref (m 4), .ref (m 5), .ref (m 6), .int (nI ln), .ref (m 7), .ref (m 8)])), (m 1, aI κ 333 (rfn z (bz z) z (z 326) i)), (m 2, aI κ 333 z), (m 8, aI κ 52 (inv ((rit (bz z) z (z 326) i).2)))]) rfl ?_
        refine g_st (st' := [.int (nI (kp z ((rit (bz z) z (z 326) i).2)))]) rfl ?_
        refine g_istore_n (lv2 := [(0, .ref (m 0)), (1, .int (nI r)), (2, .int (-6)), (3, .int (nI (kp z ((rit (bz z) z (z 326) i).2))))]) hc rfl (by decide) [1, 2, 3, 0] rfl rfl dX5_keptIf_39 (n := 40) rfl ?_
        refine g_aload_n hc 0 rfl rfl dX5_keptIf_40 (n := 41) rfl ?_
        refine g_callV (rest := []) (As := []) (cells' := 0) (slots' := 0) hc (c_X5_putBack κ _ m n ln (rfn z (bz z) z (z 326) i) z ) q_X5_putBack k_ml_RX5_70 rfl rfl (jn_ix (wr := [(m 7, aI κ 52 r1), (m 8, aI κ 52 (inv ((rit (bz z) z (z 326) i).2)))]) [1, 2, 3] [0, 4] rfl rfl rfl rfl (by decide)) (qr := 1) rfl vw_5 ⟨⟨by decide, by decide⟩, by decide, by decide⟩ (Nat.le_of_ble_eq_true rfl) rfl rfl dX5_keptIf_41 (n := 44) rfl (fun vv ww hp => ?_)
        obtain ⟨rfl, rfl⟩ := hp
        refine ⟨_, rfl, ?_⟩
        refine g_ws (ws' := [(m 7, aI κ 52 r1), (m 8, aI κ 52 (inv ((rit (bz z) z (z 326) i).2))), (m 0, .inr (5, [.ref (m 1), .ref (m 2), .ref (m 3), .int (nI n), .ref (m 4), .ref (m 5), .ref (m 6), .int (nI ln), .ref (m 7), .ref (m 8)])), (m 1, aI κ 333 z), (m 2, aI κ 333 z)]) rfl ?_
        refine g_st (st' := []) rfl ?_
        refine g_iload_n hc 3 rfl rfl dX5_keptIf_44 (n := 45) rfl ?_
        refine g_sub (ws' := [(m 0, .inr (5, [.ref (m 1), .ref (m 2), .ref (m 3), .int (nI n), .ref (m 4), .ref (m 5), .ref (m 6), .int (nI ln), .ref (m 7), .ref (m 8)])), (m 1, aI κ 333 z), (m 2, aI κ 333 z), (m 7, aI κ 52 r1), (m 8, aI κ 52 (inv ((rit (bz z) z (z 326) i).2)))]) [2, 3, 4, 0, 1] rfl rfl ?_
        refine hret.1 _ _ _ _ _ _ rfl (by decide) (by decide) dX5_keptIf_45 ?_
        exact ⟨_, rfl, r1, (inv ((rit (bz z) z (z 326) i).2)), (by have e9 : i = r := (by omega); first | (rw [e9]; done) | (rw [e9]; rfl)), rfl⟩
      · skip
        refine g_aload_n hc 0 rfl rfl dX5_keptIf_25 (n := 26) rfl ?_
        have hin := rit_in (b := (bz z)) hp hx i
        refine g_callV (rest := []) (As := []) (cells' := 0) (slots' := 0) hc (c_X5_riffle κ _ m n ln (rfn z (bz z) z (z 326) i) r1 ((rit (bz z) z (z 326) i).2) (bz z) hin.2 (by rw [rfn_x]; exact hin.1) (fun k hk => hzb k hk) (fun k hk => rfn_p _ _ _ _ _ hk) (fun k hk => (rfn_o _ _ _ _ _ (by omega) (by omega)).trans rfl)) q_X5_riffle k_ml_RX5_63 rfl rfl (jn_ix (wr := [(m 8, aI κ 52 p0), (m 2, aI κ 333 z)]) [2, 3, 0] [1, 4] rfl rfl rfl rfl (by decide)) (qr := 2) rfl vw_5 ⟨⟨by decide, by decide⟩, by decide, by decide⟩ (Nat.le_of_ble_eq_true rfl) rfl rfl dX5_keptIf_26 (n := 29) rfl (fun vv ww hp => ?_)
        obtain ⟨rfl, r2_6, rfl⟩ := hp
        refine ⟨_, rfl, ?_⟩
        refine g_ws (ws' := [(m 8, aI κ 52 p0), (m 2, aI κ 333 z), (m 0, .inr (5, [.ref (m 1), .ref (m 2), .ref (m 3), .int (nI n), .ref (m 4), .ref (m 5), .ref (m 6), .int (nI ln), .ref (m 7), .ref (m 8)])), (m 1, aI κ 333 (rfg (rfn z (bz z) z (z 326) i) (bz z) ((rit (bz z) z (z 326) i).2))), (m 7, aI κ 52 r2_6)]) rfl ?_
        refine g_st (st' := []) rfl ?_
        refine g_arr (ws' := [(m 8, aI κ 52 p0), (m 2, aI κ 333 z), (m 0, .inr (5, [.ref (m 1), .ref (m 2), .ref (m 3), .int (nI n), .ref (m 4), .ref (m 5), .ref (m 6), .int (nI ln), .ref (m 7), .ref (m 8)])), (m 1, aI κ 333 (rfn z (bz z) z (z 326) (i + 1))), (m 7, aI κ 52 r2_6)]) (f := rfg (rfn z (bz z) z (z 326) i) (bz z) ((rit (bz z) z (z 326) i).2)) (g := rfn z (bz z) z (z 326) (i + 1)) 3 rfl (fun k hk => rfn_s _ _ _ _ _ _) rfl ?_
        refine n_iinc (v := i + 1) (zk := 1) (lv2 := [(0, .ref (m 0)), (1, .int (nI r)), (2, .int (-6)), (3, .int (nI (i + 1)))]) hc 3 rfl (by decide) rfl (by decide) [1, 2, 3, 0] rfl rfl dX5_keptIf_29 (n := 32) rfl ?_
        refine g_goto (n := 20) hc dX5_keptIf_32 (by decide) ?_
        refine g_sub (ws' := [(m 7, aI κ 52 r2_6), (m 8, aI κ 52 p0), (m 0, .inr (5, [.ref (m 1), .ref (m 2), .ref (m 3), .int (nI n), .ref (m 4), .ref (m 5), .ref (m 6), .int (nI ln), .ref (m 7), .ref (m 8)])), (m 1, aI κ 333 (rfn z (bz z) z (z 326) (i + 1))), (m 2, aI κ 333 z)]) [4, 0, 2, 3, 1] rfl rfl ?_
        exact ih_3 (i + 1) r2_6 (by omega) (by omega)
  exact L_2 _ 0 r0 (by omega) (Nat.lt_succ_self _)
set_option maxHeartbeats 1000000 in
set_option maxRecDepth 100000 in
theorem c_X5_keptIf_flat (κ : Kp) (l : Launch) (m : Nat → Nat) (n : Nat) (ln : Nat) (z : Nat → Nat) (y : Nat → Nat) (r0 : Nat → Nat) (p0 : Nat → Nat) (r : Nat) (c : Nat) (hv : Zv z) (hr : r < 2 ^ 31) (hcc : c < 52) : CT κ l yX5_keptIf cX5_keptIf 4 (some .int) 2 48 0 0 [.ref (m 0), .int (nI r), .int (nI c)] [(m 0, .inr (5, [.ref (m 1), .ref (m 2), .ref (m 3), .int (nI n), .ref (m 4), .ref (m 5), .ref (m 6), .int (nI ln), .ref (m 7), .ref (m 8)])), (m 1, aI κ 333 z), (m 2, aI κ 333 y), (m 7, aI κ 52 r0), (m 8, aI κ 52 p0)] (PI (fun rr ww => ∃ r2 : Nat → Nat, ∃ p2 : Nat → Nat, rr = (nI (kp z (rit (va_up (bz z) c 0) z (z 326) r).2)) ∧ ww = [(m 0, .inr (5, [.ref (m 1), .ref (m 2), .ref (m 3), .int (nI n), .ref (m 4), .ref (m 5), .ref (m 6), .int (nI ln), .ref (m 7), .ref (m 8)])), (m 1, aI κ 333 z), (m 2, aI κ 333 z), (m 7, aI κ 52 r2), (m 8, aI κ 52 p2)])) := by
  refine CT.go (plainFor_of_name (by decide)) (Nat.le_of_ble_eq_true rfl) ?_
  intro Γ A Q hl hc hret
  subst hl
  have hc : Cx κ Γ A cX5_keptIf 4 RX5 "keptIf" (some .int) { frames := 2, cells := 0, slots := 0, locals := 48 } := hc
  refine g_lv (lv' := [(0, .ref (m 0)), (1, .int (nI r)), (2, .int (nI c))]) rfl ?_
  obtain ⟨hzb, hzf, hzc, hp, hh, hk1, hk2, hx⟩ := id hv
  refine g_aload_n hc 0 rfl rfl dX5_keptIf_0 (n := 1) rfl ?_
  refine g_callV (rest := []) (As := []) (cells' := 0) (slots' := 0) hc (c_X5_putAside κ _ m n ln z y ) q_X5_putAside k_ml_RX5_60 rfl rfl (jn_ix (wr := [(m 7, aI κ 52 r0), (m 8, aI κ 52 p0)]) [0, 1, 2] [3, 4] rfl rfl rfl rfl (by decide)) (qr := 0) rfl vw_5 ⟨⟨by decide, by decide⟩, by decide, by decide⟩ (Nat.le_of_ble_eq_true rfl) rfl rfl dX5_keptIf_1 (n := 4) rfl (fun vv ww hp => ?_)
  obtain ⟨rfl, rfl⟩ := hp
  refine ⟨_, rfl, ?_⟩
  refine g_ws (ws' := [(m 7, aI κ 52 r0), (m 8, aI κ 52 p0), (m 0, .inr (5, [.ref (m 1), .ref (m 2), .ref (m 3), .int (nI n), .ref (m 4), .ref (m 5), .ref (m 6), .int (nI ln), .ref (m 7), .ref (m 8)])), (m 1, aI κ 333 z), (m 2, aI κ 333 z)]) rfl ?_
  refine g_st (st' := []) rfl ?_
  refine g_iload_n hc 2 rfl rfl dX5_keptIf_4 (n := 5) rfl ?_
  refine n_if_lt hc (by omega) dX5_keptIf_5 (tgt := 18) (by decide) (n := 8) rfl ?_
  refine g_aload_n hc 0 rfl rfl dX5_keptIf_8 (n := 9) rfl ?_
  refine g_getf hc 2 rfl vw_5 inX5 0 (by decide) k_fl_RX5_7 rfl rfl dX5_keptIf_9 (n := 12) rfl ?_
  refine g_bipush (v := nI 52) hc (by decide) dX5_keptIf_12 (n := 14) rfl ?_
  refine g_iload_n hc 2 rfl rfl dX5_keptIf_14 (n := 15) rfl ?_
  refine n_iadd (v := 52 + c) hc rfl dX5_keptIf_15 (n := 16) rfl ?_
  refine g_iconst (v := nI 0) hc (by decide) dX5_keptIf_16 (n := 17) rfl ?_
  refine n_iast (ws' := [(m 7, aI κ 52 r0), (m 8, aI κ 52 p0), (m 0, .inr (5, [.ref (m 1), .ref (m 2), .ref (m 3), .int (nI n), .ref (m 4), .ref (m 5), .ref (m 6), .int (nI ln), .ref (m 7), .ref (m 8)])), (m 1, aI κ 333 (va_up z (52 + c) 0)), (m 2, aI κ 333 z)]) hc 3 rfl (by omega) (by decide) rfl dX5_keptIf_17 (n := 18) rfl ?_
  refine g_arr (ws' := [(m 7, aI κ 52 r0), (m 8, aI κ 52 p0), (m 0, .inr (5, [.ref (m 1), .ref (m 2), .ref (m 3), .int (nI n), .ref (m 4), .ref (m 5), .ref (m 6), .int (nI ln), .ref (m 7), .ref (m 8)])), (m 1, aI κ 333 (rfn (va_up z (52 + c) 0) (va_up (bz z) c 0) z (z 326) 0)), (m 2, aI κ 333 z)]) (f := va_up z (52 + c) 0) (g := rfn (va_up z (52 + c) 0) (va_up (bz z) c 0) z (z 326) 0) 3 rfl (fun k hk => rfn_0 (va_up (bz z) c 0) (fun k hk => show va_up z (52 + c) 0 k = z k from va_up_ne _ _ (by omega)) (show va_up z (52 + c) 0 326 = z 326 from va_up_ne _ _ (by omega)) k) rfl ?_
  refine g_iconst (v := nI 0) hc (by decide) dX5_keptIf_18 (n := 19) rfl ?_
  refine g_istore_n (lv2 := [(0, .ref (m 0)), (1, .int (nI r)), (2, .int (nI c)), (3, .int (nI 0))]) hc rfl (by decide) [1, 2, 3, 0] rfl rfl dX5_keptIf_19 (n := 20) rfl ?_
  have L_2 : ∀ (fuel : Nat) (i : Nat) (r1 : Nat → Nat), (i ≤ r) → r - i < fuel → G κ Γ A 4 0 0 Q [(m 7, aI κ 52 r1), (m 8, aI κ 52 p0), (m 0, .inr (5, [.ref (m 1), .ref (m 2), .ref (m 3), .int (nI n), .ref (m 4), .ref (m 5), .ref (m 6), .int (nI ln), .ref (m 7), .ref (m 8)])), (m 1, aI κ 333 (rfn (va_up z (52 + c) 0) (va_up (bz z) c 0) z (z 326) i)), (m 2, aI κ 333 z)] 20 [(0, .ref (m 0)), (1, .int (nI r)), (2, .int (nI c)), (3, .int (nI i))] [] := by
    intro fuel
    induction fuel with
    | zero => intro i r1 hi h; exact absurd h (Nat.not_lt_zero _)
    | succ fuel ih_3 =>
      intro i r1 hi hn_4
      refine g_iload_n hc 3 rfl rfl dX5_keptIf_20 (n := 21) rfl ?_
      refine g_iload_n hc 1 rfl rfl dX5_keptIf_21 (n := 22) rfl ?_
      refine n_icmp_ge hc (by omega) (by omega) dX5_keptIf_22 (tgt := 35) (by decide) (n := 25) rfl (fun c_5 => ?_) (fun c_5 => ?_)
      · skip
        refine g_aload_n hc 0 rfl rfl dX5_keptIf_35 (n := 36) rfl ?_
        have hin := rit_in (b := (va_up (bz z) c 0)) hp hx (i)
        refine g_callV (rest := []) (As := []) (cells' := 0) (slots' := 0) hc (c_X5_keptPairs κ _ m n ln (rfn (va_up z (52 + c) 0) (va_up (bz z) c 0) z (z 326) i) z p0 ((rit (va_up (bz z) c 0) z (z 326) i).2) hin.2 (fun k hk => rfn_p _ _ _ _ _ hk) hp) q_X5_keptPairs k_ml_RX5_66 rfl rfl (jn_ix (wr := [(m 7, aI κ 52 r1)]) [2, 3, 4, 1] [0] rfl rfl rfl rfl (by decide)) (qr := 2) rfl vw_5 ⟨⟨by decide, by decide⟩, by decide, by decide⟩ (Nat.le_of_ble_eq_true rfl) rfl rfl dX5_keptIf_36 (n := 39) rfl (fun vv ww hp => ?_)
        obtain ⟨rr, rfl, rfl, rfl⟩ := hp
        refine ⟨_, rfl, ?_⟩
        refine g_ws (ws' := [(m 7, aI κ 52 r1), (m 0, .inr (5, [.ref (m 1), .ref (m 2), .ref (m 3), .int (nI n), .ref (m 4), .ref (m 5), .ref (m 6), .int (nI ln), .ref (m 7), .ref (m 8)])), (m 1, aI κ 333 (rfn (va_up z (52 + c) 0) (va_up (bz z) c 0) z (z 326) i)), (m 2, aI κ 333 z), (m 8, aI κ 52 (inv ((rit (va_up (bz z) c 0) z (z 326) i).2)))]) rfl ?_
        refine g_st (st' := [.int (nI (kp z ((rit (va_up (bz z) c 0) z (z 326) i).2)))]) rfl ?_
        refine g_istore_n (lv2 := [(0, .ref (m 0)), (1, .int (nI r)), (2, .int (nI c)), (3, .int (nI (kp z ((rit (va_up (bz z) c 0) z (z 326) i).2))))]) hc rfl (by decide) [1, 2, 3, 0] rfl rfl dX5_keptIf_39 (n := 40) rfl ?_
        refine g_aload_n hc 0 rfl rfl dX5_keptIf_40 (n := 41) rfl ?_
        refine g_callV (rest := []) (As := []) (cells' := 0) (slots' := 0) hc (c_X5_putBack κ _ m n ln (rfn (va_up z (52 + c) 0) (va_up (bz z) c 0) z (z 326) i) z ) q_X5_putBack k_ml_RX5_70 rfl rfl (jn_ix (wr := [(m 7, aI κ 52 r1), (m 8, aI κ 52 (inv ((rit (va_up (bz z) c 0) z (z 326) i).2)))]) [1, 2, 3] [0, 4] rfl rfl rfl rfl (by decide)) (qr := 1) rfl vw_5 ⟨⟨by decide, by decide⟩, by decide, by decide⟩ (Nat.le_of_ble_eq_true rfl) rfl rfl dX5_keptIf_41 (n := 44) rfl (fun vv ww hp => ?_)
        obtain ⟨rfl, rfl⟩ := hp
        refine ⟨_, rfl, ?_⟩
        refine g_ws (ws' := [(m 7, aI κ 52 r1), (m 8, aI κ 52 (inv ((rit (va_up (bz z) c 0) z (z 326) i).2))), (m 0, .inr (5, [.ref (m 1), .ref (m 2), .ref (m 3), .int (nI n), .ref (m 4), .ref (m 5), .ref (m 6), .int (nI ln), .ref (m 7), .ref (m 8)])), (m 1, aI κ 333 z), (m 2, aI κ 333 z)]) rfl ?_
        refine g_st (st' := []) rfl ?_
        refine g_iload_n hc 3 rfl rfl dX5_keptIf_44 (n := 45) rfl ?_
        refine g_sub (ws' := [(m 0, .inr (5, [.ref (m 1), .ref (m 2), .ref (m 3), .int (nI n), .ref (m 4), .ref (m 5), .ref (m 6), .int (nI ln), .ref (m 7), .ref (m 8)])), (m 1, aI κ 333 z), (m 2, aI κ 333 z), (m 7, aI κ 52 r1), (m 8, aI κ 52 (inv ((rit (va_up (bz z) c 0) z (z 326) i).2)))]) [2, 3, 4, 0, 1] rfl rfl ?_
        refine hret.1 _ _ _ _ _ _ rfl (by decide) (by decide) dX5_keptIf_45 ?_
        exact ⟨_, rfl, r1, (inv ((rit (va_up (bz z) c 0) z (z 326) i).2)), (by have e9 : i = r := (by omega); first | (rw [e9]; done) | (rw [e9]; rfl)), rfl⟩
      · skip
        refine g_aload_n hc 0 rfl rfl dX5_keptIf_25 (n := 26) rfl ?_
        have hin := rit_in (b := (va_up (bz z) c 0)) hp hx i
        refine g_callV (rest := []) (As := []) (cells' := 0) (slots' := 0) hc (c_X5_riffle κ _ m n ln (rfn (va_up z (52 + c) 0) (va_up (bz z) c 0) z (z 326) i) r1 ((rit (va_up (bz z) c 0) z (z 326) i).2) (va_up (bz z) c 0) hin.2 (by rw [rfn_x]; exact hin.1) (up0_b (b := bz z) (fun k hk => hzb k hk) c) (fun k hk => rfn_p _ _ _ _ _ hk) (fun k hk => (rfn_o _ _ _ _ _ (by omega) (by omega)).trans (up52 z c k))) q_X5_riffle k_ml_RX5_63 rfl rfl (jn_ix (wr := [(m 8, aI κ 52 p0), (m 2, aI κ 333 z)]) [2, 3, 0] [1, 4] rfl rfl rfl rfl (by decide)) (qr := 2) rfl vw_5 ⟨⟨by decide, by decide⟩, by decide, by decide⟩ (Nat.le_of_ble_eq_true rfl) rfl rfl dX5_keptIf_26 (n := 29) rfl (fun vv ww hp => ?_)
        obtain ⟨rfl, r2_6, rfl⟩ := hp
        refine ⟨_, rfl, ?_⟩
        refine g_ws (ws' := [(m 8, aI κ 52 p0), (m 2, aI κ 333 z), (m 0, .inr (5, [.ref (m 1), .ref (m 2), .ref (m 3), .int (nI n), .ref (m 4), .ref (m 5), .ref (m 6), .int (nI ln), .ref (m 7), .ref (m 8)])), (m 1, aI κ 333 (rfg (rfn (va_up z (52 + c) 0) (va_up (bz z) c 0) z (z 326) i) (va_up (bz z) c 0) ((rit (va_up (bz z) c 0) z (z 326) i).2))), (m 7, aI κ 52 r2_6)]) rfl ?_
        refine g_st (st' := []) rfl ?_
        refine g_arr (ws' := [(m 8, aI κ 52 p0), (m 2, aI κ 333 z), (m 0, .inr (5, [.ref (m 1), .ref (m 2), .ref (m 3), .int (nI n), .ref (m 4), .ref (m 5), .ref (m 6), .int (nI ln), .ref (m 7), .ref (m 8)])), (m 1, aI κ 333 (rfn (va_up z (52 + c) 0) (va_up (bz z) c 0) z (z 326) (i + 1))), (m 7, aI κ 52 r2_6)]) (f := rfg (rfn (va_up z (52 + c) 0) (va_up (bz z) c 0) z (z 326) i) (va_up (bz z) c 0) ((rit (va_up (bz z) c 0) z (z 326) i).2)) (g := rfn (va_up z (52 + c) 0) (va_up (bz z) c 0) z (z 326) (i + 1)) 3 rfl (fun k hk => rfn_s _ _ _ _ _ _) rfl ?_
        refine n_iinc (v := i + 1) (zk := 1) (lv2 := [(0, .ref (m 0)), (1, .int (nI r)), (2, .int (nI c)), (3, .int (nI (i + 1)))]) hc 3 rfl (by decide) rfl (by decide) [1, 2, 3, 0] rfl rfl dX5_keptIf_29 (n := 32) rfl ?_
        refine g_goto (n := 20) hc dX5_keptIf_32 (by decide) ?_
        refine g_sub (ws' := [(m 7, aI κ 52 r2_6), (m 8, aI κ 52 p0), (m 0, .inr (5, [.ref (m 1), .ref (m 2), .ref (m 3), .int (nI n), .ref (m 4), .ref (m 5), .ref (m 6), .int (nI ln), .ref (m 7), .ref (m 8)])), (m 1, aI κ 333 (rfn (va_up z (52 + c) 0) (va_up (bz z) c 0) z (z 326) (i + 1))), (m 2, aI κ 333 z)]) [4, 0, 2, 3, 1] rfl rfl ?_
        exact ih_3 (i + 1) r2_6 (by omega) (by omega)
  exact L_2 _ 0 r0 (by omega) (Nat.lt_succ_self _)
set_option maxHeartbeats 1000000 in
set_option maxRecDepth 100000 in
theorem c_X5_ifRiffled_ok0 (κ : Kp) (l : Launch) (m : Nat → Nat) (n : Nat) (ln : Nat) (z : Nat → Nat) (y : Nat → Nat) (r0 : Nat → Nat) (p0 : Nat → Nat) (r : Nat) (hv : Zv z) (hr1 : 1 ≤ r) (hr2 : r ≤ 20) : CT κ l yX5_ifRiffled cX5_ifRiffled 3 (some .int) 3 71 0 0 [.ref (m 0), .int (nI r), .int (nI 0)] [(m 0, .inr (5, [.ref (m 1), .ref (m 2), .ref (m 3), .int (nI n), .ref (m 4), .ref (m 5), .ref (m 6), .int (nI ln), .ref (m 7), .ref (m 8)])), (m 1, aI κ 333 z), (m 2, aI κ 333 y), (m 7, aI κ 52 r0), (m 8, aI κ 52 p0)] (PI (fun rr ww => ∃ r2 : Nat → Nat, ∃ p2 : Nat → Nat, rr = (nI (kp z (ri z r).2)) ∧ ww = [(m 0, .inr (5, [.ref (m 1), .ref (m 2), .ref (m 3), .int (nI n), .ref (m 4), .ref (m 5), .ref (m 6), .int (nI ln), .ref (m 7), .ref (m 8)])), (m 1, aI κ 333 z), (m 2, aI κ 333 z), (m 7, aI κ 52 r2), (m 8, aI κ 52 p2)])) := by
  refine CT.go (plainFor_of_name (by decide)) (Nat.le_of_ble_eq_true rfl) ?_
  intro Γ A Q hl hc hret
  subst hl
  have hc : Cx κ Γ A cX5_ifRiffled 3 RX5 "ifRiffled" (some .int) { frames := 3, cells := 0, slots := 0, locals := 71 } := hc
  refine g_lv (lv' := [(0, .ref (m 0)), (1, .int (nI r)), (2, .int (nI 0))]) rfl ?_
  obtain ⟨hzb, hzf, hzc, hp, hh, hk1, hk2, hx⟩ := id hv
  refine g_iload_n hc 1 rfl rfl dX5_ifRiffled_0 (n := 1) rfl ?_
  refine g_iconst (v := nI 1) hc (by decide) dX5_ifRiffled_1 (n := 2) rfl ?_
  refine g_bipush (v := nI 20) hc (by decide) dX5_ifRiffled_2 (n := 4) rfl ?_
  refine g_callS (rest := []) (As := [.int (nI r), .int (nI 1), .int (nI 20)]) (cells' := 0) (slots' := 0) hc (c_X5_in_y κ _ (nI r) (nI 1) (nI 20) (in_y (by omega) (by omega))) q_X5_in k_ml_RX5_35 rfl rfl (jn_ix (wr := [(m 0, .inr (5, [.ref (m 1), .ref (m 2), .ref (m 3), .int (nI n), .ref (m 4), .ref (m 5), .ref (m 6), .int (nI ln), .ref (m 7), .ref (m 8)])), (m 1, aI κ 333 z), (m 2, aI κ 333 y), (m 7, aI κ 52 r0), (m 8, aI κ 52 p0)]) [] [0, 1, 2, 3, 4] rfl rfl rfl rfl (by decide)) ⟨⟨by decide, by decide⟩, by decide, by decide⟩ (Nat.le_of_ble_eq_true rfl) rfl rfl dX5_ifRiffled_4 (n := 7) rfl (fun vv ww hp => ?_)
  obtain ⟨rr, rfl, rfl, rfl⟩ := hp
  refine ⟨_, rfl, ?_⟩
  refine g_ws (ws' := [(m 0, .inr (5, [.ref (m 1), .ref (m 2), .ref (m 3), .int (nI n), .ref (m 4), .ref (m 5), .ref (m 6), .int (nI ln), .ref (m 7), .ref (m 8)])), (m 1, aI κ 333 z), (m 2, aI κ 333 y), (m 7, aI κ 52 r0), (m 8, aI κ 52 p0)]) rfl ?_
  refine g_st (st' := [.int (nI 1)]) rfl ?_
  refine n_if_eq hc (by omega) dX5_ifRiffled_7 (tgt := 29) (by decide) (n := 10) rfl (fun c_1 => by (exfalso; revert c_1; first | omega | decide)) (fun c_1 => ?_)
  refine g_iload_n hc 2 rfl rfl dX5_ifRiffled_10 (n := 11) rfl ?_
  refine g_iconst (v := nI 0) hc (by decide) dX5_ifRiffled_11 (n := 12) rfl ?_
  refine g_iconst (v := nI 1) hc (by decide) dX5_ifRiffled_12 (n := 13) rfl ?_
  refine g_callS (rest := []) (As := [.int (nI 0), .int (nI 0), .int (nI 1)]) (cells' := 0) (slots' := 0) hc (c_X5_in_y κ _ (nI 0) (nI 0) (nI 1) (by decide)) q_X5_in k_ml_RX5_35 rfl rfl (jn_ix (wr := [(m 0, .inr (5, [.ref (m 1), .ref (m 2), .ref (m 3), .int (nI n), .ref (m 4), .ref (m 5), .ref (m 6), .int (nI ln), .ref (m 7), .ref (m 8)])), (m 1, aI κ 333 z), (m 2, aI κ 333 y), (m 7, aI κ 52 r0), (m 8, aI κ 52 p0)]) [] [0, 1, 2, 3, 4] rfl rfl rfl rfl (by decide)) ⟨⟨by decide, by decide⟩, by decide, by decide⟩ (Nat.le_of_ble_eq_true rfl) rfl rfl dX5_ifRiffled_13 (n := 16) rfl (fun vv ww hp => ?_)
  obtain ⟨rr, rfl, rfl, rfl⟩ := hp
  refine ⟨_, rfl, ?_⟩
  refine g_ws (ws' := [(m 0, .inr (5, [.ref (m 1), .ref (m 2), .ref (m 3), .int (nI n), .ref (m 4), .ref (m 5), .ref (m 6), .int (nI ln), .ref (m 7), .ref (m 8)])), (m 1, aI κ 333 z), (m 2, aI κ 333 y), (m 7, aI κ 52 r0), (m 8, aI κ 52 p0)]) rfl ?_
  refine g_st (st' := [.int (nI 1)]) rfl ?_
  refine n_if_eq hc (by omega) dX5_ifRiffled_16 (tgt := 29) (by decide) (n := 19) rfl (fun c_2 => by (exfalso; revert c_2; first | omega | decide)) (fun c_2 => ?_)
  refine g_aload_n hc 0 rfl rfl dX5_ifRiffled_19 (n := 20) rfl ?_
  refine g_iload_n hc 1 rfl rfl dX5_ifRiffled_20 (n := 21) rfl ?_
  refine g_bipush (v := (-6)) hc (by decide) dX5_ifRiffled_21 (n := 23) rfl ?_
  refine g_callV (rest := []) (As := [.int (nI r), .int (-6)]) (cells' := 0) (slots' := 0) hc (c_X5_keptIf_none κ _ m n ln z y r0 p0 r hv (by omega)) q_X5_keptIf k_ml_RX5_122 rfl rfl (jn_ix (wr := []) [0, 1, 2, 3, 4] [] rfl rfl rfl rfl (by decide)) (qr := 0) rfl vw_5 ⟨⟨by decide, by decide⟩, by decide, by decide⟩ (Nat.le_of_ble_eq_true rfl) rfl rfl dX5_ifRiffled_23 (n := 26) rfl (fun vv ww hp => ?_)
  obtain ⟨rr, rfl, r2_3, p2_4, rfl, rfl⟩ := hp
  refine ⟨_, rfl, ?_⟩
  refine g_ws (ws' := [(m 0, .inr (5, [.ref (m 1), .ref (m 2), .ref (m 3), .int (nI n), .ref (m 4), .ref (m 5), .ref (m 6), .int (nI ln), .ref (m 7), .ref (m 8)])), (m 1, aI κ 333 z), (m 2, aI κ 333 z), (m 7, aI κ 52 r2_3), (m 8, aI κ 52 p2_4)]) rfl ?_
  refine g_st (st' := [.int (nI (kp z (ri z r).2))]) rfl ?_
  refine g_goto (n := 31) hc dX5_ifRiffled_26 (by decide) ?_
  refine hret.1 _ _ _ _ _ _ rfl (by decide) (by decide) dX5_ifRiffled_31 ?_
  exact ⟨_, rfl, r2_3, p2_4, rfl, rfl⟩
set_option maxHeartbeats 1000000 in
set_option maxRecDepth 100000 in
theorem c_X5_ifRiffled_ok1 (κ : Kp) (l : Launch) (m : Nat → Nat) (n : Nat) (ln : Nat) (z : Nat → Nat) (y : Nat → Nat) (r0 : Nat → Nat) (p0 : Nat → Nat) (r : Nat) (hv : Zv z) (hr1 : 1 ≤ r) (hr2 : r ≤ 20) : CT κ l yX5_ifRiffled cX5_ifRiffled 3 (some .int) 3 71 0 0 [.ref (m 0), .int (nI r), .int (nI 1)] [(m 0, .inr (5, [.ref (m 1), .ref (m 2), .ref (m 3), .int (nI n), .ref (m 4), .ref (m 5), .ref (m 6), .int (nI ln), .ref (m 7), .ref (m 8)])), (m 1, aI κ 333 z), (m 2, aI κ 333 y), (m 7, aI κ 52 r0), (m 8, aI κ 52 p0)] (PI (fun rr ww => ∃ r2 : Nat → Nat, ∃ p2 : Nat → Nat, rr = (nI (kp z (ri z r).2)) ∧ ww = [(m 0, .inr (5, [.ref (m 1), .ref (m 2), .ref (m 3), .int (nI n), .ref (m 4), .ref (m 5), .ref (m 6), .int (nI ln), .ref (m 7), .ref (m 8)])), (m 1, aI κ 333 z), (m 2, aI κ 333 z), (m 7, aI κ 52 r2), (m 8, aI κ 52 p2)])) := by
  refine CT.go (plainFor_of_name (by decide)) (Nat.le_of_ble_eq_true rfl) ?_
  intro Γ A Q hl hc hret
  subst hl
  have hc : Cx κ Γ A cX5_ifRiffled 3 RX5 "ifRiffled" (some .int) { frames := 3, cells := 0, slots := 0, locals := 71 } := hc
  refine g_lv (lv' := [(0, .ref (m 0)), (1, .int (nI r)), (2, .int (nI 1))]) rfl ?_
  obtain ⟨hzb, hzf, hzc, hp, hh, hk1, hk2, hx⟩ := id hv
  refine g_iload_n hc 1 rfl rfl dX5_ifRiffled_0 (n := 1) rfl ?_
  refine g_iconst (v := nI 1) hc (by decide) dX5_ifRiffled_1 (n := 2) rfl ?_
  refine g_bipush (v := nI 20) hc (by decide) dX5_ifRiffled_2 (n := 4) rfl ?_
  refine g_callS (rest := []) (As := [.int (nI r), .int (nI 1), .int (nI 20)]) (cells' := 0) (slots' := 0) hc (c_X5_in_y κ _ (nI r) (nI 1) (nI 20) (in_y (by omega) (by omega))) q_X5_in k_ml_RX5_35 rfl rfl (jn_ix (wr := [(m 0, .inr (5, [.ref (m 1), .ref (m 2), .ref (m 3), .int (nI n), .ref (m 4), .ref (m 5), .ref (m 6), .int (nI ln), .ref (m 7), .ref (m 8)])), (m 1, aI κ 333 z), (m 2, aI κ 333 y), (m 7, aI κ 52 r0), (m 8, aI κ 52 p0)]) [] [0, 1, 2, 3, 4] rfl rfl rfl rfl (by decide)) ⟨⟨by decide, by decide⟩, by decide, by decide⟩ (Nat.le_of_ble_eq_true rfl) rfl rfl dX5_ifRiffled_4 (n := 7) rfl (fun vv ww hp => ?_)
  obtain ⟨rr, rfl, rfl, rfl⟩ := hp
  refine ⟨_, rfl, ?_⟩
  refine g_ws (ws' := [(m 0, .inr (5, [.ref (m 1), .ref (m 2), .ref (m 3), .int (nI n), .ref (m 4), .ref (m 5), .ref (m 6), .int (nI ln), .ref (m 7), .ref (m 8)])), (m 1, aI κ 333 z), (m 2, aI κ 333 y), (m 7, aI κ 52 r0), (m 8, aI κ 52 p0)]) rfl ?_
  refine g_st (st' := [.int (nI 1)]) rfl ?_
  refine n_if_eq hc (by omega) dX5_ifRiffled_7 (tgt := 29) (by decide) (n := 10) rfl (fun c_1 => by (exfalso; revert c_1; first | omega | decide)) (fun c_1 => ?_)
  refine g_iload_n hc 2 rfl rfl dX5_ifRiffled_10 (n := 11) rfl ?_
  refine g_iconst (v := nI 0) hc (by decide) dX5_ifRiffled_11 (n := 12) rfl ?_
  refine g_iconst (v := nI 1) hc (by decide) dX5_ifRiffled_12 (n := 13) rfl ?_
  refine g_callS (rest := []) (As := [.int (nI 1), .int (nI 0), .int (nI 1)]) (cells' := 0) (slots' := 0) hc (c_X5_in_y κ _ (nI 1) (nI 0) (nI 1) (by decide)) q_X5_in k_ml_RX5_35 rfl rfl (jn_ix (wr := [(m 0, .inr (5, [.ref (m 1), .ref (m 2), .ref (m 3), .int (nI n), .ref (m 4), .ref (m 5), .ref (m 6), .int (nI ln), .ref (m 7), .ref (m 8)])), (m 1, aI κ 333 z), (m 2, aI κ 333 y), (m 7, aI κ 52 r0), (m 8, aI κ 52 p0)]) [] [0, 1, 2, 3, 4] rfl rfl rfl rfl (by decide)) ⟨⟨by decide, by decide⟩, by decide, by decide⟩ (Nat.le_of_ble_eq_true rfl) rfl rfl dX5_ifRiffled_13 (n := 16) rfl (fun vv ww hp => ?_)
  obtain ⟨rr, rfl, rfl, rfl⟩ := hp
  refine ⟨_, rfl, ?_⟩
  refine g_ws (ws' := [(m 0, .inr (5, [.ref (m 1), .ref (m 2), .ref (m 3), .int (nI n), .ref (m 4), .ref (m 5), .ref (m 6), .int (nI ln), .ref (m 7), .ref (m 8)])), (m 1, aI κ 333 z), (m 2, aI κ 333 y), (m 7, aI κ 52 r0), (m 8, aI κ 52 p0)]) rfl ?_
  refine g_st (st' := [.int (nI 1)]) rfl ?_
  refine n_if_eq hc (by omega) dX5_ifRiffled_16 (tgt := 29) (by decide) (n := 19) rfl (fun c_2 => by (exfalso; revert c_2; first | omega | decide)) (fun c_2 => ?_)
  refine g_aload_n hc 0 rfl rfl dX5_ifRiffled_19 (n := 20) rfl ?_
  refine g_iload_n hc 1 rfl rfl dX5_ifRiffled_20 (n := 21) rfl ?_
  refine g_bipush (v := (-6)) hc (by decide) dX5_ifRiffled_21 (n := 23) rfl ?_
  refine g_callV (rest := []) (As := [.int (nI r), .int (-6)]) (cells' := 0) (slots' := 0) hc (c_X5_keptIf_none κ _ m n ln z y r0 p0 r hv (by omega)) q_X5_keptIf k_ml_RX5_122 rfl rfl (jn_ix (wr := []) [0, 1, 2, 3, 4] [] rfl rfl rfl rfl (by decide)) (qr := 0) rfl vw_5 ⟨⟨by decide, by decide⟩, by decide, by decide⟩ (Nat.le_of_ble_eq_true rfl) rfl rfl dX5_ifRiffled_23 (n := 26) rfl (fun vv ww hp => ?_)
  obtain ⟨rr, rfl, r2_3, p2_4, rfl, rfl⟩ := hp
  refine ⟨_, rfl, ?_⟩
  refine g_ws (ws' := [(m 0, .inr (5, [.ref (m 1), .ref (m 2), .ref (m 3), .int (nI n), .ref (m 4), .ref (m 5), .ref (m 6), .int (nI ln), .ref (m 7), .ref (m 8)])), (m 1, aI κ 333 z), (m 2, aI κ 333 z), (m 7, aI κ 52 r2_3), (m 8, aI κ 52 p2_4)]) rfl ?_
  refine g_st (st' := [.int (nI (kp z (ri z r).2))]) rfl ?_
  refine g_goto (n := 31) hc dX5_ifRiffled_26 (by decide) ?_
  refine hret.1 _ _ _ _ _ _ rfl (by decide) (by decide) dX5_ifRiffled_31 ?_
  exact ⟨_, rfl, r2_3, p2_4, rfl, rfl⟩
set_option maxHeartbeats 1000000 in
set_option maxRecDepth 100000 in
theorem c_X5_ifRiffled_er1 (κ : Kp) (l : Launch) (m : Nat → Nat) (n : Nat) (ln : Nat) (x : Int32) (y : Int32) (hx1 : x < 0 ∨ nI 21 ≤ x) : CT κ l yX5_ifRiffled cX5_ifRiffled 3 (some .int) 1 22 0 0 [.ref (m 0), .int x, .int y] [(m 0, .inr (5, [.ref (m 1), .ref (m 2), .ref (m 3), .int (nI n), .ref (m 4), .ref (m 5), .ref (m 6), .int (nI ln), .ref (m 7), .ref (m 8)]))] (PI (fun rr ww => rr = (nI 4294967294) ∧ ww = [(m 0, .inr (5, [.ref (m 1), .ref (m 2), .ref (m 3), .int (nI n), .ref (m 4), .ref (m 5), .ref (m 6), .int (nI ln), .ref (m 7), .ref (m 8)]))])) := by
  refine CT.go (plainFor_of_name (by decide)) (Nat.le_of_ble_eq_true rfl) ?_
  intro Γ A Q hl hc hret
  subst hl
  have hc : Cx κ Γ A cX5_ifRiffled 3 RX5 "ifRiffled" (some .int) { frames := 1, cells := 0, slots := 0, locals := 22 } := hc
  refine g_lv (lv' := [(0, .ref (m 0)), (1, .int x), (2, .int y)]) rfl ?_
  refine g_iload_n hc 1 rfl rfl dX5_ifRiffled_0 (n := 1) rfl ?_
  refine g_iconst (v := nI 1) hc (by decide) dX5_ifRiffled_1 (n := 2) rfl ?_
  refine g_bipush (v := nI 20) hc (by decide) dX5_ifRiffled_2 (n := 4) rfl ?_
  refine g_callS (rest := []) (As := [.int x, .int (nI 1), .int (nI 20)]) (cells' := 0) (slots' := 0) hc (c_X5_in_n κ _ x (nI 1) (nI 20) (in_n1 hx1)) q_X5_in k_ml_RX5_35 rfl rfl (jn_ix (wr := [(m 0, .inr (5, [.ref (m 1), .ref (m 2), .ref (m 3), .int (nI n), .ref (m 4), .ref (m 5), .ref (m 6), .int (nI ln), .ref (m 7), .ref (m 8)]))]) [] [0] rfl rfl rfl rfl (by decide)) ⟨⟨by decide, by decide⟩, by decide, by decide⟩ (Nat.le_of_ble_eq_true rfl) rfl rfl dX5_ifRiffled_4 (n := 7) rfl (fun vv ww hp => ?_)
  obtain ⟨rr, rfl, rfl, rfl⟩ := hp
  refine ⟨_, rfl, ?_⟩
  refine g_ws (ws' := [(m 0, .inr (5, [.ref (m 1), .ref (m 2), .ref (m 3), .int (nI n), .ref (m 4), .ref (m 5), .ref (m 6), .int (nI ln), .ref (m 7), .ref (m 8)]))]) rfl ?_
  refine g_st (st' := [.int (nI 0)]) rfl ?_
  refine n_if_eq hc (by omega) dX5_ifRiffled_7 (tgt := 29) (by decide) (n := 10) rfl (fun c_1 => ?_) (fun c_1 => by (exfalso; revert c_1; first | omega | decide))
  refine g_bipush (v := nI 4294967294) hc (by decide) dX5_ifRiffled_29 (n := 31) rfl ?_
  refine hret.1 _ _ _ _ _ _ rfl (by decide) (by decide) dX5_ifRiffled_31 ?_
  exact ⟨_, rfl, rfl, rfl⟩
set_option maxHeartbeats 1000000 in
set_option maxRecDepth 100000 in
theorem c_X5_ifRiffled_er2 (κ : Kp) (l : Launch) (m : Nat → Nat) (n : Nat) (ln : Nat) (y : Int32)  : CT κ l yX5_ifRiffled cX5_ifRiffled 3 (some .int) 1 22 0 0 [.ref (m 0), .int (nI 0), .int y] [(m 0, .inr (5, [.ref (m 1), .ref (m 2), .ref (m 3), .int (nI n), .ref (m 4), .ref (m 5), .ref (m 6), .int (nI ln), .ref (m 7), .ref (m 8)]))] (PI (fun rr ww => rr = (nI 4294967294) ∧ ww = [(m 0, .inr (5, [.ref (m 1), .ref (m 2), .ref (m 3), .int (nI n), .ref (m 4), .ref (m 5), .ref (m 6), .int (nI ln), .ref (m 7), .ref (m 8)]))])) := by
  refine CT.go (plainFor_of_name (by decide)) (Nat.le_of_ble_eq_true rfl) ?_
  intro Γ A Q hl hc hret
  subst hl
  have hc : Cx κ Γ A cX5_ifRiffled 3 RX5 "ifRiffled" (some .int) { frames := 1, cells := 0, slots := 0, locals := 22 } := hc
  refine g_lv (lv' := [(0, .ref (m 0)), (1, .int (nI 0)), (2, .int y)]) rfl ?_
  refine g_iload_n hc 1 rfl rfl dX5_ifRiffled_0 (n := 1) rfl ?_
  refine g_iconst (v := nI 1) hc (by decide) dX5_ifRiffled_1 (n := 2) rfl ?_
  refine g_bipush (v := nI 20) hc (by decide) dX5_ifRiffled_2 (n := 4) rfl ?_
  refine g_callS (rest := []) (As := [.int (nI 0), .int (nI 1), .int (nI 20)]) (cells' := 0) (slots' := 0) hc (c_X5_in_n κ _ (nI 0) (nI 1) (nI 20) (in_nn (by decide))) q_X5_in k_ml_RX5_35 rfl rfl (jn_ix (wr := [(m 0, .inr (5, [.ref (m 1), .ref (m 2), .ref (m 3), .int (nI n), .ref (m 4), .ref (m 5), .ref (m 6), .int (nI ln), .ref (m 7), .ref (m 8)]))]) [] [0] rfl rfl rfl rfl (by decide)) ⟨⟨by decide, by decide⟩, by decide, by decide⟩ (Nat.le_of_ble_eq_true rfl) rfl rfl dX5_ifRiffled_4 (n := 7) rfl (fun vv ww hp => ?_)
  obtain ⟨rr, rfl, rfl, rfl⟩ := hp
  refine ⟨_, rfl, ?_⟩
  refine g_ws (ws' := [(m 0, .inr (5, [.ref (m 1), .ref (m 2), .ref (m 3), .int (nI n), .ref (m 4), .ref (m 5), .ref (m 6), .int (nI ln), .ref (m 7), .ref (m 8)]))]) rfl ?_
  refine g_st (st' := [.int (nI 0)]) rfl ?_
  refine n_if_eq hc (by omega) dX5_ifRiffled_7 (tgt := 29) (by decide) (n := 10) rfl (fun c_1 => ?_) (fun c_1 => by (exfalso; revert c_1; first | omega | decide))
  refine g_bipush (v := nI 4294967294) hc (by decide) dX5_ifRiffled_29 (n := 31) rfl ?_
  refine hret.1 _ _ _ _ _ _ rfl (by decide) (by decide) dX5_ifRiffled_31 ?_
  exact ⟨_, rfl, rfl, rfl⟩
set_option maxHeartbeats 1000000 in
set_option maxRecDepth 100000 in
theorem c_X5_ifRiffled_er3 (κ : Kp) (l : Launch) (m : Nat → Nat) (n : Nat) (ln : Nat) (r : Nat) (y : Int32) (hr1 : 1 ≤ r) (hr2 : r ≤ 20) (hx2 : y < 0 ∨ nI 2 ≤ y) : CT κ l yX5_ifRiffled cX5_ifRiffled 3 (some .int) 1 22 0 0 [.ref (m 0), .int (nI r), .int y] [(m 0, .inr (5, [.ref (m 1), .ref (m 2), .ref (m 3), .int (nI n), .ref (m 4), .ref (m 5), .ref (m 6), .int (nI ln), .ref (m 7), .ref (m 8)]))] (PI (fun rr ww => rr = (nI 4294967294) ∧ ww = [(m 0, .inr (5, [.ref (m 1), .ref (m 2), .ref (m 3), .int (nI n), .ref (m 4), .ref (m 5), .ref (m 6), .int (nI ln), .ref (m 7), .ref (m 8)]))])) := by
  refine CT.go (plainFor_of_name (by decide)) (Nat.le_of_ble_eq_true rfl) ?_
  intro Γ A Q hl hc hret
  subst hl
  have hc : Cx κ Γ A cX5_ifRiffled 3 RX5 "ifRiffled" (some .int) { frames := 1, cells := 0, slots := 0, locals := 22 } := hc
  refine g_lv (lv' := [(0, .ref (m 0)), (1, .int (nI r)), (2, .int y)]) rfl ?_
  refine g_iload_n hc 1 rfl rfl dX5_ifRiffled_0 (n := 1) rfl ?_
  refine g_iconst (v := nI 1) hc (by decide) dX5_ifRiffled_1 (n := 2) rfl ?_
  refine g_bipush (v := nI 20) hc (by decide) dX5_ifRiffled_2 (n := 4) rfl ?_
  refine g_callS (rest := []) (As := [.int (nI r), .int (nI 1), .int (nI 20)]) (cells' := 0) (slots' := 0) hc (c_X5_in_y κ _ (nI r) (nI 1) (nI 20) (in_y (by omega) (by omega))) q_X5_in k_ml_RX5_35 rfl rfl (jn_ix (wr := [(m 0, .inr (5, [.ref (m 1), .ref (m 2), .ref (m 3), .int (nI n), .ref (m 4), .ref (m 5), .ref (m 6), .int (nI ln), .ref (m 7), .ref (m 8)]))]) [] [0] rfl rfl rfl rfl (by decide)) ⟨⟨by decide, by decide⟩, by decide, by decide⟩ (Nat.le_of_ble_eq_true rfl) rfl rfl dX5_ifRiffled_4 (n := 7) rfl (fun vv ww hp => ?_)
  obtain ⟨rr, rfl, rfl, rfl⟩ := hp
  refine ⟨_, rfl, ?_⟩
  refine g_ws (ws' := [(m 0, .inr (5, [.ref (m 1), .ref (m 2), .ref (m 3), .int (nI n), .ref (m 4), .ref (m 5), .ref (m 6), .int (nI ln), .ref (m 7), .ref (m 8)]))]) rfl ?_
  refine g_st (st' := [.int (nI 1)]) rfl ?_
  refine n_if_eq hc (by omega) dX5_ifRiffled_7 (tgt := 29) (by decide) (n := 10) rfl (fun c_1 => by (exfalso; revert c_1; first | omega | decide)) (fun c_1 => ?_)
  refine g_iload_n hc 2 rfl rfl dX5_ifRiffled_10 (n := 11) rfl ?_
  refine g_iconst (v := nI 0) hc (by decide) dX5_ifRiffled_11 (n := 12) rfl ?_
  refine g_iconst (v := nI 1) hc (by decide) dX5_ifRiffled_12 (n := 13) rfl ?_
  refine g_callS (rest := []) (As := [.int y, .int (nI 0), .int (nI 1)]) (cells' := 0) (slots' := 0) hc (c_X5_in_n κ _ y (nI 0) (nI 1) (in_n1 hx2)) q_X5_in k_ml_RX5_35 rfl rfl (jn_ix (wr := [(m 0, .inr (5, [.ref (m 1), .ref (m 2), .ref (m 3), .int (nI n), .ref (m 4), .ref (m 5), .ref (m 6), .int (nI ln), .ref (m 7), .ref (m 8)]))]) [] [0] rfl rfl rfl rfl (by decide)) ⟨⟨by decide, by decide⟩, by decide, by decide⟩ (Nat.le_of_ble_eq_true rfl) rfl rfl dX5_ifRiffled_13 (n := 16) rfl (fun vv ww hp => ?_)
  obtain ⟨rr, rfl, rfl, rfl⟩ := hp
  refine ⟨_, rfl, ?_⟩
  refine g_ws (ws' := [(m 0, .inr (5, [.ref (m 1), .ref (m 2), .ref (m 3), .int (nI n), .ref (m 4), .ref (m 5), .ref (m 6), .int (nI ln), .ref (m 7), .ref (m 8)]))]) rfl ?_
  refine g_st (st' := [.int (nI 0)]) rfl ?_
  refine n_if_eq hc (by omega) dX5_ifRiffled_16 (tgt := 29) (by decide) (n := 19) rfl (fun c_2 => ?_) (fun c_2 => by (exfalso; revert c_2; first | omega | decide))
  refine g_bipush (v := nI 4294967294) hc (by decide) dX5_ifRiffled_29 (n := 31) rfl ?_
  refine hret.1 _ _ _ _ _ _ rfl (by decide) (by decide) dX5_ifRiffled_31 ?_
  exact ⟨_, rfl, rfl, rfl⟩
set_option maxHeartbeats 1000000 in
set_option maxRecDepth 100000 in
theorem c_X5_needed (κ : Kp) (l : Launch) (m : Nat → Nat) (n : Nat) (ln : Nat) (z : Nat → Nat) (y : Nat → Nat) (r0 : Nat → Nat) (p0 : Nat → Nat) (hv : Zv z) : CT κ l yX5_needed cX5_needed 2 (some .int) 3 71 0 0 [.ref (m 0)] [(m 0, .inr (5, [.ref (m 1), .ref (m 2), .ref (m 3), .int (nI n), .ref (m 4), .ref (m 5), .ref (m 6), .int (nI ln), .ref (m 7), .ref (m 8)])), (m 1, aI κ 333 z), (m 2, aI κ 333 y), (m 7, aI κ 52 r0), (m 8, aI κ 52 p0)] (PI (fun rr ww => ∃ y2 : Nat → Nat, ∃ r2 : Nat → Nat, ∃ p2 : Nat → Nat, rr = (nI (nds z 20 1)) ∧ ww = [(m 0, .inr (5, [.ref (m 1), .ref (m 2), .ref (m 3), .int (nI n), .ref (m 4), .ref (m 5), .ref (m 6), .int (nI ln), .ref (m 7), .ref (m 8)])), (m 1, aI κ 333 z), (m 2, aI κ 333 y2), (m 7, aI κ 52 r2), (m 8, aI κ 52 p2)])) := by
  refine CT.go (plainFor_of_name (by decide)) (Nat.le_of_ble_eq_true rfl) ?_
  intro Γ A Q hl hc hret
  subst hl
  have hc : Cx κ Γ A cX5_needed 2 RX5 "needed" (some .int) { frames := 3, cells := 0, slots := 0, locals := 71 } := hc
  refine g_lv (lv' := [(0, .ref (m 0))]) rfl ?_
  obtain ⟨hzb, hzf, hzc, hp, hh, hk1, hk2, hx⟩ := id hv
  refine g_iconst (v := nI 1) hc (by decide) dX5_needed_0 (n := 1) rfl ?_
  refine g_istore_n (lv2 := [(0, .ref (m 0)), (1, .int (nI 1))]) hc rfl (by decide) [1, 0] rfl rfl dX5_needed_1 (n := 2) rfl ?_
  have L_1 : ∀ (fuel : Nat) (i : Nat) (y1 : Nat → Nat) (r1 : Nat → Nat) (p1 : Nat → Nat), (i ≤ 20) → (nds z 20 1 = nds z (20 - i) (i + 1)) → 20 - i < fuel → G κ Γ A 2 0 0 Q [(m 0, .inr (5, [.ref (m 1), .ref (m 2), .ref (m 3), .int (nI n), .ref (m 4), .ref (m 5), .ref (m 6), .int (nI ln), .ref (m 7), .ref (m 8)])), (m 1, aI κ 333 z), (m 2, aI κ 333 y1), (m 7, aI κ 52 r1), (m 8, aI κ 52 p1)] 2 [(0, .ref (m 0)), (1, .int (nI (i + 1)))] [] := by
    intro fuel
    induction fuel with
    | zero => intro i y1 r1 p1 hi hq h; exact absurd h (Nat.not_lt_zero _)
    | succ fuel ih_2 =>
      intro i y1 r1 p1 hi hq hn_3
      refine g_iload_n hc 1 rfl rfl dX5_needed_2 (n := 3) rfl ?_
      refine g_bipush (v := nI 20) hc (by decide) dX5_needed_3 (n := 5) rfl ?_
      refine n_icmp_gt hc (by omega) (by omega) dX5_needed_5 (tgt := 34) (by decide) (n := 8) rfl (fun c_4 => ?_) (fun c_4 => ?_)
      · skip
        refine g_bipush (v := nI 4294967290) hc (by decide) dX5_needed_34 (n := 36) rfl ?_
        refine hret.1 _ _ _ _ _ _ rfl (by decide) (by decide) dX5_needed_36 ?_
        exact ⟨_, rfl, y1, r1, p1, (by rw [hq, show 20 - i = 0 from by omega]; rfl), rfl⟩
      · skip
        refine g_aload_n hc 0 rfl rfl dX5_needed_8 (n := 9) rfl ?_
        refine g_iload_n hc 1 rfl rfl dX5_needed_9 (n := 10) rfl ?_
        refine g_bipush (v := (-6)) hc (by decide) dX5_needed_10 (n := 12) rfl ?_
        refine g_callV (rest := []) (As := [.int (nI (i + 1)), .int (-6)]) (cells' := 0) (slots' := 0) hc (c_X5_keptIf_none κ _ m n ln z y1 r1 p1 (i + 1) hv (by omega)) q_X5_keptIf k_ml_RX5_122 rfl rfl (jn_ix (wr := []) [0, 1, 2, 3, 4] [] rfl rfl rfl rfl (by decide)) (qr := 0) rfl vw_5 ⟨⟨by decide, by decide⟩, by decide, by decide⟩ (Nat.le_of_ble_eq_true rfl) rfl rfl dX5_needed_12 (n := 15) rfl (fun vv ww hp => ?_)
        obtain ⟨rr, rfl, r2_5, p2_6, rfl, rfl⟩ := hp
        refine ⟨_, rfl, ?_⟩
        refine g_ws (ws' := [(m 0, .inr (5, [.ref (m 1), .ref (m 2), .ref (m 3), .int (nI n), .ref (m 4), .ref (m 5), .ref (m 6), .int (nI ln), .ref (m 7), .ref (m 8)])), (m 1, aI κ 333 z), (m 2, aI κ 333 z), (m 7, aI κ 52 r2_5), (m 8, aI κ 52 p2_6)]) rfl ?_
        refine g_st (st' := [.int (nI (kp z (ri z (i + 1)).2))]) rfl ?_
        have hkl := kp_le z (ri z (i + 1)).2
        refine g_aload_n hc 0 rfl rfl dX5_needed_15 (n := 16) rfl ?_
        refine g_getf hc 0 rfl vw_5 inX5 0 (by decide) k_fl_RX5_7 rfl rfl dX5_needed_16 (n := 19) rfl ?_
        refine g_sipush (v := nI 324) hc (by decide) dX5_needed_19 (n := 22) rfl ?_
        refine n_iald (v := z 324) hc 1 rfl (by omega) (by decide) rfl dX5_needed_22 (n := 23) rfl ?_
        refine n_icmp_gt hc (by omega) (by omega) dX5_needed_23 (tgt := 28) (by decide) (n := 26) rfl (fun c_7 => ?_) (fun c_7 => ?_)
        · skip
          refine n_iinc (v := (i + 1) + 1) (zk := 1) (lv2 := [(0, .ref (m 0)), (1, .int (nI ((i + 1) + 1)))]) hc 1 rfl (by decide) rfl (by decide) [1, 0] rfl rfl dX5_needed_28 (n := 31) rfl ?_
          refine g_goto (n := 2) hc dX5_needed_31 (by decide) ?_
          exact ih_2 (i + 1) z r2_5 p2_6 (by omega) (by rw [hq, show 20 - i = (20 - (i + 1)) + 1 from by omega, nds, if_neg (show ¬ kp z (ri z (i + 1)).2 ≤ z 324 from by omega)]) (by omega)
        · skip
          refine g_iload_n hc 1 rfl rfl dX5_needed_26 (n := 27) rfl ?_
          refine hret.1 _ _ _ _ _ _ rfl (by decide) (by decide) dX5_needed_27 ?_
          exact ⟨_, rfl, z, r2_5, p2_6, (by rw [hq, show 20 - i = (20 - (i + 1)) + 1 from by omega, nds, if_pos (show kp z (ri z (i + 1)).2 ≤ z 324 from by omega)]), rfl⟩
  exact L_1 _ 0 y r0 p0 (by omega) (rfl) (Nat.lt_succ_self _)
set_option maxHeartbeats 1000000 in
set_option maxRecDepth 100000 in
theorem c_X5_worstBend (κ : Kp) (l : Launch) (m : Nat → Nat) (n : Nat) (ln : Nat) (z : Nat → Nat) (y : Nat → Nat) (r0 : Nat → Nat) (p0 : Nat → Nat) (hv : Zv z) : CT κ l yX5_worstBend cX5_worstBend 5 (some .int) 3 71 0 0 [.ref (m 0)] [(m 0, .inr (5, [.ref (m 1), .ref (m 2), .ref (m 3), .int (nI n), .ref (m 4), .ref (m 5), .ref (m 6), .int (nI ln), .ref (m 7), .ref (m 8)])), (m 1, aI κ 333 z), (m 2, aI κ 333 y), (m 7, aI κ 52 r0), (m 8, aI κ 52 p0)] (PI (fun rr ww => ∃ y2 : Nat → Nat, ∃ r2 : Nat → Nat, ∃ p2 : Nat → Nat, rr = (nI ((wbs z 52).1)) ∧ ww = [(m 0, .inr (5, [.ref (m 1), .ref (m 2), .ref (m 3), .int (nI n), .ref (m 4), .ref (m 5), .ref (m 6), .int (nI ln), .ref (m 7), .ref (m 8)])), (m 1, aI κ 333 z), (m 2, aI κ 333 y2), (m 7, aI κ 52 r2), (m 8, aI κ 52 p2)])) := by
  refine CT.go (plainFor_of_name (by decide)) (Nat.le_of_ble_eq_true rfl) ?_
  intro Γ A Q hl hc hret
  subst hl
  have hc : Cx κ Γ A cX5_worstBend 5 RX5 "worstBend" (some .int) { frames := 3, cells := 0, slots := 0, locals := 71 } := hc
  refine g_lv (lv' := [(0, .ref (m 0))]) rfl ?_
  obtain ⟨hzb, hzf, hzc, hp, hh, hk1, hk2, hx⟩ := id hv
  refine g_bipush (v := nI 4294967290) hc (by decide) dX5_worstBend_0 (n := 2) rfl ?_
  refine g_istore_n (lv2 := [(0, .ref (m 0)), (1, .int (nI 4294967290))]) hc rfl (by decide) [1, 0] rfl rfl dX5_worstBend_2 (n := 3) rfl ?_
  refine g_bipush (v := nI 52) hc (by decide) dX5_worstBend_3 (n := 5) rfl ?_
  refine g_istore_n (lv2 := [(0, .ref (m 0)), (1, .int (nI 4294967290)), (2, .int (nI 52))]) hc rfl (by decide) [1, 2, 0] rfl rfl dX5_worstBend_5 (n := 6) rfl ?_
  refine g_iconst (v := nI 0) hc (by decide) dX5_worstBend_6 (n := 7) rfl ?_
  refine g_istore_n (lv2 := [(0, .ref (m 0)), (1, .int (nI 4294967290)), (2, .int (nI 52)), (3, .int (nI 0))]) hc rfl (by decide) [1, 2, 3, 0] rfl rfl dX5_worstBend_7 (n := 8) rfl ?_
  have L_1 : ∀ (fuel : Nat) (i : Nat) (w : Nat) (f : Nat) (y1 : Nat → Nat) (r1 : Nat → Nat) (p1 : Nat → Nat), (i ≤ 52) → (wbs z i = (w, f)) → (f ≤ 52) → 52 - i < fuel → G κ Γ A 5 0 0 Q [(m 0, .inr (5, [.ref (m 1), .ref (m 2), .ref (m 3), .int (nI n), .ref (m 4), .ref (m 5), .ref (m 6), .int (nI ln), .ref (m 7), .ref (m 8)])), (m 1, aI κ 333 z), (m 2, aI κ 333 y1), (m 7, aI κ 52 r1), (m 8, aI κ 52 p1)] 8 [(0, .ref (m 0)), (1, .int (nI w)), (2, .int (nI f)), (3, .int (nI i))] [] := by
    intro fuel
    induction fuel with
    | zero => intro i w f y1 r1 p1 hi hw hf h; exact absurd h (Nat.not_lt_zero _)
    | succ fuel ih_2 =>
      intro i w f y1 r1 p1 hi hw hf hn_3
      refine g_iload_n hc 3 rfl rfl dX5_worstBend_8 (n := 9) rfl ?_
      refine g_bipush (v := nI 52) hc (by decide) dX5_worstBend_9 (n := 11) rfl ?_
      refine n_icmp_ge hc (by omega) (by omega) dX5_worstBend_11 (tgt := 59) (by decide) (n := 14) rfl (fun c_4 => ?_) (fun c_4 => ?_)
      · skip
        refine g_iload_n hc 1 rfl rfl dX5_worstBend_59 (n := 60) rfl ?_
        refine hret.1 _ _ _ _ _ _ rfl (by decide) (by decide) dX5_worstBend_60 ?_
        exact ⟨_, rfl, y1, r1, p1, (by have e9 : i = 52 := (by omega); subst e9; rw [hw]), rfl⟩
      · skip
        refine g_aload_n hc 0 rfl rfl dX5_worstBend_14 (n := 15) rfl ?_
        refine g_getf hc 0 rfl vw_5 inX5 0 (by decide) k_fl_RX5_7 rfl rfl dX5_worstBend_15 (n := 18) rfl ?_
        refine g_bipush (v := nI 52) hc (by decide) dX5_worstBend_18 (n := 20) rfl ?_
        refine g_iload_n hc 3 rfl rfl dX5_worstBend_20 (n := 21) rfl ?_
        refine n_iadd (v := 52 + i) hc rfl dX5_worstBend_21 (n := 22) rfl ?_
        have hbi := hzb i (by omega)
        refine n_iald (v := z (52 + i)) hc 1 rfl (by omega) (by decide) rfl dX5_worstBend_22 (n := 23) rfl ?_
        refine g_iconst (v := nI 1) hc (by decide) dX5_worstBend_23 (n := 24) rfl ?_
        refine n_icmp_ne hc (by omega) (by omega) dX5_worstBend_24 (tgt := 53) (by decide) (n := 27) rfl (fun c_5 => ?_) (fun c_5 => ?_)
        · skip
          refine n_iinc (v := i + 1) (zk := 1) (lv2 := [(0, .ref (m 0)), (1, .int (nI w)), (2, .int (nI f)), (3, .int (nI (i + 1)))]) hc 3 rfl (by decide) rfl (by decide) [1, 2, 3, 0] rfl rfl dX5_worstBend_53 (n := 56) rfl ?_
          refine g_goto (n := 8) hc dX5_worstBend_56 (by decide) ?_
          exact ih_2 (i + 1) w f y1 r1 p1 (by omega) (by rw [wbs, hw]; first | (rw [if_pos ⟨by omega, by show wbk z i < f; omega⟩]; done) | (rw [if_neg (by rintro ⟨h1, h2⟩; (try (have h3 : wbk z i < f := h2)); omega)]; done)) (by omega) (by omega)
        · skip
          refine g_aload_n hc 0 rfl rfl dX5_worstBend_27 (n := 28) rfl ?_
          refine g_aload_n hc 0 rfl rfl dX5_worstBend_28 (n := 29) rfl ?_
          refine g_getf hc 0 rfl vw_5 inX5 0 (by decide) k_fl_RX5_7 rfl rfl dX5_worstBend_29 (n := 32) rfl ?_
          refine g_sipush (v := nI 325) hc (by decide) dX5_worstBend_32 (n := 35) rfl ?_
          refine n_iald (v := z 325) hc 1 rfl (by omega) (by decide) rfl dX5_worstBend_35 (n := 36) rfl ?_
          refine g_iload_n hc 3 rfl rfl dX5_worstBend_36 (n := 37) rfl ?_
          refine g_callV (rest := []) (As := [.int (nI (z 325)), .int (nI i)]) (cells' := 0) (slots' := 0) hc (c_X5_keptIf_flat κ _ m n ln z y1 r1 p1 (z 325) i hv (by omega) (by omega)) q_X5_keptIf k_ml_RX5_122 rfl rfl (jn_ix (wr := []) [0, 1, 2, 3, 4] [] rfl rfl rfl rfl (by decide)) (qr := 0) rfl vw_5 ⟨⟨by decide, by decide⟩, by decide, by decide⟩ (Nat.le_of_ble_eq_true rfl) rfl rfl dX5_worstBend_37 (n := 40) rfl (fun vv ww hp => ?_)
          obtain ⟨rr, rfl, r2_6, p2_7, rfl, rfl⟩ := hp
          refine ⟨_, rfl, ?_⟩
          refine g_ws (ws' := [(m 0, .inr (5, [.ref (m 1), .ref (m 2), .ref (m 3), .int (nI n), .ref (m 4), .ref (m 5), .ref (m 6), .int (nI ln), .ref (m 7), .ref (m 8)])), (m 1, aI κ 333 z), (m 2, aI κ 333 z), (m 7, aI κ 52 r2_6), (m 8, aI κ 52 p2_7)]) rfl ?_
          refine g_st (st' := [.int (nI (kp z (rit (va_up (bz z) i 0) z (z 326) (z 325)).2))]) rfl ?_
          have hkl2 : wbk z i ≤ 51 := kp_le _ _
          refine g_st (st' := [.int (nI (wbk z i))]) rfl ?_
          refine g_istore (lv2 := [(0, .ref (m 0)), (1, .int (nI w)), (2, .int (nI f)), (3, .int (nI i)), (4, .int (nI (wbk z i)))]) hc (by decide) [1, 2, 3, 4, 0] rfl rfl dX5_worstBend_40 (n := 42) rfl ?_
          refine g_iload hc 4 rfl dX5_worstBend_42 (n := 44) rfl ?_
          refine g_iload_n hc 2 rfl rfl dX5_worstBend_44 (n := 45) rfl ?_
          refine n_icmp_ge hc (by omega) (by omega) dX5_worstBend_45 (tgt := 53) (by decide) (n := 48) rfl (fun c_8 => ?_) (fun c_8 => ?_)
          · skip
            refine n_iinc (v := i + 1) (zk := 1) (lv2 := [(0, .ref (m 0)), (1, .int (nI w)), (2, .int (nI f)), (3, .int (nI (i + 1))), (4, .int (nI (wbk z i)))]) hc 3 rfl (by decide) rfl (by decide) [1, 2, 3, 0, 4] rfl rfl dX5_worstBend_53 (n := 56) rfl ?_
            refine g_goto (n := 8) hc dX5_worstBend_56 (by decide) ?_
            refine g_lsub (lv' := [(0, .ref (m 0)), (1, .int (nI w)), (2, .int (nI f)), (3, .int (nI (i + 1)))]) [0, 1, 2, 3] rfl ?_
            exact ih_2 (i + 1) w f z r2_6 p2_7 (by omega) (by rw [wbs, hw]; first | (rw [if_pos ⟨by omega, by show wbk z i < f; omega⟩]; done) | (rw [if_neg (by rintro ⟨h1, h2⟩; (try (have h3 : wbk z i < f := h2)); omega)]; done)) (by omega) (by omega)
          · skip
            refine g_iload_n hc 3 rfl rfl dX5_worstBend_48 (n := 49) rfl ?_
            refine g_istore_n (lv2 := [(0, .ref (m 0)), (1, .int (nI i)), (2, .int (nI f)), (3, .int (nI i)), (4, .int (nI (wbk z i)))]) hc rfl (by decide) [1, 0, 2, 3, 4] rfl rfl dX5_worstBend_49 (n := 50) rfl ?_
            refine g_iload hc 4 rfl dX5_worstBend_50 (n := 52) rfl ?_
            refine g_istore_n (lv2 := [(0, .ref (m 0)), (1, .int (nI i)), (2, .int (nI (wbk z i))), (3, .int (nI i)), (4, .int (nI (wbk z i)))]) hc rfl (by decide) [1, 2, 0, 3, 4] rfl rfl dX5_worstBend_52 (n := 53) rfl ?_
            refine n_iinc (v := i + 1) (zk := 1) (lv2 := [(0, .ref (m 0)), (1, .int (nI i)), (2, .int (nI (wbk z i))), (3, .int (nI (i + 1))), (4, .int (nI (wbk z i)))]) hc 3 rfl (by decide) rfl (by decide) [1, 2, 3, 0, 4] rfl rfl dX5_worstBend_53 (n := 56) rfl ?_
            refine g_goto (n := 8) hc dX5_worstBend_56 (by decide) ?_
            refine g_lsub (lv' := [(0, .ref (m 0)), (1, .int (nI i)), (2, .int (nI (wbk z i))), (3, .int (nI (i + 1)))]) [0, 1, 2, 3] rfl ?_
            exact ih_2 (i + 1) i (wbk z i) z r2_6 p2_7 (by omega) (by rw [wbs, hw]; first | (rw [if_pos ⟨by omega, by show wbk z i < f; omega⟩]; done) | (rw [if_neg (by rintro ⟨h1, h2⟩; (try (have h3 : wbk z i < f := h2)); omega)]; done)) (by omega) (by omega)
  exact L_1 _ 0 4294967290 52 y r0 p0 (by omega) (rfl) (by omega) (Nat.lt_succ_self _)
set_option maxHeartbeats 1000000 in
set_option maxRecDepth 100000 in
theorem c_X5_set_ok0 (κ : Kp) (l : Launch) (m : Nat → Nat) (n : Nat) (ln : Nat) (z : Nat → Nat) (g : Nat → Nat) (hz : Nat → Nat → Nat) (v : Nat) (hv : Zv z) (hn : n ≤ 4) (hg : HB n g hz) (hlo : 0 ≤ v) (hhi : v ≤ 51) : CT κ l yX5_set cX5_set 4 (some .int) 1 22 0 0 [.ref (m 0), .int (nI 0), .int (nI v)] [(m 0, .inr (5, [.ref (m 1), .ref (m 2), .ref (m 3), .int (nI n), .ref (m 4), .ref (m 5), .ref (m 6), .int (nI ln), .ref (m 7), .ref (m 8)])), (m 1, aI κ 333 z), (m 3, aI κ 1332 g)] (PI (fun rr ww => ∃ g2 : Nat → Nat, (HB (rn n) g2 (rh n hz z)) ∧ rr = (nI (z 324)) ∧ ww = [(m 0, .inr (5, [.ref (m 1), .ref (m 2), .ref (m 3), .int (nI (rn n)), .ref (m 4), .ref (m 5), .ref (m 6), .int (nI ln), .ref (m 7), .ref (m 8)])), (m 1, aI κ 333 (va_up z 324 v)), (m 3, aI κ 1332 g2)])) := by
  refine CT.go (plainFor_of_name (by decide)) (Nat.le_of_ble_eq_true rfl) ?_
  intro Γ A Q hl hc hret
  subst hl
  have hc : Cx κ Γ A cX5_set 4 RX5 "set" (some .int) { frames := 1, cells := 0, slots := 0, locals := 22 } := hc
  refine g_lv (lv' := [(0, .ref (m 0)), (1, .int (nI 0)), (2, .int (nI v))]) rfl ?_
  obtain ⟨hzb, hzf, hzc, hp, hh, hk1, hk2, hx⟩ := id hv
  refine g_iload_n hc 1 rfl rfl dX5_set_0 (n := 1) rfl ?_
  refine g_iconst (v := nI 0) hc (by decide) dX5_set_1 (n := 2) rfl ?_
  refine g_iconst (v := nI 1) hc (by decide) dX5_set_2 (n := 3) rfl ?_
  refine g_callS (rest := []) (As := [.int (nI 0), .int (nI 0), .int (nI 1)]) (cells' := 0) (slots' := 0) hc (c_X5_in_y κ _ (nI 0) (nI 0) (nI 1) (by decide)) q_X5_in k_ml_RX5_35 rfl rfl (jn_ix (wr := [(m 0, .inr (5, [.ref (m 1), .ref (m 2), .ref (m 3), .int (nI n), .ref (m 4), .ref (m 5), .ref (m 6), .int (nI ln), .ref (m 7), .ref (m 8)])), (m 1, aI κ 333 z), (m 3, aI κ 1332 g)]) [] [0, 1, 2] rfl rfl rfl rfl (by decide)) ⟨⟨by decide, by decide⟩, by decide, by decide⟩ (Nat.le_of_ble_eq_true rfl) rfl rfl dX5_set_3 (n := 6) rfl (fun vv ww hp => ?_)
  obtain ⟨rr, rfl, rfl, rfl⟩ := hp
  refine ⟨_, rfl, ?_⟩
  refine g_ws (ws' := [(m 0, .inr (5, [.ref (m 1), .ref (m 2), .ref (m 3), .int (nI n), .ref (m 4), .ref (m 5), .ref (m 6), .int (nI ln), .ref (m 7), .ref (m 8)])), (m 1, aI κ 333 z), (m 3, aI κ 1332 g)]) rfl ?_
  refine g_st (st' := [.int (nI 1)]) rfl ?_
  refine n_if_eq hc (by omega) dX5_set_6 (tgt := 28) (by decide) (n := 9) rfl (fun c_1 => by (exfalso; revert c_1; first | omega | decide)) (fun c_1 => ?_)
  refine g_iload_n hc 2 rfl rfl dX5_set_9 (n := 10) rfl ?_
  refine g_iload_n hc 1 rfl rfl dX5_set_10 (n := 11) rfl ?_
  refine g_iload_n hc 1 rfl rfl dX5_set_11 (n := 12) rfl ?_
  refine n_if_ne hc (by omega) dX5_set_12 (tgt := 20) (by decide) (n := 15) rfl (fun c_2 => by (exfalso; revert c_2; first | omega | decide)) (fun c_2 => ?_)
  refine g_bipush (v := nI 51) hc (by decide) dX5_set_15 (n := 17) rfl ?_
  refine g_goto (n := 22) hc dX5_set_17 (by decide) ?_
  refine g_callS (rest := []) (As := [.int (nI v), .int (nI 0), .int (nI 51)]) (cells' := 0) (slots' := 0) hc (c_X5_in_y κ _ (nI v) (nI 0) (nI 51) (in_y (by omega) (by omega))) q_X5_in k_ml_RX5_35 rfl rfl (jn_ix (wr := [(m 0, .inr (5, [.ref (m 1), .ref (m 2), .ref (m 3), .int (nI n), .ref (m 4), .ref (m 5), .ref (m 6), .int (nI ln), .ref (m 7), .ref (m 8)])), (m 1, aI κ 333 z), (m 3, aI κ 1332 g)]) [] [0, 1, 2] rfl rfl rfl rfl (by decide)) ⟨⟨by decide, by decide⟩, by decide, by decide⟩ (Nat.le_of_ble_eq_true rfl) rfl rfl dX5_set_22 (n := 25) rfl (fun vv ww hp => ?_)
  obtain ⟨rr, rfl, rfl, rfl⟩ := hp
  refine ⟨_, rfl, ?_⟩
  refine g_ws (ws' := [(m 0, .inr (5, [.ref (m 1), .ref (m 2), .ref (m 3), .int (nI n), .ref (m 4), .ref (m 5), .ref (m 6), .int (nI ln), .ref (m 7), .ref (m 8)])), (m 1, aI κ 333 z), (m 3, aI κ 1332 g)]) rfl ?_
  refine g_st (st' := [.int (nI 1)]) rfl ?_
  refine n_if_ne hc (by omega) dX5_set_25 (tgt := 31) (by decide) (n := 28) rfl (fun c_3 => ?_) (fun c_3 => by (exfalso; revert c_3; first | omega | decide))
  refine g_aload_n hc 0 rfl rfl dX5_set_31 (n := 32) rfl ?_
  refine g_callV (rest := []) (As := []) (cells' := 0) (slots' := 0) hc (c_X5_record κ _ m n ln z g hz hn hg) q_X5_record k_ml_RX5_47 rfl rfl (jn_ix (wr := []) [0, 1, 2] [] rfl rfl rfl rfl (by decide)) (qr := 0) rfl vw_5 ⟨⟨by decide, by decide⟩, by decide, by decide⟩ (Nat.le_of_ble_eq_true rfl) rfl rfl dX5_set_32 (n := 35) rfl (fun vv ww hp => ?_)
  obtain ⟨rfl, g2, hg2, rfl⟩ := hp
  refine ⟨_, rfl, ?_⟩
  refine g_ws (ws' := [(m 0, .inr (5, [.ref (m 1), .ref (m 2), .ref (m 3), .int (nI (rn n)), .ref (m 4), .ref (m 5), .ref (m 6), .int (nI ln), .ref (m 7), .ref (m 8)])), (m 1, aI κ 333 z), (m 3, aI κ 1332 g2)]) rfl ?_
  refine g_st (st' := []) rfl ?_
  refine g_aload_n hc 0 rfl rfl dX5_set_35 (n := 36) rfl ?_
  refine g_getf hc 0 rfl vw_5 inX5 0 (by decide) k_fl_RX5_7 rfl rfl dX5_set_36 (n := 39) rfl ?_
  refine g_sipush (v := nI 324) hc (by decide) dX5_set_39 (n := 42) rfl ?_
  refine g_iload_n hc 1 rfl rfl dX5_set_42 (n := 43) rfl ?_
  refine n_iadd (v := 324) hc rfl dX5_set_43 (n := 44) rfl ?_
  refine n_iald (v := z 324) hc 1 rfl (by omega) (by decide) rfl dX5_set_44 (n := 45) rfl ?_
  refine g_istore_n (lv2 := [(0, .ref (m 0)), (1, .int (nI 0)), (2, .int (nI v)), (3, .int (nI (z 324)))]) hc rfl (by decide) [1, 2, 3, 0] rfl rfl dX5_set_45 (n := 46) rfl ?_
  refine g_aload_n hc 0 rfl rfl dX5_set_46 (n := 47) rfl ?_
  refine g_getf hc 0 rfl vw_5 inX5 0 (by decide) k_fl_RX5_7 rfl rfl dX5_set_47 (n := 50) rfl ?_
  refine g_sipush (v := nI 324) hc (by decide) dX5_set_50 (n := 53) rfl ?_
  refine g_iload_n hc 1 rfl rfl dX5_set_53 (n := 54) rfl ?_
  refine n_iadd (v := 324) hc rfl dX5_set_54 (n := 55) rfl ?_
  refine g_iload_n hc 2 rfl rfl dX5_set_55 (n := 56) rfl ?_
  refine n_iast (ws' := [(m 0, .inr (5, [.ref (m 1), .ref (m 2), .ref (m 3), .int (nI (rn n)), .ref (m 4), .ref (m 5), .ref (m 6), .int (nI ln), .ref (m 7), .ref (m 8)])), (m 1, aI κ 333 (va_up z 324 v)), (m 3, aI κ 1332 g2)]) hc 1 rfl (by omega) (by decide) rfl dX5_set_56 (n := 57) rfl ?_
  refine g_iload_n hc 3 rfl rfl dX5_set_57 (n := 58) rfl ?_
  refine hret.1 _ _ _ _ _ _ rfl (by decide) (by decide) dX5_set_58 ?_
  exact ⟨_, rfl, g2, (by assumption), rfl, rfl⟩
set_option maxHeartbeats 1000000 in
set_option maxRecDepth 100000 in
theorem c_X5_set_er2 (κ : Kp) (l : Launch) (m : Nat → Nat) (n : Nat) (ln : Nat) (x : Int32) (hx1 : x < 0 ∨ nI 52 ≤ x) : CT κ l yX5_set cX5_set 4 (some .int) 1 22 0 0 [.ref (m 0), .int (nI 0), .int x] [(m 0, .inr (5, [.ref (m 1), .ref (m 2), .ref (m 3), .int (nI n), .ref (m 4), .ref (m 5), .ref (m 6), .int (nI ln), .ref (m 7), .ref (m 8)]))] (PI (fun rr ww => rr = (nI 4294967294) ∧ ww = [(m 0, .inr (5, [.ref (m 1), .ref (m 2), .ref (m 3), .int (nI n), .ref (m 4), .ref (m 5), .ref (m 6), .int (nI ln), .ref (m 7), .ref (m 8)]))])) := by
  refine CT.go (plainFor_of_name (by decide)) (Nat.le_of_ble_eq_true rfl) ?_
  intro Γ A Q hl hc hret
  subst hl
  have hc : Cx κ Γ A cX5_set 4 RX5 "set" (some .int) { frames := 1, cells := 0, slots := 0, locals := 22 } := hc
  refine g_lv (lv' := [(0, .ref (m 0)), (1, .int (nI 0)), (2, .int x)]) rfl ?_
  refine g_iload_n hc 1 rfl rfl dX5_set_0 (n := 1) rfl ?_
  refine g_iconst (v := nI 0) hc (by decide) dX5_set_1 (n := 2) rfl ?_
  refine g_iconst (v := nI 1) hc (by decide) dX5_set_2 (n := 3) rfl ?_
  refine g_callS (rest := []) (As := [.int (nI 0), .int (nI 0), .int (nI 1)]) (cells' := 0) (slots' := 0) hc (c_X5_in_y κ _ (nI 0) (nI 0) (nI 1) (by decide)) q_X5_in k_ml_RX5_35 rfl rfl (jn_ix (wr := [(m 0, .inr (5, [.ref (m 1), .ref (m 2), .ref (m 3), .int (nI n), .ref (m 4), .ref (m 5), .ref (m 6), .int (nI ln), .ref (m 7), .ref (m 8)]))]) [] [0] rfl rfl rfl rfl (by decide)) ⟨⟨by decide, by decide⟩, by decide, by decide⟩ (Nat.le_of_ble_eq_true rfl) rfl rfl dX5_set_3 (n := 6) rfl (fun vv ww hp => ?_)
  obtain ⟨rr, rfl, rfl, rfl⟩ := hp
  refine ⟨_, rfl, ?_⟩
  refine g_ws (ws' := [(m 0, .inr (5, [.ref (m 1), .ref (m 2), .ref (m 3), .int (nI n), .ref (m 4), .ref (m 5), .ref (m 6), .int (nI ln), .ref (m 7), .ref (m 8)]))]) rfl ?_
  refine g_st (st' := [.int (nI 1)]) rfl ?_
  refine n_if_eq hc (by omega) dX5_set_6 (tgt := 28) (by decide) (n := 9) rfl (fun c_1 => by (exfalso; revert c_1; first | omega | decide)) (fun c_1 => ?_)
  refine g_iload_n hc 2 rfl rfl dX5_set_9 (n := 10) rfl ?_
  refine g_iload_n hc 1 rfl rfl dX5_set_10 (n := 11) rfl ?_
  refine g_iload_n hc 1 rfl rfl dX5_set_11 (n := 12) rfl ?_
  refine n_if_ne hc (by omega) dX5_set_12 (tgt := 20) (by decide) (n := 15) rfl (fun c_2 => by (exfalso; revert c_2; first | omega | decide)) (fun c_2 => ?_)
  refine g_bipush (v := nI 51) hc (by decide) dX5_set_15 (n := 17) rfl ?_
  refine g_goto (n := 22) hc dX5_set_17 (by decide) ?_
  refine g_callS (rest := []) (As := [.int x, .int (nI 0), .int (nI 51)]) (cells' := 0) (slots' := 0) hc (c_X5_in_n κ _ x (nI 0) (nI 51) (in_n9 hx1)) q_X5_in k_ml_RX5_35 rfl rfl (jn_ix (wr := [(m 0, .inr (5, [.ref (m 1), .ref (m 2), .ref (m 3), .int (nI n), .ref (m 4), .ref (m 5), .ref (m 6), .int (nI ln), .ref (m 7), .ref (m 8)]))]) [] [0] rfl rfl rfl rfl (by decide)) ⟨⟨by decide, by decide⟩, by decide, by decide⟩ (Nat.le_of_ble_eq_true rfl) rfl rfl dX5_set_22 (n := 25) rfl (fun vv ww hp => ?_)
  obtain ⟨rr, rfl, rfl, rfl⟩ := hp
  refine ⟨_, rfl, ?_⟩
  refine g_ws (ws' := [(m 0, .inr (5, [.ref (m 1), .ref (m 2), .ref (m 3), .int (nI n), .ref (m 4), .ref (m 5), .ref (m 6), .int (nI ln), .ref (m 7), .ref (m 8)]))]) rfl ?_
  refine g_st (st' := [.int (nI 0)]) rfl ?_
  refine n_if_ne hc (by omega) dX5_set_25 (tgt := 31) (by decide) (n := 28) rfl (fun c_3 => by (exfalso; revert c_3; first | omega | decide)) (fun c_3 => ?_)
  refine g_bipush (v := nI 4294967294) hc (by decide) dX5_set_28 (n := 30) rfl ?_
  refine hret.1 _ _ _ _ _ _ rfl (by decide) (by decide) dX5_set_30 ?_
  exact ⟨_, rfl, rfl, rfl⟩
set_option maxHeartbeats 1000000 in
set_option maxRecDepth 100000 in
theorem c_X5_set_ok1 (κ : Kp) (l : Launch) (m : Nat → Nat) (n : Nat) (ln : Nat) (z : Nat → Nat) (g : Nat → Nat) (hz : Nat → Nat → Nat) (v : Nat) (hv : Zv z) (hn : n ≤ 4) (hg : HB n g hz) (hlo : 1 ≤ v) (hhi : v ≤ 9) : CT κ l yX5_set cX5_set 4 (some .int) 1 22 0 0 [.ref (m 0), .int (nI 1), .int (nI v)] [(m 0, .inr (5, [.ref (m 1), .ref (m 2), .ref (m 3), .int (nI n), .ref (m 4), .ref (m 5), .ref (m 6), .int (nI ln), .ref (m 7), .ref (m 8)])), (m 1, aI κ 333 z), (m 3, aI κ 1332 g)] (PI (fun rr ww => ∃ g2 : Nat → Nat, (HB (rn n) g2 (rh n hz z)) ∧ rr = (nI (z 325)) ∧ ww = [(m 0, .inr (5, [.ref (m 1), .ref (m 2), .ref (m 3), .int (nI (rn n)), .ref (m 4), .ref (m 5), .ref (m 6), .int (nI ln), .ref (m 7), .ref (m 8)])), (m 1, aI κ 333 (va_up z 325 v)), (m 3, aI κ 1332 g2)])) := by
  refine CT.go (plainFor_of_name (by decide)) (Nat.le_of_ble_eq_true rfl) ?_
  intro Γ A Q hl hc hret
  subst hl
  have hc : Cx κ Γ A cX5_set 4 RX5 "set" (some .int) { frames := 1, cells := 0, slots := 0, locals := 22 } := hc
  refine g_lv (lv' := [(0, .ref (m 0)), (1, .int (nI 1)), (2, .int (nI v))]) rfl ?_
  obtain ⟨hzb, hzf, hzc, hp, hh, hk1, hk2, hx⟩ := id hv
  refine g_iload_n hc 1 rfl rfl dX5_set_0 (n := 1) rfl ?_
  refine g_iconst (v := nI 0) hc (by decide) dX5_set_1 (n := 2) rfl ?_
  refine g_iconst (v := nI 1) hc (by decide) dX5_set_2 (n := 3) rfl ?_
  refine g_callS (rest := []) (As := [.int (nI 1), .int (nI 0), .int (nI 1)]) (cells' := 0) (slots' := 0) hc (c_X5_in_y κ _ (nI 1) (nI 0) (nI 1) (by decide)) q_X5_in k_ml_RX5_35 rfl rfl (jn_ix (wr := [(m 0, .inr (5, [.ref (m 1), .ref (m 2), .ref (m 3), .int (nI n), .ref (m 4), .ref (m 5), .ref (m 6), .int (nI ln), .ref (m 7), .ref (m 8)])), (m 1, aI κ 333 z), (m 3, aI κ 1332 g)]) [] [0, 1, 2] rfl rfl rfl rfl (by decide)) ⟨⟨by decide, by decide⟩, by decide, by decide⟩ (Nat.le_of_ble_eq_true rfl) rfl rfl dX5_set_3 (n := 6) rfl (fun vv ww hp => ?_)
  obtain ⟨rr, rfl, rfl, rfl⟩ := hp
  refine ⟨_, rfl, ?_⟩
  refine g_ws (ws' := [(m 0, .inr (5, [.ref (m 1), .ref (m 2), .ref (m 3), .int (nI n), .ref (m 4), .ref (m 5), .ref (m 6), .int (nI ln), .ref (m 7), .ref (m 8)])), (m 1, aI κ 333 z), (m 3, aI κ 1332 g)]) rfl ?_
  refine g_st (st' := [.int (nI 1)]) rfl ?_
  refine n_if_eq hc (by omega) dX5_set_6 (tgt := 28) (by decide) (n := 9) rfl (fun c_1 => by (exfalso; revert c_1; first | omega | decide)) (fun c_1 => ?_)
  refine g_iload_n hc 2 rfl rfl dX5_set_9 (n := 10) rfl ?_
  refine g_iload_n hc 1 rfl rfl dX5_set_10 (n := 11) rfl ?_
  refine g_iload_n hc 1 rfl rfl dX5_set_11 (n := 12) rfl ?_
  refine n_if_ne hc (by omega) dX5_set_12 (tgt := 20) (by decide) (n := 15) rfl (fun c_2 => ?_) (fun c_2 => by (exfalso; revert c_2; first | omega | decide))
  refine g_bipush (v := nI 9) hc (by decide) dX5_set_20 (n := 22) rfl ?_
  refine g_callS (rest := []) (As := [.int (nI v), .int (nI 1), .int (nI 9)]) (cells' := 0) (slots' := 0) hc (c_X5_in_y κ _ (nI v) (nI 1) (nI 9) (in_y (by omega) (by omega))) q_X5_in k_ml_RX5_35 rfl rfl (jn_ix (wr := [(m 0, .inr (5, [.ref (m 1), .ref (m 2), .ref (m 3), .int (nI n), .ref (m 4), .ref (m 5), .ref (m 6), .int (nI ln), .ref (m 7), .ref (m 8)])), (m 1, aI κ 333 z), (m 3, aI κ 1332 g)]) [] [0, 1, 2] rfl rfl rfl rfl (by decide)) ⟨⟨by decide, by decide⟩, by decide, by decide⟩ (Nat.le_of_ble_eq_true rfl) rfl rfl dX5_set_22 (n := 25) rfl (fun vv ww hp => ?_)
  obtain ⟨rr, rfl, rfl, rfl⟩ := hp
  refine ⟨_, rfl, ?_⟩
  refine g_ws (ws' := [(m 0, .inr (5, [.ref (m 1), .ref (m 2), .ref (m 3), .int (nI n), .ref (m 4), .ref (m 5), .ref (m 6), .int (nI ln), .ref (m 7), .ref (m 8)])), (m 1, aI κ 333 z), (m 3, aI κ 1332 g)]) rfl ?_
  refine g_st (st' := [.int (nI 1)]) rfl ?_
  refine n_if_ne hc (by omega) dX5_set_25 (tgt := 31) (by decide) (n := 28) rfl (fun c_3 => ?_) (fun c_3 => by (exfalso; revert c_3; first | omega | decide))
  refine g_aload_n hc 0 rfl rfl dX5_set_31 (n := 32) rfl ?_
  refine g_callV (rest := []) (As := []) (cells' := 0) (slots' := 0) hc (c_X5_record κ _ m n ln z g hz hn hg) q_X5_record k_ml_RX5_47 rfl rfl (jn_ix (wr := []) [0, 1, 2] [] rfl rfl rfl rfl (by decide)) (qr := 0) rfl vw_5 ⟨⟨by decide, by decide⟩, by decide, by decide⟩ (Nat.le_of_ble_eq_true rfl) rfl rfl dX5_set_32 (n := 35) rfl (fun vv ww hp => ?_)
  obtain ⟨rfl, g2, hg2, rfl⟩ := hp
  refine ⟨_, rfl, ?_⟩
  refine g_ws (ws' := [(m 0, .inr (5, [.ref (m 1), .ref (m 2), .ref (m 3), .int (nI (rn n)), .ref (m 4), .ref (m 5), .ref (m 6), .int (nI ln), .ref (m 7), .ref (m 8)])), (m 1, aI κ 333 z), (m 3, aI κ 1332 g2)]) rfl ?_
  refine g_st (st' := []) rfl ?_
  refine g_aload_n hc 0 rfl rfl dX5_set_35 (n := 36) rfl ?_
  refine g_getf hc 0 rfl vw_5 inX5 0 (by decide) k_fl_RX5_7 rfl rfl dX5_set_36 (n := 39) rfl ?_
  refine g_sipush (v := nI 324) hc (by decide) dX5_set_39 (n := 42) rfl ?_
  refine g_iload_n hc 1 rfl rfl dX5_set_42 (n := 43) rfl ?_
  refine n_iadd (v := 325) hc rfl dX5_set_43 (n := 44) rfl ?_
  refine n_iald (v := z 325) hc 1 rfl (by omega) (by decide) rfl dX5_set_44 (n := 45) rfl ?_
  refine g_istore_n (lv2 := [(0, .ref (m 0)), (1, .int (nI 1)), (2, .int (nI v)), (3, .int (nI (z 325)))]) hc rfl (by decide) [1, 2, 3, 0] rfl rfl dX5_set_45 (n := 46) rfl ?_
  refine g_aload_n hc 0 rfl rfl dX5_set_46 (n := 47) rfl ?_
  refine g_getf hc 0 rfl vw_5 inX5 0 (by decide) k_fl_RX5_7 rfl rfl dX5_set_47 (n := 50) rfl ?_
  refine g_sipush (v := nI 324) hc (by decide) dX5_set_50 (n := 53) rfl ?_
  refine g_iload_n hc 1 rfl rfl dX5_set_53 (n := 54) rfl ?_
  refine n_iadd (v := 325) hc rfl dX5_set_54 (n := 55) rfl ?_
  refine g_iload_n hc 2 rfl rfl dX5_set_55 (n := 56) rfl ?_
  refine n_iast (ws' := [(m 0, .inr (5, [.ref (m 1), .ref (m 2), .ref (m 3), .int (nI (rn n)), .ref (m 4), .ref (m 5), .ref (m 6), .int (nI ln), .ref (m 7), .ref (m 8)])), (m 1, aI κ 333 (va_up z 325 v)), (m 3, aI κ 1332 g2)]) hc 1 rfl (by omega) (by decide) rfl dX5_set_56 (n := 57) rfl ?_
  refine g_iload_n hc 3 rfl rfl dX5_set_57 (n := 58) rfl ?_
  refine hret.1 _ _ _ _ _ _ rfl (by decide) (by decide) dX5_set_58 ?_
  exact ⟨_, rfl, g2, (by assumption), rfl, rfl⟩
set_option maxHeartbeats 1000000 in
set_option maxRecDepth 100000 in
theorem c_X5_set_er3 (κ : Kp) (l : Launch) (m : Nat → Nat) (n : Nat) (ln : Nat) (x : Int32) (hx1 : x < 0 ∨ nI 52 ≤ x) : CT κ l yX5_set cX5_set 4 (some .int) 1 22 0 0 [.ref (m 0), .int (nI 1), .int x] [(m 0, .inr (5, [.ref (m 1), .ref (m 2), .ref (m 3), .int (nI n), .ref (m 4), .ref (m 5), .ref (m 6), .int (nI ln), .ref (m 7), .ref (m 8)]))] (PI (fun rr ww => rr = (nI 4294967294) ∧ ww = [(m 0, .inr (5, [.ref (m 1), .ref (m 2), .ref (m 3), .int (nI n), .ref (m 4), .ref (m 5), .ref (m 6), .int (nI ln), .ref (m 7), .ref (m 8)]))])) := by
  refine CT.go (plainFor_of_name (by decide)) (Nat.le_of_ble_eq_true rfl) ?_
  intro Γ A Q hl hc hret
  subst hl
  have hc : Cx κ Γ A cX5_set 4 RX5 "set" (some .int) { frames := 1, cells := 0, slots := 0, locals := 22 } := hc
  refine g_lv (lv' := [(0, .ref (m 0)), (1, .int (nI 1)), (2, .int x)]) rfl ?_
  refine g_iload_n hc 1 rfl rfl dX5_set_0 (n := 1) rfl ?_
  refine g_iconst (v := nI 0) hc (by decide) dX5_set_1 (n := 2) rfl ?_
  refine g_iconst (v := nI 1) hc (by decide) dX5_set_2 (n := 3) rfl ?_
  refine g_callS (rest := []) (As := [.int (nI 1), .int (nI 0), .int (nI 1)]) (cells' := 0) (slots' := 0) hc (c_X5_in_y κ _ (nI 1) (nI 0) (nI 1) (by decide)) q_X5_in k_ml_RX5_35 rfl rfl (jn_ix (wr := [(m 0, .inr (5, [.ref (m 1), .ref (m 2), .ref (m 3), .int (nI n), .ref (m 4), .ref (m 5), .ref (m 6), .int (nI ln), .ref (m 7), .ref (m 8)]))]) [] [0] rfl rfl rfl rfl (by decide)) ⟨⟨by decide, by decide⟩, by decide, by decide⟩ (Nat.le_of_ble_eq_true rfl) rfl rfl dX5_set_3 (n := 6) rfl (fun vv ww hp => ?_)
  obtain ⟨rr, rfl, rfl, rfl⟩ := hp
  refine ⟨_, rfl, ?_⟩
  refine g_ws (ws' := [(m 0, .inr (5, [.ref (m 1), .ref (m 2), .ref (m 3), .int (nI n), .ref (m 4), .ref (m 5), .ref (m 6), .int (nI ln), .ref (m 7), .ref (m 8)]))]) rfl ?_
  refine g_st (st' := [.int (nI 1)]) rfl ?_
  refine n_if_eq hc (by omega) dX5_set_6 (tgt := 28) (by decide) (n := 9) rfl (fun c_1 => by (exfalso; revert c_1; first | omega | decide)) (fun c_1 => ?_)
  refine g_iload_n hc 2 rfl rfl dX5_set_9 (n := 10) rfl ?_
  refine g_iload_n hc 1 rfl rfl dX5_set_10 (n := 11) rfl ?_
  refine g_iload_n hc 1 rfl rfl dX5_set_11 (n := 12) rfl ?_
  refine n_if_ne hc (by omega) dX5_set_12 (tgt := 20) (by decide) (n := 15) rfl (fun c_2 => ?_) (fun c_2 => by (exfalso; revert c_2; first | omega | decide))
  refine g_bipush (v := nI 9) hc (by decide) dX5_set_20 (n := 22) rfl ?_
  refine g_callS (rest := []) (As := [.int x, .int (nI 1), .int (nI 9)]) (cells' := 0) (slots' := 0) hc (c_X5_in_n κ _ x (nI 1) (nI 9) (in_n9 hx1)) q_X5_in k_ml_RX5_35 rfl rfl (jn_ix (wr := [(m 0, .inr (5, [.ref (m 1), .ref (m 2), .ref (m 3), .int (nI n), .ref (m 4), .ref (m 5), .ref (m 6), .int (nI ln), .ref (m 7), .ref (m 8)]))]) [] [0] rfl rfl rfl rfl (by decide)) ⟨⟨by decide, by decide⟩, by decide, by decide⟩ (Nat.le_of_ble_eq_true rfl) rfl rfl dX5_set_22 (n := 25) rfl (fun vv ww hp => ?_)
  obtain ⟨rr, rfl, rfl, rfl⟩ := hp
  refine ⟨_, rfl, ?_⟩
  refine g_ws (ws' := [(m 0, .inr (5, [.ref (m 1), .ref (m 2), .ref (m 3), .int (nI n), .ref (m 4), .ref (m 5), .ref (m 6), .int (nI ln), .ref (m 7), .ref (m 8)]))]) rfl ?_
  refine g_st (st' := [.int (nI 0)]) rfl ?_
  refine n_if_ne hc (by omega) dX5_set_25 (tgt := 31) (by decide) (n := 28) rfl (fun c_3 => by (exfalso; revert c_3; first | omega | decide)) (fun c_3 => ?_)
  refine g_bipush (v := nI 4294967294) hc (by decide) dX5_set_28 (n := 30) rfl ?_
  refine hret.1 _ _ _ _ _ _ rfl (by decide) (by decide) dX5_set_30 ?_
  exact ⟨_, rfl, rfl, rfl⟩
set_option maxHeartbeats 1000000 in
set_option maxRecDepth 100000 in
theorem c_X5_set_er4 (κ : Kp) (l : Launch) (m : Nat → Nat) (n : Nat) (ln : Nat) (v : Nat) (hvv : v = 0 ∨ 10 ≤ v) (hv5 : v < 52) : CT κ l yX5_set cX5_set 4 (some .int) 1 22 0 0 [.ref (m 0), .int (nI 1), .int (nI v)] [(m 0, .inr (5, [.ref (m 1), .ref (m 2), .ref (m 3), .int (nI n), .ref (m 4), .ref (m 5), .ref (m 6), .int (nI ln), .ref (m 7), .ref (m 8)]))] (PI (fun rr ww => rr = (nI 4294967294) ∧ ww = [(m 0, .inr (5, [.ref (m 1), .ref (m 2), .ref (m 3), .int (nI n), .ref (m 4), .ref (m 5), .ref (m 6), .int (nI ln), .ref (m 7), .ref (m 8)]))])) := by
  refine CT.go (plainFor_of_name (by decide)) (Nat.le_of_ble_eq_true rfl) ?_
  intro Γ A Q hl hc hret
  subst hl
  have hc : Cx κ Γ A cX5_set 4 RX5 "set" (some .int) { frames := 1, cells := 0, slots := 0, locals := 22 } := hc
  refine g_lv (lv' := [(0, .ref (m 0)), (1, .int (nI 1)), (2, .int (nI v))]) rfl ?_
  refine g_iload_n hc 1 rfl rfl dX5_set_0 (n := 1) rfl ?_
  refine g_iconst (v := nI 0) hc (by decide) dX5_set_1 (n := 2) rfl ?_
  refine g_iconst (v := nI 1) hc (by decide) dX5_set_2 (n := 3) rfl ?_
  refine g_callS (rest := []) (As := [.int (nI 1), .int (nI 0), .int (nI 1)]) (cells' := 0) (slots' := 0) hc (c_X5_in_y κ _ (nI 1) (nI 0) (nI 1) (by decide)) q_X5_in k_ml_RX5_35 rfl rfl (jn_ix (wr := [(m 0, .inr (5, [.ref (m 1), .ref (m 2), .ref (m 3), .int (nI n), .ref (m 4), .ref (m 5), .ref (m 6), .int (nI ln), .ref (m 7), .ref (m 8)]))]) [] [0] rfl rfl rfl rfl (by decide)) ⟨⟨by decide, by decide⟩, by decide, by decide⟩ (Nat.le_of_ble_eq_true rfl) rfl rfl dX5_set_3 (n := 6) rfl (fun vv ww hp => ?_)
  obtain ⟨rr, rfl, rfl, rfl⟩ := hp
  refine ⟨_, rfl, ?_⟩
  refine g_ws (ws' := [(m 0, .inr (5, [.ref (m 1), .ref (m 2), .ref (m 3), .int (nI n), .ref (m 4), .ref (m 5), .ref (m 6), .int (nI ln), .ref (m 7), .ref (m 8)]))]) rfl ?_
  refine g_st (st' := [.int (nI 1)]) rfl ?_
  refine n_if_eq hc (by omega) dX5_set_6 (tgt := 28) (by decide) (n := 9) rfl (fun c_1 => by (exfalso; revert c_1; first | omega | decide)) (fun c_1 => ?_)
  refine g_iload_n hc 2 rfl rfl dX5_set_9 (n := 10) rfl ?_
  refine g_iload_n hc 1 rfl rfl dX5_set_10 (n := 11) rfl ?_
  refine g_iload_n hc 1 rfl rfl dX5_set_11 (n := 12) rfl ?_
  refine n_if_ne hc (by omega) dX5_set_12 (tgt := 20) (by decide) (n := 15) rfl (fun c_2 => ?_) (fun c_2 => by (exfalso; revert c_2; first | omega | decide))
  refine g_bipush (v := nI 9) hc (by decide) dX5_set_20 (n := 22) rfl ?_
  refine g_callS (rest := []) (As := [.int (nI v), .int (nI 1), .int (nI 9)]) (cells' := 0) (slots' := 0) hc (c_X5_in_n κ _ (nI v) (nI 1) (nI 9) (in_nn (by omega) (by decide) (by decide) (by omega))) q_X5_in k_ml_RX5_35 rfl rfl (jn_ix (wr := [(m 0, .inr (5, [.ref (m 1), .ref (m 2), .ref (m 3), .int (nI n), .ref (m 4), .ref (m 5), .ref (m 6), .int (nI ln), .ref (m 7), .ref (m 8)]))]) [] [0] rfl rfl rfl rfl (by decide)) ⟨⟨by decide, by decide⟩, by decide, by decide⟩ (Nat.le_of_ble_eq_true rfl) rfl rfl dX5_set_22 (n := 25) rfl (fun vv ww hp => ?_)
  obtain ⟨rr, rfl, rfl, rfl⟩ := hp
  refine ⟨_, rfl, ?_⟩
  refine g_ws (ws' := [(m 0, .inr (5, [.ref (m 1), .ref (m 2), .ref (m 3), .int (nI n), .ref (m 4), .ref (m 5), .ref (m 6), .int (nI ln), .ref (m 7), .ref (m 8)]))]) rfl ?_
  refine g_st (st' := [.int (nI 0)]) rfl ?_
  refine n_if_ne hc (by omega) dX5_set_25 (tgt := 31) (by decide) (n := 28) rfl (fun c_3 => by (exfalso; revert c_3; first | omega | decide)) (fun c_3 => ?_)
  refine g_bipush (v := nI 4294967294) hc (by decide) dX5_set_28 (n := 30) rfl ?_
  refine hret.1 _ _ _ _ _ _ rfl (by decide) (by decide) dX5_set_30 ?_
  exact ⟨_, rfl, rfl, rfl⟩
set_option maxHeartbeats 1000000 in
set_option maxRecDepth 100000 in
theorem c_X5_set_er1 (κ : Kp) (l : Launch) (m : Nat → Nat) (n : Nat) (ln : Nat) (x : Int32) (y : Int32) (hx1 : x < 0 ∨ nI 2 ≤ x) : CT κ l yX5_set cX5_set 4 (some .int) 1 22 0 0 [.ref (m 0), .int x, .int y] [(m 0, .inr (5, [.ref (m 1), .ref (m 2), .ref (m 3), .int (nI n), .ref (m 4), .ref (m 5), .ref (m 6), .int (nI ln), .ref (m 7), .ref (m 8)]))] (PI (fun rr ww => rr = (nI 4294967294) ∧ ww = [(m 0, .inr (5, [.ref (m 1), .ref (m 2), .ref (m 3), .int (nI n), .ref (m 4), .ref (m 5), .ref (m 6), .int (nI ln), .ref (m 7), .ref (m 8)]))])) := by
  refine CT.go (plainFor_of_name (by decide)) (Nat.le_of_ble_eq_true rfl) ?_
  intro Γ A Q hl hc hret
  subst hl
  have hc : Cx κ Γ A cX5_set 4 RX5 "set" (some .int) { frames := 1, cells := 0, slots := 0, locals := 22 } := hc
  refine g_lv (lv' := [(0, .ref (m 0)), (1, .int x), (2, .int y)]) rfl ?_
  refine g_iload_n hc 1 rfl rfl dX5_set_0 (n := 1) rfl ?_
  refine g_iconst (v := nI 0) hc (by decide) dX5_set_1 (n := 2) rfl ?_
  refine g_iconst (v := nI 1) hc (by decide) dX5_set_2 (n := 3) rfl ?_
  refine g_callS (rest := []) (As := [.int x, .int (nI 0), .int (nI 1)]) (cells' := 0) (slots' := 0) hc (c_X5_in_n κ _ x (nI 0) (nI 1) (in_n1 hx1)) q_X5_in k_ml_RX5_35 rfl rfl (jn_ix (wr := [(m 0, .inr (5, [.ref (m 1), .ref (m 2), .ref (m 3), .int (nI n), .ref (m 4), .ref (m 5), .ref (m 6), .int (nI ln), .ref (m 7), .ref (m 8)]))]) [] [0] rfl rfl rfl rfl (by decide)) ⟨⟨by decide, by decide⟩, by decide, by decide⟩ (Nat.le_of_ble_eq_true rfl) rfl rfl dX5_set_3 (n := 6) rfl (fun vv ww hp => ?_)
  obtain ⟨rr, rfl, rfl, rfl⟩ := hp
  refine ⟨_, rfl, ?_⟩
  refine g_ws (ws' := [(m 0, .inr (5, [.ref (m 1), .ref (m 2), .ref (m 3), .int (nI n), .ref (m 4), .ref (m 5), .ref (m 6), .int (nI ln), .ref (m 7), .ref (m 8)]))]) rfl ?_
  refine g_st (st' := [.int (nI 0)]) rfl ?_
  refine n_if_eq hc (by omega) dX5_set_6 (tgt := 28) (by decide) (n := 9) rfl (fun c_1 => ?_) (fun c_1 => by (exfalso; revert c_1; first | omega | decide))
  refine g_bipush (v := nI 4294967294) hc (by decide) dX5_set_28 (n := 30) rfl ?_
  refine hret.1 _ _ _ _ _ _ rfl (by decide) (by decide) dX5_set_30 ?_
  exact ⟨_, rfl, rfl, rfl⟩
set_option maxHeartbeats 1000000 in
set_option maxRecDepth 100000 in
theorem c_X5_seed_ok (κ : Kp) (l : Launch) (m : Nat → Nat) (n : Nat) (ln : Nat) (z : Nat → Nat) (g : Nat → Nat) (hz : Nat → Nat → Nat) (j : Nat) (hv : Zv z) (hn : n ≤ 4) (hg : HB n g hz) (hj : j < 2 ^ 31) : CT κ l yX5_seed cX5_seed 3 (some .int) 1 21 0 0 [.ref (m 0), .int (nI j)] [(m 0, .inr (5, [.ref (m 1), .ref (m 2), .ref (m 3), .int (nI n), .ref (m 4), .ref (m 5), .ref (m 6), .int (nI ln), .ref (m 7), .ref (m 8)])), (m 1, aI κ 333 z), (m 3, aI κ 1332 g)] (PI (fun rr ww => ∃ g2 : Nat → Nat, (HB (rn n) g2 (rh n hz z)) ∧ rr = (nI (z 326)) ∧ ww = [(m 0, .inr (5, [.ref (m 1), .ref (m 2), .ref (m 3), .int (nI (rn n)), .ref (m 4), .ref (m 5), .ref (m 6), .int (nI ln), .ref (m 7), .ref (m 8)])), (m 1, aI κ 333 (va_up z 326 j)), (m 3, aI κ 1332 g2)])) := by
  refine CT.go (plainFor_of_name (by decide)) (Nat.le_of_ble_eq_true rfl) ?_
  intro Γ A Q hl hc hret
  subst hl
  have hc : Cx κ Γ A cX5_seed 3 RX5 "seed" (some .int) { frames := 1, cells := 0, slots := 0, locals := 21 } := hc
  refine g_lv (lv' := [(0, .ref (m 0)), (1, .int (nI j))]) rfl ?_
  obtain ⟨hzb, hzf, hzc, hp, hh, hk1, hk2, hx⟩ := id hv
  refine g_iload_n hc 1 rfl rfl dX5_seed_0 (n := 1) rfl ?_
  refine n_if_ge hc (by omega) dX5_seed_1 (tgt := 7) (by decide) ?_
  refine g_aload_n hc 0 rfl rfl dX5_seed_7 (n := 8) rfl ?_
  refine g_callV (rest := []) (As := []) (cells' := 0) (slots' := 0) hc (c_X5_record κ _ m n ln z g hz hn hg) q_X5_record k_ml_RX5_47 rfl rfl (jn_ix (wr := []) [0, 1, 2] [] rfl rfl rfl rfl (by decide)) (qr := 0) rfl vw_5 ⟨⟨by decide, by decide⟩, by decide, by decide⟩ (Nat.le_of_ble_eq_true rfl) rfl rfl dX5_seed_8 (n := 11) rfl (fun vv ww hp => ?_)
  obtain ⟨rfl, g2, hg2, rfl⟩ := hp
  refine ⟨_, rfl, ?_⟩
  refine g_ws (ws' := [(m 0, .inr (5, [.ref (m 1), .ref (m 2), .ref (m 3), .int (nI (rn n)), .ref (m 4), .ref (m 5), .ref (m 6), .int (nI ln), .ref (m 7), .ref (m 8)])), (m 1, aI κ 333 z), (m 3, aI κ 1332 g2)]) rfl ?_
  refine g_st (st' := []) rfl ?_
  refine g_aload_n hc 0 rfl rfl dX5_seed_11 (n := 12) rfl ?_
  refine g_getf hc 0 rfl vw_5 inX5 0 (by decide) k_fl_RX5_7 rfl rfl dX5_seed_12 (n := 15) rfl ?_
  refine g_sipush (v := nI 326) hc (by decide) dX5_seed_15 (n := 18) rfl ?_
  refine n_iald (v := z 326) hc 1 rfl (by omega) (by decide) rfl dX5_seed_18 (n := 19) rfl ?_
  refine g_istore_n (lv2 := [(0, .ref (m 0)), (1, .int (nI j)), (2, .int (nI (z 326)))]) hc rfl (by decide) [1, 2, 0] rfl rfl dX5_seed_19 (n := 20) rfl ?_
  refine g_aload_n hc 0 rfl rfl dX5_seed_20 (n := 21) rfl ?_
  refine g_getf hc 0 rfl vw_5 inX5 0 (by decide) k_fl_RX5_7 rfl rfl dX5_seed_21 (n := 24) rfl ?_
  refine g_sipush (v := nI 326) hc (by decide) dX5_seed_24 (n := 27) rfl ?_
  refine g_iload_n hc 1 rfl rfl dX5_seed_27 (n := 28) rfl ?_
  refine n_iast (ws' := [(m 0, .inr (5, [.ref (m 1), .ref (m 2), .ref (m 3), .int (nI (rn n)), .ref (m 4), .ref (m 5), .ref (m 6), .int (nI ln), .ref (m 7), .ref (m 8)])), (m 1, aI κ 333 (va_up z 326 j)), (m 3, aI κ 1332 g2)]) hc 1 rfl (by omega) (by decide) rfl dX5_seed_28 (n := 29) rfl ?_
  refine g_iload_n hc 2 rfl rfl dX5_seed_29 (n := 30) rfl ?_
  refine hret.1 _ _ _ _ _ _ rfl (by decide) (by decide) dX5_seed_30 ?_
  exact ⟨_, rfl, g2, (by assumption), rfl, rfl⟩
set_option maxHeartbeats 1000000 in
set_option maxRecDepth 100000 in
theorem c_X5_seed_er (κ : Kp) (l : Launch) (m : Nat → Nat) (n : Nat) (ln : Nat) (x : Int32) (hx1 : x < 0) : CT κ l yX5_seed cX5_seed 3 (some .int) 0 0 0 0 [.ref (m 0), .int x] [(m 0, .inr (5, [.ref (m 1), .ref (m 2), .ref (m 3), .int (nI n), .ref (m 4), .ref (m 5), .ref (m 6), .int (nI ln), .ref (m 7), .ref (m 8)]))] (PI (fun rr ww => rr = (nI 4294967294) ∧ ww = [(m 0, .inr (5, [.ref (m 1), .ref (m 2), .ref (m 3), .int (nI n), .ref (m 4), .ref (m 5), .ref (m 6), .int (nI ln), .ref (m 7), .ref (m 8)]))])) := by
  refine CT.go (plainFor_of_name (by decide)) (Nat.le_of_ble_eq_true rfl) ?_
  intro Γ A Q hl hc hret
  subst hl
  have hc : Cx κ Γ A cX5_seed 3 RX5 "seed" (some .int) { frames := 0, cells := 0, slots := 0, locals := 0 } := hc
  refine g_lv (lv' := [(0, .ref (m 0)), (1, .int x)]) rfl ?_
  refine g_iload_n hc 1 rfl rfl dX5_seed_0 (n := 1) rfl ?_
  refine g_if_ge hc dX5_seed_1 (tgt := 7) (by decide) (n := 4) rfl (fun c_1 => by exact absurd hx1 (Int32.not_lt.mpr c_1)) (fun c_1 => ?_)
  refine g_bipush (v := nI 4294967294) hc (by decide) dX5_seed_4 (n := 6) rfl ?_
  refine hret.1 _ _ _ _ _ _ rfl (by decide) (by decide) dX5_seed_6 ?_
  exact ⟨_, rfl, rfl, rfl⟩
set_option maxHeartbeats 1000000 in
set_option maxRecDepth 100000 in
theorem c_X5_bend_ok (κ : Kp) (l : Launch) (m : Nat → Nat) (n : Nat) (ln : Nat) (z : Nat → Nat) (g : Nat → Nat) (hz : Nat → Nat → Nat) (c : Nat) (hv : Zv z) (hn : n ≤ 4) (hg : HB n g hz) (hcc : c < 52) : CT κ l yX5_bend cX5_bend 2 (some .int) 2 42 0 0 [.ref (m 0), .int (nI c)] [(m 0, .inr (5, [.ref (m 1), .ref (m 2), .ref (m 3), .int (nI n), .ref (m 4), .ref (m 5), .ref (m 6), .int (nI ln), .ref (m 7), .ref (m 8)])), (m 1, aI κ 333 z), (m 3, aI κ 1332 g)] (PI (fun rr ww => ∃ g2 : Nat → Nat, (HB (rn n) g2 (rh n hz z)) ∧ rr = (nI (nbt (flp z c))) ∧ ww = [(m 0, .inr (5, [.ref (m 1), .ref (m 2), .ref (m 3), .int (nI (rn n)), .ref (m 4), .ref (m 5), .ref (m 6), .int (nI ln), .ref (m 7), .ref (m 8)])), (m 1, aI κ 333 (flp z c)), (m 3, aI κ 1332 g2)])) := by
  refine CT.go (plainFor_of_name (by decide)) (Nat.le_of_ble_eq_true rfl) ?_
  intro Γ A Q hl hc hret
  subst hl
  have hc : Cx κ Γ A cX5_bend 2 RX5 "bend" (some .int) { frames := 2, cells := 0, slots := 0, locals := 42 } := hc
  refine g_lv (lv' := [(0, .ref (m 0)), (1, .int (nI c))]) rfl ?_
  obtain ⟨hzb, hzf, hzc, hp, hh, hk1, hk2, hx⟩ := id hv
  refine g_iload_n hc 1 rfl rfl dX5_bend_0 (n := 1) rfl ?_
  refine g_callS (rest := []) (As := [.int (nI c)]) (cells' := 0) (slots' := 0) hc (c_X5_isCard_y κ _ c (by omega)) q_X5_isCard k_ml_RX5_73 rfl rfl (jn_ix (wr := [(m 0, .inr (5, [.ref (m 1), .ref (m 2), .ref (m 3), .int (nI n), .ref (m 4), .ref (m 5), .ref (m 6), .int (nI ln), .ref (m 7), .ref (m 8)])), (m 1, aI κ 333 z), (m 3, aI κ 1332 g)]) [] [0, 1, 2] rfl rfl rfl rfl (by decide)) ⟨⟨by decide, by decide⟩, by decide, by decide⟩ (Nat.le_of_ble_eq_true rfl) rfl rfl dX5_bend_1 (n := 4) rfl (fun vv ww hp => ?_)
  obtain ⟨rr, rfl, rfl, rfl⟩ := hp
  refine ⟨_, rfl, ?_⟩
  refine g_ws (ws' := [(m 0, .inr (5, [.ref (m 1), .ref (m 2), .ref (m 3), .int (nI n), .ref (m 4), .ref (m 5), .ref (m 6), .int (nI ln), .ref (m 7), .ref (m 8)])), (m 1, aI κ 333 z), (m 3, aI κ 1332 g)]) rfl ?_
  refine g_st (st' := [.int (nI 1)]) rfl ?_
  refine n_if_ne hc (by omega) dX5_bend_4 (tgt := 9) (by decide) (n := 7) rfl (fun c_1 => ?_) (fun c_1 => by (exfalso; revert c_1; first | omega | decide))
  have hbc := hzb c hcc
  refine g_aload_n hc 0 rfl rfl dX5_bend_9 (n := 10) rfl ?_
  refine g_callV (rest := []) (As := []) (cells' := 0) (slots' := 0) hc (c_X5_record κ _ m n ln z g hz hn hg) q_X5_record k_ml_RX5_47 rfl rfl (jn_ix (wr := []) [0, 1, 2] [] rfl rfl rfl rfl (by decide)) (qr := 0) rfl vw_5 ⟨⟨by decide, by decide⟩, by decide, by decide⟩ (Nat.le_of_ble_eq_true rfl) rfl rfl dX5_bend_10 (n := 13) rfl (fun vv ww hp => ?_)
  obtain ⟨rfl, g2, hg2, rfl⟩ := hp
  refine ⟨_, rfl, ?_⟩
  refine g_ws (ws' := [(m 0, .inr (5, [.ref (m 1), .ref (m 2), .ref (m 3), .int (nI (rn n)), .ref (m 4), .ref (m 5), .ref (m 6), .int (nI ln), .ref (m 7), .ref (m 8)])), (m 1, aI κ 333 z), (m 3, aI κ 1332 g2)]) rfl ?_
  refine g_st (st' := []) rfl ?_
  refine g_aload_n hc 0 rfl rfl dX5_bend_13 (n := 14) rfl ?_
  refine g_getf hc 0 rfl vw_5 inX5 0 (by decide) k_fl_RX5_7 rfl rfl dX5_bend_14 (n := 17) rfl ?_
  refine g_bipush (v := nI 52) hc (by decide) dX5_bend_17 (n := 19) rfl ?_
  refine g_iload_n hc 1 rfl rfl dX5_bend_19 (n := 20) rfl ?_
  refine n_iadd (v := 52 + c) hc rfl dX5_bend_20 (n := 21) rfl ?_
  refine g_iconst (v := nI 1) hc (by decide) dX5_bend_21 (n := 22) rfl ?_
  refine g_aload_n hc 0 rfl rfl dX5_bend_22 (n := 23) rfl ?_
  refine g_getf hc 0 rfl vw_5 inX5 0 (by decide) k_fl_RX5_7 rfl rfl dX5_bend_23 (n := 26) rfl ?_
  refine g_bipush (v := nI 52) hc (by decide) dX5_bend_26 (n := 28) rfl ?_
  refine g_iload_n hc 1 rfl rfl dX5_bend_28 (n := 29) rfl ?_
  refine n_iadd (v := 52 + c) hc rfl dX5_bend_29 (n := 30) rfl ?_
  refine n_iald (v := z (52 + c)) hc 1 rfl (by omega) (by decide) rfl dX5_bend_30 (n := 31) rfl ?_
  refine n_isub (v := 1 - (z (52 + c))) hc (by omega) rfl dX5_bend_31 (n := 32) rfl ?_
  refine n_iast (ws' := [(m 0, .inr (5, [.ref (m 1), .ref (m 2), .ref (m 3), .int (nI (rn n)), .ref (m 4), .ref (m 5), .ref (m 6), .int (nI ln), .ref (m 7), .ref (m 8)])), (m 1, aI κ 333 (va_up z (52 + c) (1 - (z (52 + c))))), (m 3, aI κ 1332 g2)]) hc 1 rfl (by omega) (by decide) rfl dX5_bend_32 (n := 33) rfl ?_
  refine g_arr (ws' := [(m 0, .inr (5, [.ref (m 1), .ref (m 2), .ref (m 3), .int (nI (rn n)), .ref (m 4), .ref (m 5), .ref (m 6), .int (nI ln), .ref (m 7), .ref (m 8)])), (m 1, aI κ 333 (flp z c)), (m 3, aI κ 1332 g2)]) (f := va_up z (52 + c) (1 - (z (52 + c)))) (g := flp z c) 1 rfl (fun k hk => rfl) rfl ?_
  refine g_aload_n hc 0 rfl rfl dX5_bend_33 (n := 34) rfl ?_
  refine g_callV (rest := []) (As := []) (cells' := 0) (slots' := 0) hc (c_X5_bentCards κ _ m (rn n) ln (flp z c) ) q_X5_bentCards k_ml_RX5_77 rfl rfl (jn_ix (wr := [(m 3, aI κ 1332 g2)]) [0, 1] [2] rfl rfl rfl rfl (by decide)) (qr := 0) rfl vw_5 ⟨⟨by decide, by decide⟩, by decide, by decide⟩ (Nat.le_of_ble_eq_true rfl) rfl rfl dX5_bend_34 (n := 37) rfl (fun vv ww hp => ?_)
  obtain ⟨rr, rfl, rfl, rfl⟩ := hp
  refine ⟨_, rfl, ?_⟩
  refine g_ws (ws' := [(m 3, aI κ 1332 g2), (m 0, .inr (5, [.ref (m 1), .ref (m 2), .ref (m 3), .int (nI (rn n)), .ref (m 4), .ref (m 5), .ref (m 6), .int (nI ln), .ref (m 7), .ref (m 8)])), (m 1, aI κ 333 (flp z c))]) rfl ?_
  refine g_st (st' := [.int (nI (nbt (flp z c)))]) rfl ?_
  refine g_sub (ws' := [(m 0, .inr (5, [.ref (m 1), .ref (m 2), .ref (m 3), .int (nI (rn n)), .ref (m 4), .ref (m 5), .ref (m 6), .int (nI ln), .ref (m 7), .ref (m 8)])), (m 1, aI κ 333 (flp z c)), (m 3, aI κ 1332 g2)]) [1, 2, 0] rfl rfl ?_
  refine hret.1 _ _ _ _ _ _ rfl (by decide) (by decide) dX5_bend_37 ?_
  exact ⟨_, rfl, g2, (by assumption), rfl, rfl⟩
set_option maxHeartbeats 1000000 in
set_option maxRecDepth 100000 in
theorem c_X5_bend_er (κ : Kp) (l : Launch) (m : Nat → Nat) (n : Nat) (ln : Nat) (x : Int32) (hx1 : x < 0 ∨ nI 52 ≤ x) : CT κ l yX5_bend cX5_bend 2 (some .int) 2 42 0 0 [.ref (m 0), .int x] [(m 0, .inr (5, [.ref (m 1), .ref (m 2), .ref (m 3), .int (nI n), .ref (m 4), .ref (m 5), .ref (m 6), .int (nI ln), .ref (m 7), .ref (m 8)]))] (PI (fun rr ww => rr = (nI 4294967295) ∧ ww = [(m 0, .inr (5, [.ref (m 1), .ref (m 2), .ref (m 3), .int (nI n), .ref (m 4), .ref (m 5), .ref (m 6), .int (nI ln), .ref (m 7), .ref (m 8)]))])) := by
  refine CT.go (plainFor_of_name (by decide)) (Nat.le_of_ble_eq_true rfl) ?_
  intro Γ A Q hl hc hret
  subst hl
  have hc : Cx κ Γ A cX5_bend 2 RX5 "bend" (some .int) { frames := 2, cells := 0, slots := 0, locals := 42 } := hc
  refine g_lv (lv' := [(0, .ref (m 0)), (1, .int x)]) rfl ?_
  refine g_iload_n hc 1 rfl rfl dX5_bend_0 (n := 1) rfl ?_
  refine g_callS (rest := []) (As := [.int x]) (cells' := 0) (slots' := 0) hc (c_X5_isCard_n κ _ x hx1) q_X5_isCard k_ml_RX5_73 rfl rfl (jn_ix (wr := [(m 0, .inr (5, [.ref (m 1), .ref (m 2), .ref (m 3), .int (nI n), .ref (m 4), .ref (m 5), .ref (m 6), .int (nI ln), .ref (m 7), .ref (m 8)]))]) [] [0] rfl rfl rfl rfl (by decide)) ⟨⟨by decide, by decide⟩, by decide, by decide⟩ (Nat.le_of_ble_eq_true rfl) rfl rfl dX5_bend_1 (n := 4) rfl (fun vv ww hp => ?_)
  obtain ⟨rr, rfl, rfl, rfl⟩ := hp
  refine ⟨_, rfl, ?_⟩
  refine g_ws (ws' := [(m 0, .inr (5, [.ref (m 1), .ref (m 2), .ref (m 3), .int (nI n), .ref (m 4), .ref (m 5), .ref (m 6), .int (nI ln), .ref (m 7), .ref (m 8)]))]) rfl ?_
  refine g_st (st' := [.int (nI 0)]) rfl ?_
  refine n_if_ne hc (by omega) dX5_bend_4 (tgt := 9) (by decide) (n := 7) rfl (fun c_1 => by (exfalso; revert c_1; first | omega | decide)) (fun c_1 => ?_)
  refine g_iconst (v := nI 4294967295) hc (by decide) dX5_bend_7 (n := 8) rfl ?_
  refine hret.1 _ _ _ _ _ _ rfl (by decide) (by decide) dX5_bend_8 ?_
  exact ⟨_, rfl, rfl, rfl⟩
set_option maxHeartbeats 1000000 in
set_option maxRecDepth 100000 in
theorem c_X5_sort (κ : Kp) (l : Launch) (m : Nat → Nat) (n : Nat) (ln : Nat) (z : Nat → Nat) (g : Nat → Nat) (hz : Nat → Nat → Nat) (hv : Zv z) (hn : n ≤ 4) (hg : HB n g hz) : CT κ l yX5_sort cX5_sort 3 (some .int) 1 21 0 0 [.ref (m 0)] [(m 0, .inr (5, [.ref (m 1), .ref (m 2), .ref (m 3), .int (nI n), .ref (m 4), .ref (m 5), .ref (m 6), .int (nI ln), .ref (m 7), .ref (m 8)])), (m 1, aI κ 333 z), (m 3, aI κ 1332 g)] (PI (fun rr ww => ∃ g2 : Nat → Nat, (HB (rn n) g2 (rh n hz z)) ∧ rr = (nI (a_sort z)) ∧ ww = [(m 0, .inr (5, [.ref (m 1), .ref (m 2), .ref (m 3), .int (nI (rn n)), .ref (m 4), .ref (m 5), .ref (m 6), .int (nI ln), .ref (m 7), .ref (m 8)])), (m 1, aI κ 333 (soz z)), (m 3, aI κ 1332 g2)])) := by
  refine CT.go (plainFor_of_name (by decide)) (Nat.le_of_ble_eq_true rfl) ?_
  intro Γ A Q hl hc hret
  subst hl
  have hc : Cx κ Γ A cX5_sort 3 RX5 "sort" (some .int) { frames := 1, cells := 0, slots := 0, locals := 21 } := hc
  refine g_lv (lv' := [(0, .ref (m 0))]) rfl ?_
  obtain ⟨hzb, hzf, hzc, hp, hh, hk1, hk2, hx⟩ := id hv
  refine g_aload_n hc 0 rfl rfl dX5_sort_0 (n := 1) rfl ?_
  refine g_callV (rest := []) (As := []) (cells' := 0) (slots' := 0) hc (c_X5_record κ _ m n ln z g hz hn hg) q_X5_record k_ml_RX5_47 rfl rfl (jn_ix (wr := []) [0, 1, 2] [] rfl rfl rfl rfl (by decide)) (qr := 0) rfl vw_5 ⟨⟨by decide, by decide⟩, by decide, by decide⟩ (Nat.le_of_ble_eq_true rfl) rfl rfl dX5_sort_1 (n := 4) rfl (fun vv ww hp => ?_)
  obtain ⟨rfl, g2, hg2, rfl⟩ := hp
  refine ⟨_, rfl, ?_⟩
  refine g_ws (ws' := [(m 0, .inr (5, [.ref (m 1), .ref (m 2), .ref (m 3), .int (nI (rn n)), .ref (m 4), .ref (m 5), .ref (m 6), .int (nI ln), .ref (m 7), .ref (m 8)])), (m 1, aI κ 333 z), (m 3, aI κ 1332 g2)]) rfl ?_
  refine g_st (st' := []) rfl ?_
  refine g_iconst (v := nI 0) hc (by decide) dX5_sort_4 (n := 5) rfl ?_
  refine g_istore_n (lv2 := [(0, .ref (m 0)), (1, .int (nI 0))]) hc rfl (by decide) [1, 0] rfl rfl dX5_sort_5 (n := 6) rfl ?_
  refine g_iconst (v := nI 0) hc (by decide) dX5_sort_6 (n := 7) rfl ?_
  refine g_istore_n (lv2 := [(0, .ref (m 0)), (1, .int (nI 0)), (2, .int (nI 0))]) hc rfl (by decide) [1, 2, 0] rfl rfl dX5_sort_7 (n := 8) rfl ?_
  have L_1 : ∀ (fuel : Nat) (i : Nat) (t : Nat) (y : Nat → Nat), (i ≤ 52) → (t = sm (fun k => if z k = k then 0 else 1) i) → (∀ k, k < i → y k = k) → (∀ k, i ≤ k → y k = z k) → 52 - i < fuel → G κ Γ A 3 0 0 Q [(m 0, .inr (5, [.ref (m 1), .ref (m 2), .ref (m 3), .int (nI (rn n)), .ref (m 4), .ref (m 5), .ref (m 6), .int (nI ln), .ref (m 7), .ref (m 8)])), (m 1, aI κ 333 y), (m 3, aI κ 1332 g2)] 8 [(0, .ref (m 0)), (1, .int (nI t)), (2, .int (nI i))] [] := by
    intro fuel
    induction fuel with
    | zero => intro i t y hi hs h1 h2 h; exact absurd h (Nat.not_lt_zero _)
    | succ fuel ih_2 =>
      intro i t y hi hs h1 h2 hn_3
      refine g_iload_n hc 2 rfl rfl dX5_sort_8 (n := 9) rfl ?_
      refine g_bipush (v := nI 52) hc (by decide) dX5_sort_9 (n := 11) rfl ?_
      refine n_icmp_ge hc (by omega) (by omega) dX5_sort_11 (tgt := 45) (by decide) (n := 14) rfl (fun c_4 => ?_) (fun c_4 => ?_)
      · skip
        refine g_aload_n hc 0 rfl rfl dX5_sort_45 (n := 46) rfl ?_
        refine g_getf hc 0 rfl vw_5 inX5 0 (by decide) k_fl_RX5_7 rfl rfl dX5_sort_46 (n := 49) rfl ?_
        refine g_sipush (v := nI 327) hc (by decide) dX5_sort_49 (n := 52) rfl ?_
        refine g_iconst (v := nI 0) hc (by decide) dX5_sort_52 (n := 53) rfl ?_
        refine n_iast (ws' := [(m 0, .inr (5, [.ref (m 1), .ref (m 2), .ref (m 3), .int (nI (rn n)), .ref (m 4), .ref (m 5), .ref (m 6), .int (nI ln), .ref (m 7), .ref (m 8)])), (m 1, aI κ 333 (va_up y 327 0)), (m 3, aI κ 1332 g2)]) hc 1 rfl (by omega) (by decide) rfl dX5_sort_53 (n := 54) rfl ?_
        refine g_iload_n hc 1 rfl rfl dX5_sort_54 (n := 55) rfl ?_
        refine g_arr (ws' := [(m 0, .inr (5, [.ref (m 1), .ref (m 2), .ref (m 3), .int (nI (rn n)), .ref (m 4), .ref (m 5), .ref (m 6), .int (nI ln), .ref (m 7), .ref (m 8)])), (m 1, aI κ 333 (soz z)), (m 3, aI κ 1332 g2)]) (f := va_up y 327 0) (g := soz z) 1 rfl (fun k hk => by unfold soz va_up; by_cases q : k < 52; (rw [if_neg (by omega), if_pos q]; exact h1 k (by omega)); (rw [if_neg q]; (repeat' split); rfl; exact h2 k (by omega))) rfl ?_
        refine hret.1 _ _ _ _ _ _ rfl (by decide) (by decide) dX5_sort_55 ?_
        exact ⟨_, rfl, g2, (by assumption), (by have e9 : i = 52 := (by omega); subst e9; rw [hs]; rfl), rfl⟩
      · skip
        refine g_iload_n hc 1 rfl rfl dX5_sort_14 (n := 15) rfl ?_
        refine g_aload_n hc 0 rfl rfl dX5_sort_15 (n := 16) rfl ?_
        refine g_getf hc 0 rfl vw_5 inX5 0 (by decide) k_fl_RX5_7 rfl rfl dX5_sort_16 (n := 19) rfl ?_
        refine g_iload_n hc 2 rfl rfl dX5_sort_19 (n := 20) rfl ?_
        refine n_iald (v := z i) hc 1 rfl (by omega) (by decide) (h2 i (Nat.le_refl i)) dX5_sort_20 (n := 21) rfl ?_
        have hpi := hp.1 i (by omega)
        refine g_iload_n hc 2 rfl rfl dX5_sort_21 (n := 22) rfl ?_
        refine n_icmp_ne hc (by omega) (by omega) dX5_sort_22 (tgt := 29) (by decide) (n := 25) rfl (fun c_5 => ?_) (fun c_5 => ?_)
        · skip
          refine g_iconst (v := nI 1) hc (by decide) dX5_sort_29 (n := 30) rfl ?_
          refine n_iadd (v := t + 1) hc rfl dX5_sort_30 (n := 31) rfl ?_
          refine g_istore_n (lv2 := [(0, .ref (m 0)), (1, .int (nI (t + 1))), (2, .int (nI i))]) hc rfl (by decide) [1, 0, 2] rfl rfl dX5_sort_31 (n := 32) rfl ?_
          refine g_aload_n hc 0 rfl rfl dX5_sort_32 (n := 33) rfl ?_
          refine g_getf hc 0 rfl vw_5 inX5 0 (by decide) k_fl_RX5_7 rfl rfl dX5_sort_33 (n := 36) rfl ?_
          refine g_iload_n hc 2 rfl rfl dX5_sort_36 (n := 37) rfl ?_
          refine g_iload_n hc 2 rfl rfl dX5_sort_37 (n := 38) rfl ?_
          refine n_iast (ws' := [(m 0, .inr (5, [.ref (m 1), .ref (m 2), .ref (m 3), .int (nI (rn n)), .ref (m 4), .ref (m 5), .ref (m 6), .int (nI ln), .ref (m 7), .ref (m 8)])), (m 1, aI κ 333 (va_up y i i)), (m 3, aI κ 1332 g2)]) hc 1 rfl (by omega) (by decide) rfl dX5_sort_38 (n := 39) rfl ?_
          refine n_iinc (v := i + 1) (zk := 1) (lv2 := [(0, .ref (m 0)), (1, .int (nI (t + 1))), (2, .int (nI (i + 1)))]) hc 2 rfl (by decide) rfl (by decide) [1, 2, 0] rfl rfl dX5_sort_39 (n := 42) rfl ?_
          refine g_goto (n := 8) hc dX5_sort_42 (by decide) ?_
          exact ih_2 (i + 1) (t + 1) (va_up y i i) (by omega) (by rw [sm_s, ← hs]; first | (split <;> omega) | omega) (fun k hk => (Nat.lt_succ_iff_lt_or_eq.mp hk).elim (fun q => (va_up_ne _ _ (by omega)).trans (h1 k q)) (fun q => by subst q; exact va_up_self _ _ _)) (fun k hk => (va_up_ne _ _ (by omega)).trans (h2 k (by omega))) (by omega)
        · skip
          refine g_iconst (v := nI 0) hc (by decide) dX5_sort_25 (n := 26) rfl ?_
          refine g_goto (n := 30) hc dX5_sort_26 (by decide) ?_
          refine n_iadd (v := t + 0) hc rfl dX5_sort_30 (n := 31) rfl ?_
          refine g_istore_n (lv2 := [(0, .ref (m 0)), (1, .int (nI (t + 0))), (2, .int (nI i))]) hc rfl (by decide) [1, 0, 2] rfl rfl dX5_sort_31 (n := 32) rfl ?_
          refine g_aload_n hc 0 rfl rfl dX5_sort_32 (n := 33) rfl ?_
          refine g_getf hc 0 rfl vw_5 inX5 0 (by decide) k_fl_RX5_7 rfl rfl dX5_sort_33 (n := 36) rfl ?_
          refine g_iload_n hc 2 rfl rfl dX5_sort_36 (n := 37) rfl ?_
          refine g_iload_n hc 2 rfl rfl dX5_sort_37 (n := 38) rfl ?_
          refine n_iast (ws' := [(m 0, .inr (5, [.ref (m 1), .ref (m 2), .ref (m 3), .int (nI (rn n)), .ref (m 4), .ref (m 5), .ref (m 6), .int (nI ln), .ref (m 7), .ref (m 8)])), (m 1, aI κ 333 (va_up y i i)), (m 3, aI κ 1332 g2)]) hc 1 rfl (by omega) (by decide) rfl dX5_sort_38 (n := 39) rfl ?_
          refine n_iinc (v := i + 1) (zk := 1) (lv2 := [(0, .ref (m 0)), (1, .int (nI (t + 0))), (2, .int (nI (i + 1)))]) hc 2 rfl (by decide) rfl (by decide) [1, 2, 0] rfl rfl dX5_sort_39 (n := 42) rfl ?_
          refine g_goto (n := 8) hc dX5_sort_42 (by decide) ?_
          exact ih_2 (i + 1) (t + 0) (va_up y i i) (by omega) (by rw [sm_s, ← hs]; first | (split <;> omega) | omega) (fun k hk => (Nat.lt_succ_iff_lt_or_eq.mp hk).elim (fun q => (va_up_ne _ _ (by omega)).trans (h1 k q)) (fun q => by subst q; exact va_up_self _ _ _)) (fun k hk => (va_up_ne _ _ (by omega)).trans (h2 k (by omega))) (by omega)
  exact L_1 _ 0 0 z (by omega) (rfl) (fun k hk => absurd hk (Nat.not_lt_zero _)) (fun k hk => rfl) (Nat.lt_succ_self _)
set_option maxHeartbeats 1000000 in
set_option maxRecDepth 100000 in
theorem c_X5_cut_ok (κ : Kp) (l : Launch) (m : Nat → Nat) (n : Nat) (ln : Nat) (z : Nat → Nat) (g : Nat → Nat) (hz : Nat → Nat → Nat) (c : Nat) (y : Nat → Nat) (hv : Zv z) (hn : n ≤ 4) (hg : HB n g hz) (hc1 : 1 ≤ c) (hc5 : c < 52) : CT κ l yX5_cut cX5_cut 3 (some .int) 1 22 0 0 [.ref (m 0), .int (nI c)] [(m 0, .inr (5, [.ref (m 1), .ref (m 2), .ref (m 3), .int (nI n), .ref (m 4), .ref (m 5), .ref (m 6), .int (nI ln), .ref (m 7), .ref (m 8)])), (m 1, aI κ 333 z), (m 3, aI κ 1332 g), (m 2, aI κ 333 y)] (PI (fun rr ww => ∃ g2 : Nat → Nat, (HB (rn n) g2 (rh n hz z)) ∧ rr = (nI (z c)) ∧ ww = [(m 0, .inr (5, [.ref (m 1), .ref (m 2), .ref (m 3), .int (nI (rn n)), .ref (m 4), .ref (m 5), .ref (m 6), .int (nI ln), .ref (m 7), .ref (m 8)])), (m 1, aI κ 333 (cuz z c)), (m 3, aI κ 1332 g2), (m 2, aI κ 333 z)])) := by
  refine CT.go (plainFor_of_name (by decide)) (Nat.le_of_ble_eq_true rfl) ?_
  intro Γ A Q hl hc hret
  subst hl
  have hc : Cx κ Γ A cX5_cut 3 RX5 "cut" (some .int) { frames := 1, cells := 0, slots := 0, locals := 22 } := hc
  refine g_lv (lv' := [(0, .ref (m 0)), (1, .int (nI c))]) rfl ?_
  obtain ⟨hzb, hzf, hzc, hp, hh, hk1, hk2, hx⟩ := id hv
  refine g_iload_n hc 1 rfl rfl dX5_cut_0 (n := 1) rfl ?_
  refine g_iconst (v := nI 1) hc (by decide) dX5_cut_1 (n := 2) rfl ?_
  refine g_bipush (v := nI 51) hc (by decide) dX5_cut_2 (n := 4) rfl ?_
  refine g_callS (rest := []) (As := [.int (nI c), .int (nI 1), .int (nI 51)]) (cells' := 0) (slots' := 0) hc (c_X5_in_y κ _ (nI c) (nI 1) (nI 51) (in_y (by omega) (by omega))) q_X5_in k_ml_RX5_35 rfl rfl (jn_ix (wr := [(m 0, .inr (5, [.ref (m 1), .ref (m 2), .ref (m 3), .int (nI n), .ref (m 4), .ref (m 5), .ref (m 6), .int (nI ln), .ref (m 7), .ref (m 8)])), (m 1, aI κ 333 z), (m 3, aI κ 1332 g), (m 2, aI κ 333 y)]) [] [0, 1, 2, 3] rfl rfl rfl rfl (by decide)) ⟨⟨by decide, by decide⟩, by decide, by decide⟩ (Nat.le_of_ble_eq_true rfl) rfl rfl dX5_cut_4 (n := 7) rfl (fun vv ww hp => ?_)
  obtain ⟨rr, rfl, rfl, rfl⟩ := hp
  refine ⟨_, rfl, ?_⟩
  refine g_ws (ws' := [(m 0, .inr (5, [.ref (m 1), .ref (m 2), .ref (m 3), .int (nI n), .ref (m 4), .ref (m 5), .ref (m 6), .int (nI ln), .ref (m 7), .ref (m 8)])), (m 1, aI κ 333 z), (m 3, aI κ 1332 g), (m 2, aI κ 333 y)]) rfl ?_
  refine g_st (st' := [.int (nI 1)]) rfl ?_
  refine n_if_ne hc (by omega) dX5_cut_7 (tgt := 13) (by decide) (n := 10) rfl (fun c_1 => ?_) (fun c_1 => by (exfalso; revert c_1; first | omega | decide))
  refine g_aload_n hc 0 rfl rfl dX5_cut_13 (n := 14) rfl ?_
  refine g_callV (rest := []) (As := []) (cells' := 0) (slots' := 0) hc (c_X5_record κ _ m n ln z g hz hn hg) q_X5_record k_ml_RX5_47 rfl rfl (jn_ix (wr := [(m 2, aI κ 333 y)]) [0, 1, 2] [3] rfl rfl rfl rfl (by decide)) (qr := 0) rfl vw_5 ⟨⟨by decide, by decide⟩, by decide, by decide⟩ (Nat.le_of_ble_eq_true rfl) rfl rfl dX5_cut_14 (n := 17) rfl (fun vv ww hp => ?_)
  obtain ⟨rfl, g2, hg2, rfl⟩ := hp
  refine ⟨_, rfl, ?_⟩
  refine g_ws (ws' := [(m 2, aI κ 333 y), (m 0, .inr (5, [.ref (m 1), .ref (m 2), .ref (m 3), .int (nI (rn n)), .ref (m 4), .ref (m 5), .ref (m 6), .int (nI ln), .ref (m 7), .ref (m 8)])), (m 1, aI κ 333 z), (m 3, aI κ 1332 g2)]) rfl ?_
  refine g_st (st' := []) rfl ?_
  refine g_aload_n hc 0 rfl rfl dX5_cut_17 (n := 18) rfl ?_
  refine g_callV (rest := []) (As := []) (cells' := 0) (slots' := 0) hc (c_X5_putAside κ _ m (rn n) ln z y ) q_X5_putAside k_ml_RX5_60 rfl rfl (jn_ix (wr := [(m 3, aI κ 1332 g2)]) [1, 2, 0] [3] rfl rfl rfl rfl (by decide)) (qr := 1) rfl vw_5 ⟨⟨by decide, by decide⟩, by decide, by decide⟩ (Nat.le_of_ble_eq_true rfl) rfl rfl dX5_cut_18 (n := 21) rfl (fun vv ww hp => ?_)
  obtain ⟨rfl, rfl⟩ := hp
  refine ⟨_, rfl, ?_⟩
  refine g_ws (ws' := [(m 3, aI κ 1332 g2), (m 0, .inr (5, [.ref (m 1), .ref (m 2), .ref (m 3), .int (nI (rn n)), .ref (m 4), .ref (m 5), .ref (m 6), .int (nI ln), .ref (m 7), .ref (m 8)])), (m 1, aI κ 333 z), (m 2, aI κ 333 z)]) rfl ?_
  refine g_st (st' := []) rfl ?_
  refine g_iconst (v := nI 0) hc (by decide) dX5_cut_21 (n := 22) rfl ?_
  refine g_istore_n (lv2 := [(0, .ref (m 0)), (1, .int (nI c)), (2, .int (nI 0))]) hc rfl (by decide) [1, 2, 0] rfl rfl dX5_cut_22 (n := 23) rfl ?_
  have L_2 : ∀ (fuel : Nat) (i : Nat) (x : Nat → Nat), (i ≤ 52) → (∀ k, k < i → x k = z ((k + c) % 52)) → (∀ k, i ≤ k → x k = z k) → 52 - i < fuel → G κ Γ A 3 0 0 Q [(m 3, aI κ 1332 g2), (m 0, .inr (5, [.ref (m 1), .ref (m 2), .ref (m 3), .int (nI (rn n)), .ref (m 4), .ref (m 5), .ref (m 6), .int (nI ln), .ref (m 7), .ref (m 8)])), (m 1, aI κ 333 x), (m 2, aI κ 333 z)] 23 [(0, .ref (m 0)), (1, .int (nI c)), (2, .int (nI i))] [] := by
    intro fuel
    induction fuel with
    | zero => intro i x hi h1 h2 h; exact absurd h (Nat.not_lt_zero _)
    | succ fuel ih_3 =>
      intro i x hi h1 h2 hn_4
      refine g_iload_n hc 2 rfl rfl dX5_cut_23 (n := 24) rfl ?_
      refine g_bipush (v := nI 52) hc (by decide) dX5_cut_24 (n := 26) rfl ?_
      refine n_icmp_ge hc (by omega) (by omega) dX5_cut_26 (tgt := 52) (by decide) (n := 29) rfl (fun c_5 => ?_) (fun c_5 => ?_)
      · skip
        refine g_arr (ws' := [(m 3, aI κ 1332 g2), (m 0, .inr (5, [.ref (m 1), .ref (m 2), .ref (m 3), .int (nI (rn n)), .ref (m 4), .ref (m 5), .ref (m 6), .int (nI ln), .ref (m 7), .ref (m 8)])), (m 1, aI κ 333 (cuz z c)), (m 2, aI κ 333 z)]) (f := x) (g := cuz z c) 2 rfl (fun k hk => by unfold cuz; by_cases q : k < 52; (rw [if_pos q]; exact h1 k (by omega)); (rw [if_neg q]; exact h2 k (by omega))) rfl ?_
        refine g_aload_n hc 0 rfl rfl dX5_cut_52 (n := 53) rfl ?_
        refine g_getf hc 1 rfl vw_5 inX5 0 (by decide) k_fl_RX5_7 rfl rfl dX5_cut_53 (n := 56) rfl ?_
        refine g_iconst (v := nI 0) hc (by decide) dX5_cut_56 (n := 57) rfl ?_
        refine n_iald (v := z c) hc 2 rfl (by omega) (by decide) (by unfold cuz; rw [if_pos (by decide), Nat.zero_add, Nat.mod_eq_of_lt hc5]) dX5_cut_57 (n := 58) rfl ?_
        refine g_sub (ws' := [(m 0, .inr (5, [.ref (m 1), .ref (m 2), .ref (m 3), .int (nI (rn n)), .ref (m 4), .ref (m 5), .ref (m 6), .int (nI ln), .ref (m 7), .ref (m 8)])), (m 1, aI κ 333 (cuz z c)), (m 3, aI κ 1332 g2), (m 2, aI κ 333 z)]) [1, 2, 0, 3] rfl rfl ?_
        refine hret.1 _ _ _ _ _ _ rfl (by decide) (by decide) dX5_cut_58 ?_
        exact ⟨_, rfl, g2, (by assumption), rfl, rfl⟩
      · skip
        refine g_aload_n hc 0 rfl rfl dX5_cut_29 (n := 30) rfl ?_
        refine g_getf hc 1 rfl vw_5 inX5 0 (by decide) k_fl_RX5_7 rfl rfl dX5_cut_30 (n := 33) rfl ?_
        refine g_iload_n hc 2 rfl rfl dX5_cut_33 (n := 34) rfl ?_
        refine g_aload_n hc 0 rfl rfl dX5_cut_34 (n := 35) rfl ?_
        refine g_getf hc 1 rfl vw_5 inX5 1 (by decide) k_fl_RX5_13 rfl rfl dX5_cut_35 (n := 38) rfl ?_
        refine g_iload_n hc 2 rfl rfl dX5_cut_38 (n := 39) rfl ?_
        refine g_iload_n hc 1 rfl rfl dX5_cut_39 (n := 40) rfl ?_
        refine n_iadd (v := i + c) hc rfl dX5_cut_40 (n := 41) rfl ?_
        refine g_bipush (v := nI 52) hc (by decide) dX5_cut_41 (n := 43) rfl ?_
        refine n_irem (v := (i + c) % 52) hc (by omega) (by decide) (by decide) rfl dX5_cut_43 (n := 44) rfl ?_
        refine n_iald (v := z ((i + c) % 52)) hc 3 rfl (by omega) (by decide) rfl dX5_cut_44 (n := 45) rfl ?_
        refine n_iast (ws' := [(m 3, aI κ 1332 g2), (m 0, .inr (5, [.ref (m 1), .ref (m 2), .ref (m 3), .int (nI (rn n)), .ref (m 4), .ref (m 5), .ref (m 6), .int (nI ln), .ref (m 7), .ref (m 8)])), (m 1, aI κ 333 (va_up x i (z ((i + c) % 52)))), (m 2, aI κ 333 z)]) hc 2 rfl (by omega) (by decide) rfl dX5_cut_45 (n := 46) rfl ?_
        refine n_iinc (v := i + 1) (zk := 1) (lv2 := [(0, .ref (m 0)), (1, .int (nI c)), (2, .int (nI (i + 1)))]) hc 2 rfl (by decide) rfl (by decide) [1, 2, 0] rfl rfl dX5_cut_46 (n := 49) rfl ?_
        refine g_goto (n := 23) hc dX5_cut_49 (by decide) ?_
        exact ih_3 (i + 1) (va_up x i (z ((i + c) % 52))) (by omega) (fun k hk => (Nat.lt_succ_iff_lt_or_eq.mp hk).elim (fun q => (va_up_ne _ _ (by omega)).trans (h1 k q)) (fun q => by subst q; exact va_up_self _ _ _)) (fun k hk => (va_up_ne _ _ (by omega)).trans (h2 k (by omega))) (by omega)
  exact L_2 _ 0 z (by omega) (fun k hk => absurd hk (Nat.not_lt_zero _)) (fun k hk => rfl) (Nat.lt_succ_self _)
set_option maxHeartbeats 1000000 in
set_option maxRecDepth 100000 in
theorem c_X5_cut_er1 (κ : Kp) (l : Launch) (m : Nat → Nat) (n : Nat) (ln : Nat)  : CT κ l yX5_cut cX5_cut 3 (some .int) 1 22 0 0 [.ref (m 0), .int (nI 0)] [(m 0, .inr (5, [.ref (m 1), .ref (m 2), .ref (m 3), .int (nI n), .ref (m 4), .ref (m 5), .ref (m 6), .int (nI ln), .ref (m 7), .ref (m 8)]))] (PI (fun rr ww => rr = (nI 4294967294) ∧ ww = [(m 0, .inr (5, [.ref (m 1), .ref (m 2), .ref (m 3), .int (nI n), .ref (m 4), .ref (m 5), .ref (m 6), .int (nI ln), .ref (m 7), .ref (m 8)]))])) := by
  refine CT.go (plainFor_of_name (by decide)) (Nat.le_of_ble_eq_true rfl) ?_
  intro Γ A Q hl hc hret
  subst hl
  have hc : Cx κ Γ A cX5_cut 3 RX5 "cut" (some .int) { frames := 1, cells := 0, slots := 0, locals := 22 } := hc
  refine g_lv (lv' := [(0, .ref (m 0)), (1, .int (nI 0))]) rfl ?_
  refine g_iload_n hc 1 rfl rfl dX5_cut_0 (n := 1) rfl ?_
  refine g_iconst (v := nI 1) hc (by decide) dX5_cut_1 (n := 2) rfl ?_
  refine g_bipush (v := nI 51) hc (by decide) dX5_cut_2 (n := 4) rfl ?_
  refine g_callS (rest := []) (As := [.int (nI 0), .int (nI 1), .int (nI 51)]) (cells' := 0) (slots' := 0) hc (c_X5_in_n κ _ (nI 0) (nI 1) (nI 51) (in_nn (by decide))) q_X5_in k_ml_RX5_35 rfl rfl (jn_ix (wr := [(m 0, .inr (5, [.ref (m 1), .ref (m 2), .ref (m 3), .int (nI n), .ref (m 4), .ref (m 5), .ref (m 6), .int (nI ln), .ref (m 7), .ref (m 8)]))]) [] [0] rfl rfl rfl rfl (by decide)) ⟨⟨by decide, by decide⟩, by decide, by decide⟩ (Nat.le_of_ble_eq_true rfl) rfl rfl dX5_cut_4 (n := 7) rfl (fun vv ww hp => ?_)
  obtain ⟨rr, rfl, rfl, rfl⟩ := hp
  refine ⟨_, rfl, ?_⟩
  refine g_ws (ws' := [(m 0, .inr (5, [.ref (m 1), .ref (m 2), .ref (m 3), .int (nI n), .ref (m 4), .ref (m 5), .ref (m 6), .int (nI ln), .ref (m 7), .ref (m 8)]))]) rfl ?_
  refine g_st (st' := [.int (nI 0)]) rfl ?_
  refine n_if_ne hc (by omega) dX5_cut_7 (tgt := 13) (by decide) (n := 10) rfl (fun c_1 => by (exfalso; revert c_1; first | omega | decide)) (fun c_1 => ?_)
  refine g_bipush (v := nI 4294967294) hc (by decide) dX5_cut_10 (n := 12) rfl ?_
  refine hret.1 _ _ _ _ _ _ rfl (by decide) (by decide) dX5_cut_12 ?_
  exact ⟨_, rfl, rfl, rfl⟩
set_option maxHeartbeats 1000000 in
set_option maxRecDepth 100000 in
theorem c_X5_cut_er2 (κ : Kp) (l : Launch) (m : Nat → Nat) (n : Nat) (ln : Nat) (x : Int32) (hx1 : x < 0 ∨ nI 52 ≤ x) : CT κ l yX5_cut cX5_cut 3 (some .int) 1 22 0 0 [.ref (m 0), .int x] [(m 0, .inr (5, [.ref (m 1), .ref (m 2), .ref (m 3), .int (nI n), .ref (m 4), .ref (m 5), .ref (m 6), .int (nI ln), .ref (m 7), .ref (m 8)]))] (PI (fun rr ww => rr = (nI 4294967294) ∧ ww = [(m 0, .inr (5, [.ref (m 1), .ref (m 2), .ref (m 3), .int (nI n), .ref (m 4), .ref (m 5), .ref (m 6), .int (nI ln), .ref (m 7), .ref (m 8)]))])) := by
  refine CT.go (plainFor_of_name (by decide)) (Nat.le_of_ble_eq_true rfl) ?_
  intro Γ A Q hl hc hret
  subst hl
  have hc : Cx κ Γ A cX5_cut 3 RX5 "cut" (some .int) { frames := 1, cells := 0, slots := 0, locals := 22 } := hc
  refine g_lv (lv' := [(0, .ref (m 0)), (1, .int x)]) rfl ?_
  refine g_iload_n hc 1 rfl rfl dX5_cut_0 (n := 1) rfl ?_
  refine g_iconst (v := nI 1) hc (by decide) dX5_cut_1 (n := 2) rfl ?_
  refine g_bipush (v := nI 51) hc (by decide) dX5_cut_2 (n := 4) rfl ?_
  refine g_callS (rest := []) (As := [.int x, .int (nI 1), .int (nI 51)]) (cells' := 0) (slots' := 0) hc (c_X5_in_n κ _ x (nI 1) (nI 51) (in_n1 hx1)) q_X5_in k_ml_RX5_35 rfl rfl (jn_ix (wr := [(m 0, .inr (5, [.ref (m 1), .ref (m 2), .ref (m 3), .int (nI n), .ref (m 4), .ref (m 5), .ref (m 6), .int (nI ln), .ref (m 7), .ref (m 8)]))]) [] [0] rfl rfl rfl rfl (by decide)) ⟨⟨by decide, by decide⟩, by decide, by decide⟩ (Nat.le_of_ble_eq_true rfl) rfl rfl dX5_cut_4 (n := 7) rfl (fun vv ww hp => ?_)
  obtain ⟨rr, rfl, rfl, rfl⟩ := hp
  refine ⟨_, rfl, ?_⟩
  refine g_ws (ws' := [(m 0, .inr (5, [.ref (m 1), .ref (m 2), .ref (m 3), .int (nI n), .ref (m 4), .ref (m 5), .ref (m 6), .int (nI ln), .ref (m 7), .ref (m 8)]))]) rfl ?_
  refine g_st (st' := [.int (nI 0)]) rfl ?_
  refine n_if_ne hc (by omega) dX5_cut_7 (tgt := 13) (by decide) (n := 10) rfl (fun c_1 => by (exfalso; revert c_1; first | omega | decide)) (fun c_1 => ?_)
  refine g_bipush (v := nI 4294967294) hc (by decide) dX5_cut_10 (n := 12) rfl ?_
  refine hret.1 _ _ _ _ _ _ rfl (by decide) (by decide) dX5_cut_12 ?_
  exact ⟨_, rfl, rfl, rfl⟩
