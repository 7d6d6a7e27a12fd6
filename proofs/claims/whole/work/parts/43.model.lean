set_option maxHeartbeats 1000000 in
set_option maxRecDepth 100000 in
theorem c_X5_holderOf (κ : Kp) (l : Launch) (m : Nat → Nat) (n : Nat) (ln : Nat) (z : Nat → Nat) (b : Nat) (c : Nat) (hb : b < 4) (hcc : c < 52) : CT κ l yX5_holderOf cX5_holderOf 3 (some .int) 0 0 0 0 [.ref (m 0), .int (nI b), .int (nI c)] [(m 0, .inr (5, [.ref (m 1), .ref (m 2), .ref (m 3), .int (nI n), .ref (m 4), .ref (m 5), .ref (m 6), .int (nI ln), .ref (m 7), .ref (m 8)])), (m 1, aI κ 333 z)] (PI (fun rr ww => rr = (nI (hd z b c)) ∧ ww = [(m 0, .inr (5, [.ref (m 1), .ref (m 2), .ref (m 3), .int (nI n), .ref (m 4), .ref (m 5), .ref (m 6), .int (nI ln), .ref (m 7), .ref (m 8)])), (m 1, aI κ 333 z)])) := by
  refine CT.go (plainFor_of_name (by decide)) (Nat.le_of_ble_eq_true rfl) ?_
  intro Γ A Q hl hc hret
  subst hl
  have hc : Cx κ Γ A cX5_holderOf 3 RX5 "holderOf" (some .int) { frames := 0, cells := 0, slots := 0, locals := 0 } := hc
  refine g_lv (lv' := [(0, .ref (m 0)), (1, .int (nI b)), (2, .int (nI c))]) rfl ?_
  refine g_aload_n hc 0 rfl rfl dX5_holderOf_0 (n := 1) rfl ?_
  refine g_getf hc 0 rfl vw_5 inX5 0 (by decide) k_fl_RX5_7 rfl rfl dX5_holderOf_1 (n := 4) rfl ?_
  refine g_bipush (v := nI 104) hc (by decide) dX5_holderOf_4 (n := 6) rfl ?_
  refine g_bipush (v := nI 52) hc (by decide) dX5_holderOf_6 (n := 8) rfl ?_
  refine g_iload_n hc 1 rfl rfl dX5_holderOf_8 (n := 9) rfl ?_
  refine n_imul (v := 52 * b) hc rfl dX5_holderOf_9 (n := 10) rfl ?_
  refine n_iadd (v := 104 + (52 * b)) hc rfl dX5_holderOf_10 (n := 11) rfl ?_
  refine g_iload_n hc 2 rfl rfl dX5_holderOf_11 (n := 12) rfl ?_
  refine n_iadd (v := (104 + (52 * b)) + c) hc rfl dX5_holderOf_12 (n := 13) rfl ?_
  refine n_iald (v := z ((104 + (52 * b)) + c)) hc 1 rfl (by omega) (by decide) rfl dX5_holderOf_13 (n := 14) rfl ?_
  refine hret.1 _ _ _ _ _ _ rfl (by decide) (by decide) dX5_holderOf_14 ?_
  exact ⟨_, rfl, rfl, rfl⟩
set_option maxHeartbeats 1000000 in
set_option maxRecDepth 100000 in
theorem c_X5_pointsOf (κ : Kp) (l : Launch) (m : Nat → Nat) (n : Nat) (ln : Nat) (z : Nat → Nat) (b : Nat) (d : Nat) (hb : b < 4) (hd4 : d < 4) (hhb : ∀ k, k < 52 → hd z b k < 4) : CT κ l yX5_pointsOf cX5_pointsOf 6 (some .int) 1 22 0 0 [.ref (m 0), .int (nI b), .int (nI d)] [(m 0, .inr (5, [.ref (m 1), .ref (m 2), .ref (m 3), .int (nI n), .ref (m 4), .ref (m 5), .ref (m 6), .int (nI ln), .ref (m 7), .ref (m 8)])), (m 1, aI κ 333 z)] (PI (fun rr ww => rr = (nI (pt (hd z b) d)) ∧ ww = [(m 0, .inr (5, [.ref (m 1), .ref (m 2), .ref (m 3), .int (nI n), .ref (m 4), .ref (m 5), .ref (m 6), .int (nI ln), .ref (m 7), .ref (m 8)])), (m 1, aI κ 333 z)])) := by
  refine CT.go (plainFor_of_name (by decide)) (Nat.le_of_ble_eq_true rfl) ?_
  intro Γ A Q hl hc hret
  subst hl
  have hc : Cx κ Γ A cX5_pointsOf 6 RX5 "pointsOf" (some .int) { frames := 1, cells := 0, slots := 0, locals := 22 } := hc
  refine g_lv (lv' := [(0, .ref (m 0)), (1, .int (nI b)), (2, .int (nI d))]) rfl ?_
  refine g_iconst (v := nI 0) hc (by decide) dX5_pointsOf_0 (n := 1) rfl ?_
  refine g_istore_n (lv2 := [(0, .ref (m 0)), (1, .int (nI b)), (2, .int (nI d)), (3, .int (nI 0))]) hc rfl (by decide) [1, 2, 3, 0] rfl rfl dX5_pointsOf_1 (n := 2) rfl ?_
  refine g_iconst (v := nI 0) hc (by decide) dX5_pointsOf_2 (n := 3) rfl ?_
  refine g_istore (lv2 := [(0, .ref (m 0)), (1, .int (nI b)), (2, .int (nI d)), (3, .int (nI 0)), (4, .int (nI 0))]) hc (by decide) [1, 2, 3, 4, 0] rfl rfl dX5_pointsOf_3 (n := 5) rfl ?_
  have L_1 : ∀ (fuel : Nat) (i : Nat) (s : Nat), (i ≤ 52) → (s = sm (fun k => if hd z b k = d then k % 13 - 8 else 0) i) → 52 - i < fuel → G κ Γ A 6 0 0 Q [(m 0, .inr (5, [.ref (m 1), .ref (m 2), .ref (m 3), .int (nI n), .ref (m 4), .ref (m 5), .ref (m 6), .int (nI ln), .ref (m 7), .ref (m 8)])), (m 1, aI κ 333 z)] 5 [(0, .ref (m 0)), (1, .int (nI b)), (2, .int (nI d)), (3, .int (nI s)), (4, .int (nI i))] [] := by
    intro fuel
    induction fuel with
    | zero => intro i s hi hs h; exact absurd h (Nat.not_lt_zero _)
    | succ fuel ih_2 =>
      intro i s hi hs hn_3
      refine g_iload hc 4 rfl dX5_pointsOf_5 (n := 7) rfl ?_
      refine g_bipush (v := nI 52) hc (by decide) dX5_pointsOf_7 (n := 9) rfl ?_
      refine n_icmp_ge hc (by omega) (by omega) dX5_pointsOf_9 (tgt := 53) (by decide) (n := 12) rfl (fun c_4 => ?_) (fun c_4 => ?_)
      · skip
        refine g_iload_n hc 3 rfl rfl dX5_pointsOf_53 (n := 54) rfl ?_
        refine hret.1 _ _ _ _ _ _ rfl (by decide) (by decide) dX5_pointsOf_54 ?_
        exact ⟨_, rfl, (by have e9 : i = 52 := (by omega); subst e9; rw [hs]; rfl), rfl⟩
      · skip
        refine g_iload hc 4 rfl dX5_pointsOf_12 (n := 14) rfl ?_
        refine g_bipush (v := nI 13) hc (by decide) dX5_pointsOf_14 (n := 16) rfl ?_
        refine n_irem (v := i % 13) hc (by omega) (by decide) (by decide) rfl dX5_pointsOf_16 (n := 17) rfl ?_
        refine g_bipush (v := nI 8) hc (by decide) dX5_pointsOf_17 (n := 19) rfl ?_
        by_cases h8 : 8 ≤ i % 13
        · skip
          refine n_isub (v := (i % 13) - 8) hc (by omega) rfl dX5_pointsOf_19 (n := 20) rfl ?_
          refine g_istore (lv2 := [(0, .ref (m 0)), (1, .int (nI b)), (2, .int (nI d)), (3, .int (nI s)), (4, .int (nI i)), (5, .int (nI ((i % 13) - 8)))]) hc (by decide) [1, 2, 3, 4, 5, 0] rfl rfl dX5_pointsOf_20 (n := 22) rfl ?_
          refine g_iload_n hc 3 rfl rfl dX5_pointsOf_22 (n := 23) rfl ?_
          refine g_aload_n hc 0 rfl rfl dX5_pointsOf_23 (n := 24) rfl ?_
          refine g_iload_n hc 1 rfl rfl dX5_pointsOf_24 (n := 25) rfl ?_
          refine g_iload hc 4 rfl dX5_pointsOf_25 (n := 27) rfl ?_
          refine g_callV (rest := [.int (nI s)]) (As := [.int (nI b), .int (nI i)]) (cells' := 0) (slots' := 0) hc (c_X5_holderOf κ _ m n ln z b i (by omega) (by omega)) q_X5_holderOf k_ml_RX5_92 rfl rfl (jn_ix (wr := []) [0, 1] [] rfl rfl rfl rfl (by decide)) (qr := 0) rfl vw_5 ⟨⟨by decide, by decide⟩, by decide, by decide⟩ (Nat.le_of_ble_eq_true rfl) rfl rfl dX5_pointsOf_27 (n := 30) rfl (fun vv ww hp => ?_)
          obtain ⟨rr, rfl, rfl, rfl⟩ := hp
          refine ⟨_, rfl, ?_⟩
          refine g_ws (ws' := [(m 0, .inr (5, [.ref (m 1), .ref (m 2), .ref (m 3), .int (nI n), .ref (m 4), .ref (m 5), .ref (m 6), .int (nI ln), .ref (m 7), .ref (m 8)])), (m 1, aI κ 333 z)]) rfl ?_
          refine g_st (st' := [.int (nI (hd z b i)), .int (nI s)]) rfl ?_
          have hq_5 := hhb i (by omega)
          refine g_iload_n hc 2 rfl rfl dX5_pointsOf_30 (n := 31) rfl ?_
          refine n_icmp_ne hc (by omega) (by omega) dX5_pointsOf_31 (tgt := 44) (by decide) (n := 34) rfl (fun c_6 => ?_) (fun c_6 => ?_)
          · skip
            refine g_iconst (v := nI 0) hc (by decide) dX5_pointsOf_44 (n := 45) rfl ?_
            refine n_iadd (v := s + 0) hc rfl dX5_pointsOf_45 (n := 46) rfl ?_
            refine g_istore_n (lv2 := [(0, .ref (m 0)), (1, .int (nI b)), (2, .int (nI d)), (3, .int (nI (s + 0))), (4, .int (nI i)), (5, .int (nI ((i % 13) - 8)))]) hc rfl (by decide) [1, 2, 3, 0, 4, 5] rfl rfl dX5_pointsOf_46 (n := 47) rfl ?_
            refine n_iinc (v := i + 1) (zk := 1) (lv2 := [(0, .ref (m 0)), (1, .int (nI b)), (2, .int (nI d)), (3, .int (nI (s + 0))), (4, .int (nI (i + 1))), (5, .int (nI ((i % 13) - 8)))]) hc 4 rfl (by decide) rfl (by decide) [1, 2, 3, 4, 0, 5] rfl rfl dX5_pointsOf_47 (n := 50) rfl ?_
            refine g_goto (n := 5) hc dX5_pointsOf_50 (by decide) ?_
            refine g_lsub (lv' := [(0, .ref (m 0)), (1, .int (nI b)), (2, .int (nI d)), (3, .int (nI (s + 0))), (4, .int (nI (i + 1)))]) [0, 1, 2, 3, 4] rfl ?_
            exact ih_2 (i + 1) (s + 0) (by omega) (by rw [sm_s, ← hs]; first | (split <;> omega) | omega) (by omega)
          · skip
            refine g_iload hc 5 rfl dX5_pointsOf_34 (n := 36) rfl ?_
            refine n_if_le hc (by omega) dX5_pointsOf_36 (tgt := 44) (by decide) (n := 39) rfl (fun c_7 => ?_) (fun c_7 => ?_)
            · skip
              refine g_iconst (v := nI 0) hc (by decide) dX5_pointsOf_44 (n := 45) rfl ?_
              refine n_iadd (v := s + 0) hc rfl dX5_pointsOf_45 (n := 46) rfl ?_
              refine g_istore_n (lv2 := [(0, .ref (m 0)), (1, .int (nI b)), (2, .int (nI d)), (3, .int (nI (s + 0))), (4, .int (nI i)), (5, .int (nI ((i % 13) - 8)))]) hc rfl (by decide) [1, 2, 3, 0, 4, 5] rfl rfl dX5_pointsOf_46 (n := 47) rfl ?_
              refine n_iinc (v := i + 1) (zk := 1) (lv2 := [(0, .ref (m 0)), (1, .int (nI b)), (2, .int (nI d)), (3, .int (nI (s + 0))), (4, .int (nI (i + 1))), (5, .int (nI ((i % 13) - 8)))]) hc 4 rfl (by decide) rfl (by decide) [1, 2, 3, 4, 0, 5] rfl rfl dX5_pointsOf_47 (n := 50) rfl ?_
              refine g_goto (n := 5) hc dX5_pointsOf_50 (by decide) ?_
              refine g_lsub (lv' := [(0, .ref (m 0)), (1, .int (nI b)), (2, .int (nI d)), (3, .int (nI (s + 0))), (4, .int (nI (i + 1)))]) [0, 1, 2, 3, 4] rfl ?_
              exact ih_2 (i + 1) (s + 0) (by omega) (by rw [sm_s, ← hs]; first | (split <;> omega) | omega) (by omega)
            · skip
              refine g_iload hc 5 rfl dX5_pointsOf_39 (n := 41) rfl ?_
              refine g_goto (n := 45) hc dX5_pointsOf_41 (by decide) ?_
              refine n_iadd (v := s + ((i % 13) - 8)) hc rfl dX5_pointsOf_45 (n := 46) rfl ?_
              refine g_istore_n (lv2 := [(0, .ref (m 0)), (1, .int (nI b)), (2, .int (nI d)), (3, .int (nI (s + ((i % 13) - 8)))), (4, .int (nI i)), (5, .int (nI ((i % 13) - 8)))]) hc rfl (by decide) [1, 2, 3, 0, 4, 5] rfl rfl dX5_pointsOf_46 (n := 47) rfl ?_
              refine n_iinc (v := i + 1) (zk := 1) (lv2 := [(0, .ref (m 0)), (1, .int (nI b)), (2, .int (nI d)), (3, .int (nI (s + ((i % 13) - 8)))), (4, .int (nI (i + 1))), (5, .int (nI ((i % 13) - 8)))]) hc 4 rfl (by decide) rfl (by decide) [1, 2, 3, 4, 0, 5] rfl rfl dX5_pointsOf_47 (n := 50) rfl ?_
              refine g_goto (n := 5) hc dX5_pointsOf_50 (by decide) ?_
              refine g_lsub (lv' := [(0, .ref (m 0)), (1, .int (nI b)), (2, .int (nI d)), (3, .int (nI (s + ((i % 13) - 8)))), (4, .int (nI (i + 1)))]) [0, 1, 2, 3, 4] rfl ?_
              exact ih_2 (i + 1) (s + ((i % 13) - 8)) (by omega) (by rw [sm_s, ← hs]; first | (split <;> omega) | omega) (by omega)
        · have hr8 := raw_le (i % 13) (by omega)
          refine g_isub (v := nI (i % 13) - nI 8) hc rfl dX5_pointsOf_19 (n := 20) rfl ?_
          refine g_istore (lv2 := [(0, .ref (m 0)), (1, .int (nI b)), (2, .int (nI d)), (3, .int (nI s)), (4, .int (nI i)), (5, .int (nI (i % 13) - nI 8))]) hc (by decide) [1, 2, 3, 4, 5, 0] rfl rfl dX5_pointsOf_20 (n := 22) rfl ?_
          refine g_iload_n hc 3 rfl rfl dX5_pointsOf_22 (n := 23) rfl ?_
          refine g_aload_n hc 0 rfl rfl dX5_pointsOf_23 (n := 24) rfl ?_
          refine g_iload_n hc 1 rfl rfl dX5_pointsOf_24 (n := 25) rfl ?_
          refine g_iload hc 4 rfl dX5_pointsOf_25 (n := 27) rfl ?_
          refine g_callV (rest := [.int (nI s)]) (As := [.int (nI b), .int (nI i)]) (cells' := 0) (slots' := 0) hc (c_X5_holderOf κ _ m n ln z b i (by omega) (by omega)) q_X5_holderOf k_ml_RX5_92 rfl rfl (jn_ix (wr := []) [0, 1] [] rfl rfl rfl rfl (by decide)) (qr := 0) rfl vw_5 ⟨⟨by decide, by decide⟩, by decide, by decide⟩ (Nat.le_of_ble_eq_true rfl) rfl rfl dX5_pointsOf_27 (n := 30) rfl (fun vv ww hp => ?_)
          obtain ⟨rr, rfl, rfl, rfl⟩ := hp
          refine ⟨_, rfl, ?_⟩
          refine g_ws (ws' := [(m 0, .inr (5, [.ref (m 1), .ref (m 2), .ref (m 3), .int (nI n), .ref (m 4), .ref (m 5), .ref (m 6), .int (nI ln), .ref (m 7), .ref (m 8)])), (m 1, aI κ 333 z)]) rfl ?_
          refine g_st (st' := [.int (nI (hd z b i)), .int (nI s)]) rfl ?_
          have hq_8 := hhb i (by omega)
          refine g_iload_n hc 2 rfl rfl dX5_pointsOf_30 (n := 31) rfl ?_
          refine n_icmp_ne hc (by omega) (by omega) dX5_pointsOf_31 (tgt := 44) (by decide) (n := 34) rfl (fun c_9 => ?_) (fun c_9 => ?_)
          · skip
            refine g_iconst (v := nI 0) hc (by decide) dX5_pointsOf_44 (n := 45) rfl ?_
            refine n_iadd (v := s + 0) hc rfl dX5_pointsOf_45 (n := 46) rfl ?_
            refine g_istore_n (lv2 := [(0, .ref (m 0)), (1, .int (nI b)), (2, .int (nI d)), (3, .int (nI (s + 0))), (4, .int (nI i)), (5, .int (nI (i % 13) - nI 8))]) hc rfl (by decide) [1, 2, 3, 0, 4, 5] rfl rfl dX5_pointsOf_46 (n := 47) rfl ?_
            refine n_iinc (v := i + 1) (zk := 1) (lv2 := [(0, .ref (m 0)), (1, .int (nI b)), (2, .int (nI d)), (3, .int (nI (s + 0))), (4, .int (nI (i + 1))), (5, .int (nI (i % 13) - nI 8))]) hc 4 rfl (by decide) rfl (by decide) [1, 2, 3, 4, 0, 5] rfl rfl dX5_pointsOf_47 (n := 50) rfl ?_
            refine g_goto (n := 5) hc dX5_pointsOf_50 (by decide) ?_
            refine g_lsub (lv' := [(0, .ref (m 0)), (1, .int (nI b)), (2, .int (nI d)), (3, .int (nI (s + 0))), (4, .int (nI (i + 1)))]) [0, 1, 2, 3, 4] rfl ?_
            exact ih_2 (i + 1) (s + 0) (by omega) (by rw [sm_s, ← hs]; first | (split <;> omega) | omega) (by omega)
          · skip
            refine g_iload hc 5 rfl dX5_pointsOf_34 (n := 36) rfl ?_
            refine g_if_le hc dX5_pointsOf_36 (tgt := 44) (by decide) (n := 39) rfl (fun c_10 => ?_) (fun c_10 => by exact absurd hr8 c_10)
            refine g_iconst (v := nI 0) hc (by decide) dX5_pointsOf_44 (n := 45) rfl ?_
            refine n_iadd (v := s + 0) hc rfl dX5_pointsOf_45 (n := 46) rfl ?_
            refine g_istore_n (lv2 := [(0, .ref (m 0)), (1, .int (nI b)), (2, .int (nI d)), (3, .int (nI (s + 0))), (4, .int (nI i)), (5, .int (nI (i % 13) - nI 8))]) hc rfl (by decide) [1, 2, 3, 0, 4, 5] rfl rfl dX5_pointsOf_46 (n := 47) rfl ?_
            refine n_iinc (v := i + 1) (zk := 1) (lv2 := [(0, .ref (m 0)), (1, .int (nI b)), (2, .int (nI d)), (3, .int (nI (s + 0))), (4, .int (nI (i + 1))), (5, .int (nI (i % 13) - nI 8))]) hc 4 rfl (by decide) rfl (by decide) [1, 2, 3, 4, 0, 5] rfl rfl dX5_pointsOf_47 (n := 50) rfl ?_
            refine g_goto (n := 5) hc dX5_pointsOf_50 (by decide) ?_
            refine g_lsub (lv' := [(0, .ref (m 0)), (1, .int (nI b)), (2, .int (nI d)), (3, .int (nI (s + 0))), (4, .int (nI (i + 1)))]) [0, 1, 2, 3, 4] rfl ?_
            exact ih_2 (i + 1) (s + 0) (by omega) (by rw [sm_s, ← hs]; first | (split <;> omega) | omega) (by omega)
  exact L_1 _ 0 0 (by omega) (rfl) (Nat.lt_succ_self _)
set_option maxHeartbeats 1000000 in
set_option maxRecDepth 100000 in
theorem c_X5_lengthOf (κ : Kp) (l : Launch) (m : Nat → Nat) (n : Nat) (ln : Nat) (z : Nat → Nat) (b : Nat) (d : Nat) (q : Nat) (hb : b < 4) (hd4 : d < 4) (hq4 : q < 4) (hhb : ∀ k, k < 52 → hd z b k < 4) : CT κ l yX5_lengthOf cX5_lengthOf 6 (some .int) 1 22 0 0 [.ref (m 0), .int (nI b), .int (nI d), .int (nI q)] [(m 0, .inr (5, [.ref (m 1), .ref (m 2), .ref (m 3), .int (nI n), .ref (m 4), .ref (m 5), .ref (m 6), .int (nI ln), .ref (m 7), .ref (m 8)])), (m 1, aI κ 333 z)] (PI (fun rr ww => rr = (nI (sl (hd z b) d q)) ∧ ww = [(m 0, .inr (5, [.ref (m 1), .ref (m 2), .ref (m 3), .int (nI n), .ref (m 4), .ref (m 5), .ref (m 6), .int (nI ln), .ref (m 7), .ref (m 8)])), (m 1, aI κ 333 z)])) := by
  refine CT.go (plainFor_of_name (by decide)) (Nat.le_of_ble_eq_true rfl) ?_
  intro Γ A Q hl hc hret
  subst hl
  have hc : Cx κ Γ A cX5_lengthOf 6 RX5 "lengthOf" (some .int) { frames := 1, cells := 0, slots := 0, locals := 22 } := hc
  refine g_lv (lv' := [(0, .ref (m 0)), (1, .int (nI b)), (2, .int (nI d)), (3, .int (nI q))]) rfl ?_
  refine g_iconst (v := nI 0) hc (by decide) dX5_lengthOf_0 (n := 1) rfl ?_
  refine g_istore (lv2 := [(0, .ref (m 0)), (1, .int (nI b)), (2, .int (nI d)), (3, .int (nI q)), (4, .int (nI 0))]) hc (by decide) [1, 2, 3, 4, 0] rfl rfl dX5_lengthOf_1 (n := 3) rfl ?_
  refine g_iconst (v := nI 0) hc (by decide) dX5_lengthOf_3 (n := 4) rfl ?_
  refine g_istore (lv2 := [(0, .ref (m 0)), (1, .int (nI b)), (2, .int (nI d)), (3, .int (nI q)), (4, .int (nI 0)), (5, .int (nI 0))]) hc (by decide) [1, 2, 3, 4, 5, 0] rfl rfl dX5_lengthOf_4 (n := 6) rfl ?_
  have L_1 : ∀ (fuel : Nat) (i : Nat) (s : Nat), (i ≤ 13) → (s = sm (fun r => if hd z b (13 * q + r) = d then 1 else 0) i) → 13 - i < fuel → G κ Γ A 6 0 0 Q [(m 0, .inr (5, [.ref (m 1), .ref (m 2), .ref (m 3), .int (nI n), .ref (m 4), .ref (m 5), .ref (m 6), .int (nI ln), .ref (m 7), .ref (m 8)])), (m 1, aI κ 333 z)] 6 [(0, .ref (m 0)), (1, .int (nI b)), (2, .int (nI d)), (3, .int (nI q)), (4, .int (nI s)), (5, .int (nI i))] [] := by
    intro fuel
    induction fuel with
    | zero => intro i s hi hs h; exact absurd h (Nat.not_lt_zero _)
    | succ fuel ih_2 =>
      intro i s hi hs hn_3
      refine g_iload hc 5 rfl dX5_lengthOf_6 (n := 8) rfl ?_
      refine g_bipush (v := nI 13) hc (by decide) dX5_lengthOf_8 (n := 10) rfl ?_
      refine n_icmp_ge hc (by omega) (by omega) dX5_lengthOf_10 (tgt := 45) (by decide) (n := 13) rfl (fun c_4 => ?_) (fun c_4 => ?_)
      · skip
        refine g_iload hc 4 rfl dX5_lengthOf_45 (n := 47) rfl ?_
        refine hret.1 _ _ _ _ _ _ rfl (by decide) (by decide) dX5_lengthOf_47 ?_
        exact ⟨_, rfl, (by have e9 : i = 13 := (by omega); subst e9; rw [hs, sl13 _ _ hq4]), rfl⟩
      · skip
        refine g_iload hc 4 rfl dX5_lengthOf_13 (n := 15) rfl ?_
        refine g_aload_n hc 0 rfl rfl dX5_lengthOf_15 (n := 16) rfl ?_
        refine g_iload_n hc 1 rfl rfl dX5_lengthOf_16 (n := 17) rfl ?_
        refine g_bipush (v := nI 13) hc (by decide) dX5_lengthOf_17 (n := 19) rfl ?_
        refine g_iload_n hc 3 rfl rfl dX5_lengthOf_19 (n := 20) rfl ?_
        refine n_imul (v := 13 * q) hc rfl dX5_lengthOf_20 (n := 21) rfl ?_
        refine g_iload hc 5 rfl dX5_lengthOf_21 (n := 23) rfl ?_
        refine n_iadd (v := (13 * q) + i) hc rfl dX5_lengthOf_23 (n := 24) rfl ?_
        refine g_callV (rest := [.int (nI s)]) (As := [.int (nI b), .int (nI ((13 * q) + i))]) (cells' := 0) (slots' := 0) hc (c_X5_holderOf κ _ m n ln z b ((13 * q) + i) (by omega) (by omega)) q_X5_holderOf k_ml_RX5_92 rfl rfl (jn_ix (wr := []) [0, 1] [] rfl rfl rfl rfl (by decide)) (qr := 0) rfl vw_5 ⟨⟨by decide, by decide⟩, by decide, by decide⟩ (Nat.le_of_ble_eq_true rfl) rfl rfl dX5_lengthOf_24 (n := 27) rfl (fun vv ww hp => ?_)
        obtain ⟨rr, rfl, rfl, rfl⟩ := hp
        refine ⟨_, rfl, ?_⟩
        refine g_ws (ws' := [(m 0, .inr (5, [.ref (m 1), .ref (m 2), .ref (m 3), .int (nI n), .ref (m 4), .ref (m 5), .ref (m 6), .int (nI ln), .ref (m 7), .ref (m 8)])), (m 1, aI κ 333 z)]) rfl ?_
        refine g_st (st' := [.int (nI (hd z b ((13 * q) + i))), .int (nI s)]) rfl ?_
        have hq_5 := hhb ((13 * q) + i) (by omega)
        refine g_iload_n hc 2 rfl rfl dX5_lengthOf_27 (n := 28) rfl ?_
        refine n_icmp_ne hc (by omega) (by omega) dX5_lengthOf_28 (tgt := 35) (by decide) (n := 31) rfl (fun c_6 => ?_) (fun c_6 => ?_)
        · skip
          refine g_iconst (v := nI 0) hc (by decide) dX5_lengthOf_35 (n := 36) rfl ?_
          refine n_iadd (v := s + 0) hc rfl dX5_lengthOf_36 (n := 37) rfl ?_
          refine g_istore (lv2 := [(0, .ref (m 0)), (1, .int (nI b)), (2, .int (nI d)), (3, .int (nI q)), (4, .int (nI (s + 0))), (5, .int (nI i))]) hc (by decide) [1, 2, 3, 4, 0, 5] rfl rfl dX5_lengthOf_37 (n := 39) rfl ?_
          refine n_iinc (v := i + 1) (zk := 1) (lv2 := [(0, .ref (m 0)), (1, .int (nI b)), (2, .int (nI d)), (3, .int (nI q)), (4, .int (nI (s + 0))), (5, .int (nI (i + 1)))]) hc 5 rfl (by decide) rfl (by decide) [1, 2, 3, 4, 5, 0] rfl rfl dX5_lengthOf_39 (n := 42) rfl ?_
          refine g_goto (n := 6) hc dX5_lengthOf_42 (by decide) ?_
          exact ih_2 (i + 1) (s + 0) (by omega) (by rw [sm_s, ← hs]; first | (split <;> omega) | omega) (by omega)
        · skip
          refine g_iconst (v := nI 1) hc (by decide) dX5_lengthOf_31 (n := 32) rfl ?_
          refine g_goto (n := 36) hc dX5_lengthOf_32 (by decide) ?_
          refine n_iadd (v := s + 1) hc rfl dX5_lengthOf_36 (n := 37) rfl ?_
          refine g_istore (lv2 := [(0, .ref (m 0)), (1, .int (nI b)), (2, .int (nI d)), (3, .int (nI q)), (4, .int (nI (s + 1))), (5, .int (nI i))]) hc (by decide) [1, 2, 3, 4, 0, 5] rfl rfl dX5_lengthOf_37 (n := 39) rfl ?_
          refine n_iinc (v := i + 1) (zk := 1) (lv2 := [(0, .ref (m 0)), (1, .int (nI b)), (2, .int (nI d)), (3, .int (nI q)), (4, .int (nI (s + 1))), (5, .int (nI (i + 1)))]) hc 5 rfl (by decide) rfl (by decide) [1, 2, 3, 4, 5, 0] rfl rfl dX5_lengthOf_39 (n := 42) rfl ?_
          refine g_goto (n := 6) hc dX5_lengthOf_42 (by decide) ?_
          exact ih_2 (i + 1) (s + 1) (by omega) (by rw [sm_s, ← hs]; first | (split <;> omega) | omega) (by omega)
  exact L_1 _ 0 0 (by omega) (rfl) (Nat.lt_succ_self _)
set_option maxHeartbeats 1000000 in
set_option maxRecDepth 100000 in
theorem c_X5_isBalanced (κ : Kp) (l : Launch) (m : Nat → Nat) (n : Nat) (ln : Nat) (z : Nat → Nat) (b : Nat) (d : Nat) (hb : b < 4) (hd4 : d < 4) (hhb : ∀ k, k < 52 → hd z b k < 4) : CT κ l yX5_isBalanced cX5_isBalanced 7 (some .boolean) 2 47 0 0 [.ref (m 0), .int (nI b), .int (nI d)] [(m 0, .inr (5, [.ref (m 1), .ref (m 2), .ref (m 3), .int (nI n), .ref (m 4), .ref (m 5), .ref (m 6), .int (nI ln), .ref (m 7), .ref (m 8)])), (m 1, aI κ 333 z)] (PI (fun rr ww => rr = (nI (bl (hd z b) d)) ∧ ww = [(m 0, .inr (5, [.ref (m 1), .ref (m 2), .ref (m 3), .int (nI n), .ref (m 4), .ref (m 5), .ref (m 6), .int (nI ln), .ref (m 7), .ref (m 8)])), (m 1, aI κ 333 z)])) := by
  refine CT.go (plainFor_of_name (by decide)) (Nat.le_of_ble_eq_true rfl) ?_
  intro Γ A Q hl hc hret
  subst hl
  have hc : Cx κ Γ A cX5_isBalanced 7 RX5 "isBalanced" (some .boolean) { frames := 2, cells := 0, slots := 0, locals := 47 } := hc
  refine g_lv (lv' := [(0, .ref (m 0)), (1, .int (nI b)), (2, .int (nI d))]) rfl ?_
  refine g_iconst (v := nI 0) hc (by decide) dX5_isBalanced_0 (n := 1) rfl ?_
  refine g_istore_n (lv2 := [(0, .ref (m 0)), (1, .int (nI b)), (2, .int (nI d)), (3, .int (nI 0))]) hc rfl (by decide) [1, 2, 3, 0] rfl rfl dX5_isBalanced_1 (n := 2) rfl ?_
  refine g_iconst (v := nI 1) hc (by decide) dX5_isBalanced_2 (n := 3) rfl ?_
  refine g_istore (lv2 := [(0, .ref (m 0)), (1, .int (nI b)), (2, .int (nI d)), (3, .int (nI 0)), (4, .int (nI 1))]) hc (by decide) [1, 2, 3, 4, 0] rfl rfl dX5_isBalanced_3 (n := 5) rfl ?_
  refine g_iconst (v := nI 0) hc (by decide) dX5_isBalanced_5 (n := 6) rfl ?_
  refine g_istore (lv2 := [(0, .ref (m 0)), (1, .int (nI b)), (2, .int (nI d)), (3, .int (nI 0)), (4, .int (nI 1)), (5, .int (nI 0))]) hc (by decide) [1, 2, 3, 4, 5, 0] rfl rfl dX5_isBalanced_6 (n := 8) rfl ?_
  have L_1 : ∀ (fuel : Nat) (i : Nat) (t : Nat) (e : Nat), (i ≤ 4) → (t = sm (fun s => if sl (hd z b) d s = 2 then 1 else 0) i) → (e ≤ 1) → (e = if sm (fun s => if sl (hd z b) d s < 2 then 1 else 0) i = 0 then 1 else 0) → (t ≤ i) → 4 - i < fuel → G κ Γ A 7 0 0 Q [(m 0, .inr (5, [.ref (m 1), .ref (m 2), .ref (m 3), .int (nI n), .ref (m 4), .ref (m 5), .ref (m 6), .int (nI ln), .ref (m 7), .ref (m 8)])), (m 1, aI κ 333 z)] 8 [(0, .ref (m 0)), (1, .int (nI b)), (2, .int (nI d)), (3, .int (nI t)), (4, .int (nI e)), (5, .int (nI i))] [] := by
    intro fuel
    induction fuel with
    | zero => intro i t e hi hs he hz ht h; exact absurd h (Nat.not_lt_zero _)
    | succ fuel ih_2 =>
      intro i t e hi hs he hz ht hn_3
      refine g_iload hc 5 rfl dX5_isBalanced_8 (n := 10) rfl ?_
      refine g_iconst (v := nI 4) hc (by decide) dX5_isBalanced_10 (n := 11) rfl ?_
      refine n_icmp_ge hc (by omega) (by omega) dX5_isBalanced_11 (tgt := 62) (by decide) (n := 14) rfl (fun c_4 => ?_) (fun c_4 => ?_)
      · skip
        refine g_iload hc 4 rfl dX5_isBalanced_62 (n := 64) rfl ?_
        refine n_if_eq hc (by omega) dX5_isBalanced_64 (tgt := 76) (by decide) (n := 67) rfl (fun c_5 => ?_) (fun c_5 => ?_)
        · skip
          refine g_iconst (v := nI 0) hc (by decide) dX5_isBalanced_76 (n := 77) rfl ?_
          refine hret.2.1 _ _ _ _ _ _ _ rfl rfl (by decide) (by decide) dX5_isBalanced_77 ?_
          exact ⟨_, rfl, (by have e9 : i = 4 := (by omega); subst e9; unfold bl; by_cases q0 : sm (fun s => if sl (hd z b) d s < 2 then 1 else 0) 4 = 0 <;> first | (rw [if_pos q0] at hz; first | (exfalso; omega) | (rw [if_pos ⟨q0, by omega⟩]; done) | (rw [if_neg (fun z => by have := z.2; omega)]; done)) | (rw [if_neg q0] at hz; first | (exfalso; omega) | (rw [if_neg (fun z => q0 z.1)]; done))), rfl⟩
        · skip
          refine g_iload_n hc 3 rfl rfl dX5_isBalanced_67 (n := 68) rfl ?_
          refine g_iconst (v := nI 2) hc (by decide) dX5_isBalanced_68 (n := 69) rfl ?_
          refine n_icmp_ge hc (by omega) (by omega) dX5_isBalanced_69 (tgt := 76) (by decide) (n := 72) rfl (fun c_6 => ?_) (fun c_6 => ?_)
          · skip
            refine g_iconst (v := nI 0) hc (by decide) dX5_isBalanced_76 (n := 77) rfl ?_
            refine hret.2.1 _ _ _ _ _ _ _ rfl rfl (by decide) (by decide) dX5_isBalanced_77 ?_
            exact ⟨_, rfl, (by have e9 : i = 4 := (by omega); subst e9; unfold bl; by_cases q0 : sm (fun s => if sl (hd z b) d s < 2 then 1 else 0) 4 = 0 <;> first | (rw [if_pos q0] at hz; first | (exfalso; omega) | (rw [if_pos ⟨q0, by omega⟩]; done) | (rw [if_neg (fun z => by have := z.2; omega)]; done)) | (rw [if_neg q0] at hz; first | (exfalso; omega) | (rw [if_neg (fun z => q0 z.1)]; done))), rfl⟩
          · skip
            refine g_iconst (v := nI 1) hc (by decide) dX5_isBalanced_72 (n := 73) rfl ?_
            refine g_goto (n := 77) hc dX5_isBalanced_73 (by decide) ?_
            refine hret.2.1 _ _ _ _ _ _ _ rfl rfl (by decide) (by decide) dX5_isBalanced_77 ?_
            exact ⟨_, rfl, (by have e9 : i = 4 := (by omega); subst e9; unfold bl; by_cases q0 : sm (fun s => if sl (hd z b) d s < 2 then 1 else 0) 4 = 0 <;> first | (rw [if_pos q0] at hz; first | (exfalso; omega) | (rw [if_pos ⟨q0, by omega⟩]; done) | (rw [if_neg (fun z => by have := z.2; omega)]; done)) | (rw [if_neg q0] at hz; first | (exfalso; omega) | (rw [if_neg (fun z => q0 z.1)]; done))), rfl⟩
      · skip
        refine g_aload_n hc 0 rfl rfl dX5_isBalanced_14 (n := 15) rfl ?_
        refine g_iload_n hc 1 rfl rfl dX5_isBalanced_15 (n := 16) rfl ?_
        refine g_iload_n hc 2 rfl rfl dX5_isBalanced_16 (n := 17) rfl ?_
        refine g_iload hc 5 rfl dX5_isBalanced_17 (n := 19) rfl ?_
        refine g_callV (rest := []) (As := [.int (nI b), .int (nI d), .int (nI i)]) (cells' := 0) (slots' := 0) hc (c_X5_lengthOf κ _ m n ln z b d i hb (by omega) (by omega) hhb) q_X5_lengthOf k_ml_RX5_102 rfl rfl (jn_ix (wr := []) [0, 1] [] rfl rfl rfl rfl (by decide)) (qr := 0) rfl vw_5 ⟨⟨by decide, by decide⟩, by decide, by decide⟩ (Nat.le_of_ble_eq_true rfl) rfl rfl dX5_isBalanced_19 (n := 22) rfl (fun vv ww hp => ?_)
        obtain ⟨rr, rfl, rfl, rfl⟩ := hp
        refine ⟨_, rfl, ?_⟩
        refine g_ws (ws' := [(m 0, .inr (5, [.ref (m 1), .ref (m 2), .ref (m 3), .int (nI n), .ref (m 4), .ref (m 5), .ref (m 6), .int (nI ln), .ref (m 7), .ref (m 8)])), (m 1, aI κ 333 z)]) rfl ?_
        refine g_st (st' := [.int (nI (sl (hd z b) d i))]) rfl ?_
        have hsl := sl_le (hd z b) d i
        refine g_istore (lv2 := [(0, .ref (m 0)), (1, .int (nI b)), (2, .int (nI d)), (3, .int (nI t)), (4, .int (nI e)), (5, .int (nI i)), (6, .int (nI (sl (hd z b) d i)))]) hc (by decide) [1, 2, 3, 4, 5, 6, 0] rfl rfl dX5_isBalanced_22 (n := 24) rfl ?_
        refine g_iload hc 4 rfl dX5_isBalanced_24 (n := 26) rfl ?_
        refine n_if_eq hc (by omega) dX5_isBalanced_26 (tgt := 39) (by decide) (n := 29) rfl (fun c_7 => ?_) (fun c_7 => ?_)
        · skip
          refine g_iconst (v := nI 0) hc (by decide) dX5_isBalanced_39 (n := 40) rfl ?_
          refine g_istore (lv2 := [(0, .ref (m 0)), (1, .int (nI b)), (2, .int (nI d)), (3, .int (nI t)), (4, .int (nI 0)), (5, .int (nI i)), (6, .int (nI (sl (hd z b) d i)))]) hc (by decide) [1, 2, 3, 4, 0, 5, 6] rfl rfl dX5_isBalanced_40 (n := 42) rfl ?_
          refine g_iload_n hc 3 rfl rfl dX5_isBalanced_42 (n := 43) rfl ?_
          refine g_iload hc 6 rfl dX5_isBalanced_43 (n := 45) rfl ?_
          refine g_iconst (v := nI 2) hc (by decide) dX5_isBalanced_45 (n := 46) rfl ?_
          refine n_icmp_ne hc (by omega) (by omega) dX5_isBalanced_46 (tgt := 53) (by decide) (n := 49) rfl (fun c_8 => ?_) (fun c_8 => ?_)
          · skip
            refine g_iconst (v := nI 0) hc (by decide) dX5_isBalanced_53 (n := 54) rfl ?_
            refine n_iadd (v := t + 0) hc rfl dX5_isBalanced_54 (n := 55) rfl ?_
            refine g_istore_n (lv2 := [(0, .ref (m 0)), (1, .int (nI b)), (2, .int (nI d)), (3, .int (nI (t + 0))), (4, .int (nI 0)), (5, .int (nI i)), (6, .int (nI (sl (hd z b) d i)))]) hc rfl (by decide) [1, 2, 3, 0, 4, 5, 6] rfl rfl dX5_isBalanced_55 (n := 56) rfl ?_
            refine n_iinc (v := i + 1) (zk := 1) (lv2 := [(0, .ref (m 0)), (1, .int (nI b)), (2, .int (nI d)), (3, .int (nI (t + 0))), (4, .int (nI 0)), (5, .int (nI (i + 1))), (6, .int (nI (sl (hd z b) d i)))]) hc 5 rfl (by decide) rfl (by decide) [1, 2, 3, 4, 5, 0, 6] rfl rfl dX5_isBalanced_56 (n := 59) rfl ?_
            refine g_goto (n := 8) hc dX5_isBalanced_59 (by decide) ?_
            refine g_lsub (lv' := [(0, .ref (m 0)), (1, .int (nI b)), (2, .int (nI d)), (3, .int (nI (t + 0))), (4, .int (nI 0)), (5, .int (nI (i + 1)))]) [0, 1, 2, 3, 4, 5] rfl ?_
            exact ih_2 (i + 1) (t + 0) 0 (by omega) (by rw [sm_s, ← hs]; first | (split <;> omega) | omega) (by omega) (by rw [sm_s]; by_cases q0 : sm (fun s => if sl (hd z b) d s < 2 then 1 else 0) i = 0; (rw [if_pos q0] at hz; (repeat' split) <;> omega); (rw [if_neg q0] at hz; (repeat' split) <;> omega)) (by omega) (by omega)
          · skip
            refine g_iconst (v := nI 1) hc (by decide) dX5_isBalanced_49 (n := 50) rfl ?_
            refine g_goto (n := 54) hc dX5_isBalanced_50 (by decide) ?_
            refine n_iadd (v := t + 1) hc rfl dX5_isBalanced_54 (n := 55) rfl ?_
            refine g_istore_n (lv2 := [(0, .ref (m 0)), (1, .int (nI b)), (2, .int (nI d)), (3, .int (nI (t + 1))), (4, .int (nI 0)), (5, .int (nI i)), (6, .int (nI (sl (hd z b) d i)))]) hc rfl (by decide) [1, 2, 3, 0, 4, 5, 6] rfl rfl dX5_isBalanced_55 (n := 56) rfl ?_
            refine n_iinc (v := i + 1) (zk := 1) (lv2 := [(0, .ref (m 0)), (1, .int (nI b)), (2, .int (nI d)), (3, .int (nI (t + 1))), (4, .int (nI 0)), (5, .int (nI (i + 1))), (6, .int (nI (sl (hd z b) d i)))]) hc 5 rfl (by decide) rfl (by decide) [1, 2, 3, 4, 5, 0, 6] rfl rfl dX5_isBalanced_56 (n := 59) rfl ?_
            refine g_goto (n := 8) hc dX5_isBalanced_59 (by decide) ?_
            refine g_lsub (lv' := [(0, .ref (m 0)), (1, .int (nI b)), (2, .int (nI d)), (3, .int (nI (t + 1))), (4, .int (nI 0)), (5, .int (nI (i + 1)))]) [0, 1, 2, 3, 4, 5] rfl ?_
            exact ih_2 (i + 1) (t + 1) 0 (by omega) (by rw [sm_s, ← hs]; first | (split <;> omega) | omega) (by omega) (by rw [sm_s]; by_cases q0 : sm (fun s => if sl (hd z b) d s < 2 then 1 else 0) i = 0; (rw [if_pos q0] at hz; (repeat' split) <;> omega); (rw [if_neg q0] at hz; (repeat' split) <;> omega)) (by omega) (by omega)
        · skip
          refine g_iload hc 6 rfl dX5_isBalanced_29 (n := 31) rfl ?_
          refine g_iconst (v := nI 1) hc (by decide) dX5_isBalanced_31 (n := 32) rfl ?_
          refine n_icmp_le hc (by omega) (by omega) dX5_isBalanced_32 (tgt := 39) (by decide) (n := 35) rfl (fun c_9 => ?_) (fun c_9 => ?_)
          · skip
            refine g_iconst (v := nI 0) hc (by decide) dX5_isBalanced_39 (n := 40) rfl ?_
            refine g_istore (lv2 := [(0, .ref (m 0)), (1, .int (nI b)), (2, .int (nI d)), (3, .int (nI t)), (4, .int (nI 0)), (5, .int (nI i)), (6, .int (nI (sl (hd z b) d i)))]) hc (by decide) [1, 2, 3, 4, 0, 5, 6] rfl rfl dX5_isBalanced_40 (n := 42) rfl ?_
            refine g_iload_n hc 3 rfl rfl dX5_isBalanced_42 (n := 43) rfl ?_
            refine g_iload hc 6 rfl dX5_isBalanced_43 (n := 45) rfl ?_
            refine g_iconst (v := nI 2) hc (by decide) dX5_isBalanced_45 (n := 46) rfl ?_
            refine n_icmp_ne hc (by omega) (by omega) dX5_isBalanced_46 (tgt := 53) (by decide) (n := 49) rfl (fun c_10 => ?_) (fun c_10 => ?_)
            · skip
              refine g_iconst (v := nI 0) hc (by decide) dX5_isBalanced_53 (n := 54) rfl ?_
              refine n_iadd (v := t + 0) hc rfl dX5_isBalanced_54 (n := 55) rfl ?_
              refine g_istore_n (lv2 := [(0, .ref (m 0)), (1, .int (nI b)), (2, .int (nI d)), (3, .int (nI (t + 0))), (4, .int (nI 0)), (5, .int (nI i)), (6, .int (nI (sl (hd z b) d i)))]) hc rfl (by decide) [1, 2, 3, 0, 4, 5, 6] rfl rfl dX5_isBalanced_55 (n := 56) rfl ?_
              refine n_iinc (v := i + 1) (zk := 1) (lv2 := [(0, .ref (m 0)), (1, .int (nI b)), (2, .int (nI d)), (3, .int (nI (t + 0))), (4, .int (nI 0)), (5, .int (nI (i + 1))), (6, .int (nI (sl (hd z b) d i)))]) hc 5 rfl (by decide) rfl (by decide) [1, 2, 3, 4, 5, 0, 6] rfl rfl dX5_isBalanced_56 (n := 59) rfl ?_
              refine g_goto (n := 8) hc dX5_isBalanced_59 (by decide) ?_
              refine g_lsub (lv' := [(0, .ref (m 0)), (1, .int (nI b)), (2, .int (nI d)), (3, .int (nI (t + 0))), (4, .int (nI 0)), (5, .int (nI (i + 1)))]) [0, 1, 2, 3, 4, 5] rfl ?_
              exact ih_2 (i + 1) (t + 0) 0 (by omega) (by rw [sm_s, ← hs]; first | (split <;> omega) | omega) (by omega) (by rw [sm_s]; by_cases q0 : sm (fun s => if sl (hd z b) d s < 2 then 1 else 0) i = 0; (rw [if_pos q0] at hz; (repeat' split) <;> omega); (rw [if_neg q0] at hz; (repeat' split) <;> omega)) (by omega) (by omega)
            · skip
              refine g_iconst (v := nI 1) hc (by decide) dX5_isBalanced_49 (n := 50) rfl ?_
              refine g_goto (n := 54) hc dX5_isBalanced_50 (by decide) ?_
              refine n_iadd (v := t + 1) hc rfl dX5_isBalanced_54 (n := 55) rfl ?_
              refine g_istore_n (lv2 := [(0, .ref (m 0)), (1, .int (nI b)), (2, .int (nI d)), (3, .int (nI (t + 1))), (4, .int (nI 0)), (5, .int (nI i)), (6, .int (nI (sl (hd z b) d i)))]) hc rfl (by decide) [1, 2, 3, 0, 4, 5, 6] rfl rfl dX5_isBalanced_55 (n := 56) rfl ?_
              refine n_iinc (v := i + 1) (zk := 1) (lv2 := [(0, .ref (m 0)), (1, .int (nI b)), (2, .int (nI d)), (3, .int (nI (t + 1))), (4, .int (nI 0)), (5, .int (nI (i + 1))), (6, .int (nI (sl (hd z b) d i)))]) hc 5 rfl (by decide) rfl (by decide) [1, 2, 3, 4, 5, 0, 6] rfl rfl dX5_isBalanced_56 (n := 59) rfl ?_
              refine g_goto (n := 8) hc dX5_isBalanced_59 (by decide) ?_
              refine g_lsub (lv' := [(0, .ref (m 0)), (1, .int (nI b)), (2, .int (nI d)), (3, .int (nI (t + 1))), (4, .int (nI 0)), (5, .int (nI (i + 1)))]) [0, 1, 2, 3, 4, 5] rfl ?_
              exact ih_2 (i + 1) (t + 1) 0 (by omega) (by rw [sm_s, ← hs]; first | (split <;> omega) | omega) (by omega) (by rw [sm_s]; by_cases q0 : sm (fun s => if sl (hd z b) d s < 2 then 1 else 0) i = 0; (rw [if_pos q0] at hz; (repeat' split) <;> omega); (rw [if_neg q0] at hz; (repeat' split) <;> omega)) (by omega) (by omega)
          · skip
            refine g_iconst (v := nI 1) hc (by decide) dX5_isBalanced_35 (n := 36) rfl ?_
            refine g_goto (n := 40) hc dX5_isBalanced_36 (by decide) ?_
            refine g_istore (lv2 := [(0, .ref (m 0)), (1, .int (nI b)), (2, .int (nI d)), (3, .int (nI t)), (4, .int (nI 1)), (5, .int (nI i)), (6, .int (nI (sl (hd z b) d i)))]) hc (by decide) [1, 2, 3, 4, 0, 5, 6] rfl rfl dX5_isBalanced_40 (n := 42) rfl ?_
            refine g_iload_n hc 3 rfl rfl dX5_isBalanced_42 (n := 43) rfl ?_
            refine g_iload hc 6 rfl dX5_isBalanced_43 (n := 45) rfl ?_
            refine g_iconst (v := nI 2) hc (by decide) dX5_isBalanced_45 (n := 46) rfl ?_
            refine n_icmp_ne hc (by omega) (by omega) dX5_isBalanced_46 (tgt := 53) (by decide) (n := 49) rfl (fun c_11 => ?_) (fun c_11 => ?_)
            · skip
              refine g_iconst (v := nI 0) hc (by decide) dX5_isBalanced_53 (n := 54) rfl ?_
              refine n_iadd (v := t + 0) hc rfl dX5_isBalanced_54 (n := 55) rfl ?_
              refine g_istore_n (lv2 := [(0, .ref (m 0)), (1, .int (nI b)), (2, .int (nI d)), (3, .int (nI (t + 0))), (4, .int (nI 1)), (5, .int (nI i)), (6, .int (nI (sl (hd z b) d i)))]) hc rfl (by decide) [1, 2, 3, 0, 4, 5, 6] rfl rfl dX5_isBalanced_55 (n := 56) rfl ?_
              refine n_iinc (v := i + 1) (zk := 1) (lv2 := [(0, .ref (m 0)), (1, .int (nI b)), (2, .int (nI d)), (3, .int (nI (t + 0))), (4, .int (nI 1)), (5, .int (nI (i + 1))), (6, .int (nI (sl (hd z b) d i)))]) hc 5 rfl (by decide) rfl (by decide) [1, 2, 3, 4, 5, 0, 6] rfl rfl dX5_isBalanced_56 (n := 59) rfl ?_
              refine g_goto (n := 8) hc dX5_isBalanced_59 (by decide) ?_
              refine g_lsub (lv' := [(0, .ref (m 0)), (1, .int (nI b)), (2, .int (nI d)), (3, .int (nI (t + 0))), (4, .int (nI 1)), (5, .int (nI (i + 1)))]) [0, 1, 2, 3, 4, 5] rfl ?_
              exact ih_2 (i + 1) (t + 0) 1 (by omega) (by rw [sm_s, ← hs]; first | (split <;> omega) | omega) (by omega) (by rw [sm_s]; by_cases q0 : sm (fun s => if sl (hd z b) d s < 2 then 1 else 0) i = 0; (rw [if_pos q0] at hz; (repeat' split) <;> omega); (rw [if_neg q0] at hz; (repeat' split) <;> omega)) (by omega) (by omega)
            · skip
              refine g_iconst (v := nI 1) hc (by decide) dX5_isBalanced_49 (n := 50) rfl ?_
              refine g_goto (n := 54) hc dX5_isBalanced_50 (by decide) ?_
              refine n_iadd (v := t + 1) hc rfl dX5_isBalanced_54 (n := 55) rfl ?_
              refine g_istore_n (lv2 := [(0, .ref (m 0)), (1, .int (nI b)), (2, .int (nI d)), (3, .int (nI (t + 1))), (4, .int (nI 1)), (5, .int (nI i)), (6, .int (nI (sl (hd z b) d i)))]) hc rfl (by decide) [1, 2, 3, 0, 4, 5, 6] rfl rfl dX5_isBalanced_55 (n := 56) rfl ?_
              refine n_iinc (v := i + 1) (zk := 1) (lv2 := [(0, .ref (m 0)), (1, .int (nI b)), (2, .int (nI d)), (3, .int (nI (t + 1))), (4, .int (nI 1)), (5, .int (nI (i + 1))), (6, .int (nI (sl (hd z b) d i)))]) hc 5 rfl (by decide) rfl (by decide) [1, 2, 3, 4, 5, 0, 6] rfl rfl dX5_isBalanced_56 (n := 59) rfl ?_
              refine g_goto (n := 8) hc dX5_isBalanced_59 (by decide) ?_
              refine g_lsub (lv' := [(0, .ref (m 0)), (1, .int (nI b)), (2, .int (nI d)), (3, .int (nI (t + 1))), (4, .int (nI 1)), (5, .int (nI (i + 1)))]) [0, 1, 2, 3, 4, 5] rfl ?_
              exact ih_2 (i + 1) (t + 1) 1 (by omega) (by rw [sm_s, ← hs]; first | (split <;> omega) | omega) (by omega) (by rw [sm_s]; by_cases q0 : sm (fun s => if sl (hd z b) d s < 2 then 1 else 0) i = 0; (rw [if_pos q0] at hz; (repeat' split) <;> omega); (rw [if_neg q0] at hz; (repeat' split) <;> omega)) (by omega) (by omega)
  exact L_1 _ 0 0 1 (by omega) (rfl) (by decide) (rfl) (by omega) (Nat.lt_succ_self _)
set_option maxHeartbeats 1000000 in
set_option maxRecDepth 100000 in
theorem c_X5_highestSpade (κ : Kp) (l : Launch) (m : Nat → Nat) (n : Nat) (ln : Nat) (z : Nat → Nat) (b : Nat) (d : Nat) (hb : b < 4) (hd4 : d < 4) (hhb : ∀ k, k < 52 → hd z b k < 4) : CT κ l yX5_highestSpade cX5_highestSpade 5 (some .int) 1 22 0 0 [.ref (m 0), .int (nI b), .int (nI d)] [(m 0, .inr (5, [.ref (m 1), .ref (m 2), .ref (m 3), .int (nI n), .ref (m 4), .ref (m 5), .ref (m 6), .int (nI ln), .ref (m 7), .ref (m 8)])), (m 1, aI κ 333 z)] (PI (fun rr ww => rr = (nI (hs (hd z b) d)) ∧ ww = [(m 0, .inr (5, [.ref (m 1), .ref (m 2), .ref (m 3), .int (nI n), .ref (m 4), .ref (m 5), .ref (m 6), .int (nI ln), .ref (m 7), .ref (m 8)])), (m 1, aI κ 333 z)])) := by
  refine CT.go (plainFor_of_name (by decide)) (Nat.le_of_ble_eq_true rfl) ?_
  intro Γ A Q hl hc hret
  subst hl
  have hc : Cx κ Γ A cX5_highestSpade 5 RX5 "highestSpade" (some .int) { frames := 1, cells := 0, slots := 0, locals := 22 } := hc
  refine g_lv (lv' := [(0, .ref (m 0)), (1, .int (nI b)), (2, .int (nI d))]) rfl ?_
  refine g_bipush (v := nI 4294967290) hc (by decide) dX5_highestSpade_0 (n := 2) rfl ?_
  refine g_istore_n (lv2 := [(0, .ref (m 0)), (1, .int (nI b)), (2, .int (nI d)), (3, .int (nI 4294967290))]) hc rfl (by decide) [1, 2, 3, 0] rfl rfl dX5_highestSpade_2 (n := 3) rfl ?_
  refine g_iconst (v := nI 0) hc (by decide) dX5_highestSpade_3 (n := 4) rfl ?_
  refine g_istore (lv2 := [(0, .ref (m 0)), (1, .int (nI b)), (2, .int (nI d)), (3, .int (nI 4294967290)), (4, .int (nI 0))]) hc (by decide) [1, 2, 3, 4, 0] rfl rfl dX5_highestSpade_4 (n := 6) rfl ?_
  have L_1 : ∀ (fuel : Nat) (i : Nat) (t : Nat), (i ≤ 13) → (t = lst (fun r => if hd z b (39 + r) = d then 1 else 0) i) → 13 - i < fuel → G κ Γ A 5 0 0 Q [(m 0, .inr (5, [.ref (m 1), .ref (m 2), .ref (m 3), .int (nI n), .ref (m 4), .ref (m 5), .ref (m 6), .int (nI ln), .ref (m 7), .ref (m 8)])), (m 1, aI κ 333 z)] 6 [(0, .ref (m 0)), (1, .int (nI b)), (2, .int (nI d)), (3, .int (nI t)), (4, .int (nI i))] [] := by
    intro fuel
    induction fuel with
    | zero => intro i t hi hs1 h; exact absurd h (Nat.not_lt_zero _)
    | succ fuel ih_2 =>
      intro i t hi hs1 hn_3
      refine g_iload hc 4 rfl dX5_highestSpade_6 (n := 8) rfl ?_
      refine g_bipush (v := nI 13) hc (by decide) dX5_highestSpade_8 (n := 10) rfl ?_
      refine n_icmp_ge hc (by omega) (by omega) dX5_highestSpade_10 (tgt := 40) (by decide) (n := 13) rfl (fun c_4 => ?_) (fun c_4 => ?_)
      · skip
        refine g_iload_n hc 3 rfl rfl dX5_highestSpade_40 (n := 41) rfl ?_
        refine hret.1 _ _ _ _ _ _ rfl (by decide) (by decide) dX5_highestSpade_41 ?_
        exact ⟨_, rfl, (by have e9 : i = 13 := (by omega); subst e9; rw [hs1]; rfl), rfl⟩
      · skip
        refine g_aload_n hc 0 rfl rfl dX5_highestSpade_13 (n := 14) rfl ?_
        refine g_iload_n hc 1 rfl rfl dX5_highestSpade_14 (n := 15) rfl ?_
        refine g_bipush (v := nI 39) hc (by decide) dX5_highestSpade_15 (n := 17) rfl ?_
        refine g_iload hc 4 rfl dX5_highestSpade_17 (n := 19) rfl ?_
        refine n_iadd (v := 39 + i) hc rfl dX5_highestSpade_19 (n := 20) rfl ?_
        refine g_callV (rest := []) (As := [.int (nI b), .int (nI (39 + i))]) (cells' := 0) (slots' := 0) hc (c_X5_holderOf κ _ m n ln z b (39 + i) (by omega) (by omega)) q_X5_holderOf k_ml_RX5_92 rfl rfl (jn_ix (wr := []) [0, 1] [] rfl rfl rfl rfl (by decide)) (qr := 0) rfl vw_5 ⟨⟨by decide, by decide⟩, by decide, by decide⟩ (Nat.le_of_ble_eq_true rfl) rfl rfl dX5_highestSpade_20 (n := 23) rfl (fun vv ww hp => ?_)
        obtain ⟨rr, rfl, rfl, rfl⟩ := hp
        refine ⟨_, rfl, ?_⟩
        refine g_ws (ws' := [(m 0, .inr (5, [.ref (m 1), .ref (m 2), .ref (m 3), .int (nI n), .ref (m 4), .ref (m 5), .ref (m 6), .int (nI ln), .ref (m 7), .ref (m 8)])), (m 1, aI κ 333 z)]) rfl ?_
        refine g_st (st' := [.int (nI (hd z b (39 + i)))]) rfl ?_
        have hq_5 := hhb (39 + i) (by omega)
        refine g_iload_n hc 2 rfl rfl dX5_highestSpade_23 (n := 24) rfl ?_
        refine n_icmp_ne hc (by omega) (by omega) dX5_highestSpade_24 (tgt := 32) (by decide) (n := 27) rfl (fun c_6 => ?_) (fun c_6 => ?_)
        · skip
          refine g_iload_n hc 3 rfl rfl dX5_highestSpade_32 (n := 33) rfl ?_
          refine g_istore_n (lv2 := [(0, .ref (m 0)), (1, .int (nI b)), (2, .int (nI d)), (3, .int (nI t)), (4, .int (nI i))]) hc rfl (by decide) [1, 2, 3, 0, 4] rfl rfl dX5_highestSpade_33 (n := 34) rfl ?_
          refine n_iinc (v := i + 1) (zk := 1) (lv2 := [(0, .ref (m 0)), (1, .int (nI b)), (2, .int (nI d)), (3, .int (nI t)), (4, .int (nI (i + 1)))]) hc 4 rfl (by decide) rfl (by decide) [1, 2, 3, 4, 0] rfl rfl dX5_highestSpade_34 (n := 37) rfl ?_
          refine g_goto (n := 6) hc dX5_highestSpade_37 (by decide) ?_
          exact ih_2 (i + 1) t (by omega) (by rw [lst_s]; first | rw [if_pos (if_pos (by assumption))] | (rw [if_neg (by rw [if_neg (by assumption)]; decide)]; exact hs1)) (by omega)
        · skip
          refine g_iload hc 4 rfl dX5_highestSpade_27 (n := 29) rfl ?_
          refine g_goto (n := 33) hc dX5_highestSpade_29 (by decide) ?_
          refine g_istore_n (lv2 := [(0, .ref (m 0)), (1, .int (nI b)), (2, .int (nI d)), (3, .int (nI i)), (4, .int (nI i))]) hc rfl (by decide) [1, 2, 3, 0, 4] rfl rfl dX5_highestSpade_33 (n := 34) rfl ?_
          refine n_iinc (v := i + 1) (zk := 1) (lv2 := [(0, .ref (m 0)), (1, .int (nI b)), (2, .int (nI d)), (3, .int (nI i)), (4, .int (nI (i + 1)))]) hc 4 rfl (by decide) rfl (by decide) [1, 2, 3, 4, 0] rfl rfl dX5_highestSpade_34 (n := 37) rfl ?_
          refine g_goto (n := 6) hc dX5_highestSpade_37 (by decide) ?_
          exact ih_2 (i + 1) i (by omega) (by rw [lst_s]; first | rw [if_pos (if_pos (by assumption))] | (rw [if_neg (by rw [if_neg (by assumption)]; decide)]; exact hs1)) (by omega)
  exact L_1 _ 0 4294967290 (by omega) (rfl) (Nat.lt_succ_self _)
set_option maxHeartbeats 1000000 in
set_option maxRecDepth 100000 in
theorem c_X5_bestHand1 (κ : Kp) (l : Launch) (m : Nat → Nat) (n : Nat) (ln : Nat) (z : Nat → Nat) (b : Nat) (hb : b < 4) (hhb : ∀ k, k < 52 → hd z b k < 4) (hha : z (312 + b) = 1) : CT κ l yX5_bestHand cX5_bestHand 4 (some .int) 2 47 0 0 [.ref (m 0), .int (nI b)] [(m 0, .inr (5, [.ref (m 1), .ref (m 2), .ref (m 3), .int (nI n), .ref (m 4), .ref (m 5), .ref (m 6), .int (nI ln), .ref (m 7), .ref (m 8)])), (m 1, aI κ 333 z)] (PI (fun rr ww => rr = (nI (bh (hd z b))) ∧ ww = [(m 0, .inr (5, [.ref (m 1), .ref (m 2), .ref (m 3), .int (nI n), .ref (m 4), .ref (m 5), .ref (m 6), .int (nI ln), .ref (m 7), .ref (m 8)])), (m 1, aI κ 333 z)])) := by
  refine CT.go (plainFor_of_name (by decide)) (Nat.le_of_ble_eq_true rfl) ?_
  intro Γ A Q hl hc hret
  subst hl
  have hc : Cx κ Γ A cX5_bestHand 4 RX5 "bestHand" (some .int) { frames := 2, cells := 0, slots := 0, locals := 47 } := hc
  refine g_lv (lv' := [(0, .ref (m 0)), (1, .int (nI b))]) rfl ?_
  refine g_iconst (v := nI 0) hc (by decide) dX5_bestHand_0 (n := 1) rfl ?_
  refine g_istore_n (lv2 := [(0, .ref (m 0)), (1, .int (nI b)), (2, .int (nI 0))]) hc rfl (by decide) [1, 2, 0] rfl rfl dX5_bestHand_1 (n := 2) rfl ?_
  refine g_iconst (v := nI 1) hc (by decide) dX5_bestHand_2 (n := 3) rfl ?_
  refine g_istore_n (lv2 := [(0, .ref (m 0)), (1, .int (nI b)), (2, .int (nI 0)), (3, .int (nI 1))]) hc rfl (by decide) [1, 2, 3, 0] rfl rfl dX5_bestHand_3 (n := 4) rfl ?_
  have L_1 : ∀ (fuel : Nat) (i : Nat) (t : Nat), (1 ≤ i) → (i ≤ 4) → (t = bst (pt (hd z b)) (i - 1)) → 4 - i < fuel → G κ Γ A 4 0 0 Q [(m 0, .inr (5, [.ref (m 1), .ref (m 2), .ref (m 3), .int (nI n), .ref (m 4), .ref (m 5), .ref (m 6), .int (nI ln), .ref (m 7), .ref (m 8)])), (m 1, aI κ 333 z)] 4 [(0, .ref (m 0)), (1, .int (nI b)), (2, .int (nI t)), (3, .int (nI i))] [] := by
    intro fuel
    induction fuel with
    | zero => intro i t h1 hi ht h; exact absurd h (Nat.not_lt_zero _)
    | succ fuel ih_2 =>
      intro i t h1 hi ht hn_3
      have hbs := bst_le (pt (hd z b)) (i - 1)
      refine g_iload_n hc 3 rfl rfl dX5_bestHand_4 (n := 5) rfl ?_
      refine g_iconst (v := nI 4) hc (by decide) dX5_bestHand_5 (n := 6) rfl ?_
      refine n_icmp_ge hc (by omega) (by omega) dX5_bestHand_6 (tgt := 36) (by decide) (n := 9) rfl (fun c_4 => ?_) (fun c_4 => ?_)
      · skip
        refine g_aload_n hc 0 rfl rfl dX5_bestHand_36 (n := 37) rfl ?_
        refine g_getf hc 0 rfl vw_5 inX5 0 (by decide) k_fl_RX5_7 rfl rfl dX5_bestHand_37 (n := 40) rfl ?_
        refine g_sipush (v := nI 312) hc (by decide) dX5_bestHand_40 (n := 43) rfl ?_
        refine g_iload_n hc 1 rfl rfl dX5_bestHand_43 (n := 44) rfl ?_
        refine n_iadd (v := 312 + b) hc rfl dX5_bestHand_44 (n := 45) rfl ?_
        refine n_iald (v := z (312 + b)) hc 1 rfl (by omega) (by decide) rfl dX5_bestHand_45 (n := 46) rfl ?_
        refine n_if_ne hc (by omega) dX5_bestHand_46 (tgt := 54) (by decide) (n := 49) rfl (fun c_5 => ?_) (fun c_5 => by (exfalso; revert c_5; first | omega | decide))
        refine g_iload_n hc 2 rfl rfl dX5_bestHand_54 (n := 55) rfl ?_
        refine hret.1 _ _ _ _ _ _ rfl (by decide) (by decide) dX5_bestHand_55 ?_
        exact ⟨_, rfl, (by have e9 : i = 4 := (by omega); subst e9; rw [ht]; rfl), rfl⟩
      · skip
        refine g_aload_n hc 0 rfl rfl dX5_bestHand_9 (n := 10) rfl ?_
        refine g_iload_n hc 1 rfl rfl dX5_bestHand_10 (n := 11) rfl ?_
        refine g_iload_n hc 3 rfl rfl dX5_bestHand_11 (n := 12) rfl ?_
        refine g_callV (rest := []) (As := [.int (nI b), .int (nI i)]) (cells' := 0) (slots' := 0) hc (c_X5_pointsOf κ _ m n ln z b i hb (by omega) hhb) q_X5_pointsOf k_ml_RX5_99 rfl rfl (jn_ix (wr := []) [0, 1] [] rfl rfl rfl rfl (by decide)) (qr := 0) rfl vw_5 ⟨⟨by decide, by decide⟩, by decide, by decide⟩ (Nat.le_of_ble_eq_true rfl) rfl rfl dX5_bestHand_12 (n := 15) rfl (fun vv ww hp => ?_)
        obtain ⟨rr, rfl, rfl, rfl⟩ := hp
        refine ⟨_, rfl, ?_⟩
        refine g_ws (ws' := [(m 0, .inr (5, [.ref (m 1), .ref (m 2), .ref (m 3), .int (nI n), .ref (m 4), .ref (m 5), .ref (m 6), .int (nI ln), .ref (m 7), .ref (m 8)])), (m 1, aI κ 333 z)]) rfl ?_
        refine g_st (st' := [.int (nI (pt (hd z b) i))]) rfl ?_
        have hpt_6 := pt_le (hd z b) i
        refine g_aload_n hc 0 rfl rfl dX5_bestHand_15 (n := 16) rfl ?_
        refine g_iload_n hc 1 rfl rfl dX5_bestHand_16 (n := 17) rfl ?_
        refine g_iload_n hc 2 rfl rfl dX5_bestHand_17 (n := 18) rfl ?_
        refine g_callV (rest := [.int (nI (pt (hd z b) i))]) (As := [.int (nI b), .int (nI t)]) (cells' := 0) (slots' := 0) hc (c_X5_pointsOf κ _ m n ln z b t hb (by omega) hhb) q_X5_pointsOf k_ml_RX5_99 rfl rfl (jn_ix (wr := []) [0, 1] [] rfl rfl rfl rfl (by decide)) (qr := 0) rfl vw_5 ⟨⟨by decide, by decide⟩, by decide, by decide⟩ (Nat.le_of_ble_eq_true rfl) rfl rfl dX5_bestHand_18 (n := 21) rfl (fun vv ww hp => ?_)
        obtain ⟨rr, rfl, rfl, rfl⟩ := hp
        refine ⟨_, rfl, ?_⟩
        refine g_ws (ws' := [(m 0, .inr (5, [.ref (m 1), .ref (m 2), .ref (m 3), .int (nI n), .ref (m 4), .ref (m 5), .ref (m 6), .int (nI ln), .ref (m 7), .ref (m 8)])), (m 1, aI κ 333 z)]) rfl ?_
        refine g_st (st' := [.int (nI (pt (hd z b) t)), .int (nI (pt (hd z b) i))]) rfl ?_
        have hpt_7 := pt_le (hd z b) t
        refine n_icmp_le hc (by omega) (by omega) dX5_bestHand_21 (tgt := 28) (by decide) (n := 24) rfl (fun c_8 => ?_) (fun c_8 => ?_)
        · skip
          refine g_iload_n hc 2 rfl rfl dX5_bestHand_28 (n := 29) rfl ?_
          refine g_istore_n (lv2 := [(0, .ref (m 0)), (1, .int (nI b)), (2, .int (nI t)), (3, .int (nI i))]) hc rfl (by decide) [1, 2, 0, 3] rfl rfl dX5_bestHand_29 (n := 30) rfl ?_
          refine n_iinc (v := i + 1) (zk := 1) (lv2 := [(0, .ref (m 0)), (1, .int (nI b)), (2, .int (nI t)), (3, .int (nI (i + 1)))]) hc 3 rfl (by decide) rfl (by decide) [1, 2, 3, 0] rfl rfl dX5_bestHand_30 (n := 33) rfl ?_
          refine g_goto (n := 4) hc dX5_bestHand_33 (by decide) ?_
          exact ih_2 (i + 1) t (by omega) (by omega) (by have e8 : i + 1 - 1 = (i - 1) + 1 := (by omega); have e9 : i - 1 + 1 = i := (by omega); rw [e8, bst, ← ht, e9]; first | exact (if_pos (by omega)).symm | exact (if_neg (by omega)).symm) (by omega)
        · skip
          refine g_iload_n hc 3 rfl rfl dX5_bestHand_24 (n := 25) rfl ?_
          refine g_goto (n := 29) hc dX5_bestHand_25 (by decide) ?_
          refine g_istore_n (lv2 := [(0, .ref (m 0)), (1, .int (nI b)), (2, .int (nI i)), (3, .int (nI i))]) hc rfl (by decide) [1, 2, 0, 3] rfl rfl dX5_bestHand_29 (n := 30) rfl ?_
          refine n_iinc (v := i + 1) (zk := 1) (lv2 := [(0, .ref (m 0)), (1, .int (nI b)), (2, .int (nI i)), (3, .int (nI (i + 1)))]) hc 3 rfl (by decide) rfl (by decide) [1, 2, 3, 0] rfl rfl dX5_bestHand_30 (n := 33) rfl ?_
          refine g_goto (n := 4) hc dX5_bestHand_33 (by decide) ?_
          exact ih_2 (i + 1) i (by omega) (by omega) (by have e8 : i + 1 - 1 = (i - 1) + 1 := (by omega); have e9 : i - 1 + 1 = i := (by omega); rw [e8, bst, ← ht, e9]; first | exact (if_pos (by omega)).symm | exact (if_neg (by omega)).symm) (by omega)
  exact L_1 _ 1 0 (by omega) (by omega) (rfl) (Nat.lt_succ_self _)
set_option maxHeartbeats 1000000 in
set_option maxRecDepth 100000 in
theorem c_X5_bestHand0 (κ : Kp) (l : Launch) (m : Nat → Nat) (n : Nat) (ln : Nat) (z : Nat → Nat) (b : Nat) (hb : b < 4) (hhb : ∀ k, k < 52 → hd z b k < 4) (hha : z (312 + b) = 0) : CT κ l yX5_bestHand cX5_bestHand 4 (some .int) 2 47 0 0 [.ref (m 0), .int (nI b)] [(m 0, .inr (5, [.ref (m 1), .ref (m 2), .ref (m 3), .int (nI n), .ref (m 4), .ref (m 5), .ref (m 6), .int (nI ln), .ref (m 7), .ref (m 8)])), (m 1, aI κ 333 z)] (PI (fun rr ww => rr = (nI 4294967290) ∧ ww = [(m 0, .inr (5, [.ref (m 1), .ref (m 2), .ref (m 3), .int (nI n), .ref (m 4), .ref (m 5), .ref (m 6), .int (nI ln), .ref (m 7), .ref (m 8)])), (m 1, aI κ 333 z)])) := by
  refine CT.go (plainFor_of_name (by decide)) (Nat.le_of_ble_eq_true rfl) ?_
  intro Γ A Q hl hc hret
  subst hl
  have hc : Cx κ Γ A cX5_bestHand 4 RX5 "bestHand" (some .int) { frames := 2, cells := 0, slots := 0, locals := 47 } := hc
  refine g_lv (lv' := [(0, .ref (m 0)), (1, .int (nI b))]) rfl ?_
  refine g_iconst (v := nI 0) hc (by decide) dX5_bestHand_0 (n := 1) rfl ?_
  refine g_istore_n (lv2 := [(0, .ref (m 0)), (1, .int (nI b)), (2, .int (nI 0))]) hc rfl (by decide) [1, 2, 0] rfl rfl dX5_bestHand_1 (n := 2) rfl ?_
  refine g_iconst (v := nI 1) hc (by decide) dX5_bestHand_2 (n := 3) rfl ?_
  refine g_istore_n (lv2 := [(0, .ref (m 0)), (1, .int (nI b)), (2, .int (nI 0)), (3, .int (nI 1))]) hc rfl (by decide) [1, 2, 3, 0] rfl rfl dX5_bestHand_3 (n := 4) rfl ?_
  have L_1 : ∀ (fuel : Nat) (i : Nat) (t : Nat), (1 ≤ i) → (i ≤ 4) → (t = bst (pt (hd z b)) (i - 1)) → 4 - i < fuel → G κ Γ A 4 0 0 Q [(m 0, .inr (5, [.ref (m 1), .ref (m 2), .ref (m 3), .int (nI n), .ref (m 4), .ref (m 5), .ref (m 6), .int (nI ln), .ref (m 7), .ref (m 8)])), (m 1, aI κ 333 z)] 4 [(0, .ref (m 0)), (1, .int (nI b)), (2, .int (nI t)), (3, .int (nI i))] [] := by
    intro fuel
    induction fuel with
    | zero => intro i t h1 hi ht h; exact absurd h (Nat.not_lt_zero _)
    | succ fuel ih_2 =>
      intro i t h1 hi ht hn_3
      have hbs := bst_le (pt (hd z b)) (i - 1)
      refine g_iload_n hc 3 rfl rfl dX5_bestHand_4 (n := 5) rfl ?_
      refine g_iconst (v := nI 4) hc (by decide) dX5_bestHand_5 (n := 6) rfl ?_
      refine n_icmp_ge hc (by omega) (by omega) dX5_bestHand_6 (tgt := 36) (by decide) (n := 9) rfl (fun c_4 => ?_) (fun c_4 => ?_)
      · skip
        refine g_aload_n hc 0 rfl rfl dX5_bestHand_36 (n := 37) rfl ?_
        refine g_getf hc 0 rfl vw_5 inX5 0 (by decide) k_fl_RX5_7 rfl rfl dX5_bestHand_37 (n := 40) rfl ?_
        refine g_sipush (v := nI 312) hc (by decide) dX5_bestHand_40 (n := 43) rfl ?_
        refine g_iload_n hc 1 rfl rfl dX5_bestHand_43 (n := 44) rfl ?_
        refine n_iadd (v := 312 + b) hc rfl dX5_bestHand_44 (n := 45) rfl ?_
        refine n_iald (v := z (312 + b)) hc 1 rfl (by omega) (by decide) rfl dX5_bestHand_45 (n := 46) rfl ?_
        refine n_if_ne hc (by omega) dX5_bestHand_46 (tgt := 54) (by decide) (n := 49) rfl (fun c_5 => by (exfalso; revert c_5; first | omega | decide)) (fun c_5 => ?_)
        refine g_bipush (v := nI 4294967290) hc (by decide) dX5_bestHand_49 (n := 51) rfl ?_
        refine g_goto (n := 55) hc dX5_bestHand_51 (by decide) ?_
        refine hret.1 _ _ _ _ _ _ rfl (by decide) (by decide) dX5_bestHand_55 ?_
        exact ⟨_, rfl, rfl, rfl⟩
      · skip
        refine g_aload_n hc 0 rfl rfl dX5_bestHand_9 (n := 10) rfl ?_
        refine g_iload_n hc 1 rfl rfl dX5_bestHand_10 (n := 11) rfl ?_
        refine g_iload_n hc 3 rfl rfl dX5_bestHand_11 (n := 12) rfl ?_
        refine g_callV (rest := []) (As := [.int (nI b), .int (nI i)]) (cells' := 0) (slots' := 0) hc (c_X5_pointsOf κ _ m n ln z b i hb (by omega) hhb) q_X5_pointsOf k_ml_RX5_99 rfl rfl (jn_ix (wr := []) [0, 1] [] rfl rfl rfl rfl (by decide)) (qr := 0) rfl vw_5 ⟨⟨by decide, by decide⟩, by decide, by decide⟩ (Nat.le_of_ble_eq_true rfl) rfl rfl dX5_bestHand_12 (n := 15) rfl (fun vv ww hp => ?_)
        obtain ⟨rr, rfl, rfl, rfl⟩ := hp
        refine ⟨_, rfl, ?_⟩
        refine g_ws (ws' := [(m 0, .inr (5, [.ref (m 1), .ref (m 2), .ref (m 3), .int (nI n), .ref (m 4), .ref (m 5), .ref (m 6), .int (nI ln), .ref (m 7), .ref (m 8)])), (m 1, aI κ 333 z)]) rfl ?_
        refine g_st (st' := [.int (nI (pt (hd z b) i))]) rfl ?_
        have hpt_6 := pt_le (hd z b) i
        refine g_aload_n hc 0 rfl rfl dX5_bestHand_15 (n := 16) rfl ?_
        refine g_iload_n hc 1 rfl rfl dX5_bestHand_16 (n := 17) rfl ?_
        refine g_iload_n hc 2 rfl rfl dX5_bestHand_17 (n := 18) rfl ?_
        refine g_callV (rest := [.int (nI (pt (hd z b) i))]) (As := [.int (nI b), .int (nI t)]) (cells' := 0) (slots' := 0) hc (c_X5_pointsOf κ _ m n ln z b t hb (by omega) hhb) q_X5_pointsOf k_ml_RX5_99 rfl rfl (jn_ix (wr := []) [0, 1] [] rfl rfl rfl rfl (by decide)) (qr := 0) rfl vw_5 ⟨⟨by decide, by decide⟩, by decide, by decide⟩ (Nat.le_of_ble_eq_true rfl) rfl rfl dX5_bestHand_18 (n := 21) rfl (fun vv ww hp => ?_)
        obtain ⟨rr, rfl, rfl, rfl⟩ := hp
        refine ⟨_, rfl, ?_⟩
        refine g_ws (ws' := [(m 0, .inr (5, [.ref (m 1), .ref (m 2), .ref (m 3), .int (nI n), .ref (m 4), .ref (m 5), .ref (m 6), .int (nI ln), .ref (m 7), .ref (m 8)])), (m 1, aI κ 333 z)]) rfl ?_
        refine g_st (st' := [.int (nI (pt (hd z b) t)), .int (nI (pt (hd z b) i))]) rfl ?_
        have hpt_7 := pt_le (hd z b) t
        refine n_icmp_le hc (by omega) (by omega) dX5_bestHand_21 (tgt := 28) (by decide) (n := 24) rfl (fun c_8 => ?_) (fun c_8 => ?_)
        · skip
          refine g_iload_n hc 2 rfl rfl dX5_bestHand_28 (n := 29) rfl ?_
          refine g_istore_n (lv2 := [(0, .ref (m 0)), (1, .int (nI b)), (2, .int (nI t)), (3, .int (nI i))]) hc rfl (by decide) [1, 2, 0, 3] rfl rfl dX5_bestHand_29 (n := 30) rfl ?_
          refine n_iinc (v := i + 1) (zk := 1) (lv2 := [(0, .ref (m 0)), (1, .int (nI b)), (2, .int (nI t)), (3, .int (nI (i + 1)))]) hc 3 rfl (by decide) rfl (by decide) [1, 2, 3, 0] rfl rfl dX5_bestHand_30 (n := 33) rfl ?_
          refine g_goto (n := 4) hc dX5_bestHand_33 (by decide) ?_
          exact ih_2 (i + 1) t (by omega) (by omega) (by have e8 : i + 1 - 1 = (i - 1) + 1 := (by omega); have e9 : i - 1 + 1 = i := (by omega); rw [e8, bst, ← ht, e9]; first | exact (if_pos (by omega)).symm | exact (if_neg (by omega)).symm) (by omega)
        · skip
          refine g_iload_n hc 3 rfl rfl dX5_bestHand_24 (n := 25) rfl ?_
          refine g_goto (n := 29) hc dX5_bestHand_25 (by decide) ?_
          refine g_istore_n (lv2 := [(0, .ref (m 0)), (1, .int (nI b)), (2, .int (nI i)), (3, .int (nI i))]) hc rfl (by decide) [1, 2, 0, 3] rfl rfl dX5_bestHand_29 (n := 30) rfl ?_
          refine n_iinc (v := i + 1) (zk := 1) (lv2 := [(0, .ref (m 0)), (1, .int (nI b)), (2, .int (nI i)), (3, .int (nI (i + 1)))]) hc 3 rfl (by decide) rfl (by decide) [1, 2, 3, 0] rfl rfl dX5_bestHand_30 (n := 33) rfl ?_
          refine g_goto (n := 4) hc dX5_bestHand_33 (by decide) ?_
          exact ih_2 (i + 1) i (by omega) (by omega) (by have e8 : i + 1 - 1 = (i - 1) + 1 := (by omega); have e9 : i - 1 + 1 = i := (by omega); rw [e8, bst, ← ht, e9]; first | exact (if_pos (by omega)).symm | exact (if_neg (by omega)).symm) (by omega)
  exact L_1 _ 1 0 (by omega) (by omega) (rfl) (Nat.lt_succ_self _)
set_option maxHeartbeats 1000000 in
set_option maxRecDepth 100000 in
theorem c_X5_balancedHands1 (κ : Kp) (l : Launch) (m : Nat → Nat) (n : Nat) (ln : Nat) (z : Nat → Nat) (b : Nat) (hb : b < 4) (hhb : ∀ k, k < 52 → hd z b k < 4) (hha : z (312 + b) = 1) : CT κ l yX5_balancedHands cX5_balancedHands 4 (some .int) 3 73 0 0 [.ref (m 0), .int (nI b)] [(m 0, .inr (5, [.ref (m 1), .ref (m 2), .ref (m 3), .int (nI n), .ref (m 4), .ref (m 5), .ref (m 6), .int (nI ln), .ref (m 7), .ref (m 8)])), (m 1, aI κ 333 z)] (PI (fun rr ww => rr = (nI (bm (hd z b))) ∧ ww = [(m 0, .inr (5, [.ref (m 1), .ref (m 2), .ref (m 3), .int (nI n), .ref (m 4), .ref (m 5), .ref (m 6), .int (nI ln), .ref (m 7), .ref (m 8)])), (m 1, aI κ 333 z)])) := by
  refine CT.go (plainFor_of_name (by decide)) (Nat.le_of_ble_eq_true rfl) ?_
  intro Γ A Q hl hc hret
  subst hl
  have hc : Cx κ Γ A cX5_balancedHands 4 RX5 "balancedHands" (some .int) { frames := 3, cells := 0, slots := 0, locals := 73 } := hc
  refine g_lv (lv' := [(0, .ref (m 0)), (1, .int (nI b))]) rfl ?_
  refine g_iconst (v := nI 0) hc (by decide) dX5_balancedHands_0 (n := 1) rfl ?_
  refine g_istore_n (lv2 := [(0, .ref (m 0)), (1, .int (nI b)), (2, .int (nI 0))]) hc rfl (by decide) [1, 2, 0] rfl rfl dX5_balancedHands_1 (n := 2) rfl ?_
  refine g_iconst (v := nI 0) hc (by decide) dX5_balancedHands_2 (n := 3) rfl ?_
  refine g_istore_n (lv2 := [(0, .ref (m 0)), (1, .int (nI b)), (2, .int (nI 0)), (3, .int (nI 0))]) hc rfl (by decide) [1, 2, 3, 0] rfl rfl dX5_balancedHands_3 (n := 4) rfl ?_
  have L_1 : ∀ (fuel : Nat) (i : Nat) (t : Nat), (i ≤ 4) → (t = sm (fun d => if bl (hd z b) d = 1 then 2 ^ d else 0) i) → (t < 2 ^ i) → 4 - i < fuel → G κ Γ A 4 0 0 Q [(m 0, .inr (5, [.ref (m 1), .ref (m 2), .ref (m 3), .int (nI n), .ref (m 4), .ref (m 5), .ref (m 6), .int (nI ln), .ref (m 7), .ref (m 8)])), (m 1, aI κ 333 z)] 4 [(0, .ref (m 0)), (1, .int (nI b)), (2, .int (nI t)), (3, .int (nI i))] [] := by
    intro fuel
    induction fuel with
    | zero => intro i t hi hs ht h; exact absurd h (Nat.not_lt_zero _)
    | succ fuel ih_2 =>
      intro i t hi hs ht hn_3
      refine g_iload_n hc 3 rfl rfl dX5_balancedHands_4 (n := 5) rfl ?_
      refine g_iconst (v := nI 4) hc (by decide) dX5_balancedHands_5 (n := 6) rfl ?_
      refine n_icmp_ge hc (by omega) (by omega) dX5_balancedHands_6 (tgt := 48) (by decide) (n := 9) rfl (fun c_4 => ?_) (fun c_4 => ?_)
      · skip
        refine g_iload_n hc 2 rfl rfl dX5_balancedHands_48 (n := 49) rfl ?_
        refine hret.1 _ _ _ _ _ _ rfl (by decide) (by decide) dX5_balancedHands_49 ?_
        exact ⟨_, rfl, (by have e9 : i = 4 := (by omega); subst e9; rw [hs]; rfl), rfl⟩
      · skip
        refine g_iload_n hc 2 rfl rfl dX5_balancedHands_9 (n := 10) rfl ?_
        refine g_aload_n hc 0 rfl rfl dX5_balancedHands_10 (n := 11) rfl ?_
        refine g_getf hc 0 rfl vw_5 inX5 0 (by decide) k_fl_RX5_7 rfl rfl dX5_balancedHands_11 (n := 14) rfl ?_
        refine g_sipush (v := nI 312) hc (by decide) dX5_balancedHands_14 (n := 17) rfl ?_
        refine g_iload_n hc 1 rfl rfl dX5_balancedHands_17 (n := 18) rfl ?_
        refine n_iadd (v := 312 + b) hc rfl dX5_balancedHands_18 (n := 19) rfl ?_
        refine n_iald (v := z (312 + b)) hc 1 rfl (by omega) (by decide) rfl dX5_balancedHands_19 (n := 20) rfl ?_
        refine g_iconst (v := nI 1) hc (by decide) dX5_balancedHands_20 (n := 21) rfl ?_
        refine n_icmp_ne hc (by omega) (by omega) dX5_balancedHands_21 (tgt := 39) (by decide) (n := 24) rfl (fun c_5 => by (exfalso; revert c_5; first | omega | decide)) (fun c_5 => ?_)
        refine g_aload_n hc 0 rfl rfl dX5_balancedHands_24 (n := 25) rfl ?_
        refine g_iload_n hc 1 rfl rfl dX5_balancedHands_25 (n := 26) rfl ?_
        refine g_iload_n hc 3 rfl rfl dX5_balancedHands_26 (n := 27) rfl ?_
        refine g_callV (rest := [.int (nI t)]) (As := [.int (nI b), .int (nI i)]) (cells' := 0) (slots' := 0) hc (c_X5_isBalanced κ _ m n ln z b i hb (by omega) hhb) q_X5_isBalanced k_ml_RX5_106 rfl rfl (jn_ix (wr := []) [0, 1] [] rfl rfl rfl rfl (by decide)) (qr := 0) rfl vw_5 ⟨⟨by decide, by decide⟩, by decide, by decide⟩ (Nat.le_of_ble_eq_true rfl) rfl rfl dX5_balancedHands_27 (n := 30) rfl (fun vv ww hp => ?_)
        obtain ⟨rr, rfl, rfl, rfl⟩ := hp
        refine ⟨_, rfl, ?_⟩
        refine g_ws (ws' := [(m 0, .inr (5, [.ref (m 1), .ref (m 2), .ref (m 3), .int (nI n), .ref (m 4), .ref (m 5), .ref (m 6), .int (nI ln), .ref (m 7), .ref (m 8)])), (m 1, aI κ 333 z)]) rfl ?_
        refine g_st (st' := [.int (nI (bl (hd z b) i)), .int (nI t)]) rfl ?_
        have hbl := bl_le (hd z b) i
        refine n_if_eq hc (by omega) dX5_balancedHands_30 (tgt := 39) (by decide) (n := 33) rfl (fun c_6 => ?_) (fun c_6 => ?_)
        · skip
          refine g_iconst (v := nI 0) hc (by decide) dX5_balancedHands_39 (n := 40) rfl ?_
          refine g_ior (v := (nI t)) hc (or_0 t) dX5_balancedHands_40 (n := 41) rfl ?_
          refine g_istore_n (lv2 := [(0, .ref (m 0)), (1, .int (nI b)), (2, .int (nI t)), (3, .int (nI i))]) hc rfl (by decide) [1, 2, 0, 3] rfl rfl dX5_balancedHands_41 (n := 42) rfl ?_
          refine n_iinc (v := i + 1) (zk := 1) (lv2 := [(0, .ref (m 0)), (1, .int (nI b)), (2, .int (nI t)), (3, .int (nI (i + 1)))]) hc 3 rfl (by decide) rfl (by decide) [1, 2, 3, 0] rfl rfl dX5_balancedHands_42 (n := 45) rfl ?_
          refine g_goto (n := 4) hc dX5_balancedHands_45 (by decide) ?_
          exact ih_2 (i + 1) t (by omega) (by rw [sm_s, ← hs]; split <;> omega) (by rw [Nat.pow_succ]; omega) (by omega)
        · skip
          refine g_iconst (v := nI 1) hc (by decide) dX5_balancedHands_33 (n := 34) rfl ?_
          refine g_iload_n hc 3 rfl rfl dX5_balancedHands_34 (n := 35) rfl ?_
          refine g_ishl (v := (nI (2 ^ i))) hc (shl_1 i (by omega)) dX5_balancedHands_35 (n := 36) rfl ?_
          refine g_goto (n := 40) hc dX5_balancedHands_36 (by decide) ?_
          refine g_ior (v := (nI (t + 2 ^ i))) hc (or_sum ht) dX5_balancedHands_40 (n := 41) rfl ?_
          refine g_istore_n (lv2 := [(0, .ref (m 0)), (1, .int (nI b)), (2, .int (nI (t + 2 ^ i))), (3, .int (nI i))]) hc rfl (by decide) [1, 2, 0, 3] rfl rfl dX5_balancedHands_41 (n := 42) rfl ?_
          refine n_iinc (v := i + 1) (zk := 1) (lv2 := [(0, .ref (m 0)), (1, .int (nI b)), (2, .int (nI (t + 2 ^ i))), (3, .int (nI (i + 1)))]) hc 3 rfl (by decide) rfl (by decide) [1, 2, 3, 0] rfl rfl dX5_balancedHands_42 (n := 45) rfl ?_
          refine g_goto (n := 4) hc dX5_balancedHands_45 (by decide) ?_
          exact ih_2 (i + 1) (t + 2 ^ i) (by omega) (by rw [sm_s, ← hs]; split <;> omega) (by rw [Nat.pow_succ]; omega) (by omega)
  exact L_1 _ 0 0 (by omega) (rfl) (by decide) (Nat.lt_succ_self _)
set_option maxHeartbeats 1000000 in
set_option maxRecDepth 100000 in
theorem c_X5_balancedHands0 (κ : Kp) (l : Launch) (m : Nat → Nat) (n : Nat) (ln : Nat) (z : Nat → Nat) (b : Nat) (hb : b < 4) (hhb : ∀ k, k < 52 → hd z b k < 4) (hha : z (312 + b) = 0) : CT κ l yX5_balancedHands cX5_balancedHands 4 (some .int) 0 0 0 0 [.ref (m 0), .int (nI b)] [(m 0, .inr (5, [.ref (m 1), .ref (m 2), .ref (m 3), .int (nI n), .ref (m 4), .ref (m 5), .ref (m 6), .int (nI ln), .ref (m 7), .ref (m 8)])), (m 1, aI κ 333 z)] (PI (fun rr ww => rr = (nI 0) ∧ ww = [(m 0, .inr (5, [.ref (m 1), .ref (m 2), .ref (m 3), .int (nI n), .ref (m 4), .ref (m 5), .ref (m 6), .int (nI ln), .ref (m 7), .ref (m 8)])), (m 1, aI κ 333 z)])) := by
  refine CT.go (plainFor_of_name (by decide)) (Nat.le_of_ble_eq_true rfl) ?_
  intro Γ A Q hl hc hret
  subst hl
  have hc : Cx κ Γ A cX5_balancedHands 4 RX5 "balancedHands" (some .int) { frames := 0, cells := 0, slots := 0, locals := 0 } := hc
  refine g_lv (lv' := [(0, .ref (m 0)), (1, .int (nI b))]) rfl ?_
  refine g_iconst (v := nI 0) hc (by decide) dX5_balancedHands_0 (n := 1) rfl ?_
  refine g_istore_n (lv2 := [(0, .ref (m 0)), (1, .int (nI b)), (2, .int (nI 0))]) hc rfl (by decide) [1, 2, 0] rfl rfl dX5_balancedHands_1 (n := 2) rfl ?_
  refine g_iconst (v := nI 0) hc (by decide) dX5_balancedHands_2 (n := 3) rfl ?_
  refine g_istore_n (lv2 := [(0, .ref (m 0)), (1, .int (nI b)), (2, .int (nI 0)), (3, .int (nI 0))]) hc rfl (by decide) [1, 2, 3, 0] rfl rfl dX5_balancedHands_3 (n := 4) rfl ?_
  have L_1 : ∀ (fuel : Nat) (i : Nat) (t : Nat), (i ≤ 4) → (t = 0) → 4 - i < fuel → G κ Γ A 4 0 0 Q [(m 0, .inr (5, [.ref (m 1), .ref (m 2), .ref (m 3), .int (nI n), .ref (m 4), .ref (m 5), .ref (m 6), .int (nI ln), .ref (m 7), .ref (m 8)])), (m 1, aI κ 333 z)] 4 [(0, .ref (m 0)), (1, .int (nI b)), (2, .int (nI t)), (3, .int (nI i))] [] := by
    intro fuel
    induction fuel with
    | zero => intro i t hi ht h; exact absurd h (Nat.not_lt_zero _)
    | succ fuel ih_2 =>
      intro i t hi ht hn_3
      refine g_iload_n hc 3 rfl rfl dX5_balancedHands_4 (n := 5) rfl ?_
      refine g_iconst (v := nI 4) hc (by decide) dX5_balancedHands_5 (n := 6) rfl ?_
      refine n_icmp_ge hc (by omega) (by omega) dX5_balancedHands_6 (tgt := 48) (by decide) (n := 9) rfl (fun c_4 => ?_) (fun c_4 => ?_)
      · skip
        refine g_iload_n hc 2 rfl rfl dX5_balancedHands_48 (n := 49) rfl ?_
        refine hret.1 _ _ _ _ _ _ rfl (by decide) (by decide) dX5_balancedHands_49 ?_
        exact ⟨_, rfl, (by rw [ht]), rfl⟩
      · skip
        refine g_iload_n hc 2 rfl rfl dX5_balancedHands_9 (n := 10) rfl ?_
        refine g_aload_n hc 0 rfl rfl dX5_balancedHands_10 (n := 11) rfl ?_
        refine g_getf hc 0 rfl vw_5 inX5 0 (by decide) k_fl_RX5_7 rfl rfl dX5_balancedHands_11 (n := 14) rfl ?_
        refine g_sipush (v := nI 312) hc (by decide) dX5_balancedHands_14 (n := 17) rfl ?_
        refine g_iload_n hc 1 rfl rfl dX5_balancedHands_17 (n := 18) rfl ?_
        refine n_iadd (v := 312 + b) hc rfl dX5_balancedHands_18 (n := 19) rfl ?_
        refine n_iald (v := z (312 + b)) hc 1 rfl (by omega) (by decide) rfl dX5_balancedHands_19 (n := 20) rfl ?_
        refine g_iconst (v := nI 1) hc (by decide) dX5_balancedHands_20 (n := 21) rfl ?_
        refine n_icmp_ne hc (by omega) (by omega) dX5_balancedHands_21 (tgt := 39) (by decide) (n := 24) rfl (fun c_5 => ?_) (fun c_5 => by (exfalso; revert c_5; first | omega | decide))
        refine g_iconst (v := nI 0) hc (by decide) dX5_balancedHands_39 (n := 40) rfl ?_
        refine g_ior (v := (nI t)) hc (or_0 t) dX5_balancedHands_40 (n := 41) rfl ?_
        refine g_istore_n (lv2 := [(0, .ref (m 0)), (1, .int (nI b)), (2, .int (nI t)), (3, .int (nI i))]) hc rfl (by decide) [1, 2, 0, 3] rfl rfl dX5_balancedHands_41 (n := 42) rfl ?_
        refine n_iinc (v := i + 1) (zk := 1) (lv2 := [(0, .ref (m 0)), (1, .int (nI b)), (2, .int (nI t)), (3, .int (nI (i + 1)))]) hc 3 rfl (by decide) rfl (by decide) [1, 2, 3, 0] rfl rfl dX5_balancedHands_42 (n := 45) rfl ?_
        refine g_goto (n := 4) hc dX5_balancedHands_45 (by decide) ?_
        exact ih_2 (i + 1) t (by omega) (by omega) (by omega)
  exact L_1 _ 0 0 (by omega) (rfl) (Nat.lt_succ_self _)
