set_option maxHeartbeats 1000000 in
set_option maxRecDepth 100000 in
theorem c_X5_suitOf (κ : Kp) (l : Launch) (c : Nat) (hc1 : c < 128) : CT κ l yX5_suitOf cX5_suitOf 1 (some .int) 0 0 0 0 [.int (nI c)] [] (PI (fun rr ww => rr = (nI (su c)) ∧ ww = [])) := by
  refine CT.go (plainFor_of_name (by decide)) (Nat.le_of_ble_eq_true rfl) ?_
  intro Γ A Q hl hc hret
  subst hl
  have hc : Cx κ Γ A cX5_suitOf 1 RX5 "suitOf" (some .int) { frames := 0, cells := 0, slots := 0, locals := 0 } := hc
  refine g_lv (lv' := [(0, .int (nI c))]) rfl ?_
  refine g_iload_n hc 0 rfl rfl dX5_suitOf_0 (n := 1) rfl ?_
  refine g_bipush (v := nI 99) hc (by decide) dX5_suitOf_1 (n := 3) rfl ?_
  refine n_icmp_ne hc (by omega) (by omega) dX5_suitOf_3 (tgt := 10) (by decide) (n := 6) rfl (fun c_1 => ?_) (fun c_1 => ?_)
  · skip
    refine g_iload_n hc 0 rfl rfl dX5_suitOf_10 (n := 11) rfl ?_
    refine g_bipush (v := nI 100) hc (by decide) dX5_suitOf_11 (n := 13) rfl ?_
    refine n_icmp_ne hc (by omega) (by omega) dX5_suitOf_13 (tgt := 20) (by decide) (n := 16) rfl (fun c_2 => ?_) (fun c_2 => ?_)
    · skip
      refine g_iload_n hc 0 rfl rfl dX5_suitOf_20 (n := 21) rfl ?_
      refine g_bipush (v := nI 104) hc (by decide) dX5_suitOf_21 (n := 23) rfl ?_
      refine n_icmp_ne hc (by omega) (by omega) dX5_suitOf_23 (tgt := 30) (by decide) (n := 26) rfl (fun c_3 => ?_) (fun c_3 => ?_)
      · skip
        refine g_iload_n hc 0 rfl rfl dX5_suitOf_30 (n := 31) rfl ?_
        refine g_bipush (v := nI 115) hc (by decide) dX5_suitOf_31 (n := 33) rfl ?_
        refine n_icmp_ne hc (by omega) (by omega) dX5_suitOf_33 (tgt := 40) (by decide) (n := 36) rfl (fun c_4 => ?_) (fun c_4 => ?_)
        · skip
          refine g_iconst (v := nI 4294967295) hc (by decide) dX5_suitOf_40 (n := 41) rfl ?_
          refine hret.1 _ _ _ _ _ _ rfl (by decide) (by decide) dX5_suitOf_41 ?_
          exact ⟨_, rfl, (by unfold su; (repeat' split) <;> first | rfl | (exfalso; omega)), rfl⟩
        · skip
          refine g_iconst (v := nI 3) hc (by decide) dX5_suitOf_36 (n := 37) rfl ?_
          refine g_goto (n := 41) hc dX5_suitOf_37 (by decide) ?_
          refine hret.1 _ _ _ _ _ _ rfl (by decide) (by decide) dX5_suitOf_41 ?_
          exact ⟨_, rfl, (by unfold su; (repeat' split) <;> first | rfl | (exfalso; omega)), rfl⟩
      · skip
        refine g_iconst (v := nI 2) hc (by decide) dX5_suitOf_26 (n := 27) rfl ?_
        refine g_goto (n := 41) hc dX5_suitOf_27 (by decide) ?_
        refine hret.1 _ _ _ _ _ _ rfl (by decide) (by decide) dX5_suitOf_41 ?_
        exact ⟨_, rfl, (by unfold su; (repeat' split) <;> first | rfl | (exfalso; omega)), rfl⟩
    · skip
      refine g_iconst (v := nI 1) hc (by decide) dX5_suitOf_16 (n := 17) rfl ?_
      refine g_goto (n := 41) hc dX5_suitOf_17 (by decide) ?_
      refine hret.1 _ _ _ _ _ _ rfl (by decide) (by decide) dX5_suitOf_41 ?_
      exact ⟨_, rfl, (by unfold su; (repeat' split) <;> first | rfl | (exfalso; omega)), rfl⟩
  · skip
    refine g_iconst (v := nI 0) hc (by decide) dX5_suitOf_6 (n := 7) rfl ?_
    refine g_goto (n := 41) hc dX5_suitOf_7 (by decide) ?_
    refine hret.1 _ _ _ _ _ _ rfl (by decide) (by decide) dX5_suitOf_41 ?_
    exact ⟨_, rfl, (by unfold su; (repeat' split) <;> first | rfl | (exfalso; omega)), rfl⟩
set_option maxHeartbeats 1000000 in
set_option maxRecDepth 100000 in
theorem c_X5_rankOf (κ : Kp) (l : Launch) (c : Nat) (hc1 : c < 128) : CT κ l yX5_rankOf cX5_rankOf 1 (some .int) 1 22 0 0 [.int (nI c)] [] (PI (fun rr ww => rr = (nI (rk c)) ∧ ww = [])) := by
  refine CT.go (plainFor_of_name (by decide)) (Nat.le_of_ble_eq_true rfl) ?_
  intro Γ A Q hl hc hret
  subst hl
  have hc : Cx κ Γ A cX5_rankOf 1 RX5 "rankOf" (some .int) { frames := 1, cells := 0, slots := 0, locals := 22 } := hc
  refine g_lv (lv' := [(0, .int (nI c))]) rfl ?_
  by_cases h5 : 50 ≤ c ∧ c ≤ 57
  · skip
    refine g_iload_n hc 0 rfl rfl dX5_rankOf_0 (n := 1) rfl ?_
    refine g_bipush (v := nI 50) hc (by decide) dX5_rankOf_1 (n := 3) rfl ?_
    refine g_bipush (v := nI 57) hc (by decide) dX5_rankOf_3 (n := 5) rfl ?_
    refine g_callS (rest := []) (As := [.int (nI c), .int (nI 50), .int (nI 57)]) (cells' := 0) (slots' := 0) hc (c_X5_in_y κ _ (nI c) (nI 50) (nI 57) (in_y h5.1 h5.2)) q_X5_in k_ml_RX5_35 rfl rfl (jn_ix (wr := []) [] [] rfl rfl rfl rfl (by decide)) ⟨⟨by decide, by decide⟩, by decide, by decide⟩ (Nat.le_of_ble_eq_true rfl) rfl rfl dX5_rankOf_5 (n := 8) rfl (fun vv ww hp => ?_)
    obtain ⟨rr, rfl, rfl, rfl⟩ := hp
    refine ⟨_, rfl, ?_⟩
    refine g_ws (ws' := []) rfl ?_
    refine g_st (st' := [.int (nI 1)]) rfl ?_
    refine n_if_eq hc (by omega) dX5_rankOf_8 (tgt := 16) (by decide) (n := 11) rfl (fun c_1 => by (exfalso; revert c_1; first | omega | decide)) (fun c_1 => ?_)
    refine g_iload_n hc 0 rfl rfl dX5_rankOf_11 (n := 12) rfl ?_
    refine g_bipush (v := nI 50) hc (by decide) dX5_rankOf_12 (n := 14) rfl ?_
    refine n_isub (v := c - 50) hc (by omega) rfl dX5_rankOf_14 (n := 15) rfl ?_
    refine hret.1 _ _ _ _ _ _ rfl (by decide) (by decide) dX5_rankOf_15 ?_
    exact ⟨_, rfl, (by unfold rk; (repeat' split) <;> first | rfl | (exfalso; omega)), rfl⟩
  · skip
    refine g_iload_n hc 0 rfl rfl dX5_rankOf_0 (n := 1) rfl ?_
    refine g_bipush (v := nI 50) hc (by decide) dX5_rankOf_1 (n := 3) rfl ?_
    refine g_bipush (v := nI 57) hc (by decide) dX5_rankOf_3 (n := 5) rfl ?_
    refine g_callS (rest := []) (As := [.int (nI c), .int (nI 50), .int (nI 57)]) (cells' := 0) (slots' := 0) hc (c_X5_in_n κ _ (nI c) (nI 50) (nI 57) (in_nn (by omega) (by decide) (by decide) (by omega))) q_X5_in k_ml_RX5_35 rfl rfl (jn_ix (wr := []) [] [] rfl rfl rfl rfl (by decide)) ⟨⟨by decide, by decide⟩, by decide, by decide⟩ (Nat.le_of_ble_eq_true rfl) rfl rfl dX5_rankOf_5 (n := 8) rfl (fun vv ww hp => ?_)
    obtain ⟨rr, rfl, rfl, rfl⟩ := hp
    refine ⟨_, rfl, ?_⟩
    refine g_ws (ws' := []) rfl ?_
    refine g_st (st' := [.int (nI 0)]) rfl ?_
    refine n_if_eq hc (by omega) dX5_rankOf_8 (tgt := 16) (by decide) (n := 11) rfl (fun c_2 => ?_) (fun c_2 => by (exfalso; revert c_2; first | omega | decide))
    refine g_iload_n hc 0 rfl rfl dX5_rankOf_16 (n := 17) rfl ?_
    refine g_bipush (v := nI 116) hc (by decide) dX5_rankOf_17 (n := 19) rfl ?_
    refine n_icmp_ne hc (by omega) (by omega) dX5_rankOf_19 (tgt := 27) (by decide) (n := 22) rfl (fun c_3 => ?_) (fun c_3 => ?_)
    · skip
      refine g_iload_n hc 0 rfl rfl dX5_rankOf_27 (n := 28) rfl ?_
      refine g_bipush (v := nI 106) hc (by decide) dX5_rankOf_28 (n := 30) rfl ?_
      refine n_icmp_ne hc (by omega) (by omega) dX5_rankOf_30 (tgt := 38) (by decide) (n := 33) rfl (fun c_4 => ?_) (fun c_4 => ?_)
      · skip
        refine g_iload_n hc 0 rfl rfl dX5_rankOf_38 (n := 39) rfl ?_
        refine g_bipush (v := nI 113) hc (by decide) dX5_rankOf_39 (n := 41) rfl ?_
        refine n_icmp_ne hc (by omega) (by omega) dX5_rankOf_41 (tgt := 49) (by decide) (n := 44) rfl (fun c_5 => ?_) (fun c_5 => ?_)
        · skip
          refine g_iload_n hc 0 rfl rfl dX5_rankOf_49 (n := 50) rfl ?_
          refine g_bipush (v := nI 107) hc (by decide) dX5_rankOf_50 (n := 52) rfl ?_
          refine n_icmp_ne hc (by omega) (by omega) dX5_rankOf_52 (tgt := 60) (by decide) (n := 55) rfl (fun c_6 => ?_) (fun c_6 => ?_)
          · skip
            refine g_iload_n hc 0 rfl rfl dX5_rankOf_60 (n := 61) rfl ?_
            refine g_bipush (v := nI 97) hc (by decide) dX5_rankOf_61 (n := 63) rfl ?_
            refine n_icmp_ne hc (by omega) (by omega) dX5_rankOf_63 (tgt := 71) (by decide) (n := 66) rfl (fun c_7 => ?_) (fun c_7 => ?_)
            · skip
              refine g_iconst (v := nI 4294967295) hc (by decide) dX5_rankOf_71 (n := 72) rfl ?_
              refine hret.1 _ _ _ _ _ _ rfl (by decide) (by decide) dX5_rankOf_72 ?_
              exact ⟨_, rfl, (by unfold rk; (repeat' split) <;> first | rfl | (exfalso; omega)), rfl⟩
            · skip
              refine g_bipush (v := nI 12) hc (by decide) dX5_rankOf_66 (n := 68) rfl ?_
              refine g_goto (n := 72) hc dX5_rankOf_68 (by decide) ?_
              refine hret.1 _ _ _ _ _ _ rfl (by decide) (by decide) dX5_rankOf_72 ?_
              exact ⟨_, rfl, (by unfold rk; (repeat' split) <;> first | rfl | (exfalso; omega)), rfl⟩
          · skip
            refine g_bipush (v := nI 11) hc (by decide) dX5_rankOf_55 (n := 57) rfl ?_
            refine g_goto (n := 72) hc dX5_rankOf_57 (by decide) ?_
            refine hret.1 _ _ _ _ _ _ rfl (by decide) (by decide) dX5_rankOf_72 ?_
            exact ⟨_, rfl, (by unfold rk; (repeat' split) <;> first | rfl | (exfalso; omega)), rfl⟩
        · skip
          refine g_bipush (v := nI 10) hc (by decide) dX5_rankOf_44 (n := 46) rfl ?_
          refine g_goto (n := 72) hc dX5_rankOf_46 (by decide) ?_
          refine hret.1 _ _ _ _ _ _ rfl (by decide) (by decide) dX5_rankOf_72 ?_
          exact ⟨_, rfl, (by unfold rk; (repeat' split) <;> first | rfl | (exfalso; omega)), rfl⟩
      · skip
        refine g_bipush (v := nI 9) hc (by decide) dX5_rankOf_33 (n := 35) rfl ?_
        refine g_goto (n := 72) hc dX5_rankOf_35 (by decide) ?_
        refine hret.1 _ _ _ _ _ _ rfl (by decide) (by decide) dX5_rankOf_72 ?_
        exact ⟨_, rfl, (by unfold rk; (repeat' split) <;> first | rfl | (exfalso; omega)), rfl⟩
    · skip
      refine g_bipush (v := nI 8) hc (by decide) dX5_rankOf_22 (n := 24) rfl ?_
      refine g_goto (n := 72) hc dX5_rankOf_24 (by decide) ?_
      refine hret.1 _ _ _ _ _ _ rfl (by decide) (by decide) dX5_rankOf_72 ?_
      exact ⟨_, rfl, (by unfold rk; (repeat' split) <;> first | rfl | (exfalso; omega)), rfl⟩
set_option maxHeartbeats 1000000 in
set_option maxRecDepth 100000 in
theorem c_X5_findFault (κ : Kp) (l : Launch) (m : Nat → Nat) (n : Nat) (ln : Nat) (sg : Nat → Nat) (hln : ln ≤ 60) (hsg : ∀ k, k < 60 → sg k < 128) : CT κ l yX5_findFault cX5_findFault 3 (some .int) 2 42 0 0 [.ref (m 0)] [(m 0, .inr (5, [.ref (m 1), .ref (m 2), .ref (m 3), .int (nI n), .ref (m 4), .ref (m 5), .ref (m 6), .int (nI ln), .ref (m 7), .ref (m 8)])), (m 6, aI κ 60 sg)] (PI (fun rr ww => rr = (nI (ff sg ln)) ∧ ww = [(m 0, .inr (5, [.ref (m 1), .ref (m 2), .ref (m 3), .int (nI n), .ref (m 4), .ref (m 5), .ref (m 6), .int (nI ln), .ref (m 7), .ref (m 8)])), (m 6, aI κ 60 sg)])) := by
  refine CT.go (plainFor_of_name (by decide)) (Nat.le_of_ble_eq_true rfl) ?_
  intro Γ A Q hl hc hret
  subst hl
  have hc : Cx κ Γ A cX5_findFault 3 RX5 "findFault" (some .int) { frames := 2, cells := 0, slots := 0, locals := 42 } := hc
  refine g_lv (lv' := [(0, .ref (m 0))]) rfl ?_
  refine g_iconst (v := nI 0) hc (by decide) dX5_findFault_0 (n := 1) rfl ?_
  refine g_istore_n (lv2 := [(0, .ref (m 0)), (1, .int (nI 0))]) hc rfl (by decide) [1, 0] rfl rfl dX5_findFault_1 (n := 2) rfl ?_
  have L_1 : ∀ (fuel : Nat) (i : Nat), (i ≤ ln) → (ff sg ln = ffr sg ln (ln - i) i) → ln - i < fuel → G κ Γ A 3 0 0 Q [(m 0, .inr (5, [.ref (m 1), .ref (m 2), .ref (m 3), .int (nI n), .ref (m 4), .ref (m 5), .ref (m 6), .int (nI ln), .ref (m 7), .ref (m 8)])), (m 6, aI κ 60 sg)] 2 [(0, .ref (m 0)), (1, .int (nI i))] [] := by
    intro fuel
    induction fuel with
    | zero => intro i hi hq h; exact absurd h (Nat.not_lt_zero _)
    | succ fuel ih_2 =>
      intro i hi hq hn_3
      refine g_iload_n hc 1 rfl rfl dX5_findFault_2 (n := 3) rfl ?_
      refine g_aload_n hc 0 rfl rfl dX5_findFault_3 (n := 4) rfl ?_
      refine g_getf hc 0 rfl vw_5 inX5 7 (by decide) k_fl_RX5_83 rfl rfl dX5_findFault_4 (n := 7) rfl ?_
      refine n_icmp_ge hc (by omega) (by omega) dX5_findFault_7 (tgt := 92) (by decide) (n := 10) rfl (fun c_4 => ?_) (fun c_4 => ?_)
      · skip
        refine g_aload_n hc 0 rfl rfl dX5_findFault_92 (n := 93) rfl ?_
        refine g_getf hc 0 rfl vw_5 inX5 7 (by decide) k_fl_RX5_83 rfl rfl dX5_findFault_93 (n := 96) rfl ?_
        refine g_iconst (v := nI 3) hc (by decide) dX5_findFault_96 (n := 97) rfl ?_
        refine n_irem (v := ln % 3) hc (by omega) (by decide) (by decide) rfl dX5_findFault_97 (n := 98) rfl ?_
        refine g_iconst (v := nI 2) hc (by decide) dX5_findFault_98 (n := 99) rfl ?_
        refine n_icmp_ne hc (by omega) (by omega) dX5_findFault_99 (tgt := 107) (by decide) (n := 102) rfl (fun c_5 => ?_) (fun c_5 => ?_)
        · skip
          refine g_aload_n hc 0 rfl rfl dX5_findFault_107 (n := 108) rfl ?_
          refine g_getf hc 0 rfl vw_5 inX5 7 (by decide) k_fl_RX5_83 rfl rfl dX5_findFault_108 (n := 111) rfl ?_
          refine hret.1 _ _ _ _ _ _ rfl (by decide) (by decide) dX5_findFault_111 ?_
          exact ⟨_, rfl, (by rw [hq, show ln - i = 0 from by omega, ffr]; first | rw [if_pos (by omega)] | (rw [if_neg (by omega)])), rfl⟩
        · skip
          refine g_bipush (v := nI 4294967290) hc (by decide) dX5_findFault_102 (n := 104) rfl ?_
          refine g_goto (n := 111) hc dX5_findFault_104 (by decide) ?_
          refine hret.1 _ _ _ _ _ _ rfl (by decide) (by decide) dX5_findFault_111 ?_
          exact ⟨_, rfl, (by rw [hq, show ln - i = 0 from by omega, ffr]; first | rw [if_pos (by omega)] | (rw [if_neg (by omega)])), rfl⟩
      · skip
        refine g_iload_n hc 1 rfl rfl dX5_findFault_10 (n := 11) rfl ?_
        refine g_iconst (v := nI 3) hc (by decide) dX5_findFault_11 (n := 12) rfl ?_
        refine n_irem (v := i % 3) hc (by omega) (by decide) (by decide) rfl dX5_findFault_12 (n := 13) rfl ?_
        refine n_if_ne hc (by omega) dX5_findFault_13 (tgt := 36) (by decide) (n := 16) rfl (fun c_6 => ?_) (fun c_6 => ?_)
        · skip
          refine g_iload_n hc 1 rfl rfl dX5_findFault_36 (n := 37) rfl ?_
          refine g_iconst (v := nI 3) hc (by decide) dX5_findFault_37 (n := 38) rfl ?_
          refine n_irem (v := i % 3) hc (by omega) (by decide) (by decide) rfl dX5_findFault_38 (n := 39) rfl ?_
          refine g_iconst (v := nI 1) hc (by decide) dX5_findFault_39 (n := 40) rfl ?_
          refine n_icmp_ne hc (by omega) (by omega) dX5_findFault_40 (tgt := 63) (by decide) (n := 43) rfl (fun c_7 => ?_) (fun c_7 => ?_)
          · skip
            refine g_aload_n hc 0 rfl rfl dX5_findFault_63 (n := 64) rfl ?_
            refine g_getf hc 0 rfl vw_5 inX5 6 (by decide) k_fl_RX5_26 rfl rfl dX5_findFault_64 (n := 67) rfl ?_
            refine g_iload_n hc 1 rfl rfl dX5_findFault_67 (n := 68) rfl ?_
            refine n_iald (v := sg i) hc 1 rfl (by omega) (by decide) rfl dX5_findFault_68 (n := 69) rfl ?_
            have b_8 := hsg i (by omega)
            refine g_bipush (v := nI 44) hc (by decide) dX5_findFault_69 (n := 71) rfl ?_
            refine n_icmp_ne hc (by omega) (by omega) dX5_findFault_71 (tgt := 78) (by decide) (n := 74) rfl (fun c_9 => ?_) (fun c_9 => ?_)
            · skip
              refine g_iconst (v := nI 0) hc (by decide) dX5_findFault_78 (n := 79) rfl ?_
              have hcs : cst sg i = 0 := by unfold cst; (repeat' split) <;> first | rfl | (exfalso; omega)
              refine g_istore_n (lv2 := [(0, .ref (m 0)), (1, .int (nI i)), (2, .int (nI 0))]) hc rfl (by decide) [1, 2, 0] rfl rfl dX5_findFault_79 (n := 80) rfl ?_
              refine g_iload_n hc 2 rfl rfl dX5_findFault_80 (n := 81) rfl ?_
              refine n_if_ne hc (by omega) dX5_findFault_81 (tgt := 86) (by decide) (n := 84) rfl (fun c_10 => by (exfalso; revert c_10; first | omega | decide)) (fun c_10 => ?_)
              refine g_iload_n hc 1 rfl rfl dX5_findFault_84 (n := 85) rfl ?_
              refine hret.1 _ _ _ _ _ _ rfl (by decide) (by decide) dX5_findFault_85 ?_
              exact ⟨_, rfl, (by rw [hq, show ln - i = (ln - i - 1) + 1 from by omega, ffr, if_pos hcs]), rfl⟩
            · skip
              refine g_iconst (v := nI 1) hc (by decide) dX5_findFault_74 (n := 75) rfl ?_
              refine g_goto (n := 79) hc dX5_findFault_75 (by decide) ?_
              have hcs : cst sg i = 1 := by unfold cst; (repeat' split) <;> first | rfl | (exfalso; omega)
              refine g_istore_n (lv2 := [(0, .ref (m 0)), (1, .int (nI i)), (2, .int (nI 1))]) hc rfl (by decide) [1, 2, 0] rfl rfl dX5_findFault_79 (n := 80) rfl ?_
              refine g_iload_n hc 2 rfl rfl dX5_findFault_80 (n := 81) rfl ?_
              refine n_if_ne hc (by omega) dX5_findFault_81 (tgt := 86) (by decide) (n := 84) rfl (fun c_11 => ?_) (fun c_11 => by (exfalso; revert c_11; first | omega | decide))
              refine n_iinc (v := i + 1) (zk := 1) (lv2 := [(0, .ref (m 0)), (1, .int (nI (i + 1))), (2, .int (nI 1))]) hc 1 rfl (by decide) rfl (by decide) [1, 0, 2] rfl rfl dX5_findFault_86 (n := 89) rfl ?_
              refine g_goto (n := 2) hc dX5_findFault_89 (by decide) ?_
              refine g_lsub (lv' := [(0, .ref (m 0)), (1, .int (nI (i + 1)))]) [0, 1] rfl ?_
              exact ih_2 (i + 1) (by omega) (by rw [hq, show ln - i = (ln - (i + 1)) + 1 from by omega, ffr, if_neg (by omega)]) (by omega)
          · skip
            refine g_aload_n hc 0 rfl rfl dX5_findFault_43 (n := 44) rfl ?_
            refine g_getf hc 0 rfl vw_5 inX5 6 (by decide) k_fl_RX5_26 rfl rfl dX5_findFault_44 (n := 47) rfl ?_
            refine g_iload_n hc 1 rfl rfl dX5_findFault_47 (n := 48) rfl ?_
            refine n_iald (v := sg i) hc 1 rfl (by omega) (by decide) rfl dX5_findFault_48 (n := 49) rfl ?_
            have b_12 := hsg i (by omega)
            refine g_callS (rest := []) (As := [.int (nI (sg i))]) (cells' := 0) (slots' := 0) hc (c_X5_rankOf κ _ (sg i) (hsg _ (by omega))) q_X5_rankOf k_ml_RX5_89 rfl rfl (jn_ix (wr := [(m 0, .inr (5, [.ref (m 1), .ref (m 2), .ref (m 3), .int (nI n), .ref (m 4), .ref (m 5), .ref (m 6), .int (nI ln), .ref (m 7), .ref (m 8)])), (m 6, aI κ 60 sg)]) [] [0, 1] rfl rfl rfl rfl (by decide)) ⟨⟨by decide, by decide⟩, by decide, by decide⟩ (Nat.le_of_ble_eq_true rfl) rfl rfl dX5_findFault_49 (n := 52) rfl (fun vv ww hp => ?_)
            obtain ⟨rr, rfl, rfl, rfl⟩ := hp
            refine ⟨_, rfl, ?_⟩
            refine g_ws (ws' := [(m 0, .inr (5, [.ref (m 1), .ref (m 2), .ref (m 3), .int (nI n), .ref (m 4), .ref (m 5), .ref (m 6), .int (nI ln), .ref (m 7), .ref (m 8)])), (m 6, aI κ 60 sg)]) rfl ?_
            refine g_st (st' := [.int (nI (rk (sg i)))]) rfl ?_
            rcases rk_or (sg i) with hsu | hsu
            · skip
              refine n_if_lt hc (by omega) dX5_findFault_52 (tgt := 59) (by decide) (n := 55) rfl ?_
              refine g_iconst (v := nI 1) hc (by decide) dX5_findFault_55 (n := 56) rfl ?_
              refine g_goto (n := 79) hc dX5_findFault_56 (by decide) ?_
              have hcs : cst sg i = 1 := by unfold cst; (repeat' split) <;> first | rfl | (exfalso; omega)
              refine g_istore_n (lv2 := [(0, .ref (m 0)), (1, .int (nI i)), (2, .int (nI 1))]) hc rfl (by decide) [1, 2, 0] rfl rfl dX5_findFault_79 (n := 80) rfl ?_
              refine g_iload_n hc 2 rfl rfl dX5_findFault_80 (n := 81) rfl ?_
              refine n_if_ne hc (by omega) dX5_findFault_81 (tgt := 86) (by decide) (n := 84) rfl (fun c_14 => ?_) (fun c_14 => by (exfalso; revert c_14; first | omega | decide))
              refine n_iinc (v := i + 1) (zk := 1) (lv2 := [(0, .ref (m 0)), (1, .int (nI (i + 1))), (2, .int (nI 1))]) hc 1 rfl (by decide) rfl (by decide) [1, 0, 2] rfl rfl dX5_findFault_86 (n := 89) rfl ?_
              refine g_goto (n := 2) hc dX5_findFault_89 (by decide) ?_
              refine g_lsub (lv' := [(0, .ref (m 0)), (1, .int (nI (i + 1)))]) [0, 1] rfl ?_
              exact ih_2 (i + 1) (by omega) (by rw [hq, show ln - i = (ln - (i + 1)) + 1 from by omega, ffr, if_neg (by omega)]) (by omega)
            · refine g_st (st' := [.int (-1)]) (by rw [hsu, show nI 4294967295 = -1 from by decide]) ?_
              refine g_if_lt hc dX5_findFault_52 (tgt := 59) (by decide) (n := 55) rfl (fun c_15 => ?_) (fun c_15 => by (exfalso; revert c_15; first | omega | decide))
              refine g_iconst (v := nI 0) hc (by decide) dX5_findFault_59 (n := 60) rfl ?_
              refine g_goto (n := 79) hc dX5_findFault_60 (by decide) ?_
              have hcs : cst sg i = 0 := by unfold cst; (repeat' split) <;> first | rfl | (exfalso; omega)
              refine g_istore_n (lv2 := [(0, .ref (m 0)), (1, .int (nI i)), (2, .int (nI 0))]) hc rfl (by decide) [1, 2, 0] rfl rfl dX5_findFault_79 (n := 80) rfl ?_
              refine g_iload_n hc 2 rfl rfl dX5_findFault_80 (n := 81) rfl ?_
              refine n_if_ne hc (by omega) dX5_findFault_81 (tgt := 86) (by decide) (n := 84) rfl (fun c_16 => by (exfalso; revert c_16; first | omega | decide)) (fun c_16 => ?_)
              refine g_iload_n hc 1 rfl rfl dX5_findFault_84 (n := 85) rfl ?_
              refine hret.1 _ _ _ _ _ _ rfl (by decide) (by decide) dX5_findFault_85 ?_
              exact ⟨_, rfl, (by rw [hq, show ln - i = (ln - i - 1) + 1 from by omega, ffr, if_pos hcs]), rfl⟩
        · skip
          refine g_aload_n hc 0 rfl rfl dX5_findFault_16 (n := 17) rfl ?_
          refine g_getf hc 0 rfl vw_5 inX5 6 (by decide) k_fl_RX5_26 rfl rfl dX5_findFault_17 (n := 20) rfl ?_
          refine g_iload_n hc 1 rfl rfl dX5_findFault_20 (n := 21) rfl ?_
          refine n_iald (v := sg i) hc 1 rfl (by omega) (by decide) rfl dX5_findFault_21 (n := 22) rfl ?_
          have b_17 := hsg i (by omega)
          refine g_callS (rest := []) (As := [.int (nI (sg i))]) (cells' := 0) (slots' := 0) hc (c_X5_suitOf κ _ (sg i) (hsg _ (by omega))) q_X5_suitOf k_ml_RX5_86 rfl rfl (jn_ix (wr := [(m 0, .inr (5, [.ref (m 1), .ref (m 2), .ref (m 3), .int (nI n), .ref (m 4), .ref (m 5), .ref (m 6), .int (nI ln), .ref (m 7), .ref (m 8)])), (m 6, aI κ 60 sg)]) [] [0, 1] rfl rfl rfl rfl (by decide)) ⟨⟨by decide, by decide⟩, by decide, by decide⟩ (Nat.le_of_ble_eq_true rfl) rfl rfl dX5_findFault_22 (n := 25) rfl (fun vv ww hp => ?_)
          obtain ⟨rr, rfl, rfl, rfl⟩ := hp
          refine ⟨_, rfl, ?_⟩
          refine g_ws (ws' := [(m 0, .inr (5, [.ref (m 1), .ref (m 2), .ref (m 3), .int (nI n), .ref (m 4), .ref (m 5), .ref (m 6), .int (nI ln), .ref (m 7), .ref (m 8)])), (m 6, aI κ 60 sg)]) rfl ?_
          refine g_st (st' := [.int (nI (su (sg i)))]) rfl ?_
          rcases su_or (sg i) with hsu | hsu
          · skip
            refine n_if_lt hc (by omega) dX5_findFault_25 (tgt := 32) (by decide) (n := 28) rfl ?_
            refine g_iconst (v := nI 1) hc (by decide) dX5_findFault_28 (n := 29) rfl ?_
            refine g_goto (n := 79) hc dX5_findFault_29 (by decide) ?_
            have hcs : cst sg i = 1 := by unfold cst; (repeat' split) <;> first | rfl | (exfalso; omega)
            refine g_istore_n (lv2 := [(0, .ref (m 0)), (1, .int (nI i)), (2, .int (nI 1))]) hc rfl (by decide) [1, 2, 0] rfl rfl dX5_findFault_79 (n := 80) rfl ?_
            refine g_iload_n hc 2 rfl rfl dX5_findFault_80 (n := 81) rfl ?_
            refine n_if_ne hc (by omega) dX5_findFault_81 (tgt := 86) (by decide) (n := 84) rfl (fun c_19 => ?_) (fun c_19 => by (exfalso; revert c_19; first | omega | decide))
            refine n_iinc (v := i + 1) (zk := 1) (lv2 := [(0, .ref (m 0)), (1, .int (nI (i + 1))), (2, .int (nI 1))]) hc 1 rfl (by decide) rfl (by decide) [1, 0, 2] rfl rfl dX5_findFault_86 (n := 89) rfl ?_
            refine g_goto (n := 2) hc dX5_findFault_89 (by decide) ?_
            refine g_lsub (lv' := [(0, .ref (m 0)), (1, .int (nI (i + 1)))]) [0, 1] rfl ?_
            exact ih_2 (i + 1) (by omega) (by rw [hq, show ln - i = (ln - (i + 1)) + 1 from by omega, ffr, if_neg (by omega)]) (by omega)
          · refine g_st (st' := [.int (-1)]) (by rw [hsu, show nI 4294967295 = -1 from by decide]) ?_
            refine g_if_lt hc dX5_findFault_25 (tgt := 32) (by decide) (n := 28) rfl (fun c_20 => ?_) (fun c_20 => by (exfalso; revert c_20; first | omega | decide))
            refine g_iconst (v := nI 0) hc (by decide) dX5_findFault_32 (n := 33) rfl ?_
            refine g_goto (n := 79) hc dX5_findFault_33 (by decide) ?_
            have hcs : cst sg i = 0 := by unfold cst; (repeat' split) <;> first | rfl | (exfalso; omega)
            refine g_istore_n (lv2 := [(0, .ref (m 0)), (1, .int (nI i)), (2, .int (nI 0))]) hc rfl (by decide) [1, 2, 0] rfl rfl dX5_findFault_79 (n := 80) rfl ?_
            refine g_iload_n hc 2 rfl rfl dX5_findFault_80 (n := 81) rfl ?_
            refine n_if_ne hc (by omega) dX5_findFault_81 (tgt := 86) (by decide) (n := 84) rfl (fun c_21 => by (exfalso; revert c_21; first | omega | decide)) (fun c_21 => ?_)
            refine g_iload_n hc 1 rfl rfl dX5_findFault_84 (n := 85) rfl ?_
            refine hret.1 _ _ _ _ _ _ rfl (by decide) (by decide) dX5_findFault_85 ?_
            exact ⟨_, rfl, (by rw [hq, show ln - i = (ln - i - 1) + 1 from by omega, ffr, if_pos hcs]), rfl⟩
  exact L_1 _ 0 (by omega) (rfl) (Nat.lt_succ_self _)
set_option maxHeartbeats 1000000 in
set_option maxRecDepth 100000 in
theorem c_X5_fault (κ : Kp) (l : Launch) (m : Nat → Nat) (n : Nat) (ln : Nat) (sg : Nat → Nat) (hln : ln ≤ 60) (hsg : ∀ k, k < 60 → sg k < 128) : CT κ l yX5_fault cX5_fault 1 (some .int) 3 64 0 0 [.ref (m 0)] [(m 0, .inr (5, [.ref (m 1), .ref (m 2), .ref (m 3), .int (nI n), .ref (m 4), .ref (m 5), .ref (m 6), .int (nI ln), .ref (m 7), .ref (m 8)])), (m 6, aI κ 60 sg)] (PI (fun rr ww => rr = (nI (ff sg ln)) ∧ ww = [(m 0, .inr (5, [.ref (m 1), .ref (m 2), .ref (m 3), .int (nI n), .ref (m 4), .ref (m 5), .ref (m 6), .int (nI ln), .ref (m 7), .ref (m 8)])), (m 6, aI κ 60 sg)])) := by
  refine CT.go (plainFor_of_name (by decide)) (Nat.le_of_ble_eq_true rfl) ?_
  intro Γ A Q hl hc hret
  subst hl
  have hc : Cx κ Γ A cX5_fault 1 RX5 "fault" (some .int) { frames := 3, cells := 0, slots := 0, locals := 64 } := hc
  refine g_lv (lv' := [(0, .ref (m 0))]) rfl ?_
  refine g_aload_n hc 0 rfl rfl dX5_fault_0 (n := 1) rfl ?_
  refine g_callV (rest := []) (As := []) (cells' := 0) (slots' := 0) hc (c_X5_findFault κ _ m n ln sg hln hsg) q_X5_findFault k_ml_RX5_80 rfl rfl (jn_ix (wr := []) [0, 1] [] rfl rfl rfl rfl (by decide)) (qr := 0) rfl vw_5 ⟨⟨by decide, by decide⟩, by decide, by decide⟩ (Nat.le_of_ble_eq_true rfl) rfl rfl dX5_fault_1 (n := 4) rfl (fun vv ww hp => ?_)
  obtain ⟨rr, rfl, rfl, rfl⟩ := hp
  refine ⟨_, rfl, ?_⟩
  refine g_ws (ws' := [(m 0, .inr (5, [.ref (m 1), .ref (m 2), .ref (m 3), .int (nI n), .ref (m 4), .ref (m 5), .ref (m 6), .int (nI ln), .ref (m 7), .ref (m 8)])), (m 6, aI κ 60 sg)]) rfl ?_
  refine g_st (st' := [.int (nI (ff sg ln))]) rfl ?_
  refine hret.1 _ _ _ _ _ _ rfl (by decide) (by decide) dX5_fault_4 ?_
  exact ⟨_, rfl, rfl, rfl⟩
set_option maxHeartbeats 1000000 in
set_option maxRecDepth 100000 in
theorem c_X5_read_er (κ : Kp) (l : Launch) (m : Nat → Nat) (n : Nat) (ln : Nat) (sg : Nat → Nat) (hln : ln ≤ 60) (hsg : ∀ k, k < 60 → sg k < 128) (hfn : ff sg ln ≠ 4294967290) : CT κ l yX5_read cX5_read 3 (some .int) 3 64 0 0 [.ref (m 0)] [(m 0, .inr (5, [.ref (m 1), .ref (m 2), .ref (m 3), .int (nI n), .ref (m 4), .ref (m 5), .ref (m 6), .int (nI ln), .ref (m 7), .ref (m 8)])), (m 6, aI κ 60 sg)] (PI (fun rr ww => rr = (nI 4294967293) ∧ ww = [(m 0, .inr (5, [.ref (m 1), .ref (m 2), .ref (m 3), .int (nI n), .ref (m 4), .ref (m 5), .ref (m 6), .int (nI ln), .ref (m 7), .ref (m 8)])), (m 6, aI κ 60 sg)])) := by
  refine CT.go (plainFor_of_name (by decide)) (Nat.le_of_ble_eq_true rfl) ?_
  intro Γ A Q hl hc hret
  subst hl
  have hc : Cx κ Γ A cX5_read 3 RX5 "read" (some .int) { frames := 3, cells := 0, slots := 0, locals := 64 } := hc
  refine g_lv (lv' := [(0, .ref (m 0))]) rfl ?_
  refine g_aload_n hc 0 rfl rfl dX5_read_0 (n := 1) rfl ?_
  refine g_callV (rest := []) (As := []) (cells' := 0) (slots' := 0) hc (c_X5_findFault κ _ m n ln sg hln hsg) q_X5_findFault k_ml_RX5_80 rfl rfl (jn_ix (wr := []) [0, 1] [] rfl rfl rfl rfl (by decide)) (qr := 0) rfl vw_5 ⟨⟨by decide, by decide⟩, by decide, by decide⟩ (Nat.le_of_ble_eq_true rfl) rfl rfl dX5_read_1 (n := 4) rfl (fun vv ww hp => ?_)
  obtain ⟨rr, rfl, rfl, rfl⟩ := hp
  refine ⟨_, rfl, ?_⟩
  refine g_ws (ws' := [(m 0, .inr (5, [.ref (m 1), .ref (m 2), .ref (m 3), .int (nI n), .ref (m 4), .ref (m 5), .ref (m 6), .int (nI ln), .ref (m 7), .ref (m 8)])), (m 6, aI κ 60 sg)]) rfl ?_
  refine g_st (st' := [.int (nI (ff sg ln))]) rfl ?_
  have hfo : ff sg ln ≤ ln := (ff_or sg ln).elim id (fun h => absurd h.1 hfn)
  refine n_if_lt hc (by omega) dX5_read_4 (tgt := 10) (by decide) (n := 7) rfl ?_
  refine g_bipush (v := nI 4294967293) hc (by decide) dX5_read_7 (n := 9) rfl ?_
  refine hret.1 _ _ _ _ _ _ rfl (by decide) (by decide) dX5_read_9 ?_
  exact ⟨_, rfl, rfl, rfl⟩
set_option maxHeartbeats 1000000 in
set_option maxRecDepth 100000 in
theorem c_X5_read_ok (κ : Kp) (l : Launch) (m : Nat → Nat) (n : Nat) (ln : Nat) (z : Nat → Nat) (g : Nat → Nat) (hz : Nat → Nat → Nat) (sg : Nat → Nat) (hv : Zv z) (hn : n ≤ 4) (hg : HB n g hz) (hln : ln ≤ 60) (hsg : ∀ k, k < 60 → sg k < 128) (hfn : ff sg ln = 4294967290) : CT κ l yX5_read cX5_read 3 (some .int) 3 64 0 0 [.ref (m 0)] [(m 0, .inr (5, [.ref (m 1), .ref (m 2), .ref (m 3), .int (nI n), .ref (m 4), .ref (m 5), .ref (m 6), .int (nI ln), .ref (m 7), .ref (m 8)])), (m 1, aI κ 333 z), (m 3, aI κ 1332 g), (m 6, aI κ 60 sg)] (PI (fun rr ww => ∃ g2 : Nat → Nat, (HB (rn n) g2 (rh n hz z)) ∧ rr = (nI (nbt (rdn z sg ((ln + 1) / 3)))) ∧ ww = [(m 0, .inr (5, [.ref (m 1), .ref (m 2), .ref (m 3), .int (nI (rn n)), .ref (m 4), .ref (m 5), .ref (m 6), .int (nI 0), .ref (m 7), .ref (m 8)])), (m 1, aI κ 333 (rdn z sg ((ln + 1) / 3))), (m 3, aI κ 1332 g2), (m 6, aI κ 60 sg)])) := by
  refine CT.go (plainFor_of_name (by decide)) (Nat.le_of_ble_eq_true rfl) ?_
  intro Γ A Q hl hc hret
  subst hl
  have hc : Cx κ Γ A cX5_read 3 RX5 "read" (some .int) { frames := 3, cells := 0, slots := 0, locals := 64 } := hc
  refine g_lv (lv' := [(0, .ref (m 0))]) rfl ?_
  obtain ⟨hzb, hzf, hzc, hp, hh, hk1, hk2, hx⟩ := id hv
  refine g_aload_n hc 0 rfl rfl dX5_read_0 (n := 1) rfl ?_
  refine g_callV (rest := []) (As := []) (cells' := 0) (slots' := 0) hc (c_X5_findFault κ _ m n ln sg hln hsg) q_X5_findFault k_ml_RX5_80 rfl rfl (jn_ix (wr := [(m 1, aI κ 333 z), (m 3, aI κ 1332 g)]) [0, 3] [1, 2] rfl rfl rfl rfl (by decide)) (qr := 0) rfl vw_5 ⟨⟨by decide, by decide⟩, by decide, by decide⟩ (Nat.le_of_ble_eq_true rfl) rfl rfl dX5_read_1 (n := 4) rfl (fun vv ww hp => ?_)
  obtain ⟨rr, rfl, rfl, rfl⟩ := hp
  refine ⟨_, rfl, ?_⟩
  refine g_ws (ws' := [(m 1, aI κ 333 z), (m 3, aI κ 1332 g), (m 0, .inr (5, [.ref (m 1), .ref (m 2), .ref (m 3), .int (nI n), .ref (m 4), .ref (m 5), .ref (m 6), .int (nI ln), .ref (m 7), .ref (m 8)])), (m 6, aI κ 60 sg)]) rfl ?_
  refine g_st (st' := [.int (nI (ff sg ln))]) rfl ?_
  refine g_st (st' := [.int (-6)]) (by rw [hfn, show nI 4294967290 = -6 from by decide]) ?_
  obtain ⟨hf3, hfc⟩ : ln % 3 = 2 ∧ ∀ k, k < ln → cst sg k = 1 := by rcases ff_or sg ln with h | ⟨-, h2, h3⟩; exact absurd h (by omega); exact ⟨h2, h3⟩
  refine g_if_lt hc dX5_read_4 (tgt := 10) (by decide) (n := 7) rfl (fun c_1 => ?_) (fun c_1 => by (exfalso; revert c_1; first | omega | decide))
  refine g_aload_n hc 0 rfl rfl dX5_read_10 (n := 11) rfl ?_
  refine g_callV (rest := []) (As := []) (cells' := 0) (slots' := 0) hc (c_X5_record κ _ m n ln z g hz hn hg) q_X5_record k_ml_RX5_47 rfl rfl (jn_ix (wr := [(m 6, aI κ 60 sg)]) [2, 0, 1] [3] rfl rfl rfl rfl (by decide)) (qr := 2) rfl vw_5 ⟨⟨by decide, by decide⟩, by decide, by decide⟩ (Nat.le_of_ble_eq_true rfl) rfl rfl dX5_read_11 (n := 14) rfl (fun vv ww hp => ?_)
  obtain ⟨rfl, g2, hg2, rfl⟩ := hp
  refine ⟨_, rfl, ?_⟩
  refine g_ws (ws' := [(m 6, aI κ 60 sg), (m 0, .inr (5, [.ref (m 1), .ref (m 2), .ref (m 3), .int (nI (rn n)), .ref (m 4), .ref (m 5), .ref (m 6), .int (nI ln), .ref (m 7), .ref (m 8)])), (m 1, aI κ 333 z), (m 3, aI κ 1332 g2)]) rfl ?_
  refine g_st (st' := []) rfl ?_
  refine g_iconst (v := nI 0) hc (by decide) dX5_read_14 (n := 15) rfl ?_
  refine g_istore_n (lv2 := [(0, .ref (m 0)), (1, .int (nI 0))]) hc rfl (by decide) [1, 0] rfl rfl dX5_read_15 (n := 16) rfl ?_
  have L_2 : ∀ (fuel : Nat) (t : Nat), (t ≤ (ln + 1) / 3) → (ln + 1) / 3 - t < fuel → G κ Γ A 3 0 0 Q [(m 6, aI κ 60 sg), (m 0, .inr (5, [.ref (m 1), .ref (m 2), .ref (m 3), .int (nI (rn n)), .ref (m 4), .ref (m 5), .ref (m 6), .int (nI ln), .ref (m 7), .ref (m 8)])), (m 1, aI κ 333 (rdn z sg t)), (m 3, aI κ 1332 g2)] 16 [(0, .ref (m 0)), (1, .int (nI (3 * t)))] [] := by
    intro fuel
    induction fuel with
    | zero => intro t ht h; exact absurd h (Nat.not_lt_zero _)
    | succ fuel ih_3 =>
      intro t ht hn_4
      refine g_iload_n hc 1 rfl rfl dX5_read_16 (n := 17) rfl ?_
      refine g_aload_n hc 0 rfl rfl dX5_read_17 (n := 18) rfl ?_
      refine g_getf hc 1 rfl vw_5 inX5 7 (by decide) k_fl_RX5_83 rfl rfl dX5_read_18 (n := 21) rfl ?_
      refine n_icmp_ge hc (by omega) (by omega) dX5_read_21 (tgt := 75) (by decide) (n := 24) rfl (fun c_5 => ?_) (fun c_5 => ?_)
      · skip
        have e9 : t = (ln + 1) / 3 := by omega
        refine g_ws (ws' := [(m 6, aI κ 60 sg), (m 0, .inr (5, [.ref (m 1), .ref (m 2), .ref (m 3), .int (nI (rn n)), .ref (m 4), .ref (m 5), .ref (m 6), .int (nI ln), .ref (m 7), .ref (m 8)])), (m 1, aI κ 333 (rdn z sg ((ln + 1) / 3))), (m 3, aI κ 1332 g2)]) (by rw [e9]) ?_
        refine g_lsub (lv' := [(0, .ref (m 0))]) [0] rfl ?_
        refine g_aload_n hc 0 rfl rfl dX5_read_75 (n := 76) rfl ?_
        refine g_iconst (v := nI 0) hc (by decide) dX5_read_76 (n := 77) rfl ?_
        refine g_putf (ws' := [(m 6, aI κ 60 sg), (m 0, .inr (5, [.ref (m 1), .ref (m 2), .ref (m 3), .int (nI (rn n)), .ref (m 4), .ref (m 5), .ref (m 6), .int (nI 0), .ref (m 7), .ref (m 8)])), (m 1, aI κ 333 (rdn z sg ((ln + 1) / 3))), (m 3, aI κ 1332 g2)]) hc 1 rfl vw_5 inX5 tyX5_ok nmX5 7 (by decide) k_fl_RX5_83 rfl rfl rfl rfl (Nat.le_of_ble_eq_true rfl) rfl dX5_read_77 (n := 80) rfl ?_
        refine g_aload_n hc 0 rfl rfl dX5_read_80 (n := 81) rfl ?_
        refine g_callV (rest := []) (As := []) (cells' := 0) (slots' := 0) hc (c_X5_bentCards κ _ m (rn n) 0 (rdn z sg ((ln + 1) / 3)) ) q_X5_bentCards k_ml_RX5_77 rfl rfl (jn_ix (wr := [(m 6, aI κ 60 sg), (m 3, aI κ 1332 g2)]) [1, 2] [0, 3] rfl rfl rfl rfl (by decide)) (qr := 1) rfl vw_5 ⟨⟨by decide, by decide⟩, by decide, by decide⟩ (Nat.le_of_ble_eq_true rfl) rfl rfl dX5_read_81 (n := 84) rfl (fun vv ww hp => ?_)
        obtain ⟨rr, rfl, rfl, rfl⟩ := hp
        refine ⟨_, rfl, ?_⟩
        refine g_ws (ws' := [(m 6, aI κ 60 sg), (m 3, aI κ 1332 g2), (m 0, .inr (5, [.ref (m 1), .ref (m 2), .ref (m 3), .int (nI (rn n)), .ref (m 4), .ref (m 5), .ref (m 6), .int (nI 0), .ref (m 7), .ref (m 8)])), (m 1, aI κ 333 (rdn z sg ((ln + 1) / 3)))]) rfl ?_
        refine g_st (st' := [.int (nI (nbt (rdn z sg ((ln + 1) / 3))))]) rfl ?_
        refine g_sub (ws' := [(m 0, .inr (5, [.ref (m 1), .ref (m 2), .ref (m 3), .int (nI (rn n)), .ref (m 4), .ref (m 5), .ref (m 6), .int (nI 0), .ref (m 7), .ref (m 8)])), (m 1, aI κ 333 (rdn z sg ((ln + 1) / 3))), (m 3, aI κ 1332 g2), (m 6, aI κ 60 sg)]) [2, 3, 1, 0] rfl rfl ?_
        refine hret.1 _ _ _ _ _ _ rfl (by decide) (by decide) dX5_read_84 ?_
        exact ⟨_, rfl, g2, (by assumption), rfl, rfl⟩
      · skip
        refine g_bipush (v := nI 13) hc (by decide) dX5_read_24 (n := 26) rfl ?_
        refine g_aload_n hc 0 rfl rfl dX5_read_26 (n := 27) rfl ?_
        refine g_getf hc 1 rfl vw_5 inX5 6 (by decide) k_fl_RX5_26 rfl rfl dX5_read_27 (n := 30) rfl ?_
        refine g_iload_n hc 1 rfl rfl dX5_read_30 (n := 31) rfl ?_
        refine n_iald (v := sg (3 * t)) hc 0 rfl (by omega) (by decide) rfl dX5_read_31 (n := 32) rfl ?_
        refine g_callS (rest := [.int (nI 13)]) (As := [.int (nI (sg (3 * t)))]) (cells' := 0) (slots' := 0) hc (c_X5_suitOf κ _ (sg (3 * t)) (hsg _ (by omega))) q_X5_suitOf k_ml_RX5_86 rfl rfl (jn_ix (wr := [(m 6, aI κ 60 sg), (m 0, .inr (5, [.ref (m 1), .ref (m 2), .ref (m 3), .int (nI (rn n)), .ref (m 4), .ref (m 5), .ref (m 6), .int (nI ln), .ref (m 7), .ref (m 8)])), (m 1, aI κ 333 (rdn z sg t)), (m 3, aI κ 1332 g2)]) [] [0, 1, 2, 3] rfl rfl rfl rfl (by decide)) ⟨⟨by decide, by decide⟩, by decide, by decide⟩ (Nat.le_of_ble_eq_true rfl) rfl rfl dX5_read_32 (n := 35) rfl (fun vv ww hp => ?_)
        obtain ⟨rr, rfl, rfl, rfl⟩ := hp
        refine ⟨_, rfl, ?_⟩
        refine g_ws (ws' := [(m 6, aI κ 60 sg), (m 0, .inr (5, [.ref (m 1), .ref (m 2), .ref (m 3), .int (nI (rn n)), .ref (m 4), .ref (m 5), .ref (m 6), .int (nI ln), .ref (m 7), .ref (m 8)])), (m 1, aI κ 333 (rdn z sg t)), (m 3, aI κ 1332 g2)]) rfl ?_
        refine g_st (st' := [.int (nI (su (sg (3 * t)))), .int (nI 13)]) rfl ?_
        refine n_imul (v := 13 * (su (sg (3 * t)))) hc rfl dX5_read_35 (n := 36) rfl ?_
        refine g_aload_n hc 0 rfl rfl dX5_read_36 (n := 37) rfl ?_
        refine g_getf hc 1 rfl vw_5 inX5 6 (by decide) k_fl_RX5_26 rfl rfl dX5_read_37 (n := 40) rfl ?_
        refine g_iload_n hc 1 rfl rfl dX5_read_40 (n := 41) rfl ?_
        refine g_iconst (v := nI 1) hc (by decide) dX5_read_41 (n := 42) rfl ?_
        refine n_iadd (v := (3 * t) + 1) hc rfl dX5_read_42 (n := 43) rfl ?_
        refine n_iald (v := sg ((3 * t) + 1)) hc 0 rfl (by omega) (by decide) rfl dX5_read_43 (n := 44) rfl ?_
        refine g_callS (rest := [.int (nI (13 * (su (sg (3 * t)))))]) (As := [.int (nI (sg ((3 * t) + 1)))]) (cells' := 0) (slots' := 0) hc (c_X5_rankOf κ _ (sg ((3 * t) + 1)) (hsg _ (by omega))) q_X5_rankOf k_ml_RX5_89 rfl rfl (jn_ix (wr := [(m 6, aI κ 60 sg), (m 0, .inr (5, [.ref (m 1), .ref (m 2), .ref (m 3), .int (nI (rn n)), .ref (m 4), .ref (m 5), .ref (m 6), .int (nI ln), .ref (m 7), .ref (m 8)])), (m 1, aI κ 333 (rdn z sg t)), (m 3, aI κ 1332 g2)]) [] [0, 1, 2, 3] rfl rfl rfl rfl (by decide)) ⟨⟨by decide, by decide⟩, by decide, by decide⟩ (Nat.le_of_ble_eq_true rfl) rfl rfl dX5_read_44 (n := 47) rfl (fun vv ww hp => ?_)
        obtain ⟨rr, rfl, rfl, rfl⟩ := hp
        refine ⟨_, rfl, ?_⟩
        refine g_ws (ws' := [(m 6, aI κ 60 sg), (m 0, .inr (5, [.ref (m 1), .ref (m 2), .ref (m 3), .int (nI (rn n)), .ref (m 4), .ref (m 5), .ref (m 6), .int (nI ln), .ref (m 7), .ref (m 8)])), (m 1, aI κ 333 (rdn z sg t)), (m 3, aI κ 1332 g2)]) rfl ?_
        refine g_st (st' := [.int (nI (rk (sg ((3 * t) + 1)))), .int (nI (13 * (su (sg (3 * t)))))]) rfl ?_
        refine n_iadd (v := (13 * (su (sg (3 * t)))) + (rk (sg ((3 * t) + 1)))) hc rfl dX5_read_47 (n := 48) rfl ?_
        refine g_st (st' := [.int (nI (rdc sg t))]) rfl ?_
        have hrc := rdc_lt hf3 hfc (t := t) (by omega)
        have hrb := rdn_b (sg := sg) hzb t (rdc sg t) hrc
        refine g_istore_n (lv2 := [(0, .ref (m 0)), (1, .int (nI (3 * t))), (2, .int (nI (rdc sg t)))]) hc rfl (by decide) [1, 2, 0] rfl rfl dX5_read_48 (n := 49) rfl ?_
        refine g_aload_n hc 0 rfl rfl dX5_read_49 (n := 50) rfl ?_
        refine g_getf hc 1 rfl vw_5 inX5 0 (by decide) k_fl_RX5_7 rfl rfl dX5_read_50 (n := 53) rfl ?_
        refine g_bipush (v := nI 52) hc (by decide) dX5_read_53 (n := 55) rfl ?_
        refine g_iload_n hc 2 rfl rfl dX5_read_55 (n := 56) rfl ?_
        refine n_iadd (v := 52 + (rdc sg t)) hc rfl dX5_read_56 (n := 57) rfl ?_
        refine g_iconst (v := nI 1) hc (by decide) dX5_read_57 (n := 58) rfl ?_
        refine g_aload_n hc 0 rfl rfl dX5_read_58 (n := 59) rfl ?_
        refine g_getf hc 1 rfl vw_5 inX5 0 (by decide) k_fl_RX5_7 rfl rfl dX5_read_59 (n := 62) rfl ?_
        refine g_bipush (v := nI 52) hc (by decide) dX5_read_62 (n := 64) rfl ?_
        refine g_iload_n hc 2 rfl rfl dX5_read_64 (n := 65) rfl ?_
        refine n_iadd (v := 52 + (rdc sg t)) hc rfl dX5_read_65 (n := 66) rfl ?_
        refine n_iald (v := rdn z sg t (52 + (rdc sg t))) hc 2 rfl (by omega) (by decide) rfl dX5_read_66 (n := 67) rfl ?_
        refine n_isub (v := 1 - (rdn z sg t (52 + (rdc sg t)))) hc (by omega) rfl dX5_read_67 (n := 68) rfl ?_
        refine n_iast (ws' := [(m 6, aI κ 60 sg), (m 0, .inr (5, [.ref (m 1), .ref (m 2), .ref (m 3), .int (nI (rn n)), .ref (m 4), .ref (m 5), .ref (m 6), .int (nI ln), .ref (m 7), .ref (m 8)])), (m 1, aI κ 333 (va_up (rdn z sg t) (52 + (rdc sg t)) (1 - (rdn z sg t (52 + (rdc sg t)))))), (m 3, aI κ 1332 g2)]) hc 2 rfl (by omega) (by decide) rfl dX5_read_68 (n := 69) rfl ?_
        refine g_arr (ws' := [(m 6, aI κ 60 sg), (m 0, .inr (5, [.ref (m 1), .ref (m 2), .ref (m 3), .int (nI (rn n)), .ref (m 4), .ref (m 5), .ref (m 6), .int (nI ln), .ref (m 7), .ref (m 8)])), (m 1, aI κ 333 (rdn z sg (t + 1))), (m 3, aI κ 1332 g2)]) (f := va_up (rdn z sg t) (52 + (rdc sg t)) (1 - (rdn z sg t (52 + (rdc sg t))))) (g := rdn z sg (t + 1)) 2 rfl (fun k hk => rfl) rfl ?_
        refine n_iinc (v := (3 * t) + 3) (zk := 3) (lv2 := [(0, .ref (m 0)), (1, .int (nI ((3 * t) + 3))), (2, .int (nI (rdc sg t)))]) hc 1 rfl (by decide) rfl (by decide) [1, 0, 2] rfl rfl dX5_read_69 (n := 72) rfl ?_
        refine g_goto (n := 16) hc dX5_read_72 (by decide) ?_
        refine g_lv (lv' := [(0, .ref (m 0)), (1, .int (nI (3 * (t + 1)))), (2, .int (nI (rdc sg t)))]) (by rw [show 3 * (t + 1) = 3 * t + 3 from rfl]) ?_
        refine g_lsub (lv' := [(0, .ref (m 0)), (1, .int (nI (3 * (t + 1))))]) [0, 1] rfl ?_
        exact ih_3 (t + 1) (by omega) (by omega)
  exact L_2 _ 0 (by omega) (Nat.lt_succ_self _)
set_option maxHeartbeats 1000000 in
set_option maxRecDepth 100000 in
theorem c_X5_init (κ : Kp) (l : Launch) (d0 : Nat)  : CT κ l yX5_init cX5_init 2 none 1 20 8 2830 [.ref d0] [(d0, .inr (5, [.null, .null, .null, .int (nI 0), .null, .null, .null, .int (nI 0), .null, .null]))] (PV (fun ww => ∃ m : Nat → Nat, (m 0 = d0) ∧ ww = [(m 0, .inr (5, [.ref (m 1), .ref (m 2), .ref (m 3), .int (nI 0), .ref (m 4), .ref (m 5), .ref (m 6), .int (nI 0), .ref (m 7), .ref (m 8)])), (m 1, aI κ 333 zi), (m 2, aI κ 333 (fun _ => 0)), (m 3, aI κ 1332 (fun _ => 0)), (m 4, aI κ 666 (fun _ => 0)), (m 5, aZ κ 2 (fun _ => 0)), (m 6, aI κ 60 (fun _ => 0)), (m 7, aI κ 52 (fun _ => 0)), (m 8, aI κ 52 (fun _ => 0))])) := by
  refine CT.go (plainFor_of_name (by decide)) (Nat.le_of_ble_eq_true rfl) ?_
  intro Γ A Q hl hc hret
  subst hl
  have hc : Cx κ Γ A cX5_init 2 RX5 "<init>" none { frames := 1, cells := 8, slots := 2830, locals := 20 } := hc
  refine g_lv (lv' := [(0, .ref d0)]) rfl ?_
  refine g_aload_n hc 0 rfl rfl dX5_init_0 (n := 1) rfl ?_
  refine g_objInit (rest := []) hc k_ml_RX5_1 ⟨by decide, Nat.le_of_ble_eq_true rfl⟩ dX5_init_1 (n := 4) rfl ?_
  refine g_aload_n hc 0 rfl rfl dX5_init_4 (n := 5) rfl ?_
  refine g_sipush (v := nI 333) hc (by decide) dX5_init_5 (n := 8) rfl ?_
  refine n_newI hc k_ac_int (by decide) ⟨by decide, by decide⟩ (cells' := 1) (slots' := 333) rfl rfl dX5_init_8 (n := 10) rfl (fun q_1 => ?_)
  refine g_ws (ws' := [(d0, .inr (5, [.null, .null, .null, .int (nI 0), .null, .null, .null, .int (nI 0), .null, .null])), (q_1, aI κ 333 (fun _ => 0))]) rfl ?_
  refine g_putF (ws' := [(d0, .inr (5, [.ref q_1, .null, .null, .int (nI 0), .null, .null, .null, .int (nI 0), .null, .null])), (q_1, aI κ 333 (fun _ => 0))]) hc 0 rfl vw_5 inX5 tyX5_ok nmX5 0 (by decide) k_fl_RX5_7 rfl rfl rfl rfl rfl rfl (Nat.le_of_ble_eq_true rfl) rfl dX5_init_10 (n := 13) rfl ?_
  refine g_aload_n hc 0 rfl rfl dX5_init_13 (n := 14) rfl ?_
  refine g_sipush (v := nI 333) hc (by decide) dX5_init_14 (n := 17) rfl ?_
  refine n_newI hc k_ac_int (by decide) ⟨by decide, by decide⟩ (cells' := 2) (slots' := 666) rfl rfl dX5_init_17 (n := 19) rfl (fun q_2 => ?_)
  refine g_ws (ws' := [(d0, .inr (5, [.ref q_1, .null, .null, .int (nI 0), .null, .null, .null, .int (nI 0), .null, .null])), (q_1, aI κ 333 (fun _ => 0)), (q_2, aI κ 333 (fun _ => 0))]) rfl ?_
  refine g_putF (ws' := [(d0, .inr (5, [.ref q_1, .ref q_2, .null, .int (nI 0), .null, .null, .null, .int (nI 0), .null, .null])), (q_1, aI κ 333 (fun _ => 0)), (q_2, aI κ 333 (fun _ => 0))]) hc 0 rfl vw_5 inX5 tyX5_ok nmX5 1 (by decide) k_fl_RX5_13 rfl rfl rfl rfl rfl rfl (Nat.le_of_ble_eq_true rfl) rfl dX5_init_19 (n := 22) rfl ?_
  refine g_aload_n hc 0 rfl rfl dX5_init_22 (n := 23) rfl ?_
  refine g_sipush (v := nI 1332) hc (by decide) dX5_init_23 (n := 26) rfl ?_
  refine n_newI hc k_ac_int (by decide) ⟨by decide, by decide⟩ (cells' := 3) (slots' := 1998) rfl rfl dX5_init_26 (n := 28) rfl (fun q_3 => ?_)
  refine g_ws (ws' := [(d0, .inr (5, [.ref q_1, .ref q_2, .null, .int (nI 0), .null, .null, .null, .int (nI 0), .null, .null])), (q_1, aI κ 333 (fun _ => 0)), (q_2, aI κ 333 (fun _ => 0)), (q_3, aI κ 1332 (fun _ => 0))]) rfl ?_
  refine g_putF (ws' := [(d0, .inr (5, [.ref q_1, .ref q_2, .ref q_3, .int (nI 0), .null, .null, .null, .int (nI 0), .null, .null])), (q_1, aI κ 333 (fun _ => 0)), (q_2, aI κ 333 (fun _ => 0)), (q_3, aI κ 1332 (fun _ => 0))]) hc 0 rfl vw_5 inX5 tyX5_ok nmX5 2 (by decide) k_fl_RX5_16 rfl rfl rfl rfl rfl rfl (Nat.le_of_ble_eq_true rfl) rfl dX5_init_28 (n := 31) rfl ?_
  refine g_aload_n hc 0 rfl rfl dX5_init_31 (n := 32) rfl ?_
  refine g_sipush (v := nI 666) hc (by decide) dX5_init_32 (n := 35) rfl ?_
  refine n_newI hc k_ac_int (by decide) ⟨by decide, by decide⟩ (cells' := 4) (slots' := 2664) rfl rfl dX5_init_35 (n := 37) rfl (fun q_4 => ?_)
  refine g_ws (ws' := [(d0, .inr (5, [.ref q_1, .ref q_2, .ref q_3, .int (nI 0), .null, .null, .null, .int (nI 0), .null, .null])), (q_1, aI κ 333 (fun _ => 0)), (q_2, aI κ 333 (fun _ => 0)), (q_3, aI κ 1332 (fun _ => 0)), (q_4, aI κ 666 (fun _ => 0))]) rfl ?_
  refine g_putF (ws' := [(d0, .inr (5, [.ref q_1, .ref q_2, .ref q_3, .int (nI 0), .ref q_4, .null, .null, .int (nI 0), .null, .null])), (q_1, aI κ 333 (fun _ => 0)), (q_2, aI κ 333 (fun _ => 0)), (q_3, aI κ 1332 (fun _ => 0)), (q_4, aI κ 666 (fun _ => 0))]) hc 0 rfl vw_5 inX5 tyX5_ok nmX5 4 (by decide) k_fl_RX5_19 rfl rfl rfl rfl rfl rfl (Nat.le_of_ble_eq_true rfl) rfl dX5_init_37 (n := 40) rfl ?_
  refine g_aload_n hc 0 rfl rfl dX5_init_40 (n := 41) rfl ?_
  refine g_iconst (v := nI 2) hc (by decide) dX5_init_41 (n := 42) rfl ?_
  refine n_newZ hc k_ac_boolean (by decide) ⟨by decide, by decide⟩ (cells' := 5) (slots' := 2666) rfl rfl dX5_init_42 (n := 44) rfl (fun q_5 => ?_)
  refine g_ws (ws' := [(d0, .inr (5, [.ref q_1, .ref q_2, .ref q_3, .int (nI 0), .ref q_4, .null, .null, .int (nI 0), .null, .null])), (q_1, aI κ 333 (fun _ => 0)), (q_2, aI κ 333 (fun _ => 0)), (q_3, aI κ 1332 (fun _ => 0)), (q_4, aI κ 666 (fun _ => 0)), (q_5, aZ κ 2 (fun _ => 0))]) rfl ?_
  refine g_putF (ws' := [(d0, .inr (5, [.ref q_1, .ref q_2, .ref q_3, .int (nI 0), .ref q_4, .ref q_5, .null, .int (nI 0), .null, .null])), (q_1, aI κ 333 (fun _ => 0)), (q_2, aI κ 333 (fun _ => 0)), (q_3, aI κ 1332 (fun _ => 0)), (q_4, aI κ 666 (fun _ => 0)), (q_5, aZ κ 2 (fun _ => 0))]) hc 0 rfl vw_5 inX5 tyX5_ok nmX5 5 (by decide) k_fl_RX5_22 rfl rfl rfl rfl rfl rfl (Nat.le_of_ble_eq_true rfl) rfl dX5_init_44 (n := 47) rfl ?_
  refine g_aload_n hc 0 rfl rfl dX5_init_47 (n := 48) rfl ?_
  refine g_bipush (v := nI 60) hc (by decide) dX5_init_48 (n := 50) rfl ?_
  refine n_newI hc k_ac_int (by decide) ⟨by decide, by decide⟩ (cells' := 6) (slots' := 2726) rfl rfl dX5_init_50 (n := 52) rfl (fun q_6 => ?_)
  refine g_ws (ws' := [(d0, .inr (5, [.ref q_1, .ref q_2, .ref q_3, .int (nI 0), .ref q_4, .ref q_5, .null, .int (nI 0), .null, .null])), (q_1, aI κ 333 (fun _ => 0)), (q_2, aI κ 333 (fun _ => 0)), (q_3, aI κ 1332 (fun _ => 0)), (q_4, aI κ 666 (fun _ => 0)), (q_5, aZ κ 2 (fun _ => 0)), (q_6, aI κ 60 (fun _ => 0))]) rfl ?_
  refine g_putF (ws' := [(d0, .inr (5, [.ref q_1, .ref q_2, .ref q_3, .int (nI 0), .ref q_4, .ref q_5, .ref q_6, .int (nI 0), .null, .null])), (q_1, aI κ 333 (fun _ => 0)), (q_2, aI κ 333 (fun _ => 0)), (q_3, aI κ 1332 (fun _ => 0)), (q_4, aI κ 666 (fun _ => 0)), (q_5, aZ κ 2 (fun _ => 0)), (q_6, aI κ 60 (fun _ => 0))]) hc 0 rfl vw_5 inX5 tyX5_ok nmX5 6 (by decide) k_fl_RX5_26 rfl rfl rfl rfl rfl rfl (Nat.le_of_ble_eq_true rfl) rfl dX5_init_52 (n := 55) rfl ?_
  refine g_aload_n hc 0 rfl rfl dX5_init_55 (n := 56) rfl ?_
  refine g_bipush (v := nI 52) hc (by decide) dX5_init_56 (n := 58) rfl ?_
  refine n_newI hc k_ac_int (by decide) ⟨by decide, by decide⟩ (cells' := 7) (slots' := 2778) rfl rfl dX5_init_58 (n := 60) rfl (fun q_7 => ?_)
  refine g_ws (ws' := [(d0, .inr (5, [.ref q_1, .ref q_2, .ref q_3, .int (nI 0), .ref q_4, .ref q_5, .ref q_6, .int (nI 0), .null, .null])), (q_1, aI κ 333 (fun _ => 0)), (q_2, aI κ 333 (fun _ => 0)), (q_3, aI κ 1332 (fun _ => 0)), (q_4, aI κ 666 (fun _ => 0)), (q_5, aZ κ 2 (fun _ => 0)), (q_6, aI κ 60 (fun _ => 0)), (q_7, aI κ 52 (fun _ => 0))]) rfl ?_
  refine g_putF (ws' := [(d0, .inr (5, [.ref q_1, .ref q_2, .ref q_3, .int (nI 0), .ref q_4, .ref q_5, .ref q_6, .int (nI 0), .ref q_7, .null])), (q_1, aI κ 333 (fun _ => 0)), (q_2, aI κ 333 (fun _ => 0)), (q_3, aI κ 1332 (fun _ => 0)), (q_4, aI κ 666 (fun _ => 0)), (q_5, aZ κ 2 (fun _ => 0)), (q_6, aI κ 60 (fun _ => 0)), (q_7, aI κ 52 (fun _ => 0))]) hc 0 rfl vw_5 inX5 tyX5_ok nmX5 8 (by decide) k_fl_RX5_29 rfl rfl rfl rfl rfl rfl (Nat.le_of_ble_eq_true rfl) rfl dX5_init_60 (n := 63) rfl ?_
  refine g_aload_n hc 0 rfl rfl dX5_init_63 (n := 64) rfl ?_
  refine g_bipush (v := nI 52) hc (by decide) dX5_init_64 (n := 66) rfl ?_
  refine n_newI hc k_ac_int (by decide) ⟨by decide, by decide⟩ (cells' := 8) (slots' := 2830) rfl rfl dX5_init_66 (n := 68) rfl (fun q_8 => ?_)
  refine g_ws (ws' := [(d0, .inr (5, [.ref q_1, .ref q_2, .ref q_3, .int (nI 0), .ref q_4, .ref q_5, .ref q_6, .int (nI 0), .ref q_7, .null])), (q_1, aI κ 333 (fun _ => 0)), (q_2, aI κ 333 (fun _ => 0)), (q_3, aI κ 1332 (fun _ => 0)), (q_4, aI κ 666 (fun _ => 0)), (q_5, aZ κ 2 (fun _ => 0)), (q_6, aI κ 60 (fun _ => 0)), (q_7, aI κ 52 (fun _ => 0)), (q_8, aI κ 52 (fun _ => 0))]) rfl ?_
  refine g_putF (ws' := [(d0, .inr (5, [.ref q_1, .ref q_2, .ref q_3, .int (nI 0), .ref q_4, .ref q_5, .ref q_6, .int (nI 0), .ref q_7, .ref q_8])), (q_1, aI κ 333 (fun _ => 0)), (q_2, aI κ 333 (fun _ => 0)), (q_3, aI κ 1332 (fun _ => 0)), (q_4, aI κ 666 (fun _ => 0)), (q_5, aZ κ 2 (fun _ => 0)), (q_6, aI κ 60 (fun _ => 0)), (q_7, aI κ 52 (fun _ => 0)), (q_8, aI κ 52 (fun _ => 0))]) hc 0 rfl vw_5 inX5 tyX5_ok nmX5 9 (by decide) k_fl_RX5_32 rfl rfl rfl rfl rfl rfl (Nat.le_of_ble_eq_true rfl) rfl dX5_init_68 (n := 71) rfl ?_
  refine g_iconst (v := nI 0) hc (by decide) dX5_init_71 (n := 72) rfl ?_
  refine g_istore_n (lv2 := [(0, .ref d0), (1, .int (nI 0))]) hc rfl (by decide) [1, 0] rfl rfl dX5_init_72 (n := 73) rfl ?_
  have L_9 : ∀ (fuel : Nat) (i : Nat) (y : Nat → Nat), (i ≤ 52) → (∀ k, k < i → y k = k) → (∀ k, i ≤ k → y k = 0) → 52 - i < fuel → G κ Γ A 2 8 2830 Q [(d0, .inr (5, [.ref q_1, .ref q_2, .ref q_3, .int (nI 0), .ref q_4, .ref q_5, .ref q_6, .int (nI 0), .ref q_7, .ref q_8])), (q_1, aI κ 333 y), (q_2, aI κ 333 (fun _ => 0)), (q_3, aI κ 1332 (fun _ => 0)), (q_4, aI κ 666 (fun _ => 0)), (q_5, aZ κ 2 (fun _ => 0)), (q_6, aI κ 60 (fun _ => 0)), (q_7, aI κ 52 (fun _ => 0)), (q_8, aI κ 52 (fun _ => 0))] 73 [(0, .ref d0), (1, .int (nI i))] [] := by
    intro fuel
    induction fuel with
    | zero => intro i y hi h1 h2 h; exact absurd h (Nat.not_lt_zero _)
    | succ fuel ih_10 =>
      intro i y hi h1 h2 hn_11
      refine g_iload_n hc 1 rfl rfl dX5_init_73 (n := 74) rfl ?_
      refine g_bipush (v := nI 52) hc (by decide) dX5_init_74 (n := 76) rfl ?_
      refine n_icmp_ge hc (by omega) (by omega) dX5_init_76 (tgt := 92) (by decide) (n := 79) rfl (fun c_12 => ?_) (fun c_12 => ?_)
      · skip
        refine g_aload_n hc 0 rfl rfl dX5_init_92 (n := 93) rfl ?_
        refine g_getf hc 0 rfl vw_5 inX5 0 (by decide) k_fl_RX5_7 rfl rfl dX5_init_93 (n := 96) rfl ?_
        refine g_sipush (v := nI 324) hc (by decide) dX5_init_96 (n := 99) rfl ?_
        refine g_bipush (v := nI 8) hc (by decide) dX5_init_99 (n := 101) rfl ?_
        refine n_iast (ws' := [(d0, .inr (5, [.ref q_1, .ref q_2, .ref q_3, .int (nI 0), .ref q_4, .ref q_5, .ref q_6, .int (nI 0), .ref q_7, .ref q_8])), (q_1, aI κ 333 (va_up y 324 8)), (q_2, aI κ 333 (fun _ => 0)), (q_3, aI κ 1332 (fun _ => 0)), (q_4, aI κ 666 (fun _ => 0)), (q_5, aZ κ 2 (fun _ => 0)), (q_6, aI κ 60 (fun _ => 0)), (q_7, aI κ 52 (fun _ => 0)), (q_8, aI κ 52 (fun _ => 0))]) hc 1 rfl (by omega) (by decide) rfl dX5_init_101 (n := 102) rfl ?_
        refine g_aload_n hc 0 rfl rfl dX5_init_102 (n := 103) rfl ?_
        refine g_getf hc 0 rfl vw_5 inX5 0 (by decide) k_fl_RX5_7 rfl rfl dX5_init_103 (n := 106) rfl ?_
        refine g_sipush (v := nI 325) hc (by decide) dX5_init_106 (n := 109) rfl ?_
        refine g_iconst (v := nI 3) hc (by decide) dX5_init_109 (n := 110) rfl ?_
        refine n_iast (ws' := [(d0, .inr (5, [.ref q_1, .ref q_2, .ref q_3, .int (nI 0), .ref q_4, .ref q_5, .ref q_6, .int (nI 0), .ref q_7, .ref q_8])), (q_1, aI κ 333 (va_up (va_up y 324 8) 325 3)), (q_2, aI κ 333 (fun _ => 0)), (q_3, aI κ 1332 (fun _ => 0)), (q_4, aI κ 666 (fun _ => 0)), (q_5, aZ κ 2 (fun _ => 0)), (q_6, aI κ 60 (fun _ => 0)), (q_7, aI κ 52 (fun _ => 0)), (q_8, aI κ 52 (fun _ => 0))]) hc 1 rfl (by omega) (by decide) rfl dX5_init_110 (n := 111) rfl ?_
        refine g_aload_n hc 0 rfl rfl dX5_init_111 (n := 112) rfl ?_
        refine g_getf hc 0 rfl vw_5 inX5 0 (by decide) k_fl_RX5_7 rfl rfl dX5_init_112 (n := 115) rfl ?_
        refine g_sipush (v := nI 326) hc (by decide) dX5_init_115 (n := 118) rfl ?_
        refine g_iconst (v := nI 1) hc (by decide) dX5_init_118 (n := 119) rfl ?_
        refine n_iast (ws' := [(d0, .inr (5, [.ref q_1, .ref q_2, .ref q_3, .int (nI 0), .ref q_4, .ref q_5, .ref q_6, .int (nI 0), .ref q_7, .ref q_8])), (q_1, aI κ 333 (va_up (va_up (va_up y 324 8) 325 3) 326 1)), (q_2, aI κ 333 (fun _ => 0)), (q_3, aI κ 1332 (fun _ => 0)), (q_4, aI κ 666 (fun _ => 0)), (q_5, aZ κ 2 (fun _ => 0)), (q_6, aI κ 60 (fun _ => 0)), (q_7, aI κ 52 (fun _ => 0)), (q_8, aI κ 52 (fun _ => 0))]) hc 1 rfl (by omega) (by decide) rfl dX5_init_119 (n := 120) rfl ?_
        refine g_aload_n hc 0 rfl rfl dX5_init_120 (n := 121) rfl ?_
        refine g_getf hc 0 rfl vw_5 inX5 0 (by decide) k_fl_RX5_7 rfl rfl dX5_init_121 (n := 124) rfl ?_
        refine g_sipush (v := nI 328) hc (by decide) dX5_init_124 (n := 127) rfl ?_
        refine g_bipush (v := nI 4294967290) hc (by decide) dX5_init_127 (n := 129) rfl ?_
        refine n_iast (ws' := [(d0, .inr (5, [.ref q_1, .ref q_2, .ref q_3, .int (nI 0), .ref q_4, .ref q_5, .ref q_6, .int (nI 0), .ref q_7, .ref q_8])), (q_1, aI κ 333 (va_up (va_up (va_up (va_up y 324 8) 325 3) 326 1) 328 4294967290)), (q_2, aI κ 333 (fun _ => 0)), (q_3, aI κ 1332 (fun _ => 0)), (q_4, aI κ 666 (fun _ => 0)), (q_5, aZ κ 2 (fun _ => 0)), (q_6, aI κ 60 (fun _ => 0)), (q_7, aI κ 52 (fun _ => 0)), (q_8, aI κ 52 (fun _ => 0))]) hc 1 rfl (by omega) (by decide) rfl dX5_init_129 (n := 130) rfl ?_
        refine g_sub (ws' := [(d0, .inr (5, [.ref q_1, .ref q_2, .ref q_3, .int (nI 0), .ref q_4, .ref q_5, .ref q_6, .int (nI 0), .ref q_7, .ref q_8])), (q_1, aI κ 333 (va_up (va_up (va_up (va_up y 324 8) 325 3) 326 1) 328 4294967290)), (q_2, aI κ 333 (fun _ => 0)), (q_3, aI κ 1332 (fun _ => 0)), (q_4, aI κ 666 (fun _ => 0)), (q_5, aZ κ 2 (fun _ => 0)), (q_6, aI κ 60 (fun _ => 0)), (q_7, aI κ 52 (fun _ => 0)), (q_8, aI κ 52 (fun _ => 0))]) [0, 1, 2, 3, 4, 5, 6, 7, 8] rfl rfl ?_
        refine g_arr (ws' := [(d0, .inr (5, [.ref q_1, .ref q_2, .ref q_3, .int (nI 0), .ref q_4, .ref q_5, .ref q_6, .int (nI 0), .ref q_7, .ref q_8])), (q_1, aI κ 333 zi), (q_2, aI κ 333 (fun _ => 0)), (q_3, aI κ 1332 (fun _ => 0)), (q_4, aI κ 666 (fun _ => 0)), (q_5, aZ κ 2 (fun _ => 0)), (q_6, aI κ 60 (fun _ => 0)), (q_7, aI κ 52 (fun _ => 0)), (q_8, aI κ 52 (fun _ => 0))]) (f := va_up (va_up (va_up (va_up y 324 8) 325 3) 326 1) 328 4294967290) (g := zi) 1 rfl (fun k hk => by unfold va_up zi; by_cases q : k < 52; (rw [if_neg (by omega), if_neg (by omega), if_neg (by omega), if_neg (by omega), if_pos q]; exact h1 k (by omega)); (rw [if_neg q]; (repeat' split) <;> first | rfl | (exfalso; omega) | exact h2 k (by omega))) rfl ?_
        refine hret.2.2.1 _ _ _ _ _ rfl (by decide) (by decide) dX5_init_130 ?_
        exact ⟨rfl, (fun k => ([d0, q_1, q_2, q_3, q_4, q_5, q_6, q_7, q_8] : List Nat).getD k 0), rfl, rfl⟩
      · skip
        refine g_aload_n hc 0 rfl rfl dX5_init_79 (n := 80) rfl ?_
        refine g_getf hc 0 rfl vw_5 inX5 0 (by decide) k_fl_RX5_7 rfl rfl dX5_init_80 (n := 83) rfl ?_
        refine g_iload_n hc 1 rfl rfl dX5_init_83 (n := 84) rfl ?_
        refine g_iload_n hc 1 rfl rfl dX5_init_84 (n := 85) rfl ?_
        refine n_iast (ws' := [(d0, .inr (5, [.ref q_1, .ref q_2, .ref q_3, .int (nI 0), .ref q_4, .ref q_5, .ref q_6, .int (nI 0), .ref q_7, .ref q_8])), (q_1, aI κ 333 (va_up y i i)), (q_2, aI κ 333 (fun _ => 0)), (q_3, aI κ 1332 (fun _ => 0)), (q_4, aI κ 666 (fun _ => 0)), (q_5, aZ κ 2 (fun _ => 0)), (q_6, aI κ 60 (fun _ => 0)), (q_7, aI κ 52 (fun _ => 0)), (q_8, aI κ 52 (fun _ => 0))]) hc 1 rfl (by omega) (by decide) rfl dX5_init_85 (n := 86) rfl ?_
        refine n_iinc (v := i + 1) (zk := 1) (lv2 := [(0, .ref d0), (1, .int (nI (i + 1)))]) hc 1 rfl (by decide) rfl (by decide) [1, 0] rfl rfl dX5_init_86 (n := 89) rfl ?_
        refine g_goto (n := 73) hc dX5_init_89 (by decide) ?_
        exact ih_10 (i + 1) (va_up y i i) (by omega) (fun k hk => (Nat.lt_succ_iff_lt_or_eq.mp hk).elim (fun q => (va_up_ne _ _ (by omega)).trans (h1 k q)) (fun q => by subst q; exact va_up_self _ _ _)) (fun k hk => (va_up_ne _ _ (by omega)).trans (h2 k (by omega))) (by omega)
  exact L_9 _ 0 (fun _ => 0) (by omega) (fun k hk => absurd hk (Nat.not_lt_zero _)) (fun k hk => rfl) (Nat.lt_succ_self _)
