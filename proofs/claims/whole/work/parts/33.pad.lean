set_option maxHeartbeats 1000000 in
set_option maxRecDepth 100000 in
theorem c_J0_coder (κ : Kp) (l : Launch) (si : Nat) (hsi : si < 2) : CT κ l yJ0_coder_7d493 cJ0_coder_7d493 1 (some .byte) 0 0 0 0 [.ref (κ.2.2 (3 + si))] [] (PI (fun rr ww => rr = (nI 0) ∧ ww = [])) := by
  refine CT.go (by decide +kernel) (Nat.le_of_ble_eq_true rfl) ?_
  intro Γ A Q hl hc hret
  subst hl
  have hc : Cx κ Γ A cJ0_coder_7d493 1 RJ0 "coder" (some .byte) { frames := 0, cells := 0, slots := 0, locals := 0 } := hc
  refine g_lv (lv' := [(0, .ref (κ.2.2 (3 + si)))]) rfl ?_
  refine g_gets (v := .int (nI 1)) hc hc.en.2.2.2.1 k_fl_RJ0_38 rfl dJ0_coder_7d493_0 (n := 3) rfl ?_
  refine n_if_eq hc (by omega) dJ0_coder_7d493_3 (tgt := 13) (by decide) (n := 6) rfl (fun c_1 => by (exfalso; revert c_1; first | omega | decide)) (fun c_1 => ?_)
  refine g_aload_n hc 0 rfl rfl dJ0_coder_7d493_6 (n := 7) rfl ?_
  refine g_strc (si := si) hc hsi k_fl_RJ0_15 dJ0_coder_7d493_7 (n := 10) rfl ?_
  refine g_goto (n := 14) hc dJ0_coder_7d493_10 (by decide) ?_
  refine hret.2.1 _ _ _ _ _ _ _ rfl rfl (by decide) (by decide) dJ0_coder_7d493_14 ?_
  exact ⟨_, rfl, rfl, rfl⟩
set_option maxHeartbeats 1000000 in
set_option maxRecDepth 100000 in
theorem c_J0_isLatin1 (κ : Kp) (l : Launch) (si : Nat) (hsi : si < 2) : CT κ l yJ0_isLatin1_aae02 cJ0_isLatin1_aae02 1 (some .boolean) 0 0 0 0 [.ref (κ.2.2 (3 + si))] [] (PI (fun rr ww => rr = (nI 1) ∧ ww = [])) := by
  refine CT.go (by decide +kernel) (Nat.le_of_ble_eq_true rfl) ?_
  intro Γ A Q hl hc hret
  subst hl
  have hc : Cx κ Γ A cJ0_isLatin1_aae02 1 RJ0 "isLatin1" (some .boolean) { frames := 0, cells := 0, slots := 0, locals := 0 } := hc
  refine g_lv (lv' := [(0, .ref (κ.2.2 (3 + si)))]) rfl ?_
  refine g_gets (v := .int (nI 1)) hc hc.en.2.2.2.1 k_fl_RJ0_38 rfl dJ0_isLatin1_aae02_0 (n := 3) rfl ?_
  refine n_if_eq hc (by omega) dJ0_isLatin1_aae02_3 (tgt := 17) (by decide) (n := 6) rfl (fun c_1 => by (exfalso; revert c_1; first | omega | decide)) (fun c_1 => ?_)
  refine g_aload_n hc 0 rfl rfl dJ0_isLatin1_aae02_6 (n := 7) rfl ?_
  refine g_strc (si := si) hc hsi k_fl_RJ0_15 dJ0_isLatin1_aae02_7 (n := 10) rfl ?_
  refine n_if_ne hc (by omega) dJ0_isLatin1_aae02_10 (tgt := 17) (by decide) (n := 13) rfl (fun c_2 => by (exfalso; revert c_2; first | omega | decide)) (fun c_2 => ?_)
  refine g_iconst (v := nI 1) hc (by decide) dJ0_isLatin1_aae02_13 (n := 14) rfl ?_
  refine g_goto (n := 18) hc dJ0_isLatin1_aae02_14 (by decide) ?_
  refine hret.2.1 _ _ _ _ _ _ _ rfl rfl (by decide) (by decide) dJ0_isLatin1_aae02_18 ?_
  exact ⟨_, rfl, rfl, rfl⟩
set_option maxHeartbeats 1000000 in
set_option maxRecDepth 100000 in
theorem c_J0_length (κ : Kp) (l : Launch) (si : Nat) (hsi : si < 2) : CT κ l yJ0_length_8abf5 cJ0_length_8abf5 1 (some .int) 1 20 0 0 [.ref (κ.2.2 (3 + si))] [] (PI (fun rr ww => rr = (nI (sgl si)) ∧ ww = [])) := by
  refine CT.go (by decide +kernel) (Nat.le_of_ble_eq_true rfl) ?_
  intro Γ A Q hl hc hret
  subst hl
  have hc : Cx κ Γ A cJ0_length_8abf5 1 RJ0 "length" (some .int) { frames := 1, cells := 0, slots := 0, locals := 20 } := hc
  refine g_lv (lv' := [(0, .ref (κ.2.2 (3 + si)))]) rfl ?_
  refine g_aload_n hc 0 rfl rfl dJ0_length_8abf5_0 (n := 1) rfl ?_
  refine g_strv (si := si) hc hsi k_fl_RJ0_9 dJ0_length_8abf5_1 (n := 4) rfl ?_
  refine g_strl (si := si) hc hsi dJ0_length_8abf5_4 (n := 5) rfl ?_
  refine g_aload_n hc 0 rfl rfl dJ0_length_8abf5_5 (n := 6) rfl ?_
  refine g_callT (rest := [.int (nI (sgl si))]) (As := []) (cells' := 0) (slots' := 0) hc (si := si) (hsi) (c_J0_coder κ _ si hsi) q_J0_coder_7d493 k_ml_RJ0_335 rfl rfl (jn_ix (wr := []) [] [] rfl rfl rfl rfl (by decide)) rfl ⟨⟨by decide, by decide⟩, by decide, by decide⟩ (Nat.le_of_ble_eq_true rfl) rfl rfl dJ0_length_8abf5_6 (n := 9) rfl (fun vv ww hp => ?_)
  obtain ⟨rr, rfl, rfl, rfl⟩ := hp
  refine ⟨_, rfl, ?_⟩
  refine g_ws (ws' := []) rfl ?_
  refine g_st (st' := [.int (nI 0), .int (nI (sgl si))]) rfl ?_
  refine g_ishr (v := (nI (sgl si))) hc (sc_shr0 (by have := (sgl_le si hsi).2; omega)) dJ0_length_8abf5_9 (n := 10) rfl ?_
  refine hret.1 _ _ _ _ _ _ rfl (by decide) (by decide) dJ0_length_8abf5_10 ?_
  exact ⟨_, rfl, rfl, rfl⟩
set_option maxHeartbeats 1000000 in
set_option maxRecDepth 100000 in
theorem c_J1_canEncode (κ : Kp) (l : Launch) (c : Nat) (hcc : c < 128) : CT κ l yJ1_canEncode_9a6ad cJ1_canEncode_9a6ad 1 (some .boolean) 0 0 0 0 [.int (nI c)] [] (PI (fun rr ww => rr = (nI 1) ∧ ww = [])) := by
  refine CT.go (by decide +kernel) (Nat.le_of_ble_eq_true rfl) ?_
  intro Γ A Q hl hc hret
  subst hl
  have hc : Cx κ Γ A cJ1_canEncode_9a6ad 1 RJ1 "canEncode" (some .boolean) { frames := 0, cells := 0, slots := 0, locals := 0 } := hc
  refine g_lv (lv' := [(0, .int (nI c))]) rfl ?_
  refine g_iload_n hc 0 rfl rfl dJ1_canEncode_9a6ad_0 (n := 1) rfl ?_
  refine n_if_lt hc (by omega) dJ1_canEncode_9a6ad_1 (tgt := 15) (by decide) (n := 4) rfl ?_
  refine g_iload_n hc 0 rfl rfl dJ1_canEncode_9a6ad_4 (n := 5) rfl ?_
  refine g_sipush (v := nI 255) hc (by decide) dJ1_canEncode_9a6ad_5 (n := 8) rfl ?_
  refine n_icmp_gt hc (by omega) (by omega) dJ1_canEncode_9a6ad_8 (tgt := 15) (by decide) (n := 11) rfl (fun c_2 => by (exfalso; revert c_2; first | omega | decide)) (fun c_2 => ?_)
  refine g_iconst (v := nI 1) hc (by decide) dJ1_canEncode_9a6ad_11 (n := 12) rfl ?_
  refine g_goto (n := 16) hc dJ1_canEncode_9a6ad_12 (by decide) ?_
  refine hret.2.1 _ _ _ _ _ _ _ rfl rfl (by decide) (by decide) dJ1_canEncode_9a6ad_16 ?_
  exact ⟨_, rfl, rfl, rfl⟩
set_option maxHeartbeats 1000000 in
set_option maxRecDepth 100000 in
theorem c_J9_min (κ : Kp) (l : Launch) (x : Int32) (y : Int32)  : CT κ l yJ9_min_7cf53 cJ9_min_7cf53 2 (some .int) 0 0 0 0 [.int x, .int y] [] (PI (fun rr ww => rr = (if y < x then y else x) ∧ ww = [])) := by
  refine CT.go (by decide +kernel) (Nat.le_of_ble_eq_true rfl) ?_
  intro Γ A Q hl hc hret
  subst hl
  have hc : Cx κ Γ A cJ9_min_7cf53 2 RJ9 "min" (some .int) { frames := 0, cells := 0, slots := 0, locals := 0 } := hc
  refine g_lv (lv' := [(0, .int x), (1, .int y)]) rfl ?_
  refine g_iload_n hc 0 rfl rfl dJ9_min_7cf53_0 (n := 1) rfl ?_
  refine g_iload_n hc 1 rfl rfl dJ9_min_7cf53_1 (n := 2) rfl ?_
  refine g_icmp_gt hc dJ9_min_7cf53_2 (tgt := 9) (by decide) (n := 5) rfl (fun c_1 => ?_) (fun c_1 => ?_)
  · skip
    refine g_iload_n hc 1 rfl rfl dJ9_min_7cf53_9 (n := 10) rfl ?_
    refine hret.1 _ _ _ _ _ _ rfl (by decide) (by decide) dJ9_min_7cf53_10 ?_
    exact ⟨_, rfl, ((if_pos (by assumption)).symm), rfl⟩
  · skip
    refine g_iload_n hc 0 rfl rfl dJ9_min_7cf53_5 (n := 6) rfl ?_
    refine g_goto (n := 10) hc dJ9_min_7cf53_6 (by decide) ?_
    refine hret.1 _ _ _ _ _ _ rfl (by decide) (by decide) dJ9_min_7cf53_10 ?_
    exact ⟨_, rfl, ((if_neg (by assumption)).symm), rfl⟩
set_option maxHeartbeats 1000000 in
set_option maxRecDepth 100000 in
theorem c_J1_indexOfChar (κ : Kp) (l : Launch) (si : Nat) (c : Nat) (hsi : si < 2) (hcc : c < 128) : CT κ l yJ1_indexOfChar_4cfef cJ1_indexOfChar_4cfef 6 (some .int) 0 0 0 0 [.ref (κ.2.2 (5 + si)), .int (nI c), .int (nI 0), .int (nI (sgl si))] [] (PI (fun rr ww => rr = (nI (ixs si c)) ∧ ww = [])) := by
  refine CT.go (by decide +kernel) (Nat.le_of_ble_eq_true rfl) ?_
  intro Γ A Q hl hc hret
  subst hl
  have hc : Cx κ Γ A cJ1_indexOfChar_4cfef 6 RJ1 "indexOfChar" (some .int) { frames := 0, cells := 0, slots := 0, locals := 0 } := hc
  refine g_lv (lv' := [(0, .ref (κ.2.2 (5 + si))), (1, .int (nI c)), (2, .int (nI 0)), (3, .int (nI (sgl si)))]) rfl ?_
  have hsl := sgl_le si hsi
  refine g_iload_n hc 1 rfl rfl dJ1_indexOfChar_4cfef_0 (n := 1) rfl ?_
  refine g_i2b (v := (nI c)) hc (byte_small c hcc) dJ1_indexOfChar_4cfef_1 (n := 2) rfl ?_
  refine g_istore (lv2 := [(0, .ref (κ.2.2 (5 + si))), (1, .int (nI c)), (2, .int (nI 0)), (3, .int (nI (sgl si))), (4, .int (nI c))]) hc (by decide) [1, 2, 3, 4, 0] rfl rfl dJ1_indexOfChar_4cfef_2 (n := 4) rfl ?_
  refine g_iload_n hc 2 rfl rfl dJ1_indexOfChar_4cfef_4 (n := 5) rfl ?_
  refine g_istore (lv2 := [(0, .ref (κ.2.2 (5 + si))), (1, .int (nI c)), (2, .int (nI 0)), (3, .int (nI (sgl si))), (4, .int (nI c)), (5, .int (nI 0))]) hc (by decide) [1, 2, 3, 4, 5, 0] rfl rfl dJ1_indexOfChar_4cfef_5 (n := 7) rfl ?_
  have L_1 : ∀ (fuel : Nat) (i : Nat), (i ≤ sgl si) → (ixs si c = ixr (sgf si) c (sgl si - i) i) → sgl si - i < fuel → G κ Γ A 6 0 0 Q [] 7 [(0, .ref (κ.2.2 (5 + si))), (1, .int (nI c)), (2, .int (nI 0)), (3, .int (nI (sgl si))), (4, .int (nI c)), (5, .int (nI i))] [] := by
    intro fuel
    induction fuel with
    | zero => intro i hi hx h; exact absurd h (Nat.not_lt_zero _)
    | succ fuel ih_2 =>
      intro i hi hx hn_3
      refine g_iload hc 5 rfl dJ1_indexOfChar_4cfef_7 (n := 9) rfl ?_
      refine g_iload_n hc 3 rfl rfl dJ1_indexOfChar_4cfef_9 (n := 10) rfl ?_
      refine n_icmp_ge hc (by omega) (by omega) dJ1_indexOfChar_4cfef_10 (tgt := 31) (by decide) (n := 13) rfl (fun c_4 => ?_) (fun c_4 => ?_)
      · skip
        refine g_iconst (v := nI 4294967295) hc (by decide) dJ1_indexOfChar_4cfef_31 (n := 32) rfl ?_
        refine hret.1 _ _ _ _ _ _ rfl (by decide) (by decide) dJ1_indexOfChar_4cfef_32 ?_
        exact ⟨_, rfl, (by rw [hx, show sgl si - i = 0 from by omega]; rfl), rfl⟩
      · skip
        refine g_aload_n hc 0 rfl rfl dJ1_indexOfChar_4cfef_13 (n := 14) rfl ?_
        refine g_iload hc 5 rfl dJ1_indexOfChar_4cfef_14 (n := 16) rfl ?_
        refine g_strb (si := si) hc hsi (by omega) dJ1_indexOfChar_4cfef_16 (n := 17) rfl ?_
        have hb := sgf_lt si hsi i (by omega)
        refine g_iload hc 4 rfl dJ1_indexOfChar_4cfef_17 (n := 19) rfl ?_
        refine n_icmp_ne hc (by omega) (by omega) dJ1_indexOfChar_4cfef_19 (tgt := 25) (by decide) (n := 22) rfl (fun c_5 => ?_) (fun c_5 => ?_)
        · skip
          refine n_iinc (v := i + 1) (zk := 1) (lv2 := [(0, .ref (κ.2.2 (5 + si))), (1, .int (nI c)), (2, .int (nI 0)), (3, .int (nI (sgl si))), (4, .int (nI c)), (5, .int (nI (i + 1)))]) hc 5 rfl (by decide) rfl (by decide) [1, 2, 3, 4, 5, 0] rfl rfl dJ1_indexOfChar_4cfef_25 (n := 28) rfl ?_
          refine g_goto (n := 7) hc dJ1_indexOfChar_4cfef_28 (by decide) ?_
          exact ih_2 (i + 1) (by omega) (by rw [hx, show sgl si - i = (sgl si - (i + 1)) + 1 from by omega, ixr, if_neg (by assumption)]) (by omega)
        · skip
          refine g_iload hc 5 rfl dJ1_indexOfChar_4cfef_22 (n := 24) rfl ?_
          refine hret.1 _ _ _ _ _ _ rfl (by decide) (by decide) dJ1_indexOfChar_4cfef_24 ?_
          exact ⟨_, rfl, (by rw [hx, show sgl si - i = (sgl si - (i + 1)) + 1 from by omega, ixr, if_pos (by assumption)]), rfl⟩
  exact L_1 _ 0 (by omega) (rfl) (Nat.lt_succ_self _)
set_option maxHeartbeats 1000000 in
set_option maxRecDepth 100000 in
theorem c_J1_indexOf (κ : Kp) (l : Launch) (si : Nat) (c : Nat) (hsi : si < 2) (hcc : c < 128) : CT κ l yJ1_indexOf_4cfef cJ1_indexOf_4cfef 4 (some .int) 1 25 0 0 [.ref (κ.2.2 (5 + si)), .int (nI c), .int (nI 0), .int (nI (sgl si))] [] (PI (fun rr ww => rr = (nI (ixs si c)) ∧ ww = [])) := by
  refine CT.go (by decide +kernel) (Nat.le_of_ble_eq_true rfl) ?_
  intro Γ A Q hl hc hret
  subst hl
  have hc : Cx κ Γ A cJ1_indexOf_4cfef 4 RJ1 "indexOf" (some .int) { frames := 1, cells := 0, slots := 0, locals := 25 } := hc
  refine g_lv (lv' := [(0, .ref (κ.2.2 (5 + si))), (1, .int (nI c)), (2, .int (nI 0)), (3, .int (nI (sgl si)))]) rfl ?_
  have hsl := sgl_le si hsi
  refine g_iload_n hc 1 rfl rfl dJ1_indexOf_4cfef_0 (n := 1) rfl ?_
  refine g_callS (rest := []) (As := [.int (nI c)]) (cells' := 0) (slots' := 0) hc (c_J1_canEncode κ _ c hcc) q_J1_canEncode_9a6ad k_ml_RJ1_88 rfl rfl (jn_ix (wr := []) [] [] rfl rfl rfl rfl (by decide)) ⟨⟨by decide, by decide⟩, by decide, by decide⟩ (Nat.le_of_ble_eq_true rfl) rfl rfl dJ1_indexOf_4cfef_1 (n := 4) rfl (fun vv ww hp => ?_)
  obtain ⟨rr, rfl, rfl, rfl⟩ := hp
  refine ⟨_, rfl, ?_⟩
  refine g_ws (ws' := []) rfl ?_
  refine g_st (st' := [.int (nI 1)]) rfl ?_
  refine n_if_ne hc (by omega) dJ1_indexOf_4cfef_4 (tgt := 9) (by decide) (n := 7) rfl (fun c_1 => ?_) (fun c_1 => by (exfalso; revert c_1; first | omega | decide))
  refine g_iload_n hc 2 rfl rfl dJ1_indexOf_4cfef_9 (n := 10) rfl ?_
  refine g_iconst (v := nI 0) hc (by decide) dJ1_indexOf_4cfef_10 (n := 11) rfl ?_
  refine g_callS (rest := []) (As := [.int (nI 0), .int (nI 0)]) (cells' := 0) (slots' := 0) hc (c_J9_max κ _ (nI 0) (nI 0)) q_J9_max_7cf53 k_ml_RJ1_92 rfl rfl (jn_ix (wr := []) [] [] rfl rfl rfl rfl (by decide)) ⟨⟨by decide, by decide⟩, by decide, by decide⟩ (Nat.le_of_ble_eq_true rfl) rfl rfl dJ1_indexOf_4cfef_11 (n := 14) rfl (fun vv ww hp => ?_)
  obtain ⟨rr, rfl, rfl, rfl⟩ := hp
  refine ⟨_, rfl, ?_⟩
  refine g_ws (ws' := []) rfl ?_
  refine g_st (st' := [.int (if (nI 0) < (nI 0) then (nI 0) else (nI 0))]) rfl ?_
  refine g_top (y := nI 0) (by decide) ?_
  refine g_istore_n (lv2 := [(0, .ref (κ.2.2 (5 + si))), (1, .int (nI c)), (2, .int (nI 0)), (3, .int (nI (sgl si)))]) hc rfl (by decide) [1, 2, 0, 3] rfl rfl dJ1_indexOf_4cfef_14 (n := 15) rfl ?_
  refine g_iload_n hc 3 rfl rfl dJ1_indexOf_4cfef_15 (n := 16) rfl ?_
  refine g_aload_n hc 0 rfl rfl dJ1_indexOf_4cfef_16 (n := 17) rfl ?_
  refine g_strl (si := si) hc hsi dJ1_indexOf_4cfef_17 (n := 18) rfl ?_
  refine g_callS (rest := []) (As := [.int (nI (sgl si)), .int (nI (sgl si))]) (cells' := 0) (slots' := 0) hc (c_J9_min κ _ (nI (sgl si)) (nI (sgl si))) q_J9_min_7cf53 k_ml_RJ1_38 rfl rfl (jn_ix (wr := []) [] [] rfl rfl rfl rfl (by decide)) ⟨⟨by decide, by decide⟩, by decide, by decide⟩ (Nat.le_of_ble_eq_true rfl) rfl rfl dJ1_indexOf_4cfef_18 (n := 21) rfl (fun vv ww hp => ?_)
  obtain ⟨rr, rfl, rfl, rfl⟩ := hp
  refine ⟨_, rfl, ?_⟩
  refine g_ws (ws' := []) rfl ?_
  refine g_st (st' := [.int (if (nI (sgl si)) < (nI (sgl si)) then (nI (sgl si)) else (nI (sgl si)))]) rfl ?_
  refine g_top (y := nI (sgl si)) (ite_self _) ?_
  refine g_istore_n (lv2 := [(0, .ref (κ.2.2 (5 + si))), (1, .int (nI c)), (2, .int (nI 0)), (3, .int (nI (sgl si)))]) hc rfl (by decide) [1, 2, 3, 0] rfl rfl dJ1_indexOf_4cfef_21 (n := 22) rfl ?_
  refine g_iload_n hc 2 rfl rfl dJ1_indexOf_4cfef_22 (n := 23) rfl ?_
  refine g_iload_n hc 3 rfl rfl dJ1_indexOf_4cfef_23 (n := 24) rfl ?_
  refine n_icmp_lt hc (by omega) (by omega) dJ1_indexOf_4cfef_24 (tgt := 29) (by decide) (n := 27) rfl (fun c_2 => ?_) (fun c_2 => by (exfalso; revert c_2; first | omega | decide))
  refine g_aload_n hc 0 rfl rfl dJ1_indexOf_4cfef_29 (n := 30) rfl ?_
  refine g_iload_n hc 1 rfl rfl dJ1_indexOf_4cfef_30 (n := 31) rfl ?_
  refine g_iload_n hc 2 rfl rfl dJ1_indexOf_4cfef_31 (n := 32) rfl ?_
  refine g_iload_n hc 3 rfl rfl dJ1_indexOf_4cfef_32 (n := 33) rfl ?_
  refine g_callS (rest := []) (As := [.ref (κ.2.2 (5 + si)), .int (nI c), .int (nI 0), .int (nI (sgl si))]) (cells' := 0) (slots' := 0) hc (c_J1_indexOfChar κ _ si c hsi hcc) q_J1_indexOfChar_4cfef k_ml_RJ1_95 rfl rfl (jn_ix (wr := []) [] [] rfl rfl rfl rfl (by decide)) ⟨⟨by decide, by decide⟩, by decide, by decide⟩ (Nat.le_of_ble_eq_true rfl) rfl rfl dJ1_indexOf_4cfef_33 (n := 36) rfl (fun vv ww hp => ?_)
  obtain ⟨rr, rfl, rfl, rfl⟩ := hp
  refine ⟨_, rfl, ?_⟩
  refine g_ws (ws' := []) rfl ?_
  refine g_st (st' := [.int (nI (ixs si c))]) rfl ?_
  refine hret.1 _ _ _ _ _ _ rfl (by decide) (by decide) dJ1_indexOf_4cfef_36 ?_
  exact ⟨_, rfl, rfl, rfl⟩
set_option maxHeartbeats 1000000 in
set_option maxRecDepth 100000 in
theorem c_J0_indexOf2 (κ : Kp) (l : Launch) (si : Nat) (c : Nat) (hsi : si < 2) (hcc : c < 128) : CT κ l yJ0_indexOf_7cf53 cJ0_indexOf_7cf53 3 (some .int) 2 48 0 0 [.ref (κ.2.2 (3 + si)), .int (nI c), .int (nI 0)] [] (PI (fun rr ww => rr = (nI (ixs si c)) ∧ ww = [])) := by
  refine CT.go (by decide +kernel) (Nat.le_of_ble_eq_true rfl) ?_
  intro Γ A Q hl hc hret
  subst hl
  have hc : Cx κ Γ A cJ0_indexOf_7cf53 3 RJ0 "indexOf" (some .int) { frames := 2, cells := 0, slots := 0, locals := 48 } := hc
  refine g_lv (lv' := [(0, .ref (κ.2.2 (3 + si))), (1, .int (nI c)), (2, .int (nI 0))]) rfl ?_
  refine g_aload_n hc 0 rfl rfl dJ0_indexOf_7cf53_0 (n := 1) rfl ?_
  refine g_callT (rest := []) (As := []) (cells' := 0) (slots' := 0) hc (si := si) (hsi) (c_J0_isLatin1 κ _ si hsi) q_J0_isLatin1_aae02 k_ml_RJ0_492 rfl rfl (jn_ix (wr := []) [] [] rfl rfl rfl rfl (by decide)) rfl ⟨⟨by decide, by decide⟩, by decide, by decide⟩ (Nat.le_of_ble_eq_true rfl) rfl rfl dJ0_indexOf_7cf53_1 (n := 4) rfl (fun vv ww hp => ?_)
  obtain ⟨rr, rfl, rfl, rfl⟩ := hp
  refine ⟨_, rfl, ?_⟩
  refine g_ws (ws' := []) rfl ?_
  refine g_st (st' := [.int (nI 1)]) rfl ?_
  refine n_if_eq hc (by omega) dJ0_indexOf_7cf53_4 (tgt := 23) (by decide) (n := 7) rfl (fun c_1 => by (exfalso; revert c_1; first | omega | decide)) (fun c_1 => ?_)
  refine g_aload_n hc 0 rfl rfl dJ0_indexOf_7cf53_7 (n := 8) rfl ?_
  refine g_strv (si := si) hc hsi k_fl_RJ0_9 dJ0_indexOf_7cf53_8 (n := 11) rfl ?_
  refine g_iload_n hc 1 rfl rfl dJ0_indexOf_7cf53_11 (n := 12) rfl ?_
  refine g_iload_n hc 2 rfl rfl dJ0_indexOf_7cf53_12 (n := 13) rfl ?_
  refine g_aload_n hc 0 rfl rfl dJ0_indexOf_7cf53_13 (n := 14) rfl ?_
  refine g_callT (rest := [.int (nI 0), .int (nI c), .ref (κ.2.2 (5 + si))]) (As := []) (cells' := 0) (slots' := 0) hc (si := si) (hsi) (c_J0_length κ _ si hsi) q_J0_length_8abf5 k_ml_RJ0_505 rfl rfl (jn_ix (wr := []) [] [] rfl rfl rfl rfl (by decide)) rfl ⟨⟨by decide, by decide⟩, by decide, by decide⟩ (Nat.le_of_ble_eq_true rfl) rfl rfl dJ0_indexOf_7cf53_14 (n := 17) rfl (fun vv ww hp => ?_)
  obtain ⟨rr, rfl, rfl, rfl⟩ := hp
  refine ⟨_, rfl, ?_⟩
  refine g_ws (ws' := []) rfl ?_
  refine g_st (st' := [.int (nI (sgl si)), .int (nI 0), .int (nI c), .ref (κ.2.2 (5 + si))]) rfl ?_
  refine g_callS (rest := []) (As := [.ref (κ.2.2 (5 + si)), .int (nI c), .int (nI 0), .int (nI (sgl si))]) (cells' := 0) (slots' := 0) hc (c_J1_indexOf κ _ si c hsi hcc) q_J1_indexOf_4cfef k_ml_RJ0_637 rfl rfl (jn_ix (wr := []) [] [] rfl rfl rfl rfl (by decide)) ⟨⟨by decide, by decide⟩, by decide, by decide⟩ (Nat.le_of_ble_eq_true rfl) rfl rfl dJ0_indexOf_7cf53_17 (n := 20) rfl (fun vv ww hp => ?_)
  obtain ⟨rr, rfl, rfl, rfl⟩ := hp
  refine ⟨_, rfl, ?_⟩
  refine g_ws (ws' := []) rfl ?_
  refine g_st (st' := [.int (nI (ixs si c))]) rfl ?_
  refine g_goto (n := 36) hc dJ0_indexOf_7cf53_20 (by decide) ?_
  refine hret.1 _ _ _ _ _ _ rfl (by decide) (by decide) dJ0_indexOf_7cf53_36 ?_
  exact ⟨_, rfl, rfl, rfl⟩
set_option maxHeartbeats 1000000 in
set_option maxRecDepth 100000 in
theorem c_J0_indexOf (κ : Kp) (l : Launch) (si : Nat) (c : Nat) (hsi : si < 2) (hcc : c < 128) : CT κ l yJ0_indexOf_0f7a4 cJ0_indexOf_0f7a4 2 (some .int) 3 70 0 0 [.ref (κ.2.2 (3 + si)), .int (nI c)] [] (PI (fun rr ww => rr = (nI (ixs si c)) ∧ ww = [])) := by
  refine CT.go (by decide +kernel) (Nat.le_of_ble_eq_true rfl) ?_
  intro Γ A Q hl hc hret
  subst hl
  have hc : Cx κ Γ A cJ0_indexOf_0f7a4 2 RJ0 "indexOf" (some .int) { frames := 3, cells := 0, slots := 0, locals := 70 } := hc
  refine g_lv (lv' := [(0, .ref (κ.2.2 (3 + si))), (1, .int (nI c))]) rfl ?_
  refine g_aload_n hc 0 rfl rfl dJ0_indexOf_0f7a4_0 (n := 1) rfl ?_
  refine g_iload_n hc 1 rfl rfl dJ0_indexOf_0f7a4_1 (n := 2) rfl ?_
  refine g_iconst (v := nI 0) hc (by decide) dJ0_indexOf_0f7a4_2 (n := 3) rfl ?_
  refine g_callT (rest := []) (As := [.int (nI c), .int (nI 0)]) (cells' := 0) (slots' := 0) hc (si := si) (hsi) (c_J0_indexOf2 κ _ si c hsi hcc) q_J0_indexOf_7cf53 k_ml_RJ0_633 rfl rfl (jn_ix (wr := []) [] [] rfl rfl rfl rfl (by decide)) rfl ⟨⟨by decide, by decide⟩, by decide, by decide⟩ (Nat.le_of_ble_eq_true rfl) rfl rfl dJ0_indexOf_0f7a4_3 (n := 6) rfl (fun vv ww hp => ?_)
  obtain ⟨rr, rfl, rfl, rfl⟩ := hp
  refine ⟨_, rfl, ?_⟩
  refine g_ws (ws' := []) rfl ?_
  refine g_st (st' := [.int (nI (ixs si c))]) rfl ?_
  refine hret.1 _ _ _ _ _ _ rfl (by decide) (by decide) dJ0_indexOf_0f7a4_6 ?_
  exact ⟨_, rfl, rfl, rfl⟩
set_option maxHeartbeats 1000000 in
set_option maxRecDepth 100000 in
theorem c_X1_init (κ : Kp) (l : Launch) (p0 : Nat)  : CT κ l yX1_init cX1_init 1 none 1 20 1 60 [.ref p0] [(p0, .inr (1, [.null, .int (nI 0)]))] (PV (fun ww => ∃ q1 : Nat, ww = [(p0, .inr (1, [.ref q1, .int (nI 0)])), (q1, aC κ 60 (fun _ => 0))])) := by
  refine CT.go (plainFor_of_name (by decide)) (Nat.le_of_ble_eq_true rfl) ?_
  intro Γ A Q hl hc hret
  subst hl
  have hc : Cx κ Γ A cX1_init 1 RX1 "<init>" none { frames := 1, cells := 1, slots := 60, locals := 20 } := hc
  refine g_lv (lv' := [(0, .ref p0)]) rfl ?_
  refine g_aload_n hc 0 rfl rfl dX1_init_0 (n := 1) rfl ?_
  refine g_objInit (rest := []) hc k_ml_RX1_3 ⟨by decide, Nat.le_of_ble_eq_true rfl⟩ dX1_init_1 (n := 4) rfl ?_
  refine g_aload_n hc 0 rfl rfl dX1_init_4 (n := 5) rfl ?_
  refine g_bipush (v := nI 60) hc (by decide) dX1_init_5 (n := 7) rfl ?_
  refine n_newC hc k_ac_char (by decide) ⟨by decide, by decide⟩ (cells' := 1) (slots' := 60) rfl rfl dX1_init_7 (n := 9) rfl (fun q_1 => ?_)
  refine g_ws (ws' := [(p0, .inr (1, [.null, .int (nI 0)])), (q_1, aC κ 60 (fun _ => 0))]) rfl ?_
  refine g_putF (ws' := [(p0, .inr (1, [.ref q_1, .int (nI 0)])), (q_1, aC κ 60 (fun _ => 0))]) hc 0 rfl vw_1 inX1 tyX1_ok nmX1 0 (by decide) k_fl_RX1_9 rfl rfl rfl rfl rfl rfl (Nat.le_of_ble_eq_true rfl) rfl dX1_init_9 (n := 12) rfl ?_
  refine hret.2.2.1 _ _ _ _ _ rfl (by decide) (by decide) dX1_init_12 ?_
  exact ⟨rfl, q_1, rfl⟩
set_option maxHeartbeats 1000000 in
set_option maxRecDepth 100000 in
theorem c_X1_signAt (κ : Kp) (l : Launch) (p0 : Nat) (s0 : Nat) (ln : Nat) (i : Nat) (sg : Nat → Nat) (hi : i < ln) (hln : ln ≤ 60) (hsg : ∀ k, k < 60 → sg k < 128) : CT κ l yX1_signAt cX1_signAt 2 (some .char) 0 0 0 0 [.ref p0, .int (nI i)] [(p0, .inr (1, [.ref s0, .int (nI ln)])), (s0, aC κ 60 sg)] (PI (fun rr ww => rr = (nI (sg i)) ∧ ww = [(p0, .inr (1, [.ref s0, .int (nI ln)])), (s0, aC κ 60 sg)])) := by
  refine CT.go (plainFor_of_name (by decide)) (Nat.le_of_ble_eq_true rfl) ?_
  intro Γ A Q hl hc hret
  subst hl
  have hc : Cx κ Γ A cX1_signAt 2 RX1 "signAt" (some .char) { frames := 0, cells := 0, slots := 0, locals := 0 } := hc
  refine g_lv (lv' := [(0, .ref p0), (1, .int (nI i))]) rfl ?_
  refine g_iload_n hc 1 rfl rfl dX1_signAt_0 (n := 1) rfl ?_
  refine n_if_lt hc (by omega) dX1_signAt_1 (tgt := 27) (by decide) (n := 4) rfl ?_
  refine g_iload_n hc 1 rfl rfl dX1_signAt_4 (n := 5) rfl ?_
  refine g_aload_n hc 0 rfl rfl dX1_signAt_5 (n := 6) rfl ?_
  refine g_getf hc 0 rfl vw_1 inX1 1 (by decide) k_fl_RX1_19 rfl rfl dX1_signAt_6 (n := 9) rfl ?_
  refine n_icmp_ge hc (by omega) (by omega) dX1_signAt_9 (tgt := 27) (by decide) (n := 12) rfl (fun c_2 => by (exfalso; revert c_2; first | omega | decide)) (fun c_2 => ?_)
  refine g_iload_n hc 1 rfl rfl dX1_signAt_12 (n := 13) rfl ?_
  refine g_bipush (v := nI 60) hc (by decide) dX1_signAt_13 (n := 15) rfl ?_
  refine n_icmp_ge hc (by omega) (by omega) dX1_signAt_15 (tgt := 27) (by decide) (n := 18) rfl (fun c_3 => by (exfalso; revert c_3; first | omega | decide)) (fun c_3 => ?_)
  refine g_aload_n hc 0 rfl rfl dX1_signAt_18 (n := 19) rfl ?_
  refine g_getf hc 0 rfl vw_1 inX1 0 (by decide) k_fl_RX1_9 rfl rfl dX1_signAt_19 (n := 22) rfl ?_
  refine g_iload_n hc 1 rfl rfl dX1_signAt_22 (n := 23) rfl ?_
  refine n_cald (v := sg i) hc 1 rfl (by omega) (by decide) rfl dX1_signAt_23 (n := 24) rfl ?_
  have b_4 := hsg i (by omega)
  refine g_goto (n := 29) hc dX1_signAt_24 (by decide) ?_
  refine hret.2.1 _ _ _ _ _ _ _ rfl (pk_charN (by omega)).1 (by decide) (by decide) dX1_signAt_29 ?_
  exact ⟨_, rfl, rfl, rfl⟩
set_option maxHeartbeats 1000000 in
set_option maxRecDepth 100000 in
theorem c_X1_canStandAt (κ : Kp) (l : Launch) (p0 : Nat) (s0 : Nat) (ln : Nat) (i : Nat) (sg : Nat → Nat) (hi : i < ln) (hln : ln ≤ 60) (hsg : ∀ k, k < 60 → sg k < 128) : CT κ l yX1_canStandAt cX1_canStandAt 3 (some .boolean) 4 91 0 0 [.ref p0, .int (nI i)] [(p0, .inr (1, [.ref s0, .int (nI ln)])), (s0, aC κ 60 sg)] (PI (fun rr ww => rr = (nI (cst sg i)) ∧ ww = [(p0, .inr (1, [.ref s0, .int (nI ln)])), (s0, aC κ 60 sg)])) := by
  refine CT.go (plainFor_of_name (by decide)) (Nat.le_of_ble_eq_true rfl) ?_
  intro Γ A Q hl hc hret
  subst hl
  have hc : Cx κ Γ A cX1_canStandAt 3 RX1 "canStandAt" (some .boolean) { frames := 4, cells := 0, slots := 0, locals := 91 } := hc
  refine g_lv (lv' := [(0, .ref p0), (1, .int (nI i))]) rfl ?_
  refine g_aload_n hc 0 rfl rfl dX1_canStandAt_0 (n := 1) rfl ?_
  refine g_iload_n hc 1 rfl rfl dX1_canStandAt_1 (n := 2) rfl ?_
  refine g_callV (rest := []) (As := [.int (nI i)]) (cells' := 0) (slots' := 0) hc (c_X1_signAt κ _ p0 s0 ln i sg (by omega) hln hsg) q_X1_signAt k_ml_RX1_33 rfl rfl (jn_ix (wr := []) [0, 1] [] rfl rfl rfl rfl (by decide)) (qr := 0) rfl vw_1 ⟨⟨by decide, by decide⟩, by decide, by decide⟩ (Nat.le_of_ble_eq_true rfl) rfl rfl dX1_canStandAt_2 (n := 5) rfl (fun vv ww hp => ?_)
  obtain ⟨rr, rfl, rfl, rfl⟩ := hp
  refine ⟨_, rfl, ?_⟩
  refine g_ws (ws' := [(p0, .inr (1, [.ref s0, .int (nI ln)])), (s0, aC κ 60 sg)]) rfl ?_
  refine g_st (st' := [.int (nI (sg i))]) rfl ?_
  have hc8_1 := hsg i (by omega)
  refine g_istore_n (lv2 := [(0, .ref p0), (1, .int (nI i)), (2, .int (nI (sg i)))]) hc rfl (by decide) [1, 2, 0] rfl rfl dX1_canStandAt_5 (n := 6) rfl ?_
  refine g_iload_n hc 1 rfl rfl dX1_canStandAt_6 (n := 7) rfl ?_
  refine g_iconst (v := nI 3) hc (by decide) dX1_canStandAt_7 (n := 8) rfl ?_
  refine n_irem (v := i % 3) hc (by omega) (by decide) (by decide) rfl dX1_canStandAt_8 (n := 9) rfl ?_
  rcases (show i % 3 = 0 ∨ i % 3 = 1 ∨ i % 3 = 2 by omega) with h3 | h3 | h3
  · refine g_top (y := nI 0) (by rw [h3]) ?_
    refine g_lks (off := 27) (tgt := 36) hc dX1_canStandAt_9 (by decide) (by decide) (by decide) ?_
    refine g_ldcS hc (q := κ.2.2 (3 + 0)) hc.er.1 dX1_canStandAt_36 (n := 38) rfl ?_
    refine g_iload_n hc 2 rfl rfl dX1_canStandAt_38 (n := 39) rfl ?_
    refine g_callT (rest := []) (As := [.int (nI (sg i))]) (cells' := 0) (slots' := 0) hc (si := 0) (by decide) (c_J0_indexOf κ _ 0 (sg i) (by decide) (by omega)) q_J0_indexOf_0f7a4 k_ml_RX1_39 rfl rfl (jn_ix (wr := [(p0, .inr (1, [.ref s0, .int (nI ln)])), (s0, aC κ 60 sg)]) [] [0, 1] rfl rfl rfl rfl (by decide)) rfl ⟨⟨by decide, by decide⟩, by decide, by decide⟩ (Nat.le_of_ble_eq_true rfl) rfl rfl dX1_canStandAt_39 (n := 42) rfl (fun vv ww hp => ?_)
    obtain ⟨rr, rfl, rfl, rfl⟩ := hp
    refine ⟨_, rfl, ?_⟩
    refine g_ws (ws' := [(p0, .inr (1, [.ref s0, .int (nI ln)])), (s0, aC κ 60 sg)]) rfl ?_
    refine g_st (st' := [.int (nI (ixs 0 (sg i)))]) rfl ?_
    refine g_top (y := nI (su (sg i))) (congrArg nI (ixs_0 (sg i) (by omega))) ?_
    rcases su_or (sg i) with h4 | h4
    · skip
      refine n_if_lt hc (by omega) dX1_canStandAt_42 (tgt := 49) (by decide) (n := 45) rfl ?_
      refine g_iconst (v := nI 1) hc (by decide) dX1_canStandAt_45 (n := 46) rfl ?_
      refine g_goto (n := 50) hc dX1_canStandAt_46 (by decide) ?_
      refine hret.2.1 _ _ _ _ _ _ _ rfl rfl (by decide) (by decide) dX1_canStandAt_50 ?_
      exact ⟨_, rfl, (by unfold cst; rw [if_pos h3]; first | rw [if_pos (by omega)] | rw [if_neg (by omega)]), rfl⟩
    · refine g_top (y := -1) (by rw [h4]; decide) ?_
      refine g_if_lt hc dX1_canStandAt_42 (tgt := 49) (by decide) (n := 45) rfl (fun c_3 => ?_) (fun c_3 => by (exfalso; revert c_3; first | omega | decide))
      refine g_iconst (v := nI 0) hc (by decide) dX1_canStandAt_49 (n := 50) rfl ?_
      refine hret.2.1 _ _ _ _ _ _ _ rfl rfl (by decide) (by decide) dX1_canStandAt_50 ?_
      exact ⟨_, rfl, (by unfold cst; rw [if_pos h3]; first | rw [if_pos (by omega)] | rw [if_neg (by omega)]), rfl⟩
  · refine g_top (y := nI 1) (by rw [h3]) ?_
    refine g_lks (off := 42) (tgt := 51) hc dX1_canStandAt_9 (by decide) (by decide) (by decide) ?_
    refine g_ldcS hc (q := κ.2.2 (3 + 1)) hc.er.2.1 dX1_canStandAt_51 (n := 53) rfl ?_
    refine g_iload_n hc 2 rfl rfl dX1_canStandAt_53 (n := 54) rfl ?_
    refine g_callT (rest := []) (As := [.int (nI (sg i))]) (cells' := 0) (slots' := 0) hc (si := 1) (by decide) (c_J0_indexOf κ _ 1 (sg i) (by decide) (by omega)) q_J0_indexOf_0f7a4 k_ml_RX1_39 rfl rfl (jn_ix (wr := [(p0, .inr (1, [.ref s0, .int (nI ln)])), (s0, aC κ 60 sg)]) [] [0, 1] rfl rfl rfl rfl (by decide)) rfl ⟨⟨by decide, by decide⟩, by decide, by decide⟩ (Nat.le_of_ble_eq_true rfl) rfl rfl dX1_canStandAt_54 (n := 57) rfl (fun vv ww hp => ?_)
    obtain ⟨rr, rfl, rfl, rfl⟩ := hp
    refine ⟨_, rfl, ?_⟩
    refine g_ws (ws' := [(p0, .inr (1, [.ref s0, .int (nI ln)])), (s0, aC κ 60 sg)]) rfl ?_
    refine g_st (st' := [.int (nI (ixs 1 (sg i)))]) rfl ?_
    refine g_top (y := nI (rk (sg i))) (congrArg nI (ixs_1 (sg i) (by omega))) ?_
    rcases rk_or (sg i) with h4 | h4
    · skip
      refine n_if_lt hc (by omega) dX1_canStandAt_57 (tgt := 64) (by decide) (n := 60) rfl ?_
      refine g_iconst (v := nI 1) hc (by decide) dX1_canStandAt_60 (n := 61) rfl ?_
      refine g_goto (n := 65) hc dX1_canStandAt_61 (by decide) ?_
      refine hret.2.1 _ _ _ _ _ _ _ rfl rfl (by decide) (by decide) dX1_canStandAt_65 ?_
      exact ⟨_, rfl, (by unfold cst; rw [if_neg (by omega), if_pos h3]; first | rw [if_pos (by omega)] | rw [if_neg (by omega)]), rfl⟩
    · refine g_top (y := -1) (by rw [h4]; decide) ?_
      refine g_if_lt hc dX1_canStandAt_57 (tgt := 64) (by decide) (n := 60) rfl (fun c_5 => ?_) (fun c_5 => by (exfalso; revert c_5; first | omega | decide))
      refine g_iconst (v := nI 0) hc (by decide) dX1_canStandAt_64 (n := 65) rfl ?_
      refine hret.2.1 _ _ _ _ _ _ _ rfl rfl (by decide) (by decide) dX1_canStandAt_65 ?_
      exact ⟨_, rfl, (by unfold cst; rw [if_neg (by omega), if_pos h3]; first | rw [if_pos (by omega)] | rw [if_neg (by omega)]), rfl⟩
  · refine g_top (y := nI 2) (by rw [h3]) ?_
    refine g_lks (off := 57) (tgt := 66) hc dX1_canStandAt_9 (by decide) (by decide) (by decide) ?_
    refine g_iload_n hc 2 rfl rfl dX1_canStandAt_66 (n := 67) rfl ?_
    refine g_bipush (v := nI 44) hc (by decide) dX1_canStandAt_67 (n := 69) rfl ?_
    refine n_icmp_ne hc (by omega) (by omega) dX1_canStandAt_69 (tgt := 76) (by decide) (n := 72) rfl (fun c_6 => ?_) (fun c_6 => ?_)
    · skip
      refine g_iconst (v := nI 0) hc (by decide) dX1_canStandAt_76 (n := 77) rfl ?_
      refine hret.2.1 _ _ _ _ _ _ _ rfl rfl (by decide) (by decide) dX1_canStandAt_77 ?_
      exact ⟨_, rfl, (by unfold cst; rw [if_neg (by omega), if_neg (by omega)]; first | rw [if_pos (by omega)] | rw [if_neg (by omega)]), rfl⟩
    · skip
      refine g_iconst (v := nI 1) hc (by decide) dX1_canStandAt_72 (n := 73) rfl ?_
      refine g_goto (n := 77) hc dX1_canStandAt_73 (by decide) ?_
      refine hret.2.1 _ _ _ _ _ _ _ rfl rfl (by decide) (by decide) dX1_canStandAt_77 ?_
      exact ⟨_, rfl, (by unfold cst; rw [if_neg (by omega), if_neg (by omega)]; first | rw [if_pos (by omega)] | rw [if_neg (by omega)]), rfl⟩
set_option maxHeartbeats 1000000 in
set_option maxRecDepth 100000 in
theorem c_X1_firstFault (κ : Kp) (l : Launch) (p0 : Nat) (s0 : Nat) (ln : Nat) (sg : Nat → Nat) (hln : ln ≤ 60) (hsg : ∀ k, k < 60 → sg k < 128) : CT κ l yX1_firstFault cX1_firstFault 2 (some .int) 5 113 0 0 [.ref p0] [(p0, .inr (1, [.ref s0, .int (nI ln)])), (s0, aC κ 60 sg)] (PI (fun rr ww => rr = (nI (ff sg ln)) ∧ ww = [(p0, .inr (1, [.ref s0, .int (nI ln)])), (s0, aC κ 60 sg)])) := by
  refine CT.go (plainFor_of_name (by decide)) (Nat.le_of_ble_eq_true rfl) ?_
  intro Γ A Q hl hc hret
  subst hl
  have hc : Cx κ Γ A cX1_firstFault 2 RX1 "firstFault" (some .int) { frames := 5, cells := 0, slots := 0, locals := 113 } := hc
  refine g_lv (lv' := [(0, .ref p0)]) rfl ?_
  refine g_iconst (v := nI 0) hc (by decide) dX1_firstFault_0 (n := 1) rfl ?_
  refine g_istore_n (lv2 := [(0, .ref p0), (1, .int (nI 0))]) hc rfl (by decide) [1, 0] rfl rfl dX1_firstFault_1 (n := 2) rfl ?_
  have L_1 : ∀ (fuel : Nat) (i : Nat), (i ≤ ln) → (ff sg ln = ffr sg ln (ln - i) i) → ln - i < fuel → G κ Γ A 2 0 0 Q [(p0, .inr (1, [.ref s0, .int (nI ln)])), (s0, aC κ 60 sg)] 2 [(0, .ref p0), (1, .int (nI i))] [] := by
    intro fuel
    induction fuel with
    | zero => intro i hi hx h; exact absurd h (Nat.not_lt_zero _)
    | succ fuel ih_2 =>
      intro i hi hx hn_3
      refine g_iload_n hc 1 rfl rfl dX1_firstFault_2 (n := 3) rfl ?_
      refine g_aload_n hc 0 rfl rfl dX1_firstFault_3 (n := 4) rfl ?_
      refine g_getf hc 0 rfl vw_1 inX1 1 (by decide) k_fl_RX1_19 rfl rfl dX1_firstFault_4 (n := 7) rfl ?_
      refine n_icmp_ge hc (by omega) (by omega) dX1_firstFault_7 (tgt := 26) (by decide) (n := 10) rfl (fun c_4 => ?_) (fun c_4 => ?_)
      · skip
        refine g_aload_n hc 0 rfl rfl dX1_firstFault_26 (n := 27) rfl ?_
        refine g_getf hc 0 rfl vw_1 inX1 1 (by decide) k_fl_RX1_19 rfl rfl dX1_firstFault_27 (n := 30) rfl ?_
        refine g_iconst (v := nI 3) hc (by decide) dX1_firstFault_30 (n := 31) rfl ?_
        refine n_irem (v := ln % 3) hc (by omega) (by decide) (by decide) rfl dX1_firstFault_31 (n := 32) rfl ?_
        refine g_iconst (v := nI 2) hc (by decide) dX1_firstFault_32 (n := 33) rfl ?_
        refine n_icmp_ne hc (by omega) (by omega) dX1_firstFault_33 (tgt := 41) (by decide) (n := 36) rfl (fun c_5 => ?_) (fun c_5 => ?_)
        · skip
          refine g_aload_n hc 0 rfl rfl dX1_firstFault_41 (n := 42) rfl ?_
          refine g_getf hc 0 rfl vw_1 inX1 1 (by decide) k_fl_RX1_19 rfl rfl dX1_firstFault_42 (n := 45) rfl ?_
          refine hret.1 _ _ _ _ _ _ rfl (by decide) (by decide) dX1_firstFault_45 ?_
          exact ⟨_, rfl, (by rw [hx, show ln - i = 0 from by omega, ffr]; first | rw [if_pos (by assumption)] | rw [if_neg (by assumption)]), rfl⟩
        · skip
          refine g_bipush (v := nI 4294967290) hc (by decide) dX1_firstFault_36 (n := 38) rfl ?_
          refine g_goto (n := 45) hc dX1_firstFault_38 (by decide) ?_
          refine hret.1 _ _ _ _ _ _ rfl (by decide) (by decide) dX1_firstFault_45 ?_
          exact ⟨_, rfl, (by rw [hx, show ln - i = 0 from by omega, ffr]; first | rw [if_pos (by assumption)] | rw [if_neg (by assumption)]), rfl⟩
      · skip
        refine g_aload_n hc 0 rfl rfl dX1_firstFault_10 (n := 11) rfl ?_
        refine g_iload_n hc 1 rfl rfl dX1_firstFault_11 (n := 12) rfl ?_
        refine g_callV (rest := []) (As := [.int (nI i)]) (cells' := 0) (slots' := 0) hc (c_X1_canStandAt κ _ p0 s0 ln i sg (by omega) hln hsg) q_X1_canStandAt k_ml_RX1_29 rfl rfl (jn_ix (wr := []) [0, 1] [] rfl rfl rfl rfl (by decide)) (qr := 0) rfl vw_1 ⟨⟨by decide, by decide⟩, by decide, by decide⟩ (Nat.le_of_ble_eq_true rfl) rfl rfl dX1_firstFault_12 (n := 15) rfl (fun vv ww hp => ?_)
        obtain ⟨rr, rfl, rfl, rfl⟩ := hp
        refine ⟨_, rfl, ?_⟩
        refine g_ws (ws' := [(p0, .inr (1, [.ref s0, .int (nI ln)])), (s0, aC κ 60 sg)]) rfl ?_
        refine g_st (st' := [.int (nI (cst sg i))]) rfl ?_
        have hcl := cst_le sg i
        refine n_if_ne hc (by omega) dX1_firstFault_15 (tgt := 20) (by decide) (n := 18) rfl (fun c_6 => ?_) (fun c_6 => ?_)
        · skip
          refine n_iinc (v := i + 1) (zk := 1) (lv2 := [(0, .ref p0), (1, .int (nI (i + 1)))]) hc 1 rfl (by decide) rfl (by decide) [1, 0] rfl rfl dX1_firstFault_20 (n := 23) rfl ?_
          refine g_goto (n := 2) hc dX1_firstFault_23 (by decide) ?_
          exact ih_2 (i + 1) (by omega) (by rw [hx, show ln - i = (ln - (i + 1)) + 1 from by omega, ffr, if_neg (by omega)]) (by omega)
        · skip
          refine g_iload_n hc 1 rfl rfl dX1_firstFault_18 (n := 19) rfl ?_
          refine hret.1 _ _ _ _ _ _ rfl (by decide) (by decide) dX1_firstFault_19 ?_
          exact ⟨_, rfl, (by rw [hx, show ln - i = (ln - (i + 1)) + 1 from by omega, ffr, if_pos (by omega)]), rfl⟩
  exact L_1 _ 0 (by omega) (rfl) (Nat.lt_succ_self _)
set_option maxHeartbeats 1000000 in
set_option maxRecDepth 100000 in
theorem c_X1_cardAt (κ : Kp) (l : Launch) (p0 : Nat) (s0 : Nat) (ln : Nat) (i : Nat) (sg : Nat → Nat) (hi : i + 1 < ln) (hln : ln ≤ 60) (hsg : ∀ k, k < 60 → sg k < 128) : CT κ l yX1_cardAt cX1_cardAt 2 (some .int) 4 91 0 0 [.ref p0, .int (nI i)] [(p0, .inr (1, [.ref s0, .int (nI ln)])), (s0, aC κ 60 sg)] (PI (fun rr ww => rr = (nI (13 * su (sg i) + rk (sg (i + 1)))) ∧ ww = [(p0, .inr (1, [.ref s0, .int (nI ln)])), (s0, aC κ 60 sg)])) := by
  refine CT.go (plainFor_of_name (by decide)) (Nat.le_of_ble_eq_true rfl) ?_
  intro Γ A Q hl hc hret
  subst hl
  have hc : Cx κ Γ A cX1_cardAt 2 RX1 "cardAt" (some .int) { frames := 4, cells := 0, slots := 0, locals := 91 } := hc
  refine g_lv (lv' := [(0, .ref p0), (1, .int (nI i))]) rfl ?_
  refine g_bipush (v := nI 13) hc (by decide) dX1_cardAt_0 (n := 2) rfl ?_
  refine g_ldcS hc (q := κ.2.2 (3 + 0)) hc.er.1 dX1_cardAt_2 (n := 4) rfl ?_
  refine g_aload_n hc 0 rfl rfl dX1_cardAt_4 (n := 5) rfl ?_
  refine g_iload_n hc 1 rfl rfl dX1_cardAt_5 (n := 6) rfl ?_
  refine g_callV (rest := [.ref (κ.2.2 (3 + 0)), .int (nI 13)]) (As := [.int (nI i)]) (cells' := 0) (slots' := 0) hc (c_X1_signAt κ _ p0 s0 ln i sg (by omega) hln hsg) q_X1_signAt k_ml_RX1_33 rfl rfl (jn_ix (wr := []) [0, 1] [] rfl rfl rfl rfl (by decide)) (qr := 0) rfl vw_1 ⟨⟨by decide, by decide⟩, by decide, by decide⟩ (Nat.le_of_ble_eq_true rfl) rfl rfl dX1_cardAt_6 (n := 9) rfl (fun vv ww hp => ?_)
  obtain ⟨rr, rfl, rfl, rfl⟩ := hp
  refine ⟨_, rfl, ?_⟩
  refine g_ws (ws' := [(p0, .inr (1, [.ref s0, .int (nI ln)])), (s0, aC κ 60 sg)]) rfl ?_
  refine g_st (st' := [.int (nI (sg i)), .ref (κ.2.2 (3 + 0)), .int (nI 13)]) rfl ?_
  have hc8_1 := hsg i (by omega)
  refine g_callT (rest := [.int (nI 13)]) (As := [.int (nI (sg i))]) (cells' := 0) (slots' := 0) hc (si := 0) (by decide) (c_J0_indexOf κ _ 0 (sg i) (by decide) (by omega)) q_J0_indexOf_0f7a4 k_ml_RX1_39 rfl rfl (jn_ix (wr := [(p0, .inr (1, [.ref s0, .int (nI ln)])), (s0, aC κ 60 sg)]) [] [0, 1] rfl rfl rfl rfl (by decide)) rfl ⟨⟨by decide, by decide⟩, by decide, by decide⟩ (Nat.le_of_ble_eq_true rfl) rfl rfl dX1_cardAt_9 (n := 12) rfl (fun vv ww hp => ?_)
  obtain ⟨rr, rfl, rfl, rfl⟩ := hp
  refine ⟨_, rfl, ?_⟩
  refine g_ws (ws' := [(p0, .inr (1, [.ref s0, .int (nI ln)])), (s0, aC κ 60 sg)]) rfl ?_
  refine g_st (st' := [.int (nI (ixs 0 (sg i))), .int (nI 13)]) rfl ?_
  refine g_top (y := nI (su (sg i))) (congrArg nI (ixs_0 (sg i) (by omega))) ?_
  refine n_imul (v := 13 * (su (sg i))) hc rfl dX1_cardAt_12 (n := 13) rfl ?_
  refine g_ldcS hc (q := κ.2.2 (3 + 1)) hc.er.2.1 dX1_cardAt_13 (n := 15) rfl ?_
  refine g_aload_n hc 0 rfl rfl dX1_cardAt_15 (n := 16) rfl ?_
  refine g_iload_n hc 1 rfl rfl dX1_cardAt_16 (n := 17) rfl ?_
  refine g_iconst (v := nI 1) hc (by decide) dX1_cardAt_17 (n := 18) rfl ?_
  refine n_iadd (v := i + 1) hc rfl dX1_cardAt_18 (n := 19) rfl ?_
  refine g_callV (rest := [.ref (κ.2.2 (3 + 1)), .int (nI (13 * (su (sg i))))]) (As := [.int (nI (i + 1))]) (cells' := 0) (slots' := 0) hc (c_X1_signAt κ _ p0 s0 ln (i + 1) sg (by omega) hln hsg) q_X1_signAt k_ml_RX1_33 rfl rfl (jn_ix (wr := []) [0, 1] [] rfl rfl rfl rfl (by decide)) (qr := 0) rfl vw_1 ⟨⟨by decide, by decide⟩, by decide, by decide⟩ (Nat.le_of_ble_eq_true rfl) rfl rfl dX1_cardAt_19 (n := 22) rfl (fun vv ww hp => ?_)
  obtain ⟨rr, rfl, rfl, rfl⟩ := hp
  refine ⟨_, rfl, ?_⟩
  refine g_ws (ws' := [(p0, .inr (1, [.ref s0, .int (nI ln)])), (s0, aC κ 60 sg)]) rfl ?_
  refine g_st (st' := [.int (nI (sg (i + 1))), .ref (κ.2.2 (3 + 1)), .int (nI (13 * (su (sg i))))]) rfl ?_
  have hc8_2 := hsg (i + 1) (by omega)
  refine g_callT (rest := [.int (nI (13 * (su (sg i))))]) (As := [.int (nI (sg (i + 1)))]) (cells' := 0) (slots' := 0) hc (si := 1) (by decide) (c_J0_indexOf κ _ 1 (sg (i + 1)) (by decide) (by omega)) q_J0_indexOf_0f7a4 k_ml_RX1_39 rfl rfl (jn_ix (wr := [(p0, .inr (1, [.ref s0, .int (nI ln)])), (s0, aC κ 60 sg)]) [] [0, 1] rfl rfl rfl rfl (by decide)) rfl ⟨⟨by decide, by decide⟩, by decide, by decide⟩ (Nat.le_of_ble_eq_true rfl) rfl rfl dX1_cardAt_22 (n := 25) rfl (fun vv ww hp => ?_)
  obtain ⟨rr, rfl, rfl, rfl⟩ := hp
  refine ⟨_, rfl, ?_⟩
  refine g_ws (ws' := [(p0, .inr (1, [.ref s0, .int (nI ln)])), (s0, aC κ 60 sg)]) rfl ?_
  refine g_st (st' := [.int (nI (ixs 1 (sg (i + 1)))), .int (nI (13 * (su (sg i))))]) rfl ?_
  refine g_top (y := nI (rk (sg (i + 1)))) (congrArg nI (ixs_1 (sg (i + 1)) (by omega))) ?_
  refine n_iadd (v := (13 * (su (sg i))) + (rk (sg (i + 1)))) hc rfl dX1_cardAt_25 (n := 26) rfl ?_
  refine hret.1 _ _ _ _ _ _ rfl (by decide) (by decide) dX1_cardAt_26 ?_
  exact ⟨_, rfl, rfl, rfl⟩
set_option maxHeartbeats 1000000 in
set_option maxRecDepth 100000 in
theorem c_X1_lengthOf (κ : Kp) (l : Launch) (w : Nat) (hw : w < 2 ^ 64) : CT κ l yX1_lengthOf cX1_lengthOf 8 (some .int) 0 0 0 0 [.long (lN w)] [] (PI (fun rr ww => rr = (nI (pln w)) ∧ ww = [])) := by
  refine CT.go (plainFor_of_name (by decide)) (Nat.le_of_ble_eq_true rfl) ?_
  intro Γ A Q hl hc hret
  subst hl
  have hc : Cx κ Γ A cX1_lengthOf 8 RX1 "lengthOf" (some .int) { frames := 0, cells := 0, slots := 0, locals := 0 } := hc
  refine g_lv (lv' := [(0, .long (lN w))]) rfl ?_
  refine g_iconst (v := nI 0) hc (by decide) dX1_lengthOf_0 (n := 1) rfl ?_
  refine g_istore_n (lv2 := [(0, .long (lN w)), (2, .int (nI 0))]) hc rfl (by decide) [1, 0] rfl rfl dX1_lengthOf_1 (n := 2) rfl ?_
  refine g_iconst (v := nI 0) hc (by decide) dX1_lengthOf_2 (n := 3) rfl ?_
  refine g_istore_n (lv2 := [(0, .long (lN w)), (2, .int (nI 0)), (3, .int (nI 0))]) hc rfl (by decide) [1, 2, 0] rfl rfl dX1_lengthOf_3 (n := 4) rfl ?_
  have L_1 : ∀ (fuel : Nat) (k : Nat), (k ≤ 8) → (pln w = plr (8 - k) (w / 256 ^ k) k) → 8 - k < fuel → G κ Γ A 8 0 0 Q [] 4 [(0, .long (lN w)), (2, .int (nI k)), (3, .int (nI (8 * k)))] [] := by
    intro fuel
    induction fuel with
    | zero => intro k hk hx h; exact absurd h (Nat.not_lt_zero _)
    | succ fuel ih_2 =>
      intro k hk hx hn_3
      refine g_iload_n hc 2 rfl rfl dX1_lengthOf_4 (n := 5) rfl ?_
      refine g_bipush (v := nI 64) hc (by decide) dX1_lengthOf_5 (n := 7) rfl ?_
      refine n_icmp_ge hc (by omega) (by omega) dX1_lengthOf_7 (tgt := 61) (by decide) (n := 10) rfl (fun c_4 => ?_) (fun c_4 => ?_)
      · skip
        refine g_iload_n hc 1 rfl rfl dX1_lengthOf_61 (n := 62) rfl ?_
        refine hret.1 _ _ _ _ _ _ rfl (by decide) (by decide) dX1_lengthOf_62 ?_
        exact ⟨_, rfl, (by have e9 : k = 8 := (by omega); subst e9; rw [hx]; rfl), rfl⟩
      · skip
        refine g_lload_n hc 0 rfl rfl dX1_lengthOf_10 (n := 11) rfl ?_
        refine g_iload_n hc 2 rfl rfl dX1_lengthOf_11 (n := 12) rfl ?_
        refine g_lushr (v := (lN (w / 256 ^ k))) hc (lsh hw (by omega)) dX1_lengthOf_12 (n := 13) rfl ?_
        refine g_lstore (lv2 := [(0, .long (lN w)), (2, .int (nI k)), (3, .int (nI (8 * k))), (4, .long (lN (w / 256 ^ k)))]) hc (by decide) [1, 2, 3, 0] rfl rfl dX1_lengthOf_13 (n := 15) rfl ?_
        refine g_lload hc 3 rfl dX1_lengthOf_15 (n := 17) rfl ?_
        refine g_lconst (v := lN 0) hc (by decide) dX1_lengthOf_17 (n := 18) rfl ?_
        rcases Nat.eq_zero_or_pos (w / 256 ^ k) with h0 | h0
        · skip
          refine g_lcmp (v := (nI 0)) hc (by rw [h0]; exact lcmp_eq 0) dX1_lengthOf_18 (n := 19) rfl ?_
          refine n_if_ne hc (by omega) dX1_lengthOf_19 (tgt := 24) (by decide) (n := 22) rfl (fun c_5 => by (exfalso; revert c_5; first | omega | decide)) (fun c_5 => ?_)
          refine g_iload_n hc 1 rfl rfl dX1_lengthOf_22 (n := 23) rfl ?_
          refine hret.1 _ _ _ _ _ _ rfl (by decide) (by decide) dX1_lengthOf_23 ?_
          exact ⟨_, rfl, (by rw [hx, show 8 - k = (8 - (k + 1)) + 1 from by omega, plr, if_pos (by omega)]), rfl⟩
        · rcases lcmp_0 (div_lt64 hw k) h0 with h1 | h1
          · skip
            refine g_lcmp (v := (nI 1)) hc (h1) dX1_lengthOf_18 (n := 19) rfl ?_
            refine n_if_ne hc (by omega) dX1_lengthOf_19 (tgt := 24) (by decide) (n := 22) rfl (fun c_6 => ?_) (fun c_6 => by (exfalso; revert c_6; first | omega | decide))
            refine g_lload hc 3 rfl dX1_lengthOf_24 (n := 26) rfl ?_
            refine g_ldc2 (v2 := lN 255) hc k_kc_RX1_23 (by decide) dX1_lengthOf_26 (n := 29) rfl ?_
            refine g_land (v := (lN (w / 256 ^ k % 256))) hc (land255 (div_lt64 hw k)) dX1_lengthOf_29 (n := 30) rfl ?_
            refine g_lstore (lv2 := [(0, .long (lN w)), (2, .int (nI k)), (3, .int (nI (8 * k))), (4, .long (lN (w / 256 ^ k))), (6, .long (lN (w / 256 ^ k % 256)))]) hc (by decide) [1, 2, 3, 4, 0] rfl rfl dX1_lengthOf_30 (n := 32) rfl ?_
            refine g_lload hc 4 rfl dX1_lengthOf_32 (n := 34) rfl ?_
            refine g_ldc2 (v2 := lN 33) hc k_kc_RX1_25 (by decide) dX1_lengthOf_34 (n := 37) rfl ?_
            rcases Nat.lt_trichotomy (w / 256 ^ k % 256) 33 with h33 | h33 | h33
            · skip
              refine g_lcmp (v := (-1)) hc (lcmp_lt (by omega) (by decide) h33) dX1_lengthOf_37 (n := 38) rfl ?_
              refine g_if_lt hc dX1_lengthOf_38 (tgt := 50) (by decide) (n := 41) rfl (fun c_7 => ?_) (fun c_7 => by (exfalso; revert c_7; first | omega | decide))
              refine g_iconst (v := nI 0) hc (by decide) dX1_lengthOf_50 (n := 51) rfl ?_
              refine hret.1 _ _ _ _ _ _ rfl (by decide) (by decide) dX1_lengthOf_51 ?_
              exact ⟨_, rfl, (by rw [hx, show 8 - k = (8 - (k + 1)) + 1 from by omega, plr, if_neg (by omega), if_pos (by omega)]), rfl⟩
            · skip
              refine g_lcmp (v := (nI 0)) hc (by rw [h33]; exact lcmp_eq 33) dX1_lengthOf_37 (n := 38) rfl ?_
              refine n_if_lt hc (by omega) dX1_lengthOf_38 (tgt := 50) (by decide) (n := 41) rfl ?_
              refine g_lload hc 4 rfl dX1_lengthOf_41 (n := 43) rfl ?_
              refine g_ldc2 (v2 := lN 126) hc k_kc_RX1_27 (by decide) dX1_lengthOf_43 (n := 46) rfl ?_
              rcases Nat.lt_trichotomy (w / 256 ^ k % 256) 126 with h126 | h126 | h126
              · skip
                refine g_lcmp (v := (-1)) hc (lcmp_lt (by omega) (by decide) h126) dX1_lengthOf_46 (n := 47) rfl ?_
                refine g_if_le hc dX1_lengthOf_47 (tgt := 52) (by decide) (n := 50) rfl (fun c_9 => ?_) (fun c_9 => by (exfalso; revert c_9; first | omega | decide))
                refine n_iinc (v := k + 1) (zk := 1) (lv2 := [(0, .long (lN w)), (2, .int (nI (k + 1))), (3, .int (nI (8 * k))), (4, .long (lN (w / 256 ^ k))), (6, .long (lN (w / 256 ^ k % 256)))]) hc 1 rfl (by decide) rfl (by decide) [1, 0, 2, 3, 4] rfl rfl dX1_lengthOf_52 (n := 55) rfl ?_
                refine n_iinc (v := (8 * k) + 8) (zk := 8) (lv2 := [(0, .long (lN w)), (2, .int (nI (k + 1))), (3, .int (nI ((8 * k) + 8))), (4, .long (lN (w / 256 ^ k))), (6, .long (lN (w / 256 ^ k % 256)))]) hc 2 rfl (by decide) rfl (by decide) [1, 2, 0, 3, 4] rfl rfl dX1_lengthOf_55 (n := 58) rfl ?_
                refine g_goto (n := 4) hc dX1_lengthOf_58 (by decide) ?_
                refine g_lv (lv' := [(0, .long (lN w)), (2, .int (nI (k + 1))), (3, .int (nI (8 * (k + 1)))), (4, .long (lN (w / 256 ^ k))), (6, .long (lN (w / 256 ^ k % 256)))]) (by rw [show 8 * (k + 1) = 8 * k + 8 from rfl]) ?_
                refine g_lsub (lv' := [(0, .long (lN w)), (2, .int (nI (k + 1))), (3, .int (nI (8 * (k + 1))))]) [0, 1, 2] rfl ?_
                exact ih_2 (k + 1) (by omega) (by rw [hx, show 8 - k = (8 - (k + 1)) + 1 from by omega, plr, if_neg (by omega), if_neg (by omega), Nat.div_div_eq_div_mul, ← Nat.pow_succ]) (by omega)
              · skip
                refine g_lcmp (v := (nI 0)) hc (by rw [h126]; exact lcmp_eq 126) dX1_lengthOf_46 (n := 47) rfl ?_
                refine n_if_le hc (by omega) dX1_lengthOf_47 (tgt := 52) (by decide) (n := 50) rfl (fun c_10 => ?_) (fun c_10 => by (exfalso; revert c_10; first | omega | decide))
                refine n_iinc (v := k + 1) (zk := 1) (lv2 := [(0, .long (lN w)), (2, .int (nI (k + 1))), (3, .int (nI (8 * k))), (4, .long (lN (w / 256 ^ k))), (6, .long (lN (w / 256 ^ k % 256)))]) hc 1 rfl (by decide) rfl (by decide) [1, 0, 2, 3, 4] rfl rfl dX1_lengthOf_52 (n := 55) rfl ?_
                refine n_iinc (v := (8 * k) + 8) (zk := 8) (lv2 := [(0, .long (lN w)), (2, .int (nI (k + 1))), (3, .int (nI ((8 * k) + 8))), (4, .long (lN (w / 256 ^ k))), (6, .long (lN (w / 256 ^ k % 256)))]) hc 2 rfl (by decide) rfl (by decide) [1, 2, 0, 3, 4] rfl rfl dX1_lengthOf_55 (n := 58) rfl ?_
                refine g_goto (n := 4) hc dX1_lengthOf_58 (by decide) ?_
                refine g_lv (lv' := [(0, .long (lN w)), (2, .int (nI (k + 1))), (3, .int (nI (8 * (k + 1)))), (4, .long (lN (w / 256 ^ k))), (6, .long (lN (w / 256 ^ k % 256)))]) (by rw [show 8 * (k + 1) = 8 * k + 8 from rfl]) ?_
                refine g_lsub (lv' := [(0, .long (lN w)), (2, .int (nI (k + 1))), (3, .int (nI (8 * (k + 1))))]) [0, 1, 2] rfl ?_
                exact ih_2 (k + 1) (by omega) (by rw [hx, show 8 - k = (8 - (k + 1)) + 1 from by omega, plr, if_neg (by omega), if_neg (by omega), Nat.div_div_eq_div_mul, ← Nat.pow_succ]) (by omega)
              · skip
                refine g_lcmp (v := (nI 1)) hc (lcmp_gt (by omega) (by decide) h126) dX1_lengthOf_46 (n := 47) rfl ?_
                refine n_if_le hc (by omega) dX1_lengthOf_47 (tgt := 52) (by decide) (n := 50) rfl (fun c_11 => by (exfalso; revert c_11; first | omega | decide)) (fun c_11 => ?_)
                refine g_iconst (v := nI 0) hc (by decide) dX1_lengthOf_50 (n := 51) rfl ?_
                refine hret.1 _ _ _ _ _ _ rfl (by decide) (by decide) dX1_lengthOf_51 ?_
                exact ⟨_, rfl, (by rw [hx, show 8 - k = (8 - (k + 1)) + 1 from by omega, plr, if_neg (by omega), if_pos (by omega)]), rfl⟩
            · skip
              refine g_lcmp (v := (nI 1)) hc (lcmp_gt (by omega) (by decide) h33) dX1_lengthOf_37 (n := 38) rfl ?_
              refine n_if_lt hc (by omega) dX1_lengthOf_38 (tgt := 50) (by decide) (n := 41) rfl ?_
              refine g_lload hc 4 rfl dX1_lengthOf_41 (n := 43) rfl ?_
              refine g_ldc2 (v2 := lN 126) hc k_kc_RX1_27 (by decide) dX1_lengthOf_43 (n := 46) rfl ?_
              rcases Nat.lt_trichotomy (w / 256 ^ k % 256) 126 with h126 | h126 | h126
              · skip
                refine g_lcmp (v := (-1)) hc (lcmp_lt (by omega) (by decide) h126) dX1_lengthOf_46 (n := 47) rfl ?_
                refine g_if_le hc dX1_lengthOf_47 (tgt := 52) (by decide) (n := 50) rfl (fun c_13 => ?_) (fun c_13 => by (exfalso; revert c_13; first | omega | decide))
                refine n_iinc (v := k + 1) (zk := 1) (lv2 := [(0, .long (lN w)), (2, .int (nI (k + 1))), (3, .int (nI (8 * k))), (4, .long (lN (w / 256 ^ k))), (6, .long (lN (w / 256 ^ k % 256)))]) hc 1 rfl (by decide) rfl (by decide) [1, 0, 2, 3, 4] rfl rfl dX1_lengthOf_52 (n := 55) rfl ?_
                refine n_iinc (v := (8 * k) + 8) (zk := 8) (lv2 := [(0, .long (lN w)), (2, .int (nI (k + 1))), (3, .int (nI ((8 * k) + 8))), (4, .long (lN (w / 256 ^ k))), (6, .long (lN (w / 256 ^ k % 256)))]) hc 2 rfl (by decide) rfl (by decide) [1, 2, 0, 3, 4] rfl rfl dX1_lengthOf_55 (n := 58) rfl ?_
                refine g_goto (n := 4) hc dX1_lengthOf_58 (by decide) ?_
                refine g_lv (lv' := [(0, .long (lN w)), (2, .int (nI (k + 1))), (3, .int (nI (8 * (k + 1)))), (4, .long (lN (w / 256 ^ k))), (6, .long (lN (w / 256 ^ k % 256)))]) (by rw [show 8 * (k + 1) = 8 * k + 8 from rfl]) ?_
                refine g_lsub (lv' := [(0, .long (lN w)), (2, .int (nI (k + 1))), (3, .int (nI (8 * (k + 1))))]) [0, 1, 2] rfl ?_
                exact ih_2 (k + 1) (by omega) (by rw [hx, show 8 - k = (8 - (k + 1)) + 1 from by omega, plr, if_neg (by omega), if_neg (by omega), Nat.div_div_eq_div_mul, ← Nat.pow_succ]) (by omega)
              · skip
                refine g_lcmp (v := (nI 0)) hc (by rw [h126]; exact lcmp_eq 126) dX1_lengthOf_46 (n := 47) rfl ?_
                refine n_if_le hc (by omega) dX1_lengthOf_47 (tgt := 52) (by decide) (n := 50) rfl (fun c_14 => ?_) (fun c_14 => by (exfalso; revert c_14; first | omega | decide))
                refine n_iinc (v := k + 1) (zk := 1) (lv2 := [(0, .long (lN w)), (2, .int (nI (k + 1))), (3, .int (nI (8 * k))), (4, .long (lN (w / 256 ^ k))), (6, .long (lN (w / 256 ^ k % 256)))]) hc 1 rfl (by decide) rfl (by decide) [1, 0, 2, 3, 4] rfl rfl dX1_lengthOf_52 (n := 55) rfl ?_
                refine n_iinc (v := (8 * k) + 8) (zk := 8) (lv2 := [(0, .long (lN w)), (2, .int (nI (k + 1))), (3, .int (nI ((8 * k) + 8))), (4, .long (lN (w / 256 ^ k))), (6, .long (lN (w / 256 ^ k % 256)))]) hc 2 rfl (by decide) rfl (by decide) [1, 2, 0, 3, 4] rfl rfl dX1_lengthOf_55 (n := 58) rfl ?_
                refine g_goto (n := 4) hc dX1_lengthOf_58 (by decide) ?_
                refine g_lv (lv' := [(0, .long (lN w)), (2, .int (nI (k + 1))), (3, .int (nI (8 * (k + 1)))), (4, .long (lN (w / 256 ^ k))), (6, .long (lN (w / 256 ^ k % 256)))]) (by rw [show 8 * (k + 1) = 8 * k + 8 from rfl]) ?_
                refine g_lsub (lv' := [(0, .long (lN w)), (2, .int (nI (k + 1))), (3, .int (nI (8 * (k + 1))))]) [0, 1, 2] rfl ?_
                exact ih_2 (k + 1) (by omega) (by rw [hx, show 8 - k = (8 - (k + 1)) + 1 from by omega, plr, if_neg (by omega), if_neg (by omega), Nat.div_div_eq_div_mul, ← Nat.pow_succ]) (by omega)
              · skip
                refine g_lcmp (v := (nI 1)) hc (lcmp_gt (by omega) (by decide) h126) dX1_lengthOf_46 (n := 47) rfl ?_
                refine n_if_le hc (by omega) dX1_lengthOf_47 (tgt := 52) (by decide) (n := 50) rfl (fun c_15 => by (exfalso; revert c_15; first | omega | decide)) (fun c_15 => ?_)
                refine g_iconst (v := nI 0) hc (by decide) dX1_lengthOf_50 (n := 51) rfl ?_
                refine hret.1 _ _ _ _ _ _ rfl (by decide) (by decide) dX1_lengthOf_51 ?_
                exact ⟨_, rfl, (by rw [hx, show 8 - k = (8 - (k + 1)) + 1 from by omega, plr, if_neg (by omega), if_pos (by omega)]), rfl⟩
          · skip
            refine g_lcmp (v := (-1)) hc (h1) dX1_lengthOf_18 (n := 19) rfl ?_
            refine g_if_ne hc dX1_lengthOf_19 (tgt := 24) (by decide) (n := 22) rfl (fun c_16 => ?_) (fun c_16 => by (exfalso; revert c_16; first | omega | decide))
            refine g_lload hc 3 rfl dX1_lengthOf_24 (n := 26) rfl ?_
            refine g_ldc2 (v2 := lN 255) hc k_kc_RX1_23 (by decide) dX1_lengthOf_26 (n := 29) rfl ?_
            refine g_land (v := (lN (w / 256 ^ k % 256))) hc (land255 (div_lt64 hw k)) dX1_lengthOf_29 (n := 30) rfl ?_
            refine g_lstore (lv2 := [(0, .long (lN w)), (2, .int (nI k)), (3, .int (nI (8 * k))), (4, .long (lN (w / 256 ^ k))), (6, .long (lN (w / 256 ^ k % 256)))]) hc (by decide) [1, 2, 3, 4, 0] rfl rfl dX1_lengthOf_30 (n := 32) rfl ?_
            refine g_lload hc 4 rfl dX1_lengthOf_32 (n := 34) rfl ?_
            refine g_ldc2 (v2 := lN 33) hc k_kc_RX1_25 (by decide) dX1_lengthOf_34 (n := 37) rfl ?_
            rcases Nat.lt_trichotomy (w / 256 ^ k % 256) 33 with h33 | h33 | h33
            · skip
              refine g_lcmp (v := (-1)) hc (lcmp_lt (by omega) (by decide) h33) dX1_lengthOf_37 (n := 38) rfl ?_
              refine g_if_lt hc dX1_lengthOf_38 (tgt := 50) (by decide) (n := 41) rfl (fun c_17 => ?_) (fun c_17 => by (exfalso; revert c_17; first | omega | decide))
              refine g_iconst (v := nI 0) hc (by decide) dX1_lengthOf_50 (n := 51) rfl ?_
              refine hret.1 _ _ _ _ _ _ rfl (by decide) (by decide) dX1_lengthOf_51 ?_
              exact ⟨_, rfl, (by rw [hx, show 8 - k = (8 - (k + 1)) + 1 from by omega, plr, if_neg (by omega), if_pos (by omega)]), rfl⟩
            · skip
              refine g_lcmp (v := (nI 0)) hc (by rw [h33]; exact lcmp_eq 33) dX1_lengthOf_37 (n := 38) rfl ?_
              refine n_if_lt hc (by omega) dX1_lengthOf_38 (tgt := 50) (by decide) (n := 41) rfl ?_
              refine g_lload hc 4 rfl dX1_lengthOf_41 (n := 43) rfl ?_
              refine g_ldc2 (v2 := lN 126) hc k_kc_RX1_27 (by decide) dX1_lengthOf_43 (n := 46) rfl ?_
              rcases Nat.lt_trichotomy (w / 256 ^ k % 256) 126 with h126 | h126 | h126
              · skip
                refine g_lcmp (v := (-1)) hc (lcmp_lt (by omega) (by decide) h126) dX1_lengthOf_46 (n := 47) rfl ?_
                refine g_if_le hc dX1_lengthOf_47 (tgt := 52) (by decide) (n := 50) rfl (fun c_19 => ?_) (fun c_19 => by (exfalso; revert c_19; first | omega | decide))
                refine n_iinc (v := k + 1) (zk := 1) (lv2 := [(0, .long (lN w)), (2, .int (nI (k + 1))), (3, .int (nI (8 * k))), (4, .long (lN (w / 256 ^ k))), (6, .long (lN (w / 256 ^ k % 256)))]) hc 1 rfl (by decide) rfl (by decide) [1, 0, 2, 3, 4] rfl rfl dX1_lengthOf_52 (n := 55) rfl ?_
                refine n_iinc (v := (8 * k) + 8) (zk := 8) (lv2 := [(0, .long (lN w)), (2, .int (nI (k + 1))), (3, .int (nI ((8 * k) + 8))), (4, .long (lN (w / 256 ^ k))), (6, .long (lN (w / 256 ^ k % 256)))]) hc 2 rfl (by decide) rfl (by decide) [1, 2, 0, 3, 4] rfl rfl dX1_lengthOf_55 (n := 58) rfl ?_
                refine g_goto (n := 4) hc dX1_lengthOf_58 (by decide) ?_
                refine g_lv (lv' := [(0, .long (lN w)), (2, .int (nI (k + 1))), (3, .int (nI (8 * (k + 1)))), (4, .long (lN (w / 256 ^ k))), (6, .long (lN (w / 256 ^ k % 256)))]) (by rw [show 8 * (k + 1) = 8 * k + 8 from rfl]) ?_
                refine g_lsub (lv' := [(0, .long (lN w)), (2, .int (nI (k + 1))), (3, .int (nI (8 * (k + 1))))]) [0, 1, 2] rfl ?_
                exact ih_2 (k + 1) (by omega) (by rw [hx, show 8 - k = (8 - (k + 1)) + 1 from by omega, plr, if_neg (by omega), if_neg (by omega), Nat.div_div_eq_div_mul, ← Nat.pow_succ]) (by omega)
              · skip
                refine g_lcmp (v := (nI 0)) hc (by rw [h126]; exact lcmp_eq 126) dX1_lengthOf_46 (n := 47) rfl ?_
                refine n_if_le hc (by omega) dX1_lengthOf_47 (tgt := 52) (by decide) (n := 50) rfl (fun c_20 => ?_) (fun c_20 => by (exfalso; revert c_20; first | omega | decide))
                refine n_iinc (v := k + 1) (zk := 1) (lv2 := [(0, .long (lN w)), (2, .int (nI (k + 1))), (3, .int (nI (8 * k))), (4, .long (lN (w / 256 ^ k))), (6, .long (lN (w / 256 ^ k % 256)))]) hc 1 rfl (by decide) rfl (by decide) [1, 0, 2, 3, 4] rfl rfl dX1_lengthOf_52 (n := 55) rfl ?_
                refine n_iinc (v := (8 * k) + 8) (zk := 8) (lv2 := [(0, .long (lN w)), (2, .int (nI (k + 1))), (3, .int (nI ((8 * k) + 8))), (4, .long (lN (w / 256 ^ k))), (6, .long (lN (w / 256 ^ k % 256)))]) hc 2 rfl (by decide) rfl (by decide) [1, 2, 0, 3, 4] rfl rfl dX1_lengthOf_55 (n := 58) rfl ?_
                refine g_goto (n := 4) hc dX1_lengthOf_58 (by decide) ?_
                refine g_lv (lv' := [(0, .long (lN w)), (2, .int (nI (k + 1))), (3, .int (nI (8 * (k + 1)))), (4, .long (lN (w / 256 ^ k))), (6, .long (lN (w / 256 ^ k % 256)))]) (by rw [show 8 * (k + 1) = 8 * k + 8 from rfl]) ?_
                refine g_lsub (lv' := [(0, .long (lN w)), (2, .int (nI (k + 1))), (3, .int (nI (8 * (k + 1))))]) [0, 1, 2] rfl ?_
                exact ih_2 (k + 1) (by omega) (by rw [hx, show 8 - k = (8 - (k + 1)) + 1 from by omega, plr, if_neg (by omega), if_neg (by omega), Nat.div_div_eq_div_mul, ← Nat.pow_succ]) (by omega)
              · skip
                refine g_lcmp (v := (nI 1)) hc (lcmp_gt (by omega) (by decide) h126) dX1_lengthOf_46 (n := 47) rfl ?_
                refine n_if_le hc (by omega) dX1_lengthOf_47 (tgt := 52) (by decide) (n := 50) rfl (fun c_21 => by (exfalso; revert c_21; first | omega | decide)) (fun c_21 => ?_)
                refine g_iconst (v := nI 0) hc (by decide) dX1_lengthOf_50 (n := 51) rfl ?_
                refine hret.1 _ _ _ _ _ _ rfl (by decide) (by decide) dX1_lengthOf_51 ?_
                exact ⟨_, rfl, (by rw [hx, show 8 - k = (8 - (k + 1)) + 1 from by omega, plr, if_neg (by omega), if_pos (by omega)]), rfl⟩
            · skip
              refine g_lcmp (v := (nI 1)) hc (lcmp_gt (by omega) (by decide) h33) dX1_lengthOf_37 (n := 38) rfl ?_
              refine n_if_lt hc (by omega) dX1_lengthOf_38 (tgt := 50) (by decide) (n := 41) rfl ?_
              refine g_lload hc 4 rfl dX1_lengthOf_41 (n := 43) rfl ?_
              refine g_ldc2 (v2 := lN 126) hc k_kc_RX1_27 (by decide) dX1_lengthOf_43 (n := 46) rfl ?_
              rcases Nat.lt_trichotomy (w / 256 ^ k % 256) 126 with h126 | h126 | h126
              · skip
                refine g_lcmp (v := (-1)) hc (lcmp_lt (by omega) (by decide) h126) dX1_lengthOf_46 (n := 47) rfl ?_
                refine g_if_le hc dX1_lengthOf_47 (tgt := 52) (by decide) (n := 50) rfl (fun c_23 => ?_) (fun c_23 => by (exfalso; revert c_23; first | omega | decide))
                refine n_iinc (v := k + 1) (zk := 1) (lv2 := [(0, .long (lN w)), (2, .int (nI (k + 1))), (3, .int (nI (8 * k))), (4, .long (lN (w / 256 ^ k))), (6, .long (lN (w / 256 ^ k % 256)))]) hc 1 rfl (by decide) rfl (by decide) [1, 0, 2, 3, 4] rfl rfl dX1_lengthOf_52 (n := 55) rfl ?_
                refine n_iinc (v := (8 * k) + 8) (zk := 8) (lv2 := [(0, .long (lN w)), (2, .int (nI (k + 1))), (3, .int (nI ((8 * k) + 8))), (4, .long (lN (w / 256 ^ k))), (6, .long (lN (w / 256 ^ k % 256)))]) hc 2 rfl (by decide) rfl (by decide) [1, 2, 0, 3, 4] rfl rfl dX1_lengthOf_55 (n := 58) rfl ?_
                refine g_goto (n := 4) hc dX1_lengthOf_58 (by decide) ?_
                refine g_lv (lv' := [(0, .long (lN w)), (2, .int (nI (k + 1))), (3, .int (nI (8 * (k + 1)))), (4, .long (lN (w / 256 ^ k))), (6, .long (lN (w / 256 ^ k % 256)))]) (by rw [show 8 * (k + 1) = 8 * k + 8 from rfl]) ?_
                refine g_lsub (lv' := [(0, .long (lN w)), (2, .int (nI (k + 1))), (3, .int (nI (8 * (k + 1))))]) [0, 1, 2] rfl ?_
                exact ih_2 (k + 1) (by omega) (by rw [hx, show 8 - k = (8 - (k + 1)) + 1 from by omega, plr, if_neg (by omega), if_neg (by omega), Nat.div_div_eq_div_mul, ← Nat.pow_succ]) (by omega)
              · skip
                refine g_lcmp (v := (nI 0)) hc (by rw [h126]; exact lcmp_eq 126) dX1_lengthOf_46 (n := 47) rfl ?_
                refine n_if_le hc (by omega) dX1_lengthOf_47 (tgt := 52) (by decide) (n := 50) rfl (fun c_24 => ?_) (fun c_24 => by (exfalso; revert c_24; first | omega | decide))
                refine n_iinc (v := k + 1) (zk := 1) (lv2 := [(0, .long (lN w)), (2, .int (nI (k + 1))), (3, .int (nI (8 * k))), (4, .long (lN (w / 256 ^ k))), (6, .long (lN (w / 256 ^ k % 256)))]) hc 1 rfl (by decide) rfl (by decide) [1, 0, 2, 3, 4] rfl rfl dX1_lengthOf_52 (n := 55) rfl ?_
                refine n_iinc (v := (8 * k) + 8) (zk := 8) (lv2 := [(0, .long (lN w)), (2, .int (nI (k + 1))), (3, .int (nI ((8 * k) + 8))), (4, .long (lN (w / 256 ^ k))), (6, .long (lN (w / 256 ^ k % 256)))]) hc 2 rfl (by decide) rfl (by decide) [1, 2, 0, 3, 4] rfl rfl dX1_lengthOf_55 (n := 58) rfl ?_
                refine g_goto (n := 4) hc dX1_lengthOf_58 (by decide) ?_
                refine g_lv (lv' := [(0, .long (lN w)), (2, .int (nI (k + 1))), (3, .int (nI (8 * (k + 1)))), (4, .long (lN (w / 256 ^ k))), (6, .long (lN (w / 256 ^ k % 256)))]) (by rw [show 8 * (k + 1) = 8 * k + 8 from rfl]) ?_
                refine g_lsub (lv' := [(0, .long (lN w)), (2, .int (nI (k + 1))), (3, .int (nI (8 * (k + 1))))]) [0, 1, 2] rfl ?_
                exact ih_2 (k + 1) (by omega) (by rw [hx, show 8 - k = (8 - (k + 1)) + 1 from by omega, plr, if_neg (by omega), if_neg (by omega), Nat.div_div_eq_div_mul, ← Nat.pow_succ]) (by omega)
              · skip
                refine g_lcmp (v := (nI 1)) hc (lcmp_gt (by omega) (by decide) h126) dX1_lengthOf_46 (n := 47) rfl ?_
                refine n_if_le hc (by omega) dX1_lengthOf_47 (tgt := 52) (by decide) (n := 50) rfl (fun c_25 => by (exfalso; revert c_25; first | omega | decide)) (fun c_25 => ?_)
                refine g_iconst (v := nI 0) hc (by decide) dX1_lengthOf_50 (n := 51) rfl ?_
                refine hret.1 _ _ _ _ _ _ rfl (by decide) (by decide) dX1_lengthOf_51 ?_
                exact ⟨_, rfl, (by rw [hx, show 8 - k = (8 - (k + 1)) + 1 from by omega, plr, if_neg (by omega), if_pos (by omega)]), rfl⟩
  exact L_1 _ 0 (by omega) (by rw [Nat.pow_zero, Nat.div_one]; rfl) (Nat.lt_succ_self _)
set_option maxHeartbeats 1000000 in
set_option maxRecDepth 100000 in
theorem c_X1_append (κ : Kp) (l : Launch) (p0 : Nat) (s0 : Nat) (ln : Nat) (w : Nat) (sg : Nat → Nat) (hln : ln ≤ 60) (hw : w < 2 ^ 64) : CT κ l yX1_append cX1_append 5 (some .int) 1 27 0 0 [.ref p0, .long (lN w)] [(p0, .inr (1, [.ref s0, .int (nI ln)])), (s0, aC κ 60 sg)] (PI (fun rr ww => rr = (nI (pur ln w)) ∧ ww = [(p0, .inr (1, [.ref s0, .int (nI (pul ln w))])), (s0, aC κ 60 (pus sg ln w))])) := by
  refine CT.go (plainFor_of_name (by decide)) (Nat.le_of_ble_eq_true rfl) ?_
  intro Γ A Q hl hc hret
  subst hl
  have hc : Cx κ Γ A cX1_append 5 RX1 "append" (some .int) { frames := 1, cells := 0, slots := 0, locals := 27 } := hc
  refine g_lv (lv' := [(0, .ref p0), (1, .long (lN w))]) rfl ?_
  refine g_lload_n hc 1 rfl rfl dX1_append_0 (n := 1) rfl ?_
  refine g_callS (rest := []) (As := [.long (lN w)]) (cells' := 0) (slots' := 0) hc (c_X1_lengthOf κ _ w hw) q_X1_lengthOf k_ml_RX1_15 rfl rfl (jn_ix (wr := [(p0, .inr (1, [.ref s0, .int (nI ln)])), (s0, aC κ 60 sg)]) [] [0, 1] rfl rfl rfl rfl (by decide)) ⟨⟨by decide, by decide⟩, by decide, by decide⟩ (Nat.le_of_ble_eq_true rfl) rfl rfl dX1_append_1 (n := 4) rfl (fun vv ww hp => ?_)
  obtain ⟨rr, rfl, rfl, rfl⟩ := hp
  refine ⟨_, rfl, ?_⟩
  refine g_ws (ws' := [(p0, .inr (1, [.ref s0, .int (nI ln)])), (s0, aC κ 60 sg)]) rfl ?_
  refine g_st (st' := [.int (nI (pln w))]) rfl ?_
  have hm8 := pln_le w
  refine g_istore_n (lv2 := [(0, .ref p0), (1, .long (lN w)), (3, .int (nI (pln w)))]) hc rfl (by decide) [1, 2, 0] rfl rfl dX1_append_4 (n := 5) rfl ?_
  refine g_iload_n hc 2 rfl rfl dX1_append_5 (n := 6) rfl ?_
  refine n_if_ne hc (by omega) dX1_append_6 (tgt := 12) (by decide) (n := 9) rfl (fun c_1 => ?_) (fun c_1 => ?_)
  · skip
    refine g_aload_n hc 0 rfl rfl dX1_append_12 (n := 13) rfl ?_
    refine g_getf hc 0 rfl vw_1 inX1 1 (by decide) k_fl_RX1_19 rfl rfl dX1_append_13 (n := 16) rfl ?_
    refine g_iload_n hc 2 rfl rfl dX1_append_16 (n := 17) rfl ?_
    refine n_iadd (v := ln + (pln w)) hc rfl dX1_append_17 (n := 18) rfl ?_
    refine g_bipush (v := nI 60) hc (by decide) dX1_append_18 (n := 20) rfl ?_
    refine n_icmp_le hc (by omega) (by omega) dX1_append_20 (tgt := 26) (by decide) (n := 23) rfl (fun c_2 => ?_) (fun c_2 => ?_)
    · skip
      refine g_iload_n hc 2 rfl rfl dX1_append_26 (n := 27) rfl ?_
      refine g_iconst (v := nI 1) hc (by decide) dX1_append_27 (n := 28) rfl ?_
      refine n_isub (v := (pln w) - 1) hc (by omega) rfl dX1_append_28 (n := 29) rfl ?_
      refine g_istore (lv2 := [(0, .ref p0), (1, .long (lN w)), (3, .int (nI (pln w))), (4, .int (nI ((pln w) - 1)))]) hc (by decide) [1, 2, 3, 0] rfl rfl dX1_append_29 (n := 31) rfl ?_
      refine g_lv (lv' := [(0, .ref p0), (1, .long (lN w)), (3, .int (nI (pln w))), (4, .int (nI (pln w) + (-1)))]) (by rw [show nI (pln w) + (-1) = nI (pln w - 1) from by obtain ⟨k, hk⟩ : ∃ k, pln w = k + 1 := ⟨pln w - 1, by omega⟩; rw [hk]; exact pk_m1 k]) ?_
      have L_3 : ∀ (fuel : Nat) (j : Nat) (L : Nat) (g : Nat → Nat), (j ≤ pln w) → (L = ln + (pln w - j)) → (∀ k, k < 60 → g k = if ln ≤ k ∧ k < ln + (pln w - j) then pby w (pln w - 1 - (k - ln)) else sg k) → j < fuel → G κ Γ A 5 0 0 Q [(p0, .inr (1, [.ref s0, .int (nI L)])), (s0, aC κ 60 g)] 31 [(0, .ref p0), (1, .long (lN w)), (3, .int (nI (pln w))), (4, .int (nI j + (-1)))] [] := by
        intro fuel
        induction fuel with
        | zero => intro j L g hj hL hg h; exact absurd h (Nat.not_lt_zero _)
        | succ fuel ih_4 =>
          intro j L g hj hL hg hn_5
          rcases j with _ | j
          · refine g_lv (lv' := [(0, .ref p0), (1, .long (lN w)), (3, .int (nI (pln w))), (4, .int (-1))]) rfl ?_
            refine g_iload hc 3 rfl dX1_append_31 (n := 33) rfl ?_
            refine g_if_lt hc dX1_append_33 (tgt := 74) (by decide) (n := 36) rfl (fun c_6 => ?_) (fun c_6 => by (exfalso; revert c_6; first | omega | decide))
            refine g_aload_n hc 0 rfl rfl dX1_append_74 (n := 75) rfl ?_
            refine g_getf hc 0 rfl vw_1 inX1 1 (by decide) k_fl_RX1_19 rfl rfl dX1_append_75 (n := 78) rfl ?_
            refine g_ws (ws' := [(p0, .inr (1, [.ref s0, .int (nI (pul ln w))])), (s0, aC κ 60 g)]) (by unfold pul; rw [if_neg (by omega), if_neg (by omega), show L = ln + pln w from by omega]) ?_
            refine g_arr (ws' := [(p0, .inr (1, [.ref s0, .int (nI (pul ln w))])), (s0, aC κ 60 (pus sg ln w))]) (f := g) (g := pus sg ln w) 1 rfl (fun k hk => by unfold pus; rw [if_neg (by omega), if_neg (by omega), hg k hk]; unfold ppt; rfl) rfl ?_
            refine hret.1 _ _ _ _ _ _ rfl (by decide) (by decide) dX1_append_78 ?_
            exact ⟨_, rfl, (by unfold pur; rw [if_neg (by omega), if_neg (by omega), show L = ln + pln w from by omega]), rfl⟩
          · refine g_lv (lv' := [(0, .ref p0), (1, .long (lN w)), (3, .int (nI (pln w))), (4, .int (nI j))]) (by rw [pk_m1]) ?_
            refine g_iload hc 3 rfl dX1_append_31 (n := 33) rfl ?_
            refine n_if_lt hc (by omega) dX1_append_33 (tgt := 74) (by decide) (n := 36) rfl ?_
            refine g_aload_n hc 0 rfl rfl dX1_append_36 (n := 37) rfl ?_
            refine g_getf hc 0 rfl vw_1 inX1 0 (by decide) k_fl_RX1_9 rfl rfl dX1_append_37 (n := 40) rfl ?_
            refine g_aload_n hc 0 rfl rfl dX1_append_40 (n := 41) rfl ?_
            refine g_getf hc 0 rfl vw_1 inX1 1 (by decide) k_fl_RX1_19 rfl rfl dX1_append_41 (n := 44) rfl ?_
            refine g_lload_n hc 1 rfl rfl dX1_append_44 (n := 45) rfl ?_
            refine g_bipush (v := nI 8) hc (by decide) dX1_append_45 (n := 47) rfl ?_
            refine g_iload hc 3 rfl dX1_append_47 (n := 49) rfl ?_
            refine n_imul (v := 8 * j) hc rfl dX1_append_49 (n := 50) rfl ?_
            refine g_lushr (v := (lN (w / 256 ^ j))) hc (lsh hw (by omega)) dX1_append_50 (n := 51) rfl ?_
            refine g_ldc2 (v2 := lN 255) hc k_kc_RX1_23 (by decide) dX1_append_51 (n := 54) rfl ?_
            refine g_land (v := (lN (pby w j))) hc (land255 (div_lt64 hw j)) dX1_append_54 (n := 55) rfl ?_
            refine n_l2i hc dX1_append_55 (n := 56) rfl ?_
            refine g_i2c (v := (nI (pby w j))) hc (char_small _ (Nat.mod_lt _ (by decide))) dX1_append_56 (n := 57) rfl ?_
            refine n_cast (ws' := [(p0, .inr (1, [.ref s0, .int (nI L)])), (s0, aC κ 60 (va_up g L (pby w j)))]) hc 1 rfl (by omega) (by decide) (by have := Nat.mod_lt (w / 256 ^ j) (show 0 < 256 by decide); unfold pby; omega) rfl dX1_append_57 (n := 58) rfl ?_
            refine g_aload_n hc 0 rfl rfl dX1_append_58 (n := 59) rfl ?_
            refine g_dup hc rfl dX1_append_59 (n := 60) rfl ?_
            refine g_getf hc 0 rfl vw_1 inX1 1 (by decide) k_fl_RX1_19 rfl rfl dX1_append_60 (n := 63) rfl ?_
            refine g_iconst (v := nI 1) hc (by decide) dX1_append_63 (n := 64) rfl ?_
            refine n_iadd (v := L + 1) hc rfl dX1_append_64 (n := 65) rfl ?_
            refine g_putf (ws' := [(p0, .inr (1, [.ref s0, .int (nI (L + 1))])), (s0, aC κ 60 (va_up g L (pby w j)))]) hc 0 rfl vw_1 inX1 tyX1_ok nmX1 1 (by decide) k_fl_RX1_19 rfl rfl rfl rfl (Nat.le_of_ble_eq_true rfl) rfl dX1_append_65 (n := 68) rfl ?_
            refine g_iinc (v := nI j + (-1)) (lv2 := [(0, .ref p0), (1, .long (lN w)), (3, .int (nI (pln w))), (4, .int (nI j + (-1)))]) hc 3 rfl (congrArg (fun z : Int32 => nI j + z) (by decide : Int32.ofInt (-1) = -1)) (by decide) [1, 2, 3, 0] rfl rfl dX1_append_68 (n := 71) rfl ?_
            refine g_goto (n := 31) hc dX1_append_71 (by decide) ?_
            exact ih_4 j (L + 1) (va_up g L (pby w j)) (by omega) (by omega) (fun k hk => by by_cases e : k = L; (rw [e, va_up_self, if_pos (by omega)]; congr 1; omega); (rw [va_up_ne _ _ e, hg k hk]; by_cases q : ln ≤ k ∧ k < ln + (pln w - (j + 1)); (rw [if_pos q, if_pos (by omega)]); (rw [if_neg q, if_neg (by omega)]))) (by omega)
      exact L_3 _ (pln w) ln sg (Nat.le_refl _) (by omega) (fun k hk => by rw [if_neg (by omega)]) (Nat.lt_succ_self _)
    · skip
      refine g_bipush (v := nI 4294967292) hc (by decide) dX1_append_23 (n := 25) rfl ?_
      refine g_ws (ws' := [(p0, .inr (1, [.ref s0, .int (nI (pul ln w))])), (s0, aC κ 60 sg)]) (by unfold pul; rw [if_neg (by omega), if_pos (by omega)]) ?_
      refine g_arr (ws' := [(p0, .inr (1, [.ref s0, .int (nI (pul ln w))])), (s0, aC κ 60 (pus sg ln w))]) (f := sg) (g := pus sg ln w) 1 rfl (fun k hk => by unfold pus; rw [if_neg (by omega), if_pos (by omega)]) rfl ?_
      refine hret.1 _ _ _ _ _ _ rfl (by decide) (by decide) dX1_append_25 ?_
      exact ⟨_, rfl, (by unfold pur; rw [if_neg (by omega), if_pos (by omega)]), rfl⟩
  · skip
    refine g_bipush (v := nI 4294967294) hc (by decide) dX1_append_9 (n := 11) rfl ?_
    refine g_ws (ws' := [(p0, .inr (1, [.ref s0, .int (nI (pul ln w))])), (s0, aC κ 60 sg)]) (by unfold pul; rw [if_pos (by omega)]) ?_
    refine g_arr (ws' := [(p0, .inr (1, [.ref s0, .int (nI (pul ln w))])), (s0, aC κ 60 (pus sg ln w))]) (f := sg) (g := pus sg ln w) 1 rfl (fun k hk => by unfold pus; rw [if_pos (by omega)]) rfl ?_
    refine hret.1 _ _ _ _ _ _ rfl (by decide) (by decide) dX1_append_11 ?_
    exact ⟨_, rfl, (by unfold pur; rw [if_pos (by omega)]), rfl⟩
