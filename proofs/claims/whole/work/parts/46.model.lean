set_option maxHeartbeats 1000000 in
set_option maxRecDepth 100000 in
theorem c_X5_put (κ : Kp) (l : Launch) (m : Nat → Nat) (n : Nat) (ln : Nat) (w : Nat) (sg : Nat → Nat) (hln : ln ≤ 60) (hw : w < 2 ^ 64) : CT κ l yX5_put cX5_put 8 (some .int) 1 22 0 0 [.ref (m 0), .long (lN w)] [(m 0, .inr (5, [.ref (m 1), .ref (m 2), .ref (m 3), .int (nI n), .ref (m 4), .ref (m 5), .ref (m 6), .int (nI ln), .ref (m 7), .ref (m 8)])), (m 6, aI κ 60 sg)] (PI (fun rr ww => rr = (nI (pur ln w)) ∧ ww = [(m 0, .inr (5, [.ref (m 1), .ref (m 2), .ref (m 3), .int (nI n), .ref (m 4), .ref (m 5), .ref (m 6), .int (nI (pul ln w)), .ref (m 7), .ref (m 8)])), (m 6, aI κ 60 (pus sg ln w))])) := by
  refine CT.go (plainFor_of_name (by decide)) (Nat.le_of_ble_eq_true rfl) ?_
  intro Γ A Q hl hc hret
  subst hl
  have hc : Cx κ Γ A cX5_put 8 RX5 "put" (some .int) { frames := 1, cells := 0, slots := 0, locals := 22 } := hc
  refine g_lv (lv' := [(0, .ref (m 0)), (1, .long (lN w))]) rfl ?_
  refine g_iconst (v := nI 0) hc (by decide) dX5_put_0 (n := 1) rfl ?_
  refine g_istore_n (lv2 := [(0, .ref (m 0)), (1, .long (lN w)), (3, .int (nI 0))]) hc rfl (by decide) [1, 2, 0] rfl rfl dX5_put_1 (n := 2) rfl ?_
  refine g_lload_n hc 1 rfl rfl dX5_put_2 (n := 3) rfl ?_
  refine g_lstore (lv2 := [(0, .ref (m 0)), (1, .long (lN w)), (3, .int (nI 0)), (4, .long (lN w))]) hc (by decide) [1, 2, 3, 0] rfl rfl dX5_put_3 (n := 5) rfl ?_
  refine g_lload_n hc 1 rfl rfl dX5_put_5 (n := 6) rfl ?_
  refine g_lconst (v := lN 0) hc (by decide) dX5_put_6 (n := 7) rfl ?_
  rcases Nat.eq_zero_or_pos (w) with h0 | h0
  · skip
    refine g_lcmp (v := (nI 0)) hc (by rw [h0]; exact lcmp_eq 0) dX5_put_7 (n := 8) rfl ?_
    refine n_if_eq hc (by omega) dX5_put_8 (tgt := 15) (by decide) (n := 11) rfl (fun c_1 => ?_) (fun c_1 => by (exfalso; revert c_1; first | omega | decide))
    refine g_iconst (v := nI 0) hc (by decide) dX5_put_15 (n := 16) rfl ?_
    refine g_istore (lv2 := [(0, .ref (m 0)), (1, .long (lN w)), (3, .int (nI 0)), (4, .long (lN w)), (6, .int (nI 0))]) hc (by decide) [1, 2, 3, 4, 0] rfl rfl dX5_put_16 (n := 18) rfl ?_
    refine g_lv (lv' := [(0, .ref (m 0)), (1, .long (lN w)), (3, .int (nI 0)), (4, .long (lN (w / 256 ^ 0))), (6, .int (nI 0))]) (by rw [Nat.pow_zero, Nat.div_one]) ?_
    have L_2 : ∀ (fuel : Nat) (k : Nat) (e : Nat), (k ≤ 8) → (e ≤ 1) → (e = 1 → pln w = plr (8 - k) (w / 256 ^ k) k ∧ w ≠ 0) → (e = 0 → pln w = 0) → 8 - k < fuel → G κ Γ A 8 0 0 Q [(m 0, .inr (5, [.ref (m 1), .ref (m 2), .ref (m 3), .int (nI n), .ref (m 4), .ref (m 5), .ref (m 6), .int (nI ln), .ref (m 7), .ref (m 8)])), (m 6, aI κ 60 sg)] 18 [(0, .ref (m 0)), (1, .long (lN w)), (3, .int (nI k)), (4, .long (lN (w / 256 ^ k))), (6, .int (nI e))] [] := by
      intro fuel
      induction fuel with
      | zero => intro k e hk he hq1 hq0 h; exact absurd h (Nat.not_lt_zero _)
      | succ fuel ih_3 =>
        intro k e hk he hq1 hq0 hn_4
        refine g_lload hc 3 rfl dX5_put_18 (n := 20) rfl ?_
        refine g_lconst (v := lN 0) hc (by decide) dX5_put_20 (n := 21) rfl ?_
        rcases Nat.eq_zero_or_pos (w / 256 ^ k) with h0 | h0
        · skip
          refine g_lcmp (v := (nI 0)) hc (by rw [h0]; exact lcmp_eq 0) dX5_put_21 (n := 22) rfl ?_
          refine n_if_eq hc (by omega) dX5_put_22 (tgt := 67) (by decide) (n := 25) rfl (fun c_5 => ?_) (fun c_5 => by (exfalso; revert c_5; first | omega | decide))
          refine g_iload hc 4 rfl dX5_put_67 (n := 69) rfl ?_
          refine n_if_ne hc (by omega) dX5_put_69 (tgt := 75) (by decide) (n := 72) rfl (fun c_6 => ?_) (fun c_6 => ?_)
          · skip
            have hq2 := hq1 (by omega)
            have hm : pln w = k := by rw [hq2.1, show w / 256 ^ k = 0 from by omega, plr_0]
            have hm0 : pln w ≠ 0 := fun q => by have e : k = 0 := (by omega); subst e; have e2 : w / 256 ^ 0 = 0 := (by omega); rw [Nat.pow_zero, Nat.div_one] at e2; exact hq2.2 e2
            have hm8 := pln_le w
            clear hq1 hq0 hq2
            subst hm
            refine g_lsub (lv' := [(0, .ref (m 0)), (1, .long (lN w)), (3, .int (nI (pln w)))]) [0, 1, 2] rfl ?_
            refine g_aload_n hc 0 rfl rfl dX5_put_75 (n := 76) rfl ?_
            refine g_getf hc 0 rfl vw_5 inX5 7 (by decide) k_fl_RX5_83 rfl rfl dX5_put_76 (n := 79) rfl ?_
            refine g_iload_n hc 2 rfl rfl dX5_put_79 (n := 80) rfl ?_
            refine n_iadd (v := ln + (pln w)) hc rfl dX5_put_80 (n := 81) rfl ?_
            refine g_bipush (v := nI 60) hc (by decide) dX5_put_81 (n := 83) rfl ?_
            refine n_icmp_le hc (by omega) (by omega) dX5_put_83 (tgt := 89) (by decide) (n := 86) rfl (fun c_7 => ?_) (fun c_7 => ?_)
            · skip
              refine g_iload_n hc 2 rfl rfl dX5_put_89 (n := 90) rfl ?_
              refine g_iconst (v := nI 1) hc (by decide) dX5_put_90 (n := 91) rfl ?_
              refine n_isub (v := (pln w) - 1) hc (by omega) rfl dX5_put_91 (n := 92) rfl ?_
              refine g_istore (lv2 := [(0, .ref (m 0)), (1, .long (lN w)), (3, .int (nI (pln w))), (7, .int (nI ((pln w) - 1)))]) hc (by decide) [1, 2, 3, 0] rfl rfl dX5_put_92 (n := 94) rfl ?_
              refine g_lv (lv' := [(0, .ref (m 0)), (1, .long (lN w)), (3, .int (nI (pln w))), (7, .int (nI (pln w) + (-1)))]) (by rw [show nI (pln w) + (-1) = nI (pln w - 1) from by obtain ⟨k, hk⟩ : ∃ k, pln w = k + 1 := ⟨pln w - 1, by omega⟩; rw [hk]; exact pk_m1 k]) ?_
              have L_8 : ∀ (fuel : Nat) (j : Nat) (L : Nat) (g : Nat → Nat), (j ≤ pln w) → (L = ln + (pln w - j)) → (∀ k, k < 60 → g k = if ln ≤ k ∧ k < ln + (pln w - j) then pby w (pln w - 1 - (k - ln)) else sg k) → j < fuel → G κ Γ A 8 0 0 Q [(m 0, .inr (5, [.ref (m 1), .ref (m 2), .ref (m 3), .int (nI n), .ref (m 4), .ref (m 5), .ref (m 6), .int (nI L), .ref (m 7), .ref (m 8)])), (m 6, aI κ 60 g)] 94 [(0, .ref (m 0)), (1, .long (lN w)), (7, .int (nI j + (-1)))] [] := by
                intro fuel
                induction fuel with
                | zero => intro j L g hj hL hg h; exact absurd h (Nat.not_lt_zero _)
                | succ fuel ih_9 =>
                  intro j L g hj hL hg hn_10
                  rcases j with _ | j
                  · refine g_lv (lv' := [(0, .ref (m 0)), (1, .long (lN w)), (7, .int (-1))]) rfl ?_
                    refine g_iload hc 2 rfl dX5_put_94 (n := 96) rfl ?_
                    refine g_if_lt hc dX5_put_96 (tgt := 136) (by decide) (n := 99) rfl (fun c_11 => ?_) (fun c_11 => by (exfalso; revert c_11; first | omega | decide))
                    refine g_aload_n hc 0 rfl rfl dX5_put_136 (n := 137) rfl ?_
                    refine g_getf hc 0 rfl vw_5 inX5 7 (by decide) k_fl_RX5_83 rfl rfl dX5_put_137 (n := 140) rfl ?_
                    refine g_ws (ws' := [(m 0, .inr (5, [.ref (m 1), .ref (m 2), .ref (m 3), .int (nI n), .ref (m 4), .ref (m 5), .ref (m 6), .int (nI (pul ln w)), .ref (m 7), .ref (m 8)])), (m 6, aI κ 60 g)]) (by unfold pul; rw [if_neg (by omega), if_neg (by omega), show L = ln + pln w from by omega]) ?_
                    refine g_arr (ws' := [(m 0, .inr (5, [.ref (m 1), .ref (m 2), .ref (m 3), .int (nI n), .ref (m 4), .ref (m 5), .ref (m 6), .int (nI (pul ln w)), .ref (m 7), .ref (m 8)])), (m 6, aI κ 60 (pus sg ln w))]) (f := g) (g := pus sg ln w) 1 rfl (fun k hk => by unfold pus; rw [if_neg (by omega), if_neg (by omega), hg k hk]; unfold ppt; rfl) rfl ?_
                    refine hret.1 _ _ _ _ _ _ rfl (by decide) (by decide) dX5_put_140 ?_
                    exact ⟨_, rfl, (by unfold pur; rw [if_neg (by omega), if_neg (by omega), show L = ln + pln w from by omega]), rfl⟩
                  · refine g_lv (lv' := [(0, .ref (m 0)), (1, .long (lN w)), (7, .int (nI j))]) (by rw [pk_m1]) ?_
                    refine g_iload hc 2 rfl dX5_put_94 (n := 96) rfl ?_
                    refine n_if_lt hc (by omega) dX5_put_96 (tgt := 136) (by decide) (n := 99) rfl ?_
                    refine g_aload_n hc 0 rfl rfl dX5_put_99 (n := 100) rfl ?_
                    refine g_getf hc 0 rfl vw_5 inX5 6 (by decide) k_fl_RX5_26 rfl rfl dX5_put_100 (n := 103) rfl ?_
                    refine g_aload_n hc 0 rfl rfl dX5_put_103 (n := 104) rfl ?_
                    refine g_getf hc 0 rfl vw_5 inX5 7 (by decide) k_fl_RX5_83 rfl rfl dX5_put_104 (n := 107) rfl ?_
                    refine g_lload_n hc 1 rfl rfl dX5_put_107 (n := 108) rfl ?_
                    refine g_bipush (v := nI 8) hc (by decide) dX5_put_108 (n := 110) rfl ?_
                    refine g_iload hc 2 rfl dX5_put_110 (n := 112) rfl ?_
                    refine n_imul (v := 8 * j) hc rfl dX5_put_112 (n := 113) rfl ?_
                    refine g_lshr (v := (lN w >>> ((nI (8 * j)).toInt64 &&& 63))) hc (rfl) dX5_put_113 (n := 114) rfl ?_
                    refine g_ldc2 (v2 := lN 255) hc k_kc_RX5_125 (by decide) dX5_put_114 (n := 117) rfl ?_
                    refine g_land (v := (lN (pby w j))) hc (ash hw (by omega)) dX5_put_117 (n := 118) rfl ?_
                    refine n_l2i hc dX5_put_118 (n := 119) rfl ?_
                    refine n_iast (ws' := [(m 0, .inr (5, [.ref (m 1), .ref (m 2), .ref (m 3), .int (nI n), .ref (m 4), .ref (m 5), .ref (m 6), .int (nI L), .ref (m 7), .ref (m 8)])), (m 6, aI κ 60 (va_up g L (pby w j)))]) hc 1 rfl (by omega) (by decide) rfl dX5_put_119 (n := 120) rfl ?_
                    refine g_aload_n hc 0 rfl rfl dX5_put_120 (n := 121) rfl ?_
                    refine g_dup hc rfl dX5_put_121 (n := 122) rfl ?_
                    refine g_getf hc 0 rfl vw_5 inX5 7 (by decide) k_fl_RX5_83 rfl rfl dX5_put_122 (n := 125) rfl ?_
                    refine g_iconst (v := nI 1) hc (by decide) dX5_put_125 (n := 126) rfl ?_
                    refine n_iadd (v := L + 1) hc rfl dX5_put_126 (n := 127) rfl ?_
                    refine g_putf (ws' := [(m 0, .inr (5, [.ref (m 1), .ref (m 2), .ref (m 3), .int (nI n), .ref (m 4), .ref (m 5), .ref (m 6), .int (nI (L + 1)), .ref (m 7), .ref (m 8)])), (m 6, aI κ 60 (va_up g L (pby w j)))]) hc 0 rfl vw_5 inX5 tyX5_ok nmX5 7 (by decide) k_fl_RX5_83 rfl rfl rfl rfl (Nat.le_of_ble_eq_true rfl) rfl dX5_put_127 (n := 130) rfl ?_
                    refine g_iinc (v := nI j + (-1)) (lv2 := [(0, .ref (m 0)), (1, .long (lN w)), (7, .int (nI j + (-1)))]) hc 2 rfl (congrArg (fun z : Int32 => nI j + z) (by decide : Int32.ofInt (-1) = -1)) (by decide) [1, 2, 0] rfl rfl dX5_put_130 (n := 133) rfl ?_
                    refine g_goto (n := 94) hc dX5_put_133 (by decide) ?_
                    exact ih_9 j (L + 1) (va_up g L (pby w j)) (by omega) (by omega) (fun k hk => by by_cases e : k = L; (rw [e, va_up_self, if_pos (by omega)]; congr 1; omega); (rw [va_up_ne _ _ e, hg k hk]; by_cases q : ln ≤ k ∧ k < ln + (pln w - (j + 1)); (rw [if_pos q, if_pos (by omega)]); (rw [if_neg q, if_neg (by omega)]))) (by omega)
              refine g_lsub (lv' := [(0, .ref (m 0)), (1, .long (lN w)), (7, .int (nI (pln w) + (-1)))]) [0, 1, 3] rfl ?_
              exact L_8 _ (pln w) ln sg (Nat.le_refl _) (by omega) (fun k hk => by rw [if_neg (by omega)]) (Nat.lt_succ_self _)
            · skip
              refine g_bipush (v := nI 4294967292) hc (by decide) dX5_put_86 (n := 88) rfl ?_
              refine g_ws (ws' := [(m 0, .inr (5, [.ref (m 1), .ref (m 2), .ref (m 3), .int (nI n), .ref (m 4), .ref (m 5), .ref (m 6), .int (nI (pul ln w)), .ref (m 7), .ref (m 8)])), (m 6, aI κ 60 sg)]) (by unfold pul; rw [if_neg (by omega), if_pos (by omega)]) ?_
              refine g_arr (ws' := [(m 0, .inr (5, [.ref (m 1), .ref (m 2), .ref (m 3), .int (nI n), .ref (m 4), .ref (m 5), .ref (m 6), .int (nI (pul ln w)), .ref (m 7), .ref (m 8)])), (m 6, aI κ 60 (pus sg ln w))]) (f := sg) (g := pus sg ln w) 1 rfl (fun k hk => by unfold pus; rw [if_neg (by omega), if_pos (by omega)]) rfl ?_
              refine hret.1 _ _ _ _ _ _ rfl (by decide) (by decide) dX5_put_88 ?_
              exact ⟨_, rfl, (by unfold pur; rw [if_neg (by omega), if_pos (by omega)]), rfl⟩
          · skip
            refine g_bipush (v := nI 4294967294) hc (by decide) dX5_put_72 (n := 74) rfl ?_
            refine g_ws (ws' := [(m 0, .inr (5, [.ref (m 1), .ref (m 2), .ref (m 3), .int (nI n), .ref (m 4), .ref (m 5), .ref (m 6), .int (nI (pul ln w)), .ref (m 7), .ref (m 8)])), (m 6, aI κ 60 sg)]) (by unfold pul; rw [if_pos (by first | assumption | exact hq0 (by omega))]) ?_
            refine g_arr (ws' := [(m 0, .inr (5, [.ref (m 1), .ref (m 2), .ref (m 3), .int (nI n), .ref (m 4), .ref (m 5), .ref (m 6), .int (nI (pul ln w)), .ref (m 7), .ref (m 8)])), (m 6, aI κ 60 (pus sg ln w))]) (f := sg) (g := pus sg ln w) 1 rfl (fun k hk => by unfold pus; rw [if_pos (by first | assumption | exact hq0 (by omega))]) rfl ?_
            refine hret.1 _ _ _ _ _ _ rfl (by decide) (by decide) dX5_put_74 ?_
            exact ⟨_, rfl, (by unfold pur; rw [if_pos (by first | assumption | exact hq0 (by omega))]), rfl⟩
        · rcases lcmp_0 (div_lt64 hw k) h0 with h1 | h1
          · skip
            refine g_lcmp (v := (nI 1)) hc (h1) dX5_put_21 (n := 22) rfl ?_
            refine n_if_eq hc (by omega) dX5_put_22 (tgt := 67) (by decide) (n := 25) rfl (fun c_13 => by (exfalso; revert c_13; first | omega | decide)) (fun c_13 => ?_)
            refine g_iload hc 4 rfl dX5_put_25 (n := 27) rfl ?_
            refine n_if_eq hc (by omega) dX5_put_27 (tgt := 51) (by decide) (n := 30) rfl (fun c_14 => ?_) (fun c_14 => ?_)
            · skip
              refine g_iconst (v := nI 0) hc (by decide) dX5_put_51 (n := 52) rfl ?_
              refine g_istore (lv2 := [(0, .ref (m 0)), (1, .long (lN w)), (3, .int (nI k)), (4, .long (lN (w / 256 ^ k))), (6, .int (nI 0))]) hc (by decide) [1, 2, 3, 4, 0] rfl rfl dX5_put_52 (n := 54) rfl ?_
              refine n_iinc (v := k + 1) (zk := 1) (lv2 := [(0, .ref (m 0)), (1, .long (lN w)), (3, .int (nI (k + 1))), (4, .long (lN (w / 256 ^ k))), (6, .int (nI 0))]) hc 2 rfl (by decide) rfl (by decide) [1, 2, 0, 3, 4] rfl rfl dX5_put_54 (n := 57) rfl ?_
              refine g_lload hc 3 rfl dX5_put_57 (n := 59) rfl ?_
              refine g_bipush (v := nI 8) hc (by decide) dX5_put_59 (n := 61) rfl ?_
              refine g_lushr (v := (lN (w / 256 ^ k / 256))) hc (by have h := wb_shr (div_lt64 hw k) (k := 8) (by decide); exact h) dX5_put_61 (n := 62) rfl ?_
              refine g_lstore (lv2 := [(0, .ref (m 0)), (1, .long (lN w)), (3, .int (nI (k + 1))), (4, .long (lN (w / 256 ^ k / 256))), (6, .int (nI 0))]) hc (by decide) [1, 2, 3, 0, 4] rfl rfl dX5_put_62 (n := 64) rfl ?_
              refine g_goto (n := 18) hc dX5_put_64 (by decide) ?_
              refine g_lv (lv' := [(0, .ref (m 0)), (1, .long (lN w)), (3, .int (nI (k + 1))), (4, .long (lN (w / 256 ^ (k + 1)))), (6, .int (nI 0))]) (by rw [Nat.pow_succ, ← Nat.div_div_eq_div_mul]) ?_
              exact ih_3 (k + 1) 0 (by have := wk_lt hw hk (by omega); omega) (by omega) (fun q => by first | exact absurd q (by decide) | (refine ⟨?_, (hq1 (by omega)).2⟩; rw [(hq1 (by omega)).1, show 8 - k = (8 - (k + 1)) + 1 from by have := wk_lt hw hk (by omega); omega, plr, if_neg (by omega), if_neg (by omega), Nat.div_div_eq_div_mul, ← Nat.pow_succ])) (fun q => by first | exact absurd q (by decide) | exact hq0 (by omega) | (rw [(hq1 (by omega)).1, show 8 - k = (8 - (k + 1)) + 1 from by have := wk_lt hw hk (by omega); omega, plr, if_neg (by omega), if_pos (by omega)])) (by have := wk_lt hw hk (by omega); omega)
            · skip
              refine g_lload hc 3 rfl dX5_put_30 (n := 32) rfl ?_
              refine g_ldc2 (v2 := lN 255) hc k_kc_RX5_125 (by decide) dX5_put_32 (n := 35) rfl ?_
              refine g_land (v := (lN (w / 256 ^ k % 256))) hc (land255 (div_lt64 hw k)) dX5_put_35 (n := 36) rfl ?_
              refine n_l2i hc dX5_put_36 (n := 37) rfl ?_
              refine g_bipush (v := nI 33) hc (by decide) dX5_put_37 (n := 39) rfl ?_
              refine g_bipush (v := nI 126) hc (by decide) dX5_put_39 (n := 41) rfl ?_
              by_cases h5 : 33 ≤ w / 256 ^ k % 256 ∧ w / 256 ^ k % 256 ≤ 126
              · skip
                refine g_callS (rest := []) (As := [.int (nI (w / 256 ^ k % 256)), .int (nI 33), .int (nI 126)]) (cells' := 0) (slots' := 0) hc (c_X5_in_y κ _ (nI (w / 256 ^ k % 256)) (nI 33) (nI 126) (in_y h5.1 h5.2)) q_X5_in k_ml_RX5_35 rfl rfl (jn_ix (wr := [(m 0, .inr (5, [.ref (m 1), .ref (m 2), .ref (m 3), .int (nI n), .ref (m 4), .ref (m 5), .ref (m 6), .int (nI ln), .ref (m 7), .ref (m 8)])), (m 6, aI κ 60 sg)]) [] [0, 1] rfl rfl rfl rfl (by decide)) ⟨⟨by decide, by decide⟩, by decide, by decide⟩ (Nat.le_of_ble_eq_true rfl) rfl rfl dX5_put_41 (n := 44) rfl (fun vv ww hp => ?_)
                obtain ⟨rr, rfl, rfl, rfl⟩ := hp
                refine ⟨_, rfl, ?_⟩
                refine g_ws (ws' := [(m 0, .inr (5, [.ref (m 1), .ref (m 2), .ref (m 3), .int (nI n), .ref (m 4), .ref (m 5), .ref (m 6), .int (nI ln), .ref (m 7), .ref (m 8)])), (m 6, aI κ 60 sg)]) rfl ?_
                refine g_st (st' := [.int (nI 1)]) rfl ?_
                refine n_if_eq hc (by omega) dX5_put_44 (tgt := 51) (by decide) (n := 47) rfl (fun c_15 => by (exfalso; revert c_15; first | omega | decide)) (fun c_15 => ?_)
                refine g_iconst (v := nI 1) hc (by decide) dX5_put_47 (n := 48) rfl ?_
                refine g_goto (n := 52) hc dX5_put_48 (by decide) ?_
                refine g_istore (lv2 := [(0, .ref (m 0)), (1, .long (lN w)), (3, .int (nI k)), (4, .long (lN (w / 256 ^ k))), (6, .int (nI 1))]) hc (by decide) [1, 2, 3, 4, 0] rfl rfl dX5_put_52 (n := 54) rfl ?_
                refine n_iinc (v := k + 1) (zk := 1) (lv2 := [(0, .ref (m 0)), (1, .long (lN w)), (3, .int (nI (k + 1))), (4, .long (lN (w / 256 ^ k))), (6, .int (nI 1))]) hc 2 rfl (by decide) rfl (by decide) [1, 2, 0, 3, 4] rfl rfl dX5_put_54 (n := 57) rfl ?_
                refine g_lload hc 3 rfl dX5_put_57 (n := 59) rfl ?_
                refine g_bipush (v := nI 8) hc (by decide) dX5_put_59 (n := 61) rfl ?_
                refine g_lushr (v := (lN (w / 256 ^ k / 256))) hc (by have h := wb_shr (div_lt64 hw k) (k := 8) (by decide); exact h) dX5_put_61 (n := 62) rfl ?_
                refine g_lstore (lv2 := [(0, .ref (m 0)), (1, .long (lN w)), (3, .int (nI (k + 1))), (4, .long (lN (w / 256 ^ k / 256))), (6, .int (nI 1))]) hc (by decide) [1, 2, 3, 0, 4] rfl rfl dX5_put_62 (n := 64) rfl ?_
                refine g_goto (n := 18) hc dX5_put_64 (by decide) ?_
                refine g_lv (lv' := [(0, .ref (m 0)), (1, .long (lN w)), (3, .int (nI (k + 1))), (4, .long (lN (w / 256 ^ (k + 1)))), (6, .int (nI 1))]) (by rw [Nat.pow_succ, ← Nat.div_div_eq_div_mul]) ?_
                exact ih_3 (k + 1) 1 (by have := wk_lt hw hk (by omega); omega) (by omega) (fun q => by first | exact absurd q (by decide) | (refine ⟨?_, (hq1 (by omega)).2⟩; rw [(hq1 (by omega)).1, show 8 - k = (8 - (k + 1)) + 1 from by have := wk_lt hw hk (by omega); omega, plr, if_neg (by omega), if_neg (by omega), Nat.div_div_eq_div_mul, ← Nat.pow_succ])) (fun q => by first | exact absurd q (by decide) | exact hq0 (by omega) | (rw [(hq1 (by omega)).1, show 8 - k = (8 - (k + 1)) + 1 from by have := wk_lt hw hk (by omega); omega, plr, if_neg (by omega), if_pos (by omega)])) (by have := wk_lt hw hk (by omega); omega)
              · skip
                refine g_callS (rest := []) (As := [.int (nI (w / 256 ^ k % 256)), .int (nI 33), .int (nI 126)]) (cells' := 0) (slots' := 0) hc (c_X5_in_n κ _ (nI (w / 256 ^ k % 256)) (nI 33) (nI 126) (in_nn (by omega) (by decide) (by decide) (by omega))) q_X5_in k_ml_RX5_35 rfl rfl (jn_ix (wr := [(m 0, .inr (5, [.ref (m 1), .ref (m 2), .ref (m 3), .int (nI n), .ref (m 4), .ref (m 5), .ref (m 6), .int (nI ln), .ref (m 7), .ref (m 8)])), (m 6, aI κ 60 sg)]) [] [0, 1] rfl rfl rfl rfl (by decide)) ⟨⟨by decide, by decide⟩, by decide, by decide⟩ (Nat.le_of_ble_eq_true rfl) rfl rfl dX5_put_41 (n := 44) rfl (fun vv ww hp => ?_)
                obtain ⟨rr, rfl, rfl, rfl⟩ := hp
                refine ⟨_, rfl, ?_⟩
                refine g_ws (ws' := [(m 0, .inr (5, [.ref (m 1), .ref (m 2), .ref (m 3), .int (nI n), .ref (m 4), .ref (m 5), .ref (m 6), .int (nI ln), .ref (m 7), .ref (m 8)])), (m 6, aI κ 60 sg)]) rfl ?_
                refine g_st (st' := [.int (nI 0)]) rfl ?_
                refine n_if_eq hc (by omega) dX5_put_44 (tgt := 51) (by decide) (n := 47) rfl (fun c_16 => ?_) (fun c_16 => by (exfalso; revert c_16; first | omega | decide))
                refine g_iconst (v := nI 0) hc (by decide) dX5_put_51 (n := 52) rfl ?_
                refine g_istore (lv2 := [(0, .ref (m 0)), (1, .long (lN w)), (3, .int (nI k)), (4, .long (lN (w / 256 ^ k))), (6, .int (nI 0))]) hc (by decide) [1, 2, 3, 4, 0] rfl rfl dX5_put_52 (n := 54) rfl ?_
                refine n_iinc (v := k + 1) (zk := 1) (lv2 := [(0, .ref (m 0)), (1, .long (lN w)), (3, .int (nI (k + 1))), (4, .long (lN (w / 256 ^ k))), (6, .int (nI 0))]) hc 2 rfl (by decide) rfl (by decide) [1, 2, 0, 3, 4] rfl rfl dX5_put_54 (n := 57) rfl ?_
                refine g_lload hc 3 rfl dX5_put_57 (n := 59) rfl ?_
                refine g_bipush (v := nI 8) hc (by decide) dX5_put_59 (n := 61) rfl ?_
                refine g_lushr (v := (lN (w / 256 ^ k / 256))) hc (by have h := wb_shr (div_lt64 hw k) (k := 8) (by decide); exact h) dX5_put_61 (n := 62) rfl ?_
                refine g_lstore (lv2 := [(0, .ref (m 0)), (1, .long (lN w)), (3, .int (nI (k + 1))), (4, .long (lN (w / 256 ^ k / 256))), (6, .int (nI 0))]) hc (by decide) [1, 2, 3, 0, 4] rfl rfl dX5_put_62 (n := 64) rfl ?_
                refine g_goto (n := 18) hc dX5_put_64 (by decide) ?_
                refine g_lv (lv' := [(0, .ref (m 0)), (1, .long (lN w)), (3, .int (nI (k + 1))), (4, .long (lN (w / 256 ^ (k + 1)))), (6, .int (nI 0))]) (by rw [Nat.pow_succ, ← Nat.div_div_eq_div_mul]) ?_
                exact ih_3 (k + 1) 0 (by have := wk_lt hw hk (by omega); omega) (by omega) (fun q => by first | exact absurd q (by decide) | (refine ⟨?_, (hq1 (by omega)).2⟩; rw [(hq1 (by omega)).1, show 8 - k = (8 - (k + 1)) + 1 from by have := wk_lt hw hk (by omega); omega, plr, if_neg (by omega), if_neg (by omega), Nat.div_div_eq_div_mul, ← Nat.pow_succ])) (fun q => by first | exact absurd q (by decide) | exact hq0 (by omega) | (rw [(hq1 (by omega)).1, show 8 - k = (8 - (k + 1)) + 1 from by have := wk_lt hw hk (by omega); omega, plr, if_neg (by omega), if_pos (by omega)])) (by have := wk_lt hw hk (by omega); omega)
          · skip
            refine g_lcmp (v := (-1)) hc (h1) dX5_put_21 (n := 22) rfl ?_
            refine g_if_eq hc dX5_put_22 (tgt := 67) (by decide) (n := 25) rfl (fun c_17 => by (exfalso; revert c_17; first | omega | decide)) (fun c_17 => ?_)
            refine g_iload hc 4 rfl dX5_put_25 (n := 27) rfl ?_
            refine n_if_eq hc (by omega) dX5_put_27 (tgt := 51) (by decide) (n := 30) rfl (fun c_18 => ?_) (fun c_18 => ?_)
            · skip
              refine g_iconst (v := nI 0) hc (by decide) dX5_put_51 (n := 52) rfl ?_
              refine g_istore (lv2 := [(0, .ref (m 0)), (1, .long (lN w)), (3, .int (nI k)), (4, .long (lN (w / 256 ^ k))), (6, .int (nI 0))]) hc (by decide) [1, 2, 3, 4, 0] rfl rfl dX5_put_52 (n := 54) rfl ?_
              refine n_iinc (v := k + 1) (zk := 1) (lv2 := [(0, .ref (m 0)), (1, .long (lN w)), (3, .int (nI (k + 1))), (4, .long (lN (w / 256 ^ k))), (6, .int (nI 0))]) hc 2 rfl (by decide) rfl (by decide) [1, 2, 0, 3, 4] rfl rfl dX5_put_54 (n := 57) rfl ?_
              refine g_lload hc 3 rfl dX5_put_57 (n := 59) rfl ?_
              refine g_bipush (v := nI 8) hc (by decide) dX5_put_59 (n := 61) rfl ?_
              refine g_lushr (v := (lN (w / 256 ^ k / 256))) hc (by have h := wb_shr (div_lt64 hw k) (k := 8) (by decide); exact h) dX5_put_61 (n := 62) rfl ?_
              refine g_lstore (lv2 := [(0, .ref (m 0)), (1, .long (lN w)), (3, .int (nI (k + 1))), (4, .long (lN (w / 256 ^ k / 256))), (6, .int (nI 0))]) hc (by decide) [1, 2, 3, 0, 4] rfl rfl dX5_put_62 (n := 64) rfl ?_
              refine g_goto (n := 18) hc dX5_put_64 (by decide) ?_
              refine g_lv (lv' := [(0, .ref (m 0)), (1, .long (lN w)), (3, .int (nI (k + 1))), (4, .long (lN (w / 256 ^ (k + 1)))), (6, .int (nI 0))]) (by rw [Nat.pow_succ, ← Nat.div_div_eq_div_mul]) ?_
              exact ih_3 (k + 1) 0 (by have := wk_lt hw hk (by omega); omega) (by omega) (fun q => by first | exact absurd q (by decide) | (refine ⟨?_, (hq1 (by omega)).2⟩; rw [(hq1 (by omega)).1, show 8 - k = (8 - (k + 1)) + 1 from by have := wk_lt hw hk (by omega); omega, plr, if_neg (by omega), if_neg (by omega), Nat.div_div_eq_div_mul, ← Nat.pow_succ])) (fun q => by first | exact absurd q (by decide) | exact hq0 (by omega) | (rw [(hq1 (by omega)).1, show 8 - k = (8 - (k + 1)) + 1 from by have := wk_lt hw hk (by omega); omega, plr, if_neg (by omega), if_pos (by omega)])) (by have := wk_lt hw hk (by omega); omega)
            · skip
              refine g_lload hc 3 rfl dX5_put_30 (n := 32) rfl ?_
              refine g_ldc2 (v2 := lN 255) hc k_kc_RX5_125 (by decide) dX5_put_32 (n := 35) rfl ?_
              refine g_land (v := (lN (w / 256 ^ k % 256))) hc (land255 (div_lt64 hw k)) dX5_put_35 (n := 36) rfl ?_
              refine n_l2i hc dX5_put_36 (n := 37) rfl ?_
              refine g_bipush (v := nI 33) hc (by decide) dX5_put_37 (n := 39) rfl ?_
              refine g_bipush (v := nI 126) hc (by decide) dX5_put_39 (n := 41) rfl ?_
              by_cases h5 : 33 ≤ w / 256 ^ k % 256 ∧ w / 256 ^ k % 256 ≤ 126
              · skip
                refine g_callS (rest := []) (As := [.int (nI (w / 256 ^ k % 256)), .int (nI 33), .int (nI 126)]) (cells' := 0) (slots' := 0) hc (c_X5_in_y κ _ (nI (w / 256 ^ k % 256)) (nI 33) (nI 126) (in_y h5.1 h5.2)) q_X5_in k_ml_RX5_35 rfl rfl (jn_ix (wr := [(m 0, .inr (5, [.ref (m 1), .ref (m 2), .ref (m 3), .int (nI n), .ref (m 4), .ref (m 5), .ref (m 6), .int (nI ln), .ref (m 7), .ref (m 8)])), (m 6, aI κ 60 sg)]) [] [0, 1] rfl rfl rfl rfl (by decide)) ⟨⟨by decide, by decide⟩, by decide, by decide⟩ (Nat.le_of_ble_eq_true rfl) rfl rfl dX5_put_41 (n := 44) rfl (fun vv ww hp => ?_)
                obtain ⟨rr, rfl, rfl, rfl⟩ := hp
                refine ⟨_, rfl, ?_⟩
                refine g_ws (ws' := [(m 0, .inr (5, [.ref (m 1), .ref (m 2), .ref (m 3), .int (nI n), .ref (m 4), .ref (m 5), .ref (m 6), .int (nI ln), .ref (m 7), .ref (m 8)])), (m 6, aI κ 60 sg)]) rfl ?_
                refine g_st (st' := [.int (nI 1)]) rfl ?_
                refine n_if_eq hc (by omega) dX5_put_44 (tgt := 51) (by decide) (n := 47) rfl (fun c_19 => by (exfalso; revert c_19; first | omega | decide)) (fun c_19 => ?_)
                refine g_iconst (v := nI 1) hc (by decide) dX5_put_47 (n := 48) rfl ?_
                refine g_goto (n := 52) hc dX5_put_48 (by decide) ?_
                refine g_istore (lv2 := [(0, .ref (m 0)), (1, .long (lN w)), (3, .int (nI k)), (4, .long (lN (w / 256 ^ k))), (6, .int (nI 1))]) hc (by decide) [1, 2, 3, 4, 0] rfl rfl dX5_put_52 (n := 54) rfl ?_
                refine n_iinc (v := k + 1) (zk := 1) (lv2 := [(0, .ref (m 0)), (1, .long (lN w)), (3, .int (nI (k + 1))), (4, .long (lN (w / 256 ^ k))), (6, .int (nI 1))]) hc 2 rfl (by decide) rfl (by decide) [1, 2, 0, 3, 4] rfl rfl dX5_put_54 (n := 57) rfl ?_
                refine g_lload hc 3 rfl dX5_put_57 (n := 59) rfl ?_
                refine g_bipush (v := nI 8) hc (by decide) dX5_put_59 (n := 61) rfl ?_
                refine g_lushr (v := (lN (w / 256 ^ k / 256))) hc (by have h := wb_shr (div_lt64 hw k) (k := 8) (by decide); exact h) dX5_put_61 (n := 62) rfl ?_
                refine g_lstore (lv2 := [(0, .ref (m 0)), (1, .long (lN w)), (3, .int (nI (k + 1))), (4, .long (lN (w / 256 ^ k / 256))), (6, .int (nI 1))]) hc (by decide) [1, 2, 3, 0, 4] rfl rfl dX5_put_62 (n := 64) rfl ?_
                refine g_goto (n := 18) hc dX5_put_64 (by decide) ?_
                refine g_lv (lv' := [(0, .ref (m 0)), (1, .long (lN w)), (3, .int (nI (k + 1))), (4, .long (lN (w / 256 ^ (k + 1)))), (6, .int (nI 1))]) (by rw [Nat.pow_succ, ← Nat.div_div_eq_div_mul]) ?_
                exact ih_3 (k + 1) 1 (by have := wk_lt hw hk (by omega); omega) (by omega) (fun q => by first | exact absurd q (by decide) | (refine ⟨?_, (hq1 (by omega)).2⟩; rw [(hq1 (by omega)).1, show 8 - k = (8 - (k + 1)) + 1 from by have := wk_lt hw hk (by omega); omega, plr, if_neg (by omega), if_neg (by omega), Nat.div_div_eq_div_mul, ← Nat.pow_succ])) (fun q => by first | exact absurd q (by decide) | exact hq0 (by omega) | (rw [(hq1 (by omega)).1, show 8 - k = (8 - (k + 1)) + 1 from by have := wk_lt hw hk (by omega); omega, plr, if_neg (by omega), if_pos (by omega)])) (by have := wk_lt hw hk (by omega); omega)
              · skip
                refine g_callS (rest := []) (As := [.int (nI (w / 256 ^ k % 256)), .int (nI 33), .int (nI 126)]) (cells' := 0) (slots' := 0) hc (c_X5_in_n κ _ (nI (w / 256 ^ k % 256)) (nI 33) (nI 126) (in_nn (by omega) (by decide) (by decide) (by omega))) q_X5_in k_ml_RX5_35 rfl rfl (jn_ix (wr := [(m 0, .inr (5, [.ref (m 1), .ref (m 2), .ref (m 3), .int (nI n), .ref (m 4), .ref (m 5), .ref (m 6), .int (nI ln), .ref (m 7), .ref (m 8)])), (m 6, aI κ 60 sg)]) [] [0, 1] rfl rfl rfl rfl (by decide)) ⟨⟨by decide, by decide⟩, by decide, by decide⟩ (Nat.le_of_ble_eq_true rfl) rfl rfl dX5_put_41 (n := 44) rfl (fun vv ww hp => ?_)
                obtain ⟨rr, rfl, rfl, rfl⟩ := hp
                refine ⟨_, rfl, ?_⟩
                refine g_ws (ws' := [(m 0, .inr (5, [.ref (m 1), .ref (m 2), .ref (m 3), .int (nI n), .ref (m 4), .ref (m 5), .ref (m 6), .int (nI ln), .ref (m 7), .ref (m 8)])), (m 6, aI κ 60 sg)]) rfl ?_
                refine g_st (st' := [.int (nI 0)]) rfl ?_
                refine n_if_eq hc (by omega) dX5_put_44 (tgt := 51) (by decide) (n := 47) rfl (fun c_20 => ?_) (fun c_20 => by (exfalso; revert c_20; first | omega | decide))
                refine g_iconst (v := nI 0) hc (by decide) dX5_put_51 (n := 52) rfl ?_
                refine g_istore (lv2 := [(0, .ref (m 0)), (1, .long (lN w)), (3, .int (nI k)), (4, .long (lN (w / 256 ^ k))), (6, .int (nI 0))]) hc (by decide) [1, 2, 3, 4, 0] rfl rfl dX5_put_52 (n := 54) rfl ?_
                refine n_iinc (v := k + 1) (zk := 1) (lv2 := [(0, .ref (m 0)), (1, .long (lN w)), (3, .int (nI (k + 1))), (4, .long (lN (w / 256 ^ k))), (6, .int (nI 0))]) hc 2 rfl (by decide) rfl (by decide) [1, 2, 0, 3, 4] rfl rfl dX5_put_54 (n := 57) rfl ?_
                refine g_lload hc 3 rfl dX5_put_57 (n := 59) rfl ?_
                refine g_bipush (v := nI 8) hc (by decide) dX5_put_59 (n := 61) rfl ?_
                refine g_lushr (v := (lN (w / 256 ^ k / 256))) hc (by have h := wb_shr (div_lt64 hw k) (k := 8) (by decide); exact h) dX5_put_61 (n := 62) rfl ?_
                refine g_lstore (lv2 := [(0, .ref (m 0)), (1, .long (lN w)), (3, .int (nI (k + 1))), (4, .long (lN (w / 256 ^ k / 256))), (6, .int (nI 0))]) hc (by decide) [1, 2, 3, 0, 4] rfl rfl dX5_put_62 (n := 64) rfl ?_
                refine g_goto (n := 18) hc dX5_put_64 (by decide) ?_
                refine g_lv (lv' := [(0, .ref (m 0)), (1, .long (lN w)), (3, .int (nI (k + 1))), (4, .long (lN (w / 256 ^ (k + 1)))), (6, .int (nI 0))]) (by rw [Nat.pow_succ, ← Nat.div_div_eq_div_mul]) ?_
                exact ih_3 (k + 1) 0 (by have := wk_lt hw hk (by omega); omega) (by omega) (fun q => by first | exact absurd q (by decide) | (refine ⟨?_, (hq1 (by omega)).2⟩; rw [(hq1 (by omega)).1, show 8 - k = (8 - (k + 1)) + 1 from by have := wk_lt hw hk (by omega); omega, plr, if_neg (by omega), if_neg (by omega), Nat.div_div_eq_div_mul, ← Nat.pow_succ])) (fun q => by first | exact absurd q (by decide) | exact hq0 (by omega) | (rw [(hq1 (by omega)).1, show 8 - k = (8 - (k + 1)) + 1 from by have := wk_lt hw hk (by omega); omega, plr, if_neg (by omega), if_pos (by omega)])) (by have := wk_lt hw hk (by omega); omega)
    exact L_2 _ 0 0 (Nat.zero_le _) (by omega) (fun q => by first | exact absurd q (by decide) | exact ⟨by rw [Nat.pow_zero, Nat.div_one]; rfl, by omega⟩) (fun q => by first | exact absurd q (by decide) | (subst h0; rfl)) (Nat.lt_succ_self _)
  · rcases lcmp_0 hw h0 with h1 | h1
    · skip
      refine g_lcmp (v := (nI 1)) hc (h1) dX5_put_7 (n := 8) rfl ?_
      refine n_if_eq hc (by omega) dX5_put_8 (tgt := 15) (by decide) (n := 11) rfl (fun c_21 => by (exfalso; revert c_21; first | omega | decide)) (fun c_21 => ?_)
      refine g_iconst (v := nI 1) hc (by decide) dX5_put_11 (n := 12) rfl ?_
      refine g_goto (n := 16) hc dX5_put_12 (by decide) ?_
      refine g_istore (lv2 := [(0, .ref (m 0)), (1, .long (lN w)), (3, .int (nI 0)), (4, .long (lN w)), (6, .int (nI 1))]) hc (by decide) [1, 2, 3, 4, 0] rfl rfl dX5_put_16 (n := 18) rfl ?_
      refine g_lv (lv' := [(0, .ref (m 0)), (1, .long (lN w)), (3, .int (nI 0)), (4, .long (lN (w / 256 ^ 0))), (6, .int (nI 1))]) (by rw [Nat.pow_zero, Nat.div_one]) ?_
      have L_22 : ∀ (fuel : Nat) (k : Nat) (e : Nat), (k ≤ 8) → (e ≤ 1) → (e = 1 → pln w = plr (8 - k) (w / 256 ^ k) k ∧ w ≠ 0) → (e = 0 → pln w = 0) → 8 - k < fuel → G κ Γ A 8 0 0 Q [(m 0, .inr (5, [.ref (m 1), .ref (m 2), .ref (m 3), .int (nI n), .ref (m 4), .ref (m 5), .ref (m 6), .int (nI ln), .ref (m 7), .ref (m 8)])), (m 6, aI κ 60 sg)] 18 [(0, .ref (m 0)), (1, .long (lN w)), (3, .int (nI k)), (4, .long (lN (w / 256 ^ k))), (6, .int (nI e))] [] := by
        intro fuel
        induction fuel with
        | zero => intro k e hk he hq1 hq0 h; exact absurd h (Nat.not_lt_zero _)
        | succ fuel ih_23 =>
          intro k e hk he hq1 hq0 hn_24
          refine g_lload hc 3 rfl dX5_put_18 (n := 20) rfl ?_
          refine g_lconst (v := lN 0) hc (by decide) dX5_put_20 (n := 21) rfl ?_
          rcases Nat.eq_zero_or_pos (w / 256 ^ k) with h0 | h0
          · skip
            refine g_lcmp (v := (nI 0)) hc (by rw [h0]; exact lcmp_eq 0) dX5_put_21 (n := 22) rfl ?_
            refine n_if_eq hc (by omega) dX5_put_22 (tgt := 67) (by decide) (n := 25) rfl (fun c_25 => ?_) (fun c_25 => by (exfalso; revert c_25; first | omega | decide))
            refine g_iload hc 4 rfl dX5_put_67 (n := 69) rfl ?_
            refine n_if_ne hc (by omega) dX5_put_69 (tgt := 75) (by decide) (n := 72) rfl (fun c_26 => ?_) (fun c_26 => ?_)
            · skip
              have hq2 := hq1 (by omega)
              have hm : pln w = k := by rw [hq2.1, show w / 256 ^ k = 0 from by omega, plr_0]
              have hm0 : pln w ≠ 0 := fun q => by have e : k = 0 := (by omega); subst e; have e2 : w / 256 ^ 0 = 0 := (by omega); rw [Nat.pow_zero, Nat.div_one] at e2; exact hq2.2 e2
              have hm8 := pln_le w
              clear hq1 hq0 hq2
              subst hm
              refine g_lsub (lv' := [(0, .ref (m 0)), (1, .long (lN w)), (3, .int (nI (pln w)))]) [0, 1, 2] rfl ?_
              refine g_aload_n hc 0 rfl rfl dX5_put_75 (n := 76) rfl ?_
              refine g_getf hc 0 rfl vw_5 inX5 7 (by decide) k_fl_RX5_83 rfl rfl dX5_put_76 (n := 79) rfl ?_
              refine g_iload_n hc 2 rfl rfl dX5_put_79 (n := 80) rfl ?_
              refine n_iadd (v := ln + (pln w)) hc rfl dX5_put_80 (n := 81) rfl ?_
              refine g_bipush (v := nI 60) hc (by decide) dX5_put_81 (n := 83) rfl ?_
              refine n_icmp_le hc (by omega) (by omega) dX5_put_83 (tgt := 89) (by decide) (n := 86) rfl (fun c_27 => ?_) (fun c_27 => ?_)
              · skip
                refine g_iload_n hc 2 rfl rfl dX5_put_89 (n := 90) rfl ?_
                refine g_iconst (v := nI 1) hc (by decide) dX5_put_90 (n := 91) rfl ?_
                refine n_isub (v := (pln w) - 1) hc (by omega) rfl dX5_put_91 (n := 92) rfl ?_
                refine g_istore (lv2 := [(0, .ref (m 0)), (1, .long (lN w)), (3, .int (nI (pln w))), (7, .int (nI ((pln w) - 1)))]) hc (by decide) [1, 2, 3, 0] rfl rfl dX5_put_92 (n := 94) rfl ?_
                refine g_lv (lv' := [(0, .ref (m 0)), (1, .long (lN w)), (3, .int (nI (pln w))), (7, .int (nI (pln w) + (-1)))]) (by rw [show nI (pln w) + (-1) = nI (pln w - 1) from by obtain ⟨k, hk⟩ : ∃ k, pln w = k + 1 := ⟨pln w - 1, by omega⟩; rw [hk]; exact pk_m1 k]) ?_
                have L_28 : ∀ (fuel : Nat) (j : Nat) (L : Nat) (g : Nat → Nat), (j ≤ pln w) → (L = ln + (pln w - j)) → (∀ k, k < 60 → g k = if ln ≤ k ∧ k < ln + (pln w - j) then pby w (pln w - 1 - (k - ln)) else sg k) → j < fuel → G κ Γ A 8 0 0 Q [(m 0, .inr (5, [.ref (m 1), .ref (m 2), .ref (m 3), .int (nI n), .ref (m 4), .ref (m 5), .ref (m 6), .int (nI L), .ref (m 7), .ref (m 8)])), (m 6, aI κ 60 g)] 94 [(0, .ref (m 0)), (1, .long (lN w)), (7, .int (nI j + (-1)))] [] := by
                  intro fuel
                  induction fuel with
                  | zero => intro j L g hj hL hg h; exact absurd h (Nat.not_lt_zero _)
                  | succ fuel ih_29 =>
                    intro j L g hj hL hg hn_30
                    rcases j with _ | j
                    · refine g_lv (lv' := [(0, .ref (m 0)), (1, .long (lN w)), (7, .int (-1))]) rfl ?_
                      refine g_iload hc 2 rfl dX5_put_94 (n := 96) rfl ?_
                      refine g_if_lt hc dX5_put_96 (tgt := 136) (by decide) (n := 99) rfl (fun c_31 => ?_) (fun c_31 => by (exfalso; revert c_31; first | omega | decide))
                      refine g_aload_n hc 0 rfl rfl dX5_put_136 (n := 137) rfl ?_
                      refine g_getf hc 0 rfl vw_5 inX5 7 (by decide) k_fl_RX5_83 rfl rfl dX5_put_137 (n := 140) rfl ?_
                      refine g_ws (ws' := [(m 0, .inr (5, [.ref (m 1), .ref (m 2), .ref (m 3), .int (nI n), .ref (m 4), .ref (m 5), .ref (m 6), .int (nI (pul ln w)), .ref (m 7), .ref (m 8)])), (m 6, aI κ 60 g)]) (by unfold pul; rw [if_neg (by omega), if_neg (by omega), show L = ln + pln w from by omega]) ?_
                      refine g_arr (ws' := [(m 0, .inr (5, [.ref (m 1), .ref (m 2), .ref (m 3), .int (nI n), .ref (m 4), .ref (m 5), .ref (m 6), .int (nI (pul ln w)), .ref (m 7), .ref (m 8)])), (m 6, aI κ 60 (pus sg ln w))]) (f := g) (g := pus sg ln w) 1 rfl (fun k hk => by unfold pus; rw [if_neg (by omega), if_neg (by omega), hg k hk]; unfold ppt; rfl) rfl ?_
                      refine hret.1 _ _ _ _ _ _ rfl (by decide) (by decide) dX5_put_140 ?_
                      exact ⟨_, rfl, (by unfold pur; rw [if_neg (by omega), if_neg (by omega), show L = ln + pln w from by omega]), rfl⟩
                    · refine g_lv (lv' := [(0, .ref (m 0)), (1, .long (lN w)), (7, .int (nI j))]) (by rw [pk_m1]) ?_
                      refine g_iload hc 2 rfl dX5_put_94 (n := 96) rfl ?_
                      refine n_if_lt hc (by omega) dX5_put_96 (tgt := 136) (by decide) (n := 99) rfl ?_
                      refine g_aload_n hc 0 rfl rfl dX5_put_99 (n := 100) rfl ?_
                      refine g_getf hc 0 rfl vw_5 inX5 6 (by decide) k_fl_RX5_26 rfl rfl dX5_put_100 (n := 103) rfl ?_
                      refine g_aload_n hc 0 rfl rfl dX5_put_103 (n := 104) rfl ?_
                      refine g_getf hc 0 rfl vw_5 inX5 7 (by decide) k_fl_RX5_83 rfl rfl dX5_put_104 (n := 107) rfl ?_
                      refine g_lload_n hc 1 rfl rfl dX5_put_107 (n := 108) rfl ?_
                      refine g_bipush (v := nI 8) hc (by decide) dX5_put_108 (n := 110) rfl ?_
                      refine g_iload hc 2 rfl dX5_put_110 (n := 112) rfl ?_
                      refine n_imul (v := 8 * j) hc rfl dX5_put_112 (n := 113) rfl ?_
                      refine g_lshr (v := (lN w >>> ((nI (8 * j)).toInt64 &&& 63))) hc (rfl) dX5_put_113 (n := 114) rfl ?_
                      refine g_ldc2 (v2 := lN 255) hc k_kc_RX5_125 (by decide) dX5_put_114 (n := 117) rfl ?_
                      refine g_land (v := (lN (pby w j))) hc (ash hw (by omega)) dX5_put_117 (n := 118) rfl ?_
                      refine n_l2i hc dX5_put_118 (n := 119) rfl ?_
                      refine n_iast (ws' := [(m 0, .inr (5, [.ref (m 1), .ref (m 2), .ref (m 3), .int (nI n), .ref (m 4), .ref (m 5), .ref (m 6), .int (nI L), .ref (m 7), .ref (m 8)])), (m 6, aI κ 60 (va_up g L (pby w j)))]) hc 1 rfl (by omega) (by decide) rfl dX5_put_119 (n := 120) rfl ?_
                      refine g_aload_n hc 0 rfl rfl dX5_put_120 (n := 121) rfl ?_
                      refine g_dup hc rfl dX5_put_121 (n := 122) rfl ?_
                      refine g_getf hc 0 rfl vw_5 inX5 7 (by decide) k_fl_RX5_83 rfl rfl dX5_put_122 (n := 125) rfl ?_
                      refine g_iconst (v := nI 1) hc (by decide) dX5_put_125 (n := 126) rfl ?_
                      refine n_iadd (v := L + 1) hc rfl dX5_put_126 (n := 127) rfl ?_
                      refine g_putf (ws' := [(m 0, .inr (5, [.ref (m 1), .ref (m 2), .ref (m 3), .int (nI n), .ref (m 4), .ref (m 5), .ref (m 6), .int (nI (L + 1)), .ref (m 7), .ref (m 8)])), (m 6, aI κ 60 (va_up g L (pby w j)))]) hc 0 rfl vw_5 inX5 tyX5_ok nmX5 7 (by decide) k_fl_RX5_83 rfl rfl rfl rfl (Nat.le_of_ble_eq_true rfl) rfl dX5_put_127 (n := 130) rfl ?_
                      refine g_iinc (v := nI j + (-1)) (lv2 := [(0, .ref (m 0)), (1, .long (lN w)), (7, .int (nI j + (-1)))]) hc 2 rfl (congrArg (fun z : Int32 => nI j + z) (by decide : Int32.ofInt (-1) = -1)) (by decide) [1, 2, 0] rfl rfl dX5_put_130 (n := 133) rfl ?_
                      refine g_goto (n := 94) hc dX5_put_133 (by decide) ?_
                      exact ih_29 j (L + 1) (va_up g L (pby w j)) (by omega) (by omega) (fun k hk => by by_cases e : k = L; (rw [e, va_up_self, if_pos (by omega)]; congr 1; omega); (rw [va_up_ne _ _ e, hg k hk]; by_cases q : ln ≤ k ∧ k < ln + (pln w - (j + 1)); (rw [if_pos q, if_pos (by omega)]); (rw [if_neg q, if_neg (by omega)]))) (by omega)
                refine g_lsub (lv' := [(0, .ref (m 0)), (1, .long (lN w)), (7, .int (nI (pln w) + (-1)))]) [0, 1, 3] rfl ?_
                exact L_28 _ (pln w) ln sg (Nat.le_refl _) (by omega) (fun k hk => by rw [if_neg (by omega)]) (Nat.lt_succ_self _)
              · skip
                refine g_bipush (v := nI 4294967292) hc (by decide) dX5_put_86 (n := 88) rfl ?_
                refine g_ws (ws' := [(m 0, .inr (5, [.ref (m 1), .ref (m 2), .ref (m 3), .int (nI n), .ref (m 4), .ref (m 5), .ref (m 6), .int (nI (pul ln w)), .ref (m 7), .ref (m 8)])), (m 6, aI κ 60 sg)]) (by unfold pul; rw [if_neg (by omega), if_pos (by omega)]) ?_
                refine g_arr (ws' := [(m 0, .inr (5, [.ref (m 1), .ref (m 2), .ref (m 3), .int (nI n), .ref (m 4), .ref (m 5), .ref (m 6), .int (nI (pul ln w)), .ref (m 7), .ref (m 8)])), (m 6, aI κ 60 (pus sg ln w))]) (f := sg) (g := pus sg ln w) 1 rfl (fun k hk => by unfold pus; rw [if_neg (by omega), if_pos (by omega)]) rfl ?_
                refine hret.1 _ _ _ _ _ _ rfl (by decide) (by decide) dX5_put_88 ?_
                exact ⟨_, rfl, (by unfold pur; rw [if_neg (by omega), if_pos (by omega)]), rfl⟩
            · skip
              refine g_bipush (v := nI 4294967294) hc (by decide) dX5_put_72 (n := 74) rfl ?_
              refine g_ws (ws' := [(m 0, .inr (5, [.ref (m 1), .ref (m 2), .ref (m 3), .int (nI n), .ref (m 4), .ref (m 5), .ref (m 6), .int (nI (pul ln w)), .ref (m 7), .ref (m 8)])), (m 6, aI κ 60 sg)]) (by unfold pul; rw [if_pos (by first | assumption | exact hq0 (by omega))]) ?_
              refine g_arr (ws' := [(m 0, .inr (5, [.ref (m 1), .ref (m 2), .ref (m 3), .int (nI n), .ref (m 4), .ref (m 5), .ref (m 6), .int (nI (pul ln w)), .ref (m 7), .ref (m 8)])), (m 6, aI κ 60 (pus sg ln w))]) (f := sg) (g := pus sg ln w) 1 rfl (fun k hk => by unfold pus; rw [if_pos (by first | assumption | exact hq0 (by omega))]) rfl ?_
              refine hret.1 _ _ _ _ _ _ rfl (by decide) (by decide) dX5_put_74 ?_
              exact ⟨_, rfl, (by unfold pur; rw [if_pos (by first | assumption | exact hq0 (by omega))]), rfl⟩
          · rcases lcmp_0 (div_lt64 hw k) h0 with h1 | h1
            · skip
              refine g_lcmp (v := (nI 1)) hc (h1) dX5_put_21 (n := 22) rfl ?_
              refine n_if_eq hc (by omega) dX5_put_22 (tgt := 67) (by decide) (n := 25) rfl (fun c_33 => by (exfalso; revert c_33; first | omega | decide)) (fun c_33 => ?_)
              refine g_iload hc 4 rfl dX5_put_25 (n := 27) rfl ?_
              refine n_if_eq hc (by omega) dX5_put_27 (tgt := 51) (by decide) (n := 30) rfl (fun c_34 => ?_) (fun c_34 => ?_)
              · skip
                refine g_iconst (v := nI 0) hc (by decide) dX5_put_51 (n := 52) rfl ?_
                refine g_istore (lv2 := [(0, .ref (m 0)), (1, .long (lN w)), (3, .int (nI k)), (4, .long (lN (w / 256 ^ k))), (6, .int (nI 0))]) hc (by decide) [1, 2, 3, 4, 0] rfl rfl dX5_put_52 (n := 54) rfl ?_
                refine n_iinc (v := k + 1) (zk := 1) (lv2 := [(0, .ref (m 0)), (1, .long (lN w)), (3, .int (nI (k + 1))), (4, .long (lN (w / 256 ^ k))), (6, .int (nI 0))]) hc 2 rfl (by decide) rfl (by decide) [1, 2, 0, 3, 4] rfl rfl dX5_put_54 (n := 57) rfl ?_
                refine g_lload hc 3 rfl dX5_put_57 (n := 59) rfl ?_
                refine g_bipush (v := nI 8) hc (by decide) dX5_put_59 (n := 61) rfl ?_
                refine g_lushr (v := (lN (w / 256 ^ k / 256))) hc (by have h := wb_shr (div_lt64 hw k) (k := 8) (by decide); exact h) dX5_put_61 (n := 62) rfl ?_
                refine g_lstore (lv2 := [(0, .ref (m 0)), (1, .long (lN w)), (3, .int (nI (k + 1))), (4, .long (lN (w / 256 ^ k / 256))), (6, .int (nI 0))]) hc (by decide) [1, 2, 3, 0, 4] rfl rfl dX5_put_62 (n := 64) rfl ?_
                refine g_goto (n := 18) hc dX5_put_64 (by decide) ?_
                refine g_lv (lv' := [(0, .ref (m 0)), (1, .long (lN w)), (3, .int (nI (k + 1))), (4, .long (lN (w / 256 ^ (k + 1)))), (6, .int (nI 0))]) (by rw [Nat.pow_succ, ← Nat.div_div_eq_div_mul]) ?_
                exact ih_23 (k + 1) 0 (by have := wk_lt hw hk (by omega); omega) (by omega) (fun q => by first | exact absurd q (by decide) | (refine ⟨?_, (hq1 (by omega)).2⟩; rw [(hq1 (by omega)).1, show 8 - k = (8 - (k + 1)) + 1 from by have := wk_lt hw hk (by omega); omega, plr, if_neg (by omega), if_neg (by omega), Nat.div_div_eq_div_mul, ← Nat.pow_succ])) (fun q => by first | exact absurd q (by decide) | exact hq0 (by omega) | (rw [(hq1 (by omega)).1, show 8 - k = (8 - (k + 1)) + 1 from by have := wk_lt hw hk (by omega); omega, plr, if_neg (by omega), if_pos (by omega)])) (by have := wk_lt hw hk (by omega); omega)
              · skip
                refine g_lload hc 3 rfl dX5_put_30 (n := 32) rfl ?_
                refine g_ldc2 (v2 := lN 255) hc k_kc_RX5_125 (by decide) dX5_put_32 (n := 35) rfl ?_
                refine g_land (v := (lN (w / 256 ^ k % 256))) hc (land255 (div_lt64 hw k)) dX5_put_35 (n := 36) rfl ?_
                refine n_l2i hc dX5_put_36 (n := 37) rfl ?_
                refine g_bipush (v := nI 33) hc (by decide) dX5_put_37 (n := 39) rfl ?_
                refine g_bipush (v := nI 126) hc (by decide) dX5_put_39 (n := 41) rfl ?_
                by_cases h5 : 33 ≤ w / 256 ^ k % 256 ∧ w / 256 ^ k % 256 ≤ 126
                · skip
                  refine g_callS (rest := []) (As := [.int (nI (w / 256 ^ k % 256)), .int (nI 33), .int (nI 126)]) (cells' := 0) (slots' := 0) hc (c_X5_in_y κ _ (nI (w / 256 ^ k % 256)) (nI 33) (nI 126) (in_y h5.1 h5.2)) q_X5_in k_ml_RX5_35 rfl rfl (jn_ix (wr := [(m 0, .inr (5, [.ref (m 1), .ref (m 2), .ref (m 3), .int (nI n), .ref (m 4), .ref (m 5), .ref (m 6), .int (nI ln), .ref (m 7), .ref (m 8)])), (m 6, aI κ 60 sg)]) [] [0, 1] rfl rfl rfl rfl (by decide)) ⟨⟨by decide, by decide⟩, by decide, by decide⟩ (Nat.le_of_ble_eq_true rfl) rfl rfl dX5_put_41 (n := 44) rfl (fun vv ww hp => ?_)
                  obtain ⟨rr, rfl, rfl, rfl⟩ := hp
                  refine ⟨_, rfl, ?_⟩
                  refine g_ws (ws' := [(m 0, .inr (5, [.ref (m 1), .ref (m 2), .ref (m 3), .int (nI n), .ref (m 4), .ref (m 5), .ref (m 6), .int (nI ln), .ref (m 7), .ref (m 8)])), (m 6, aI κ 60 sg)]) rfl ?_
                  refine g_st (st' := [.int (nI 1)]) rfl ?_
                  refine n_if_eq hc (by omega) dX5_put_44 (tgt := 51) (by decide) (n := 47) rfl (fun c_35 => by (exfalso; revert c_35; first | omega | decide)) (fun c_35 => ?_)
                  refine g_iconst (v := nI 1) hc (by decide) dX5_put_47 (n := 48) rfl ?_
                  refine g_goto (n := 52) hc dX5_put_48 (by decide) ?_
                  refine g_istore (lv2 := [(0, .ref (m 0)), (1, .long (lN w)), (3, .int (nI k)), (4, .long (lN (w / 256 ^ k))), (6, .int (nI 1))]) hc (by decide) [1, 2, 3, 4, 0] rfl rfl dX5_put_52 (n := 54) rfl ?_
                  refine n_iinc (v := k + 1) (zk := 1) (lv2 := [(0, .ref (m 0)), (1, .long (lN w)), (3, .int (nI (k + 1))), (4, .long (lN (w / 256 ^ k))), (6, .int (nI 1))]) hc 2 rfl (by decide) rfl (by decide) [1, 2, 0, 3, 4] rfl rfl dX5_put_54 (n := 57) rfl ?_
                  refine g_lload hc 3 rfl dX5_put_57 (n := 59) rfl ?_
                  refine g_bipush (v := nI 8) hc (by decide) dX5_put_59 (n := 61) rfl ?_
                  refine g_lushr (v := (lN (w / 256 ^ k / 256))) hc (by have h := wb_shr (div_lt64 hw k) (k := 8) (by decide); exact h) dX5_put_61 (n := 62) rfl ?_
                  refine g_lstore (lv2 := [(0, .ref (m 0)), (1, .long (lN w)), (3, .int (nI (k + 1))), (4, .long (lN (w / 256 ^ k / 256))), (6, .int (nI 1))]) hc (by decide) [1, 2, 3, 0, 4] rfl rfl dX5_put_62 (n := 64) rfl ?_
                  refine g_goto (n := 18) hc dX5_put_64 (by decide) ?_
                  refine g_lv (lv' := [(0, .ref (m 0)), (1, .long (lN w)), (3, .int (nI (k + 1))), (4, .long (lN (w / 256 ^ (k + 1)))), (6, .int (nI 1))]) (by rw [Nat.pow_succ, ← Nat.div_div_eq_div_mul]) ?_
                  exact ih_23 (k + 1) 1 (by have := wk_lt hw hk (by omega); omega) (by omega) (fun q => by first | exact absurd q (by decide) | (refine ⟨?_, (hq1 (by omega)).2⟩; rw [(hq1 (by omega)).1, show 8 - k = (8 - (k + 1)) + 1 from by have := wk_lt hw hk (by omega); omega, plr, if_neg (by omega), if_neg (by omega), Nat.div_div_eq_div_mul, ← Nat.pow_succ])) (fun q => by first | exact absurd q (by decide) | exact hq0 (by omega) | (rw [(hq1 (by omega)).1, show 8 - k = (8 - (k + 1)) + 1 from by have := wk_lt hw hk (by omega); omega, plr, if_neg (by omega), if_pos (by omega)])) (by have := wk_lt hw hk (by omega); omega)
                · skip
                  refine g_callS (rest := []) (As := [.int (nI (w / 256 ^ k % 256)), .int (nI 33), .int (nI 126)]) (cells' := 0) (slots' := 0) hc (c_X5_in_n κ _ (nI (w / 256 ^ k % 256)) (nI 33) (nI 126) (in_nn (by omega) (by decide) (by decide) (by omega))) q_X5_in k_ml_RX5_35 rfl rfl (jn_ix (wr := [(m 0, .inr (5, [.ref (m 1), .ref (m 2), .ref (m 3), .int (nI n), .ref (m 4), .ref (m 5), .ref (m 6), .int (nI ln), .ref (m 7), .ref (m 8)])), (m 6, aI κ 60 sg)]) [] [0, 1] rfl rfl rfl rfl (by decide)) ⟨⟨by decide, by decide⟩, by decide, by decide⟩ (Nat.le_of_ble_eq_true rfl) rfl rfl dX5_put_41 (n := 44) rfl (fun vv ww hp => ?_)
                  obtain ⟨rr, rfl, rfl, rfl⟩ := hp
                  refine ⟨_, rfl, ?_⟩
                  refine g_ws (ws' := [(m 0, .inr (5, [.ref (m 1), .ref (m 2), .ref (m 3), .int (nI n), .ref (m 4), .ref (m 5), .ref (m 6), .int (nI ln), .ref (m 7), .ref (m 8)])), (m 6, aI κ 60 sg)]) rfl ?_
                  refine g_st (st' := [.int (nI 0)]) rfl ?_
                  refine n_if_eq hc (by omega) dX5_put_44 (tgt := 51) (by decide) (n := 47) rfl (fun c_36 => ?_) (fun c_36 => by (exfalso; revert c_36; first | omega | decide))
                  refine g_iconst (v := nI 0) hc (by decide) dX5_put_51 (n := 52) rfl ?_
                  refine g_istore (lv2 := [(0, .ref (m 0)), (1, .long (lN w)), (3, .int (nI k)), (4, .long (lN (w / 256 ^ k))), (6, .int (nI 0))]) hc (by decide) [1, 2, 3, 4, 0] rfl rfl dX5_put_52 (n := 54) rfl ?_
                  refine n_iinc (v := k + 1) (zk := 1) (lv2 := [(0, .ref (m 0)), (1, .long (lN w)), (3, .int (nI (k + 1))), (4, .long (lN (w / 256 ^ k))), (6, .int (nI 0))]) hc 2 rfl (by decide) rfl (by decide) [1, 2, 0, 3, 4] rfl rfl dX5_put_54 (n := 57) rfl ?_
                  refine g_lload hc 3 rfl dX5_put_57 (n := 59) rfl ?_
                  refine g_bipush (v := nI 8) hc (by decide) dX5_put_59 (n := 61) rfl ?_
                  refine g_lushr (v := (lN (w / 256 ^ k / 256))) hc (by have h := wb_shr (div_lt64 hw k) (k := 8) (by decide); exact h) dX5_put_61 (n := 62) rfl ?_
                  refine g_lstore (lv2 := [(0, .ref (m 0)), (1, .long (lN w)), (3, .int (nI (k + 1))), (4, .long (lN (w / 256 ^ k / 256))), (6, .int (nI 0))]) hc (by decide) [1, 2, 3, 0, 4] rfl rfl dX5_put_62 (n := 64) rfl ?_
                  refine g_goto (n := 18) hc dX5_put_64 (by decide) ?_
                  refine g_lv (lv' := [(0, .ref (m 0)), (1, .long (lN w)), (3, .int (nI (k + 1))), (4, .long (lN (w / 256 ^ (k + 1)))), (6, .int (nI 0))]) (by rw [Nat.pow_succ, ← Nat.div_div_eq_div_mul]) ?_
                  exact ih_23 (k + 1) 0 (by have := wk_lt hw hk (by omega); omega) (by omega) (fun q => by first | exact absurd q (by decide) | (refine ⟨?_, (hq1 (by omega)).2⟩; rw [(hq1 (by omega)).1, show 8 - k = (8 - (k + 1)) + 1 from by have := wk_lt hw hk (by omega); omega, plr, if_neg (by omega), if_neg (by omega), Nat.div_div_eq_div_mul, ← Nat.pow_succ])) (fun q => by first | exact absurd q (by decide) | exact hq0 (by omega) | (rw [(hq1 (by omega)).1, show 8 - k = (8 - (k + 1)) + 1 from by have := wk_lt hw hk (by omega); omega, plr, if_neg (by omega), if_pos (by omega)])) (by have := wk_lt hw hk (by omega); omega)
            · skip
              refine g_lcmp (v := (-1)) hc (h1) dX5_put_21 (n := 22) rfl ?_
              refine g_if_eq hc dX5_put_22 (tgt := 67) (by decide) (n := 25) rfl (fun c_37 => by (exfalso; revert c_37; first | omega | decide)) (fun c_37 => ?_)
              refine g_iload hc 4 rfl dX5_put_25 (n := 27) rfl ?_
              refine n_if_eq hc (by omega) dX5_put_27 (tgt := 51) (by decide) (n := 30) rfl (fun c_38 => ?_) (fun c_38 => ?_)
              · skip
                refine g_iconst (v := nI 0) hc (by decide) dX5_put_51 (n := 52) rfl ?_
                refine g_istore (lv2 := [(0, .ref (m 0)), (1, .long (lN w)), (3, .int (nI k)), (4, .long (lN (w / 256 ^ k))), (6, .int (nI 0))]) hc (by decide) [1, 2, 3, 4, 0] rfl rfl dX5_put_52 (n := 54) rfl ?_
                refine n_iinc (v := k + 1) (zk := 1) (lv2 := [(0, .ref (m 0)), (1, .long (lN w)), (3, .int (nI (k + 1))), (4, .long (lN (w / 256 ^ k))), (6, .int (nI 0))]) hc 2 rfl (by decide) rfl (by decide) [1, 2, 0, 3, 4] rfl rfl dX5_put_54 (n := 57) rfl ?_
                refine g_lload hc 3 rfl dX5_put_57 (n := 59) rfl ?_
                refine g_bipush (v := nI 8) hc (by decide) dX5_put_59 (n := 61) rfl ?_
                refine g_lushr (v := (lN (w / 256 ^ k / 256))) hc (by have h := wb_shr (div_lt64 hw k) (k := 8) (by decide); exact h) dX5_put_61 (n := 62) rfl ?_
                refine g_lstore (lv2 := [(0, .ref (m 0)), (1, .long (lN w)), (3, .int (nI (k + 1))), (4, .long (lN (w / 256 ^ k / 256))), (6, .int (nI 0))]) hc (by decide) [1, 2, 3, 0, 4] rfl rfl dX5_put_62 (n := 64) rfl ?_
                refine g_goto (n := 18) hc dX5_put_64 (by decide) ?_
                refine g_lv (lv' := [(0, .ref (m 0)), (1, .long (lN w)), (3, .int (nI (k + 1))), (4, .long (lN (w / 256 ^ (k + 1)))), (6, .int (nI 0))]) (by rw [Nat.pow_succ, ← Nat.div_div_eq_div_mul]) ?_
                exact ih_23 (k + 1) 0 (by have := wk_lt hw hk (by omega); omega) (by omega) (fun q => by first | exact absurd q (by decide) | (refine ⟨?_, (hq1 (by omega)).2⟩; rw [(hq1 (by omega)).1, show 8 - k = (8 - (k + 1)) + 1 from by have := wk_lt hw hk (by omega); omega, plr, if_neg (by omega), if_neg (by omega), Nat.div_div_eq_div_mul, ← Nat.pow_succ])) (fun q => by first | exact absurd q (by decide) | exact hq0 (by omega) | (rw [(hq1 (by omega)).1, show 8 - k = (8 - (k + 1)) + 1 from by have := wk_lt hw hk (by omega); omega, plr, if_neg (by omega), if_pos (by omega)])) (by have := wk_lt hw hk (by omega); omega)
              · skip
                refine g_lload hc 3 rfl dX5_put_30 (n := 32) rfl ?_
                refine g_ldc2 (v2 := lN 255) hc k_kc_RX5_125 (by decide) dX5_put_32 (n := 35) rfl ?_
                refine g_land (v := (lN (w / 256 ^ k % 256))) hc (land255 (div_lt64 hw k)) dX5_put_35 (n := 36) rfl ?_
                refine n_l2i hc dX5_put_36 (n := 37) rfl ?_
                refine g_bipush (v := nI 33) hc (by decide) dX5_put_37 (n := 39) rfl ?_
                refine g_bipush (v := nI 126) hc (by decide) dX5_put_39 (n := 41) rfl ?_
                by_cases h5 : 33 ≤ w / 256 ^ k % 256 ∧ w / 256 ^ k % 256 ≤ 126
                · skip
                  refine g_callS (rest := []) (As := [.int (nI (w / 256 ^ k % 256)), .int (nI 33), .int (nI 126)]) (cells' := 0) (slots' := 0) hc (c_X5_in_y κ _ (nI (w / 256 ^ k % 256)) (nI 33) (nI 126) (in_y h5.1 h5.2)) q_X5_in k_ml_RX5_35 rfl rfl (jn_ix (wr := [(m 0, .inr (5, [.ref (m 1), .ref (m 2), .ref (m 3), .int (nI n), .ref (m 4), .ref (m 5), .ref (m 6), .int (nI ln), .ref (m 7), .ref (m 8)])), (m 6, aI κ 60 sg)]) [] [0, 1] rfl rfl rfl rfl (by decide)) ⟨⟨by decide, by decide⟩, by decide, by decide⟩ (Nat.le_of_ble_eq_true rfl) rfl rfl dX5_put_41 (n := 44) rfl (fun vv ww hp => ?_)
                  obtain ⟨rr, rfl, rfl, rfl⟩ := hp
                  refine ⟨_, rfl, ?_⟩
                  refine g_ws (ws' := [(m 0, .inr (5, [.ref (m 1), .ref (m 2), .ref (m 3), .int (nI n), .ref (m 4), .ref (m 5), .ref (m 6), .int (nI ln), .ref (m 7), .ref (m 8)])), (m 6, aI κ 60 sg)]) rfl ?_
                  refine g_st (st' := [.int (nI 1)]) rfl ?_
                  refine n_if_eq hc (by omega) dX5_put_44 (tgt := 51) (by decide) (n := 47) rfl (fun c_39 => by (exfalso; revert c_39; first | omega | decide)) (fun c_39 => ?_)
                  refine g_iconst (v := nI 1) hc (by decide) dX5_put_47 (n := 48) rfl ?_
                  refine g_goto (n := 52) hc dX5_put_48 (by decide) ?_
                  refine g_istore (lv2 := [(0, .ref (m 0)), (1, .long (lN w)), (3, .int (nI k)), (4, .long (lN (w / 256 ^ k))), (6, .int (nI 1))]) hc (by decide) [1, 2, 3, 4, 0] rfl rfl dX5_put_52 (n := 54) rfl ?_
                  refine n_iinc (v := k + 1) (zk := 1) (lv2 := [(0, .ref (m 0)), (1, .long (lN w)), (3, .int (nI (k + 1))), (4, .long (lN (w / 256 ^ k))), (6, .int (nI 1))]) hc 2 rfl (by decide) rfl (by decide) [1, 2, 0, 3, 4] rfl rfl dX5_put_54 (n := 57) rfl ?_
                  refine g_lload hc 3 rfl dX5_put_57 (n := 59) rfl ?_
                  refine g_bipush (v := nI 8) hc (by decide) dX5_put_59 (n := 61) rfl ?_
                  refine g_lushr (v := (lN (w / 256 ^ k / 256))) hc (by have h := wb_shr (div_lt64 hw k) (k := 8) (by decide); exact h) dX5_put_61 (n := 62) rfl ?_
                  refine g_lstore (lv2 := [(0, .ref (m 0)), (1, .long (lN w)), (3, .int (nI (k + 1))), (4, .long (lN (w / 256 ^ k / 256))), (6, .int (nI 1))]) hc (by decide) [1, 2, 3, 0, 4] rfl rfl dX5_put_62 (n := 64) rfl ?_
                  refine g_goto (n := 18) hc dX5_put_64 (by decide) ?_
                  refine g_lv (lv' := [(0, .ref (m 0)), (1, .long (lN w)), (3, .int (nI (k + 1))), (4, .long (lN (w / 256 ^ (k + 1)))), (6, .int (nI 1))]) (by rw [Nat.pow_succ, ← Nat.div_div_eq_div_mul]) ?_
                  exact ih_23 (k + 1) 1 (by have := wk_lt hw hk (by omega); omega) (by omega) (fun q => by first | exact absurd q (by decide) | (refine ⟨?_, (hq1 (by omega)).2⟩; rw [(hq1 (by omega)).1, show 8 - k = (8 - (k + 1)) + 1 from by have := wk_lt hw hk (by omega); omega, plr, if_neg (by omega), if_neg (by omega), Nat.div_div_eq_div_mul, ← Nat.pow_succ])) (fun q => by first | exact absurd q (by decide) | exact hq0 (by omega) | (rw [(hq1 (by omega)).1, show 8 - k = (8 - (k + 1)) + 1 from by have := wk_lt hw hk (by omega); omega, plr, if_neg (by omega), if_pos (by omega)])) (by have := wk_lt hw hk (by omega); omega)
                · skip
                  refine g_callS (rest := []) (As := [.int (nI (w / 256 ^ k % 256)), .int (nI 33), .int (nI 126)]) (cells' := 0) (slots' := 0) hc (c_X5_in_n κ _ (nI (w / 256 ^ k % 256)) (nI 33) (nI 126) (in_nn (by omega) (by decide) (by decide) (by omega))) q_X5_in k_ml_RX5_35 rfl rfl (jn_ix (wr := [(m 0, .inr (5, [.ref (m 1), .ref (m 2), .ref (m 3), .int (nI n), .ref (m 4), .ref (m 5), .ref (m 6), .int (nI ln), .ref (m 7), .ref (m 8)])), (m 6, aI κ 60 sg)]) [] [0, 1] rfl rfl rfl rfl (by decide)) ⟨⟨by decide, by decide⟩, by decide, by decide⟩ (Nat.le_of_ble_eq_true rfl) rfl rfl dX5_put_41 (n := 44) rfl (fun vv ww hp => ?_)
                  obtain ⟨rr, rfl, rfl, rfl⟩ := hp
                  refine ⟨_, rfl, ?_⟩
                  refine g_ws (ws' := [(m 0, .inr (5, [.ref (m 1), .ref (m 2), .ref (m 3), .int (nI n), .ref (m 4), .ref (m 5), .ref (m 6), .int (nI ln), .ref (m 7), .ref (m 8)])), (m 6, aI κ 60 sg)]) rfl ?_
                  refine g_st (st' := [.int (nI 0)]) rfl ?_
                  refine n_if_eq hc (by omega) dX5_put_44 (tgt := 51) (by decide) (n := 47) rfl (fun c_40 => ?_) (fun c_40 => by (exfalso; revert c_40; first | omega | decide))
                  refine g_iconst (v := nI 0) hc (by decide) dX5_put_51 (n := 52) rfl ?_
                  refine g_istore (lv2 := [(0, .ref (m 0)), (1, .long (lN w)), (3, .int (nI k)), (4, .long (lN (w / 256 ^ k))), (6, .int (nI 0))]) hc (by decide) [1, 2, 3, 4, 0] rfl rfl dX5_put_52 (n := 54) rfl ?_
                  refine n_iinc (v := k + 1) (zk := 1) (lv2 := [(0, .ref (m 0)), (1, .long (lN w)), (3, .int (nI (k + 1))), (4, .long (lN (w / 256 ^ k))), (6, .int (nI 0))]) hc 2 rfl (by decide) rfl (by decide) [1, 2, 0, 3, 4] rfl rfl dX5_put_54 (n := 57) rfl ?_
                  refine g_lload hc 3 rfl dX5_put_57 (n := 59) rfl ?_
                  refine g_bipush (v := nI 8) hc (by decide) dX5_put_59 (n := 61) rfl ?_
                  refine g_lushr (v := (lN (w / 256 ^ k / 256))) hc (by have h := wb_shr (div_lt64 hw k) (k := 8) (by decide); exact h) dX5_put_61 (n := 62) rfl ?_
                  refine g_lstore (lv2 := [(0, .ref (m 0)), (1, .long (lN w)), (3, .int (nI (k + 1))), (4, .long (lN (w / 256 ^ k / 256))), (6, .int (nI 0))]) hc (by decide) [1, 2, 3, 0, 4] rfl rfl dX5_put_62 (n := 64) rfl ?_
                  refine g_goto (n := 18) hc dX5_put_64 (by decide) ?_
                  refine g_lv (lv' := [(0, .ref (m 0)), (1, .long (lN w)), (3, .int (nI (k + 1))), (4, .long (lN (w / 256 ^ (k + 1)))), (6, .int (nI 0))]) (by rw [Nat.pow_succ, ← Nat.div_div_eq_div_mul]) ?_
                  exact ih_23 (k + 1) 0 (by have := wk_lt hw hk (by omega); omega) (by omega) (fun q => by first | exact absurd q (by decide) | (refine ⟨?_, (hq1 (by omega)).2⟩; rw [(hq1 (by omega)).1, show 8 - k = (8 - (k + 1)) + 1 from by have := wk_lt hw hk (by omega); omega, plr, if_neg (by omega), if_neg (by omega), Nat.div_div_eq_div_mul, ← Nat.pow_succ])) (fun q => by first | exact absurd q (by decide) | exact hq0 (by omega) | (rw [(hq1 (by omega)).1, show 8 - k = (8 - (k + 1)) + 1 from by have := wk_lt hw hk (by omega); omega, plr, if_neg (by omega), if_pos (by omega)])) (by have := wk_lt hw hk (by omega); omega)
      exact L_22 _ 0 1 (Nat.zero_le _) (by omega) (fun q => by first | exact absurd q (by decide) | exact ⟨by rw [Nat.pow_zero, Nat.div_one]; rfl, by omega⟩) (fun q => by first | exact absurd q (by decide) | (subst h0; rfl)) (Nat.lt_succ_self _)
    · skip
      refine g_lcmp (v := (-1)) hc (h1) dX5_put_7 (n := 8) rfl ?_
      refine g_if_eq hc dX5_put_8 (tgt := 15) (by decide) (n := 11) rfl (fun c_41 => by (exfalso; revert c_41; first | omega | decide)) (fun c_41 => ?_)
      refine g_iconst (v := nI 1) hc (by decide) dX5_put_11 (n := 12) rfl ?_
      refine g_goto (n := 16) hc dX5_put_12 (by decide) ?_
      refine g_istore (lv2 := [(0, .ref (m 0)), (1, .long (lN w)), (3, .int (nI 0)), (4, .long (lN w)), (6, .int (nI 1))]) hc (by decide) [1, 2, 3, 4, 0] rfl rfl dX5_put_16 (n := 18) rfl ?_
      refine g_lv (lv' := [(0, .ref (m 0)), (1, .long (lN w)), (3, .int (nI 0)), (4, .long (lN (w / 256 ^ 0))), (6, .int (nI 1))]) (by rw [Nat.pow_zero, Nat.div_one]) ?_
      have L_42 : ∀ (fuel : Nat) (k : Nat) (e : Nat), (k ≤ 8) → (e ≤ 1) → (e = 1 → pln w = plr (8 - k) (w / 256 ^ k) k ∧ w ≠ 0) → (e = 0 → pln w = 0) → 8 - k < fuel → G κ Γ A 8 0 0 Q [(m 0, .inr (5, [.ref (m 1), .ref (m 2), .ref (m 3), .int (nI n), .ref (m 4), .ref (m 5), .ref (m 6), .int (nI ln), .ref (m 7), .ref (m 8)])), (m 6, aI κ 60 sg)] 18 [(0, .ref (m 0)), (1, .long (lN w)), (3, .int (nI k)), (4, .long (lN (w / 256 ^ k))), (6, .int (nI e))] [] := by
        intro fuel
        induction fuel with
        | zero => intro k e hk he hq1 hq0 h; exact absurd h (Nat.not_lt_zero _)
        | succ fuel ih_43 =>
          intro k e hk he hq1 hq0 hn_44
          refine g_lload hc 3 rfl dX5_put_18 (n := 20) rfl ?_
          refine g_lconst (v := lN 0) hc (by decide) dX5_put_20 (n := 21) rfl ?_
          rcases Nat.eq_zero_or_pos (w / 256 ^ k) with h0 | h0
          · skip
            refine g_lcmp (v := (nI 0)) hc (by rw [h0]; exact lcmp_eq 0) dX5_put_21 (n := 22) rfl ?_
            refine n_if_eq hc (by omega) dX5_put_22 (tgt := 67) (by decide) (n := 25) rfl (fun c_45 => ?_) (fun c_45 => by (exfalso; revert c_45; first | omega | decide))
            refine g_iload hc 4 rfl dX5_put_67 (n := 69) rfl ?_
            refine n_if_ne hc (by omega) dX5_put_69 (tgt := 75) (by decide) (n := 72) rfl (fun c_46 => ?_) (fun c_46 => ?_)
            · skip
              have hq2 := hq1 (by omega)
              have hm : pln w = k := by rw [hq2.1, show w / 256 ^ k = 0 from by omega, plr_0]
              have hm0 : pln w ≠ 0 := fun q => by have e : k = 0 := (by omega); subst e; have e2 : w / 256 ^ 0 = 0 := (by omega); rw [Nat.pow_zero, Nat.div_one] at e2; exact hq2.2 e2
              have hm8 := pln_le w
              clear hq1 hq0 hq2
              subst hm
              refine g_lsub (lv' := [(0, .ref (m 0)), (1, .long (lN w)), (3, .int (nI (pln w)))]) [0, 1, 2] rfl ?_
              refine g_aload_n hc 0 rfl rfl dX5_put_75 (n := 76) rfl ?_
              refine g_getf hc 0 rfl vw_5 inX5 7 (by decide) k_fl_RX5_83 rfl rfl dX5_put_76 (n := 79) rfl ?_
              refine g_iload_n hc 2 rfl rfl dX5_put_79 (n := 80) rfl ?_
              refine n_iadd (v := ln + (pln w)) hc rfl dX5_put_80 (n := 81) rfl ?_
              refine g_bipush (v := nI 60) hc (by decide) dX5_put_81 (n := 83) rfl ?_
              refine n_icmp_le hc (by omega) (by omega) dX5_put_83 (tgt := 89) (by decide) (n := 86) rfl (fun c_47 => ?_) (fun c_47 => ?_)
              · skip
                refine g_iload_n hc 2 rfl rfl dX5_put_89 (n := 90) rfl ?_
                refine g_iconst (v := nI 1) hc (by decide) dX5_put_90 (n := 91) rfl ?_
                refine n_isub (v := (pln w) - 1) hc (by omega) rfl dX5_put_91 (n := 92) rfl ?_
                refine g_istore (lv2 := [(0, .ref (m 0)), (1, .long (lN w)), (3, .int (nI (pln w))), (7, .int (nI ((pln w) - 1)))]) hc (by decide) [1, 2, 3, 0] rfl rfl dX5_put_92 (n := 94) rfl ?_
                refine g_lv (lv' := [(0, .ref (m 0)), (1, .long (lN w)), (3, .int (nI (pln w))), (7, .int (nI (pln w) + (-1)))]) (by rw [show nI (pln w) + (-1) = nI (pln w - 1) from by obtain ⟨k, hk⟩ : ∃ k, pln w = k + 1 := ⟨pln w - 1, by omega⟩; rw [hk]; exact pk_m1 k]) ?_
                have L_48 : ∀ (fuel : Nat) (j : Nat) (L : Nat) (g : Nat → Nat), (j ≤ pln w) → (L = ln + (pln w - j)) → (∀ k, k < 60 → g k = if ln ≤ k ∧ k < ln + (pln w - j) then pby w (pln w - 1 - (k - ln)) else sg k) → j < fuel → G κ Γ A 8 0 0 Q [(m 0, .inr (5, [.ref (m 1), .ref (m 2), .ref (m 3), .int (nI n), .ref (m 4), .ref (m 5), .ref (m 6), .int (nI L), .ref (m 7), .ref (m 8)])), (m 6, aI κ 60 g)] 94 [(0, .ref (m 0)), (1, .long (lN w)), (7, .int (nI j + (-1)))] [] := by
                  intro fuel
                  induction fuel with
                  | zero => intro j L g hj hL hg h; exact absurd h (Nat.not_lt_zero _)
                  | succ fuel ih_49 =>
                    intro j L g hj hL hg hn_50
                    rcases j with _ | j
                    · refine g_lv (lv' := [(0, .ref (m 0)), (1, .long (lN w)), (7, .int (-1))]) rfl ?_
                      refine g_iload hc 2 rfl dX5_put_94 (n := 96) rfl ?_
                      refine g_if_lt hc dX5_put_96 (tgt := 136) (by decide) (n := 99) rfl (fun c_51 => ?_) (fun c_51 => by (exfalso; revert c_51; first | omega | decide))
                      refine g_aload_n hc 0 rfl rfl dX5_put_136 (n := 137) rfl ?_
                      refine g_getf hc 0 rfl vw_5 inX5 7 (by decide) k_fl_RX5_83 rfl rfl dX5_put_137 (n := 140) rfl ?_
                      refine g_ws (ws' := [(m 0, .inr (5, [.ref (m 1), .ref (m 2), .ref (m 3), .int (nI n), .ref (m 4), .ref (m 5), .ref (m 6), .int (nI (pul ln w)), .ref (m 7), .ref (m 8)])), (m 6, aI κ 60 g)]) (by unfold pul; rw [if_neg (by omega), if_neg (by omega), show L = ln + pln w from by omega]) ?_
                      refine g_arr (ws' := [(m 0, .inr (5, [.ref (m 1), .ref (m 2), .ref (m 3), .int (nI n), .ref (m 4), .ref (m 5), .ref (m 6), .int (nI (pul ln w)), .ref (m 7), .ref (m 8)])), (m 6, aI κ 60 (pus sg ln w))]) (f := g) (g := pus sg ln w) 1 rfl (fun k hk => by unfold pus; rw [if_neg (by omega), if_neg (by omega), hg k hk]; unfold ppt; rfl) rfl ?_
                      refine hret.1 _ _ _ _ _ _ rfl (by decide) (by decide) dX5_put_140 ?_
                      exact ⟨_, rfl, (by unfold pur; rw [if_neg (by omega), if_neg (by omega), show L = ln + pln w from by omega]), rfl⟩
                    · refine g_lv (lv' := [(0, .ref (m 0)), (1, .long (lN w)), (7, .int (nI j))]) (by rw [pk_m1]) ?_
                      refine g_iload hc 2 rfl dX5_put_94 (n := 96) rfl ?_
                      refine n_if_lt hc (by omega) dX5_put_96 (tgt := 136) (by decide) (n := 99) rfl ?_
                      refine g_aload_n hc 0 rfl rfl dX5_put_99 (n := 100) rfl ?_
                      refine g_getf hc 0 rfl vw_5 inX5 6 (by decide) k_fl_RX5_26 rfl rfl dX5_put_100 (n := 103) rfl ?_
                      refine g_aload_n hc 0 rfl rfl dX5_put_103 (n := 104) rfl ?_
                      refine g_getf hc 0 rfl vw_5 inX5 7 (by decide) k_fl_RX5_83 rfl rfl dX5_put_104 (n := 107) rfl ?_
                      refine g_lload_n hc 1 rfl rfl dX5_put_107 (n := 108) rfl ?_
                      refine g_bipush (v := nI 8) hc (by decide) dX5_put_108 (n := 110) rfl ?_
                      refine g_iload hc 2 rfl dX5_put_110 (n := 112) rfl ?_
                      refine n_imul (v := 8 * j) hc rfl dX5_put_112 (n := 113) rfl ?_
                      refine g_lshr (v := (lN w >>> ((nI (8 * j)).toInt64 &&& 63))) hc (rfl) dX5_put_113 (n := 114) rfl ?_
                      refine g_ldc2 (v2 := lN 255) hc k_kc_RX5_125 (by decide) dX5_put_114 (n := 117) rfl ?_
                      refine g_land (v := (lN (pby w j))) hc (ash hw (by omega)) dX5_put_117 (n := 118) rfl ?_
                      refine n_l2i hc dX5_put_118 (n := 119) rfl ?_
                      refine n_iast (ws' := [(m 0, .inr (5, [.ref (m 1), .ref (m 2), .ref (m 3), .int (nI n), .ref (m 4), .ref (m 5), .ref (m 6), .int (nI L), .ref (m 7), .ref (m 8)])), (m 6, aI κ 60 (va_up g L (pby w j)))]) hc 1 rfl (by omega) (by decide) rfl dX5_put_119 (n := 120) rfl ?_
                      refine g_aload_n hc 0 rfl rfl dX5_put_120 (n := 121) rfl ?_
                      refine g_dup hc rfl dX5_put_121 (n := 122) rfl ?_
                      refine g_getf hc 0 rfl vw_5 inX5 7 (by decide) k_fl_RX5_83 rfl rfl dX5_put_122 (n := 125) rfl ?_
                      refine g_iconst (v := nI 1) hc (by decide) dX5_put_125 (n := 126) rfl ?_
                      refine n_iadd (v := L + 1) hc rfl dX5_put_126 (n := 127) rfl ?_
                      refine g_putf (ws' := [(m 0, .inr (5, [.ref (m 1), .ref (m 2), .ref (m 3), .int (nI n), .ref (m 4), .ref (m 5), .ref (m 6), .int (nI (L + 1)), .ref (m 7), .ref (m 8)])), (m 6, aI κ 60 (va_up g L (pby w j)))]) hc 0 rfl vw_5 inX5 tyX5_ok nmX5 7 (by decide) k_fl_RX5_83 rfl rfl rfl rfl (Nat.le_of_ble_eq_true rfl) rfl dX5_put_127 (n := 130) rfl ?_
                      refine g_iinc (v := nI j + (-1)) (lv2 := [(0, .ref (m 0)), (1, .long (lN w)), (7, .int (nI j + (-1)))]) hc 2 rfl (congrArg (fun z : Int32 => nI j + z) (by decide : Int32.ofInt (-1) = -1)) (by decide) [1, 2, 0] rfl rfl dX5_put_130 (n := 133) rfl ?_
                      refine g_goto (n := 94) hc dX5_put_133 (by decide) ?_
                      exact ih_49 j (L + 1) (va_up g L (pby w j)) (by omega) (by omega) (fun k hk => by by_cases e : k = L; (rw [e, va_up_self, if_pos (by omega)]; congr 1; omega); (rw [va_up_ne _ _ e, hg k hk]; by_cases q : ln ≤ k ∧ k < ln + (pln w - (j + 1)); (rw [if_pos q, if_pos (by omega)]); (rw [if_neg q, if_neg (by omega)]))) (by omega)
                refine g_lsub (lv' := [(0, .ref (m 0)), (1, .long (lN w)), (7, .int (nI (pln w) + (-1)))]) [0, 1, 3] rfl ?_
                exact L_48 _ (pln w) ln sg (Nat.le_refl _) (by omega) (fun k hk => by rw [if_neg (by omega)]) (Nat.lt_succ_self _)
              · skip
                refine g_bipush (v := nI 4294967292) hc (by decide) dX5_put_86 (n := 88) rfl ?_
                refine g_ws (ws' := [(m 0, .inr (5, [.ref (m 1), .ref (m 2), .ref (m 3), .int (nI n), .ref (m 4), .ref (m 5), .ref (m 6), .int (nI (pul ln w)), .ref (m 7), .ref (m 8)])), (m 6, aI κ 60 sg)]) (by unfold pul; rw [if_neg (by omega), if_pos (by omega)]) ?_
                refine g_arr (ws' := [(m 0, .inr (5, [.ref (m 1), .ref (m 2), .ref (m 3), .int (nI n), .ref (m 4), .ref (m 5), .ref (m 6), .int (nI (pul ln w)), .ref (m 7), .ref (m 8)])), (m 6, aI κ 60 (pus sg ln w))]) (f := sg) (g := pus sg ln w) 1 rfl (fun k hk => by unfold pus; rw [if_neg (by omega), if_pos (by omega)]) rfl ?_
                refine hret.1 _ _ _ _ _ _ rfl (by decide) (by decide) dX5_put_88 ?_
                exact ⟨_, rfl, (by unfold pur; rw [if_neg (by omega), if_pos (by omega)]), rfl⟩
            · skip
              refine g_bipush (v := nI 4294967294) hc (by decide) dX5_put_72 (n := 74) rfl ?_
              refine g_ws (ws' := [(m 0, .inr (5, [.ref (m 1), .ref (m 2), .ref (m 3), .int (nI n), .ref (m 4), .ref (m 5), .ref (m 6), .int (nI (pul ln w)), .ref (m 7), .ref (m 8)])), (m 6, aI κ 60 sg)]) (by unfold pul; rw [if_pos (by first | assumption | exact hq0 (by omega))]) ?_
              refine g_arr (ws' := [(m 0, .inr (5, [.ref (m 1), .ref (m 2), .ref (m 3), .int (nI n), .ref (m 4), .ref (m 5), .ref (m 6), .int (nI (pul ln w)), .ref (m 7), .ref (m 8)])), (m 6, aI κ 60 (pus sg ln w))]) (f := sg) (g := pus sg ln w) 1 rfl (fun k hk => by unfold pus; rw [if_pos (by first | assumption | exact hq0 (by omega))]) rfl ?_
              refine hret.1 _ _ _ _ _ _ rfl (by decide) (by decide) dX5_put_74 ?_
              exact ⟨_, rfl, (by unfold pur; rw [if_pos (by first | assumption | exact hq0 (by omega))]), rfl⟩
          · rcases lcmp_0 (div_lt64 hw k) h0 with h1 | h1
            · skip
              refine g_lcmp (v := (nI 1)) hc (h1) dX5_put_21 (n := 22) rfl ?_
              refine n_if_eq hc (by omega) dX5_put_22 (tgt := 67) (by decide) (n := 25) rfl (fun c_53 => by (exfalso; revert c_53; first | omega | decide)) (fun c_53 => ?_)
              refine g_iload hc 4 rfl dX5_put_25 (n := 27) rfl ?_
              refine n_if_eq hc (by omega) dX5_put_27 (tgt := 51) (by decide) (n := 30) rfl (fun c_54 => ?_) (fun c_54 => ?_)
              · skip
                refine g_iconst (v := nI 0) hc (by decide) dX5_put_51 (n := 52) rfl ?_
                refine g_istore (lv2 := [(0, .ref (m 0)), (1, .long (lN w)), (3, .int (nI k)), (4, .long (lN (w / 256 ^ k))), (6, .int (nI 0))]) hc (by decide) [1, 2, 3, 4, 0] rfl rfl dX5_put_52 (n := 54) rfl ?_
                refine n_iinc (v := k + 1) (zk := 1) (lv2 := [(0, .ref (m 0)), (1, .long (lN w)), (3, .int (nI (k + 1))), (4, .long (lN (w / 256 ^ k))), (6, .int (nI 0))]) hc 2 rfl (by decide) rfl (by decide) [1, 2, 0, 3, 4] rfl rfl dX5_put_54 (n := 57) rfl ?_
                refine g_lload hc 3 rfl dX5_put_57 (n := 59) rfl ?_
                refine g_bipush (v := nI 8) hc (by decide) dX5_put_59 (n := 61) rfl ?_
                refine g_lushr (v := (lN (w / 256 ^ k / 256))) hc (by have h := wb_shr (div_lt64 hw k) (k := 8) (by decide); exact h) dX5_put_61 (n := 62) rfl ?_
                refine g_lstore (lv2 := [(0, .ref (m 0)), (1, .long (lN w)), (3, .int (nI (k + 1))), (4, .long (lN (w / 256 ^ k / 256))), (6, .int (nI 0))]) hc (by decide) [1, 2, 3, 0, 4] rfl rfl dX5_put_62 (n := 64) rfl ?_
                refine g_goto (n := 18) hc dX5_put_64 (by decide) ?_
                refine g_lv (lv' := [(0, .ref (m 0)), (1, .long (lN w)), (3, .int (nI (k + 1))), (4, .long (lN (w / 256 ^ (k + 1)))), (6, .int (nI 0))]) (by rw [Nat.pow_succ, ← Nat.div_div_eq_div_mul]) ?_
                exact ih_43 (k + 1) 0 (by have := wk_lt hw hk (by omega); omega) (by omega) (fun q => by first | exact absurd q (by decide) | (refine ⟨?_, (hq1 (by omega)).2⟩; rw [(hq1 (by omega)).1, show 8 - k = (8 - (k + 1)) + 1 from by have := wk_lt hw hk (by omega); omega, plr, if_neg (by omega), if_neg (by omega), Nat.div_div_eq_div_mul, ← Nat.pow_succ])) (fun q => by first | exact absurd q (by decide) | exact hq0 (by omega) | (rw [(hq1 (by omega)).1, show 8 - k = (8 - (k + 1)) + 1 from by have := wk_lt hw hk (by omega); omega, plr, if_neg (by omega), if_pos (by omega)])) (by have := wk_lt hw hk (by omega); omega)
              · skip
                refine g_lload hc 3 rfl dX5_put_30 (n := 32) rfl ?_
                refine g_ldc2 (v2 := lN 255) hc k_kc_RX5_125 (by decide) dX5_put_32 (n := 35) rfl ?_
                refine g_land (v := (lN (w / 256 ^ k % 256))) hc (land255 (div_lt64 hw k)) dX5_put_35 (n := 36) rfl ?_
                refine n_l2i hc dX5_put_36 (n := 37) rfl ?_
                refine g_bipush (v := nI 33) hc (by decide) dX5_put_37 (n := 39) rfl ?_
                refine g_bipush (v := nI 126) hc (by decide) dX5_put_39 (n := 41) rfl ?_
                by_cases h5 : 33 ≤ w / 256 ^ k % 256 ∧ w / 256 ^ k % 256 ≤ 126
                · skip
                  refine g_callS (rest := []) (As := [.int (nI (w / 256 ^ k % 256)), .int (nI 33), .int (nI 126)]) (cells' := 0) (slots' := 0) hc (c_X5_in_y κ _ (nI (w / 256 ^ k % 256)) (nI 33) (nI 126) (in_y h5.1 h5.2)) q_X5_in k_ml_RX5_35 rfl rfl (jn_ix (wr := [(m 0, .inr (5, [.ref (m 1), .ref (m 2), .ref (m 3), .int (nI n), .ref (m 4), .ref (m 5), .ref (m 6), .int (nI ln), .ref (m 7), .ref (m 8)])), (m 6, aI κ 60 sg)]) [] [0, 1] rfl rfl rfl rfl (by decide)) ⟨⟨by decide, by decide⟩, by decide, by decide⟩ (Nat.le_of_ble_eq_true rfl) rfl rfl dX5_put_41 (n := 44) rfl (fun vv ww hp => ?_)
                  obtain ⟨rr, rfl, rfl, rfl⟩ := hp
                  refine ⟨_, rfl, ?_⟩
                  refine g_ws (ws' := [(m 0, .inr (5, [.ref (m 1), .ref (m 2), .ref (m 3), .int (nI n), .ref (m 4), .ref (m 5), .ref (m 6), .int (nI ln), .ref (m 7), .ref (m 8)])), (m 6, aI κ 60 sg)]) rfl ?_
                  refine g_st (st' := [.int (nI 1)]) rfl ?_
                  refine n_if_eq hc (by omega) dX5_put_44 (tgt := 51) (by decide) (n := 47) rfl (fun c_55 => by (exfalso; revert c_55; first | omega | decide)) (fun c_55 => ?_)
                  refine g_iconst (v := nI 1) hc (by decide) dX5_put_47 (n := 48) rfl ?_
                  refine g_goto (n := 52) hc dX5_put_48 (by decide) ?_
                  refine g_istore (lv2 := [(0, .ref (m 0)), (1, .long (lN w)), (3, .int (nI k)), (4, .long (lN (w / 256 ^ k))), (6, .int (nI 1))]) hc (by decide) [1, 2, 3, 4, 0] rfl rfl dX5_put_52 (n := 54) rfl ?_
                  refine n_iinc (v := k + 1) (zk := 1) (lv2 := [(0, .ref (m 0)), (1, .long (lN w)), (3, .int (nI (k + 1))), (4, .long (lN (w / 256 ^ k))), (6, .int (nI 1))]) hc 2 rfl (by decide) rfl (by decide) [1, 2, 0, 3, 4] rfl rfl dX5_put_54 (n := 57) rfl ?_
                  refine g_lload hc 3 rfl dX5_put_57 (n := 59) rfl ?_
                  refine g_bipush (v := nI 8) hc (by decide) dX5_put_59 (n := 61) rfl ?_
                  refine g_lushr (v := (lN (w / 256 ^ k / 256))) hc (by have h := wb_shr (div_lt64 hw k) (k := 8) (by decide); exact h) dX5_put_61 (n := 62) rfl ?_
                  refine g_lstore (lv2 := [(0, .ref (m 0)), (1, .long (lN w)), (3, .int (nI (k + 1))), (4, .long (lN (w / 256 ^ k / 256))), (6, .int (nI 1))]) hc (by decide) [1, 2, 3, 0, 4] rfl rfl dX5_put_62 (n := 64) rfl ?_
                  refine g_goto (n := 18) hc dX5_put_64 (by decide) ?_
                  refine g_lv (lv' := [(0, .ref (m 0)), (1, .long (lN w)), (3, .int (nI (k + 1))), (4, .long (lN (w / 256 ^ (k + 1)))), (6, .int (nI 1))]) (by rw [Nat.pow_succ, ← Nat.div_div_eq_div_mul]) ?_
                  exact ih_43 (k + 1) 1 (by have := wk_lt hw hk (by omega); omega) (by omega) (fun q => by first | exact absurd q (by decide) | (refine ⟨?_, (hq1 (by omega)).2⟩; rw [(hq1 (by omega)).1, show 8 - k = (8 - (k + 1)) + 1 from by have := wk_lt hw hk (by omega); omega, plr, if_neg (by omega), if_neg (by omega), Nat.div_div_eq_div_mul, ← Nat.pow_succ])) (fun q => by first | exact absurd q (by decide) | exact hq0 (by omega) | (rw [(hq1 (by omega)).1, show 8 - k = (8 - (k + 1)) + 1 from by have := wk_lt hw hk (by omega); omega, plr, if_neg (by omega), if_pos (by omega)])) (by have := wk_lt hw hk (by omega); omega)
                · skip
                  refine g_callS (rest := []) (As := [.int (nI (w / 256 ^ k % 256)), .int (nI 33), .int (nI 126)]) (cells' := 0) (slots' := 0) hc (c_X5_in_n κ _ (nI (w / 256 ^ k % 256)) (nI 33) (nI 126) (in_nn (by omega) (by decide) (by decide) (by omega))) q_X5_in k_ml_RX5_35 rfl rfl (jn_ix (wr := [(m 0, .inr (5, [.ref (m 1), .ref (m 2), .ref (m 3), .int (nI n), .ref (m 4), .ref (m 5), .ref (m 6), .int (nI ln), .ref (m 7), .ref (m 8)])), (m 6, aI κ 60 sg)]) [] [0, 1] rfl rfl rfl rfl (by decide)) ⟨⟨by decide, by decide⟩, by decide, by decide⟩ (Nat.le_of_ble_eq_true rfl) rfl rfl dX5_put_41 (n := 44) rfl (fun vv ww hp => ?_)
                  obtain ⟨rr, rfl, rfl, rfl⟩ := hp
                  refine ⟨_, rfl, ?_⟩
                  refine g_ws (ws' := [(m 0, .inr (5, [.ref (m 1), .ref (m 2), .ref (m 3), .int (nI n), .ref (m 4), .ref (m 5), .ref (m 6), .int (nI ln), .ref (m 7), .ref (m 8)])), (m 6, aI κ 60 sg)]) rfl ?_
                  refine g_st (st' := [.int (nI 0)]) rfl ?_
                  refine n_if_eq hc (by omega) dX5_put_44 (tgt := 51) (by decide) (n := 47) rfl (fun c_56 => ?_) (fun c_56 => by (exfalso; revert c_56; first | omega | decide))
                  refine g_iconst (v := nI 0) hc (by decide) dX5_put_51 (n := 52) rfl ?_
                  refine g_istore (lv2 := [(0, .ref (m 0)), (1, .long (lN w)), (3, .int (nI k)), (4, .long (lN (w / 256 ^ k))), (6, .int (nI 0))]) hc (by decide) [1, 2, 3, 4, 0] rfl rfl dX5_put_52 (n := 54) rfl ?_
                  refine n_iinc (v := k + 1) (zk := 1) (lv2 := [(0, .ref (m 0)), (1, .long (lN w)), (3, .int (nI (k + 1))), (4, .long (lN (w / 256 ^ k))), (6, .int (nI 0))]) hc 2 rfl (by decide) rfl (by decide) [1, 2, 0, 3, 4] rfl rfl dX5_put_54 (n := 57) rfl ?_
                  refine g_lload hc 3 rfl dX5_put_57 (n := 59) rfl ?_
                  refine g_bipush (v := nI 8) hc (by decide) dX5_put_59 (n := 61) rfl ?_
                  refine g_lushr (v := (lN (w / 256 ^ k / 256))) hc (by have h := wb_shr (div_lt64 hw k) (k := 8) (by decide); exact h) dX5_put_61 (n := 62) rfl ?_
                  refine g_lstore (lv2 := [(0, .ref (m 0)), (1, .long (lN w)), (3, .int (nI (k + 1))), (4, .long (lN (w / 256 ^ k / 256))), (6, .int (nI 0))]) hc (by decide) [1, 2, 3, 0, 4] rfl rfl dX5_put_62 (n := 64) rfl ?_
                  refine g_goto (n := 18) hc dX5_put_64 (by decide) ?_
                  refine g_lv (lv' := [(0, .ref (m 0)), (1, .long (lN w)), (3, .int (nI (k + 1))), (4, .long (lN (w / 256 ^ (k + 1)))), (6, .int (nI 0))]) (by rw [Nat.pow_succ, ← Nat.div_div_eq_div_mul]) ?_
                  exact ih_43 (k + 1) 0 (by have := wk_lt hw hk (by omega); omega) (by omega) (fun q => by first | exact absurd q (by decide) | (refine ⟨?_, (hq1 (by omega)).2⟩; rw [(hq1 (by omega)).1, show 8 - k = (8 - (k + 1)) + 1 from by have := wk_lt hw hk (by omega); omega, plr, if_neg (by omega), if_neg (by omega), Nat.div_div_eq_div_mul, ← Nat.pow_succ])) (fun q => by first | exact absurd q (by decide) | exact hq0 (by omega) | (rw [(hq1 (by omega)).1, show 8 - k = (8 - (k + 1)) + 1 from by have := wk_lt hw hk (by omega); omega, plr, if_neg (by omega), if_pos (by omega)])) (by have := wk_lt hw hk (by omega); omega)
            · skip
              refine g_lcmp (v := (-1)) hc (h1) dX5_put_21 (n := 22) rfl ?_
              refine g_if_eq hc dX5_put_22 (tgt := 67) (by decide) (n := 25) rfl (fun c_57 => by (exfalso; revert c_57; first | omega | decide)) (fun c_57 => ?_)
              refine g_iload hc 4 rfl dX5_put_25 (n := 27) rfl ?_
              refine n_if_eq hc (by omega) dX5_put_27 (tgt := 51) (by decide) (n := 30) rfl (fun c_58 => ?_) (fun c_58 => ?_)
              · skip
                refine g_iconst (v := nI 0) hc (by decide) dX5_put_51 (n := 52) rfl ?_
                refine g_istore (lv2 := [(0, .ref (m 0)), (1, .long (lN w)), (3, .int (nI k)), (4, .long (lN (w / 256 ^ k))), (6, .int (nI 0))]) hc (by decide) [1, 2, 3, 4, 0] rfl rfl dX5_put_52 (n := 54) rfl ?_
                refine n_iinc (v := k + 1) (zk := 1) (lv2 := [(0, .ref (m 0)), (1, .long (lN w)), (3, .int (nI (k + 1))), (4, .long (lN (w / 256 ^ k))), (6, .int (nI 0))]) hc 2 rfl (by decide) rfl (by decide) [1, 2, 0, 3, 4] rfl rfl dX5_put_54 (n := 57) rfl ?_
                refine g_lload hc 3 rfl dX5_put_57 (n := 59) rfl ?_
                refine g_bipush (v := nI 8) hc (by decide) dX5_put_59 (n := 61) rfl ?_
                refine g_lushr (v := (lN (w / 256 ^ k / 256))) hc (by have h := wb_shr (div_lt64 hw k) (k := 8) (by decide); exact h) dX5_put_61 (n := 62) rfl ?_
                refine g_lstore (lv2 := [(0, .ref (m 0)), (1, .long (lN w)), (3, .int (nI (k + 1))), (4, .long (lN (w / 256 ^ k / 256))), (6, .int (nI 0))]) hc (by decide) [1, 2, 3, 0, 4] rfl rfl dX5_put_62 (n := 64) rfl ?_
                refine g_goto (n := 18) hc dX5_put_64 (by decide) ?_
                refine g_lv (lv' := [(0, .ref (m 0)), (1, .long (lN w)), (3, .int (nI (k + 1))), (4, .long (lN (w / 256 ^ (k + 1)))), (6, .int (nI 0))]) (by rw [Nat.pow_succ, ← Nat.div_div_eq_div_mul]) ?_
                exact ih_43 (k + 1) 0 (by have := wk_lt hw hk (by omega); omega) (by omega) (fun q => by first | exact absurd q (by decide) | (refine ⟨?_, (hq1 (by omega)).2⟩; rw [(hq1 (by omega)).1, show 8 - k = (8 - (k + 1)) + 1 from by have := wk_lt hw hk (by omega); omega, plr, if_neg (by omega), if_neg (by omega), Nat.div_div_eq_div_mul, ← Nat.pow_succ])) (fun q => by first | exact absurd q (by decide) | exact hq0 (by omega) | (rw [(hq1 (by omega)).1, show 8 - k = (8 - (k + 1)) + 1 from by have := wk_lt hw hk (by omega); omega, plr, if_neg (by omega), if_pos (by omega)])) (by have := wk_lt hw hk (by omega); omega)
              · skip
                refine g_lload hc 3 rfl dX5_put_30 (n := 32) rfl ?_
                refine g_ldc2 (v2 := lN 255) hc k_kc_RX5_125 (by decide) dX5_put_32 (n := 35) rfl ?_
                refine g_land (v := (lN (w / 256 ^ k % 256))) hc (land255 (div_lt64 hw k)) dX5_put_35 (n := 36) rfl ?_
                refine n_l2i hc dX5_put_36 (n := 37) rfl ?_
                refine g_bipush (v := nI 33) hc (by decide) dX5_put_37 (n := 39) rfl ?_
                refine g_bipush (v := nI 126) hc (by decide) dX5_put_39 (n := 41) rfl ?_
                by_cases h5 : 33 ≤ w / 256 ^ k % 256 ∧ w / 256 ^ k % 256 ≤ 126
                · skip
                  refine g_callS (rest := []) (As := [.int (nI (w / 256 ^ k % 256)), .int (nI 33), .int (nI 126)]) (cells' := 0) (slots' := 0) hc (c_X5_in_y κ _ (nI (w / 256 ^ k % 256)) (nI 33) (nI 126) (in_y h5.1 h5.2)) q_X5_in k_ml_RX5_35 rfl rfl (jn_ix (wr := [(m 0, .inr (5, [.ref (m 1), .ref (m 2), .ref (m 3), .int (nI n), .ref (m 4), .ref (m 5), .ref (m 6), .int (nI ln), .ref (m 7), .ref (m 8)])), (m 6, aI κ 60 sg)]) [] [0, 1] rfl rfl rfl rfl (by decide)) ⟨⟨by decide, by decide⟩, by decide, by decide⟩ (Nat.le_of_ble_eq_true rfl) rfl rfl dX5_put_41 (n := 44) rfl (fun vv ww hp => ?_)
                  obtain ⟨rr, rfl, rfl, rfl⟩ := hp
                  refine ⟨_, rfl, ?_⟩
                  refine g_ws (ws' := [(m 0, .inr (5, [.ref (m 1), .ref (m 2), .ref (m 3), .int (nI n), .ref (m 4), .ref (m 5), .ref (m 6), .int (nI ln), .ref (m 7), .ref (m 8)])), (m 6, aI κ 60 sg)]) rfl ?_
                  refine g_st (st' := [.int (nI 1)]) rfl ?_
                  refine n_if_eq hc (by omega) dX5_put_44 (tgt := 51) (by decide) (n := 47) rfl (fun c_59 => by (exfalso; revert c_59; first | omega | decide)) (fun c_59 => ?_)
                  refine g_iconst (v := nI 1) hc (by decide) dX5_put_47 (n := 48) rfl ?_
                  refine g_goto (n := 52) hc dX5_put_48 (by decide) ?_
                  refine g_istore (lv2 := [(0, .ref (m 0)), (1, .long (lN w)), (3, .int (nI k)), (4, .long (lN (w / 256 ^ k))), (6, .int (nI 1))]) hc (by decide) [1, 2, 3, 4, 0] rfl rfl dX5_put_52 (n := 54) rfl ?_
                  refine n_iinc (v := k + 1) (zk := 1) (lv2 := [(0, .ref (m 0)), (1, .long (lN w)), (3, .int (nI (k + 1))), (4, .long (lN (w / 256 ^ k))), (6, .int (nI 1))]) hc 2 rfl (by decide) rfl (by decide) [1, 2, 0, 3, 4] rfl rfl dX5_put_54 (n := 57) rfl ?_
                  refine g_lload hc 3 rfl dX5_put_57 (n := 59) rfl ?_
                  refine g_bipush (v := nI 8) hc (by decide) dX5_put_59 (n := 61) rfl ?_
                  refine g_lushr (v := (lN (w / 256 ^ k / 256))) hc (by have h := wb_shr (div_lt64 hw k) (k := 8) (by decide); exact h) dX5_put_61 (n := 62) rfl ?_
                  refine g_lstore (lv2 := [(0, .ref (m 0)), (1, .long (lN w)), (3, .int (nI (k + 1))), (4, .long (lN (w / 256 ^ k / 256))), (6, .int (nI 1))]) hc (by decide) [1, 2, 3, 0, 4] rfl rfl dX5_put_62 (n := 64) rfl ?_
                  refine g_goto (n := 18) hc dX5_put_64 (by decide) ?_
                  refine g_lv (lv' := [(0, .ref (m 0)), (1, .long (lN w)), (3, .int (nI (k + 1))), (4, .long (lN (w / 256 ^ (k + 1)))), (6, .int (nI 1))]) (by rw [Nat.pow_succ, ← Nat.div_div_eq_div_mul]) ?_
                  exact ih_43 (k + 1) 1 (by have := wk_lt hw hk (by omega); omega) (by omega) (fun q => by first | exact absurd q (by decide) | (refine ⟨?_, (hq1 (by omega)).2⟩; rw [(hq1 (by omega)).1, show 8 - k = (8 - (k + 1)) + 1 from by have := wk_lt hw hk (by omega); omega, plr, if_neg (by omega), if_neg (by omega), Nat.div_div_eq_div_mul, ← Nat.pow_succ])) (fun q => by first | exact absurd q (by decide) | exact hq0 (by omega) | (rw [(hq1 (by omega)).1, show 8 - k = (8 - (k + 1)) + 1 from by have := wk_lt hw hk (by omega); omega, plr, if_neg (by omega), if_pos (by omega)])) (by have := wk_lt hw hk (by omega); omega)
                · skip
                  refine g_callS (rest := []) (As := [.int (nI (w / 256 ^ k % 256)), .int (nI 33), .int (nI 126)]) (cells' := 0) (slots' := 0) hc (c_X5_in_n κ _ (nI (w / 256 ^ k % 256)) (nI 33) (nI 126) (in_nn (by omega) (by decide) (by decide) (by omega))) q_X5_in k_ml_RX5_35 rfl rfl (jn_ix (wr := [(m 0, .inr (5, [.ref (m 1), .ref (m 2), .ref (m 3), .int (nI n), .ref (m 4), .ref (m 5), .ref (m 6), .int (nI ln), .ref (m 7), .ref (m 8)])), (m 6, aI κ 60 sg)]) [] [0, 1] rfl rfl rfl rfl (by decide)) ⟨⟨by decide, by decide⟩, by decide, by decide⟩ (Nat.le_of_ble_eq_true rfl) rfl rfl dX5_put_41 (n := 44) rfl (fun vv ww hp => ?_)
                  obtain ⟨rr, rfl, rfl, rfl⟩ := hp
                  refine ⟨_, rfl, ?_⟩
                  refine g_ws (ws' := [(m 0, .inr (5, [.ref (m 1), .ref (m 2), .ref (m 3), .int (nI n), .ref (m 4), .ref (m 5), .ref (m 6), .int (nI ln), .ref (m 7), .ref (m 8)])), (m 6, aI κ 60 sg)]) rfl ?_
                  refine g_st (st' := [.int (nI 0)]) rfl ?_
                  refine n_if_eq hc (by omega) dX5_put_44 (tgt := 51) (by decide) (n := 47) rfl (fun c_60 => ?_) (fun c_60 => by (exfalso; revert c_60; first | omega | decide))
                  refine g_iconst (v := nI 0) hc (by decide) dX5_put_51 (n := 52) rfl ?_
                  refine g_istore (lv2 := [(0, .ref (m 0)), (1, .long (lN w)), (3, .int (nI k)), (4, .long (lN (w / 256 ^ k))), (6, .int (nI 0))]) hc (by decide) [1, 2, 3, 4, 0] rfl rfl dX5_put_52 (n := 54) rfl ?_
                  refine n_iinc (v := k + 1) (zk := 1) (lv2 := [(0, .ref (m 0)), (1, .long (lN w)), (3, .int (nI (k + 1))), (4, .long (lN (w / 256 ^ k))), (6, .int (nI 0))]) hc 2 rfl (by decide) rfl (by decide) [1, 2, 0, 3, 4] rfl rfl dX5_put_54 (n := 57) rfl ?_
                  refine g_lload hc 3 rfl dX5_put_57 (n := 59) rfl ?_
                  refine g_bipush (v := nI 8) hc (by decide) dX5_put_59 (n := 61) rfl ?_
                  refine g_lushr (v := (lN (w / 256 ^ k / 256))) hc (by have h := wb_shr (div_lt64 hw k) (k := 8) (by decide); exact h) dX5_put_61 (n := 62) rfl ?_
                  refine g_lstore (lv2 := [(0, .ref (m 0)), (1, .long (lN w)), (3, .int (nI (k + 1))), (4, .long (lN (w / 256 ^ k / 256))), (6, .int (nI 0))]) hc (by decide) [1, 2, 3, 0, 4] rfl rfl dX5_put_62 (n := 64) rfl ?_
                  refine g_goto (n := 18) hc dX5_put_64 (by decide) ?_
                  refine g_lv (lv' := [(0, .ref (m 0)), (1, .long (lN w)), (3, .int (nI (k + 1))), (4, .long (lN (w / 256 ^ (k + 1)))), (6, .int (nI 0))]) (by rw [Nat.pow_succ, ← Nat.div_div_eq_div_mul]) ?_
                  exact ih_43 (k + 1) 0 (by have := wk_lt hw hk (by omega); omega) (by omega) (fun q => by first | exact absurd q (by decide) | (refine ⟨?_, (hq1 (by omega)).2⟩; rw [(hq1 (by omega)).1, show 8 - k = (8 - (k + 1)) + 1 from by have := wk_lt hw hk (by omega); omega, plr, if_neg (by omega), if_neg (by omega), Nat.div_div_eq_div_mul, ← Nat.pow_succ])) (fun q => by first | exact absurd q (by decide) | exact hq0 (by omega) | (rw [(hq1 (by omega)).1, show 8 - k = (8 - (k + 1)) + 1 from by have := wk_lt hw hk (by omega); omega, plr, if_neg (by omega), if_pos (by omega)])) (by have := wk_lt hw hk (by omega); omega)
      exact L_42 _ 0 1 (Nat.zero_le _) (by omega) (fun q => by first | exact absurd q (by decide) | exact ⟨by rw [Nat.pow_zero, Nat.div_one]; rfl, by omega⟩) (fun q => by first | exact absurd q (by decide) | (subst h0; rfl)) (Nat.lt_succ_self _)
