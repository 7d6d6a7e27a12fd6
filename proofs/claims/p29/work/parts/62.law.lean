set_option maxHeartbeats 1000000 in
set_option maxRecDepth 100000 in
theorem c_L_isAhead (κ : Kp) (l : Launch) (a : Nat → Nat) (q : Nat → Nat) (z : Nat → Nat) (n : Nat) (w0 : va_W) (p0 : Nat) (b0 : Nat) (g0 : Nat) (x : Int32) (hw0 : Oc κ a q z n w0) : CT κ l yL_isAhead cL_isAhead 15 (some .boolean) 5 134 3 113 [.ref (a 0), .int x, .ref p0, .ref b0, .ref g0] ([(p0, aI κ 52 z), (b0, aI κ 52 (fun k => z (52 + k))), (g0, aI κ 9 (fun k => z (324 + k)))] ++ w0) (PI (fun rr ww => ∃ w2 : va_W, (Oc κ a q z n w2) ∧ rr = (nI 1) ∧ ww = [(p0, aI κ 52 z), (b0, aI κ 52 (fun k => z (52 + k))), (g0, aI κ 9 (fun k => z (324 + k)))] ++ w2)) := by
  refine CT.go (by decide +kernel) (Nat.le_of_ble_eq_true rfl) ?_
  intro Γ A Q hl hc hret
  subst hl
  have hc : Cx κ Γ A cL_isAhead 15 RL "isAhead" (some .boolean) { frames := 5, cells := 3, slots := 113, locals := 134 } := hc
  refine g_lv (lv' := [(0, .ref (a 0)), (1, .int x), (2, .ref p0), (3, .ref b0), (4, .ref g0)]) rfl ?_
  obtain ⟨hzb, hzf, hzc, hpz, hzh, hk1, hk2, hzx⟩ := hw0.zv
  refine g_bipush (v := nI 52) hc (by decide) dL_isAhead_0 (n := 2) rfl ?_
  refine n_newI hc k_ac_int (by decide) ⟨by decide, by decide⟩ (cells' := 1) (slots' := 52) rfl rfl dL_isAhead_2 (n := 4) rfl (fun q_1 => ?_)
  refine g_re2 (w2 := ([(p0, aI κ 52 z), (b0, aI κ 52 (fun k => z (52 + k))), (g0, aI κ 9 (fun k => z (324 + k))), (q_1, aI κ 52 (fun _ => 0))] ++ w0)) (re_nw [(p0, aI κ 52 z), (b0, aI κ 52 (fun k => z (52 + k))), (g0, aI κ 9 (fun k => z (324 + k)))] w0 (q_1, aI κ 52 (fun _ => 0))) ?_
  refine g_astore (lv2 := [(0, .ref (a 0)), (1, .int x), (2, .ref p0), (3, .ref b0), (4, .ref g0), (5, .ref q_1)]) hc (by decide) [1, 2, 3, 4, 5, 0] rfl rfl dL_isAhead_4 (n := 6) rfl ?_
  refine g_bipush (v := nI 52) hc (by decide) dL_isAhead_6 (n := 8) rfl ?_
  refine n_newI hc k_ac_int (by decide) ⟨by decide, by decide⟩ (cells' := 2) (slots' := 104) rfl rfl dL_isAhead_8 (n := 10) rfl (fun q_2 => ?_)
  refine g_re2 (w2 := ([(p0, aI κ 52 z), (b0, aI κ 52 (fun k => z (52 + k))), (g0, aI κ 9 (fun k => z (324 + k))), (q_1, aI κ 52 (fun _ => 0)), (q_2, aI κ 52 (fun _ => 0))] ++ w0)) (re_nw [(p0, aI κ 52 z), (b0, aI κ 52 (fun k => z (52 + k))), (g0, aI κ 9 (fun k => z (324 + k))), (q_1, aI κ 52 (fun _ => 0))] w0 (q_2, aI κ 52 (fun _ => 0))) ?_
  refine g_astore (lv2 := [(0, .ref (a 0)), (1, .int x), (2, .ref p0), (3, .ref b0), (4, .ref g0), (5, .ref q_1), (6, .ref q_2)]) hc (by decide) [1, 2, 3, 4, 5, 6, 0] rfl rfl dL_isAhead_10 (n := 12) rfl ?_
  refine g_bipush (v := nI 9) hc (by decide) dL_isAhead_12 (n := 14) rfl ?_
  refine n_newI hc k_ac_int (by decide) ⟨by decide, by decide⟩ (cells' := 3) (slots' := 113) rfl rfl dL_isAhead_14 (n := 16) rfl (fun q_3 => ?_)
  refine g_re2 (w2 := ([(p0, aI κ 52 z), (b0, aI κ 52 (fun k => z (52 + k))), (g0, aI κ 9 (fun k => z (324 + k))), (q_1, aI κ 52 (fun _ => 0)), (q_2, aI κ 52 (fun _ => 0)), (q_3, aI κ 9 (fun _ => 0))] ++ w0)) (re_nw [(p0, aI κ 52 z), (b0, aI κ 52 (fun k => z (52 + k))), (g0, aI κ 9 (fun k => z (324 + k))), (q_1, aI κ 52 (fun _ => 0)), (q_2, aI κ 52 (fun _ => 0))] w0 (q_3, aI κ 9 (fun _ => 0))) ?_
  refine g_astore (lv2 := [(0, .ref (a 0)), (1, .int x), (2, .ref p0), (3, .ref b0), (4, .ref g0), (5, .ref q_1), (6, .ref q_2), (7, .ref q_3)]) hc (by decide) [1, 2, 3, 4, 5, 6, 7, 0] rfl rfl dL_isAhead_16 (n := 18) rfl ?_
  refine g_iconst (v := nI 1) hc (by decide) dL_isAhead_18 (n := 19) rfl ?_
  refine g_iload_n hc 1 rfl rfl dL_isAhead_19 (n := 20) rfl ?_
  refine g_bipush (v := nI 20) hc (by decide) dL_isAhead_20 (n := 22) rfl ?_
  refine g_callS (rest := [.int (nI 1)]) (As := [.int x, .int (nI 20)]) (cells' := 3) (slots' := 113) hc (c_L_low κ _ x 20 (by decide) (by decide)) q_L_low k_ml_RL_66 rfl rfl (jn_q (wr := [(p0, aI κ 52 z), (b0, aI κ 52 (fun k => z (52 + k))), (g0, aI κ 9 (fun k => z (324 + k))), (q_1, aI κ 52 (fun _ => 0)), (q_2, aI κ 52 (fun _ => 0)), (q_3, aI κ 9 (fun _ => 0))]) [] [0, 1, 2, 3, 4, 5] rfl rfl rfl rfl (by decide)) ⟨⟨by decide, by decide⟩, by decide, by decide⟩ (Nat.le_of_ble_eq_true rfl) rfl rfl dL_isAhead_22 (n := 25) rfl (fun vv ww hp => ?_)
  obtain ⟨rr, rfl, rfl, rfl⟩ := hp
  refine ⟨_, rfl, ?_⟩
  refine g_ws (ws' := ([(p0, aI κ 52 z), (b0, aI κ 52 (fun k => z (52 + k))), (g0, aI κ 9 (fun k => z (324 + k))), (q_1, aI κ 52 (fun _ => 0)), (q_2, aI κ 52 (fun _ => 0)), (q_3, aI κ 9 (fun _ => 0))] ++ w0)) rfl ?_
  refine g_st (st' := [.int (nI (lw x % 20)), .int (nI 1)]) rfl ?_
  have lo_4 : lw x % 20 < 20 := Nat.mod_lt _ (by decide)
  refine n_iadd (v := 1 + (lw x % 20)) hc rfl dL_isAhead_25 (n := 26) rfl ?_
  obtain ⟨rf, erf⟩ : ∃ rf, rf = 1 + lw x % 20 := ⟨_, rfl⟩
  refine g_top (y := nI rf) (by rw [erf]) ?_
  have hrf : 1 ≤ rf ∧ rf ≤ 20 := by omega
  refine g_istore (lv2 := [(0, .ref (a 0)), (1, .int x), (2, .ref p0), (3, .ref b0), (4, .ref g0), (5, .ref q_1), (6, .ref q_2), (7, .ref q_3), (8, .int (nI rf))]) hc (by decide) [1, 2, 3, 4, 5, 6, 7, 8, 0] rfl rfl dL_isAhead_26 (n := 28) rfl ?_
  refine g_aload_n hc 2 rfl rfl dL_isAhead_28 (n := 29) rfl ?_
  refine g_aload_n hc 3 rfl rfl dL_isAhead_29 (n := 30) rfl ?_
  refine g_aload hc 4 rfl dL_isAhead_30 (n := 32) rfl ?_
  refine g_iload hc 8 rfl dL_isAhead_32 (n := 34) rfl ?_
  refine g_iconst (v := nI 4294967295) hc (by decide) dL_isAhead_34 (n := 35) rfl ?_
  refine g_aload hc 5 rfl dL_isAhead_35 (n := 37) rfl ?_
  refine g_aload hc 6 rfl dL_isAhead_37 (n := 39) rfl ?_
  refine g_aload hc 7 rfl dL_isAhead_39 (n := 41) rfl ?_
  refine g_callS (rest := []) (As := [.ref p0, .ref b0, .ref g0, .int (nI rf), .int (nI 4294967295), .ref q_1, .ref q_2, .ref q_3]) (cells' := 3) (slots' := 113) hc (c_L_keptIf κ _ p0 b0 g0 rf q_1 q_2 q_3 (nI 4294967295) z (fun k => z (52 + k)) (fun k => z (324 + k)) (fun _ => 0) (fun _ => 0) (fun _ => 0) (fun k => z (52 + k)) hpz (show z 326 < 2 ^ 31 from hzx) hzb (bb_no hzb) (by omega)) q_L_keptIf k_ml_RL_69 rfl rfl (jn_q (wr := []) [0, 1, 2, 3, 4, 5] [] rfl rfl rfl rfl (by decide)) ⟨⟨by decide, by decide⟩, by decide, by decide⟩ (Nat.le_of_ble_eq_true rfl) rfl rfl dL_isAhead_41 (n := 44) rfl (fun vv ww hp => ?_)
  obtain ⟨rr, rfl, w2_5, rfl, rfl⟩ := hp
  refine ⟨_, rfl, ?_⟩
  refine g_ws (ws' := ([(p0, aI κ 52 z), (b0, aI κ 52 (fun k => z (52 + k))), (g0, aI κ 9 (fun k => z (324 + k))), (q_1, aI κ 52 ((rit (fun k => z (52 + k)) z ((fun k => z (324 + k)) 2) rf).2)), (q_2, aI κ 52 w2_5), (q_3, aI κ 9 (va_up (fun k => z (324 + k)) 2 (rit (fun k => z (52 + k)) z ((fun k => z (324 + k)) 2) rf).1))] ++ w0)) rfl ?_
  refine g_st (st' := [.int (nI (kp z (rit (fun k => z (52 + k)) z ((fun k => z (324 + k)) 2) rf).2))]) rfl ?_
  refine g_top (y := nI (kp z (ri z rf).2)) (rfl) ?_
  refine g_istore (lv2 := [(0, .ref (a 0)), (1, .int x), (2, .ref p0), (3, .ref b0), (4, .ref g0), (5, .ref q_1), (6, .ref q_2), (7, .ref q_3), (8, .int (nI rf)), (9, .int (nI (kp z (ri z rf).2)))]) hc (by decide) [1, 2, 3, 4, 5, 6, 7, 8, 9, 0] rfl rfl dL_isAhead_44 (n := 46) rfl ?_
  refine g_bipush (v := nI 4294967290) hc (by decide) dL_isAhead_46 (n := 48) rfl ?_
  refine g_istore (lv2 := [(0, .ref (a 0)), (1, .int x), (2, .ref p0), (3, .ref b0), (4, .ref g0), (5, .ref q_1), (6, .ref q_2), (7, .ref q_3), (8, .int (nI rf)), (9, .int (nI (kp z (ri z rf).2))), (10, .int (nI 4294967290))]) hc (by decide) [1, 2, 3, 4, 5, 6, 7, 8, 9, 10, 0] rfl rfl dL_isAhead_48 (n := 50) rfl ?_
  refine g_bipush (v := nI 20) hc (by decide) dL_isAhead_50 (n := 52) rfl ?_
  refine g_istore (lv2 := [(0, .ref (a 0)), (1, .int x), (2, .ref p0), (3, .ref b0), (4, .ref g0), (5, .ref q_1), (6, .ref q_2), (7, .ref q_3), (8, .int (nI rf)), (9, .int (nI (kp z (ri z rf).2))), (10, .int (nI 4294967290)), (11, .int (nI 20))]) hc (by decide) [1, 2, 3, 4, 5, 6, 7, 8, 9, 10, 11, 0] rfl rfl dL_isAhead_52 (n := 54) rfl ?_
  have L_6 : ∀ (fuel : Nat) (i : Nat) (nd : Nat) (cq : Nat → Nat) (cw : Nat → Nat) (ce : Nat → Nat), (i ≤ 20) → (nd = nds z (20 - i) (i + 1)) → i < fuel → G κ Γ A 15 3 113 Q ([(p0, aI κ 52 z), (b0, aI κ 52 (fun k => z (52 + k))), (g0, aI κ 9 (fun k => z (324 + k))), (q_1, aI κ 52 cq), (q_2, aI κ 52 cw), (q_3, aI κ 9 ce)] ++ w0) 54 [(0, .ref (a 0)), (1, .int x), (2, .ref p0), (3, .ref b0), (4, .ref g0), (5, .ref q_1), (6, .ref q_2), (7, .ref q_3), (8, .int (nI rf)), (9, .int (nI (kp z (ri z rf).2))), (10, .int (nI nd)), (11, .int (nI i))] [] := by
    intro fuel
    induction fuel with
    | zero => intro i nd cq cw ce hi hnd h; exact absurd h (Nat.not_lt_zero _)
    | succ fuel ih_7 =>
      intro i nd cq cw ce hi hnd hn_8
      refine g_iload hc 11 rfl dL_isAhead_54 (n := 56) rfl ?_
      refine n_if_le hc (by omega) dL_isAhead_56 (tgt := 97) (by decide) (n := 59) rfl (fun c_9 => ?_) (fun c_9 => ?_)
      · skip
        have end_ : nd = nds z 20 1 := by have e9 : i = 0 := (by omega); subst e9; exact hnd
        refine g_bipush (v := nI 4294967290) hc (by decide) dL_isAhead_97 (n := 99) rfl ?_
        refine g_istore (lv2 := [(0, .ref (a 0)), (1, .int x), (2, .ref p0), (3, .ref b0), (4, .ref g0), (5, .ref q_1), (6, .ref q_2), (7, .ref q_3), (8, .int (nI rf)), (9, .int (nI (kp z (ri z rf).2))), (10, .int (nI nd)), (11, .int (nI 4294967290))]) hc (by decide) [1, 2, 3, 4, 5, 6, 7, 8, 9, 10, 11, 0] rfl rfl dL_isAhead_99 (n := 101) rfl ?_
        refine g_bipush (v := nI 99) hc (by decide) dL_isAhead_101 (n := 103) rfl ?_
        refine g_istore (lv2 := [(0, .ref (a 0)), (1, .int x), (2, .ref p0), (3, .ref b0), (4, .ref g0), (5, .ref q_1), (6, .ref q_2), (7, .ref q_3), (8, .int (nI rf)), (9, .int (nI (kp z (ri z rf).2))), (10, .int (nI nd)), (11, .int (nI 4294967290)), (12, .int (nI 99))]) hc (by decide) [1, 2, 3, 4, 5, 6, 7, 8, 9, 10, 11, 12, 0] rfl rfl dL_isAhead_103 (n := 105) rfl ?_
        refine g_iconst (v := nI 0) hc (by decide) dL_isAhead_105 (n := 106) rfl ?_
        refine g_istore (lv2 := [(0, .ref (a 0)), (1, .int x), (2, .ref p0), (3, .ref b0), (4, .ref g0), (5, .ref q_1), (6, .ref q_2), (7, .ref q_3), (8, .int (nI rf)), (9, .int (nI (kp z (ri z rf).2))), (10, .int (nI nd)), (11, .int (nI 4294967290)), (12, .int (nI 99)), (13, .int (nI 0))]) hc (by decide) [1, 2, 3, 4, 5, 6, 7, 8, 9, 10, 11, 12, 13, 0] rfl rfl dL_isAhead_106 (n := 108) rfl ?_
        have L_10 : ∀ (fuel : Nat) (k : Nat) (wo : Nat) (fe : Nat) (cq : Nat → Nat) (cw : Nat → Nat) (ce : Nat → Nat), (k ≤ 52) → (wo = (wbs z k).1) → (fe = (wbs z k).2 ∨ (fe = 99 ∧ (wbs z k).2 = 52)) → (fe < 100) → 52 - k < fuel → G κ Γ A 15 3 113 Q ([(p0, aI κ 52 z), (b0, aI κ 52 (fun k => z (52 + k))), (g0, aI κ 9 (fun k => z (324 + k))), (q_1, aI κ 52 cq), (q_2, aI κ 52 cw), (q_3, aI κ 9 ce)] ++ w0) 108 [(0, .ref (a 0)), (1, .int x), (2, .ref p0), (3, .ref b0), (4, .ref g0), (5, .ref q_1), (6, .ref q_2), (7, .ref q_3), (8, .int (nI rf)), (9, .int (nI (kp z (ri z rf).2))), (10, .int (nI nd)), (11, .int (nI wo)), (12, .int (nI fe)), (13, .int (nI k))] [] := by
          intro fuel
          induction fuel with
          | zero => intro k wo fe cq cw ce hk hwo hfe hfl h; exact absurd h (Nat.not_lt_zero _)
          | succ fuel ih_11 =>
            intro k wo fe cq cw ce hk hwo hfe hfl hn_12
            refine g_iload hc 13 rfl dL_isAhead_108 (n := 110) rfl ?_
            refine g_bipush (v := nI 52) hc (by decide) dL_isAhead_110 (n := 112) rfl ?_
            refine n_icmp_ge hc (by omega) (by omega) dL_isAhead_112 (tgt := 184) (by decide) (n := 115) rfl (fun c_13 => ?_) (fun c_13 => ?_)
            · skip
              have ewb : wo = (wbs z 52).1 := by have e9 : k = 52 := (by omega); subst e9; exact hwo
              refine g_aload_n hc 0 rfl rfl dL_isAhead_184 (n := 185) rfl ?_
              refine g_iload hc 8 rfl dL_isAhead_185 (n := 187) rfl ?_
              refine g_iconst (v := nI 0) hc (by decide) dL_isAhead_187 (n := 188) rfl ?_
              refine g_cls (As := [.int (nI rf), .int (nI 0)]) (rest := []) hc (s_ifRiffled_ok0 hw0 rf hrf.1 hrf.2) q_X4_ifRiffled k_ml_RL_73 rfl rfl (Oc.rc hw0) vw_4 ⟨⟨by decide, by decide⟩, by decide, by decide⟩ (Nat.le_of_ble_eq_true rfl) dL_isAhead_188 (n := 191) rfl (fun w_14 hw_15 => ?_)
              refine g_iload hc 9 rfl dL_isAhead_191 (n := 193) rfl ?_
              refine g_icmp_ne hc dL_isAhead_193 (tgt := 264) (by decide) (n := 196) rfl (fun e => absurd rfl e) (fun _ => ?_)
              refine g_aload_n hc 0 rfl rfl dL_isAhead_196 (n := 197) rfl ?_
              refine g_iload hc 8 rfl dL_isAhead_197 (n := 199) rfl ?_
              refine g_iconst (v := nI 1) hc (by decide) dL_isAhead_199 (n := 200) rfl ?_
              refine g_cls (As := [.int (nI rf), .int (nI 1)]) (rest := []) hc (s_ifRiffled_ok1 hw_15 rf hrf.1 hrf.2) q_X4_ifRiffled k_ml_RL_73 rfl rfl (Oc.rc hw_15) vw_4 ⟨⟨by decide, by decide⟩, by decide, by decide⟩ (Nat.le_of_ble_eq_true rfl) dL_isAhead_200 (n := 203) rfl (fun w_16 hw_17 => ?_)
              refine g_iload hc 9 rfl dL_isAhead_203 (n := 205) rfl ?_
              refine g_icmp_ne hc dL_isAhead_205 (tgt := 264) (by decide) (n := 208) rfl (fun e => absurd rfl e) (fun _ => ?_)
              refine g_aload_n hc 0 rfl rfl dL_isAhead_208 (n := 209) rfl ?_
              refine g_cls (As := []) (rest := []) hc (s_needed hw_17  ) q_X4_needed k_ml_RL_76 rfl rfl (Oc.rc hw_17) vw_4 ⟨⟨by decide, by decide⟩, by decide, by decide⟩ (Nat.le_of_ble_eq_true rfl) dL_isAhead_209 (n := 212) rfl (fun w_18 hw_19 => ?_)
              refine g_top (y := nI nd) (congrArg nI (end_.symm)) ?_
              refine g_iload hc 10 rfl dL_isAhead_212 (n := 214) rfl ?_
              refine g_icmp_ne hc dL_isAhead_214 (tgt := 264) (by decide) (n := 217) rfl (fun e => absurd rfl e) (fun _ => ?_)
              refine g_aload_n hc 0 rfl rfl dL_isAhead_217 (n := 218) rfl ?_
              refine g_cls (As := []) (rest := []) hc (s_worstBend hw_19  ) q_X4_worstBend k_ml_RL_80 rfl rfl (Oc.rc hw_19) vw_4 ⟨⟨by decide, by decide⟩, by decide, by decide⟩ (Nat.le_of_ble_eq_true rfl) dL_isAhead_218 (n := 221) rfl (fun w_20 hw_21 => ?_)
              refine g_top (y := nI wo) (congrArg nI (ewb.symm)) ?_
              refine g_iload hc 11 rfl dL_isAhead_221 (n := 223) rfl ?_
              refine g_icmp_ne hc dL_isAhead_223 (tgt := 264) (by decide) (n := 226) rfl (fun e => absurd rfl e) (fun _ => ?_)
              refine g_aload_n hc 0 rfl rfl dL_isAhead_226 (n := 227) rfl ?_
              refine g_iconst (v := nI 0) hc (by decide) dL_isAhead_227 (n := 228) rfl ?_
              refine g_iconst (v := nI 0) hc (by decide) dL_isAhead_228 (n := 229) rfl ?_
              refine g_cls (As := [.int (nI 0), .int (nI 0)]) (rest := []) hc (s_ifRiffled_er2 hw_21 (nI 0) ) q_X4_ifRiffled k_ml_RL_73 rfl rfl (Oc.rc hw_21) vw_4 ⟨⟨by decide, by decide⟩, by decide, by decide⟩ (Nat.le_of_ble_eq_true rfl) dL_isAhead_229 (n := 232) rfl (fun w_22 hw_23 => ?_)
              refine g_bipush (v := nI 4294967294) hc (by decide) dL_isAhead_232 (n := 234) rfl ?_
              refine g_icmp_ne hc dL_isAhead_234 (tgt := 264) (by decide) (n := 237) rfl (fun e => absurd rfl e) (fun _ => ?_)
              refine g_aload_n hc 0 rfl rfl dL_isAhead_237 (n := 238) rfl ?_
              refine g_bipush (v := nI 21) hc (by decide) dL_isAhead_238 (n := 240) rfl ?_
              refine g_iconst (v := nI 0) hc (by decide) dL_isAhead_240 (n := 241) rfl ?_
              refine g_cls (As := [.int (nI 21), .int (nI 0)]) (rest := []) hc (s_ifRiffled_er1 hw_23 (nI 21) (nI 0) (by decide)) q_X4_ifRiffled k_ml_RL_73 rfl rfl (Oc.rc hw_23) vw_4 ⟨⟨by decide, by decide⟩, by decide, by decide⟩ (Nat.le_of_ble_eq_true rfl) dL_isAhead_241 (n := 244) rfl (fun w_24 hw_25 => ?_)
              refine g_bipush (v := nI 4294967294) hc (by decide) dL_isAhead_244 (n := 246) rfl ?_
              refine g_icmp_ne hc dL_isAhead_246 (tgt := 264) (by decide) (n := 249) rfl (fun e => absurd rfl e) (fun _ => ?_)
              refine g_aload_n hc 0 rfl rfl dL_isAhead_249 (n := 250) rfl ?_
              refine g_iconst (v := nI 1) hc (by decide) dL_isAhead_250 (n := 251) rfl ?_
              refine g_iconst (v := nI 2) hc (by decide) dL_isAhead_251 (n := 252) rfl ?_
              refine g_cls (As := [.int (nI 1), .int (nI 2)]) (rest := []) hc (s_ifRiffled_er3 hw_25 1 (nI 2) (by decide) (by decide) (by decide)) q_X4_ifRiffled k_ml_RL_73 rfl rfl (Oc.rc hw_25) vw_4 ⟨⟨by decide, by decide⟩, by decide, by decide⟩ (Nat.le_of_ble_eq_true rfl) dL_isAhead_252 (n := 255) rfl (fun w_26 hw_27 => ?_)
              refine g_bipush (v := nI 4294967294) hc (by decide) dL_isAhead_255 (n := 257) rfl ?_
              refine g_icmp_ne hc dL_isAhead_257 (tgt := 264) (by decide) (n := 260) rfl (fun e => absurd rfl e) (fun _ => ?_)
              refine g_iconst (v := nI 1) hc (by decide) dL_isAhead_260 (n := 261) rfl ?_
              refine g_goto (n := 265) hc dL_isAhead_261 (by decide) ?_
              refine g_subq (X' := [(p0, aI κ 52 z), (b0, aI κ 52 (fun k => z (52 + k))), (g0, aI κ 9 (fun k => z (324 + k)))]) [0, 1, 2] rfl rfl ?_
              refine hret.2.1 _ _ _ _ _ _ _ rfl rfl (by decide) (by decide) dL_isAhead_265 ?_
              exact ⟨_, rfl, w_26, (hw_27), rfl, rfl⟩
            · skip
              have hbk := hzb k (by omega)
              refine g_aload_n hc 3 rfl rfl dL_isAhead_115 (n := 116) rfl ?_
              refine g_iload hc 13 rfl dL_isAhead_116 (n := 118) rfl ?_
              refine n_iald (v := z (52 + k)) hc 1 rfl (by omega) (by decide) rfl dL_isAhead_118 (n := 119) rfl ?_
              refine n_if_ne hc (by omega) dL_isAhead_119 (tgt := 125) (by decide) (n := 122) rfl (fun c_28 => ?_) (fun c_28 => ?_)
              · skip
                have hb1 : z (52 + k) = 1 := by omega
                refine g_aload_n hc 2 rfl rfl dL_isAhead_125 (n := 126) rfl ?_
                refine g_aload_n hc 3 rfl rfl dL_isAhead_126 (n := 127) rfl ?_
                refine g_aload hc 4 rfl dL_isAhead_127 (n := 129) rfl ?_
                refine g_aload hc 4 rfl dL_isAhead_129 (n := 131) rfl ?_
                refine g_iconst (v := nI 1) hc (by decide) dL_isAhead_131 (n := 132) rfl ?_
                refine n_iald (v := z 325) hc 2 rfl (by omega) (by decide) rfl dL_isAhead_132 (n := 133) rfl ?_
                refine g_iload hc 13 rfl dL_isAhead_133 (n := 135) rfl ?_
                refine g_aload hc 5 rfl dL_isAhead_135 (n := 137) rfl ?_
                refine g_aload hc 6 rfl dL_isAhead_137 (n := 139) rfl ?_
                refine g_aload hc 7 rfl dL_isAhead_139 (n := 141) rfl ?_
                refine g_callS (rest := []) (As := [.ref p0, .ref b0, .ref g0, .int (nI (z 325)), .int (nI k), .ref q_1, .ref q_2, .ref q_3]) (cells' := 3) (slots' := 113) hc (c_L_keptIf κ _ p0 b0 g0 (z 325) q_1 q_2 q_3 (nI k) z (fun k => z (52 + k)) (fun k => z (324 + k)) cq cw ce (va_up (fun k => z (52 + k)) k 0) hpz (show z 326 < 2 ^ 31 from hzx) hzb (bb_at hzb (by omega)) (by omega)) q_L_keptIf k_ml_RL_69 rfl rfl (jn_q (wr := []) [0, 1, 2, 3, 4, 5] [] rfl rfl rfl rfl (by decide)) ⟨⟨by decide, by decide⟩, by decide, by decide⟩ (Nat.le_of_ble_eq_true rfl) rfl rfl dL_isAhead_141 (n := 144) rfl (fun vv ww hp => ?_)
                obtain ⟨rr, rfl, w2_29, rfl, rfl⟩ := hp
                refine ⟨_, rfl, ?_⟩
                refine g_ws (ws' := ([(p0, aI κ 52 z), (b0, aI κ 52 (fun k => z (52 + k))), (g0, aI κ 9 (fun k => z (324 + k))), (q_1, aI κ 52 ((rit (va_up (fun k => z (52 + k)) k 0) z ((fun k => z (324 + k)) 2) (z 325)).2)), (q_2, aI κ 52 w2_29), (q_3, aI κ 9 (va_up (fun k => z (324 + k)) 2 (rit (va_up (fun k => z (52 + k)) k 0) z ((fun k => z (324 + k)) 2) (z 325)).1))] ++ w0)) rfl ?_
                refine g_st (st' := [.int (nI (kp z (rit (va_up (fun k => z (52 + k)) k 0) z ((fun k => z (324 + k)) 2) (z 325)).2))]) rfl ?_
                refine g_top (y := nI (wbk z k)) (rfl) ?_
                have hkl := wbk_le z k
                refine g_istore (lv2 := [(0, .ref (a 0)), (1, .int x), (2, .ref p0), (3, .ref b0), (4, .ref g0), (5, .ref q_1), (6, .ref q_2), (7, .ref q_3), (8, .int (nI rf)), (9, .int (nI (kp z (ri z rf).2))), (10, .int (nI nd)), (11, .int (nI wo)), (12, .int (nI fe)), (13, .int (nI k)), (14, .int (nI (wbk z k)))]) hc (by decide) [1, 2, 3, 4, 5, 6, 7, 8, 9, 10, 11, 12, 13, 14, 0] rfl rfl dL_isAhead_144 (n := 146) rfl ?_
                refine g_iload hc 14 rfl dL_isAhead_146 (n := 148) rfl ?_
                refine g_iload hc 12 rfl dL_isAhead_148 (n := 150) rfl ?_
                refine n_icmp_ge hc (by omega) (by omega) dL_isAhead_150 (tgt := 158) (by decide) (n := 153) rfl (fun c_30 => ?_) (fun c_30 => ?_)
                · skip
                  refine g_iload hc 11 rfl dL_isAhead_158 (n := 160) rfl ?_
                  refine g_istore (lv2 := [(0, .ref (a 0)), (1, .int x), (2, .ref p0), (3, .ref b0), (4, .ref g0), (5, .ref q_1), (6, .ref q_2), (7, .ref q_3), (8, .int (nI rf)), (9, .int (nI (kp z (ri z rf).2))), (10, .int (nI nd)), (11, .int (nI wo)), (12, .int (nI fe)), (13, .int (nI k)), (14, .int (nI (wbk z k)))]) hc (by decide) [1, 2, 3, 4, 5, 6, 7, 8, 9, 10, 11, 0, 12, 13, 14] rfl rfl dL_isAhead_160 (n := 162) rfl ?_
                  refine g_iload hc 14 rfl dL_isAhead_162 (n := 164) rfl ?_
                  refine g_iload hc 12 rfl dL_isAhead_164 (n := 166) rfl ?_
                  refine n_icmp_ge hc (by omega) (by omega) dL_isAhead_166 (tgt := 174) (by decide) (n := 169) rfl (fun c_31 => ?_) (fun c_31 => ?_)
                  · skip
                    refine g_iload hc 12 rfl dL_isAhead_174 (n := 176) rfl ?_
                    refine g_istore (lv2 := [(0, .ref (a 0)), (1, .int x), (2, .ref p0), (3, .ref b0), (4, .ref g0), (5, .ref q_1), (6, .ref q_2), (7, .ref q_3), (8, .int (nI rf)), (9, .int (nI (kp z (ri z rf).2))), (10, .int (nI nd)), (11, .int (nI wo)), (12, .int (nI fe)), (13, .int (nI k)), (14, .int (nI (wbk z k)))]) hc (by decide) [1, 2, 3, 4, 5, 6, 7, 8, 9, 10, 11, 12, 0, 13, 14] rfl rfl dL_isAhead_176 (n := 178) rfl ?_
                    refine n_iinc (v := k + 1) (zk := 1) (lv2 := [(0, .ref (a 0)), (1, .int x), (2, .ref p0), (3, .ref b0), (4, .ref g0), (5, .ref q_1), (6, .ref q_2), (7, .ref q_3), (8, .int (nI rf)), (9, .int (nI (kp z (ri z rf).2))), (10, .int (nI nd)), (11, .int (nI wo)), (12, .int (nI fe)), (13, .int (nI (k + 1))), (14, .int (nI (wbk z k)))]) hc 13 rfl (by decide) rfl (by decide) [1, 2, 3, 4, 5, 6, 7, 8, 9, 10, 11, 12, 13, 0, 14] rfl rfl dL_isAhead_178 (n := 181) rfl ?_
                    refine g_goto (n := 108) hc dL_isAhead_181 (by decide) ?_
                    refine g_lsub (lv' := [(0, .ref (a 0)), (1, .int x), (2, .ref p0), (3, .ref b0), (4, .ref g0), (5, .ref q_1), (6, .ref q_2), (7, .ref q_3), (8, .int (nI rf)), (9, .int (nI (kp z (ri z rf).2))), (10, .int (nI nd)), (11, .int (nI wo)), (12, .int (nI fe)), (13, .int (nI (k + 1)))]) [0, 1, 2, 3, 4, 5, 6, 7, 8, 9, 10, 11, 12, 13] rfl ?_
                    exact ih_11 (k + 1) wo fe ((rit (va_up (fun k => z (52 + k)) k 0) z ((fun k => z (324 + k)) 2) (z 325)).2) w2_29 (va_up (fun k => z (324 + k)) 2 (rit (va_up (fun k => z (52 + k)) k 0) z ((fun k => z (324 + k)) 2) (z 325)).1) (by omega) (by rw [wbs_s]; first | (rw [if_neg (fun z9 => by have := z9.1; omega)]; exact hwo) | (rw [if_pos ⟨hb1, by omega⟩]) | (rw [if_neg (fun z9 => by have := z9.2; omega)]; exact hwo)) (by rw [wbs_s]; first | (rw [if_neg (fun z9 => by have := z9.1; omega)]; exact hfe) | (rw [if_pos ⟨hb1, by omega⟩]; exact Or.inl rfl) | (rw [if_neg (fun z9 => by have := z9.2; omega)]; exact hfe)) (by omega) (by omega)
                  · skip
                    refine g_iload hc 14 rfl dL_isAhead_169 (n := 171) rfl ?_
                    refine g_goto (n := 176) hc dL_isAhead_171 (by decide) ?_
                    refine g_istore (lv2 := [(0, .ref (a 0)), (1, .int x), (2, .ref p0), (3, .ref b0), (4, .ref g0), (5, .ref q_1), (6, .ref q_2), (7, .ref q_3), (8, .int (nI rf)), (9, .int (nI (kp z (ri z rf).2))), (10, .int (nI nd)), (11, .int (nI wo)), (12, .int (nI (wbk z k))), (13, .int (nI k)), (14, .int (nI (wbk z k)))]) hc (by decide) [1, 2, 3, 4, 5, 6, 7, 8, 9, 10, 11, 12, 0, 13, 14] rfl rfl dL_isAhead_176 (n := 178) rfl ?_
                    refine n_iinc (v := k + 1) (zk := 1) (lv2 := [(0, .ref (a 0)), (1, .int x), (2, .ref p0), (3, .ref b0), (4, .ref g0), (5, .ref q_1), (6, .ref q_2), (7, .ref q_3), (8, .int (nI rf)), (9, .int (nI (kp z (ri z rf).2))), (10, .int (nI nd)), (11, .int (nI wo)), (12, .int (nI (wbk z k))), (13, .int (nI (k + 1))), (14, .int (nI (wbk z k)))]) hc 13 rfl (by decide) rfl (by decide) [1, 2, 3, 4, 5, 6, 7, 8, 9, 10, 11, 12, 13, 0, 14] rfl rfl dL_isAhead_178 (n := 181) rfl ?_
                    refine g_goto (n := 108) hc dL_isAhead_181 (by decide) ?_
                    refine g_lsub (lv' := [(0, .ref (a 0)), (1, .int x), (2, .ref p0), (3, .ref b0), (4, .ref g0), (5, .ref q_1), (6, .ref q_2), (7, .ref q_3), (8, .int (nI rf)), (9, .int (nI (kp z (ri z rf).2))), (10, .int (nI nd)), (11, .int (nI wo)), (12, .int (nI (wbk z k))), (13, .int (nI (k + 1)))]) [0, 1, 2, 3, 4, 5, 6, 7, 8, 9, 10, 11, 12, 13] rfl ?_
                    exact ih_11 (k + 1) wo (wbk z k) ((rit (va_up (fun k => z (52 + k)) k 0) z ((fun k => z (324 + k)) 2) (z 325)).2) w2_29 (va_up (fun k => z (324 + k)) 2 (rit (va_up (fun k => z (52 + k)) k 0) z ((fun k => z (324 + k)) 2) (z 325)).1) (by omega) (by rw [wbs_s]; first | (rw [if_neg (fun z9 => by have := z9.1; omega)]; exact hwo) | (rw [if_pos ⟨hb1, by omega⟩]) | (rw [if_neg (fun z9 => by have := z9.2; omega)]; exact hwo)) (by rw [wbs_s]; first | (rw [if_neg (fun z9 => by have := z9.1; omega)]; exact hfe) | (rw [if_pos ⟨hb1, by omega⟩]; exact Or.inl rfl) | (rw [if_neg (fun z9 => by have := z9.2; omega)]; exact hfe)) (by omega) (by omega)
                · skip
                  refine g_iload hc 13 rfl dL_isAhead_153 (n := 155) rfl ?_
                  refine g_goto (n := 160) hc dL_isAhead_155 (by decide) ?_
                  refine g_istore (lv2 := [(0, .ref (a 0)), (1, .int x), (2, .ref p0), (3, .ref b0), (4, .ref g0), (5, .ref q_1), (6, .ref q_2), (7, .ref q_3), (8, .int (nI rf)), (9, .int (nI (kp z (ri z rf).2))), (10, .int (nI nd)), (11, .int (nI k)), (12, .int (nI fe)), (13, .int (nI k)), (14, .int (nI (wbk z k)))]) hc (by decide) [1, 2, 3, 4, 5, 6, 7, 8, 9, 10, 11, 0, 12, 13, 14] rfl rfl dL_isAhead_160 (n := 162) rfl ?_
                  refine g_iload hc 14 rfl dL_isAhead_162 (n := 164) rfl ?_
                  refine g_iload hc 12 rfl dL_isAhead_164 (n := 166) rfl ?_
                  refine n_icmp_ge hc (by omega) (by omega) dL_isAhead_166 (tgt := 174) (by decide) (n := 169) rfl (fun c_32 => ?_) (fun c_32 => ?_)
                  · skip
                    refine g_iload hc 12 rfl dL_isAhead_174 (n := 176) rfl ?_
                    refine g_istore (lv2 := [(0, .ref (a 0)), (1, .int x), (2, .ref p0), (3, .ref b0), (4, .ref g0), (5, .ref q_1), (6, .ref q_2), (7, .ref q_3), (8, .int (nI rf)), (9, .int (nI (kp z (ri z rf).2))), (10, .int (nI nd)), (11, .int (nI k)), (12, .int (nI fe)), (13, .int (nI k)), (14, .int (nI (wbk z k)))]) hc (by decide) [1, 2, 3, 4, 5, 6, 7, 8, 9, 10, 11, 12, 0, 13, 14] rfl rfl dL_isAhead_176 (n := 178) rfl ?_
                    refine n_iinc (v := k + 1) (zk := 1) (lv2 := [(0, .ref (a 0)), (1, .int x), (2, .ref p0), (3, .ref b0), (4, .ref g0), (5, .ref q_1), (6, .ref q_2), (7, .ref q_3), (8, .int (nI rf)), (9, .int (nI (kp z (ri z rf).2))), (10, .int (nI nd)), (11, .int (nI k)), (12, .int (nI fe)), (13, .int (nI (k + 1))), (14, .int (nI (wbk z k)))]) hc 13 rfl (by decide) rfl (by decide) [1, 2, 3, 4, 5, 6, 7, 8, 9, 10, 11, 12, 13, 0, 14] rfl rfl dL_isAhead_178 (n := 181) rfl ?_
                    refine g_goto (n := 108) hc dL_isAhead_181 (by decide) ?_
                    refine g_lsub (lv' := [(0, .ref (a 0)), (1, .int x), (2, .ref p0), (3, .ref b0), (4, .ref g0), (5, .ref q_1), (6, .ref q_2), (7, .ref q_3), (8, .int (nI rf)), (9, .int (nI (kp z (ri z rf).2))), (10, .int (nI nd)), (11, .int (nI k)), (12, .int (nI fe)), (13, .int (nI (k + 1)))]) [0, 1, 2, 3, 4, 5, 6, 7, 8, 9, 10, 11, 12, 13] rfl ?_
                    exact ih_11 (k + 1) k fe ((rit (va_up (fun k => z (52 + k)) k 0) z ((fun k => z (324 + k)) 2) (z 325)).2) w2_29 (va_up (fun k => z (324 + k)) 2 (rit (va_up (fun k => z (52 + k)) k 0) z ((fun k => z (324 + k)) 2) (z 325)).1) (by omega) (by rw [wbs_s]; first | (rw [if_neg (fun z9 => by have := z9.1; omega)]; exact hwo) | (rw [if_pos ⟨hb1, by omega⟩]) | (rw [if_neg (fun z9 => by have := z9.2; omega)]; exact hwo)) (by rw [wbs_s]; first | (rw [if_neg (fun z9 => by have := z9.1; omega)]; exact hfe) | (rw [if_pos ⟨hb1, by omega⟩]; exact Or.inl rfl) | (rw [if_neg (fun z9 => by have := z9.2; omega)]; exact hfe)) (by omega) (by omega)
                  · skip
                    refine g_iload hc 14 rfl dL_isAhead_169 (n := 171) rfl ?_
                    refine g_goto (n := 176) hc dL_isAhead_171 (by decide) ?_
                    refine g_istore (lv2 := [(0, .ref (a 0)), (1, .int x), (2, .ref p0), (3, .ref b0), (4, .ref g0), (5, .ref q_1), (6, .ref q_2), (7, .ref q_3), (8, .int (nI rf)), (9, .int (nI (kp z (ri z rf).2))), (10, .int (nI nd)), (11, .int (nI k)), (12, .int (nI (wbk z k))), (13, .int (nI k)), (14, .int (nI (wbk z k)))]) hc (by decide) [1, 2, 3, 4, 5, 6, 7, 8, 9, 10, 11, 12, 0, 13, 14] rfl rfl dL_isAhead_176 (n := 178) rfl ?_
                    refine n_iinc (v := k + 1) (zk := 1) (lv2 := [(0, .ref (a 0)), (1, .int x), (2, .ref p0), (3, .ref b0), (4, .ref g0), (5, .ref q_1), (6, .ref q_2), (7, .ref q_3), (8, .int (nI rf)), (9, .int (nI (kp z (ri z rf).2))), (10, .int (nI nd)), (11, .int (nI k)), (12, .int (nI (wbk z k))), (13, .int (nI (k + 1))), (14, .int (nI (wbk z k)))]) hc 13 rfl (by decide) rfl (by decide) [1, 2, 3, 4, 5, 6, 7, 8, 9, 10, 11, 12, 13, 0, 14] rfl rfl dL_isAhead_178 (n := 181) rfl ?_
                    refine g_goto (n := 108) hc dL_isAhead_181 (by decide) ?_
                    refine g_lsub (lv' := [(0, .ref (a 0)), (1, .int x), (2, .ref p0), (3, .ref b0), (4, .ref g0), (5, .ref q_1), (6, .ref q_2), (7, .ref q_3), (8, .int (nI rf)), (9, .int (nI (kp z (ri z rf).2))), (10, .int (nI nd)), (11, .int (nI k)), (12, .int (nI (wbk z k))), (13, .int (nI (k + 1)))]) [0, 1, 2, 3, 4, 5, 6, 7, 8, 9, 10, 11, 12, 13] rfl ?_
                    exact ih_11 (k + 1) k (wbk z k) ((rit (va_up (fun k => z (52 + k)) k 0) z ((fun k => z (324 + k)) 2) (z 325)).2) w2_29 (va_up (fun k => z (324 + k)) 2 (rit (va_up (fun k => z (52 + k)) k 0) z ((fun k => z (324 + k)) 2) (z 325)).1) (by omega) (by rw [wbs_s]; first | (rw [if_neg (fun z9 => by have := z9.1; omega)]; exact hwo) | (rw [if_pos ⟨hb1, by omega⟩]) | (rw [if_neg (fun z9 => by have := z9.2; omega)]; exact hwo)) (by rw [wbs_s]; first | (rw [if_neg (fun z9 => by have := z9.1; omega)]; exact hfe) | (rw [if_pos ⟨hb1, by omega⟩]; exact Or.inl rfl) | (rw [if_neg (fun z9 => by have := z9.2; omega)]; exact hfe)) (by omega) (by omega)
              · skip
                refine g_goto (n := 178) hc dL_isAhead_122 (by decide) ?_
                refine n_iinc (v := k + 1) (zk := 1) (lv2 := [(0, .ref (a 0)), (1, .int x), (2, .ref p0), (3, .ref b0), (4, .ref g0), (5, .ref q_1), (6, .ref q_2), (7, .ref q_3), (8, .int (nI rf)), (9, .int (nI (kp z (ri z rf).2))), (10, .int (nI nd)), (11, .int (nI wo)), (12, .int (nI fe)), (13, .int (nI (k + 1)))]) hc 13 rfl (by decide) rfl (by decide) [1, 2, 3, 4, 5, 6, 7, 8, 9, 10, 11, 12, 13, 0] rfl rfl dL_isAhead_178 (n := 181) rfl ?_
                refine g_goto (n := 108) hc dL_isAhead_181 (by decide) ?_
                exact ih_11 (k + 1) wo fe cq cw ce (by omega) (by rw [wbs_s]; first | (rw [if_neg (fun z9 => by have := z9.1; omega)]; exact hwo) | (rw [if_pos ⟨hb1, by omega⟩]) | (rw [if_neg (fun z9 => by have := z9.2; omega)]; exact hwo)) (by rw [wbs_s]; first | (rw [if_neg (fun z9 => by have := z9.1; omega)]; exact hfe) | (rw [if_pos ⟨hb1, by omega⟩]; exact Or.inl rfl) | (rw [if_neg (fun z9 => by have := z9.2; omega)]; exact hfe)) (by omega) (by omega)
        exact L_10 _ 0 4294967290 99 cq cw ce (by omega) (rfl) (Or.inr ⟨rfl, rfl⟩) (by omega) (Nat.lt_succ_self _)
      · skip
        refine g_aload_n hc 2 rfl rfl dL_isAhead_59 (n := 60) rfl ?_
        refine g_aload_n hc 3 rfl rfl dL_isAhead_60 (n := 61) rfl ?_
        refine g_aload hc 4 rfl dL_isAhead_61 (n := 63) rfl ?_
        refine g_iload hc 11 rfl dL_isAhead_63 (n := 65) rfl ?_
        refine g_iconst (v := nI 4294967295) hc (by decide) dL_isAhead_65 (n := 66) rfl ?_
        refine g_aload hc 5 rfl dL_isAhead_66 (n := 68) rfl ?_
        refine g_aload hc 6 rfl dL_isAhead_68 (n := 70) rfl ?_
        refine g_aload hc 7 rfl dL_isAhead_70 (n := 72) rfl ?_
        refine g_callS (rest := []) (As := [.ref p0, .ref b0, .ref g0, .int (nI i), .int (nI 4294967295), .ref q_1, .ref q_2, .ref q_3]) (cells' := 3) (slots' := 113) hc (c_L_keptIf κ _ p0 b0 g0 i q_1 q_2 q_3 (nI 4294967295) z (fun k => z (52 + k)) (fun k => z (324 + k)) cq cw ce (fun k => z (52 + k)) hpz (show z 326 < 2 ^ 31 from hzx) hzb (bb_no hzb) (by omega)) q_L_keptIf k_ml_RL_69 rfl rfl (jn_q (wr := []) [0, 1, 2, 3, 4, 5] [] rfl rfl rfl rfl (by decide)) ⟨⟨by decide, by decide⟩, by decide, by decide⟩ (Nat.le_of_ble_eq_true rfl) rfl rfl dL_isAhead_72 (n := 75) rfl (fun vv ww hp => ?_)
        obtain ⟨rr, rfl, w2_33, rfl, rfl⟩ := hp
        refine ⟨_, rfl, ?_⟩
        refine g_ws (ws' := ([(p0, aI κ 52 z), (b0, aI κ 52 (fun k => z (52 + k))), (g0, aI κ 9 (fun k => z (324 + k))), (q_1, aI κ 52 ((rit (fun k => z (52 + k)) z ((fun k => z (324 + k)) 2) i).2)), (q_2, aI κ 52 w2_33), (q_3, aI κ 9 (va_up (fun k => z (324 + k)) 2 (rit (fun k => z (52 + k)) z ((fun k => z (324 + k)) 2) i).1))] ++ w0)) rfl ?_
        refine g_st (st' := [.int (nI (kp z (rit (fun k => z (52 + k)) z ((fun k => z (324 + k)) 2) i).2))]) rfl ?_
        refine g_top (y := nI (kp z (ri z i).2)) (rfl) ?_
        have hkl := kp_le z (ri z i).2
        refine g_aload hc 4 rfl dL_isAhead_75 (n := 77) rfl ?_
        refine g_iconst (v := nI 0) hc (by decide) dL_isAhead_77 (n := 78) rfl ?_
        refine n_iald (v := z 324) hc 2 rfl (by omega) (by decide) rfl dL_isAhead_78 (n := 79) rfl ?_
        refine n_icmp_gt hc (by omega) (by omega) dL_isAhead_79 (tgt := 87) (by decide) (n := 82) rfl (fun c_34 => ?_) (fun c_34 => ?_)
        · skip
          refine g_iload hc 10 rfl dL_isAhead_87 (n := 89) rfl ?_
          refine g_istore (lv2 := [(0, .ref (a 0)), (1, .int x), (2, .ref p0), (3, .ref b0), (4, .ref g0), (5, .ref q_1), (6, .ref q_2), (7, .ref q_3), (8, .int (nI rf)), (9, .int (nI (kp z (ri z rf).2))), (10, .int (nI nd)), (11, .int (nI i))]) hc (by decide) [1, 2, 3, 4, 5, 6, 7, 8, 9, 10, 0, 11] rfl rfl dL_isAhead_89 (n := 91) rfl ?_
          refine n_idec (v := i - 1) (lv2 := [(0, .ref (a 0)), (1, .int x), (2, .ref p0), (3, .ref b0), (4, .ref g0), (5, .ref q_1), (6, .ref q_2), (7, .ref q_3), (8, .int (nI rf)), (9, .int (nI (kp z (ri z rf).2))), (10, .int (nI nd)), (11, .int (nI (i - 1)))]) hc 11 rfl (by decide) (by omega) (by decide) [1, 2, 3, 4, 5, 6, 7, 8, 9, 10, 11, 0] rfl rfl dL_isAhead_91 (n := 94) rfl ?_
          refine g_goto (n := 54) hc dL_isAhead_94 (by decide) ?_
          exact ih_7 (i - 1) nd ((rit (fun k => z (52 + k)) z ((fun k => z (324 + k)) 2) i).2) w2_33 (va_up (fun k => z (324 + k)) 2 (rit (fun k => z (52 + k)) z ((fun k => z (324 + k)) 2) i).1) (by omega) (by rw [nds_s z (by omega) hi]; first | exact (if_pos (by omega)).symm | exact hnd.trans (if_neg (by omega)).symm) (by omega)
        · skip
          refine g_iload hc 11 rfl dL_isAhead_82 (n := 84) rfl ?_
          refine g_goto (n := 89) hc dL_isAhead_84 (by decide) ?_
          refine g_istore (lv2 := [(0, .ref (a 0)), (1, .int x), (2, .ref p0), (3, .ref b0), (4, .ref g0), (5, .ref q_1), (6, .ref q_2), (7, .ref q_3), (8, .int (nI rf)), (9, .int (nI (kp z (ri z rf).2))), (10, .int (nI i)), (11, .int (nI i))]) hc (by decide) [1, 2, 3, 4, 5, 6, 7, 8, 9, 10, 0, 11] rfl rfl dL_isAhead_89 (n := 91) rfl ?_
          refine n_idec (v := i - 1) (lv2 := [(0, .ref (a 0)), (1, .int x), (2, .ref p0), (3, .ref b0), (4, .ref g0), (5, .ref q_1), (6, .ref q_2), (7, .ref q_3), (8, .int (nI rf)), (9, .int (nI (kp z (ri z rf).2))), (10, .int (nI i)), (11, .int (nI (i - 1)))]) hc 11 rfl (by decide) (by omega) (by decide) [1, 2, 3, 4, 5, 6, 7, 8, 9, 10, 11, 0] rfl rfl dL_isAhead_91 (n := 94) rfl ?_
          refine g_goto (n := 54) hc dL_isAhead_94 (by decide) ?_
          exact ih_7 (i - 1) i ((rit (fun k => z (52 + k)) z ((fun k => z (324 + k)) 2) i).2) w2_33 (va_up (fun k => z (324 + k)) 2 (rit (fun k => z (52 + k)) z ((fun k => z (324 + k)) 2) i).1) (by omega) (by rw [nds_s z (by omega) hi]; first | exact (if_pos (by omega)).symm | exact hnd.trans (if_neg (by omega)).symm) (by omega)
  exact L_6 _ 20 4294967290 ((rit (fun k => z (52 + k)) z ((fun k => z (324 + k)) 2) rf).2) w2_5 (va_up (fun k => z (324 + k)) 2 (rit (fun k => z (52 + k)) z ((fun k => z (324 + k)) 2) rf).1) (by omega) (rfl) (Nat.lt_succ_self _)
set_option maxHeartbeats 1000000 in
set_option maxRecDepth 100000 in
theorem c_L_cards (κ : Kp) (l : Launch) (a : Nat → Nat) (q : Nat → Nat) (z : Nat → Nat) (n : Nat) (w0 : va_W) (x : Int32) (y : Int32) (p0 : Nat) (b0 : Nat) (g0 : Nat) (hw0 : Oc κ a q z n w0) : CT κ l yL_cards cL_cards 11 (some .boolean) 5 134 2 104 [.ref (a 0), .int x, .int y, .ref p0, .ref b0, .ref g0] ([(p0, aI κ 52 z), (b0, aI κ 52 (fun k => z (52 + k))), (g0, aI κ 9 (fun k => z (324 + k)))] ++ w0) (PI (fun rr ww => ∃ z2 : Nat → Nat, ∃ n2 : Nat, ∃ w2 : va_W, (Oc κ a q z2 n2 w2) ∧ (∀ k, 104 ≤ k → k < 324 → z2 k = z k) ∧ rr = (nI 1) ∧ ww = [(p0, aI κ 52 z2), (b0, aI κ 52 (fun k => z2 (52 + k))), (g0, aI κ 9 (fun k => z2 (324 + k)))] ++ w2)) := by
  refine CT.go (by decide +kernel) (Nat.le_of_ble_eq_true rfl) ?_
  intro Γ A Q hl hc hret
  subst hl
  have hc : Cx κ Γ A cL_cards 11 RL "cards" (some .boolean) { frames := 5, cells := 2, slots := 104, locals := 134 } := hc
  refine g_lv (lv' := [(0, .ref (a 0)), (1, .int x), (2, .int y), (3, .ref p0), (4, .ref b0), (5, .ref g0)]) rfl ?_
  obtain ⟨hzb, hzf, hzc, hpz, hzh, hk1, hk2, hzx⟩ := hw0.zv
  obtain ⟨wh, hwh, ewh⟩ := and1_of y
  have hly := lw_lt y
  refine g_iload_n hc 1 rfl rfl dL_cards_0 (n := 1) rfl ?_
  refine g_bipush (v := nI 12) hc (by decide) dL_cards_1 (n := 3) rfl ?_
  refine g_callS (rest := []) (As := [.int x, .int (nI 12)]) (cells' := 0) (slots' := 0) hc (c_L_low κ _ x 12 (by decide) (by decide)) q_L_low k_ml_RL_66 rfl rfl (jn_q (wr := [(p0, aI κ 52 z), (b0, aI κ 52 (fun k => z (52 + k))), (g0, aI κ 9 (fun k => z (324 + k)))]) [] [0, 1, 2] rfl rfl rfl rfl (by decide)) ⟨⟨by decide, by decide⟩, by decide, by decide⟩ (Nat.le_of_ble_eq_true rfl) rfl rfl dL_cards_3 (n := 6) rfl (fun vv ww hp => ?_)
  obtain ⟨rr, rfl, rfl, rfl⟩ := hp
  refine ⟨_, rfl, ?_⟩
  refine g_ws (ws' := ([(p0, aI κ 52 z), (b0, aI κ 52 (fun k => z (52 + k))), (g0, aI κ 9 (fun k => z (324 + k)))] ++ w0)) rfl ?_
  refine g_st (st' := [.int (nI (lw x % 12))]) rfl ?_
  have lo_1 : lw x % 12 < 12 := Nat.mod_lt _ (by decide)
  refine g_istore (lv2 := [(0, .ref (a 0)), (1, .int x), (2, .int y), (3, .ref p0), (4, .ref b0), (5, .ref g0), (6, .int (nI (lw x % 12)))]) hc (by decide) [1, 2, 3, 4, 5, 6, 0] rfl rfl dL_cards_6 (n := 8) rfl ?_
  refine g_bipush (v := nI 52) hc (by decide) dL_cards_8 (n := 10) rfl ?_
  refine n_newI hc k_ac_int (by decide) ⟨by decide, by decide⟩ (cells' := 1) (slots' := 52) rfl rfl dL_cards_10 (n := 12) rfl (fun q_2 => ?_)
  refine g_re2 (w2 := ([(p0, aI κ 52 z), (b0, aI κ 52 (fun k => z (52 + k))), (g0, aI κ 9 (fun k => z (324 + k))), (q_2, aI κ 52 (fun _ => 0))] ++ w0)) (re_nw [(p0, aI κ 52 z), (b0, aI κ 52 (fun k => z (52 + k))), (g0, aI κ 9 (fun k => z (324 + k)))] w0 (q_2, aI κ 52 (fun _ => 0))) ?_
  refine g_astore (lv2 := [(0, .ref (a 0)), (1, .int x), (2, .int y), (3, .ref p0), (4, .ref b0), (5, .ref g0), (6, .int (nI (lw x % 12))), (7, .ref q_2)]) hc (by decide) [1, 2, 3, 4, 5, 6, 7, 0] rfl rfl dL_cards_12 (n := 14) rfl ?_
  refine g_aload_n hc 3 rfl rfl dL_cards_14 (n := 15) rfl ?_
  refine g_aload hc 7 rfl dL_cards_15 (n := 17) rfl ?_
  refine g_callS (rest := []) (As := [.ref p0, .ref q_2]) (cells' := 1) (slots' := 52) hc (c_L_copy52 κ _ p0 q_2 z (fun _ => 0) ) q_L_copy k_ml_RL_15 rfl rfl (jn_q (wr := [(b0, aI κ 52 (fun k => z (52 + k))), (g0, aI κ 9 (fun k => z (324 + k)))]) [0, 3] [1, 2] rfl rfl rfl rfl (by decide)) ⟨⟨by decide, by decide⟩, by decide, by decide⟩ (Nat.le_of_ble_eq_true rfl) rfl rfl dL_cards_17 (n := 20) rfl (fun vv ww hp => ?_)
  obtain ⟨rfl, rfl⟩ := hp
  refine ⟨_, rfl, ?_⟩
  refine g_ws (ws' := ([(b0, aI κ 52 (fun k => z (52 + k))), (g0, aI κ 9 (fun k => z (324 + k))), (p0, aI κ 52 z), (q_2, aI κ 52 z)] ++ w0)) rfl ?_
  refine g_st (st' := []) rfl ?_
  refine g_iload hc 6 rfl dL_cards_20 (n := 22) rfl ?_
  refine g_iconst (v := nI 3) hc (by decide) dL_cards_22 (n := 23) rfl ?_
  refine n_icmp_ge hc (by omega) (by omega) dL_cards_23 (tgt := 111) (by decide) (n := 26) rfl (fun c_3 => ?_) (fun c_3 => ?_)
  · skip
    refine g_iload hc 6 rfl dL_cards_111 (n := 113) rfl ?_
    refine g_bipush (v := nI 8) hc (by decide) dL_cards_113 (n := 115) rfl ?_
    refine n_icmp_ge hc (by omega) (by omega) dL_cards_115 (tgt := 220) (by decide) (n := 118) rfl (fun c_4 => ?_) (fun c_4 => ?_)
    · skip
      refine g_iload hc 6 rfl dL_cards_220 (n := 222) rfl ?_
      refine g_bipush (v := nI 8) hc (by decide) dL_cards_222 (n := 224) rfl ?_
      refine n_icmp_ne hc (by omega) (by omega) dL_cards_224 (tgt := 307) (by decide) (n := 227) rfl (fun c_5 => ?_) (fun c_5 => ?_)
      · skip
        refine g_iload hc 6 rfl dL_cards_307 (n := 309) rfl ?_
        refine g_bipush (v := nI 9) hc (by decide) dL_cards_309 (n := 311) rfl ?_
        refine n_icmp_ne hc (by omega) (by omega) dL_cards_311 (tgt := 384) (by decide) (n := 314) rfl (fun c_6 => ?_) (fun c_6 => ?_)
        · skip
          refine g_iload hc 6 rfl dL_cards_384 (n := 386) rfl ?_
          refine g_bipush (v := nI 10) hc (by decide) dL_cards_386 (n := 388) rfl ?_
          refine n_icmp_ne hc (by omega) (by omega) dL_cards_388 (tgt := 434) (by decide) (n := 391) rfl (fun c_7 => ?_) (fun c_7 => ?_)
          · skip
            refine g_iload_n hc 2 rfl rfl dL_cards_434 (n := 435) rfl ?_
            refine g_iconst (v := nI 1) hc (by decide) dL_cards_435 (n := 436) rfl ?_
            refine g_iand (v := (nI wh)) hc (ewh) dL_cards_436 (n := 437) rfl ?_
            rcases (show wh = 0 ∨ wh = 1 by omega) with rfl | rfl
            · skip
              refine g_istore (lv2 := [(0, .ref (a 0)), (1, .int x), (2, .int y), (3, .ref p0), (4, .ref b0), (5, .ref g0), (6, .int (nI (lw x % 12))), (7, .ref q_2), (8, .int (nI 0))]) hc (by decide) [1, 2, 3, 4, 5, 6, 7, 8, 0] rfl rfl dL_cards_437 (n := 439) rfl ?_
              refine g_aload hc 5 rfl dL_cards_439 (n := 441) rfl ?_
              refine g_iload hc 8 rfl dL_cards_441 (n := 443) rfl ?_
              refine n_iald (v := z 324) hc 1 rfl (by omega) (by decide) rfl dL_cards_443 (n := 444) rfl ?_
              refine g_istore (lv2 := [(0, .ref (a 0)), (1, .int x), (2, .int y), (3, .ref p0), (4, .ref b0), (5, .ref g0), (6, .int (nI (lw x % 12))), (7, .ref q_2), (8, .int (nI 0)), (9, .int (nI (z 324)))]) hc (by decide) [1, 2, 3, 4, 5, 6, 7, 8, 9, 0] rfl rfl dL_cards_444 (n := 446) rfl ?_
              refine g_aload hc 5 rfl dL_cards_446 (n := 448) rfl ?_
              refine g_iload hc 8 rfl dL_cards_448 (n := 450) rfl ?_
              refine g_iload hc 8 rfl dL_cards_450 (n := 452) rfl ?_
              refine n_if_ne hc (by omega) dL_cards_452 (tgt := 480) (by decide) (n := 455) rfl (fun c_8 => by (exfalso; revert c_8; first | omega | decide)) (fun c_8 => ?_)
              refine g_iload_n hc 2 rfl rfl dL_cards_455 (n := 456) rfl ?_
              refine g_iconst (v := nI 1) hc (by decide) dL_cards_456 (n := 457) rfl ?_
              refine g_ishr (v := y >>> ((nI 1) &&& 31)) hc rfl dL_cards_457 (n := 458) rfl ?_
              refine g_iload_n hc 2 rfl rfl dL_cards_458 (n := 459) rfl ?_
              refine g_bipush (v := nI 20) hc (by decide) dL_cards_459 (n := 461) rfl ?_
              refine g_ishr (v := y >>> ((nI 20) &&& 31)) hc rfl dL_cards_461 (n := 462) rfl ?_
              refine g_iconst (v := nI 1) hc (by decide) dL_cards_462 (n := 463) rfl ?_
              refine g_iand (v := (y >>> ((nI 20) &&& 31)) &&& (nI 1)) hc rfl dL_cards_463 (n := 464) rfl ?_
              refine g_if_ne hc dL_cards_464 (tgt := 472) (by decide) (n := 467) rfl (fun c_9 => ?_) (fun c_9 => ?_)
              · skip
                refine g_bipush (v := nI 52) hc (by decide) dL_cards_472 (n := 474) rfl ?_
                refine g_callS (rest := [.int (nI 0), .ref g0]) (As := [.int (y >>> ((nI 1) &&& 31)), .int (nI 52)]) (cells' := 1) (slots' := 52) hc (c_L_low κ _ (y >>> ((nI 1) &&& 31)) 52 (by decide) (by decide)) q_L_low k_ml_RL_66 rfl rfl (jn_q (wr := [(b0, aI κ 52 (fun k => z (52 + k))), (g0, aI κ 9 (fun k => z (324 + k))), (p0, aI κ 52 z), (q_2, aI κ 52 z)]) [] [0, 1, 2, 3] rfl rfl rfl rfl (by decide)) ⟨⟨by decide, by decide⟩, by decide, by decide⟩ (Nat.le_of_ble_eq_true rfl) rfl rfl dL_cards_474 (n := 477) rfl (fun vv ww hp => ?_)
                obtain ⟨rr, rfl, rfl, rfl⟩ := hp
                refine ⟨_, rfl, ?_⟩
                refine g_ws (ws' := ([(b0, aI κ 52 (fun k => z (52 + k))), (g0, aI κ 9 (fun k => z (324 + k))), (p0, aI κ 52 z), (q_2, aI κ 52 z)] ++ w0)) rfl ?_
                refine g_st (st' := [.int (nI (lw (y >>> ((nI 1) &&& 31)) % 52)), .int (nI 0), .ref g0]) rfl ?_
                have lo_10 : lw (y >>> ((nI 1) &&& 31)) % 52 < 52 := Nat.mod_lt _ (by decide)
                refine g_goto (n := 490) hc dL_cards_477 (by decide) ?_
                refine n_iast (ws' := ([(b0, aI κ 52 (fun k => z (52 + k))), (g0, aI κ 9 (va_up (fun k => z (324 + k)) 0 (lw (y >>> ((nI 1) &&& 31)) % 52))), (p0, aI κ 52 z), (q_2, aI κ 52 z)] ++ w0)) hc 1 rfl (by omega) (by decide) rfl dL_cards_490 (n := 491) rfl ?_
                refine g_aload_n hc 0 rfl rfl dL_cards_491 (n := 492) rfl ?_
                refine g_iload hc 8 rfl dL_cards_492 (n := 494) rfl ?_
                refine g_aload hc 5 rfl dL_cards_494 (n := 496) rfl ?_
                refine g_iload hc 8 rfl dL_cards_496 (n := 498) rfl ?_
                refine n_iald (v := lw (y >>> ((nI 1) &&& 31)) % 52) hc 1 rfl (by omega) (by decide) (va_up_self _ _ _) dL_cards_498 (n := 499) rfl ?_
                refine g_cls (As := [.int (nI 0), .int (nI (lw (y >>> ((nI 1) &&& 31)) % 52))]) (rest := []) hc (s_set_ok0 hw0 (lw (y >>> ((nI 1) &&& 31)) % 52) (by omega) (by omega)) q_X4_set k_ml_RL_98 rfl rfl (Oc.rc hw0) vw_4 ⟨⟨by decide, by decide⟩, by decide, by decide⟩ (Nat.le_of_ble_eq_true rfl) dL_cards_499 (n := 502) rfl (fun w_11 hw_12 => ?_)
                refine g_iload hc 9 rfl dL_cards_502 (n := 504) rfl ?_
                refine g_icmp_ne hc dL_cards_504 (tgt := 545) (by decide) (n := 507) rfl (fun e => absurd rfl e) (fun _ => ?_)
                refine g_aload_n hc 0 rfl rfl dL_cards_507 (n := 508) rfl ?_
                refine g_iconst (v := nI 1) hc (by decide) dL_cards_508 (n := 509) rfl ?_
                refine g_iconst (v := nI 0) hc (by decide) dL_cards_509 (n := 510) rfl ?_
                refine g_cls (As := [.int (nI 1), .int (nI 0)]) (rest := []) hc (s_set_er4 hw_12 0 (Or.inl rfl) (by decide)) q_X4_set k_ml_RL_98 rfl rfl (Oc.rc hw_12) vw_4 ⟨⟨by decide, by decide⟩, by decide, by decide⟩ (Nat.le_of_ble_eq_true rfl) dL_cards_510 (n := 513) rfl (fun w_13 hw_14 => ?_)
                refine g_bipush (v := nI 4294967294) hc (by decide) dL_cards_513 (n := 515) rfl ?_
                refine g_icmp_ne hc dL_cards_515 (tgt := 545) (by decide) (n := 518) rfl (fun e => absurd rfl e) (fun _ => ?_)
                refine g_aload_n hc 0 rfl rfl dL_cards_518 (n := 519) rfl ?_
                refine g_iconst (v := nI 0) hc (by decide) dL_cards_519 (n := 520) rfl ?_
                refine g_bipush (v := nI 52) hc (by decide) dL_cards_520 (n := 522) rfl ?_
                refine g_cls (As := [.int (nI 0), .int (nI 52)]) (rest := []) hc (s_set_er2 hw_14 (nI 52) (by decide)) q_X4_set k_ml_RL_98 rfl rfl (Oc.rc hw_14) vw_4 ⟨⟨by decide, by decide⟩, by decide, by decide⟩ (Nat.le_of_ble_eq_true rfl) dL_cards_522 (n := 525) rfl (fun w_15 hw_16 => ?_)
                refine g_bipush (v := nI 4294967294) hc (by decide) dL_cards_525 (n := 527) rfl ?_
                refine g_icmp_ne hc dL_cards_527 (tgt := 545) (by decide) (n := 530) rfl (fun e => absurd rfl e) (fun _ => ?_)
                refine g_aload_n hc 0 rfl rfl dL_cards_530 (n := 531) rfl ?_
                refine g_iconst (v := nI 2) hc (by decide) dL_cards_531 (n := 532) rfl ?_
                refine g_iconst (v := nI 1) hc (by decide) dL_cards_532 (n := 533) rfl ?_
                refine g_cls (As := [.int (nI 2), .int (nI 1)]) (rest := []) hc (s_set_er1 hw_16 (nI 2) (nI 1) (by decide)) q_X4_set k_ml_RL_98 rfl rfl (Oc.rc hw_16) vw_4 ⟨⟨by decide, by decide⟩, by decide, by decide⟩ (Nat.le_of_ble_eq_true rfl) dL_cards_533 (n := 536) rfl (fun w_17 hw_18 => ?_)
                refine g_bipush (v := nI 4294967294) hc (by decide) dL_cards_536 (n := 538) rfl ?_
                refine g_icmp_ne hc dL_cards_538 (tgt := 545) (by decide) (n := 541) rfl (fun e => absurd rfl e) (fun _ => ?_)
                refine g_iconst (v := nI 1) hc (by decide) dL_cards_541 (n := 542) rfl ?_
                refine g_goto (n := 546) hc dL_cards_542 (by decide) ?_
                refine g_arr (ws' := ([(b0, aI κ 52 (fun k => z (52 + k))), (g0, aI κ 9 (va_up (fun k => z (324 + k)) 0 (lw (y >>> ((nI 1) &&& 31)) % 52))), (p0, aI κ 52 (va_up z 324 (lw (y >>> ((nI 1) &&& 31)) % 52))), (q_2, aI κ 52 z)] ++ w_17)) (f := z) (g := va_up z 324 (lw (y >>> ((nI 1) &&& 31)) % 52)) 2 rfl (fun k hk => by rw [va_up_ne _ _ (by omega)]) rfl ?_
                refine g_arr (ws' := ([(b0, aI κ 52 (fun k => va_up z 324 (lw (y >>> ((nI 1) &&& 31)) % 52) (52 + k))), (g0, aI κ 9 (va_up (fun k => z (324 + k)) 0 (lw (y >>> ((nI 1) &&& 31)) % 52))), (p0, aI κ 52 (va_up z 324 (lw (y >>> ((nI 1) &&& 31)) % 52))), (q_2, aI κ 52 z)] ++ w_17)) (f := fun k => z (52 + k)) (g := fun k => va_up z 324 (lw (y >>> ((nI 1) &&& 31)) % 52) (52 + k)) 0 rfl (fun k hk => by show _ = va_up z 324 (lw (y >>> ((nI 1) &&& 31)) % 52) (52 + k); rw [va_up_ne _ _ (by omega)]) rfl ?_
                refine g_arr (ws' := ([(b0, aI κ 52 (fun k => va_up z 324 (lw (y >>> ((nI 1) &&& 31)) % 52) (52 + k))), (g0, aI κ 9 (fun k => va_up z 324 (lw (y >>> ((nI 1) &&& 31)) % 52) (324 + k))), (p0, aI κ 52 (va_up z 324 (lw (y >>> ((nI 1) &&& 31)) % 52))), (q_2, aI κ 52 z)] ++ w_17)) (f := va_up (fun k => z (324 + k)) 0 (lw (y >>> ((nI 1) &&& 31)) % 52)) (g := fun k => va_up z 324 (lw (y >>> ((nI 1) &&& 31)) % 52) (324 + k)) 1 rfl (fun k hk => by show _ = va_up z 324 (lw (y >>> ((nI 1) &&& 31)) % 52) (324 + k); unfold va_up; (repeat' split) <;> first | rfl | (exfalso; omega)) rfl ?_
                refine g_subq (X' := [(p0, aI κ 52 (va_up z 324 (lw (y >>> ((nI 1) &&& 31)) % 52))), (b0, aI κ 52 (fun k => va_up z 324 (lw (y >>> ((nI 1) &&& 31)) % 52) (52 + k))), (g0, aI κ 9 (fun k => va_up z 324 (lw (y >>> ((nI 1) &&& 31)) % 52) (324 + k)))]) [2, 0, 1] rfl rfl ?_
                refine hret.2.1 _ _ _ _ _ _ _ rfl rfl (by decide) (by decide) dL_cards_546 ?_
                exact ⟨_, rfl, (va_up z 324 (lw (y >>> ((nI 1) &&& 31)) % 52)), (rn n), w_17, (hw_18), (fun k h1 h2 => va_up_ne _ _ (by omega)), rfl, rfl⟩
              · skip
                refine g_bipush (v := nI 12) hc (by decide) dL_cards_467 (n := 469) rfl ?_
                refine g_goto (n := 474) hc dL_cards_469 (by decide) ?_
                refine g_callS (rest := [.int (nI 0), .ref g0]) (As := [.int (y >>> ((nI 1) &&& 31)), .int (nI 12)]) (cells' := 1) (slots' := 52) hc (c_L_low κ _ (y >>> ((nI 1) &&& 31)) 12 (by decide) (by decide)) q_L_low k_ml_RL_66 rfl rfl (jn_q (wr := [(b0, aI κ 52 (fun k => z (52 + k))), (g0, aI κ 9 (fun k => z (324 + k))), (p0, aI κ 52 z), (q_2, aI κ 52 z)]) [] [0, 1, 2, 3] rfl rfl rfl rfl (by decide)) ⟨⟨by decide, by decide⟩, by decide, by decide⟩ (Nat.le_of_ble_eq_true rfl) rfl rfl dL_cards_474 (n := 477) rfl (fun vv ww hp => ?_)
                obtain ⟨rr, rfl, rfl, rfl⟩ := hp
                refine ⟨_, rfl, ?_⟩
                refine g_ws (ws' := ([(b0, aI κ 52 (fun k => z (52 + k))), (g0, aI κ 9 (fun k => z (324 + k))), (p0, aI κ 52 z), (q_2, aI κ 52 z)] ++ w0)) rfl ?_
                refine g_st (st' := [.int (nI (lw (y >>> ((nI 1) &&& 31)) % 12)), .int (nI 0), .ref g0]) rfl ?_
                have lo_19 : lw (y >>> ((nI 1) &&& 31)) % 12 < 12 := Nat.mod_lt _ (by decide)
                refine g_goto (n := 490) hc dL_cards_477 (by decide) ?_
                refine n_iast (ws' := ([(b0, aI κ 52 (fun k => z (52 + k))), (g0, aI κ 9 (va_up (fun k => z (324 + k)) 0 (lw (y >>> ((nI 1) &&& 31)) % 12))), (p0, aI κ 52 z), (q_2, aI κ 52 z)] ++ w0)) hc 1 rfl (by omega) (by decide) rfl dL_cards_490 (n := 491) rfl ?_
                refine g_aload_n hc 0 rfl rfl dL_cards_491 (n := 492) rfl ?_
                refine g_iload hc 8 rfl dL_cards_492 (n := 494) rfl ?_
                refine g_aload hc 5 rfl dL_cards_494 (n := 496) rfl ?_
                refine g_iload hc 8 rfl dL_cards_496 (n := 498) rfl ?_
                refine n_iald (v := lw (y >>> ((nI 1) &&& 31)) % 12) hc 1 rfl (by omega) (by decide) (va_up_self _ _ _) dL_cards_498 (n := 499) rfl ?_
                refine g_cls (As := [.int (nI 0), .int (nI (lw (y >>> ((nI 1) &&& 31)) % 12))]) (rest := []) hc (s_set_ok0 hw0 (lw (y >>> ((nI 1) &&& 31)) % 12) (by omega) (by omega)) q_X4_set k_ml_RL_98 rfl rfl (Oc.rc hw0) vw_4 ⟨⟨by decide, by decide⟩, by decide, by decide⟩ (Nat.le_of_ble_eq_true rfl) dL_cards_499 (n := 502) rfl (fun w_20 hw_21 => ?_)
                refine g_iload hc 9 rfl dL_cards_502 (n := 504) rfl ?_
                refine g_icmp_ne hc dL_cards_504 (tgt := 545) (by decide) (n := 507) rfl (fun e => absurd rfl e) (fun _ => ?_)
                refine g_aload_n hc 0 rfl rfl dL_cards_507 (n := 508) rfl ?_
                refine g_iconst (v := nI 1) hc (by decide) dL_cards_508 (n := 509) rfl ?_
                refine g_iconst (v := nI 0) hc (by decide) dL_cards_509 (n := 510) rfl ?_
                refine g_cls (As := [.int (nI 1), .int (nI 0)]) (rest := []) hc (s_set_er4 hw_21 0 (Or.inl rfl) (by decide)) q_X4_set k_ml_RL_98 rfl rfl (Oc.rc hw_21) vw_4 ⟨⟨by decide, by decide⟩, by decide, by decide⟩ (Nat.le_of_ble_eq_true rfl) dL_cards_510 (n := 513) rfl (fun w_22 hw_23 => ?_)
                refine g_bipush (v := nI 4294967294) hc (by decide) dL_cards_513 (n := 515) rfl ?_
                refine g_icmp_ne hc dL_cards_515 (tgt := 545) (by decide) (n := 518) rfl (fun e => absurd rfl e) (fun _ => ?_)
                refine g_aload_n hc 0 rfl rfl dL_cards_518 (n := 519) rfl ?_
                refine g_iconst (v := nI 0) hc (by decide) dL_cards_519 (n := 520) rfl ?_
                refine g_bipush (v := nI 52) hc (by decide) dL_cards_520 (n := 522) rfl ?_
                refine g_cls (As := [.int (nI 0), .int (nI 52)]) (rest := []) hc (s_set_er2 hw_23 (nI 52) (by decide)) q_X4_set k_ml_RL_98 rfl rfl (Oc.rc hw_23) vw_4 ⟨⟨by decide, by decide⟩, by decide, by decide⟩ (Nat.le_of_ble_eq_true rfl) dL_cards_522 (n := 525) rfl (fun w_24 hw_25 => ?_)
                refine g_bipush (v := nI 4294967294) hc (by decide) dL_cards_525 (n := 527) rfl ?_
                refine g_icmp_ne hc dL_cards_527 (tgt := 545) (by decide) (n := 530) rfl (fun e => absurd rfl e) (fun _ => ?_)
                refine g_aload_n hc 0 rfl rfl dL_cards_530 (n := 531) rfl ?_
                refine g_iconst (v := nI 2) hc (by decide) dL_cards_531 (n := 532) rfl ?_
                refine g_iconst (v := nI 1) hc (by decide) dL_cards_532 (n := 533) rfl ?_
                refine g_cls (As := [.int (nI 2), .int (nI 1)]) (rest := []) hc (s_set_er1 hw_25 (nI 2) (nI 1) (by decide)) q_X4_set k_ml_RL_98 rfl rfl (Oc.rc hw_25) vw_4 ⟨⟨by decide, by decide⟩, by decide, by decide⟩ (Nat.le_of_ble_eq_true rfl) dL_cards_533 (n := 536) rfl (fun w_26 hw_27 => ?_)
                refine g_bipush (v := nI 4294967294) hc (by decide) dL_cards_536 (n := 538) rfl ?_
                refine g_icmp_ne hc dL_cards_538 (tgt := 545) (by decide) (n := 541) rfl (fun e => absurd rfl e) (fun _ => ?_)
                refine g_iconst (v := nI 1) hc (by decide) dL_cards_541 (n := 542) rfl ?_
                refine g_goto (n := 546) hc dL_cards_542 (by decide) ?_
                refine g_arr (ws' := ([(b0, aI κ 52 (fun k => z (52 + k))), (g0, aI κ 9 (va_up (fun k => z (324 + k)) 0 (lw (y >>> ((nI 1) &&& 31)) % 12))), (p0, aI κ 52 (va_up z 324 (lw (y >>> ((nI 1) &&& 31)) % 12))), (q_2, aI κ 52 z)] ++ w_26)) (f := z) (g := va_up z 324 (lw (y >>> ((nI 1) &&& 31)) % 12)) 2 rfl (fun k hk => by rw [va_up_ne _ _ (by omega)]) rfl ?_
                refine g_arr (ws' := ([(b0, aI κ 52 (fun k => va_up z 324 (lw (y >>> ((nI 1) &&& 31)) % 12) (52 + k))), (g0, aI κ 9 (va_up (fun k => z (324 + k)) 0 (lw (y >>> ((nI 1) &&& 31)) % 12))), (p0, aI κ 52 (va_up z 324 (lw (y >>> ((nI 1) &&& 31)) % 12))), (q_2, aI κ 52 z)] ++ w_26)) (f := fun k => z (52 + k)) (g := fun k => va_up z 324 (lw (y >>> ((nI 1) &&& 31)) % 12) (52 + k)) 0 rfl (fun k hk => by show _ = va_up z 324 (lw (y >>> ((nI 1) &&& 31)) % 12) (52 + k); rw [va_up_ne _ _ (by omega)]) rfl ?_
                refine g_arr (ws' := ([(b0, aI κ 52 (fun k => va_up z 324 (lw (y >>> ((nI 1) &&& 31)) % 12) (52 + k))), (g0, aI κ 9 (fun k => va_up z 324 (lw (y >>> ((nI 1) &&& 31)) % 12) (324 + k))), (p0, aI κ 52 (va_up z 324 (lw (y >>> ((nI 1) &&& 31)) % 12))), (q_2, aI κ 52 z)] ++ w_26)) (f := va_up (fun k => z (324 + k)) 0 (lw (y >>> ((nI 1) &&& 31)) % 12)) (g := fun k => va_up z 324 (lw (y >>> ((nI 1) &&& 31)) % 12) (324 + k)) 1 rfl (fun k hk => by show _ = va_up z 324 (lw (y >>> ((nI 1) &&& 31)) % 12) (324 + k); unfold va_up; (repeat' split) <;> first | rfl | (exfalso; omega)) rfl ?_
                refine g_subq (X' := [(p0, aI κ 52 (va_up z 324 (lw (y >>> ((nI 1) &&& 31)) % 12))), (b0, aI κ 52 (fun k => va_up z 324 (lw (y >>> ((nI 1) &&& 31)) % 12) (52 + k))), (g0, aI κ 9 (fun k => va_up z 324 (lw (y >>> ((nI 1) &&& 31)) % 12) (324 + k)))]) [2, 0, 1] rfl rfl ?_
                refine hret.2.1 _ _ _ _ _ _ _ rfl rfl (by decide) (by decide) dL_cards_546 ?_
                exact ⟨_, rfl, (va_up z 324 (lw (y >>> ((nI 1) &&& 31)) % 12)), (rn n), w_26, (hw_27), (fun k h1 h2 => va_up_ne _ _ (by omega)), rfl, rfl⟩
            · skip
              refine g_istore (lv2 := [(0, .ref (a 0)), (1, .int x), (2, .int y), (3, .ref p0), (4, .ref b0), (5, .ref g0), (6, .int (nI (lw x % 12))), (7, .ref q_2), (8, .int (nI 1))]) hc (by decide) [1, 2, 3, 4, 5, 6, 7, 8, 0] rfl rfl dL_cards_437 (n := 439) rfl ?_
              refine g_aload hc 5 rfl dL_cards_439 (n := 441) rfl ?_
              refine g_iload hc 8 rfl dL_cards_441 (n := 443) rfl ?_
              refine n_iald (v := z 325) hc 1 rfl (by omega) (by decide) rfl dL_cards_443 (n := 444) rfl ?_
              refine g_istore (lv2 := [(0, .ref (a 0)), (1, .int x), (2, .int y), (3, .ref p0), (4, .ref b0), (5, .ref g0), (6, .int (nI (lw x % 12))), (7, .ref q_2), (8, .int (nI 1)), (9, .int (nI (z 325)))]) hc (by decide) [1, 2, 3, 4, 5, 6, 7, 8, 9, 0] rfl rfl dL_cards_444 (n := 446) rfl ?_
              refine g_aload hc 5 rfl dL_cards_446 (n := 448) rfl ?_
              refine g_iload hc 8 rfl dL_cards_448 (n := 450) rfl ?_
              refine g_iload hc 8 rfl dL_cards_450 (n := 452) rfl ?_
              refine n_if_ne hc (by omega) dL_cards_452 (tgt := 480) (by decide) (n := 455) rfl (fun c_28 => ?_) (fun c_28 => by (exfalso; revert c_28; first | omega | decide))
              refine g_iconst (v := nI 1) hc (by decide) dL_cards_480 (n := 481) rfl ?_
              refine g_iload_n hc 2 rfl rfl dL_cards_481 (n := 482) rfl ?_
              refine g_iconst (v := nI 1) hc (by decide) dL_cards_482 (n := 483) rfl ?_
              refine g_ishr (v := y >>> ((nI 1) &&& 31)) hc rfl dL_cards_483 (n := 484) rfl ?_
              refine g_bipush (v := nI 9) hc (by decide) dL_cards_484 (n := 486) rfl ?_
              refine g_callS (rest := [.int (nI 1), .int (nI 1), .ref g0]) (As := [.int (y >>> ((nI 1) &&& 31)), .int (nI 9)]) (cells' := 1) (slots' := 52) hc (c_L_low κ _ (y >>> ((nI 1) &&& 31)) 9 (by decide) (by decide)) q_L_low k_ml_RL_66 rfl rfl (jn_q (wr := [(b0, aI κ 52 (fun k => z (52 + k))), (g0, aI κ 9 (fun k => z (324 + k))), (p0, aI κ 52 z), (q_2, aI κ 52 z)]) [] [0, 1, 2, 3] rfl rfl rfl rfl (by decide)) ⟨⟨by decide, by decide⟩, by decide, by decide⟩ (Nat.le_of_ble_eq_true rfl) rfl rfl dL_cards_486 (n := 489) rfl (fun vv ww hp => ?_)
              obtain ⟨rr, rfl, rfl, rfl⟩ := hp
              refine ⟨_, rfl, ?_⟩
              refine g_ws (ws' := ([(b0, aI κ 52 (fun k => z (52 + k))), (g0, aI κ 9 (fun k => z (324 + k))), (p0, aI κ 52 z), (q_2, aI κ 52 z)] ++ w0)) rfl ?_
              refine g_st (st' := [.int (nI (lw (y >>> ((nI 1) &&& 31)) % 9)), .int (nI 1), .int (nI 1), .ref g0]) rfl ?_
              have lo_29 : lw (y >>> ((nI 1) &&& 31)) % 9 < 9 := Nat.mod_lt _ (by decide)
              refine n_iadd (v := 1 + (lw (y >>> ((nI 1) &&& 31)) % 9)) hc rfl dL_cards_489 (n := 490) rfl ?_
              refine n_iast (ws' := ([(b0, aI κ 52 (fun k => z (52 + k))), (g0, aI κ 9 (va_up (fun k => z (324 + k)) 1 (1 + (lw (y >>> ((nI 1) &&& 31)) % 9)))), (p0, aI κ 52 z), (q_2, aI κ 52 z)] ++ w0)) hc 1 rfl (by omega) (by decide) rfl dL_cards_490 (n := 491) rfl ?_
              refine g_aload_n hc 0 rfl rfl dL_cards_491 (n := 492) rfl ?_
              refine g_iload hc 8 rfl dL_cards_492 (n := 494) rfl ?_
              refine g_aload hc 5 rfl dL_cards_494 (n := 496) rfl ?_
              refine g_iload hc 8 rfl dL_cards_496 (n := 498) rfl ?_
              refine n_iald (v := 1 + (lw (y >>> ((nI 1) &&& 31)) % 9)) hc 1 rfl (by omega) (by decide) (va_up_self _ _ _) dL_cards_498 (n := 499) rfl ?_
              refine g_cls (As := [.int (nI 1), .int (nI (1 + (lw (y >>> ((nI 1) &&& 31)) % 9)))]) (rest := []) hc (s_set_ok1 hw0 (1 + (lw (y >>> ((nI 1) &&& 31)) % 9)) (by omega) (by omega)) q_X4_set k_ml_RL_98 rfl rfl (Oc.rc hw0) vw_4 ⟨⟨by decide, by decide⟩, by decide, by decide⟩ (Nat.le_of_ble_eq_true rfl) dL_cards_499 (n := 502) rfl (fun w_30 hw_31 => ?_)
              refine g_iload hc 9 rfl dL_cards_502 (n := 504) rfl ?_
              refine g_icmp_ne hc dL_cards_504 (tgt := 545) (by decide) (n := 507) rfl (fun e => absurd rfl e) (fun _ => ?_)
              refine g_aload_n hc 0 rfl rfl dL_cards_507 (n := 508) rfl ?_
              refine g_iconst (v := nI 1) hc (by decide) dL_cards_508 (n := 509) rfl ?_
              refine g_iconst (v := nI 0) hc (by decide) dL_cards_509 (n := 510) rfl ?_
              refine g_cls (As := [.int (nI 1), .int (nI 0)]) (rest := []) hc (s_set_er4 hw_31 0 (Or.inl rfl) (by decide)) q_X4_set k_ml_RL_98 rfl rfl (Oc.rc hw_31) vw_4 ⟨⟨by decide, by decide⟩, by decide, by decide⟩ (Nat.le_of_ble_eq_true rfl) dL_cards_510 (n := 513) rfl (fun w_32 hw_33 => ?_)
              refine g_bipush (v := nI 4294967294) hc (by decide) dL_cards_513 (n := 515) rfl ?_
              refine g_icmp_ne hc dL_cards_515 (tgt := 545) (by decide) (n := 518) rfl (fun e => absurd rfl e) (fun _ => ?_)
              refine g_aload_n hc 0 rfl rfl dL_cards_518 (n := 519) rfl ?_
              refine g_iconst (v := nI 0) hc (by decide) dL_cards_519 (n := 520) rfl ?_
              refine g_bipush (v := nI 52) hc (by decide) dL_cards_520 (n := 522) rfl ?_
              refine g_cls (As := [.int (nI 0), .int (nI 52)]) (rest := []) hc (s_set_er2 hw_33 (nI 52) (by decide)) q_X4_set k_ml_RL_98 rfl rfl (Oc.rc hw_33) vw_4 ⟨⟨by decide, by decide⟩, by decide, by decide⟩ (Nat.le_of_ble_eq_true rfl) dL_cards_522 (n := 525) rfl (fun w_34 hw_35 => ?_)
              refine g_bipush (v := nI 4294967294) hc (by decide) dL_cards_525 (n := 527) rfl ?_
              refine g_icmp_ne hc dL_cards_527 (tgt := 545) (by decide) (n := 530) rfl (fun e => absurd rfl e) (fun _ => ?_)
              refine g_aload_n hc 0 rfl rfl dL_cards_530 (n := 531) rfl ?_
              refine g_iconst (v := nI 2) hc (by decide) dL_cards_531 (n := 532) rfl ?_
              refine g_iconst (v := nI 1) hc (by decide) dL_cards_532 (n := 533) rfl ?_
              refine g_cls (As := [.int (nI 2), .int (nI 1)]) (rest := []) hc (s_set_er1 hw_35 (nI 2) (nI 1) (by decide)) q_X4_set k_ml_RL_98 rfl rfl (Oc.rc hw_35) vw_4 ⟨⟨by decide, by decide⟩, by decide, by decide⟩ (Nat.le_of_ble_eq_true rfl) dL_cards_533 (n := 536) rfl (fun w_36 hw_37 => ?_)
              refine g_bipush (v := nI 4294967294) hc (by decide) dL_cards_536 (n := 538) rfl ?_
              refine g_icmp_ne hc dL_cards_538 (tgt := 545) (by decide) (n := 541) rfl (fun e => absurd rfl e) (fun _ => ?_)
              refine g_iconst (v := nI 1) hc (by decide) dL_cards_541 (n := 542) rfl ?_
              refine g_goto (n := 546) hc dL_cards_542 (by decide) ?_
              refine g_arr (ws' := ([(b0, aI κ 52 (fun k => z (52 + k))), (g0, aI κ 9 (va_up (fun k => z (324 + k)) 1 (1 + (lw (y >>> ((nI 1) &&& 31)) % 9)))), (p0, aI κ 52 (va_up z 325 (1 + (lw (y >>> ((nI 1) &&& 31)) % 9)))), (q_2, aI κ 52 z)] ++ w_36)) (f := z) (g := va_up z 325 (1 + (lw (y >>> ((nI 1) &&& 31)) % 9))) 2 rfl (fun k hk => by rw [va_up_ne _ _ (by omega)]) rfl ?_
              refine g_arr (ws' := ([(b0, aI κ 52 (fun k => va_up z 325 (1 + (lw (y >>> ((nI 1) &&& 31)) % 9)) (52 + k))), (g0, aI κ 9 (va_up (fun k => z (324 + k)) 1 (1 + (lw (y >>> ((nI 1) &&& 31)) % 9)))), (p0, aI κ 52 (va_up z 325 (1 + (lw (y >>> ((nI 1) &&& 31)) % 9)))), (q_2, aI κ 52 z)] ++ w_36)) (f := fun k => z (52 + k)) (g := fun k => va_up z 325 (1 + (lw (y >>> ((nI 1) &&& 31)) % 9)) (52 + k)) 0 rfl (fun k hk => by show _ = va_up z 325 (1 + (lw (y >>> ((nI 1) &&& 31)) % 9)) (52 + k); rw [va_up_ne _ _ (by omega)]) rfl ?_
              refine g_arr (ws' := ([(b0, aI κ 52 (fun k => va_up z 325 (1 + (lw (y >>> ((nI 1) &&& 31)) % 9)) (52 + k))), (g0, aI κ 9 (fun k => va_up z 325 (1 + (lw (y >>> ((nI 1) &&& 31)) % 9)) (324 + k))), (p0, aI κ 52 (va_up z 325 (1 + (lw (y >>> ((nI 1) &&& 31)) % 9)))), (q_2, aI κ 52 z)] ++ w_36)) (f := va_up (fun k => z (324 + k)) 1 (1 + (lw (y >>> ((nI 1) &&& 31)) % 9))) (g := fun k => va_up z 325 (1 + (lw (y >>> ((nI 1) &&& 31)) % 9)) (324 + k)) 1 rfl (fun k hk => by show _ = va_up z 325 (1 + (lw (y >>> ((nI 1) &&& 31)) % 9)) (324 + k); unfold va_up; (repeat' split) <;> first | rfl | (exfalso; omega)) rfl ?_
              refine g_subq (X' := [(p0, aI κ 52 (va_up z 325 (1 + (lw (y >>> ((nI 1) &&& 31)) % 9)))), (b0, aI κ 52 (fun k => va_up z 325 (1 + (lw (y >>> ((nI 1) &&& 31)) % 9)) (52 + k))), (g0, aI κ 9 (fun k => va_up z 325 (1 + (lw (y >>> ((nI 1) &&& 31)) % 9)) (324 + k)))]) [2, 0, 1] rfl rfl ?_
              refine hret.2.1 _ _ _ _ _ _ _ rfl rfl (by decide) (by decide) dL_cards_546 ?_
              exact ⟨_, rfl, (va_up z 325 (1 + (lw (y >>> ((nI 1) &&& 31)) % 9))), (rn n), w_36, (hw_37), (fun k h1 h2 => va_up_ne _ _ (by omega)), rfl, rfl⟩
          · skip
            refine g_aload hc 5 rfl dL_cards_391 (n := 393) rfl ?_
            refine g_iconst (v := nI 2) hc (by decide) dL_cards_393 (n := 394) rfl ?_
            refine n_iald (v := z 326) hc 1 rfl (by omega) (by decide) rfl dL_cards_394 (n := 395) rfl ?_
            refine g_istore (lv2 := [(0, .ref (a 0)), (1, .int x), (2, .int y), (3, .ref p0), (4, .ref b0), (5, .ref g0), (6, .int (nI (lw x % 12))), (7, .ref q_2), (8, .int (nI (z 326)))]) hc (by decide) [1, 2, 3, 4, 5, 6, 7, 8, 0] rfl rfl dL_cards_395 (n := 397) rfl ?_
            refine g_aload hc 5 rfl dL_cards_397 (n := 399) rfl ?_
            refine g_iconst (v := nI 2) hc (by decide) dL_cards_399 (n := 400) rfl ?_
            refine g_iload_n hc 2 rfl rfl dL_cards_400 (n := 401) rfl ?_
            refine g_ldc (v2 := nI 2147483647) hc k_kc_RL_8 (by decide) dL_cards_401 (n := 403) rfl ?_
            refine g_iand (v := (nI (lw y))) hc (lw_e y) dL_cards_403 (n := 404) rfl ?_
            refine n_iast (ws' := ([(b0, aI κ 52 (fun k => z (52 + k))), (g0, aI κ 9 (va_up (fun k => z (324 + k)) 2 (lw y))), (p0, aI κ 52 z), (q_2, aI κ 52 z)] ++ w0)) hc 1 rfl (by omega) (by decide) rfl dL_cards_404 (n := 405) rfl ?_
            refine g_aload_n hc 0 rfl rfl dL_cards_405 (n := 406) rfl ?_
            refine g_aload hc 5 rfl dL_cards_406 (n := 408) rfl ?_
            refine g_iconst (v := nI 2) hc (by decide) dL_cards_408 (n := 409) rfl ?_
            refine n_iald (v := lw y) hc 1 rfl (by omega) (by decide) (va_up_self _ _ _) dL_cards_409 (n := 410) rfl ?_
            refine g_cls (As := [.int (nI (lw y))]) (rest := []) hc (s_seed_ok hw0 (lw y) hly) q_X4_seed k_ml_RL_95 rfl rfl (Oc.rc hw0) vw_4 ⟨⟨by decide, by decide⟩, by decide, by decide⟩ (Nat.le_of_ble_eq_true rfl) dL_cards_410 (n := 413) rfl (fun w_38 hw_39 => ?_)
            refine g_iload hc 8 rfl dL_cards_413 (n := 415) rfl ?_
            refine g_icmp_ne hc dL_cards_415 (tgt := 432) (by decide) (n := 418) rfl (fun e => absurd rfl e) (fun _ => ?_)
            refine g_aload_n hc 0 rfl rfl dL_cards_418 (n := 419) rfl ?_
            refine g_iconst (v := nI 4294967295) hc (by decide) dL_cards_419 (n := 420) rfl ?_
            refine g_cls (As := [.int (nI 4294967295)]) (rest := []) hc (s_seed_er hw_39 (nI 4294967295) (by decide)) q_X4_seed k_ml_RL_95 rfl rfl (Oc.rc hw_39) vw_4 ⟨⟨by decide, by decide⟩, by decide, by decide⟩ (Nat.le_of_ble_eq_true rfl) dL_cards_420 (n := 423) rfl (fun w_40 hw_41 => ?_)
            refine g_bipush (v := nI 4294967294) hc (by decide) dL_cards_423 (n := 425) rfl ?_
            refine g_icmp_ne hc dL_cards_425 (tgt := 432) (by decide) (n := 428) rfl (fun e => absurd rfl e) (fun _ => ?_)
            refine g_iconst (v := nI 1) hc (by decide) dL_cards_428 (n := 429) rfl ?_
            refine g_goto (n := 433) hc dL_cards_429 (by decide) ?_
            refine g_arr (ws' := ([(b0, aI κ 52 (fun k => z (52 + k))), (g0, aI κ 9 (va_up (fun k => z (324 + k)) 2 (lw y))), (p0, aI κ 52 (va_up z 326 (lw y))), (q_2, aI κ 52 z)] ++ w_40)) (f := z) (g := va_up z 326 (lw y)) 2 rfl (fun k hk => by rw [va_up_ne _ _ (by omega)]) rfl ?_
            refine g_arr (ws' := ([(b0, aI κ 52 (fun k => va_up z 326 (lw y) (52 + k))), (g0, aI κ 9 (va_up (fun k => z (324 + k)) 2 (lw y))), (p0, aI κ 52 (va_up z 326 (lw y))), (q_2, aI κ 52 z)] ++ w_40)) (f := fun k => z (52 + k)) (g := fun k => va_up z 326 (lw y) (52 + k)) 0 rfl (fun k hk => by show _ = va_up z 326 (lw y) (52 + k); rw [va_up_ne _ _ (by omega)]) rfl ?_
            refine g_arr (ws' := ([(b0, aI κ 52 (fun k => va_up z 326 (lw y) (52 + k))), (g0, aI κ 9 (fun k => va_up z 326 (lw y) (324 + k))), (p0, aI κ 52 (va_up z 326 (lw y))), (q_2, aI κ 52 z)] ++ w_40)) (f := va_up (fun k => z (324 + k)) 2 (lw y)) (g := fun k => va_up z 326 (lw y) (324 + k)) 1 rfl (fun k hk => by show _ = va_up z 326 (lw y) (324 + k); unfold va_up; (repeat' split) <;> first | rfl | (exfalso; omega)) rfl ?_
            refine g_subq (X' := [(p0, aI κ 52 (va_up z 326 (lw y))), (b0, aI κ 52 (fun k => va_up z 326 (lw y) (52 + k))), (g0, aI κ 9 (fun k => va_up z 326 (lw y) (324 + k)))]) [2, 0, 1] rfl rfl ?_
            refine hret.2.1 _ _ _ _ _ _ _ rfl rfl (by decide) (by decide) dL_cards_433 ?_
            exact ⟨_, rfl, (va_up z 326 (lw y)), (rn n), w_40, (hw_41), (fun k h1 h2 => va_up_ne _ _ (by omega)), rfl, rfl⟩
        · skip
          refine g_iload_n hc 2 rfl rfl dL_cards_314 (n := 315) rfl ?_
          refine g_iconst (v := nI 3) hc (by decide) dL_cards_315 (n := 316) rfl ?_
          refine g_iand (v := y &&& (nI 3)) hc rfl dL_cards_316 (n := 317) rfl ?_
          refine g_if_ne hc dL_cards_317 (tgt := 384) (by decide) (n := 320) rfl (fun c_42 => ?_) (fun c_42 => ?_)
          · skip
            refine g_iload hc 6 rfl dL_cards_384 (n := 386) rfl ?_
            refine g_bipush (v := nI 10) hc (by decide) dL_cards_386 (n := 388) rfl ?_
            refine n_icmp_ne hc (by omega) (by omega) dL_cards_388 (tgt := 434) (by decide) (n := 391) rfl (fun c_43 => ?_) (fun c_43 => ?_)
            · skip
              refine g_iload_n hc 2 rfl rfl dL_cards_434 (n := 435) rfl ?_
              refine g_iconst (v := nI 1) hc (by decide) dL_cards_435 (n := 436) rfl ?_
              refine g_iand (v := (nI wh)) hc (ewh) dL_cards_436 (n := 437) rfl ?_
              rcases (show wh = 0 ∨ wh = 1 by omega) with rfl | rfl
              · skip
                refine g_istore (lv2 := [(0, .ref (a 0)), (1, .int x), (2, .int y), (3, .ref p0), (4, .ref b0), (5, .ref g0), (6, .int (nI (lw x % 12))), (7, .ref q_2), (8, .int (nI 0))]) hc (by decide) [1, 2, 3, 4, 5, 6, 7, 8, 0] rfl rfl dL_cards_437 (n := 439) rfl ?_
                refine g_aload hc 5 rfl dL_cards_439 (n := 441) rfl ?_
                refine g_iload hc 8 rfl dL_cards_441 (n := 443) rfl ?_
                refine n_iald (v := z 324) hc 1 rfl (by omega) (by decide) rfl dL_cards_443 (n := 444) rfl ?_
                refine g_istore (lv2 := [(0, .ref (a 0)), (1, .int x), (2, .int y), (3, .ref p0), (4, .ref b0), (5, .ref g0), (6, .int (nI (lw x % 12))), (7, .ref q_2), (8, .int (nI 0)), (9, .int (nI (z 324)))]) hc (by decide) [1, 2, 3, 4, 5, 6, 7, 8, 9, 0] rfl rfl dL_cards_444 (n := 446) rfl ?_
                refine g_aload hc 5 rfl dL_cards_446 (n := 448) rfl ?_
                refine g_iload hc 8 rfl dL_cards_448 (n := 450) rfl ?_
                refine g_iload hc 8 rfl dL_cards_450 (n := 452) rfl ?_
                refine n_if_ne hc (by omega) dL_cards_452 (tgt := 480) (by decide) (n := 455) rfl (fun c_44 => by (exfalso; revert c_44; first | omega | decide)) (fun c_44 => ?_)
                refine g_iload_n hc 2 rfl rfl dL_cards_455 (n := 456) rfl ?_
                refine g_iconst (v := nI 1) hc (by decide) dL_cards_456 (n := 457) rfl ?_
                refine g_ishr (v := y >>> ((nI 1) &&& 31)) hc rfl dL_cards_457 (n := 458) rfl ?_
                refine g_iload_n hc 2 rfl rfl dL_cards_458 (n := 459) rfl ?_
                refine g_bipush (v := nI 20) hc (by decide) dL_cards_459 (n := 461) rfl ?_
                refine g_ishr (v := y >>> ((nI 20) &&& 31)) hc rfl dL_cards_461 (n := 462) rfl ?_
                refine g_iconst (v := nI 1) hc (by decide) dL_cards_462 (n := 463) rfl ?_
                refine g_iand (v := (y >>> ((nI 20) &&& 31)) &&& (nI 1)) hc rfl dL_cards_463 (n := 464) rfl ?_
                refine g_if_ne hc dL_cards_464 (tgt := 472) (by decide) (n := 467) rfl (fun c_45 => ?_) (fun c_45 => ?_)
                · skip
                  refine g_bipush (v := nI 52) hc (by decide) dL_cards_472 (n := 474) rfl ?_
                  refine g_callS (rest := [.int (nI 0), .ref g0]) (As := [.int (y >>> ((nI 1) &&& 31)), .int (nI 52)]) (cells' := 1) (slots' := 52) hc (c_L_low κ _ (y >>> ((nI 1) &&& 31)) 52 (by decide) (by decide)) q_L_low k_ml_RL_66 rfl rfl (jn_q (wr := [(b0, aI κ 52 (fun k => z (52 + k))), (g0, aI κ 9 (fun k => z (324 + k))), (p0, aI κ 52 z), (q_2, aI κ 52 z)]) [] [0, 1, 2, 3] rfl rfl rfl rfl (by decide)) ⟨⟨by decide, by decide⟩, by decide, by decide⟩ (Nat.le_of_ble_eq_true rfl) rfl rfl dL_cards_474 (n := 477) rfl (fun vv ww hp => ?_)
                  obtain ⟨rr, rfl, rfl, rfl⟩ := hp
                  refine ⟨_, rfl, ?_⟩
                  refine g_ws (ws' := ([(b0, aI κ 52 (fun k => z (52 + k))), (g0, aI κ 9 (fun k => z (324 + k))), (p0, aI κ 52 z), (q_2, aI κ 52 z)] ++ w0)) rfl ?_
                  refine g_st (st' := [.int (nI (lw (y >>> ((nI 1) &&& 31)) % 52)), .int (nI 0), .ref g0]) rfl ?_
                  have lo_46 : lw (y >>> ((nI 1) &&& 31)) % 52 < 52 := Nat.mod_lt _ (by decide)
                  refine g_goto (n := 490) hc dL_cards_477 (by decide) ?_
                  refine n_iast (ws' := ([(b0, aI κ 52 (fun k => z (52 + k))), (g0, aI κ 9 (va_up (fun k => z (324 + k)) 0 (lw (y >>> ((nI 1) &&& 31)) % 52))), (p0, aI κ 52 z), (q_2, aI κ 52 z)] ++ w0)) hc 1 rfl (by omega) (by decide) rfl dL_cards_490 (n := 491) rfl ?_
                  refine g_aload_n hc 0 rfl rfl dL_cards_491 (n := 492) rfl ?_
                  refine g_iload hc 8 rfl dL_cards_492 (n := 494) rfl ?_
                  refine g_aload hc 5 rfl dL_cards_494 (n := 496) rfl ?_
                  refine g_iload hc 8 rfl dL_cards_496 (n := 498) rfl ?_
                  refine n_iald (v := lw (y >>> ((nI 1) &&& 31)) % 52) hc 1 rfl (by omega) (by decide) (va_up_self _ _ _) dL_cards_498 (n := 499) rfl ?_
                  refine g_cls (As := [.int (nI 0), .int (nI (lw (y >>> ((nI 1) &&& 31)) % 52))]) (rest := []) hc (s_set_ok0 hw0 (lw (y >>> ((nI 1) &&& 31)) % 52) (by omega) (by omega)) q_X4_set k_ml_RL_98 rfl rfl (Oc.rc hw0) vw_4 ⟨⟨by decide, by decide⟩, by decide, by decide⟩ (Nat.le_of_ble_eq_true rfl) dL_cards_499 (n := 502) rfl (fun w_47 hw_48 => ?_)
                  refine g_iload hc 9 rfl dL_cards_502 (n := 504) rfl ?_
                  refine g_icmp_ne hc dL_cards_504 (tgt := 545) (by decide) (n := 507) rfl (fun e => absurd rfl e) (fun _ => ?_)
                  refine g_aload_n hc 0 rfl rfl dL_cards_507 (n := 508) rfl ?_
                  refine g_iconst (v := nI 1) hc (by decide) dL_cards_508 (n := 509) rfl ?_
                  refine g_iconst (v := nI 0) hc (by decide) dL_cards_509 (n := 510) rfl ?_
                  refine g_cls (As := [.int (nI 1), .int (nI 0)]) (rest := []) hc (s_set_er4 hw_48 0 (Or.inl rfl) (by decide)) q_X4_set k_ml_RL_98 rfl rfl (Oc.rc hw_48) vw_4 ⟨⟨by decide, by decide⟩, by decide, by decide⟩ (Nat.le_of_ble_eq_true rfl) dL_cards_510 (n := 513) rfl (fun w_49 hw_50 => ?_)
                  refine g_bipush (v := nI 4294967294) hc (by decide) dL_cards_513 (n := 515) rfl ?_
                  refine g_icmp_ne hc dL_cards_515 (tgt := 545) (by decide) (n := 518) rfl (fun e => absurd rfl e) (fun _ => ?_)
                  refine g_aload_n hc 0 rfl rfl dL_cards_518 (n := 519) rfl ?_
                  refine g_iconst (v := nI 0) hc (by decide) dL_cards_519 (n := 520) rfl ?_
                  refine g_bipush (v := nI 52) hc (by decide) dL_cards_520 (n := 522) rfl ?_
                  refine g_cls (As := [.int (nI 0), .int (nI 52)]) (rest := []) hc (s_set_er2 hw_50 (nI 52) (by decide)) q_X4_set k_ml_RL_98 rfl rfl (Oc.rc hw_50) vw_4 ⟨⟨by decide, by decide⟩, by decide, by decide⟩ (Nat.le_of_ble_eq_true rfl) dL_cards_522 (n := 525) rfl (fun w_51 hw_52 => ?_)
                  refine g_bipush (v := nI 4294967294) hc (by decide) dL_cards_525 (n := 527) rfl ?_
                  refine g_icmp_ne hc dL_cards_527 (tgt := 545) (by decide) (n := 530) rfl (fun e => absurd rfl e) (fun _ => ?_)
                  refine g_aload_n hc 0 rfl rfl dL_cards_530 (n := 531) rfl ?_
                  refine g_iconst (v := nI 2) hc (by decide) dL_cards_531 (n := 532) rfl ?_
                  refine g_iconst (v := nI 1) hc (by decide) dL_cards_532 (n := 533) rfl ?_
                  refine g_cls (As := [.int (nI 2), .int (nI 1)]) (rest := []) hc (s_set_er1 hw_52 (nI 2) (nI 1) (by decide)) q_X4_set k_ml_RL_98 rfl rfl (Oc.rc hw_52) vw_4 ⟨⟨by decide, by decide⟩, by decide, by decide⟩ (Nat.le_of_ble_eq_true rfl) dL_cards_533 (n := 536) rfl (fun w_53 hw_54 => ?_)
                  refine g_bipush (v := nI 4294967294) hc (by decide) dL_cards_536 (n := 538) rfl ?_
                  refine g_icmp_ne hc dL_cards_538 (tgt := 545) (by decide) (n := 541) rfl (fun e => absurd rfl e) (fun _ => ?_)
                  refine g_iconst (v := nI 1) hc (by decide) dL_cards_541 (n := 542) rfl ?_
                  refine g_goto (n := 546) hc dL_cards_542 (by decide) ?_
                  refine g_arr (ws' := ([(b0, aI κ 52 (fun k => z (52 + k))), (g0, aI κ 9 (va_up (fun k => z (324 + k)) 0 (lw (y >>> ((nI 1) &&& 31)) % 52))), (p0, aI κ 52 (va_up z 324 (lw (y >>> ((nI 1) &&& 31)) % 52))), (q_2, aI κ 52 z)] ++ w_53)) (f := z) (g := va_up z 324 (lw (y >>> ((nI 1) &&& 31)) % 52)) 2 rfl (fun k hk => by rw [va_up_ne _ _ (by omega)]) rfl ?_
                  refine g_arr (ws' := ([(b0, aI κ 52 (fun k => va_up z 324 (lw (y >>> ((nI 1) &&& 31)) % 52) (52 + k))), (g0, aI κ 9 (va_up (fun k => z (324 + k)) 0 (lw (y >>> ((nI 1) &&& 31)) % 52))), (p0, aI κ 52 (va_up z 324 (lw (y >>> ((nI 1) &&& 31)) % 52))), (q_2, aI κ 52 z)] ++ w_53)) (f := fun k => z (52 + k)) (g := fun k => va_up z 324 (lw (y >>> ((nI 1) &&& 31)) % 52) (52 + k)) 0 rfl (fun k hk => by show _ = va_up z 324 (lw (y >>> ((nI 1) &&& 31)) % 52) (52 + k); rw [va_up_ne _ _ (by omega)]) rfl ?_
                  refine g_arr (ws' := ([(b0, aI κ 52 (fun k => va_up z 324 (lw (y >>> ((nI 1) &&& 31)) % 52) (52 + k))), (g0, aI κ 9 (fun k => va_up z 324 (lw (y >>> ((nI 1) &&& 31)) % 52) (324 + k))), (p0, aI κ 52 (va_up z 324 (lw (y >>> ((nI 1) &&& 31)) % 52))), (q_2, aI κ 52 z)] ++ w_53)) (f := va_up (fun k => z (324 + k)) 0 (lw (y >>> ((nI 1) &&& 31)) % 52)) (g := fun k => va_up z 324 (lw (y >>> ((nI 1) &&& 31)) % 52) (324 + k)) 1 rfl (fun k hk => by show _ = va_up z 324 (lw (y >>> ((nI 1) &&& 31)) % 52) (324 + k); unfold va_up; (repeat' split) <;> first | rfl | (exfalso; omega)) rfl ?_
                  refine g_subq (X' := [(p0, aI κ 52 (va_up z 324 (lw (y >>> ((nI 1) &&& 31)) % 52))), (b0, aI κ 52 (fun k => va_up z 324 (lw (y >>> ((nI 1) &&& 31)) % 52) (52 + k))), (g0, aI κ 9 (fun k => va_up z 324 (lw (y >>> ((nI 1) &&& 31)) % 52) (324 + k)))]) [2, 0, 1] rfl rfl ?_
                  refine hret.2.1 _ _ _ _ _ _ _ rfl rfl (by decide) (by decide) dL_cards_546 ?_
                  exact ⟨_, rfl, (va_up z 324 (lw (y >>> ((nI 1) &&& 31)) % 52)), (rn n), w_53, (hw_54), (fun k h1 h2 => va_up_ne _ _ (by omega)), rfl, rfl⟩
                · skip
                  refine g_bipush (v := nI 12) hc (by decide) dL_cards_467 (n := 469) rfl ?_
                  refine g_goto (n := 474) hc dL_cards_469 (by decide) ?_
                  refine g_callS (rest := [.int (nI 0), .ref g0]) (As := [.int (y >>> ((nI 1) &&& 31)), .int (nI 12)]) (cells' := 1) (slots' := 52) hc (c_L_low κ _ (y >>> ((nI 1) &&& 31)) 12 (by decide) (by decide)) q_L_low k_ml_RL_66 rfl rfl (jn_q (wr := [(b0, aI κ 52 (fun k => z (52 + k))), (g0, aI κ 9 (fun k => z (324 + k))), (p0, aI κ 52 z), (q_2, aI κ 52 z)]) [] [0, 1, 2, 3] rfl rfl rfl rfl (by decide)) ⟨⟨by decide, by decide⟩, by decide, by decide⟩ (Nat.le_of_ble_eq_true rfl) rfl rfl dL_cards_474 (n := 477) rfl (fun vv ww hp => ?_)
                  obtain ⟨rr, rfl, rfl, rfl⟩ := hp
                  refine ⟨_, rfl, ?_⟩
                  refine g_ws (ws' := ([(b0, aI κ 52 (fun k => z (52 + k))), (g0, aI κ 9 (fun k => z (324 + k))), (p0, aI κ 52 z), (q_2, aI κ 52 z)] ++ w0)) rfl ?_
                  refine g_st (st' := [.int (nI (lw (y >>> ((nI 1) &&& 31)) % 12)), .int (nI 0), .ref g0]) rfl ?_
                  have lo_55 : lw (y >>> ((nI 1) &&& 31)) % 12 < 12 := Nat.mod_lt _ (by decide)
                  refine g_goto (n := 490) hc dL_cards_477 (by decide) ?_
                  refine n_iast (ws' := ([(b0, aI κ 52 (fun k => z (52 + k))), (g0, aI κ 9 (va_up (fun k => z (324 + k)) 0 (lw (y >>> ((nI 1) &&& 31)) % 12))), (p0, aI κ 52 z), (q_2, aI κ 52 z)] ++ w0)) hc 1 rfl (by omega) (by decide) rfl dL_cards_490 (n := 491) rfl ?_
                  refine g_aload_n hc 0 rfl rfl dL_cards_491 (n := 492) rfl ?_
                  refine g_iload hc 8 rfl dL_cards_492 (n := 494) rfl ?_
                  refine g_aload hc 5 rfl dL_cards_494 (n := 496) rfl ?_
                  refine g_iload hc 8 rfl dL_cards_496 (n := 498) rfl ?_
                  refine n_iald (v := lw (y >>> ((nI 1) &&& 31)) % 12) hc 1 rfl (by omega) (by decide) (va_up_self _ _ _) dL_cards_498 (n := 499) rfl ?_
                  refine g_cls (As := [.int (nI 0), .int (nI (lw (y >>> ((nI 1) &&& 31)) % 12))]) (rest := []) hc (s_set_ok0 hw0 (lw (y >>> ((nI 1) &&& 31)) % 12) (by omega) (by omega)) q_X4_set k_ml_RL_98 rfl rfl (Oc.rc hw0) vw_4 ⟨⟨by decide, by decide⟩, by decide, by decide⟩ (Nat.le_of_ble_eq_true rfl) dL_cards_499 (n := 502) rfl (fun w_56 hw_57 => ?_)
                  refine g_iload hc 9 rfl dL_cards_502 (n := 504) rfl ?_
                  refine g_icmp_ne hc dL_cards_504 (tgt := 545) (by decide) (n := 507) rfl (fun e => absurd rfl e) (fun _ => ?_)
                  refine g_aload_n hc 0 rfl rfl dL_cards_507 (n := 508) rfl ?_
                  refine g_iconst (v := nI 1) hc (by decide) dL_cards_508 (n := 509) rfl ?_
                  refine g_iconst (v := nI 0) hc (by decide) dL_cards_509 (n := 510) rfl ?_
                  refine g_cls (As := [.int (nI 1), .int (nI 0)]) (rest := []) hc (s_set_er4 hw_57 0 (Or.inl rfl) (by decide)) q_X4_set k_ml_RL_98 rfl rfl (Oc.rc hw_57) vw_4 ⟨⟨by decide, by decide⟩, by decide, by decide⟩ (Nat.le_of_ble_eq_true rfl) dL_cards_510 (n := 513) rfl (fun w_58 hw_59 => ?_)
                  refine g_bipush (v := nI 4294967294) hc (by decide) dL_cards_513 (n := 515) rfl ?_
                  refine g_icmp_ne hc dL_cards_515 (tgt := 545) (by decide) (n := 518) rfl (fun e => absurd rfl e) (fun _ => ?_)
                  refine g_aload_n hc 0 rfl rfl dL_cards_518 (n := 519) rfl ?_
                  refine g_iconst (v := nI 0) hc (by decide) dL_cards_519 (n := 520) rfl ?_
                  refine g_bipush (v := nI 52) hc (by decide) dL_cards_520 (n := 522) rfl ?_
                  refine g_cls (As := [.int (nI 0), .int (nI 52)]) (rest := []) hc (s_set_er2 hw_59 (nI 52) (by decide)) q_X4_set k_ml_RL_98 rfl rfl (Oc.rc hw_59) vw_4 ⟨⟨by decide, by decide⟩, by decide, by decide⟩ (Nat.le_of_ble_eq_true rfl) dL_cards_522 (n := 525) rfl (fun w_60 hw_61 => ?_)
                  refine g_bipush (v := nI 4294967294) hc (by decide) dL_cards_525 (n := 527) rfl ?_
                  refine g_icmp_ne hc dL_cards_527 (tgt := 545) (by decide) (n := 530) rfl (fun e => absurd rfl e) (fun _ => ?_)
                  refine g_aload_n hc 0 rfl rfl dL_cards_530 (n := 531) rfl ?_
                  refine g_iconst (v := nI 2) hc (by decide) dL_cards_531 (n := 532) rfl ?_
                  refine g_iconst (v := nI 1) hc (by decide) dL_cards_532 (n := 533) rfl ?_
                  refine g_cls (As := [.int (nI 2), .int (nI 1)]) (rest := []) hc (s_set_er1 hw_61 (nI 2) (nI 1) (by decide)) q_X4_set k_ml_RL_98 rfl rfl (Oc.rc hw_61) vw_4 ⟨⟨by decide, by decide⟩, by decide, by decide⟩ (Nat.le_of_ble_eq_true rfl) dL_cards_533 (n := 536) rfl (fun w_62 hw_63 => ?_)
                  refine g_bipush (v := nI 4294967294) hc (by decide) dL_cards_536 (n := 538) rfl ?_
                  refine g_icmp_ne hc dL_cards_538 (tgt := 545) (by decide) (n := 541) rfl (fun e => absurd rfl e) (fun _ => ?_)
                  refine g_iconst (v := nI 1) hc (by decide) dL_cards_541 (n := 542) rfl ?_
                  refine g_goto (n := 546) hc dL_cards_542 (by decide) ?_
                  refine g_arr (ws' := ([(b0, aI κ 52 (fun k => z (52 + k))), (g0, aI κ 9 (va_up (fun k => z (324 + k)) 0 (lw (y >>> ((nI 1) &&& 31)) % 12))), (p0, aI κ 52 (va_up z 324 (lw (y >>> ((nI 1) &&& 31)) % 12))), (q_2, aI κ 52 z)] ++ w_62)) (f := z) (g := va_up z 324 (lw (y >>> ((nI 1) &&& 31)) % 12)) 2 rfl (fun k hk => by rw [va_up_ne _ _ (by omega)]) rfl ?_
                  refine g_arr (ws' := ([(b0, aI κ 52 (fun k => va_up z 324 (lw (y >>> ((nI 1) &&& 31)) % 12) (52 + k))), (g0, aI κ 9 (va_up (fun k => z (324 + k)) 0 (lw (y >>> ((nI 1) &&& 31)) % 12))), (p0, aI κ 52 (va_up z 324 (lw (y >>> ((nI 1) &&& 31)) % 12))), (q_2, aI κ 52 z)] ++ w_62)) (f := fun k => z (52 + k)) (g := fun k => va_up z 324 (lw (y >>> ((nI 1) &&& 31)) % 12) (52 + k)) 0 rfl (fun k hk => by show _ = va_up z 324 (lw (y >>> ((nI 1) &&& 31)) % 12) (52 + k); rw [va_up_ne _ _ (by omega)]) rfl ?_
                  refine g_arr (ws' := ([(b0, aI κ 52 (fun k => va_up z 324 (lw (y >>> ((nI 1) &&& 31)) % 12) (52 + k))), (g0, aI κ 9 (fun k => va_up z 324 (lw (y >>> ((nI 1) &&& 31)) % 12) (324 + k))), (p0, aI κ 52 (va_up z 324 (lw (y >>> ((nI 1) &&& 31)) % 12))), (q_2, aI κ 52 z)] ++ w_62)) (f := va_up (fun k => z (324 + k)) 0 (lw (y >>> ((nI 1) &&& 31)) % 12)) (g := fun k => va_up z 324 (lw (y >>> ((nI 1) &&& 31)) % 12) (324 + k)) 1 rfl (fun k hk => by show _ = va_up z 324 (lw (y >>> ((nI 1) &&& 31)) % 12) (324 + k); unfold va_up; (repeat' split) <;> first | rfl | (exfalso; omega)) rfl ?_
                  refine g_subq (X' := [(p0, aI κ 52 (va_up z 324 (lw (y >>> ((nI 1) &&& 31)) % 12))), (b0, aI κ 52 (fun k => va_up z 324 (lw (y >>> ((nI 1) &&& 31)) % 12) (52 + k))), (g0, aI κ 9 (fun k => va_up z 324 (lw (y >>> ((nI 1) &&& 31)) % 12) (324 + k)))]) [2, 0, 1] rfl rfl ?_
                  refine hret.2.1 _ _ _ _ _ _ _ rfl rfl (by decide) (by decide) dL_cards_546 ?_
                  exact ⟨_, rfl, (va_up z 324 (lw (y >>> ((nI 1) &&& 31)) % 12)), (rn n), w_62, (hw_63), (fun k h1 h2 => va_up_ne _ _ (by omega)), rfl, rfl⟩
              · skip
                refine g_istore (lv2 := [(0, .ref (a 0)), (1, .int x), (2, .int y), (3, .ref p0), (4, .ref b0), (5, .ref g0), (6, .int (nI (lw x % 12))), (7, .ref q_2), (8, .int (nI 1))]) hc (by decide) [1, 2, 3, 4, 5, 6, 7, 8, 0] rfl rfl dL_cards_437 (n := 439) rfl ?_
                refine g_aload hc 5 rfl dL_cards_439 (n := 441) rfl ?_
                refine g_iload hc 8 rfl dL_cards_441 (n := 443) rfl ?_
                refine n_iald (v := z 325) hc 1 rfl (by omega) (by decide) rfl dL_cards_443 (n := 444) rfl ?_
                refine g_istore (lv2 := [(0, .ref (a 0)), (1, .int x), (2, .int y), (3, .ref p0), (4, .ref b0), (5, .ref g0), (6, .int (nI (lw x % 12))), (7, .ref q_2), (8, .int (nI 1)), (9, .int (nI (z 325)))]) hc (by decide) [1, 2, 3, 4, 5, 6, 7, 8, 9, 0] rfl rfl dL_cards_444 (n := 446) rfl ?_
                refine g_aload hc 5 rfl dL_cards_446 (n := 448) rfl ?_
                refine g_iload hc 8 rfl dL_cards_448 (n := 450) rfl ?_
                refine g_iload hc 8 rfl dL_cards_450 (n := 452) rfl ?_
                refine n_if_ne hc (by omega) dL_cards_452 (tgt := 480) (by decide) (n := 455) rfl (fun c_64 => ?_) (fun c_64 => by (exfalso; revert c_64; first | omega | decide))
                refine g_iconst (v := nI 1) hc (by decide) dL_cards_480 (n := 481) rfl ?_
                refine g_iload_n hc 2 rfl rfl dL_cards_481 (n := 482) rfl ?_
                refine g_iconst (v := nI 1) hc (by decide) dL_cards_482 (n := 483) rfl ?_
                refine g_ishr (v := y >>> ((nI 1) &&& 31)) hc rfl dL_cards_483 (n := 484) rfl ?_
                refine g_bipush (v := nI 9) hc (by decide) dL_cards_484 (n := 486) rfl ?_
                refine g_callS (rest := [.int (nI 1), .int (nI 1), .ref g0]) (As := [.int (y >>> ((nI 1) &&& 31)), .int (nI 9)]) (cells' := 1) (slots' := 52) hc (c_L_low κ _ (y >>> ((nI 1) &&& 31)) 9 (by decide) (by decide)) q_L_low k_ml_RL_66 rfl rfl (jn_q (wr := [(b0, aI κ 52 (fun k => z (52 + k))), (g0, aI κ 9 (fun k => z (324 + k))), (p0, aI κ 52 z), (q_2, aI κ 52 z)]) [] [0, 1, 2, 3] rfl rfl rfl rfl (by decide)) ⟨⟨by decide, by decide⟩, by decide, by decide⟩ (Nat.le_of_ble_eq_true rfl) rfl rfl dL_cards_486 (n := 489) rfl (fun vv ww hp => ?_)
                obtain ⟨rr, rfl, rfl, rfl⟩ := hp
                refine ⟨_, rfl, ?_⟩
                refine g_ws (ws' := ([(b0, aI κ 52 (fun k => z (52 + k))), (g0, aI κ 9 (fun k => z (324 + k))), (p0, aI κ 52 z), (q_2, aI κ 52 z)] ++ w0)) rfl ?_
                refine g_st (st' := [.int (nI (lw (y >>> ((nI 1) &&& 31)) % 9)), .int (nI 1), .int (nI 1), .ref g0]) rfl ?_
                have lo_65 : lw (y >>> ((nI 1) &&& 31)) % 9 < 9 := Nat.mod_lt _ (by decide)
                refine n_iadd (v := 1 + (lw (y >>> ((nI 1) &&& 31)) % 9)) hc rfl dL_cards_489 (n := 490) rfl ?_
                refine n_iast (ws' := ([(b0, aI κ 52 (fun k => z (52 + k))), (g0, aI κ 9 (va_up (fun k => z (324 + k)) 1 (1 + (lw (y >>> ((nI 1) &&& 31)) % 9)))), (p0, aI κ 52 z), (q_2, aI κ 52 z)] ++ w0)) hc 1 rfl (by omega) (by decide) rfl dL_cards_490 (n := 491) rfl ?_
                refine g_aload_n hc 0 rfl rfl dL_cards_491 (n := 492) rfl ?_
                refine g_iload hc 8 rfl dL_cards_492 (n := 494) rfl ?_
                refine g_aload hc 5 rfl dL_cards_494 (n := 496) rfl ?_
                refine g_iload hc 8 rfl dL_cards_496 (n := 498) rfl ?_
                refine n_iald (v := 1 + (lw (y >>> ((nI 1) &&& 31)) % 9)) hc 1 rfl (by omega) (by decide) (va_up_self _ _ _) dL_cards_498 (n := 499) rfl ?_
                refine g_cls (As := [.int (nI 1), .int (nI (1 + (lw (y >>> ((nI 1) &&& 31)) % 9)))]) (rest := []) hc (s_set_ok1 hw0 (1 + (lw (y >>> ((nI 1) &&& 31)) % 9)) (by omega) (by omega)) q_X4_set k_ml_RL_98 rfl rfl (Oc.rc hw0) vw_4 ⟨⟨by decide, by decide⟩, by decide, by decide⟩ (Nat.le_of_ble_eq_true rfl) dL_cards_499 (n := 502) rfl (fun w_66 hw_67 => ?_)
                refine g_iload hc 9 rfl dL_cards_502 (n := 504) rfl ?_
                refine g_icmp_ne hc dL_cards_504 (tgt := 545) (by decide) (n := 507) rfl (fun e => absurd rfl e) (fun _ => ?_)
                refine g_aload_n hc 0 rfl rfl dL_cards_507 (n := 508) rfl ?_
                refine g_iconst (v := nI 1) hc (by decide) dL_cards_508 (n := 509) rfl ?_
                refine g_iconst (v := nI 0) hc (by decide) dL_cards_509 (n := 510) rfl ?_
                refine g_cls (As := [.int (nI 1), .int (nI 0)]) (rest := []) hc (s_set_er4 hw_67 0 (Or.inl rfl) (by decide)) q_X4_set k_ml_RL_98 rfl rfl (Oc.rc hw_67) vw_4 ⟨⟨by decide, by decide⟩, by decide, by decide⟩ (Nat.le_of_ble_eq_true rfl) dL_cards_510 (n := 513) rfl (fun w_68 hw_69 => ?_)
                refine g_bipush (v := nI 4294967294) hc (by decide) dL_cards_513 (n := 515) rfl ?_
                refine g_icmp_ne hc dL_cards_515 (tgt := 545) (by decide) (n := 518) rfl (fun e => absurd rfl e) (fun _ => ?_)
                refine g_aload_n hc 0 rfl rfl dL_cards_518 (n := 519) rfl ?_
                refine g_iconst (v := nI 0) hc (by decide) dL_cards_519 (n := 520) rfl ?_
                refine g_bipush (v := nI 52) hc (by decide) dL_cards_520 (n := 522) rfl ?_
                refine g_cls (As := [.int (nI 0), .int (nI 52)]) (rest := []) hc (s_set_er2 hw_69 (nI 52) (by decide)) q_X4_set k_ml_RL_98 rfl rfl (Oc.rc hw_69) vw_4 ⟨⟨by decide, by decide⟩, by decide, by decide⟩ (Nat.le_of_ble_eq_true rfl) dL_cards_522 (n := 525) rfl (fun w_70 hw_71 => ?_)
                refine g_bipush (v := nI 4294967294) hc (by decide) dL_cards_525 (n := 527) rfl ?_
                refine g_icmp_ne hc dL_cards_527 (tgt := 545) (by decide) (n := 530) rfl (fun e => absurd rfl e) (fun _ => ?_)
                refine g_aload_n hc 0 rfl rfl dL_cards_530 (n := 531) rfl ?_
                refine g_iconst (v := nI 2) hc (by decide) dL_cards_531 (n := 532) rfl ?_
                refine g_iconst (v := nI 1) hc (by decide) dL_cards_532 (n := 533) rfl ?_
                refine g_cls (As := [.int (nI 2), .int (nI 1)]) (rest := []) hc (s_set_er1 hw_71 (nI 2) (nI 1) (by decide)) q_X4_set k_ml_RL_98 rfl rfl (Oc.rc hw_71) vw_4 ⟨⟨by decide, by decide⟩, by decide, by decide⟩ (Nat.le_of_ble_eq_true rfl) dL_cards_533 (n := 536) rfl (fun w_72 hw_73 => ?_)
                refine g_bipush (v := nI 4294967294) hc (by decide) dL_cards_536 (n := 538) rfl ?_
                refine g_icmp_ne hc dL_cards_538 (tgt := 545) (by decide) (n := 541) rfl (fun e => absurd rfl e) (fun _ => ?_)
                refine g_iconst (v := nI 1) hc (by decide) dL_cards_541 (n := 542) rfl ?_
                refine g_goto (n := 546) hc dL_cards_542 (by decide) ?_
                refine g_arr (ws' := ([(b0, aI κ 52 (fun k => z (52 + k))), (g0, aI κ 9 (va_up (fun k => z (324 + k)) 1 (1 + (lw (y >>> ((nI 1) &&& 31)) % 9)))), (p0, aI κ 52 (va_up z 325 (1 + (lw (y >>> ((nI 1) &&& 31)) % 9)))), (q_2, aI κ 52 z)] ++ w_72)) (f := z) (g := va_up z 325 (1 + (lw (y >>> ((nI 1) &&& 31)) % 9))) 2 rfl (fun k hk => by rw [va_up_ne _ _ (by omega)]) rfl ?_
                refine g_arr (ws' := ([(b0, aI κ 52 (fun k => va_up z 325 (1 + (lw (y >>> ((nI 1) &&& 31)) % 9)) (52 + k))), (g0, aI κ 9 (va_up (fun k => z (324 + k)) 1 (1 + (lw (y >>> ((nI 1) &&& 31)) % 9)))), (p0, aI κ 52 (va_up z 325 (1 + (lw (y >>> ((nI 1) &&& 31)) % 9)))), (q_2, aI κ 52 z)] ++ w_72)) (f := fun k => z (52 + k)) (g := fun k => va_up z 325 (1 + (lw (y >>> ((nI 1) &&& 31)) % 9)) (52 + k)) 0 rfl (fun k hk => by show _ = va_up z 325 (1 + (lw (y >>> ((nI 1) &&& 31)) % 9)) (52 + k); rw [va_up_ne _ _ (by omega)]) rfl ?_
                refine g_arr (ws' := ([(b0, aI κ 52 (fun k => va_up z 325 (1 + (lw (y >>> ((nI 1) &&& 31)) % 9)) (52 + k))), (g0, aI κ 9 (fun k => va_up z 325 (1 + (lw (y >>> ((nI 1) &&& 31)) % 9)) (324 + k))), (p0, aI κ 52 (va_up z 325 (1 + (lw (y >>> ((nI 1) &&& 31)) % 9)))), (q_2, aI κ 52 z)] ++ w_72)) (f := va_up (fun k => z (324 + k)) 1 (1 + (lw (y >>> ((nI 1) &&& 31)) % 9))) (g := fun k => va_up z 325 (1 + (lw (y >>> ((nI 1) &&& 31)) % 9)) (324 + k)) 1 rfl (fun k hk => by show _ = va_up z 325 (1 + (lw (y >>> ((nI 1) &&& 31)) % 9)) (324 + k); unfold va_up; (repeat' split) <;> first | rfl | (exfalso; omega)) rfl ?_
                refine g_subq (X' := [(p0, aI κ 52 (va_up z 325 (1 + (lw (y >>> ((nI 1) &&& 31)) % 9)))), (b0, aI κ 52 (fun k => va_up z 325 (1 + (lw (y >>> ((nI 1) &&& 31)) % 9)) (52 + k))), (g0, aI κ 9 (fun k => va_up z 325 (1 + (lw (y >>> ((nI 1) &&& 31)) % 9)) (324 + k)))]) [2, 0, 1] rfl rfl ?_
                refine hret.2.1 _ _ _ _ _ _ _ rfl rfl (by decide) (by decide) dL_cards_546 ?_
                exact ⟨_, rfl, (va_up z 325 (1 + (lw (y >>> ((nI 1) &&& 31)) % 9))), (rn n), w_72, (hw_73), (fun k h1 h2 => va_up_ne _ _ (by omega)), rfl, rfl⟩
            · skip
              refine g_aload hc 5 rfl dL_cards_391 (n := 393) rfl ?_
              refine g_iconst (v := nI 2) hc (by decide) dL_cards_393 (n := 394) rfl ?_
              refine n_iald (v := z 326) hc 1 rfl (by omega) (by decide) rfl dL_cards_394 (n := 395) rfl ?_
              refine g_istore (lv2 := [(0, .ref (a 0)), (1, .int x), (2, .int y), (3, .ref p0), (4, .ref b0), (5, .ref g0), (6, .int (nI (lw x % 12))), (7, .ref q_2), (8, .int (nI (z 326)))]) hc (by decide) [1, 2, 3, 4, 5, 6, 7, 8, 0] rfl rfl dL_cards_395 (n := 397) rfl ?_
              refine g_aload hc 5 rfl dL_cards_397 (n := 399) rfl ?_
              refine g_iconst (v := nI 2) hc (by decide) dL_cards_399 (n := 400) rfl ?_
              refine g_iload_n hc 2 rfl rfl dL_cards_400 (n := 401) rfl ?_
              refine g_ldc (v2 := nI 2147483647) hc k_kc_RL_8 (by decide) dL_cards_401 (n := 403) rfl ?_
              refine g_iand (v := (nI (lw y))) hc (lw_e y) dL_cards_403 (n := 404) rfl ?_
              refine n_iast (ws' := ([(b0, aI κ 52 (fun k => z (52 + k))), (g0, aI κ 9 (va_up (fun k => z (324 + k)) 2 (lw y))), (p0, aI κ 52 z), (q_2, aI κ 52 z)] ++ w0)) hc 1 rfl (by omega) (by decide) rfl dL_cards_404 (n := 405) rfl ?_
              refine g_aload_n hc 0 rfl rfl dL_cards_405 (n := 406) rfl ?_
              refine g_aload hc 5 rfl dL_cards_406 (n := 408) rfl ?_
              refine g_iconst (v := nI 2) hc (by decide) dL_cards_408 (n := 409) rfl ?_
              refine n_iald (v := lw y) hc 1 rfl (by omega) (by decide) (va_up_self _ _ _) dL_cards_409 (n := 410) rfl ?_
              refine g_cls (As := [.int (nI (lw y))]) (rest := []) hc (s_seed_ok hw0 (lw y) hly) q_X4_seed k_ml_RL_95 rfl rfl (Oc.rc hw0) vw_4 ⟨⟨by decide, by decide⟩, by decide, by decide⟩ (Nat.le_of_ble_eq_true rfl) dL_cards_410 (n := 413) rfl (fun w_74 hw_75 => ?_)
              refine g_iload hc 8 rfl dL_cards_413 (n := 415) rfl ?_
              refine g_icmp_ne hc dL_cards_415 (tgt := 432) (by decide) (n := 418) rfl (fun e => absurd rfl e) (fun _ => ?_)
              refine g_aload_n hc 0 rfl rfl dL_cards_418 (n := 419) rfl ?_
              refine g_iconst (v := nI 4294967295) hc (by decide) dL_cards_419 (n := 420) rfl ?_
              refine g_cls (As := [.int (nI 4294967295)]) (rest := []) hc (s_seed_er hw_75 (nI 4294967295) (by decide)) q_X4_seed k_ml_RL_95 rfl rfl (Oc.rc hw_75) vw_4 ⟨⟨by decide, by decide⟩, by decide, by decide⟩ (Nat.le_of_ble_eq_true rfl) dL_cards_420 (n := 423) rfl (fun w_76 hw_77 => ?_)
              refine g_bipush (v := nI 4294967294) hc (by decide) dL_cards_423 (n := 425) rfl ?_
              refine g_icmp_ne hc dL_cards_425 (tgt := 432) (by decide) (n := 428) rfl (fun e => absurd rfl e) (fun _ => ?_)
              refine g_iconst (v := nI 1) hc (by decide) dL_cards_428 (n := 429) rfl ?_
              refine g_goto (n := 433) hc dL_cards_429 (by decide) ?_
              refine g_arr (ws' := ([(b0, aI κ 52 (fun k => z (52 + k))), (g0, aI κ 9 (va_up (fun k => z (324 + k)) 2 (lw y))), (p0, aI κ 52 (va_up z 326 (lw y))), (q_2, aI κ 52 z)] ++ w_76)) (f := z) (g := va_up z 326 (lw y)) 2 rfl (fun k hk => by rw [va_up_ne _ _ (by omega)]) rfl ?_
              refine g_arr (ws' := ([(b0, aI κ 52 (fun k => va_up z 326 (lw y) (52 + k))), (g0, aI κ 9 (va_up (fun k => z (324 + k)) 2 (lw y))), (p0, aI κ 52 (va_up z 326 (lw y))), (q_2, aI κ 52 z)] ++ w_76)) (f := fun k => z (52 + k)) (g := fun k => va_up z 326 (lw y) (52 + k)) 0 rfl (fun k hk => by show _ = va_up z 326 (lw y) (52 + k); rw [va_up_ne _ _ (by omega)]) rfl ?_
              refine g_arr (ws' := ([(b0, aI κ 52 (fun k => va_up z 326 (lw y) (52 + k))), (g0, aI κ 9 (fun k => va_up z 326 (lw y) (324 + k))), (p0, aI κ 52 (va_up z 326 (lw y))), (q_2, aI κ 52 z)] ++ w_76)) (f := va_up (fun k => z (324 + k)) 2 (lw y)) (g := fun k => va_up z 326 (lw y) (324 + k)) 1 rfl (fun k hk => by show _ = va_up z 326 (lw y) (324 + k); unfold va_up; (repeat' split) <;> first | rfl | (exfalso; omega)) rfl ?_
              refine g_subq (X' := [(p0, aI κ 52 (va_up z 326 (lw y))), (b0, aI κ 52 (fun k => va_up z 326 (lw y) (52 + k))), (g0, aI κ 9 (fun k => va_up z 326 (lw y) (324 + k)))]) [2, 0, 1] rfl rfl ?_
              refine hret.2.1 _ _ _ _ _ _ _ rfl rfl (by decide) (by decide) dL_cards_433 ?_
              exact ⟨_, rfl, (va_up z 326 (lw y)), (rn n), w_76, (hw_77), (fun k h1 h2 => va_up_ne _ _ (by omega)), rfl, rfl⟩
          · skip
            refine g_iconst (v := nI 0) hc (by decide) dL_cards_320 (n := 321) rfl ?_
            refine g_istore (lv2 := [(0, .ref (a 0)), (1, .int x), (2, .int y), (3, .ref p0), (4, .ref b0), (5, .ref g0), (6, .int (nI (lw x % 12))), (7, .ref q_2), (8, .int (nI 0))]) hc (by decide) [1, 2, 3, 4, 5, 6, 7, 8, 0] rfl rfl dL_cards_321 (n := 323) rfl ?_
            refine g_iconst (v := nI 0) hc (by decide) dL_cards_323 (n := 324) rfl ?_
            refine g_istore (lv2 := [(0, .ref (a 0)), (1, .int x), (2, .int y), (3, .ref p0), (4, .ref b0), (5, .ref g0), (6, .int (nI (lw x % 12))), (7, .ref q_2), (8, .int (nI 0)), (9, .int (nI 0))]) hc (by decide) [1, 2, 3, 4, 5, 6, 7, 8, 9, 0] rfl rfl dL_cards_324 (n := 326) rfl ?_
            have L_78 : ∀ (fuel : Nat) (k : Nat) (mv : Nat) (pp : Nat → Nat), (k ≤ 52) → (mv = sm (fun k => if z k = k then 0 else 1) k) → (∀ j, j < k → pp j = j) → (∀ j, k ≤ j → pp j = z j) → 52 - k < fuel → G κ Γ A 11 1 52 Q ([(b0, aI κ 52 (fun k => z (52 + k))), (g0, aI κ 9 (fun k => z (324 + k))), (p0, aI κ 52 pp), (q_2, aI κ 52 z)] ++ w0) 326 [(0, .ref (a 0)), (1, .int x), (2, .int y), (3, .ref p0), (4, .ref b0), (5, .ref g0), (6, .int (nI (lw x % 12))), (7, .ref q_2), (8, .int (nI mv)), (9, .int (nI k))] [] := by
              intro fuel
              induction fuel with
              | zero => intro k mv pp hk hmv hg hh h; exact absurd h (Nat.not_lt_zero _)
              | succ fuel ih_79 =>
                intro k mv pp hk hmv hg hh hn_80
                have hpk := hh k (Nat.le_refl k)
                refine g_iload hc 9 rfl dL_cards_326 (n := 328) rfl ?_
                refine g_bipush (v := nI 52) hc (by decide) dL_cards_328 (n := 330) rfl ?_
                refine n_icmp_ge hc (by omega) (by omega) dL_cards_330 (tgt := 364) (by decide) (n := 333) rfl (fun c_81 => ?_) (fun c_81 => ?_)
                · skip
                  have e9 : k = 52 := by omega
                  have emv : mv = a_sort z := by subst e9; exact hmv
                  refine g_arr (ws' := ([(b0, aI κ 52 (fun k => z (52 + k))), (g0, aI κ 9 (fun k => z (324 + k))), (p0, aI κ 52 (soz z)), (q_2, aI κ 52 z)] ++ w0)) (f := pp) (g := soz z) 2 rfl (fun j hj => by rw [hg j (by omega)]; unfold soz; rw [if_pos hj]) rfl ?_
                  refine g_aload hc 5 rfl dL_cards_364 (n := 366) rfl ?_
                  refine g_iconst (v := nI 3) hc (by decide) dL_cards_366 (n := 367) rfl ?_
                  refine g_iconst (v := nI 0) hc (by decide) dL_cards_367 (n := 368) rfl ?_
                  refine n_iast (ws' := ([(b0, aI κ 52 (fun k => z (52 + k))), (g0, aI κ 9 (va_up (fun k => z (324 + k)) 3 0)), (p0, aI κ 52 (soz z)), (q_2, aI κ 52 z)] ++ w0)) hc 1 rfl (by omega) (by decide) rfl dL_cards_368 (n := 369) rfl ?_
                  refine g_aload_n hc 0 rfl rfl dL_cards_369 (n := 370) rfl ?_
                  refine g_cls (As := []) (rest := []) hc (s_sort hw0  ) q_X4_sort k_ml_RL_92 rfl rfl (Oc.rc hw0) vw_4 ⟨⟨by decide, by decide⟩, by decide, by decide⟩ (Nat.le_of_ble_eq_true rfl) dL_cards_370 (n := 373) rfl (fun w_82 hw_83 => ?_)
                  refine g_top (y := nI mv) (congrArg nI (emv.symm)) ?_
                  refine g_iload hc 8 rfl dL_cards_373 (n := 375) rfl ?_
                  refine g_icmp_ne hc dL_cards_375 (tgt := 382) (by decide) (n := 378) rfl (fun e => absurd rfl e) (fun _ => ?_)
                  refine g_iconst (v := nI 1) hc (by decide) dL_cards_378 (n := 379) rfl ?_
                  refine g_goto (n := 383) hc dL_cards_379 (by decide) ?_
                  refine g_arr (ws' := ([(b0, aI κ 52 (fun k => soz z (52 + k))), (g0, aI κ 9 (va_up (fun k => z (324 + k)) 3 0)), (p0, aI κ 52 (soz z)), (q_2, aI κ 52 z)] ++ w_82)) (f := fun k => z (52 + k)) (g := fun k => soz z (52 + k)) 0 rfl (fun k hk => by show _ = soz z (52 + k); unfold soz; rw [if_neg (by omega), if_neg (by omega)]) rfl ?_
                  refine g_arr (ws' := ([(b0, aI κ 52 (fun k => soz z (52 + k))), (g0, aI κ 9 (fun k => soz z (324 + k))), (p0, aI κ 52 (soz z)), (q_2, aI κ 52 z)] ++ w_82)) (f := va_up (fun k => z (324 + k)) 3 0) (g := fun k => soz z (324 + k)) 1 rfl (fun k hk => by show _ = soz z (324 + k); unfold soz va_up; (repeat' split) <;> first | rfl | (exfalso; omega)) rfl ?_
                  refine g_subq (X' := [(p0, aI κ 52 (soz z)), (b0, aI κ 52 (fun k => soz z (52 + k))), (g0, aI κ 9 (fun k => soz z (324 + k)))]) [2, 0, 1] rfl rfl ?_
                  refine hret.2.1 _ _ _ _ _ _ _ rfl rfl (by decide) (by decide) dL_cards_383 ?_
                  exact ⟨_, rfl, (soz z), (rn n), w_82, (hw_83), (fun k h1 h2 => by show soz z k = z k; unfold soz; rw [if_neg (by omega), if_neg (by omega)]), rfl, rfl⟩
                · skip
                  have hpk2 := hpz.1 k (by omega)
                  refine g_iload hc 8 rfl dL_cards_333 (n := 335) rfl ?_
                  refine g_aload_n hc 3 rfl rfl dL_cards_335 (n := 336) rfl ?_
                  refine g_iload hc 9 rfl dL_cards_336 (n := 338) rfl ?_
                  refine n_iald (v := pp k) hc 2 rfl (by omega) (by decide) rfl dL_cards_338 (n := 339) rfl ?_
                  refine g_iload hc 9 rfl dL_cards_339 (n := 341) rfl ?_
                  refine n_icmp_eq hc (by omega) (by omega) dL_cards_341 (tgt := 348) (by decide) (n := 344) rfl (fun c_84 => ?_) (fun c_84 => ?_)
                  · skip
                    refine g_iconst (v := nI 0) hc (by decide) dL_cards_348 (n := 349) rfl ?_
                    refine n_iadd (v := mv + 0) hc rfl dL_cards_349 (n := 350) rfl ?_
                    refine g_istore (lv2 := [(0, .ref (a 0)), (1, .int x), (2, .int y), (3, .ref p0), (4, .ref b0), (5, .ref g0), (6, .int (nI (lw x % 12))), (7, .ref q_2), (8, .int (nI (mv + 0))), (9, .int (nI k))]) hc (by decide) [1, 2, 3, 4, 5, 6, 7, 8, 0, 9] rfl rfl dL_cards_350 (n := 352) rfl ?_
                    refine g_aload_n hc 3 rfl rfl dL_cards_352 (n := 353) rfl ?_
                    refine g_iload hc 9 rfl dL_cards_353 (n := 355) rfl ?_
                    refine g_iload hc 9 rfl dL_cards_355 (n := 357) rfl ?_
                    refine n_iast (ws' := ([(b0, aI κ 52 (fun k => z (52 + k))), (g0, aI κ 9 (fun k => z (324 + k))), (p0, aI κ 52 (va_up pp k k)), (q_2, aI κ 52 z)] ++ w0)) hc 2 rfl (by omega) (by decide) rfl dL_cards_357 (n := 358) rfl ?_
                    refine n_iinc (v := k + 1) (zk := 1) (lv2 := [(0, .ref (a 0)), (1, .int x), (2, .int y), (3, .ref p0), (4, .ref b0), (5, .ref g0), (6, .int (nI (lw x % 12))), (7, .ref q_2), (8, .int (nI (mv + 0))), (9, .int (nI (k + 1)))]) hc 9 rfl (by decide) rfl (by decide) [1, 2, 3, 4, 5, 6, 7, 8, 9, 0] rfl rfl dL_cards_358 (n := 361) rfl ?_
                    refine g_goto (n := 326) hc dL_cards_361 (by decide) ?_
                    exact ih_79 (k + 1) (mv + 0) (va_up pp k k) (by omega) (by rw [sm_s, ← hmv]; first | (rw [if_pos (by omega)]) | (rw [if_neg (by omega)])) (fun j hj => (Nat.lt_succ_iff_lt_or_eq.mp hj).elim (fun q => (va_up_ne _ _ (by omega)).trans (hg j q)) (fun q => by subst q; exact va_up_self _ _ _)) (fun j hj => (va_up_ne _ _ (by omega)).trans (hh j (by omega))) (by omega)
                  · skip
                    refine g_iconst (v := nI 1) hc (by decide) dL_cards_344 (n := 345) rfl ?_
                    refine g_goto (n := 349) hc dL_cards_345 (by decide) ?_
                    refine n_iadd (v := mv + 1) hc rfl dL_cards_349 (n := 350) rfl ?_
                    refine g_istore (lv2 := [(0, .ref (a 0)), (1, .int x), (2, .int y), (3, .ref p0), (4, .ref b0), (5, .ref g0), (6, .int (nI (lw x % 12))), (7, .ref q_2), (8, .int (nI (mv + 1))), (9, .int (nI k))]) hc (by decide) [1, 2, 3, 4, 5, 6, 7, 8, 0, 9] rfl rfl dL_cards_350 (n := 352) rfl ?_
                    refine g_aload_n hc 3 rfl rfl dL_cards_352 (n := 353) rfl ?_
                    refine g_iload hc 9 rfl dL_cards_353 (n := 355) rfl ?_
                    refine g_iload hc 9 rfl dL_cards_355 (n := 357) rfl ?_
                    refine n_iast (ws' := ([(b0, aI κ 52 (fun k => z (52 + k))), (g0, aI κ 9 (fun k => z (324 + k))), (p0, aI κ 52 (va_up pp k k)), (q_2, aI κ 52 z)] ++ w0)) hc 2 rfl (by omega) (by decide) rfl dL_cards_357 (n := 358) rfl ?_
                    refine n_iinc (v := k + 1) (zk := 1) (lv2 := [(0, .ref (a 0)), (1, .int x), (2, .int y), (3, .ref p0), (4, .ref b0), (5, .ref g0), (6, .int (nI (lw x % 12))), (7, .ref q_2), (8, .int (nI (mv + 1))), (9, .int (nI (k + 1)))]) hc 9 rfl (by decide) rfl (by decide) [1, 2, 3, 4, 5, 6, 7, 8, 9, 0] rfl rfl dL_cards_358 (n := 361) rfl ?_
                    refine g_goto (n := 326) hc dL_cards_361 (by decide) ?_
                    exact ih_79 (k + 1) (mv + 1) (va_up pp k k) (by omega) (by rw [sm_s, ← hmv]; first | (rw [if_pos (by omega)]) | (rw [if_neg (by omega)])) (fun j hj => (Nat.lt_succ_iff_lt_or_eq.mp hj).elim (fun q => (va_up_ne _ _ (by omega)).trans (hg j q)) (fun q => by subst q; exact va_up_self _ _ _)) (fun j hj => (va_up_ne _ _ (by omega)).trans (hh j (by omega))) (by omega)
            exact L_78 _ 0 0 z (by omega) (rfl) (fun j hj => absurd hj (Nat.not_lt_zero _)) (fun j _ => rfl) (Nat.lt_succ_self _)
      · skip
        refine g_iconst (v := nI 1) hc (by decide) dL_cards_227 (n := 228) rfl ?_
        refine g_iload_n hc 2 rfl rfl dL_cards_228 (n := 229) rfl ?_
        refine g_bipush (v := nI 51) hc (by decide) dL_cards_229 (n := 231) rfl ?_
        refine g_callS (rest := [.int (nI 1)]) (As := [.int y, .int (nI 51)]) (cells' := 1) (slots' := 52) hc (c_L_low κ _ y 51 (by decide) (by decide)) q_L_low k_ml_RL_66 rfl rfl (jn_q (wr := [(b0, aI κ 52 (fun k => z (52 + k))), (g0, aI κ 9 (fun k => z (324 + k))), (p0, aI κ 52 z), (q_2, aI κ 52 z)]) [] [0, 1, 2, 3] rfl rfl rfl rfl (by decide)) ⟨⟨by decide, by decide⟩, by decide, by decide⟩ (Nat.le_of_ble_eq_true rfl) rfl rfl dL_cards_231 (n := 234) rfl (fun vv ww hp => ?_)
        obtain ⟨rr, rfl, rfl, rfl⟩ := hp
        refine ⟨_, rfl, ?_⟩
        refine g_ws (ws' := ([(b0, aI κ 52 (fun k => z (52 + k))), (g0, aI κ 9 (fun k => z (324 + k))), (p0, aI κ 52 z), (q_2, aI κ 52 z)] ++ w0)) rfl ?_
        refine g_st (st' := [.int (nI (lw y % 51)), .int (nI 1)]) rfl ?_
        have lo_85 : lw y % 51 < 51 := Nat.mod_lt _ (by decide)
        refine n_iadd (v := 1 + (lw y % 51)) hc rfl dL_cards_234 (n := 235) rfl ?_
        obtain ⟨c, ec⟩ : ∃ c, c = 1 + lw y % 51 := ⟨_, rfl⟩
        have hcc : 1 ≤ c ∧ c < 52 := by omega
        refine g_top (y := nI c) (by rw [ec]) ?_
        refine g_istore (lv2 := [(0, .ref (a 0)), (1, .int x), (2, .int y), (3, .ref p0), (4, .ref b0), (5, .ref g0), (6, .int (nI (lw x % 12))), (7, .ref q_2), (8, .int (nI c))]) hc (by decide) [1, 2, 3, 4, 5, 6, 7, 8, 0] rfl rfl dL_cards_235 (n := 237) rfl ?_
        refine g_iconst (v := nI 0) hc (by decide) dL_cards_237 (n := 238) rfl ?_
        refine g_istore (lv2 := [(0, .ref (a 0)), (1, .int x), (2, .int y), (3, .ref p0), (4, .ref b0), (5, .ref g0), (6, .int (nI (lw x % 12))), (7, .ref q_2), (8, .int (nI c)), (9, .int (nI 0))]) hc (by decide) [1, 2, 3, 4, 5, 6, 7, 8, 9, 0] rfl rfl dL_cards_238 (n := 240) rfl ?_
        have L_86 : ∀ (fuel : Nat) (k : Nat) (pp : Nat → Nat), (k ≤ 52) → (∀ j, j < k → pp j = z ((j + c) % 52)) → 52 - k < fuel → G κ Γ A 11 1 52 Q ([(b0, aI κ 52 (fun k => z (52 + k))), (g0, aI κ 9 (fun k => z (324 + k))), (p0, aI κ 52 pp), (q_2, aI κ 52 z)] ++ w0) 240 [(0, .ref (a 0)), (1, .int x), (2, .int y), (3, .ref p0), (4, .ref b0), (5, .ref g0), (6, .int (nI (lw x % 12))), (7, .ref q_2), (8, .int (nI c)), (9, .int (nI k))] [] := by
          intro fuel
          induction fuel with
          | zero => intro k pp hk hg h; exact absurd h (Nat.not_lt_zero _)
          | succ fuel ih_87 =>
            intro k pp hk hg hn_88
            refine g_iload hc 9 rfl dL_cards_240 (n := 242) rfl ?_
            refine g_bipush (v := nI 52) hc (by decide) dL_cards_242 (n := 244) rfl ?_
            refine n_icmp_ge hc (by omega) (by omega) dL_cards_244 (tgt := 268) (by decide) (n := 247) rfl (fun c_89 => ?_) (fun c_89 => ?_)
            · skip
              have e9 : k = 52 := by omega
              refine g_arr (ws' := ([(b0, aI κ 52 (fun k => z (52 + k))), (g0, aI κ 9 (fun k => z (324 + k))), (p0, aI κ 52 (cuz z c)), (q_2, aI κ 52 z)] ++ w0)) (f := pp) (g := cuz z c) 2 rfl (fun j hj => by rw [hg j (by omega)]; unfold cuz; rw [if_pos hj]) rfl ?_
              refine g_aload_n hc 0 rfl rfl dL_cards_268 (n := 269) rfl ?_
              refine g_iload hc 8 rfl dL_cards_269 (n := 271) rfl ?_
              refine g_cls (As := [.int (nI c)]) (rest := []) hc (s_cut_ok hw0 c hcc.1 hcc.2) q_X4_cut k_ml_RL_89 rfl rfl (Oc.rc hw0) vw_4 ⟨⟨by decide, by decide⟩, by decide, by decide⟩ (Nat.le_of_ble_eq_true rfl) dL_cards_271 (n := 274) rfl (fun w_90 hw_91 => ?_)
              refine g_top (y := nI (cuz z c 0)) (congrArg nI (by unfold cuz; rw [if_pos (by decide), Nat.zero_add, Nat.mod_eq_of_lt hcc.2])) ?_
              refine g_aload_n hc 3 rfl rfl dL_cards_274 (n := 275) rfl ?_
              refine g_iconst (v := nI 0) hc (by decide) dL_cards_275 (n := 276) rfl ?_
              refine n_iald (v := cuz z c 0) hc 2 rfl (by omega) (by decide) rfl dL_cards_276 (n := 277) rfl ?_
              refine g_icmp_ne hc dL_cards_277 (tgt := 305) (by decide) (n := 280) rfl (fun e => absurd rfl e) (fun _ => ?_)
              refine g_aload_n hc 0 rfl rfl dL_cards_280 (n := 281) rfl ?_
              refine g_iconst (v := nI 0) hc (by decide) dL_cards_281 (n := 282) rfl ?_
              refine g_cls (As := [.int (nI 0)]) (rest := []) hc (s_cut_er1 hw_91  ) q_X4_cut k_ml_RL_89 rfl rfl (Oc.rc hw_91) vw_4 ⟨⟨by decide, by decide⟩, by decide, by decide⟩ (Nat.le_of_ble_eq_true rfl) dL_cards_282 (n := 285) rfl (fun w_92 hw_93 => ?_)
              refine g_bipush (v := nI 4294967294) hc (by decide) dL_cards_285 (n := 287) rfl ?_
              refine g_icmp_ne hc dL_cards_287 (tgt := 305) (by decide) (n := 290) rfl (fun e => absurd rfl e) (fun _ => ?_)
              refine g_aload_n hc 0 rfl rfl dL_cards_290 (n := 291) rfl ?_
              refine g_bipush (v := nI 52) hc (by decide) dL_cards_291 (n := 293) rfl ?_
              refine g_cls (As := [.int (nI 52)]) (rest := []) hc (s_cut_er2 hw_93 (nI 52) (by decide)) q_X4_cut k_ml_RL_89 rfl rfl (Oc.rc hw_93) vw_4 ⟨⟨by decide, by decide⟩, by decide, by decide⟩ (Nat.le_of_ble_eq_true rfl) dL_cards_293 (n := 296) rfl (fun w_94 hw_95 => ?_)
              refine g_bipush (v := nI 4294967294) hc (by decide) dL_cards_296 (n := 298) rfl ?_
              refine g_icmp_ne hc dL_cards_298 (tgt := 305) (by decide) (n := 301) rfl (fun e => absurd rfl e) (fun _ => ?_)
              refine g_iconst (v := nI 1) hc (by decide) dL_cards_301 (n := 302) rfl ?_
              refine g_goto (n := 306) hc dL_cards_302 (by decide) ?_
              refine g_arr (ws' := ([(b0, aI κ 52 (fun k => cuz z c (52 + k))), (g0, aI κ 9 (fun k => z (324 + k))), (p0, aI κ 52 (cuz z c)), (q_2, aI κ 52 z)] ++ w_94)) (f := fun k => z (52 + k)) (g := fun k => cuz z c (52 + k)) 0 rfl (fun k hk => by show _ = cuz z c (52 + k); unfold cuz; rw [if_neg (by omega)]) rfl ?_
              refine g_arr (ws' := ([(b0, aI κ 52 (fun k => cuz z c (52 + k))), (g0, aI κ 9 (fun k => cuz z c (324 + k))), (p0, aI κ 52 (cuz z c)), (q_2, aI κ 52 z)] ++ w_94)) (f := fun k => z (324 + k)) (g := fun k => cuz z c (324 + k)) 1 rfl (fun k hk => by show _ = cuz z c (324 + k); unfold cuz; rw [if_neg (by omega)]) rfl ?_
              refine g_subq (X' := [(p0, aI κ 52 (cuz z c)), (b0, aI κ 52 (fun k => cuz z c (52 + k))), (g0, aI κ 9 (fun k => cuz z c (324 + k)))]) [2, 0, 1] rfl rfl ?_
              refine hret.2.1 _ _ _ _ _ _ _ rfl rfl (by decide) (by decide) dL_cards_306 ?_
              exact ⟨_, rfl, (cuz z c), (rn n), w_94, (hw_95), (fun k h1 h2 => by show cuz z c k = z k; unfold cuz; rw [if_neg (by omega)]), rfl, rfl⟩
            · skip
              refine g_aload_n hc 3 rfl rfl dL_cards_247 (n := 248) rfl ?_
              refine g_iload hc 9 rfl dL_cards_248 (n := 250) rfl ?_
              refine g_aload hc 7 rfl dL_cards_250 (n := 252) rfl ?_
              refine g_iload hc 9 rfl dL_cards_252 (n := 254) rfl ?_
              refine g_iload hc 8 rfl dL_cards_254 (n := 256) rfl ?_
              refine n_iadd (v := k + c) hc rfl dL_cards_256 (n := 257) rfl ?_
              refine g_bipush (v := nI 52) hc (by decide) dL_cards_257 (n := 259) rfl ?_
              refine n_irem (v := (k + c) % 52) hc (by omega) (by decide) (by decide) rfl dL_cards_259 (n := 260) rfl ?_
              refine n_iald (v := z ((k + c) % 52)) hc 3 rfl (by omega) (by decide) rfl dL_cards_260 (n := 261) rfl ?_
              refine n_iast (ws' := ([(b0, aI κ 52 (fun k => z (52 + k))), (g0, aI κ 9 (fun k => z (324 + k))), (p0, aI κ 52 (va_up pp k (z ((k + c) % 52)))), (q_2, aI κ 52 z)] ++ w0)) hc 2 rfl (by omega) (by decide) rfl dL_cards_261 (n := 262) rfl ?_
              refine n_iinc (v := k + 1) (zk := 1) (lv2 := [(0, .ref (a 0)), (1, .int x), (2, .int y), (3, .ref p0), (4, .ref b0), (5, .ref g0), (6, .int (nI (lw x % 12))), (7, .ref q_2), (8, .int (nI c)), (9, .int (nI (k + 1)))]) hc 9 rfl (by decide) rfl (by decide) [1, 2, 3, 4, 5, 6, 7, 8, 9, 0] rfl rfl dL_cards_262 (n := 265) rfl ?_
              refine g_goto (n := 240) hc dL_cards_265 (by decide) ?_
              exact ih_87 (k + 1) (va_up pp k (z ((k + c) % 52))) (by omega) (fun j hj => (Nat.lt_succ_iff_lt_or_eq.mp hj).elim (fun q => (va_up_ne _ _ (by omega)).trans (hg j q)) (fun q => by subst q; exact va_up_self _ _ _)) (by omega)
        exact L_86 _ 0 z (by omega) (fun j hj => absurd hj (Nat.not_lt_zero _)) (Nat.lt_succ_self _)
    · skip
      refine g_bipush (v := nI 52) hc (by decide) dL_cards_118 (n := 120) rfl ?_
      refine n_newI hc k_ac_int (by decide) ⟨by decide, by decide⟩ (cells' := 2) (slots' := 104) rfl rfl dL_cards_120 (n := 122) rfl (fun q_96 => ?_)
      refine g_re2 (w2 := ([(b0, aI κ 52 (fun k => z (52 + k))), (g0, aI κ 9 (fun k => z (324 + k))), (p0, aI κ 52 z), (q_2, aI κ 52 z), (q_96, aI κ 52 (fun _ => 0))] ++ w0)) (re_nw [(b0, aI κ 52 (fun k => z (52 + k))), (g0, aI κ 9 (fun k => z (324 + k))), (p0, aI κ 52 z), (q_2, aI κ 52 z)] w0 (q_96, aI κ 52 (fun _ => 0))) ?_
      refine g_astore (lv2 := [(0, .ref (a 0)), (1, .int x), (2, .int y), (3, .ref p0), (4, .ref b0), (5, .ref g0), (6, .int (nI (lw x % 12))), (7, .ref q_2), (8, .ref q_96)]) hc (by decide) [1, 2, 3, 4, 5, 6, 7, 8, 0] rfl rfl dL_cards_122 (n := 124) rfl ?_
      refine g_arr (ws' := ([(b0, aI κ 52 (fun k => z (52 + k))), (g0, aI κ 9 (va_up (fun k => z (324 + k)) 2 (z 326))), (p0, aI κ 52 z), (q_2, aI κ 52 z), (q_96, aI κ 52 (fun _ => 0))] ++ w0)) (f := fun k => z (324 + k)) (g := va_up (fun k => z (324 + k)) 2 (z 326)) 1 rfl (fun k _ => (up_id (fun k => z (324 + k)) 2 k).symm) rfl ?_
      refine g_iconst (v := nI 0) hc (by decide) dL_cards_124 (n := 125) rfl ?_
      refine g_istore (lv2 := [(0, .ref (a 0)), (1, .int x), (2, .int y), (3, .ref p0), (4, .ref b0), (5, .ref g0), (6, .int (nI (lw x % 12))), (7, .ref q_2), (8, .ref q_96), (9, .int (nI 0))]) hc (by decide) [1, 2, 3, 4, 5, 6, 7, 8, 9, 0] rfl rfl dL_cards_125 (n := 127) rfl ?_
      have L_97 : ∀ (fuel : Nat) (i : Nat) (cw : Nat → Nat), (i ≤ z 325) → z 325 - i < fuel → G κ Γ A 11 2 104 Q ([(b0, aI κ 52 (fun k => z (52 + k))), (g0, aI κ 9 (va_up (fun k => z (324 + k)) 2 (ri z i).1)), (p0, aI κ 52 ((ri z i).2)), (q_2, aI κ 52 z), (q_96, aI κ 52 cw)] ++ w0) 127 [(0, .ref (a 0)), (1, .int x), (2, .int y), (3, .ref p0), (4, .ref b0), (5, .ref g0), (6, .int (nI (lw x % 12))), (7, .ref q_2), (8, .ref q_96), (9, .int (nI i))] [] := by
        intro fuel
        induction fuel with
        | zero => intro i cw hi h; exact absurd h (Nat.not_lt_zero _)
        | succ fuel ih_98 =>
          intro i cw hi hn_99
          refine g_iload hc 9 rfl dL_cards_127 (n := 129) rfl ?_
          refine g_aload hc 5 rfl dL_cards_129 (n := 131) rfl ?_
          refine g_iconst (v := nI 1) hc (by decide) dL_cards_131 (n := 132) rfl ?_
          refine n_iald (v := z 325) hc 1 rfl (by omega) (by decide) (va_up_ne _ _ (by decide)) dL_cards_132 (n := 133) rfl ?_
          refine n_icmp_ge hc (by omega) (by omega) dL_cards_133 (tgt := 153) (by decide) (n := 136) rfl (fun c_100 => ?_) (fun c_100 => ?_)
          · skip
            have e9 : i = z 325 := by omega
            subst e9
            have hin := rit_in (b := bz z) hpz hzx (z 325)
            refine g_aload hc 5 rfl dL_cards_153 (n := 155) rfl ?_
            refine g_iconst (v := nI 4) hc (by decide) dL_cards_155 (n := 156) rfl ?_
            refine g_aload hc 7 rfl dL_cards_156 (n := 158) rfl ?_
            refine g_aload_n hc 3 rfl rfl dL_cards_158 (n := 159) rfl ?_
            refine g_callS (rest := [.int (nI 4), .ref g0]) (As := [.ref q_2, .ref p0]) (cells' := 2) (slots' := 104) hc (c_L_kept κ _ q_2 p0 z ((ri z (z 325)).2) hpz hin.2) q_L_kept k_ml_RL_29 rfl rfl (jn_q (wr := [(b0, aI κ 52 (fun k => z (52 + k))), (g0, aI κ 9 (va_up (fun k => z (324 + k)) 2 (ri z (z 325)).1)), (q_96, aI κ 52 cw)]) [3, 2] [0, 1, 4] rfl rfl rfl rfl (by decide)) ⟨⟨by decide, by decide⟩, by decide, by decide⟩ (Nat.le_of_ble_eq_true rfl) rfl rfl dL_cards_159 (n := 162) rfl (fun vv ww hp => ?_)
            obtain ⟨rr, rfl, rfl, rfl⟩ := hp
            refine ⟨_, rfl, ?_⟩
            refine g_ws (ws' := ([(b0, aI κ 52 (fun k => z (52 + k))), (g0, aI κ 9 (va_up (fun k => z (324 + k)) 2 (ri z (z 325)).1)), (q_96, aI κ 52 cw), (q_2, aI κ 52 z), (p0, aI κ 52 ((ri z (z 325)).2))] ++ w0)) rfl ?_
            refine g_st (st' := [.int (nI (kp z ((ri z (z 325)).2))), .int (nI 4), .ref g0]) rfl ?_
            refine g_top (y := nI (shk z)) rfl ?_
            have hsk : shk z ≤ 51 := kp_le _ _
            refine n_iast (ws' := ([(b0, aI κ 52 (fun k => z (52 + k))), (g0, aI κ 9 (va_up (va_up (fun k => z (324 + k)) 2 (ri z (z 325)).1) 4 (shk z))), (q_96, aI κ 52 cw), (q_2, aI κ 52 z), (p0, aI κ 52 ((ri z (z 325)).2))] ++ w0)) hc 1 rfl (by omega) (by decide) rfl dL_cards_162 (n := 163) rfl ?_
            refine g_aload hc 5 rfl dL_cards_163 (n := 165) rfl ?_
            refine g_iconst (v := nI 3) hc (by decide) dL_cards_165 (n := 166) rfl ?_
            refine g_aload hc 5 rfl dL_cards_166 (n := 168) rfl ?_
            refine g_iconst (v := nI 4) hc (by decide) dL_cards_168 (n := 169) rfl ?_
            refine n_iald (v := shk z) hc 1 rfl (by omega) (by decide) (va_up_self _ _ _) dL_cards_169 (n := 170) rfl ?_
            refine g_aload hc 5 rfl dL_cards_170 (n := 172) rfl ?_
            refine g_iconst (v := nI 0) hc (by decide) dL_cards_172 (n := 173) rfl ?_
            refine n_iald (v := z 324) hc 1 rfl (by omega) (by decide) ((va_up_ne _ _ (by decide)).trans ((va_up_ne _ _ (by decide)).trans (rfl))) dL_cards_173 (n := 174) rfl ?_
            refine n_icmp_gt hc (by omega) (by omega) dL_cards_174 (tgt := 181) (by decide) (n := 177) rfl (fun c_101 => ?_) (fun c_101 => ?_)
            · skip
              have hcz : shc z = 0 := by unfold shc; exact if_neg (by omega)
              refine g_iconst (v := nI 0) hc (by decide) dL_cards_181 (n := 182) rfl ?_
              refine n_iast (ws' := ([(b0, aI κ 52 (fun k => z (52 + k))), (g0, aI κ 9 (va_up (va_up (va_up (fun k => z (324 + k)) 2 (ri z (z 325)).1) 4 (shk z)) 3 0)), (q_96, aI κ 52 cw), (q_2, aI κ 52 z), (p0, aI κ 52 ((ri z (z 325)).2))] ++ w0)) hc 1 rfl (by omega) (by decide) rfl dL_cards_182 (n := 183) rfl ?_
              refine g_aload hc 5 rfl dL_cards_183 (n := 185) rfl ?_
              refine g_iconst (v := nI 5) hc (by decide) dL_cards_185 (n := 186) rfl ?_
              refine g_dup2 hc rfl rfl dL_cards_186 (n := 187) rfl ?_
              refine n_iald (v := z 329) hc 1 rfl (by omega) (by decide) ((va_up_ne _ _ (by decide)).trans ((va_up_ne _ _ (by decide)).trans ((va_up_ne _ _ (by decide)).trans (rfl)))) dL_cards_187 (n := 188) rfl ?_
              refine g_iconst (v := nI 1) hc (by decide) dL_cards_188 (n := 189) rfl ?_
              refine n_iadd (v := (z 329) + 1) hc rfl dL_cards_189 (n := 190) rfl ?_
              refine n_iast (ws' := ([(b0, aI κ 52 (fun k => z (52 + k))), (g0, aI κ 9 (va_up (va_up (va_up (va_up (fun k => z (324 + k)) 2 (ri z (z 325)).1) 4 (shk z)) 3 0) 5 ((z 329) + 1))), (q_96, aI κ 52 cw), (q_2, aI κ 52 z), (p0, aI κ 52 ((ri z (z 325)).2))] ++ w0)) hc 1 rfl (by omega) (by decide) rfl dL_cards_190 (n := 191) rfl ?_
              refine g_aload hc 5 rfl dL_cards_191 (n := 193) rfl ?_
              refine g_bipush (v := nI 6) hc (by decide) dL_cards_193 (n := 195) rfl ?_
              refine g_dup2 hc rfl rfl dL_cards_195 (n := 196) rfl ?_
              refine n_iald (v := z 330) hc 1 rfl (by omega) (by decide) ((va_up_ne _ _ (by decide)).trans ((va_up_ne _ _ (by decide)).trans ((va_up_ne _ _ (by decide)).trans ((va_up_ne _ _ (by decide)).trans (rfl))))) dL_cards_196 (n := 197) rfl ?_
              refine g_aload hc 5 rfl dL_cards_197 (n := 199) rfl ?_
              refine g_iconst (v := nI 3) hc (by decide) dL_cards_199 (n := 200) rfl ?_
              refine n_iald (v := 0) hc 1 rfl (by omega) (by decide) ((va_up_ne _ _ (by decide)).trans (va_up_self _ _ _)) dL_cards_200 (n := 201) rfl ?_
              refine n_iadd (v := (z 330) + 0) hc rfl dL_cards_201 (n := 202) rfl ?_
              refine n_iast (ws' := ([(b0, aI κ 52 (fun k => z (52 + k))), (g0, aI κ 9 (va_up (va_up (va_up (va_up (va_up (fun k => z (324 + k)) 2 (ri z (z 325)).1) 4 (shk z)) 3 0) 5 ((z 329) + 1)) 6 ((z 330) + 0))), (q_96, aI κ 52 cw), (q_2, aI κ 52 z), (p0, aI κ 52 ((ri z (z 325)).2))] ++ w0)) hc 1 rfl (by omega) (by decide) rfl dL_cards_202 (n := 203) rfl ?_
              refine g_arr (ws' := ([(b0, aI κ 52 (fun k => z (52 + k))), (g0, aI κ 9 (fun k => shz z (324 + k))), (q_96, aI κ 52 cw), (q_2, aI κ 52 z), (p0, aI κ 52 ((ri z (z 325)).2))] ++ w0)) (f := va_up (va_up (va_up (va_up (va_up (fun k => z (324 + k)) 2 (ri z (z 325)).1) 4 (shk z)) 3 0) 5 ((z 329) + 1)) 6 ((z 330) + 0)) (g := fun k => shz z (324 + k)) 1 rfl (fun k hk => g_shz hcz k hk) rfl ?_
              refine g_aload_n hc 0 rfl rfl dL_cards_203 (n := 204) rfl ?_
              refine g_cls (As := []) (rest := []) hc (s_shuffle hw0  ) q_X4_shuffle k_ml_RL_86 rfl rfl (Oc.rc hw0) vw_4 ⟨⟨by decide, by decide⟩, by decide, by decide⟩ (Nat.le_of_ble_eq_true rfl) dL_cards_204 (n := 207) rfl (fun w_102 hw_103 => ?_)
              refine g_top (y := nI (shz z 328)) (congrArg nI ((shz_328 z).symm)) ?_
              refine g_aload hc 5 rfl dL_cards_207 (n := 209) rfl ?_
              refine g_iconst (v := nI 4) hc (by decide) dL_cards_209 (n := 210) rfl ?_
              refine n_iald (v := shz z 328) hc 1 rfl (by omega) (by decide) rfl dL_cards_210 (n := 211) rfl ?_
              refine g_icmp_ne hc dL_cards_211 (tgt := 218) (by decide) (n := 214) rfl (fun e => absurd rfl e) (fun _ => ?_)
              refine g_iconst (v := nI 1) hc (by decide) dL_cards_214 (n := 215) rfl ?_
              refine g_goto (n := 219) hc dL_cards_215 (by decide) ?_
              refine g_arr (ws' := ([(b0, aI κ 52 (fun k => z (52 + k))), (g0, aI κ 9 (fun k => shz z (324 + k))), (q_96, aI κ 52 cw), (q_2, aI κ 52 z), (p0, aI κ 52 (shz z))] ++ w_102)) (f := ((ri z (z 325)).2)) (g := shz z) 4 rfl (fun k hk => (shz_p z hk).symm) rfl ?_
              refine g_arr (ws' := ([(b0, aI κ 52 (fun k => shz z (52 + k))), (g0, aI κ 9 (fun k => shz z (324 + k))), (q_96, aI κ 52 cw), (q_2, aI κ 52 z), (p0, aI κ 52 (shz z))] ++ w_102)) (f := fun k => z (52 + k)) (g := fun k => shz z (52 + k)) 0 rfl (fun k hk => (shz_o z (by omega)).symm) rfl ?_
              refine g_subq (X' := [(p0, aI κ 52 (shz z)), (b0, aI κ 52 (fun k => shz z (52 + k))), (g0, aI κ 9 (fun k => shz z (324 + k)))]) [4, 0, 1] rfl rfl ?_
              refine hret.2.1 _ _ _ _ _ _ _ rfl rfl (by decide) (by decide) dL_cards_219 ?_
              exact ⟨_, rfl, (shz z), (rn n), w_102, (hw_103), (fun k h1 h2 => shz_o z (by omega)), rfl, rfl⟩
            · skip
              have hcz : shc z = 1 := by unfold shc; exact if_pos (by omega)
              refine g_iconst (v := nI 1) hc (by decide) dL_cards_177 (n := 178) rfl ?_
              refine g_goto (n := 182) hc dL_cards_178 (by decide) ?_
              refine n_iast (ws' := ([(b0, aI κ 52 (fun k => z (52 + k))), (g0, aI κ 9 (va_up (va_up (va_up (fun k => z (324 + k)) 2 (ri z (z 325)).1) 4 (shk z)) 3 1)), (q_96, aI κ 52 cw), (q_2, aI κ 52 z), (p0, aI κ 52 ((ri z (z 325)).2))] ++ w0)) hc 1 rfl (by omega) (by decide) rfl dL_cards_182 (n := 183) rfl ?_
              refine g_aload hc 5 rfl dL_cards_183 (n := 185) rfl ?_
              refine g_iconst (v := nI 5) hc (by decide) dL_cards_185 (n := 186) rfl ?_
              refine g_dup2 hc rfl rfl dL_cards_186 (n := 187) rfl ?_
              refine n_iald (v := z 329) hc 1 rfl (by omega) (by decide) ((va_up_ne _ _ (by decide)).trans ((va_up_ne _ _ (by decide)).trans ((va_up_ne _ _ (by decide)).trans (rfl)))) dL_cards_187 (n := 188) rfl ?_
              refine g_iconst (v := nI 1) hc (by decide) dL_cards_188 (n := 189) rfl ?_
              refine n_iadd (v := (z 329) + 1) hc rfl dL_cards_189 (n := 190) rfl ?_
              refine n_iast (ws' := ([(b0, aI κ 52 (fun k => z (52 + k))), (g0, aI κ 9 (va_up (va_up (va_up (va_up (fun k => z (324 + k)) 2 (ri z (z 325)).1) 4 (shk z)) 3 1) 5 ((z 329) + 1))), (q_96, aI κ 52 cw), (q_2, aI κ 52 z), (p0, aI κ 52 ((ri z (z 325)).2))] ++ w0)) hc 1 rfl (by omega) (by decide) rfl dL_cards_190 (n := 191) rfl ?_
              refine g_aload hc 5 rfl dL_cards_191 (n := 193) rfl ?_
              refine g_bipush (v := nI 6) hc (by decide) dL_cards_193 (n := 195) rfl ?_
              refine g_dup2 hc rfl rfl dL_cards_195 (n := 196) rfl ?_
              refine n_iald (v := z 330) hc 1 rfl (by omega) (by decide) ((va_up_ne _ _ (by decide)).trans ((va_up_ne _ _ (by decide)).trans ((va_up_ne _ _ (by decide)).trans ((va_up_ne _ _ (by decide)).trans (rfl))))) dL_cards_196 (n := 197) rfl ?_
              refine g_aload hc 5 rfl dL_cards_197 (n := 199) rfl ?_
              refine g_iconst (v := nI 3) hc (by decide) dL_cards_199 (n := 200) rfl ?_
              refine n_iald (v := 1) hc 1 rfl (by omega) (by decide) ((va_up_ne _ _ (by decide)).trans (va_up_self _ _ _)) dL_cards_200 (n := 201) rfl ?_
              refine n_iadd (v := (z 330) + 1) hc rfl dL_cards_201 (n := 202) rfl ?_
              refine n_iast (ws' := ([(b0, aI κ 52 (fun k => z (52 + k))), (g0, aI κ 9 (va_up (va_up (va_up (va_up (va_up (fun k => z (324 + k)) 2 (ri z (z 325)).1) 4 (shk z)) 3 1) 5 ((z 329) + 1)) 6 ((z 330) + 1))), (q_96, aI κ 52 cw), (q_2, aI κ 52 z), (p0, aI κ 52 ((ri z (z 325)).2))] ++ w0)) hc 1 rfl (by omega) (by decide) rfl dL_cards_202 (n := 203) rfl ?_
              refine g_arr (ws' := ([(b0, aI κ 52 (fun k => z (52 + k))), (g0, aI κ 9 (fun k => shz z (324 + k))), (q_96, aI κ 52 cw), (q_2, aI κ 52 z), (p0, aI κ 52 ((ri z (z 325)).2))] ++ w0)) (f := va_up (va_up (va_up (va_up (va_up (fun k => z (324 + k)) 2 (ri z (z 325)).1) 4 (shk z)) 3 1) 5 ((z 329) + 1)) 6 ((z 330) + 1)) (g := fun k => shz z (324 + k)) 1 rfl (fun k hk => g_shz hcz k hk) rfl ?_
              refine g_aload_n hc 0 rfl rfl dL_cards_203 (n := 204) rfl ?_
              refine g_cls (As := []) (rest := []) hc (s_shuffle hw0  ) q_X4_shuffle k_ml_RL_86 rfl rfl (Oc.rc hw0) vw_4 ⟨⟨by decide, by decide⟩, by decide, by decide⟩ (Nat.le_of_ble_eq_true rfl) dL_cards_204 (n := 207) rfl (fun w_104 hw_105 => ?_)
              refine g_top (y := nI (shz z 328)) (congrArg nI ((shz_328 z).symm)) ?_
              refine g_aload hc 5 rfl dL_cards_207 (n := 209) rfl ?_
              refine g_iconst (v := nI 4) hc (by decide) dL_cards_209 (n := 210) rfl ?_
              refine n_iald (v := shz z 328) hc 1 rfl (by omega) (by decide) rfl dL_cards_210 (n := 211) rfl ?_
              refine g_icmp_ne hc dL_cards_211 (tgt := 218) (by decide) (n := 214) rfl (fun e => absurd rfl e) (fun _ => ?_)
              refine g_iconst (v := nI 1) hc (by decide) dL_cards_214 (n := 215) rfl ?_
              refine g_goto (n := 219) hc dL_cards_215 (by decide) ?_
              refine g_arr (ws' := ([(b0, aI κ 52 (fun k => z (52 + k))), (g0, aI κ 9 (fun k => shz z (324 + k))), (q_96, aI κ 52 cw), (q_2, aI κ 52 z), (p0, aI κ 52 (shz z))] ++ w_104)) (f := ((ri z (z 325)).2)) (g := shz z) 4 rfl (fun k hk => (shz_p z hk).symm) rfl ?_
              refine g_arr (ws' := ([(b0, aI κ 52 (fun k => shz z (52 + k))), (g0, aI κ 9 (fun k => shz z (324 + k))), (q_96, aI κ 52 cw), (q_2, aI κ 52 z), (p0, aI κ 52 (shz z))] ++ w_104)) (f := fun k => z (52 + k)) (g := fun k => shz z (52 + k)) 0 rfl (fun k hk => (shz_o z (by omega)).symm) rfl ?_
              refine g_subq (X' := [(p0, aI κ 52 (shz z)), (b0, aI κ 52 (fun k => shz z (52 + k))), (g0, aI κ 9 (fun k => shz z (324 + k)))]) [4, 0, 1] rfl rfl ?_
              refine hret.2.1 _ _ _ _ _ _ _ rfl rfl (by decide) (by decide) dL_cards_219 ?_
              exact ⟨_, rfl, (shz z), (rn n), w_104, (hw_105), (fun k h1 h2 => shz_o z (by omega)), rfl, rfl⟩
          · skip
            refine g_aload_n hc 3 rfl rfl dL_cards_136 (n := 137) rfl ?_
            refine g_aload hc 4 rfl dL_cards_137 (n := 139) rfl ?_
            refine g_aload hc 5 rfl dL_cards_139 (n := 141) rfl ?_
            refine g_iconst (v := nI 4294967295) hc (by decide) dL_cards_141 (n := 142) rfl ?_
            refine g_aload hc 8 rfl dL_cards_142 (n := 144) rfl ?_
            have hin := rit_in (b := bz z) hpz hzx i
            refine g_callS (rest := []) (As := [.ref p0, .ref b0, .ref g0, .int (nI 4294967295), .ref q_96]) (cells' := 2) (slots' := 104) hc (c_L_riffle κ _ p0 b0 g0 q_96 (nI 4294967295) ((ri z i).2) (fun k => z (52 + k)) (va_up (fun k => z (324 + k)) 2 (ri z i).1) cw (fun k => z (52 + k)) hin.2 (by rw [va_up_self]; exact hin.1) hzb (bb_no hzb)) q_L_riffle k_ml_RL_25 rfl rfl (jn_q (wr := [(q_2, aI κ 52 z)]) [2, 0, 1, 4] [3] rfl rfl rfl rfl (by decide)) ⟨⟨by decide, by decide⟩, by decide, by decide⟩ (Nat.le_of_ble_eq_true rfl) rfl rfl dL_cards_144 (n := 147) rfl (fun vv ww hp => ?_)
            obtain ⟨rfl, rfl⟩ := hp
            refine ⟨_, rfl, ?_⟩
            refine g_ws (ws' := ([(q_2, aI κ 52 z), (p0, aI κ 52 (rfp (fun k => z (52 + k)) ((ri z i).2) ((va_up (fun k => z (324 + k)) 2 (ri z i).1) 2))), (b0, aI κ 52 (fun k => z (52 + k))), (g0, aI κ 9 (va_up (va_up (fun k => z (324 + k)) 2 (ri z i).1) 2 (rfx (fun k => z (52 + k)) ((ri z i).2) ((va_up (fun k => z (324 + k)) 2 (ri z i).1) 2)))), (q_96, aI κ 52 ((ri z i).2))] ++ w0)) rfl ?_
            refine g_st (st' := []) rfl ?_
            refine g_arr (ws' := ([(q_2, aI κ 52 z), (p0, aI κ 52 ((ri z (i + 1)).2)), (b0, aI κ 52 (fun k => z (52 + k))), (g0, aI κ 9 (va_up (va_up (fun k => z (324 + k)) 2 (ri z i).1) 2 (rfx (fun k => z (52 + k)) ((ri z i).2) ((va_up (fun k => z (324 + k)) 2 (ri z i).1) 2)))), (q_96, aI κ 52 ((ri z i).2))] ++ w0)) (f := rfp (fun k => z (52 + k)) ((ri z i).2) ((va_up (fun k => z (324 + k)) 2 (ri z i).1) 2)) (g := (ri z (i + 1)).2) 1 rfl (fun k _ => by rw [va_up_self, ri_p]) rfl ?_
            refine g_arr (ws' := ([(q_2, aI κ 52 z), (p0, aI κ 52 ((ri z (i + 1)).2)), (b0, aI κ 52 (fun k => z (52 + k))), (g0, aI κ 9 (va_up (fun k => z (324 + k)) 2 (ri z (i + 1)).1)), (q_96, aI κ 52 ((ri z i).2))] ++ w0)) (f := va_up (va_up (fun k => z (324 + k)) 2 (ri z i).1) 2 (rfx (fun k => z (52 + k)) ((ri z i).2) ((va_up (fun k => z (324 + k)) 2 (ri z i).1) 2))) (g := va_up (fun k => z (324 + k)) 2 (ri z (i + 1)).1) 3 rfl (fun k _ => by rw [va_up_self, ri_x]; exact up_up k) rfl ?_
            refine n_iinc (v := i + 1) (zk := 1) (lv2 := [(0, .ref (a 0)), (1, .int x), (2, .int y), (3, .ref p0), (4, .ref b0), (5, .ref g0), (6, .int (nI (lw x % 12))), (7, .ref q_2), (8, .ref q_96), (9, .int (nI (i + 1)))]) hc 9 rfl (by decide) rfl (by decide) [1, 2, 3, 4, 5, 6, 7, 8, 9, 0] rfl rfl dL_cards_147 (n := 150) rfl ?_
            refine g_goto (n := 127) hc dL_cards_150 (by decide) ?_
            refine g_subq (X' := [(b0, aI κ 52 (fun k => z (52 + k))), (g0, aI κ 9 (va_up (fun k => z (324 + k)) 2 (ri z (i + 1)).1)), (p0, aI κ 52 ((ri z (i + 1)).2)), (q_2, aI κ 52 z), (q_96, aI κ 52 ((ri z i).2))]) [2, 3, 1, 0, 4] rfl rfl ?_
            exact ih_98 (i + 1) ((ri z i).2) (by omega) (by omega)
      exact L_97 _ 0 (fun _ => 0) (by omega) (Nat.lt_succ_self _)
  · skip
    refine g_iload_n hc 2 rfl rfl dL_cards_26 (n := 27) rfl ?_
    refine g_bipush (v := nI 52) hc (by decide) dL_cards_27 (n := 29) rfl ?_
    refine g_callS (rest := []) (As := [.int y, .int (nI 52)]) (cells' := 1) (slots' := 52) hc (c_L_low κ _ y 52 (by decide) (by decide)) q_L_low k_ml_RL_66 rfl rfl (jn_q (wr := [(b0, aI κ 52 (fun k => z (52 + k))), (g0, aI κ 9 (fun k => z (324 + k))), (p0, aI κ 52 z), (q_2, aI κ 52 z)]) [] [0, 1, 2, 3] rfl rfl rfl rfl (by decide)) ⟨⟨by decide, by decide⟩, by decide, by decide⟩ (Nat.le_of_ble_eq_true rfl) rfl rfl dL_cards_29 (n := 32) rfl (fun vv ww hp => ?_)
    obtain ⟨rr, rfl, rfl, rfl⟩ := hp
    refine ⟨_, rfl, ?_⟩
    refine g_ws (ws' := ([(b0, aI κ 52 (fun k => z (52 + k))), (g0, aI κ 9 (fun k => z (324 + k))), (p0, aI κ 52 z), (q_2, aI κ 52 z)] ++ w0)) rfl ?_
    refine g_st (st' := [.int (nI (lw y % 52))]) rfl ?_
    have lo_106 : lw y % 52 < 52 := Nat.mod_lt _ (by decide)
    obtain ⟨c, ec⟩ : ∃ c, c = lw y % 52 := ⟨_, rfl⟩
    have hcc : c < 52 := by omega
    refine g_top (y := nI c) (by rw [ec]) ?_
    refine g_istore (lv2 := [(0, .ref (a 0)), (1, .int x), (2, .int y), (3, .ref p0), (4, .ref b0), (5, .ref g0), (6, .int (nI (lw x % 12))), (7, .ref q_2), (8, .int (nI c))]) hc (by decide) [1, 2, 3, 4, 5, 6, 7, 8, 0] rfl rfl dL_cards_32 (n := 34) rfl ?_
    refine g_aload hc 4 rfl dL_cards_34 (n := 36) rfl ?_
    refine g_iload hc 8 rfl dL_cards_36 (n := 38) rfl ?_
    refine g_iconst (v := nI 1) hc (by decide) dL_cards_38 (n := 39) rfl ?_
    refine g_aload hc 4 rfl dL_cards_39 (n := 41) rfl ?_
    refine g_iload hc 8 rfl dL_cards_41 (n := 43) rfl ?_
    refine n_iald (v := z (52 + c)) hc 0 rfl (by omega) (by decide) rfl dL_cards_43 (n := 44) rfl ?_
    have b_107 := hzb c (by omega)
    refine n_isub (v := 1 - (z (52 + c))) hc (by omega) rfl dL_cards_44 (n := 45) rfl ?_
    refine n_iast (ws' := ([(b0, aI κ 52 (va_up (fun k => z (52 + k)) c (1 - (z (52 + c))))), (g0, aI κ 9 (fun k => z (324 + k))), (p0, aI κ 52 z), (q_2, aI κ 52 z)] ++ w0)) hc 0 rfl (by omega) (by decide) rfl dL_cards_45 (n := 46) rfl ?_
    refine g_arr (ws' := ([(b0, aI κ 52 (fun k => flp z c (52 + k))), (g0, aI κ 9 (fun k => z (324 + k))), (p0, aI κ 52 z), (q_2, aI κ 52 z)] ++ w0)) (f := va_up (fun k => z (52 + k)) c (1 - (z (52 + c)))) (g := fun k => flp z c (52 + k)) 0 rfl (fun k hk => by show _ = flp z c (52 + k); unfold flp va_up; (repeat' split) <;> first | rfl | (exfalso; omega)) rfl ?_
    refine g_iconst (v := nI 0) hc (by decide) dL_cards_46 (n := 47) rfl ?_
    refine g_istore (lv2 := [(0, .ref (a 0)), (1, .int x), (2, .int y), (3, .ref p0), (4, .ref b0), (5, .ref g0), (6, .int (nI (lw x % 12))), (7, .ref q_2), (8, .int (nI c)), (9, .int (nI 0))]) hc (by decide) [1, 2, 3, 4, 5, 6, 7, 8, 9, 0] rfl rfl dL_cards_47 (n := 49) rfl ?_
    refine g_iconst (v := nI 0) hc (by decide) dL_cards_49 (n := 50) rfl ?_
    refine g_istore (lv2 := [(0, .ref (a 0)), (1, .int x), (2, .int y), (3, .ref p0), (4, .ref b0), (5, .ref g0), (6, .int (nI (lw x % 12))), (7, .ref q_2), (8, .int (nI c)), (9, .int (nI 0)), (10, .int (nI 0))]) hc (by decide) [1, 2, 3, 4, 5, 6, 7, 8, 9, 10, 0] rfl rfl dL_cards_50 (n := 52) rfl ?_
    have L_108 : ∀ (fuel : Nat) (k : Nat) (bn : Nat), (k ≤ 52) → (bn = sm (fun k => flp z c (52 + k)) k) → 52 - k < fuel → G κ Γ A 11 1 52 Q ([(b0, aI κ 52 (fun k => flp z c (52 + k))), (g0, aI κ 9 (fun k => z (324 + k))), (p0, aI κ 52 z), (q_2, aI κ 52 z)] ++ w0) 52 [(0, .ref (a 0)), (1, .int x), (2, .int y), (3, .ref p0), (4, .ref b0), (5, .ref g0), (6, .int (nI (lw x % 12))), (7, .ref q_2), (8, .int (nI c)), (9, .int (nI bn)), (10, .int (nI k))] [] := by
      intro fuel
      induction fuel with
      | zero => intro k bn hk hbn h; exact absurd h (Nat.not_lt_zero _)
      | succ fuel ih_109 =>
        intro k bn hk hbn hn_110
        refine g_iload hc 10 rfl dL_cards_52 (n := 54) rfl ?_
        refine g_bipush (v := nI 52) hc (by decide) dL_cards_54 (n := 56) rfl ?_
        refine n_icmp_ge hc (by omega) (by omega) dL_cards_56 (tgt := 75) (by decide) (n := 59) rfl (fun c_111 => ?_) (fun c_111 => ?_)
        · skip
          have ebn : bn = nbt (flp z c) := by have e9 : k = 52 := (by omega); subst e9; exact hbn
          refine g_aload_n hc 0 rfl rfl dL_cards_75 (n := 76) rfl ?_
          refine g_iload hc 8 rfl dL_cards_76 (n := 78) rfl ?_
          refine g_cls (As := [.int (nI c)]) (rest := []) hc (s_bend_ok hw0 c hcc) q_X4_bend k_ml_RL_83 rfl rfl (Oc.rc hw0) vw_4 ⟨⟨by decide, by decide⟩, by decide, by decide⟩ (Nat.le_of_ble_eq_true rfl) dL_cards_78 (n := 81) rfl (fun w_112 hw_113 => ?_)
          refine g_top (y := nI bn) (congrArg nI (ebn.symm)) ?_
          refine g_iload hc 9 rfl dL_cards_81 (n := 83) rfl ?_
          refine g_icmp_ne hc dL_cards_83 (tgt := 109) (by decide) (n := 86) rfl (fun e => absurd rfl e) (fun _ => ?_)
          refine g_aload_n hc 0 rfl rfl dL_cards_86 (n := 87) rfl ?_
          refine g_bipush (v := nI 52) hc (by decide) dL_cards_87 (n := 89) rfl ?_
          refine g_cls (As := [.int (nI 52)]) (rest := []) hc (s_bend_er hw_113 (nI 52) (by decide)) q_X4_bend k_ml_RL_83 rfl rfl (Oc.rc hw_113) vw_4 ⟨⟨by decide, by decide⟩, by decide, by decide⟩ (Nat.le_of_ble_eq_true rfl) dL_cards_89 (n := 92) rfl (fun w_114 hw_115 => ?_)
          refine g_iconst (v := nI 4294967295) hc (by decide) dL_cards_92 (n := 93) rfl ?_
          refine g_icmp_ne hc dL_cards_93 (tgt := 109) (by decide) (n := 96) rfl (fun e => absurd rfl e) (fun _ => ?_)
          refine g_aload_n hc 0 rfl rfl dL_cards_96 (n := 97) rfl ?_
          refine g_iconst (v := nI 4294967295) hc (by decide) dL_cards_97 (n := 98) rfl ?_
          refine g_cls (As := [.int (nI 4294967295)]) (rest := []) hc (s_bend_er hw_115 (nI 4294967295) (by decide)) q_X4_bend k_ml_RL_83 rfl rfl (Oc.rc hw_115) vw_4 ⟨⟨by decide, by decide⟩, by decide, by decide⟩ (Nat.le_of_ble_eq_true rfl) dL_cards_98 (n := 101) rfl (fun w_116 hw_117 => ?_)
          refine g_iconst (v := nI 4294967295) hc (by decide) dL_cards_101 (n := 102) rfl ?_
          refine g_icmp_ne hc dL_cards_102 (tgt := 109) (by decide) (n := 105) rfl (fun e => absurd rfl e) (fun _ => ?_)
          refine g_iconst (v := nI 1) hc (by decide) dL_cards_105 (n := 106) rfl ?_
          refine g_goto (n := 110) hc dL_cards_106 (by decide) ?_
          refine g_arr (ws' := ([(b0, aI κ 52 (fun k => flp z c (52 + k))), (g0, aI κ 9 (fun k => z (324 + k))), (p0, aI κ 52 (flp z c)), (q_2, aI κ 52 z)] ++ w_116)) (f := z) (g := flp z c) 2 rfl (fun k hk => by show _ = flp z c k; unfold flp va_up; (repeat' split) <;> first | rfl | (exfalso; omega)) rfl ?_
          refine g_arr (ws' := ([(b0, aI κ 52 (fun k => flp z c (52 + k))), (g0, aI κ 9 (fun k => flp z c (324 + k))), (p0, aI κ 52 (flp z c)), (q_2, aI κ 52 z)] ++ w_116)) (f := fun k => z (324 + k)) (g := fun k => flp z c (324 + k)) 1 rfl (fun k hk => by show _ = flp z c (324 + k); unfold flp va_up; (repeat' split) <;> first | rfl | (exfalso; omega)) rfl ?_
          refine g_subq (X' := [(p0, aI κ 52 (flp z c)), (b0, aI κ 52 (fun k => flp z c (52 + k))), (g0, aI κ 9 (fun k => flp z c (324 + k)))]) [2, 0, 1] rfl rfl ?_
          refine hret.2.1 _ _ _ _ _ _ _ rfl rfl (by decide) (by decide) dL_cards_110 ?_
          exact ⟨_, rfl, (flp z c), (rn n), w_116, (hw_117), (fun k h1 h2 => by show flp z c k = z k; unfold flp va_up; (repeat' split) <;> first | rfl | (exfalso; omega)), rfl, rfl⟩
        · skip
          refine g_iload hc 9 rfl dL_cards_59 (n := 61) rfl ?_
          refine g_aload hc 4 rfl dL_cards_61 (n := 63) rfl ?_
          refine g_iload hc 10 rfl dL_cards_63 (n := 65) rfl ?_
          refine n_iald (v := flp z c (52 + k)) hc 0 rfl (by omega) (by decide) rfl dL_cards_65 (n := 66) rfl ?_
          refine n_iadd (v := bn + (flp z c (52 + k))) hc rfl dL_cards_66 (n := 67) rfl ?_
          refine g_istore (lv2 := [(0, .ref (a 0)), (1, .int x), (2, .int y), (3, .ref p0), (4, .ref b0), (5, .ref g0), (6, .int (nI (lw x % 12))), (7, .ref q_2), (8, .int (nI c)), (9, .int (nI (bn + (flp z c (52 + k))))), (10, .int (nI k))]) hc (by decide) [1, 2, 3, 4, 5, 6, 7, 8, 9, 0, 10] rfl rfl dL_cards_67 (n := 69) rfl ?_
          refine n_iinc (v := k + 1) (zk := 1) (lv2 := [(0, .ref (a 0)), (1, .int x), (2, .int y), (3, .ref p0), (4, .ref b0), (5, .ref g0), (6, .int (nI (lw x % 12))), (7, .ref q_2), (8, .int (nI c)), (9, .int (nI (bn + (flp z c (52 + k))))), (10, .int (nI (k + 1)))]) hc 10 rfl (by decide) rfl (by decide) [1, 2, 3, 4, 5, 6, 7, 8, 9, 10, 0] rfl rfl dL_cards_69 (n := 72) rfl ?_
          refine g_goto (n := 52) hc dL_cards_72 (by decide) ?_
          exact ih_109 (k + 1) (bn + (flp z c (52 + k))) (by omega) (by rw [sm_s, ← hbn]) (by omega)
    exact L_108 _ 0 0 (by omega) (rfl) (Nat.lt_succ_self _)
set_option maxHeartbeats 1000000 in
set_option maxRecDepth 100000 in
theorem c_L_boards (κ : Kp) (l : Launch) (a : Nat → Nat) (q : Nat → Nat) (z : Nat → Nat) (n : Nat) (w0 : va_W) (x : Int32) (y : Int32) (p0 : Nat) (g0 : Nat) (t0 : Nat) (h0 : Nat) (bo : Nat) (hw0 : Oc κ a q z n w0) (hbo : bo = lw y % 4) : CT κ l yL_boards cL_boards 11 (some .boolean) 5 134 0 0 [.ref (a 0), .int x, .int y, .ref p0, .ref g0, .ref t0, .ref h0] ([(p0, aI κ 52 z), (g0, aI κ 9 (fun k => z (324 + k))), (t0, aI κ 12 (tt z)), (h0, aI κ 52 (hd z bo))] ++ w0) (PI (fun rr ww => ∃ z2 : Nat → Nat, ∃ n2 : Nat, ∃ w2 : va_W, (Oc κ a q z2 n2 w2) ∧ (∀ k, k < 104 → z2 k = z k) ∧ (∀ j, j < 4 → j ≠ bo → ∀ k, k < 52 → hd z2 j k = hd z j k) ∧ rr = (nI 1) ∧ ww = [(p0, aI κ 52 z2), (g0, aI κ 9 (fun k => z2 (324 + k))), (t0, aI κ 12 (tt z2)), (h0, aI κ 52 (hd z2 bo))] ++ w2)) := by
  refine CT.go (by decide +kernel) (Nat.le_of_ble_eq_true rfl) ?_
  intro Γ A Q hl hc hret
  subst hl
  have hc : Cx κ Γ A cL_boards 11 RL "boards" (some .boolean) { frames := 5, cells := 0, slots := 0, locals := 134 } := hc
  refine g_lv (lv' := [(0, .ref (a 0)), (1, .int x), (2, .int y), (3, .ref p0), (4, .ref g0), (5, .ref t0), (6, .ref h0)]) rfl ?_
  obtain ⟨hzb, hzf, hzc, hpz, hzh, hk1, hk2, hzx⟩ := hw0.zv
  have hb : bo < 4 := by omega
  have hz1 : z (312 + bo) ≤ 1 := hzf bo (by omega)
  have hz2 : z (316 + bo) ≤ 1 := by have := hzf (4 + bo) (by omega); rwa [← Nat.add_assoc] at this
  have hly := lw_lt y
  refine g_iload_n hc 1 rfl rfl dL_boards_0 (n := 1) rfl ?_
  refine g_bipush (v := nI 6) hc (by decide) dL_boards_1 (n := 3) rfl ?_
  refine g_callS (rest := []) (As := [.int x, .int (nI 6)]) (cells' := 0) (slots' := 0) hc (c_L_low κ _ x 6 (by decide) (by decide)) q_L_low k_ml_RL_66 rfl rfl (jn_q (wr := [(p0, aI κ 52 z), (g0, aI κ 9 (fun k => z (324 + k))), (t0, aI κ 12 (tt z)), (h0, aI κ 52 (hd z bo))]) [] [0, 1, 2, 3] rfl rfl rfl rfl (by decide)) ⟨⟨by decide, by decide⟩, by decide, by decide⟩ (Nat.le_of_ble_eq_true rfl) rfl rfl dL_boards_3 (n := 6) rfl (fun vv ww hp => ?_)
  obtain ⟨rr, rfl, rfl, rfl⟩ := hp
  refine ⟨_, rfl, ?_⟩
  refine g_ws (ws' := ([(p0, aI κ 52 z), (g0, aI κ 9 (fun k => z (324 + k))), (t0, aI κ 12 (tt z)), (h0, aI κ 52 (hd z bo))] ++ w0)) rfl ?_
  refine g_st (st' := [.int (nI (lw x % 6))]) rfl ?_
  have lo_1 : lw x % 6 < 6 := Nat.mod_lt _ (by decide)
  refine g_istore (lv2 := [(0, .ref (a 0)), (1, .int x), (2, .int y), (3, .ref p0), (4, .ref g0), (5, .ref t0), (6, .ref h0), (7, .int (nI (lw x % 6)))]) hc (by decide) [1, 2, 3, 4, 5, 6, 7, 0] rfl rfl dL_boards_6 (n := 8) rfl ?_
  refine g_iload_n hc 2 rfl rfl dL_boards_8 (n := 9) rfl ?_
  refine g_iconst (v := nI 4) hc (by decide) dL_boards_9 (n := 10) rfl ?_
  refine g_callS (rest := []) (As := [.int y, .int (nI 4)]) (cells' := 0) (slots' := 0) hc (c_L_low κ _ y 4 (by decide) (by decide)) q_L_low k_ml_RL_66 rfl rfl (jn_q (wr := [(p0, aI κ 52 z), (g0, aI κ 9 (fun k => z (324 + k))), (t0, aI κ 12 (tt z)), (h0, aI κ 52 (hd z bo))]) [] [0, 1, 2, 3] rfl rfl rfl rfl (by decide)) ⟨⟨by decide, by decide⟩, by decide, by decide⟩ (Nat.le_of_ble_eq_true rfl) rfl rfl dL_boards_10 (n := 13) rfl (fun vv ww hp => ?_)
  obtain ⟨rr, rfl, rfl, rfl⟩ := hp
  refine ⟨_, rfl, ?_⟩
  refine g_ws (ws' := ([(p0, aI κ 52 z), (g0, aI κ 9 (fun k => z (324 + k))), (t0, aI κ 12 (tt z)), (h0, aI κ 52 (hd z bo))] ++ w0)) rfl ?_
  refine g_st (st' := [.int (nI (lw y % 4))]) rfl ?_
  have lo_2 : lw y % 4 < 4 := Nat.mod_lt _ (by decide)
  refine g_top (y := nI bo) (by rw [hbo]) ?_
  refine g_istore (lv2 := [(0, .ref (a 0)), (1, .int x), (2, .int y), (3, .ref p0), (4, .ref g0), (5, .ref t0), (6, .ref h0), (7, .int (nI (lw x % 6))), (8, .int (nI bo))]) hc (by decide) [1, 2, 3, 4, 5, 6, 7, 8, 0] rfl rfl dL_boards_13 (n := 15) rfl ?_
  refine g_bipush (v := nI 4294967291) hc (by decide) dL_boards_15 (n := 17) rfl ?_
  refine g_istore (lv2 := [(0, .ref (a 0)), (1, .int x), (2, .int y), (3, .ref p0), (4, .ref g0), (5, .ref t0), (6, .ref h0), (7, .int (nI (lw x % 6))), (8, .int (nI bo)), (9, .int (nI 4294967291))]) hc (by decide) [1, 2, 3, 4, 5, 6, 7, 8, 9, 0] rfl rfl dL_boards_17 (n := 19) rfl ?_
  refine g_iload hc 7 rfl dL_boards_19 (n := 21) rfl ?_
  refine g_iconst (v := nI 3) hc (by decide) dL_boards_21 (n := 22) rfl ?_
  refine n_icmp_ge hc (by omega) (by omega) dL_boards_22 (tgt := 151) (by decide) (n := 25) rfl (fun c_3 => ?_) (fun c_3 => ?_)
  · skip
    refine g_iload hc 7 rfl dL_boards_151 (n := 153) rfl ?_
    refine g_iconst (v := nI 5) hc (by decide) dL_boards_153 (n := 154) rfl ?_
    refine n_icmp_ge hc (by omega) (by omega) dL_boards_154 (tgt := 252) (by decide) (n := 157) rfl (fun c_4 => ?_) (fun c_4 => ?_)
    · skip
      refine g_aload hc 5 rfl dL_boards_252 (n := 254) rfl ?_
      refine g_iconst (v := nI 3) hc (by decide) dL_boards_254 (n := 255) rfl ?_
      refine g_iload hc 8 rfl dL_boards_255 (n := 257) rfl ?_
      refine n_imul (v := 3 * bo) hc rfl dL_boards_257 (n := 258) rfl ?_
      refine g_iconst (v := nI 1) hc (by decide) dL_boards_258 (n := 259) rfl ?_
      refine n_iadd (v := (3 * bo) + 1) hc rfl dL_boards_259 (n := 260) rfl ?_
      refine n_iald (v := z (316 + bo)) hc 2 rfl (by omega) (by decide) (tt_1 z bo) dL_boards_260 (n := 261) rfl ?_
      refine n_if_ne hc (by omega) dL_boards_261 (tgt := 290) (by decide) (n := 264) rfl (fun c_5 => ?_) (fun c_5 => ?_)
      · skip
        refine g_aload hc 5 rfl dL_boards_290 (n := 292) rfl ?_
        refine g_iconst (v := nI 3) hc (by decide) dL_boards_292 (n := 293) rfl ?_
        refine g_iload hc 8 rfl dL_boards_293 (n := 295) rfl ?_
        refine n_imul (v := 3 * bo) hc rfl dL_boards_295 (n := 296) rfl ?_
        refine g_iconst (v := nI 1) hc (by decide) dL_boards_296 (n := 297) rfl ?_
        refine n_iadd (v := (3 * bo) + 1) hc rfl dL_boards_297 (n := 298) rfl ?_
        refine g_iconst (v := nI 0) hc (by decide) dL_boards_298 (n := 299) rfl ?_
        refine n_iast (ws' := ([(p0, aI κ 52 z), (g0, aI κ 9 (fun k => z (324 + k))), (t0, aI κ 12 (va_up (tt z) ((3 * bo) + 1) 0)), (h0, aI κ 52 (hd z bo))] ++ w0)) hc 2 rfl (by omega) (by decide) rfl dL_boards_299 (n := 300) rfl ?_
        refine g_aload hc 5 rfl dL_boards_300 (n := 302) rfl ?_
        refine g_iconst (v := nI 3) hc (by decide) dL_boards_302 (n := 303) rfl ?_
        refine g_iload hc 8 rfl dL_boards_303 (n := 305) rfl ?_
        refine n_imul (v := 3 * bo) hc rfl dL_boards_305 (n := 306) rfl ?_
        refine g_iconst (v := nI 2) hc (by decide) dL_boards_306 (n := 307) rfl ?_
        refine n_iadd (v := (3 * bo) + 2) hc rfl dL_boards_307 (n := 308) rfl ?_
        refine g_dup2 hc rfl rfl dL_boards_308 (n := 309) rfl ?_
        refine n_iald (v := z (320 + bo)) hc 2 rfl (by omega) (by decide) ((va_up_ne _ _ (by omega)).trans ((tt_2 z bo))) dL_boards_309 (n := 310) rfl ?_
        refine g_iconst (v := nI 1) hc (by decide) dL_boards_310 (n := 311) rfl ?_
        refine n_iadd (v := (z (320 + bo)) + 1) hc rfl dL_boards_311 (n := 312) rfl ?_
        refine n_iast (ws' := ([(p0, aI κ 52 z), (g0, aI κ 9 (fun k => z (324 + k))), (t0, aI κ 12 (va_up (va_up (tt z) ((3 * bo) + 1) 0) ((3 * bo) + 2) ((z (320 + bo)) + 1))), (h0, aI κ 52 (hd z bo))] ++ w0)) hc 2 rfl (by omega) (by decide) rfl dL_boards_312 (n := 313) rfl ?_
        refine g_aload hc 4 rfl dL_boards_313 (n := 315) rfl ?_
        refine g_bipush (v := nI 8) hc (by decide) dL_boards_315 (n := 317) rfl ?_
        refine g_dup2 hc rfl rfl dL_boards_317 (n := 318) rfl ?_
        refine n_iald (v := z 332) hc 1 rfl (by omega) (by decide) (rfl) dL_boards_318 (n := 319) rfl ?_
        refine g_iconst (v := nI 1) hc (by decide) dL_boards_319 (n := 320) rfl ?_
        refine n_iadd (v := (z 332) + 1) hc rfl dL_boards_320 (n := 321) rfl ?_
        refine n_iast (ws' := ([(p0, aI κ 52 z), (g0, aI κ 9 (va_up (fun k => z (324 + k)) 8 ((z 332) + 1))), (t0, aI κ 12 (va_up (va_up (tt z) ((3 * bo) + 1) 0) ((3 * bo) + 2) ((z (320 + bo)) + 1))), (h0, aI κ 52 (hd z bo))] ++ w0)) hc 1 rfl (by omega) (by decide) rfl dL_boards_321 (n := 322) rfl ?_
        refine g_aload_n hc 0 rfl rfl dL_boards_322 (n := 323) rfl ?_
        refine g_iload hc 8 rfl dL_boards_323 (n := 325) rfl ?_
        refine g_cls (As := [.int (nI bo)]) (rest := []) hc (s_open_ok hw0 bo hb (by omega)) q_X4_open k_ml_RL_107 rfl rfl (Oc.rc hw0) vw_4 ⟨⟨by decide, by decide⟩, by decide, by decide⟩ (Nat.le_of_ble_eq_true rfl) dL_boards_325 (n := 328) rfl (fun w_6 hw_7 => ?_)
        refine g_aload hc 5 rfl dL_boards_328 (n := 330) rfl ?_
        refine g_iconst (v := nI 3) hc (by decide) dL_boards_330 (n := 331) rfl ?_
        refine g_iload hc 8 rfl dL_boards_331 (n := 333) rfl ?_
        refine n_imul (v := 3 * bo) hc rfl dL_boards_333 (n := 334) rfl ?_
        refine g_iconst (v := nI 2) hc (by decide) dL_boards_334 (n := 335) rfl ?_
        refine n_iadd (v := (3 * bo) + 2) hc rfl dL_boards_335 (n := 336) rfl ?_
        refine n_iald (v := (z (320 + bo)) + 1) hc 2 rfl (by omega) (by decide) (va_up_self _ _ _) dL_boards_336 (n := 337) rfl ?_
        refine g_icmp_ne hc dL_boards_337 (tgt := 344) (by decide) (n := 340) rfl (fun e => absurd rfl e) (fun _ => ?_)
        refine g_iconst (v := nI 1) hc (by decide) dL_boards_340 (n := 341) rfl ?_
        refine g_goto (n := 345) hc dL_boards_341 (by decide) ?_
        refine g_arr (ws' := ([(p0, aI κ 52 z), (g0, aI κ 9 (va_up (fun k => z (324 + k)) 8 ((z 332) + 1))), (t0, aI κ 12 (tt (opz z bo))), (h0, aI κ 52 (hd z bo))] ++ w_6)) (f := va_up (va_up (tt z) ((3 * bo) + 1) 0) ((3 * bo) + 2) ((z (320 + bo)) + 1)) (g := tt (opz z bo)) 2 rfl (fun k hk => t_opz hb k hk) rfl ?_
        refine g_arr (ws' := ([(p0, aI κ 52 z), (g0, aI κ 9 (fun k => opz z bo (324 + k))), (t0, aI κ 12 (tt (opz z bo))), (h0, aI κ 52 (hd z bo))] ++ w_6)) (f := va_up (fun k => z (324 + k)) 8 ((z 332) + 1)) (g := fun k => opz z bo (324 + k)) 1 rfl (fun k hk => g_opz hb k hk) rfl ?_
        refine g_arr (ws' := ([(p0, aI κ 52 (opz z bo)), (g0, aI κ 9 (fun k => opz z bo (324 + k))), (t0, aI κ 12 (tt (opz z bo))), (h0, aI κ 52 (hd z bo))] ++ w_6)) (f := z) (g := opz z bo) 0 rfl (fun k hk => (o_opz hb (by omega)).symm) rfl ?_
        refine g_arr (ws' := ([(p0, aI κ 52 (opz z bo)), (g0, aI κ 9 (fun k => opz z bo (324 + k))), (t0, aI κ 12 (tt (opz z bo))), (h0, aI κ 52 (hd (opz z bo) bo))] ++ w_6)) (f := hd z bo) (g := hd (opz z bo) bo) 3 rfl (fun k hk => by show z (104 + 52 * bo + k) = opz z bo (104 + 52 * bo + k); exact (o_opz hb (by omega)).symm) rfl ?_
        refine hret.2.1 _ _ _ _ _ _ _ rfl rfl (by decide) (by decide) dL_boards_345 ?_
        exact ⟨_, rfl, (opz z bo), (rn n), w_6, (hw_7), (fun k hk => o_opz hb (by omega)), (fun j hj hne k hk => by show opz z bo (104 + 52 * j + k) = z (104 + 52 * j + k); exact o_opz hb (by omega)), rfl, rfl⟩
      · skip
        refine g_aload_n hc 0 rfl rfl dL_boards_264 (n := 265) rfl ?_
        refine g_iload hc 8 rfl dL_boards_265 (n := 267) rfl ?_
        refine g_cls (As := [.int (nI bo)]) (rest := []) hc (s_open_no hw0 bo hb (by omega)) q_X4_open k_ml_RL_107 rfl rfl (Oc.rc hw0) vw_4 ⟨⟨by decide, by decide⟩, by decide, by decide⟩ (Nat.le_of_ble_eq_true rfl) dL_boards_267 (n := 270) rfl (fun w_8 hw_9 => ?_)
        refine g_iload hc 9 rfl dL_boards_270 (n := 272) rfl ?_
        refine g_icmp_ne hc dL_boards_272 (tgt := 288) (by decide) (n := 275) rfl (fun e => absurd rfl e) (fun _ => ?_)
        refine g_aload_n hc 0 rfl rfl dL_boards_275 (n := 276) rfl ?_
        refine g_iconst (v := nI 4) hc (by decide) dL_boards_276 (n := 277) rfl ?_
        refine g_cls (As := [.int (nI 4)]) (rest := []) hc (s_open_er hw_9 (nI 4) (by decide)) q_X4_open k_ml_RL_107 rfl rfl (Oc.rc hw_9) vw_4 ⟨⟨by decide, by decide⟩, by decide, by decide⟩ (Nat.le_of_ble_eq_true rfl) dL_boards_277 (n := 280) rfl (fun w_10 hw_11 => ?_)
        refine g_iconst (v := nI 4294967295) hc (by decide) dL_boards_280 (n := 281) rfl ?_
        refine g_icmp_ne hc dL_boards_281 (tgt := 288) (by decide) (n := 284) rfl (fun e => absurd rfl e) (fun _ => ?_)
        refine g_iconst (v := nI 1) hc (by decide) dL_boards_284 (n := 285) rfl ?_
        refine g_goto (n := 289) hc dL_boards_285 (by decide) ?_
        refine hret.2.1 _ _ _ _ _ _ _ rfl rfl (by decide) (by decide) dL_boards_289 ?_
        exact ⟨_, rfl, z, n, w_10, (hw_11), (fun _ _ => rfl), (fun _ _ _ _ _ => rfl), rfl, rfl⟩
    · skip
      refine g_aload hc 5 rfl dL_boards_157 (n := 159) rfl ?_
      refine g_iconst (v := nI 3) hc (by decide) dL_boards_159 (n := 160) rfl ?_
      refine g_iload hc 8 rfl dL_boards_160 (n := 162) rfl ?_
      refine n_imul (v := 3 * bo) hc rfl dL_boards_162 (n := 163) rfl ?_
      refine n_iald (v := z (312 + bo)) hc 2 rfl (by omega) (by decide) (tt_0 z bo) dL_boards_163 (n := 164) rfl ?_
      refine n_if_eq hc (by omega) dL_boards_164 (tgt := 180) (by decide) (n := 167) rfl (fun c_12 => ?_) (fun c_12 => ?_)
      · skip
        refine g_aload_n hc 0 rfl rfl dL_boards_180 (n := 181) rfl ?_
        refine g_iload hc 8 rfl dL_boards_181 (n := 183) rfl ?_
        refine g_cls (As := [.int (nI bo)]) (rest := []) hc (s_seal_no hw0 bo hb (by omega) hz2 hz1) q_X4_seal k_ml_RL_104 rfl rfl (Oc.rc hw0) vw_4 ⟨⟨by decide, by decide⟩, by decide, by decide⟩ (Nat.le_of_ble_eq_true rfl) dL_boards_183 (n := 186) rfl (fun w_13 hw_14 => ?_)
        refine g_iload hc 9 rfl dL_boards_186 (n := 188) rfl ?_
        refine g_icmp_ne hc dL_boards_188 (tgt := 204) (by decide) (n := 191) rfl (fun e => absurd rfl e) (fun _ => ?_)
        refine g_aload_n hc 0 rfl rfl dL_boards_191 (n := 192) rfl ?_
        refine g_iconst (v := nI 4294967295) hc (by decide) dL_boards_192 (n := 193) rfl ?_
        refine g_cls (As := [.int (nI 4294967295)]) (rest := []) hc (s_seal_er hw_14 (nI 4294967295) (by decide)) q_X4_seal k_ml_RL_104 rfl rfl (Oc.rc hw_14) vw_4 ⟨⟨by decide, by decide⟩, by decide, by decide⟩ (Nat.le_of_ble_eq_true rfl) dL_boards_193 (n := 196) rfl (fun w_15 hw_16 => ?_)
        refine g_iconst (v := nI 4294967295) hc (by decide) dL_boards_196 (n := 197) rfl ?_
        refine g_icmp_ne hc dL_boards_197 (tgt := 204) (by decide) (n := 200) rfl (fun e => absurd rfl e) (fun _ => ?_)
        refine g_iconst (v := nI 1) hc (by decide) dL_boards_200 (n := 201) rfl ?_
        refine g_goto (n := 205) hc dL_boards_201 (by decide) ?_
        refine hret.2.1 _ _ _ _ _ _ _ rfl rfl (by decide) (by decide) dL_boards_205 ?_
        exact ⟨_, rfl, z, n, w_15, (hw_16), (fun _ _ => rfl), (fun _ _ _ _ _ => rfl), rfl, rfl⟩
      · skip
        refine g_aload hc 5 rfl dL_boards_167 (n := 169) rfl ?_
        refine g_iconst (v := nI 3) hc (by decide) dL_boards_169 (n := 170) rfl ?_
        refine g_iload hc 8 rfl dL_boards_170 (n := 172) rfl ?_
        refine n_imul (v := 3 * bo) hc rfl dL_boards_172 (n := 173) rfl ?_
        refine g_iconst (v := nI 1) hc (by decide) dL_boards_173 (n := 174) rfl ?_
        refine n_iadd (v := (3 * bo) + 1) hc rfl dL_boards_174 (n := 175) rfl ?_
        refine n_iald (v := z (316 + bo)) hc 2 rfl (by omega) (by decide) (tt_1 z bo) dL_boards_175 (n := 176) rfl ?_
        refine g_iconst (v := nI 1) hc (by decide) dL_boards_176 (n := 177) rfl ?_
        refine n_icmp_ne hc (by omega) (by omega) dL_boards_177 (tgt := 206) (by decide) (n := 180) rfl (fun c_17 => ?_) (fun c_17 => ?_)
        · skip
          refine g_aload hc 5 rfl dL_boards_206 (n := 208) rfl ?_
          refine g_iconst (v := nI 3) hc (by decide) dL_boards_208 (n := 209) rfl ?_
          refine g_iload hc 8 rfl dL_boards_209 (n := 211) rfl ?_
          refine n_imul (v := 3 * bo) hc rfl dL_boards_211 (n := 212) rfl ?_
          refine g_iconst (v := nI 1) hc (by decide) dL_boards_212 (n := 213) rfl ?_
          refine n_iadd (v := (3 * bo) + 1) hc rfl dL_boards_213 (n := 214) rfl ?_
          refine g_iconst (v := nI 1) hc (by decide) dL_boards_214 (n := 215) rfl ?_
          refine n_iast (ws' := ([(p0, aI κ 52 z), (g0, aI κ 9 (fun k => z (324 + k))), (t0, aI κ 12 (va_up (tt z) ((3 * bo) + 1) 1)), (h0, aI κ 52 (hd z bo))] ++ w0)) hc 2 rfl (by omega) (by decide) rfl dL_boards_215 (n := 216) rfl ?_
          refine g_aload_n hc 0 rfl rfl dL_boards_216 (n := 217) rfl ?_
          refine g_iload hc 8 rfl dL_boards_217 (n := 219) rfl ?_
          refine g_cls (As := [.int (nI bo)]) (rest := []) hc (s_seal_ok hw0 bo hb (by omega) (by omega)) q_X4_seal k_ml_RL_104 rfl rfl (Oc.rc hw0) vw_4 ⟨⟨by decide, by decide⟩, by decide, by decide⟩ (Nat.le_of_ble_eq_true rfl) dL_boards_219 (n := 222) rfl (fun w_18 hw_19 => ?_)
          refine g_top (y := nI ((((sez z bo 316) + (sez z bo 317)) + (sez z bo 318)) + (sez z bo 319))) (congrArg nI (sm4 (fun k => sez z bo (316 + k)))) ?_
          refine g_aload hc 5 rfl dL_boards_222 (n := 224) rfl ?_
          refine g_iconst (v := nI 1) hc (by decide) dL_boards_224 (n := 225) rfl ?_
          refine n_iald (v := sez z bo 316) hc 2 rfl (by omega) (by decide) (s_sez hb 0 (by decide)) dL_boards_225 (n := 226) rfl ?_
          refine g_aload hc 5 rfl dL_boards_226 (n := 228) rfl ?_
          refine g_iconst (v := nI 4) hc (by decide) dL_boards_228 (n := 229) rfl ?_
          refine n_iald (v := sez z bo 317) hc 2 rfl (by omega) (by decide) (s_sez hb 1 (by decide)) dL_boards_229 (n := 230) rfl ?_
          refine n_iadd (v := (sez z bo 316) + (sez z bo 317)) hc rfl dL_boards_230 (n := 231) rfl ?_
          refine g_aload hc 5 rfl dL_boards_231 (n := 233) rfl ?_
          refine g_bipush (v := nI 7) hc (by decide) dL_boards_233 (n := 235) rfl ?_
          refine n_iald (v := sez z bo 318) hc 2 rfl (by omega) (by decide) (s_sez hb 2 (by decide)) dL_boards_235 (n := 236) rfl ?_
          refine n_iadd (v := ((sez z bo 316) + (sez z bo 317)) + (sez z bo 318)) hc rfl dL_boards_236 (n := 237) rfl ?_
          refine g_aload hc 5 rfl dL_boards_237 (n := 239) rfl ?_
          refine g_bipush (v := nI 10) hc (by decide) dL_boards_239 (n := 241) rfl ?_
          refine n_iald (v := sez z bo 319) hc 2 rfl (by omega) (by decide) (s_sez hb 3 (by decide)) dL_boards_241 (n := 242) rfl ?_
          refine n_iadd (v := (((sez z bo 316) + (sez z bo 317)) + (sez z bo 318)) + (sez z bo 319)) hc rfl dL_boards_242 (n := 243) rfl ?_
          refine g_icmp_ne hc dL_boards_243 (tgt := 250) (by decide) (n := 246) rfl (fun e => absurd rfl e) (fun _ => ?_)
          refine g_iconst (v := nI 1) hc (by decide) dL_boards_246 (n := 247) rfl ?_
          refine g_goto (n := 251) hc dL_boards_247 (by decide) ?_
          refine g_arr (ws' := ([(p0, aI κ 52 z), (g0, aI κ 9 (fun k => z (324 + k))), (t0, aI κ 12 (tt (sez z bo))), (h0, aI κ 52 (hd z bo))] ++ w_18)) (f := va_up (tt z) ((3 * bo) + 1) 1) (g := tt (sez z bo)) 2 rfl (fun k hk => t_sez hb k hk) rfl ?_
          refine g_arr (ws' := ([(p0, aI κ 52 z), (g0, aI κ 9 (fun k => sez z bo (324 + k))), (t0, aI κ 12 (tt (sez z bo))), (h0, aI κ 52 (hd z bo))] ++ w_18)) (f := fun k => z (324 + k)) (g := fun k => sez z bo (324 + k)) 1 rfl (fun k hk => (va_up_ne _ _ (by omega)).symm) rfl ?_
          refine g_arr (ws' := ([(p0, aI κ 52 (sez z bo)), (g0, aI κ 9 (fun k => sez z bo (324 + k))), (t0, aI κ 12 (tt (sez z bo))), (h0, aI κ 52 (hd z bo))] ++ w_18)) (f := z) (g := sez z bo) 0 rfl (fun k hk => (va_up_ne _ _ (by omega)).symm) rfl ?_
          refine g_arr (ws' := ([(p0, aI κ 52 (sez z bo)), (g0, aI κ 9 (fun k => sez z bo (324 + k))), (t0, aI κ 12 (tt (sez z bo))), (h0, aI κ 52 (hd (sez z bo) bo))] ++ w_18)) (f := hd z bo) (g := hd (sez z bo) bo) 3 rfl (fun k hk => by unfold hd sez; rw [va_up_ne _ _ (by omega)]) rfl ?_
          refine hret.2.1 _ _ _ _ _ _ _ rfl rfl (by decide) (by decide) dL_boards_251 ?_
          exact ⟨_, rfl, (sez z bo), (rn n), w_18, (hw_19), (fun k hk => va_up_ne _ _ (by omega)), (fun j hj hne k hk => by unfold hd sez; rw [va_up_ne _ _ (by omega)]), rfl, rfl⟩
        · skip
          refine g_aload_n hc 0 rfl rfl dL_boards_180 (n := 181) rfl ?_
          refine g_iload hc 8 rfl dL_boards_181 (n := 183) rfl ?_
          refine g_cls (As := [.int (nI bo)]) (rest := []) hc (s_seal_no hw0 bo hb (by omega) hz2 hz1) q_X4_seal k_ml_RL_104 rfl rfl (Oc.rc hw0) vw_4 ⟨⟨by decide, by decide⟩, by decide, by decide⟩ (Nat.le_of_ble_eq_true rfl) dL_boards_183 (n := 186) rfl (fun w_20 hw_21 => ?_)
          refine g_iload hc 9 rfl dL_boards_186 (n := 188) rfl ?_
          refine g_icmp_ne hc dL_boards_188 (tgt := 204) (by decide) (n := 191) rfl (fun e => absurd rfl e) (fun _ => ?_)
          refine g_aload_n hc 0 rfl rfl dL_boards_191 (n := 192) rfl ?_
          refine g_iconst (v := nI 4294967295) hc (by decide) dL_boards_192 (n := 193) rfl ?_
          refine g_cls (As := [.int (nI 4294967295)]) (rest := []) hc (s_seal_er hw_21 (nI 4294967295) (by decide)) q_X4_seal k_ml_RL_104 rfl rfl (Oc.rc hw_21) vw_4 ⟨⟨by decide, by decide⟩, by decide, by decide⟩ (Nat.le_of_ble_eq_true rfl) dL_boards_193 (n := 196) rfl (fun w_22 hw_23 => ?_)
          refine g_iconst (v := nI 4294967295) hc (by decide) dL_boards_196 (n := 197) rfl ?_
          refine g_icmp_ne hc dL_boards_197 (tgt := 204) (by decide) (n := 200) rfl (fun e => absurd rfl e) (fun _ => ?_)
          refine g_iconst (v := nI 1) hc (by decide) dL_boards_200 (n := 201) rfl ?_
          refine g_goto (n := 205) hc dL_boards_201 (by decide) ?_
          refine hret.2.1 _ _ _ _ _ _ _ rfl rfl (by decide) (by decide) dL_boards_205 ?_
          exact ⟨_, rfl, z, n, w_22, (hw_23), (fun _ _ => rfl), (fun _ _ _ _ _ => rfl), rfl, rfl⟩
  · skip
    refine g_aload hc 5 rfl dL_boards_25 (n := 27) rfl ?_
    refine g_iconst (v := nI 3) hc (by decide) dL_boards_27 (n := 28) rfl ?_
    refine g_iload hc 8 rfl dL_boards_28 (n := 30) rfl ?_
    refine n_imul (v := 3 * bo) hc rfl dL_boards_30 (n := 31) rfl ?_
    refine g_iconst (v := nI 1) hc (by decide) dL_boards_31 (n := 32) rfl ?_
    refine n_iadd (v := (3 * bo) + 1) hc rfl dL_boards_32 (n := 33) rfl ?_
    refine n_iald (v := z (316 + bo)) hc 2 rfl (by omega) (by decide) (tt_1 z bo) dL_boards_33 (n := 34) rfl ?_
    refine g_iconst (v := nI 1) hc (by decide) dL_boards_34 (n := 35) rfl ?_
    refine n_icmp_eq hc (by omega) (by omega) dL_boards_35 (tgt := 45) (by decide) (n := 38) rfl (fun c_24 => ?_) (fun c_24 => ?_)
    · skip
      refine g_aload_n hc 0 rfl rfl dL_boards_45 (n := 46) rfl ?_
      refine g_iload hc 8 rfl dL_boards_46 (n := 48) rfl ?_
      refine g_cls (As := [.int (nI bo)]) (rest := []) hc (s_deal_no hw0 bo hb (by omega) hz2) q_X4_deal k_ml_RL_101 rfl rfl (Oc.rc hw0) vw_4 ⟨⟨by decide, by decide⟩, by decide, by decide⟩ (Nat.le_of_ble_eq_true rfl) dL_boards_48 (n := 51) rfl (fun w_25 hw_26 => ?_)
      refine g_iload hc 9 rfl dL_boards_51 (n := 53) rfl ?_
      refine g_icmp_ne hc dL_boards_53 (tgt := 69) (by decide) (n := 56) rfl (fun e => absurd rfl e) (fun _ => ?_)
      refine g_aload_n hc 0 rfl rfl dL_boards_56 (n := 57) rfl ?_
      refine g_iconst (v := nI 4) hc (by decide) dL_boards_57 (n := 58) rfl ?_
      refine g_cls (As := [.int (nI 4)]) (rest := []) hc (s_deal_er hw_26 (nI 4) (by decide)) q_X4_deal k_ml_RL_101 rfl rfl (Oc.rc hw_26) vw_4 ⟨⟨by decide, by decide⟩, by decide, by decide⟩ (Nat.le_of_ble_eq_true rfl) dL_boards_58 (n := 61) rfl (fun w_27 hw_28 => ?_)
      refine g_iconst (v := nI 4294967295) hc (by decide) dL_boards_61 (n := 62) rfl ?_
      refine g_icmp_ne hc dL_boards_62 (tgt := 69) (by decide) (n := 65) rfl (fun e => absurd rfl e) (fun _ => ?_)
      refine g_iconst (v := nI 1) hc (by decide) dL_boards_65 (n := 66) rfl ?_
      refine g_goto (n := 70) hc dL_boards_66 (by decide) ?_
      refine hret.2.1 _ _ _ _ _ _ _ rfl rfl (by decide) (by decide) dL_boards_70 ?_
      exact ⟨_, rfl, z, n, w_27, (hw_28), (fun _ _ => rfl), (fun _ _ _ _ _ => rfl), rfl, rfl⟩
    · skip
      refine g_aload hc 4 rfl dL_boards_38 (n := 40) rfl ?_
      refine g_iconst (v := nI 3) hc (by decide) dL_boards_40 (n := 41) rfl ?_
      refine n_iald (v := z 327) hc 1 rfl (by omega) (by decide) rfl dL_boards_41 (n := 42) rfl ?_
      refine n_if_ne hc (by omega) dL_boards_42 (tgt := 71) (by decide) (n := 45) rfl (fun c_29 => ?_) (fun c_29 => ?_)
      · skip
        refine g_iconst (v := nI 0) hc (by decide) dL_boards_71 (n := 72) rfl ?_
        refine g_istore (lv2 := [(0, .ref (a 0)), (1, .int x), (2, .int y), (3, .ref p0), (4, .ref g0), (5, .ref t0), (6, .ref h0), (7, .int (nI (lw x % 6))), (8, .int (nI bo)), (9, .int (nI 4294967291)), (10, .int (nI 0))]) hc (by decide) [1, 2, 3, 4, 5, 6, 7, 8, 9, 10, 0] rfl rfl dL_boards_72 (n := 74) rfl ?_
        have L_30 : ∀ (fuel : Nat) (k : Nat) (hf : Nat → Nat), (k ≤ 52) → (∀ j, j < k → hf (z j) = j % 4) → 52 - k < fuel → G κ Γ A 11 0 0 Q ([(p0, aI κ 52 z), (g0, aI κ 9 (fun k => z (324 + k))), (t0, aI κ 12 (tt z)), (h0, aI κ 52 hf)] ++ w0) 74 [(0, .ref (a 0)), (1, .int x), (2, .int y), (3, .ref p0), (4, .ref g0), (5, .ref t0), (6, .ref h0), (7, .int (nI (lw x % 6))), (8, .int (nI bo)), (9, .int (nI 4294967291)), (10, .int (nI k))] [] := by
          intro fuel
          induction fuel with
          | zero => intro k hf hk hg h; exact absurd h (Nat.not_lt_zero _)
          | succ fuel ih_31 =>
            intro k hf hk hg hn_32
            refine g_iload hc 10 rfl dL_boards_74 (n := 76) rfl ?_
            refine g_bipush (v := nI 52) hc (by decide) dL_boards_76 (n := 78) rfl ?_
            refine n_icmp_ge hc (by omega) (by omega) dL_boards_78 (tgt := 98) (by decide) (n := 81) rfl (fun c_33 => ?_) (fun c_33 => ?_)
            · skip
              have e9 : k = 52 := by omega
              refine g_arr (ws' := ([(p0, aI κ 52 z), (g0, aI κ 9 (fun k => z (324 + k))), (t0, aI κ 12 (tt z)), (h0, aI κ 52 (hd (dez z bo) bo))] ++ w0)) (f := hf) (g := hd (dez z bo) bo) 3 rfl (fun c hc => by obtain ⟨e1, e2⟩ := p_inv hpz hc; have e3 := hg (inv z c) (by omega); rw [e1] at e3; rw [e3]; unfold hd dez; rw [if_pos (by omega), show 104 + 52 * bo + c - (104 + 52 * bo) = c from by omega]) rfl ?_
              have hh2 : ∀ k, k < 52 → hd (dez z bo) bo k < 4 := fun k hk => dez_hd k hk
              refine g_aload hc 5 rfl dL_boards_98 (n := 100) rfl ?_
              refine g_iconst (v := nI 3) hc (by decide) dL_boards_100 (n := 101) rfl ?_
              refine g_iload hc 8 rfl dL_boards_101 (n := 103) rfl ?_
              refine n_imul (v := 3 * bo) hc rfl dL_boards_103 (n := 104) rfl ?_
              refine g_iconst (v := nI 1) hc (by decide) dL_boards_104 (n := 105) rfl ?_
              refine n_iast (ws' := ([(p0, aI κ 52 z), (g0, aI κ 9 (fun k => z (324 + k))), (t0, aI κ 12 (va_up (tt z) (3 * bo) 1)), (h0, aI κ 52 (hd (dez z bo) bo))] ++ w0)) hc 2 rfl (by omega) (by decide) rfl dL_boards_105 (n := 106) rfl ?_
              refine g_aload hc 5 rfl dL_boards_106 (n := 108) rfl ?_
              refine g_iconst (v := nI 3) hc (by decide) dL_boards_108 (n := 109) rfl ?_
              refine g_iload hc 8 rfl dL_boards_109 (n := 111) rfl ?_
              refine n_imul (v := 3 * bo) hc rfl dL_boards_111 (n := 112) rfl ?_
              refine g_iconst (v := nI 2) hc (by decide) dL_boards_112 (n := 113) rfl ?_
              refine n_iadd (v := (3 * bo) + 2) hc rfl dL_boards_113 (n := 114) rfl ?_
              refine g_iconst (v := nI 0) hc (by decide) dL_boards_114 (n := 115) rfl ?_
              refine n_iast (ws' := ([(p0, aI κ 52 z), (g0, aI κ 9 (fun k => z (324 + k))), (t0, aI κ 12 (va_up (va_up (tt z) (3 * bo) 1) ((3 * bo) + 2) 0)), (h0, aI κ 52 (hd (dez z bo) bo))] ++ w0)) hc 2 rfl (by omega) (by decide) rfl dL_boards_115 (n := 116) rfl ?_
              refine g_aload hc 4 rfl dL_boards_116 (n := 118) rfl ?_
              refine g_iconst (v := nI 3) hc (by decide) dL_boards_118 (n := 119) rfl ?_
              refine g_iconst (v := nI 0) hc (by decide) dL_boards_119 (n := 120) rfl ?_
              refine n_iast (ws' := ([(p0, aI κ 52 z), (g0, aI κ 9 (va_up (fun k => z (324 + k)) 3 0)), (t0, aI κ 12 (va_up (va_up (tt z) (3 * bo) 1) ((3 * bo) + 2) 0)), (h0, aI κ 52 (hd (dez z bo) bo))] ++ w0)) hc 1 rfl (by omega) (by decide) rfl dL_boards_120 (n := 121) rfl ?_
              refine g_aload hc 4 rfl dL_boards_121 (n := 123) rfl ?_
              refine g_bipush (v := nI 7) hc (by decide) dL_boards_123 (n := 125) rfl ?_
              refine g_dup2 hc rfl rfl dL_boards_125 (n := 126) rfl ?_
              refine n_iald (v := z 331) hc 1 rfl (by omega) (by decide) ((va_up_ne _ _ (by decide)).trans (rfl)) dL_boards_126 (n := 127) rfl ?_
              refine g_iconst (v := nI 1) hc (by decide) dL_boards_127 (n := 128) rfl ?_
              refine n_iadd (v := (z 331) + 1) hc rfl dL_boards_128 (n := 129) rfl ?_
              refine n_iast (ws' := ([(p0, aI κ 52 z), (g0, aI κ 9 (va_up (va_up (fun k => z (324 + k)) 3 0) 7 ((z 331) + 1))), (t0, aI κ 12 (va_up (va_up (tt z) (3 * bo) 1) ((3 * bo) + 2) 0)), (h0, aI κ 52 (hd (dez z bo) bo))] ++ w0)) hc 1 rfl (by omega) (by decide) rfl dL_boards_129 (n := 130) rfl ?_
              refine g_aload_n hc 0 rfl rfl dL_boards_130 (n := 131) rfl ?_
              refine g_iload hc 8 rfl dL_boards_131 (n := 133) rfl ?_
              refine g_cls (As := [.int (nI bo)]) (rest := []) hc (s_deal_ok hw0 bo hb (by omega) (by omega)) q_X4_deal k_ml_RL_101 rfl rfl (Oc.rc hw0) vw_4 ⟨⟨by decide, by decide⟩, by decide, by decide⟩ (Nat.le_of_ble_eq_true rfl) dL_boards_133 (n := 136) rfl (fun w_34 hw_35 => ?_)
              refine g_aload hc 6 rfl dL_boards_136 (n := 138) rfl ?_
              refine g_iconst (v := nI 0) hc (by decide) dL_boards_138 (n := 139) rfl ?_
              refine g_callS (rest := [.int (nI (pt (hd (dez z bo) bo) 0))]) (As := [.ref h0, .int (nI 0)]) (cells' := 0) (slots' := 0) hc (c_L_points κ _ h0 0 (hd (dez z bo) bo) hh2 (by decide)) q_L_points k_ml_RL_39 rfl rfl (jn_q (wr := [(p0, aI κ 52 z), (g0, aI κ 9 (va_up (va_up (fun k => z (324 + k)) 3 0) 7 ((z 331) + 1))), (t0, aI κ 12 (va_up (va_up (tt z) (3 * bo) 1) ((3 * bo) + 2) 0))]) [3] [0, 1, 2] rfl rfl rfl rfl (by decide)) ⟨⟨by decide, by decide⟩, by decide, by decide⟩ (Nat.le_of_ble_eq_true rfl) rfl rfl dL_boards_139 (n := 142) rfl (fun vv ww hp => ?_)
              obtain ⟨rr, rfl, rfl, rfl⟩ := hp
              refine ⟨_, rfl, ?_⟩
              refine g_ws (ws' := ([(p0, aI κ 52 z), (g0, aI κ 9 (va_up (va_up (fun k => z (324 + k)) 3 0) 7 ((z 331) + 1))), (t0, aI κ 12 (va_up (va_up (tt z) (3 * bo) 1) ((3 * bo) + 2) 0)), (h0, aI κ 52 (hd (dez z bo) bo))] ++ w_34)) rfl ?_
              refine g_st (st' := [.int (nI (pt (hd (dez z bo) bo) 0)), .int (nI (pt (hd (dez z bo) bo) 0))]) rfl ?_
              refine g_icmp_ne hc dL_boards_142 (tgt := 149) (by decide) (n := 145) rfl (fun e => absurd rfl e) (fun _ => ?_)
              refine g_iconst (v := nI 1) hc (by decide) dL_boards_145 (n := 146) rfl ?_
              refine g_goto (n := 150) hc dL_boards_146 (by decide) ?_
              refine g_arr (ws' := ([(p0, aI κ 52 z), (g0, aI κ 9 (va_up (va_up (fun k => z (324 + k)) 3 0) 7 ((z 331) + 1))), (t0, aI κ 12 (tt (dez z bo))), (h0, aI κ 52 (hd (dez z bo) bo))] ++ w_34)) (f := va_up (va_up (tt z) (3 * bo) 1) ((3 * bo) + 2) 0) (g := tt (dez z bo)) 2 rfl (fun k hk => t_dez hb k hk) rfl ?_
              refine g_arr (ws' := ([(p0, aI κ 52 z), (g0, aI κ 9 (fun k => dez z bo (324 + k))), (t0, aI κ 12 (tt (dez z bo))), (h0, aI κ 52 (hd (dez z bo) bo))] ++ w_34)) (f := va_up (va_up (fun k => z (324 + k)) 3 0) 7 ((z 331) + 1)) (g := fun k => dez z bo (324 + k)) 1 rfl (fun k hk => g_dez hb k hk) rfl ?_
              refine g_arr (ws' := ([(p0, aI κ 52 (dez z bo)), (g0, aI κ 9 (fun k => dez z bo (324 + k))), (t0, aI κ 12 (tt (dez z bo))), (h0, aI κ 52 (hd (dez z bo) bo))] ++ w_34)) (f := z) (g := dez z bo) 0 rfl (fun k hk => (o_dez hb (Or.inl (by omega))).symm) rfl ?_
              refine hret.2.1 _ _ _ _ _ _ _ rfl rfl (by decide) (by decide) dL_boards_150 ?_
              exact ⟨_, rfl, (dez z bo), (rn n), w_34, (hw_35), (fun k hk => o_dez hb (Or.inl (by omega))), (fun j hj hne k hk => by show dez z bo (104 + 52 * j + k) = z (104 + 52 * j + k); exact o_dez hb (Or.inr (by omega))), rfl, rfl⟩
            · skip
              refine g_aload hc 6 rfl dL_boards_81 (n := 83) rfl ?_
              refine g_aload_n hc 3 rfl rfl dL_boards_83 (n := 84) rfl ?_
              refine g_iload hc 10 rfl dL_boards_84 (n := 86) rfl ?_
              refine n_iald (v := z k) hc 0 rfl (by omega) (by decide) rfl dL_boards_86 (n := 87) rfl ?_
              have b_36 := hpz.1 k (by omega)
              refine g_iload hc 10 rfl dL_boards_87 (n := 89) rfl ?_
              refine g_iconst (v := nI 3) hc (by decide) dL_boards_89 (n := 90) rfl ?_
              refine g_iand (v := (nI (k % 4))) hc (and_3 k) dL_boards_90 (n := 91) rfl ?_
              refine n_iast (ws' := ([(p0, aI κ 52 z), (g0, aI κ 9 (fun k => z (324 + k))), (t0, aI κ 12 (tt z)), (h0, aI κ 52 (va_up hf (z k) (k % 4)))] ++ w0)) hc 3 rfl (by omega) (by decide) rfl dL_boards_91 (n := 92) rfl ?_
              refine n_iinc (v := k + 1) (zk := 1) (lv2 := [(0, .ref (a 0)), (1, .int x), (2, .int y), (3, .ref p0), (4, .ref g0), (5, .ref t0), (6, .ref h0), (7, .int (nI (lw x % 6))), (8, .int (nI bo)), (9, .int (nI 4294967291)), (10, .int (nI (k + 1)))]) hc 10 rfl (by decide) rfl (by decide) [1, 2, 3, 4, 5, 6, 7, 8, 9, 10, 0] rfl rfl dL_boards_92 (n := 95) rfl ?_
              refine g_goto (n := 74) hc dL_boards_95 (by decide) ?_
              exact ih_31 (k + 1) (va_up hf (z k) (k % 4)) (by omega) (fun j hj => (Nat.lt_succ_iff_lt_or_eq.mp hj).elim (fun q => (va_up_ne _ _ (fun e => by have := hpz.2 j k (by omega) (by omega) e; omega)).trans (hg j q)) (fun q => by subst q; exact va_up_self _ _ _)) (by omega)
        exact L_30 _ 0 (hd z bo) (by omega) (fun j hj => absurd hj (Nat.not_lt_zero _)) (Nat.lt_succ_self _)
      · skip
        refine g_aload_n hc 0 rfl rfl dL_boards_45 (n := 46) rfl ?_
        refine g_iload hc 8 rfl dL_boards_46 (n := 48) rfl ?_
        refine g_cls (As := [.int (nI bo)]) (rest := []) hc (s_deal_no hw0 bo hb (by omega) hz2) q_X4_deal k_ml_RL_101 rfl rfl (Oc.rc hw0) vw_4 ⟨⟨by decide, by decide⟩, by decide, by decide⟩ (Nat.le_of_ble_eq_true rfl) dL_boards_48 (n := 51) rfl (fun w_37 hw_38 => ?_)
        refine g_iload hc 9 rfl dL_boards_51 (n := 53) rfl ?_
        refine g_icmp_ne hc dL_boards_53 (tgt := 69) (by decide) (n := 56) rfl (fun e => absurd rfl e) (fun _ => ?_)
        refine g_aload_n hc 0 rfl rfl dL_boards_56 (n := 57) rfl ?_
        refine g_iconst (v := nI 4) hc (by decide) dL_boards_57 (n := 58) rfl ?_
        refine g_cls (As := [.int (nI 4)]) (rest := []) hc (s_deal_er hw_38 (nI 4) (by decide)) q_X4_deal k_ml_RL_101 rfl rfl (Oc.rc hw_38) vw_4 ⟨⟨by decide, by decide⟩, by decide, by decide⟩ (Nat.le_of_ble_eq_true rfl) dL_boards_58 (n := 61) rfl (fun w_39 hw_40 => ?_)
        refine g_iconst (v := nI 4294967295) hc (by decide) dL_boards_61 (n := 62) rfl ?_
        refine g_icmp_ne hc dL_boards_62 (tgt := 69) (by decide) (n := 65) rfl (fun e => absurd rfl e) (fun _ => ?_)
        refine g_iconst (v := nI 1) hc (by decide) dL_boards_65 (n := 66) rfl ?_
        refine g_goto (n := 70) hc dL_boards_66 (by decide) ?_
        refine hret.2.1 _ _ _ _ _ _ _ rfl rfl (by decide) (by decide) dL_boards_70 ?_
        exact ⟨_, rfl, z, n, w_39, (hw_40), (fun _ _ => rfl), (fun _ _ _ _ _ => rfl), rfl, rfl⟩
