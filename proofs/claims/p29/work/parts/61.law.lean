set_option maxHeartbeats 1000000 in
set_option maxRecDepth 100000 in
theorem c_L_isHand (κ : Kp) (l : Launch) (a : Nat → Nat) (q : Nat → Nat) (z : Nat → Nat) (n : Nat) (w0 : va_W) (h0 : Nat) (bo : Nat) (d : Nat) (hw0 : Oc κ a q z n w0) (hb : bo < 4) (hd4 : d < 4) (hha : z (312 + bo) = 1) : CT κ l yL_isHand cL_isHand 9 (some .boolean) 5 134 0 0 [.ref (a 0), .int (nI bo), .int (nI d), .ref h0] ([(h0, aI κ 52 (hd z bo))] ++ w0) (PI (fun rr ww => ∃ w2 : va_W, (Oc κ a q z n w2) ∧ rr = (nI 1) ∧ ww = [(h0, aI κ 52 (hd z bo))] ++ w2)) := by
  refine CT.go (by decide +kernel) (Nat.le_of_ble_eq_true rfl) ?_
  intro Γ A Q hl hc hret
  subst hl
  have hc : Cx κ Γ A cL_isHand 9 RL "isHand" (some .boolean) { frames := 5, cells := 0, slots := 0, locals := 134 } := hc
  refine g_lv (lv' := [(0, .ref (a 0)), (1, .int (nI bo)), (2, .int (nI d)), (3, .ref h0)]) rfl ?_
  obtain ⟨hzb, hzf, hzc, hpz, hzh, hk1, hk2, hzx⟩ := hw0.zv
  have hh4 : ∀ k, k < 52 → hd z bo k < 4 := fun k hk => hd_lt hzh hb k hk
  refine g_iconst (v := nI 0) hc (by decide) dL_isHand_0 (n := 1) rfl ?_
  refine g_istore (lv2 := [(0, .ref (a 0)), (1, .int (nI bo)), (2, .int (nI d)), (3, .ref h0), (4, .int (nI 0))]) hc (by decide) [1, 2, 3, 4, 0] rfl rfl dL_isHand_1 (n := 3) rfl ?_
  refine g_iconst (v := nI 0) hc (by decide) dL_isHand_3 (n := 4) rfl ?_
  refine g_istore (lv2 := [(0, .ref (a 0)), (1, .int (nI bo)), (2, .int (nI d)), (3, .ref h0), (4, .int (nI 0)), (5, .int (nI 0))]) hc (by decide) [1, 2, 3, 4, 5, 0] rfl rfl dL_isHand_4 (n := 6) rfl ?_
  refine g_iconst (v := nI 0) hc (by decide) dL_isHand_6 (n := 7) rfl ?_
  refine g_istore (lv2 := [(0, .ref (a 0)), (1, .int (nI bo)), (2, .int (nI d)), (3, .ref h0), (4, .int (nI 0)), (5, .int (nI 0)), (6, .int (nI 0))]) hc (by decide) [1, 2, 3, 4, 5, 6, 0] rfl rfl dL_isHand_7 (n := 9) rfl ?_
  have L_1 : ∀ (fuel : Nat) (i : Nat) (t : Nat) (f : Nat) (w : va_W), (Oc κ a q z n w) → (i ≤ 4) → (f = sm (fun s => if sl (hd z bo) d s < 2 then 1 else 0) i) → (t = sm (fun s => if sl (hd z bo) d s = 2 then 1 else 0) i) → (t ≤ i) → (f ≤ i) → 4 - i < fuel → G κ Γ A 9 0 0 Q ([(h0, aI κ 52 (hd z bo))] ++ w) 9 [(0, .ref (a 0)), (1, .int (nI bo)), (2, .int (nI d)), (3, .ref h0), (4, .int (nI t)), (5, .int (nI f)), (6, .int (nI i))] [] := by
    intro fuel
    induction fuel with
    | zero => intro i t f w hwi hi hs1 hs2 ht hf h; exact absurd h (Nat.not_lt_zero _)
    | succ fuel ih_2 =>
      intro i t f w hwi hi hs1 hs2 ht hf hn_3
      refine g_iload hc 6 rfl dL_isHand_9 (n := 11) rfl ?_
      refine g_iconst (v := nI 4) hc (by decide) dL_isHand_11 (n := 12) rfl ?_
      refine n_icmp_ge hc (by omega) (by omega) dL_isHand_12 (tgt := 111) (by decide) (n := 15) rfl (fun c_4 => ?_) (fun c_4 => ?_)
      · skip
        have e9 : i = 4 := by omega
        subst e9
        refine g_bipush (v := nI 4294967290) hc (by decide) dL_isHand_111 (n := 113) rfl ?_
        refine g_istore (lv2 := [(0, .ref (a 0)), (1, .int (nI bo)), (2, .int (nI d)), (3, .ref h0), (4, .int (nI t)), (5, .int (nI f)), (6, .int (nI 4294967290))]) hc (by decide) [1, 2, 3, 4, 5, 6, 0] rfl rfl dL_isHand_113 (n := 115) rfl ?_
        refine g_iconst (v := nI 0) hc (by decide) dL_isHand_115 (n := 116) rfl ?_
        refine g_istore (lv2 := [(0, .ref (a 0)), (1, .int (nI bo)), (2, .int (nI d)), (3, .ref h0), (4, .int (nI t)), (5, .int (nI f)), (6, .int (nI 4294967290)), (7, .int (nI 0))]) hc (by decide) [1, 2, 3, 4, 5, 6, 7, 0] rfl rfl dL_isHand_116 (n := 118) rfl ?_
        have L_5 : ∀ (fuel : Nat) (r : Nat) (sp : Nat), (r ≤ 13) → (sp = lst (fun r => if hd z bo (39 + r) = d then 1 else 0) r) → 13 - r < fuel → G κ Γ A 9 0 0 Q ([(h0, aI κ 52 (hd z bo))] ++ w) 118 [(0, .ref (a 0)), (1, .int (nI bo)), (2, .int (nI d)), (3, .ref h0), (4, .int (nI t)), (5, .int (nI f)), (6, .int (nI sp)), (7, .int (nI r))] [] := by
          intro fuel
          induction fuel with
          | zero => intro r sp hr hsp h; exact absurd h (Nat.not_lt_zero _)
          | succ fuel ih_6 =>
            intro r sp hr hsp hn_7
            refine g_iload hc 7 rfl dL_isHand_118 (n := 120) rfl ?_
            refine g_bipush (v := nI 13) hc (by decide) dL_isHand_120 (n := 122) rfl ?_
            refine n_icmp_ge hc (by omega) (by omega) dL_isHand_122 (tgt := 151) (by decide) (n := 125) rfl (fun c_8 => ?_) (fun c_8 => ?_)
            · skip
              have esp : sp = hs (hd z bo) d := by have e8 : r = 13 := (by omega); subst e8; exact hsp
              refine g_iload hc 5 rfl dL_isHand_151 (n := 153) rfl ?_
              refine n_if_ne hc (by omega) dL_isHand_153 (tgt := 166) (by decide) (n := 156) rfl (fun c_9 => ?_) (fun c_9 => ?_)
              · skip
                refine g_iconst (v := nI 0) hc (by decide) dL_isHand_166 (n := 167) rfl ?_
                have hbl : bl (hd z bo) d = 0 := by unfold bl; exact if_neg (fun z => by omega)
                refine g_istore (lv2 := [(0, .ref (a 0)), (1, .int (nI bo)), (2, .int (nI d)), (3, .ref h0), (4, .int (nI t)), (5, .int (nI f)), (6, .int (nI sp)), (7, .int (nI 0))]) hc (by decide) [1, 2, 3, 4, 5, 6, 7, 0] rfl rfl dL_isHand_167 (n := 169) rfl ?_
                refine g_aload_n hc 0 rfl rfl dL_isHand_169 (n := 170) rfl ?_
                refine g_iload_n hc 1 rfl rfl dL_isHand_170 (n := 171) rfl ?_
                refine g_iload_n hc 2 rfl rfl dL_isHand_171 (n := 172) rfl ?_
                refine g_iconst (v := nI 4) hc (by decide) dL_isHand_172 (n := 173) rfl ?_
                refine g_cls (As := [.int (nI bo), .int (nI d), .int (nI 4)]) (rest := []) hc (s_hand_ok hwi bo d 4 hb hd4 (by decide) hha) q_X4_hand k_ml_RL_33 rfl rfl (Oc.rc hwi) vw_4 ⟨⟨by decide, by decide⟩, by decide, by decide⟩ (Nat.le_of_ble_eq_true rfl) dL_isHand_173 (n := 176) rfl (fun w_10 hw_11 => ?_)
                refine g_top (y := nI (pt (hd z bo) d)) (congrArg nI (ah_4 z hb hd4 hha)) ?_
                refine g_aload_n hc 3 rfl rfl dL_isHand_176 (n := 177) rfl ?_
                refine g_iload_n hc 2 rfl rfl dL_isHand_177 (n := 178) rfl ?_
                refine g_callS (rest := [.int (nI (pt (hd z bo) d))]) (As := [.ref h0, .int (nI d)]) (cells' := 0) (slots' := 0) hc (c_L_points κ _ h0 d (hd z bo) hh4 hd4) q_L_points k_ml_RL_39 rfl rfl (jn_q (wr := []) [0] [] rfl rfl rfl rfl (by decide)) ⟨⟨by decide, by decide⟩, by decide, by decide⟩ (Nat.le_of_ble_eq_true rfl) rfl rfl dL_isHand_178 (n := 181) rfl (fun vv ww hp => ?_)
                obtain ⟨rr, rfl, rfl, rfl⟩ := hp
                refine ⟨_, rfl, ?_⟩
                refine g_ws (ws' := ([(h0, aI κ 52 (hd z bo))] ++ w_10)) rfl ?_
                refine g_st (st' := [.int (nI (pt (hd z bo) d)), .int (nI (pt (hd z bo) d))]) rfl ?_
                refine g_icmp_ne hc dL_isHand_181 (tgt := 244) (by decide) (n := 184) rfl (fun e => absurd rfl e) (fun _ => ?_)
                refine g_aload_n hc 0 rfl rfl dL_isHand_184 (n := 185) rfl ?_
                refine g_iload_n hc 1 rfl rfl dL_isHand_185 (n := 186) rfl ?_
                refine g_iload_n hc 2 rfl rfl dL_isHand_186 (n := 187) rfl ?_
                refine g_iconst (v := nI 5) hc (by decide) dL_isHand_187 (n := 188) rfl ?_
                refine g_cls (As := [.int (nI bo), .int (nI d), .int (nI 5)]) (rest := []) hc (s_hand_ok hw_11 bo d 5 hb hd4 (by decide) hha) q_X4_hand k_ml_RL_33 rfl rfl (Oc.rc hw_11) vw_4 ⟨⟨by decide, by decide⟩, by decide, by decide⟩ (Nat.le_of_ble_eq_true rfl) dL_isHand_188 (n := 191) rfl (fun w_12 hw_13 => ?_)
                refine g_top (y := nI 0) (congrArg nI ((ah_5 z hb hd4 hha).trans hbl)) ?_
                refine g_iload hc 7 rfl dL_isHand_191 (n := 193) rfl ?_
                refine n_if_eq hc (by omega) dL_isHand_193 (tgt := 200) (by decide) (n := 196) rfl (fun c_14 => ?_) (fun c_14 => by (exfalso; revert c_14; first | omega | decide))
                refine g_iconst (v := nI 0) hc (by decide) dL_isHand_200 (n := 201) rfl ?_
                refine g_icmp_ne hc dL_isHand_201 (tgt := 244) (by decide) (n := 204) rfl (fun e => absurd rfl e) (fun _ => ?_)
                refine g_aload_n hc 0 rfl rfl dL_isHand_204 (n := 205) rfl ?_
                refine g_iload_n hc 1 rfl rfl dL_isHand_205 (n := 206) rfl ?_
                refine g_iload_n hc 2 rfl rfl dL_isHand_206 (n := 207) rfl ?_
                refine g_bipush (v := nI 6) hc (by decide) dL_isHand_207 (n := 209) rfl ?_
                refine g_cls (As := [.int (nI bo), .int (nI d), .int (nI 6)]) (rest := []) hc (s_hand_ok hw_13 bo d 6 hb hd4 (by decide) hha) q_X4_hand k_ml_RL_33 rfl rfl (Oc.rc hw_13) vw_4 ⟨⟨by decide, by decide⟩, by decide, by decide⟩ (Nat.le_of_ble_eq_true rfl) dL_isHand_209 (n := 212) rfl (fun w_15 hw_16 => ?_)
                refine g_top (y := nI sp) (congrArg nI ((ah_6 z hb hd4 hha).trans esp.symm)) ?_
                refine g_iload hc 6 rfl dL_isHand_212 (n := 214) rfl ?_
                refine g_icmp_ne hc dL_isHand_214 (tgt := 244) (by decide) (n := 217) rfl (fun e => absurd rfl e) (fun _ => ?_)
                refine g_aload_n hc 0 rfl rfl dL_isHand_217 (n := 218) rfl ?_
                refine g_iload_n hc 1 rfl rfl dL_isHand_218 (n := 219) rfl ?_
                refine g_iconst (v := nI 4) hc (by decide) dL_isHand_219 (n := 220) rfl ?_
                refine g_cls (As := [.int (nI bo), .int (nI 4)]) (rest := []) hc (s_board_ok hw_16 bo 4 hb (by decide)) q_X4_board k_ml_RL_42 rfl rfl (Oc.rc hw_16) vw_4 ⟨⟨by decide, by decide⟩, by decide, by decide⟩ (Nat.le_of_ble_eq_true rfl) dL_isHand_220 (n := 223) rfl (fun w_17 hw_18 => ?_)
                refine g_top (y := nI (bm (hd z bo))) (congrArg nI ((ab_4 z hb).trans (if_neg (by omega)))) ?_
                refine g_iload_n hc 2 rfl rfl dL_isHand_223 (n := 224) rfl ?_
                refine g_ishr (v := (nI (bm (hd z bo))) >>> ((nI d) &&& 31)) hc rfl dL_isHand_224 (n := 225) rfl ?_
                refine g_iconst (v := nI 1) hc (by decide) dL_isHand_225 (n := 226) rfl ?_
                refine g_iand (v := (nI 0)) hc ((bm_bit (hd z bo) hd4).trans (congrArg nI hbl)) dL_isHand_226 (n := 227) rfl ?_
                refine g_iload hc 7 rfl dL_isHand_227 (n := 229) rfl ?_
                refine n_if_eq hc (by omega) dL_isHand_229 (tgt := 236) (by decide) (n := 232) rfl (fun c_19 => ?_) (fun c_19 => by (exfalso; revert c_19; first | omega | decide))
                refine g_iconst (v := nI 0) hc (by decide) dL_isHand_236 (n := 237) rfl ?_
                refine g_icmp_ne hc dL_isHand_237 (tgt := 244) (by decide) (n := 240) rfl (fun e => absurd rfl e) (fun _ => ?_)
                refine g_iconst (v := nI 1) hc (by decide) dL_isHand_240 (n := 241) rfl ?_
                refine g_goto (n := 245) hc dL_isHand_241 (by decide) ?_
                refine hret.2.1 _ _ _ _ _ _ _ rfl rfl (by decide) (by decide) dL_isHand_245 ?_
                exact ⟨_, rfl, w_17, (hw_18), rfl, rfl⟩
              · skip
                refine g_iload hc 4 rfl dL_isHand_156 (n := 158) rfl ?_
                refine g_iconst (v := nI 2) hc (by decide) dL_isHand_158 (n := 159) rfl ?_
                refine n_icmp_ge hc (by omega) (by omega) dL_isHand_159 (tgt := 166) (by decide) (n := 162) rfl (fun c_20 => ?_) (fun c_20 => ?_)
                · skip
                  refine g_iconst (v := nI 0) hc (by decide) dL_isHand_166 (n := 167) rfl ?_
                  have hbl : bl (hd z bo) d = 0 := by unfold bl; exact if_neg (fun z => by omega)
                  refine g_istore (lv2 := [(0, .ref (a 0)), (1, .int (nI bo)), (2, .int (nI d)), (3, .ref h0), (4, .int (nI t)), (5, .int (nI f)), (6, .int (nI sp)), (7, .int (nI 0))]) hc (by decide) [1, 2, 3, 4, 5, 6, 7, 0] rfl rfl dL_isHand_167 (n := 169) rfl ?_
                  refine g_aload_n hc 0 rfl rfl dL_isHand_169 (n := 170) rfl ?_
                  refine g_iload_n hc 1 rfl rfl dL_isHand_170 (n := 171) rfl ?_
                  refine g_iload_n hc 2 rfl rfl dL_isHand_171 (n := 172) rfl ?_
                  refine g_iconst (v := nI 4) hc (by decide) dL_isHand_172 (n := 173) rfl ?_
                  refine g_cls (As := [.int (nI bo), .int (nI d), .int (nI 4)]) (rest := []) hc (s_hand_ok hwi bo d 4 hb hd4 (by decide) hha) q_X4_hand k_ml_RL_33 rfl rfl (Oc.rc hwi) vw_4 ⟨⟨by decide, by decide⟩, by decide, by decide⟩ (Nat.le_of_ble_eq_true rfl) dL_isHand_173 (n := 176) rfl (fun w_21 hw_22 => ?_)
                  refine g_top (y := nI (pt (hd z bo) d)) (congrArg nI (ah_4 z hb hd4 hha)) ?_
                  refine g_aload_n hc 3 rfl rfl dL_isHand_176 (n := 177) rfl ?_
                  refine g_iload_n hc 2 rfl rfl dL_isHand_177 (n := 178) rfl ?_
                  refine g_callS (rest := [.int (nI (pt (hd z bo) d))]) (As := [.ref h0, .int (nI d)]) (cells' := 0) (slots' := 0) hc (c_L_points κ _ h0 d (hd z bo) hh4 hd4) q_L_points k_ml_RL_39 rfl rfl (jn_q (wr := []) [0] [] rfl rfl rfl rfl (by decide)) ⟨⟨by decide, by decide⟩, by decide, by decide⟩ (Nat.le_of_ble_eq_true rfl) rfl rfl dL_isHand_178 (n := 181) rfl (fun vv ww hp => ?_)
                  obtain ⟨rr, rfl, rfl, rfl⟩ := hp
                  refine ⟨_, rfl, ?_⟩
                  refine g_ws (ws' := ([(h0, aI κ 52 (hd z bo))] ++ w_21)) rfl ?_
                  refine g_st (st' := [.int (nI (pt (hd z bo) d)), .int (nI (pt (hd z bo) d))]) rfl ?_
                  refine g_icmp_ne hc dL_isHand_181 (tgt := 244) (by decide) (n := 184) rfl (fun e => absurd rfl e) (fun _ => ?_)
                  refine g_aload_n hc 0 rfl rfl dL_isHand_184 (n := 185) rfl ?_
                  refine g_iload_n hc 1 rfl rfl dL_isHand_185 (n := 186) rfl ?_
                  refine g_iload_n hc 2 rfl rfl dL_isHand_186 (n := 187) rfl ?_
                  refine g_iconst (v := nI 5) hc (by decide) dL_isHand_187 (n := 188) rfl ?_
                  refine g_cls (As := [.int (nI bo), .int (nI d), .int (nI 5)]) (rest := []) hc (s_hand_ok hw_22 bo d 5 hb hd4 (by decide) hha) q_X4_hand k_ml_RL_33 rfl rfl (Oc.rc hw_22) vw_4 ⟨⟨by decide, by decide⟩, by decide, by decide⟩ (Nat.le_of_ble_eq_true rfl) dL_isHand_188 (n := 191) rfl (fun w_23 hw_24 => ?_)
                  refine g_top (y := nI 0) (congrArg nI ((ah_5 z hb hd4 hha).trans hbl)) ?_
                  refine g_iload hc 7 rfl dL_isHand_191 (n := 193) rfl ?_
                  refine n_if_eq hc (by omega) dL_isHand_193 (tgt := 200) (by decide) (n := 196) rfl (fun c_25 => ?_) (fun c_25 => by (exfalso; revert c_25; first | omega | decide))
                  refine g_iconst (v := nI 0) hc (by decide) dL_isHand_200 (n := 201) rfl ?_
                  refine g_icmp_ne hc dL_isHand_201 (tgt := 244) (by decide) (n := 204) rfl (fun e => absurd rfl e) (fun _ => ?_)
                  refine g_aload_n hc 0 rfl rfl dL_isHand_204 (n := 205) rfl ?_
                  refine g_iload_n hc 1 rfl rfl dL_isHand_205 (n := 206) rfl ?_
                  refine g_iload_n hc 2 rfl rfl dL_isHand_206 (n := 207) rfl ?_
                  refine g_bipush (v := nI 6) hc (by decide) dL_isHand_207 (n := 209) rfl ?_
                  refine g_cls (As := [.int (nI bo), .int (nI d), .int (nI 6)]) (rest := []) hc (s_hand_ok hw_24 bo d 6 hb hd4 (by decide) hha) q_X4_hand k_ml_RL_33 rfl rfl (Oc.rc hw_24) vw_4 ⟨⟨by decide, by decide⟩, by decide, by decide⟩ (Nat.le_of_ble_eq_true rfl) dL_isHand_209 (n := 212) rfl (fun w_26 hw_27 => ?_)
                  refine g_top (y := nI sp) (congrArg nI ((ah_6 z hb hd4 hha).trans esp.symm)) ?_
                  refine g_iload hc 6 rfl dL_isHand_212 (n := 214) rfl ?_
                  refine g_icmp_ne hc dL_isHand_214 (tgt := 244) (by decide) (n := 217) rfl (fun e => absurd rfl e) (fun _ => ?_)
                  refine g_aload_n hc 0 rfl rfl dL_isHand_217 (n := 218) rfl ?_
                  refine g_iload_n hc 1 rfl rfl dL_isHand_218 (n := 219) rfl ?_
                  refine g_iconst (v := nI 4) hc (by decide) dL_isHand_219 (n := 220) rfl ?_
                  refine g_cls (As := [.int (nI bo), .int (nI 4)]) (rest := []) hc (s_board_ok hw_27 bo 4 hb (by decide)) q_X4_board k_ml_RL_42 rfl rfl (Oc.rc hw_27) vw_4 ⟨⟨by decide, by decide⟩, by decide, by decide⟩ (Nat.le_of_ble_eq_true rfl) dL_isHand_220 (n := 223) rfl (fun w_28 hw_29 => ?_)
                  refine g_top (y := nI (bm (hd z bo))) (congrArg nI ((ab_4 z hb).trans (if_neg (by omega)))) ?_
                  refine g_iload_n hc 2 rfl rfl dL_isHand_223 (n := 224) rfl ?_
                  refine g_ishr (v := (nI (bm (hd z bo))) >>> ((nI d) &&& 31)) hc rfl dL_isHand_224 (n := 225) rfl ?_
                  refine g_iconst (v := nI 1) hc (by decide) dL_isHand_225 (n := 226) rfl ?_
                  refine g_iand (v := (nI 0)) hc ((bm_bit (hd z bo) hd4).trans (congrArg nI hbl)) dL_isHand_226 (n := 227) rfl ?_
                  refine g_iload hc 7 rfl dL_isHand_227 (n := 229) rfl ?_
                  refine n_if_eq hc (by omega) dL_isHand_229 (tgt := 236) (by decide) (n := 232) rfl (fun c_30 => ?_) (fun c_30 => by (exfalso; revert c_30; first | omega | decide))
                  refine g_iconst (v := nI 0) hc (by decide) dL_isHand_236 (n := 237) rfl ?_
                  refine g_icmp_ne hc dL_isHand_237 (tgt := 244) (by decide) (n := 240) rfl (fun e => absurd rfl e) (fun _ => ?_)
                  refine g_iconst (v := nI 1) hc (by decide) dL_isHand_240 (n := 241) rfl ?_
                  refine g_goto (n := 245) hc dL_isHand_241 (by decide) ?_
                  refine hret.2.1 _ _ _ _ _ _ _ rfl rfl (by decide) (by decide) dL_isHand_245 ?_
                  exact ⟨_, rfl, w_28, (hw_29), rfl, rfl⟩
                · skip
                  refine g_iconst (v := nI 1) hc (by decide) dL_isHand_162 (n := 163) rfl ?_
                  refine g_goto (n := 167) hc dL_isHand_163 (by decide) ?_
                  have hbl : bl (hd z bo) d = 1 := by unfold bl; exact if_pos ⟨by omega, by omega⟩
                  refine g_istore (lv2 := [(0, .ref (a 0)), (1, .int (nI bo)), (2, .int (nI d)), (3, .ref h0), (4, .int (nI t)), (5, .int (nI f)), (6, .int (nI sp)), (7, .int (nI 1))]) hc (by decide) [1, 2, 3, 4, 5, 6, 7, 0] rfl rfl dL_isHand_167 (n := 169) rfl ?_
                  refine g_aload_n hc 0 rfl rfl dL_isHand_169 (n := 170) rfl ?_
                  refine g_iload_n hc 1 rfl rfl dL_isHand_170 (n := 171) rfl ?_
                  refine g_iload_n hc 2 rfl rfl dL_isHand_171 (n := 172) rfl ?_
                  refine g_iconst (v := nI 4) hc (by decide) dL_isHand_172 (n := 173) rfl ?_
                  refine g_cls (As := [.int (nI bo), .int (nI d), .int (nI 4)]) (rest := []) hc (s_hand_ok hwi bo d 4 hb hd4 (by decide) hha) q_X4_hand k_ml_RL_33 rfl rfl (Oc.rc hwi) vw_4 ⟨⟨by decide, by decide⟩, by decide, by decide⟩ (Nat.le_of_ble_eq_true rfl) dL_isHand_173 (n := 176) rfl (fun w_31 hw_32 => ?_)
                  refine g_top (y := nI (pt (hd z bo) d)) (congrArg nI (ah_4 z hb hd4 hha)) ?_
                  refine g_aload_n hc 3 rfl rfl dL_isHand_176 (n := 177) rfl ?_
                  refine g_iload_n hc 2 rfl rfl dL_isHand_177 (n := 178) rfl ?_
                  refine g_callS (rest := [.int (nI (pt (hd z bo) d))]) (As := [.ref h0, .int (nI d)]) (cells' := 0) (slots' := 0) hc (c_L_points κ _ h0 d (hd z bo) hh4 hd4) q_L_points k_ml_RL_39 rfl rfl (jn_q (wr := []) [0] [] rfl rfl rfl rfl (by decide)) ⟨⟨by decide, by decide⟩, by decide, by decide⟩ (Nat.le_of_ble_eq_true rfl) rfl rfl dL_isHand_178 (n := 181) rfl (fun vv ww hp => ?_)
                  obtain ⟨rr, rfl, rfl, rfl⟩ := hp
                  refine ⟨_, rfl, ?_⟩
                  refine g_ws (ws' := ([(h0, aI κ 52 (hd z bo))] ++ w_31)) rfl ?_
                  refine g_st (st' := [.int (nI (pt (hd z bo) d)), .int (nI (pt (hd z bo) d))]) rfl ?_
                  refine g_icmp_ne hc dL_isHand_181 (tgt := 244) (by decide) (n := 184) rfl (fun e => absurd rfl e) (fun _ => ?_)
                  refine g_aload_n hc 0 rfl rfl dL_isHand_184 (n := 185) rfl ?_
                  refine g_iload_n hc 1 rfl rfl dL_isHand_185 (n := 186) rfl ?_
                  refine g_iload_n hc 2 rfl rfl dL_isHand_186 (n := 187) rfl ?_
                  refine g_iconst (v := nI 5) hc (by decide) dL_isHand_187 (n := 188) rfl ?_
                  refine g_cls (As := [.int (nI bo), .int (nI d), .int (nI 5)]) (rest := []) hc (s_hand_ok hw_32 bo d 5 hb hd4 (by decide) hha) q_X4_hand k_ml_RL_33 rfl rfl (Oc.rc hw_32) vw_4 ⟨⟨by decide, by decide⟩, by decide, by decide⟩ (Nat.le_of_ble_eq_true rfl) dL_isHand_188 (n := 191) rfl (fun w_33 hw_34 => ?_)
                  refine g_top (y := nI 1) (congrArg nI ((ah_5 z hb hd4 hha).trans hbl)) ?_
                  refine g_iload hc 7 rfl dL_isHand_191 (n := 193) rfl ?_
                  refine n_if_eq hc (by omega) dL_isHand_193 (tgt := 200) (by decide) (n := 196) rfl (fun c_35 => by (exfalso; revert c_35; first | omega | decide)) (fun c_35 => ?_)
                  refine g_iconst (v := nI 1) hc (by decide) dL_isHand_196 (n := 197) rfl ?_
                  refine g_goto (n := 201) hc dL_isHand_197 (by decide) ?_
                  refine g_icmp_ne hc dL_isHand_201 (tgt := 244) (by decide) (n := 204) rfl (fun e => absurd rfl e) (fun _ => ?_)
                  refine g_aload_n hc 0 rfl rfl dL_isHand_204 (n := 205) rfl ?_
                  refine g_iload_n hc 1 rfl rfl dL_isHand_205 (n := 206) rfl ?_
                  refine g_iload_n hc 2 rfl rfl dL_isHand_206 (n := 207) rfl ?_
                  refine g_bipush (v := nI 6) hc (by decide) dL_isHand_207 (n := 209) rfl ?_
                  refine g_cls (As := [.int (nI bo), .int (nI d), .int (nI 6)]) (rest := []) hc (s_hand_ok hw_34 bo d 6 hb hd4 (by decide) hha) q_X4_hand k_ml_RL_33 rfl rfl (Oc.rc hw_34) vw_4 ⟨⟨by decide, by decide⟩, by decide, by decide⟩ (Nat.le_of_ble_eq_true rfl) dL_isHand_209 (n := 212) rfl (fun w_36 hw_37 => ?_)
                  refine g_top (y := nI sp) (congrArg nI ((ah_6 z hb hd4 hha).trans esp.symm)) ?_
                  refine g_iload hc 6 rfl dL_isHand_212 (n := 214) rfl ?_
                  refine g_icmp_ne hc dL_isHand_214 (tgt := 244) (by decide) (n := 217) rfl (fun e => absurd rfl e) (fun _ => ?_)
                  refine g_aload_n hc 0 rfl rfl dL_isHand_217 (n := 218) rfl ?_
                  refine g_iload_n hc 1 rfl rfl dL_isHand_218 (n := 219) rfl ?_
                  refine g_iconst (v := nI 4) hc (by decide) dL_isHand_219 (n := 220) rfl ?_
                  refine g_cls (As := [.int (nI bo), .int (nI 4)]) (rest := []) hc (s_board_ok hw_37 bo 4 hb (by decide)) q_X4_board k_ml_RL_42 rfl rfl (Oc.rc hw_37) vw_4 ⟨⟨by decide, by decide⟩, by decide, by decide⟩ (Nat.le_of_ble_eq_true rfl) dL_isHand_220 (n := 223) rfl (fun w_38 hw_39 => ?_)
                  refine g_top (y := nI (bm (hd z bo))) (congrArg nI ((ab_4 z hb).trans (if_neg (by omega)))) ?_
                  refine g_iload_n hc 2 rfl rfl dL_isHand_223 (n := 224) rfl ?_
                  refine g_ishr (v := (nI (bm (hd z bo))) >>> ((nI d) &&& 31)) hc rfl dL_isHand_224 (n := 225) rfl ?_
                  refine g_iconst (v := nI 1) hc (by decide) dL_isHand_225 (n := 226) rfl ?_
                  refine g_iand (v := (nI 1)) hc ((bm_bit (hd z bo) hd4).trans (congrArg nI hbl)) dL_isHand_226 (n := 227) rfl ?_
                  refine g_iload hc 7 rfl dL_isHand_227 (n := 229) rfl ?_
                  refine n_if_eq hc (by omega) dL_isHand_229 (tgt := 236) (by decide) (n := 232) rfl (fun c_40 => by (exfalso; revert c_40; first | omega | decide)) (fun c_40 => ?_)
                  refine g_iconst (v := nI 1) hc (by decide) dL_isHand_232 (n := 233) rfl ?_
                  refine g_goto (n := 237) hc dL_isHand_233 (by decide) ?_
                  refine g_icmp_ne hc dL_isHand_237 (tgt := 244) (by decide) (n := 240) rfl (fun e => absurd rfl e) (fun _ => ?_)
                  refine g_iconst (v := nI 1) hc (by decide) dL_isHand_240 (n := 241) rfl ?_
                  refine g_goto (n := 245) hc dL_isHand_241 (by decide) ?_
                  refine hret.2.1 _ _ _ _ _ _ _ rfl rfl (by decide) (by decide) dL_isHand_245 ?_
                  exact ⟨_, rfl, w_38, (hw_39), rfl, rfl⟩
            · skip
              refine g_aload_n hc 3 rfl rfl dL_isHand_125 (n := 126) rfl ?_
              refine g_bipush (v := nI 39) hc (by decide) dL_isHand_126 (n := 128) rfl ?_
              refine g_iload hc 7 rfl dL_isHand_128 (n := 130) rfl ?_
              refine n_iadd (v := 39 + r) hc rfl dL_isHand_130 (n := 131) rfl ?_
              refine n_iald (v := hd z bo (39 + r)) hc 0 rfl (by omega) (by decide) rfl dL_isHand_131 (n := 132) rfl ?_
              have b_41 := hh4 (39 + r) (by omega)
              refine g_iload_n hc 2 rfl rfl dL_isHand_132 (n := 133) rfl ?_
              refine n_icmp_ne hc (by omega) (by omega) dL_isHand_133 (tgt := 141) (by decide) (n := 136) rfl (fun c_42 => ?_) (fun c_42 => ?_)
              · skip
                refine g_iload hc 6 rfl dL_isHand_141 (n := 143) rfl ?_
                refine g_istore (lv2 := [(0, .ref (a 0)), (1, .int (nI bo)), (2, .int (nI d)), (3, .ref h0), (4, .int (nI t)), (5, .int (nI f)), (6, .int (nI sp)), (7, .int (nI r))]) hc (by decide) [1, 2, 3, 4, 5, 6, 0, 7] rfl rfl dL_isHand_143 (n := 145) rfl ?_
                refine n_iinc (v := r + 1) (zk := 1) (lv2 := [(0, .ref (a 0)), (1, .int (nI bo)), (2, .int (nI d)), (3, .ref h0), (4, .int (nI t)), (5, .int (nI f)), (6, .int (nI sp)), (7, .int (nI (r + 1)))]) hc 7 rfl (by decide) rfl (by decide) [1, 2, 3, 4, 5, 6, 7, 0] rfl rfl dL_isHand_145 (n := 148) rfl ?_
                refine g_goto (n := 118) hc dL_isHand_148 (by decide) ?_
                exact ih_6 (r + 1) sp (by omega) (by rw [lst_s]; first | exact (if_pos (if_pos (by assumption))).symm | (rw [if_neg (by rw [if_neg (by assumption)]; decide)]; exact hsp)) (by omega)
              · skip
                refine g_iload hc 7 rfl dL_isHand_136 (n := 138) rfl ?_
                refine g_goto (n := 143) hc dL_isHand_138 (by decide) ?_
                refine g_istore (lv2 := [(0, .ref (a 0)), (1, .int (nI bo)), (2, .int (nI d)), (3, .ref h0), (4, .int (nI t)), (5, .int (nI f)), (6, .int (nI r)), (7, .int (nI r))]) hc (by decide) [1, 2, 3, 4, 5, 6, 0, 7] rfl rfl dL_isHand_143 (n := 145) rfl ?_
                refine n_iinc (v := r + 1) (zk := 1) (lv2 := [(0, .ref (a 0)), (1, .int (nI bo)), (2, .int (nI d)), (3, .ref h0), (4, .int (nI t)), (5, .int (nI f)), (6, .int (nI r)), (7, .int (nI (r + 1)))]) hc 7 rfl (by decide) rfl (by decide) [1, 2, 3, 4, 5, 6, 7, 0] rfl rfl dL_isHand_145 (n := 148) rfl ?_
                refine g_goto (n := 118) hc dL_isHand_148 (by decide) ?_
                exact ih_6 (r + 1) r (by omega) (by rw [lst_s]; first | exact (if_pos (if_pos (by assumption))).symm | (rw [if_neg (by rw [if_neg (by assumption)]; decide)]; exact hsp)) (by omega)
        exact L_5 _ 0 4294967290 (by omega) (rfl) (Nat.lt_succ_self _)
      · skip
        refine g_iconst (v := nI 0) hc (by decide) dL_isHand_15 (n := 16) rfl ?_
        refine g_istore (lv2 := [(0, .ref (a 0)), (1, .int (nI bo)), (2, .int (nI d)), (3, .ref h0), (4, .int (nI t)), (5, .int (nI f)), (6, .int (nI i)), (7, .int (nI 0))]) hc (by decide) [1, 2, 3, 4, 5, 6, 7, 0] rfl rfl dL_isHand_16 (n := 18) rfl ?_
        refine g_iconst (v := nI 0) hc (by decide) dL_isHand_18 (n := 19) rfl ?_
        refine g_istore (lv2 := [(0, .ref (a 0)), (1, .int (nI bo)), (2, .int (nI d)), (3, .ref h0), (4, .int (nI t)), (5, .int (nI f)), (6, .int (nI i)), (7, .int (nI 0)), (8, .int (nI 0))]) hc (by decide) [1, 2, 3, 4, 5, 6, 7, 8, 0] rfl rfl dL_isHand_19 (n := 21) rfl ?_
        have L_43 : ∀ (fuel : Nat) (r : Nat) (m : Nat), (r ≤ 13) → (m = sm (fun r => if hd z bo (13 * i + r) = d then 1 else 0) r) → (m ≤ r) → 13 - r < fuel → G κ Γ A 9 0 0 Q ([(h0, aI κ 52 (hd z bo))] ++ w) 21 [(0, .ref (a 0)), (1, .int (nI bo)), (2, .int (nI d)), (3, .ref h0), (4, .int (nI t)), (5, .int (nI f)), (6, .int (nI i)), (7, .int (nI m)), (8, .int (nI r))] [] := by
          intro fuel
          induction fuel with
          | zero => intro r m hr hm hmr h; exact absurd h (Nat.not_lt_zero _)
          | succ fuel ih_44 =>
            intro r m hr hm hmr hn_45
            refine g_iload hc 8 rfl dL_isHand_21 (n := 23) rfl ?_
            refine g_bipush (v := nI 13) hc (by decide) dL_isHand_23 (n := 25) rfl ?_
            refine n_icmp_ge hc (by omega) (by omega) dL_isHand_25 (tgt := 58) (by decide) (n := 28) rfl (fun c_46 => ?_) (fun c_46 => ?_)
            · skip
              have em : m = sl (hd z bo) d i := by have e9 : r = 13 := (by omega); subst e9; rw [hm]; exact (sl13 (hd z bo) d (by omega)).symm
              refine g_iload hc 4 rfl dL_isHand_58 (n := 60) rfl ?_
              refine g_iload hc 7 rfl dL_isHand_60 (n := 62) rfl ?_
              refine g_iconst (v := nI 2) hc (by decide) dL_isHand_62 (n := 63) rfl ?_
              refine n_icmp_ne hc (by omega) (by omega) dL_isHand_63 (tgt := 70) (by decide) (n := 66) rfl (fun c_47 => ?_) (fun c_47 => ?_)
              · skip
                refine g_iconst (v := nI 0) hc (by decide) dL_isHand_70 (n := 71) rfl ?_
                refine n_iadd (v := t + 0) hc rfl dL_isHand_71 (n := 72) rfl ?_
                refine g_istore (lv2 := [(0, .ref (a 0)), (1, .int (nI bo)), (2, .int (nI d)), (3, .ref h0), (4, .int (nI (t + 0))), (5, .int (nI f)), (6, .int (nI i)), (7, .int (nI m)), (8, .int (nI r))]) hc (by decide) [1, 2, 3, 4, 0, 5, 6, 7, 8] rfl rfl dL_isHand_72 (n := 74) rfl ?_
                refine g_iload hc 5 rfl dL_isHand_74 (n := 76) rfl ?_
                refine g_iload hc 7 rfl dL_isHand_76 (n := 78) rfl ?_
                refine g_iconst (v := nI 2) hc (by decide) dL_isHand_78 (n := 79) rfl ?_
                refine n_icmp_ge hc (by omega) (by omega) dL_isHand_79 (tgt := 86) (by decide) (n := 82) rfl (fun c_48 => ?_) (fun c_48 => ?_)
                · skip
                  refine g_iconst (v := nI 0) hc (by decide) dL_isHand_86 (n := 87) rfl ?_
                  refine n_iadd (v := f + 0) hc rfl dL_isHand_87 (n := 88) rfl ?_
                  refine g_istore (lv2 := [(0, .ref (a 0)), (1, .int (nI bo)), (2, .int (nI d)), (3, .ref h0), (4, .int (nI (t + 0))), (5, .int (nI (f + 0))), (6, .int (nI i)), (7, .int (nI m)), (8, .int (nI r))]) hc (by decide) [1, 2, 3, 4, 5, 0, 6, 7, 8] rfl rfl dL_isHand_88 (n := 90) rfl ?_
                  refine g_aload_n hc 0 rfl rfl dL_isHand_90 (n := 91) rfl ?_
                  refine g_iload_n hc 1 rfl rfl dL_isHand_91 (n := 92) rfl ?_
                  refine g_iload_n hc 2 rfl rfl dL_isHand_92 (n := 93) rfl ?_
                  refine g_iload hc 6 rfl dL_isHand_93 (n := 95) rfl ?_
                  refine g_cls (As := [.int (nI bo), .int (nI d), .int (nI i)]) (rest := []) hc (s_hand_ok hwi bo d i hb hd4 (by omega) hha) q_X4_hand k_ml_RL_33 rfl rfl (Oc.rc hwi) vw_4 ⟨⟨by decide, by decide⟩, by decide, by decide⟩ (Nat.le_of_ble_eq_true rfl) dL_isHand_95 (n := 98) rfl (fun w_49 hw_50 => ?_)
                  refine g_top (y := nI m) (congrArg nI ((ah_s z hb hd4 (by omega) hha).trans em.symm)) ?_
                  refine g_iload hc 7 rfl dL_isHand_98 (n := 100) rfl ?_
                  refine g_icmp_eq hc dL_isHand_100 (tgt := 105) (by decide) (n := 103) rfl (fun _ => ?_) (fun e => absurd rfl e)
                  refine n_iinc (v := i + 1) (zk := 1) (lv2 := [(0, .ref (a 0)), (1, .int (nI bo)), (2, .int (nI d)), (3, .ref h0), (4, .int (nI (t + 0))), (5, .int (nI (f + 0))), (6, .int (nI (i + 1))), (7, .int (nI m)), (8, .int (nI r))]) hc 6 rfl (by decide) rfl (by decide) [1, 2, 3, 4, 5, 6, 0, 7, 8] rfl rfl dL_isHand_105 (n := 108) rfl ?_
                  refine g_goto (n := 9) hc dL_isHand_108 (by decide) ?_
                  refine g_lsub (lv' := [(0, .ref (a 0)), (1, .int (nI bo)), (2, .int (nI d)), (3, .ref h0), (4, .int (nI (t + 0))), (5, .int (nI (f + 0))), (6, .int (nI (i + 1)))]) [0, 1, 2, 3, 4, 5, 6] rfl ?_
                  exact ih_2 (i + 1) (t + 0) (f + 0) w_49 (hw_50) (by omega) (by rw [sm_s, ← hs1, ← em]; first | (split <;> omega) | omega) (by rw [sm_s, ← hs2, ← em]; first | (split <;> omega) | omega) (by omega) (by omega) (by omega)
                · skip
                  refine g_iconst (v := nI 1) hc (by decide) dL_isHand_82 (n := 83) rfl ?_
                  refine g_goto (n := 87) hc dL_isHand_83 (by decide) ?_
                  refine n_iadd (v := f + 1) hc rfl dL_isHand_87 (n := 88) rfl ?_
                  refine g_istore (lv2 := [(0, .ref (a 0)), (1, .int (nI bo)), (2, .int (nI d)), (3, .ref h0), (4, .int (nI (t + 0))), (5, .int (nI (f + 1))), (6, .int (nI i)), (7, .int (nI m)), (8, .int (nI r))]) hc (by decide) [1, 2, 3, 4, 5, 0, 6, 7, 8] rfl rfl dL_isHand_88 (n := 90) rfl ?_
                  refine g_aload_n hc 0 rfl rfl dL_isHand_90 (n := 91) rfl ?_
                  refine g_iload_n hc 1 rfl rfl dL_isHand_91 (n := 92) rfl ?_
                  refine g_iload_n hc 2 rfl rfl dL_isHand_92 (n := 93) rfl ?_
                  refine g_iload hc 6 rfl dL_isHand_93 (n := 95) rfl ?_
                  refine g_cls (As := [.int (nI bo), .int (nI d), .int (nI i)]) (rest := []) hc (s_hand_ok hwi bo d i hb hd4 (by omega) hha) q_X4_hand k_ml_RL_33 rfl rfl (Oc.rc hwi) vw_4 ⟨⟨by decide, by decide⟩, by decide, by decide⟩ (Nat.le_of_ble_eq_true rfl) dL_isHand_95 (n := 98) rfl (fun w_51 hw_52 => ?_)
                  refine g_top (y := nI m) (congrArg nI ((ah_s z hb hd4 (by omega) hha).trans em.symm)) ?_
                  refine g_iload hc 7 rfl dL_isHand_98 (n := 100) rfl ?_
                  refine g_icmp_eq hc dL_isHand_100 (tgt := 105) (by decide) (n := 103) rfl (fun _ => ?_) (fun e => absurd rfl e)
                  refine n_iinc (v := i + 1) (zk := 1) (lv2 := [(0, .ref (a 0)), (1, .int (nI bo)), (2, .int (nI d)), (3, .ref h0), (4, .int (nI (t + 0))), (5, .int (nI (f + 1))), (6, .int (nI (i + 1))), (7, .int (nI m)), (8, .int (nI r))]) hc 6 rfl (by decide) rfl (by decide) [1, 2, 3, 4, 5, 6, 0, 7, 8] rfl rfl dL_isHand_105 (n := 108) rfl ?_
                  refine g_goto (n := 9) hc dL_isHand_108 (by decide) ?_
                  refine g_lsub (lv' := [(0, .ref (a 0)), (1, .int (nI bo)), (2, .int (nI d)), (3, .ref h0), (4, .int (nI (t + 0))), (5, .int (nI (f + 1))), (6, .int (nI (i + 1)))]) [0, 1, 2, 3, 4, 5, 6] rfl ?_
                  exact ih_2 (i + 1) (t + 0) (f + 1) w_51 (hw_52) (by omega) (by rw [sm_s, ← hs1, ← em]; first | (split <;> omega) | omega) (by rw [sm_s, ← hs2, ← em]; first | (split <;> omega) | omega) (by omega) (by omega) (by omega)
              · skip
                refine g_iconst (v := nI 1) hc (by decide) dL_isHand_66 (n := 67) rfl ?_
                refine g_goto (n := 71) hc dL_isHand_67 (by decide) ?_
                refine n_iadd (v := t + 1) hc rfl dL_isHand_71 (n := 72) rfl ?_
                refine g_istore (lv2 := [(0, .ref (a 0)), (1, .int (nI bo)), (2, .int (nI d)), (3, .ref h0), (4, .int (nI (t + 1))), (5, .int (nI f)), (6, .int (nI i)), (7, .int (nI m)), (8, .int (nI r))]) hc (by decide) [1, 2, 3, 4, 0, 5, 6, 7, 8] rfl rfl dL_isHand_72 (n := 74) rfl ?_
                refine g_iload hc 5 rfl dL_isHand_74 (n := 76) rfl ?_
                refine g_iload hc 7 rfl dL_isHand_76 (n := 78) rfl ?_
                refine g_iconst (v := nI 2) hc (by decide) dL_isHand_78 (n := 79) rfl ?_
                refine n_icmp_ge hc (by omega) (by omega) dL_isHand_79 (tgt := 86) (by decide) (n := 82) rfl (fun c_53 => ?_) (fun c_53 => ?_)
                · skip
                  refine g_iconst (v := nI 0) hc (by decide) dL_isHand_86 (n := 87) rfl ?_
                  refine n_iadd (v := f + 0) hc rfl dL_isHand_87 (n := 88) rfl ?_
                  refine g_istore (lv2 := [(0, .ref (a 0)), (1, .int (nI bo)), (2, .int (nI d)), (3, .ref h0), (4, .int (nI (t + 1))), (5, .int (nI (f + 0))), (6, .int (nI i)), (7, .int (nI m)), (8, .int (nI r))]) hc (by decide) [1, 2, 3, 4, 5, 0, 6, 7, 8] rfl rfl dL_isHand_88 (n := 90) rfl ?_
                  refine g_aload_n hc 0 rfl rfl dL_isHand_90 (n := 91) rfl ?_
                  refine g_iload_n hc 1 rfl rfl dL_isHand_91 (n := 92) rfl ?_
                  refine g_iload_n hc 2 rfl rfl dL_isHand_92 (n := 93) rfl ?_
                  refine g_iload hc 6 rfl dL_isHand_93 (n := 95) rfl ?_
                  refine g_cls (As := [.int (nI bo), .int (nI d), .int (nI i)]) (rest := []) hc (s_hand_ok hwi bo d i hb hd4 (by omega) hha) q_X4_hand k_ml_RL_33 rfl rfl (Oc.rc hwi) vw_4 ⟨⟨by decide, by decide⟩, by decide, by decide⟩ (Nat.le_of_ble_eq_true rfl) dL_isHand_95 (n := 98) rfl (fun w_54 hw_55 => ?_)
                  refine g_top (y := nI m) (congrArg nI ((ah_s z hb hd4 (by omega) hha).trans em.symm)) ?_
                  refine g_iload hc 7 rfl dL_isHand_98 (n := 100) rfl ?_
                  refine g_icmp_eq hc dL_isHand_100 (tgt := 105) (by decide) (n := 103) rfl (fun _ => ?_) (fun e => absurd rfl e)
                  refine n_iinc (v := i + 1) (zk := 1) (lv2 := [(0, .ref (a 0)), (1, .int (nI bo)), (2, .int (nI d)), (3, .ref h0), (4, .int (nI (t + 1))), (5, .int (nI (f + 0))), (6, .int (nI (i + 1))), (7, .int (nI m)), (8, .int (nI r))]) hc 6 rfl (by decide) rfl (by decide) [1, 2, 3, 4, 5, 6, 0, 7, 8] rfl rfl dL_isHand_105 (n := 108) rfl ?_
                  refine g_goto (n := 9) hc dL_isHand_108 (by decide) ?_
                  refine g_lsub (lv' := [(0, .ref (a 0)), (1, .int (nI bo)), (2, .int (nI d)), (3, .ref h0), (4, .int (nI (t + 1))), (5, .int (nI (f + 0))), (6, .int (nI (i + 1)))]) [0, 1, 2, 3, 4, 5, 6] rfl ?_
                  exact ih_2 (i + 1) (t + 1) (f + 0) w_54 (hw_55) (by omega) (by rw [sm_s, ← hs1, ← em]; first | (split <;> omega) | omega) (by rw [sm_s, ← hs2, ← em]; first | (split <;> omega) | omega) (by omega) (by omega) (by omega)
                · skip
                  refine g_iconst (v := nI 1) hc (by decide) dL_isHand_82 (n := 83) rfl ?_
                  refine g_goto (n := 87) hc dL_isHand_83 (by decide) ?_
                  refine n_iadd (v := f + 1) hc rfl dL_isHand_87 (n := 88) rfl ?_
                  refine g_istore (lv2 := [(0, .ref (a 0)), (1, .int (nI bo)), (2, .int (nI d)), (3, .ref h0), (4, .int (nI (t + 1))), (5, .int (nI (f + 1))), (6, .int (nI i)), (7, .int (nI m)), (8, .int (nI r))]) hc (by decide) [1, 2, 3, 4, 5, 0, 6, 7, 8] rfl rfl dL_isHand_88 (n := 90) rfl ?_
                  refine g_aload_n hc 0 rfl rfl dL_isHand_90 (n := 91) rfl ?_
                  refine g_iload_n hc 1 rfl rfl dL_isHand_91 (n := 92) rfl ?_
                  refine g_iload_n hc 2 rfl rfl dL_isHand_92 (n := 93) rfl ?_
                  refine g_iload hc 6 rfl dL_isHand_93 (n := 95) rfl ?_
                  refine g_cls (As := [.int (nI bo), .int (nI d), .int (nI i)]) (rest := []) hc (s_hand_ok hwi bo d i hb hd4 (by omega) hha) q_X4_hand k_ml_RL_33 rfl rfl (Oc.rc hwi) vw_4 ⟨⟨by decide, by decide⟩, by decide, by decide⟩ (Nat.le_of_ble_eq_true rfl) dL_isHand_95 (n := 98) rfl (fun w_56 hw_57 => ?_)
                  refine g_top (y := nI m) (congrArg nI ((ah_s z hb hd4 (by omega) hha).trans em.symm)) ?_
                  refine g_iload hc 7 rfl dL_isHand_98 (n := 100) rfl ?_
                  refine g_icmp_eq hc dL_isHand_100 (tgt := 105) (by decide) (n := 103) rfl (fun _ => ?_) (fun e => absurd rfl e)
                  refine n_iinc (v := i + 1) (zk := 1) (lv2 := [(0, .ref (a 0)), (1, .int (nI bo)), (2, .int (nI d)), (3, .ref h0), (4, .int (nI (t + 1))), (5, .int (nI (f + 1))), (6, .int (nI (i + 1))), (7, .int (nI m)), (8, .int (nI r))]) hc 6 rfl (by decide) rfl (by decide) [1, 2, 3, 4, 5, 6, 0, 7, 8] rfl rfl dL_isHand_105 (n := 108) rfl ?_
                  refine g_goto (n := 9) hc dL_isHand_108 (by decide) ?_
                  refine g_lsub (lv' := [(0, .ref (a 0)), (1, .int (nI bo)), (2, .int (nI d)), (3, .ref h0), (4, .int (nI (t + 1))), (5, .int (nI (f + 1))), (6, .int (nI (i + 1)))]) [0, 1, 2, 3, 4, 5, 6] rfl ?_
                  exact ih_2 (i + 1) (t + 1) (f + 1) w_56 (hw_57) (by omega) (by rw [sm_s, ← hs1, ← em]; first | (split <;> omega) | omega) (by rw [sm_s, ← hs2, ← em]; first | (split <;> omega) | omega) (by omega) (by omega) (by omega)
            · skip
              refine g_iload hc 7 rfl dL_isHand_28 (n := 30) rfl ?_
              refine g_aload_n hc 3 rfl rfl dL_isHand_30 (n := 31) rfl ?_
              refine g_bipush (v := nI 13) hc (by decide) dL_isHand_31 (n := 33) rfl ?_
              refine g_iload hc 6 rfl dL_isHand_33 (n := 35) rfl ?_
              refine n_imul (v := 13 * i) hc rfl dL_isHand_35 (n := 36) rfl ?_
              refine g_iload hc 8 rfl dL_isHand_36 (n := 38) rfl ?_
              refine n_iadd (v := (13 * i) + r) hc rfl dL_isHand_38 (n := 39) rfl ?_
              refine n_iald (v := hd z bo ((13 * i) + r)) hc 0 rfl (by omega) (by decide) rfl dL_isHand_39 (n := 40) rfl ?_
              have b_58 := hh4 ((13 * i) + r) (by omega)
              refine g_iload_n hc 2 rfl rfl dL_isHand_40 (n := 41) rfl ?_
              refine n_icmp_ne hc (by omega) (by omega) dL_isHand_41 (tgt := 48) (by decide) (n := 44) rfl (fun c_59 => ?_) (fun c_59 => ?_)
              · skip
                refine g_iconst (v := nI 0) hc (by decide) dL_isHand_48 (n := 49) rfl ?_
                refine n_iadd (v := m + 0) hc rfl dL_isHand_49 (n := 50) rfl ?_
                refine g_istore (lv2 := [(0, .ref (a 0)), (1, .int (nI bo)), (2, .int (nI d)), (3, .ref h0), (4, .int (nI t)), (5, .int (nI f)), (6, .int (nI i)), (7, .int (nI (m + 0))), (8, .int (nI r))]) hc (by decide) [1, 2, 3, 4, 5, 6, 7, 0, 8] rfl rfl dL_isHand_50 (n := 52) rfl ?_
                refine n_iinc (v := r + 1) (zk := 1) (lv2 := [(0, .ref (a 0)), (1, .int (nI bo)), (2, .int (nI d)), (3, .ref h0), (4, .int (nI t)), (5, .int (nI f)), (6, .int (nI i)), (7, .int (nI (m + 0))), (8, .int (nI (r + 1)))]) hc 8 rfl (by decide) rfl (by decide) [1, 2, 3, 4, 5, 6, 7, 8, 0] rfl rfl dL_isHand_52 (n := 55) rfl ?_
                refine g_goto (n := 21) hc dL_isHand_55 (by decide) ?_
                exact ih_44 (r + 1) (m + 0) (by omega) (by rw [sm_s, ← hm]; first | (split <;> omega) | omega) (by omega) (by omega)
              · skip
                refine g_iconst (v := nI 1) hc (by decide) dL_isHand_44 (n := 45) rfl ?_
                refine g_goto (n := 49) hc dL_isHand_45 (by decide) ?_
                refine n_iadd (v := m + 1) hc rfl dL_isHand_49 (n := 50) rfl ?_
                refine g_istore (lv2 := [(0, .ref (a 0)), (1, .int (nI bo)), (2, .int (nI d)), (3, .ref h0), (4, .int (nI t)), (5, .int (nI f)), (6, .int (nI i)), (7, .int (nI (m + 1))), (8, .int (nI r))]) hc (by decide) [1, 2, 3, 4, 5, 6, 7, 0, 8] rfl rfl dL_isHand_50 (n := 52) rfl ?_
                refine n_iinc (v := r + 1) (zk := 1) (lv2 := [(0, .ref (a 0)), (1, .int (nI bo)), (2, .int (nI d)), (3, .ref h0), (4, .int (nI t)), (5, .int (nI f)), (6, .int (nI i)), (7, .int (nI (m + 1))), (8, .int (nI (r + 1)))]) hc 8 rfl (by decide) rfl (by decide) [1, 2, 3, 4, 5, 6, 7, 8, 0] rfl rfl dL_isHand_52 (n := 55) rfl ?_
                refine g_goto (n := 21) hc dL_isHand_55 (by decide) ?_
                exact ih_44 (r + 1) (m + 1) (by omega) (by rw [sm_s, ← hm]; first | (split <;> omega) | omega) (by omega) (by omega)
        exact L_43 _ 0 0 (by omega) (rfl) (by omega) (Nat.lt_succ_self _)
  exact L_1 _ 0 0 0 w0 (hw0) (by omega) (rfl) (rfl) (by omega) (by omega) (Nat.lt_succ_self _)
set_option maxHeartbeats 1000000 in
set_option maxRecDepth 100000 in
theorem c_L_isBoard (κ : Kp) (l : Launch) (a : Nat → Nat) (q : Nat → Nat) (z : Nat → Nat) (n : Nat) (w0 : va_W) (t0 : Nat) (h0 : Nat) (bo : Nat) (hw0 : Oc κ a q z n w0) (hb : bo < 4) : CT κ l yL_isBoard cL_isBoard 6 (some .boolean) 6 162 0 0 [.ref (a 0), .int (nI bo), .ref t0, .ref h0] ([(t0, aI κ 12 (tt z)), (h0, aI κ 52 (hd z bo))] ++ w0) (PI (fun rr ww => ∃ w2 : va_W, (Oc κ a q z n w2) ∧ rr = (nI 1) ∧ ww = [(t0, aI κ 12 (tt z)), (h0, aI κ 52 (hd z bo))] ++ w2)) := by
  refine CT.go (by decide +kernel) (Nat.le_of_ble_eq_true rfl) ?_
  intro Γ A Q hl hc hret
  subst hl
  have hc : Cx κ Γ A cL_isBoard 6 RL "isBoard" (some .boolean) { frames := 6, cells := 0, slots := 0, locals := 162 } := hc
  refine g_lv (lv' := [(0, .ref (a 0)), (1, .int (nI bo)), (2, .ref t0), (3, .ref h0)]) rfl ?_
  obtain ⟨hzb, hzf, hzc, hpz, hzh, hk1, hk2, hzx⟩ := hw0.zv
  have hh4 : ∀ k, k < 52 → hd z bo k < 4 := fun k hk => hd_lt hzh hb k hk
  have hz1 : z (312 + bo) ≤ 1 := hzf bo (by omega)
  have hz2 : z (316 + bo) ≤ 1 := by have := hzf (4 + bo) (by omega); rwa [← Nat.add_assoc] at this
  refine g_aload_n hc 0 rfl rfl dL_isBoard_0 (n := 1) rfl ?_
  refine g_iload_n hc 1 rfl rfl dL_isBoard_1 (n := 2) rfl ?_
  refine g_iconst (v := nI 0) hc (by decide) dL_isBoard_2 (n := 3) rfl ?_
  refine g_cls (As := [.int (nI bo), .int (nI 0)]) (rest := []) hc (s_board_ok hw0 bo 0 hb (by decide)) q_X4_board k_ml_RL_42 rfl rfl (Oc.rc hw0) vw_4 ⟨⟨by decide, by decide⟩, by decide, by decide⟩ (Nat.le_of_ble_eq_true rfl) dL_isBoard_3 (n := 6) rfl (fun w_1 hw_2 => ?_)
  refine g_top (y := nI (z (312 + bo))) (congrArg nI (ab_0 z hb)) ?_
  refine g_aload_n hc 2 rfl rfl dL_isBoard_6 (n := 7) rfl ?_
  refine g_iconst (v := nI 3) hc (by decide) dL_isBoard_7 (n := 8) rfl ?_
  refine g_iload_n hc 1 rfl rfl dL_isBoard_8 (n := 9) rfl ?_
  refine n_imul (v := 3 * bo) hc rfl dL_isBoard_9 (n := 10) rfl ?_
  refine n_iald (v := z (312 + bo)) hc 0 rfl (by omega) (by decide) (tt_0 z bo) dL_isBoard_10 (n := 11) rfl ?_
  refine g_icmp_ne hc dL_isBoard_11 (tgt := 46) (by decide) (n := 14) rfl (fun e => absurd rfl e) (fun _ => ?_)
  refine g_aload_n hc 0 rfl rfl dL_isBoard_14 (n := 15) rfl ?_
  refine g_iload_n hc 1 rfl rfl dL_isBoard_15 (n := 16) rfl ?_
  refine g_iconst (v := nI 1) hc (by decide) dL_isBoard_16 (n := 17) rfl ?_
  refine g_cls (As := [.int (nI bo), .int (nI 1)]) (rest := []) hc (s_board_ok hw_2 bo 1 hb (by decide)) q_X4_board k_ml_RL_42 rfl rfl (Oc.rc hw_2) vw_4 ⟨⟨by decide, by decide⟩, by decide, by decide⟩ (Nat.le_of_ble_eq_true rfl) dL_isBoard_17 (n := 20) rfl (fun w_3 hw_4 => ?_)
  refine g_top (y := nI (z (316 + bo))) (congrArg nI (ab_1 z hb)) ?_
  refine g_aload_n hc 2 rfl rfl dL_isBoard_20 (n := 21) rfl ?_
  refine g_iconst (v := nI 3) hc (by decide) dL_isBoard_21 (n := 22) rfl ?_
  refine g_iload_n hc 1 rfl rfl dL_isBoard_22 (n := 23) rfl ?_
  refine n_imul (v := 3 * bo) hc rfl dL_isBoard_23 (n := 24) rfl ?_
  refine g_iconst (v := nI 1) hc (by decide) dL_isBoard_24 (n := 25) rfl ?_
  refine n_iadd (v := (3 * bo) + 1) hc rfl dL_isBoard_25 (n := 26) rfl ?_
  refine n_iald (v := z (316 + bo)) hc 0 rfl (by omega) (by decide) (tt_1 z bo) dL_isBoard_26 (n := 27) rfl ?_
  refine g_icmp_ne hc dL_isBoard_27 (tgt := 46) (by decide) (n := 30) rfl (fun e => absurd rfl e) (fun _ => ?_)
  refine g_aload_n hc 0 rfl rfl dL_isBoard_30 (n := 31) rfl ?_
  refine g_iload_n hc 1 rfl rfl dL_isBoard_31 (n := 32) rfl ?_
  refine g_iconst (v := nI 2) hc (by decide) dL_isBoard_32 (n := 33) rfl ?_
  refine g_cls (As := [.int (nI bo), .int (nI 2)]) (rest := []) hc (s_board_ok hw_4 bo 2 hb (by decide)) q_X4_board k_ml_RL_42 rfl rfl (Oc.rc hw_4) vw_4 ⟨⟨by decide, by decide⟩, by decide, by decide⟩ (Nat.le_of_ble_eq_true rfl) dL_isBoard_33 (n := 36) rfl (fun w_5 hw_6 => ?_)
  refine g_top (y := nI (z (320 + bo))) (congrArg nI (ab_2 z hb)) ?_
  refine g_aload_n hc 2 rfl rfl dL_isBoard_36 (n := 37) rfl ?_
  refine g_iconst (v := nI 3) hc (by decide) dL_isBoard_37 (n := 38) rfl ?_
  refine g_iload_n hc 1 rfl rfl dL_isBoard_38 (n := 39) rfl ?_
  refine n_imul (v := 3 * bo) hc rfl dL_isBoard_39 (n := 40) rfl ?_
  refine g_iconst (v := nI 2) hc (by decide) dL_isBoard_40 (n := 41) rfl ?_
  refine n_iadd (v := (3 * bo) + 2) hc rfl dL_isBoard_41 (n := 42) rfl ?_
  refine n_iald (v := z (320 + bo)) hc 0 rfl (by omega) (by decide) (tt_2 z bo) dL_isBoard_42 (n := 43) rfl ?_
  refine g_icmp_eq hc dL_isBoard_43 (tgt := 48) (by decide) (n := 46) rfl (fun _ => ?_) (fun e => absurd rfl e)
  refine g_aload_n hc 2 rfl rfl dL_isBoard_48 (n := 49) rfl ?_
  refine g_iconst (v := nI 3) hc (by decide) dL_isBoard_49 (n := 50) rfl ?_
  refine g_iload_n hc 1 rfl rfl dL_isBoard_50 (n := 51) rfl ?_
  refine n_imul (v := 3 * bo) hc rfl dL_isBoard_51 (n := 52) rfl ?_
  refine n_iald (v := z (312 + bo)) hc 0 rfl (by omega) (by decide) (tt_0 z bo) dL_isBoard_52 (n := 53) rfl ?_
  refine n_if_ne hc (by omega) dL_isBoard_53 (tgt := 116) (by decide) (n := 56) rfl (fun c_7 => ?_) (fun c_7 => ?_)
  · skip
    have hha : z (312 + bo) = 1 := by omega
    refine g_iconst (v := nI 0) hc (by decide) dL_isBoard_116 (n := 117) rfl ?_
    refine g_istore (lv2 := [(0, .ref (a 0)), (1, .int (nI bo)), (2, .ref t0), (3, .ref h0), (4, .int (nI 0))]) hc (by decide) [1, 2, 3, 4, 0] rfl rfl dL_isBoard_117 (n := 119) rfl ?_
    refine g_iconst (v := nI 0) hc (by decide) dL_isBoard_119 (n := 120) rfl ?_
    refine g_istore (lv2 := [(0, .ref (a 0)), (1, .int (nI bo)), (2, .ref t0), (3, .ref h0), (4, .int (nI 0)), (5, .int (nI 0))]) hc (by decide) [1, 2, 3, 4, 5, 0] rfl rfl dL_isBoard_120 (n := 122) rfl ?_
    have L_8 : ∀ (fuel : Nat) (k : Nat) (w : va_W), (Oc κ a q z n w) → (k ≤ 52) → 52 - k < fuel → G κ Γ A 6 0 0 Q ([(t0, aI κ 12 (tt z)), (h0, aI κ 52 (hd z bo))] ++ w) 122 [(0, .ref (a 0)), (1, .int (nI bo)), (2, .ref t0), (3, .ref h0), (4, .int (nI 0)), (5, .int (nI k))] [] := by
      intro fuel
      induction fuel with
      | zero => intro k w hwk hk h; exact absurd h (Nat.not_lt_zero _)
      | succ fuel ih_9 =>
        intro k w hwk hk hn_10
        refine g_iload hc 5 rfl dL_isBoard_122 (n := 124) rfl ?_
        refine g_bipush (v := nI 52) hc (by decide) dL_isBoard_124 (n := 126) rfl ?_
        refine n_icmp_ge hc (by omega) (by omega) dL_isBoard_126 (tgt := 151) (by decide) (n := 129) rfl (fun c_11 => ?_) (fun c_11 => ?_)
        · skip
          refine g_iconst (v := nI 0) hc (by decide) dL_isBoard_151 (n := 152) rfl ?_
          refine g_istore (lv2 := [(0, .ref (a 0)), (1, .int (nI bo)), (2, .ref t0), (3, .ref h0), (4, .int (nI 0)), (5, .int (nI 0))]) hc (by decide) [1, 2, 3, 4, 5, 0] rfl rfl dL_isBoard_152 (n := 154) rfl ?_
          have L_12 : ∀ (fuel : Nat) (i : Nat) (bs : Nat) (w : va_W), (Oc κ a q z n w) → (i ≤ 4) → (bs = bst (pt (hd z bo)) (i - 1)) → (bs < 4) → 4 - i < fuel → G κ Γ A 6 0 0 Q ([(t0, aI κ 12 (tt z)), (h0, aI κ 52 (hd z bo))] ++ w) 154 [(0, .ref (a 0)), (1, .int (nI bo)), (2, .ref t0), (3, .ref h0), (4, .int (nI bs)), (5, .int (nI i))] [] := by
            intro fuel
            induction fuel with
            | zero => intro i bs w hwi hi hbs hb4 h; exact absurd h (Nat.not_lt_zero _)
            | succ fuel ih_13 =>
              intro i bs w hwi hi hbs hb4 hn_14
              refine g_iload hc 5 rfl dL_isBoard_154 (n := 156) rfl ?_
              refine g_iconst (v := nI 4) hc (by decide) dL_isBoard_156 (n := 157) rfl ?_
              refine n_icmp_ge hc (by omega) (by omega) dL_isBoard_157 (tgt := 203) (by decide) (n := 160) rfl (fun c_15 => ?_) (fun c_15 => ?_)
              · skip
                refine g_aload_n hc 0 rfl rfl dL_isBoard_203 (n := 204) rfl ?_
                refine g_iload_n hc 1 rfl rfl dL_isBoard_204 (n := 205) rfl ?_
                refine g_iconst (v := nI 3) hc (by decide) dL_isBoard_205 (n := 206) rfl ?_
                refine g_cls (As := [.int (nI bo), .int (nI 3)]) (rest := []) hc (s_board_ok hwi bo 3 hb (by decide)) q_X4_board k_ml_RL_42 rfl rfl (Oc.rc hwi) vw_4 ⟨⟨by decide, by decide⟩, by decide, by decide⟩ (Nat.le_of_ble_eq_true rfl) dL_isBoard_206 (n := 209) rfl (fun w_16 hw_17 => ?_)
                refine g_top (y := nI bs) (congrArg nI (by rw [ab_3 z hb, if_neg (by omega)]; have e9 : i = 4 := (by omega); subst e9; exact hbs.symm)) ?_
                refine g_iload hc 4 rfl dL_isBoard_209 (n := 211) rfl ?_
                refine g_icmp_ne hc dL_isBoard_211 (tgt := 239) (by decide) (n := 214) rfl (fun e => absurd rfl e) (fun _ => ?_)
                refine g_aload_n hc 0 rfl rfl dL_isBoard_214 (n := 215) rfl ?_
                refine g_iload_n hc 1 rfl rfl dL_isBoard_215 (n := 216) rfl ?_
                refine g_iconst (v := nI 5) hc (by decide) dL_isBoard_216 (n := 217) rfl ?_
                refine g_cls (As := [.int (nI bo), .int (nI 5)]) (rest := []) hc (s_board_er2 hw_17 bo (nI 5) hb (by decide)) q_X4_board k_ml_RL_42 rfl rfl (Oc.rc hw_17) vw_4 ⟨⟨by decide, by decide⟩, by decide, by decide⟩ (Nat.le_of_ble_eq_true rfl) dL_isBoard_217 (n := 220) rfl (fun w_18 hw_19 => ?_)
                refine g_bipush (v := nI 4294967294) hc (by decide) dL_isBoard_220 (n := 222) rfl ?_
                refine g_icmp_ne hc dL_isBoard_222 (tgt := 239) (by decide) (n := 225) rfl (fun e => absurd rfl e) (fun _ => ?_)
                refine g_aload_n hc 0 rfl rfl dL_isBoard_225 (n := 226) rfl ?_
                refine g_iload_n hc 1 rfl rfl dL_isBoard_226 (n := 227) rfl ?_
                refine g_iload_n hc 1 rfl rfl dL_isBoard_227 (n := 228) rfl ?_
                refine g_cls (As := [.int (nI bo), .int (nI bo)]) (rest := []) hc (s_alike_ok hw_19 bo bo hb hb hha hha) q_X4_alike k_ml_RL_49 rfl rfl (Oc.rc hw_19) vw_4 ⟨⟨by decide, by decide⟩, by decide, by decide⟩ (Nat.le_of_ble_eq_true rfl) dL_isBoard_228 (n := 231) rfl (fun w_20 hw_21 => ?_)
                refine g_top (y := nI 1) (congrArg nI (al_self _)) ?_
                refine g_iconst (v := nI 1) hc (by decide) dL_isBoard_231 (n := 232) rfl ?_
                refine g_icmp_ne hc dL_isBoard_232 (tgt := 239) (by decide) (n := 235) rfl (fun e => absurd rfl e) (fun _ => ?_)
                refine g_iconst (v := nI 1) hc (by decide) dL_isBoard_235 (n := 236) rfl ?_
                refine g_goto (n := 240) hc dL_isBoard_236 (by decide) ?_
                refine hret.2.1 _ _ _ _ _ _ _ rfl rfl (by decide) (by decide) dL_isBoard_240 ?_
                exact ⟨_, rfl, w_20, (hw_21), rfl, rfl⟩
              · skip
                refine g_aload_n hc 0 rfl rfl dL_isBoard_160 (n := 161) rfl ?_
                refine g_iload_n hc 1 rfl rfl dL_isBoard_161 (n := 162) rfl ?_
                refine g_iload hc 5 rfl dL_isBoard_162 (n := 164) rfl ?_
                refine g_aload_n hc 3 rfl rfl dL_isBoard_164 (n := 165) rfl ?_
                refine g_callS (rest := []) (As := [.ref (a 0), .int (nI bo), .int (nI i), .ref h0]) (cells' := 0) (slots' := 0) hc (c_L_isHand κ _ a q z n w h0 bo i hwi hb (by omega) hha) q_L_isHand k_ml_RL_52 rfl rfl (jn_p (wr := [(t0, aI κ 12 (tt z))]) [1] [0] rfl rfl rfl rfl (by decide)) ⟨⟨by decide, by decide⟩, by decide, by decide⟩ (Nat.le_of_ble_eq_true rfl) rfl rfl dL_isBoard_165 (n := 168) rfl (fun vv ww hp => ?_)
                obtain ⟨rr, rfl, w2_22, hw2_23, rfl, rfl⟩ := hp
                refine ⟨_, ⟨_, _, rfl, rfl⟩, ?_⟩
                refine g_ws (ws' := ([(t0, aI κ 12 (tt z)), (h0, aI κ 52 (hd z bo))] ++ w2_22)) rfl ?_
                refine g_st (st' := [.int (nI 1)]) rfl ?_
                refine n_if_ne hc (by omega) dL_isBoard_168 (tgt := 173) (by decide) (n := 171) rfl (fun c_24 => ?_) (fun c_24 => by (exfalso; revert c_24; first | omega | decide))
                have hp0 := pt_le (hd z bo) i; have hp1 := pt_le (hd z bo) bs
                refine g_aload_n hc 3 rfl rfl dL_isBoard_173 (n := 174) rfl ?_
                refine g_iload hc 5 rfl dL_isBoard_174 (n := 176) rfl ?_
                refine g_callS (rest := []) (As := [.ref h0, .int (nI i)]) (cells' := 0) (slots' := 0) hc (c_L_points κ _ h0 i (hd z bo) hh4 (by omega)) q_L_points k_ml_RL_39 rfl rfl (jn_q (wr := [(t0, aI κ 12 (tt z))]) [1] [0] rfl rfl rfl rfl (by decide)) ⟨⟨by decide, by decide⟩, by decide, by decide⟩ (Nat.le_of_ble_eq_true rfl) rfl rfl dL_isBoard_176 (n := 179) rfl (fun vv ww hp => ?_)
                obtain ⟨rr, rfl, rfl, rfl⟩ := hp
                refine ⟨_, rfl, ?_⟩
                refine g_ws (ws' := ([(t0, aI κ 12 (tt z)), (h0, aI κ 52 (hd z bo))] ++ w2_22)) rfl ?_
                refine g_st (st' := [.int (nI (pt (hd z bo) i))]) rfl ?_
                refine g_aload_n hc 3 rfl rfl dL_isBoard_179 (n := 180) rfl ?_
                refine g_iload hc 4 rfl dL_isBoard_180 (n := 182) rfl ?_
                refine g_callS (rest := [.int (nI (pt (hd z bo) i))]) (As := [.ref h0, .int (nI bs)]) (cells' := 0) (slots' := 0) hc (c_L_points κ _ h0 bs (hd z bo) hh4 (by omega)) q_L_points k_ml_RL_39 rfl rfl (jn_q (wr := [(t0, aI κ 12 (tt z))]) [1] [0] rfl rfl rfl rfl (by decide)) ⟨⟨by decide, by decide⟩, by decide, by decide⟩ (Nat.le_of_ble_eq_true rfl) rfl rfl dL_isBoard_182 (n := 185) rfl (fun vv ww hp => ?_)
                obtain ⟨rr, rfl, rfl, rfl⟩ := hp
                refine ⟨_, rfl, ?_⟩
                refine g_ws (ws' := ([(t0, aI κ 12 (tt z)), (h0, aI κ 52 (hd z bo))] ++ w2_22)) rfl ?_
                refine g_st (st' := [.int (nI (pt (hd z bo) bs)), .int (nI (pt (hd z bo) i))]) rfl ?_
                refine n_icmp_le hc (by omega) (by omega) dL_isBoard_185 (tgt := 193) (by decide) (n := 188) rfl (fun c_25 => ?_) (fun c_25 => ?_)
                · skip
                  refine g_iload hc 4 rfl dL_isBoard_193 (n := 195) rfl ?_
                  refine g_istore (lv2 := [(0, .ref (a 0)), (1, .int (nI bo)), (2, .ref t0), (3, .ref h0), (4, .int (nI bs)), (5, .int (nI i))]) hc (by decide) [1, 2, 3, 4, 0, 5] rfl rfl dL_isBoard_195 (n := 197) rfl ?_
                  refine n_iinc (v := i + 1) (zk := 1) (lv2 := [(0, .ref (a 0)), (1, .int (nI bo)), (2, .ref t0), (3, .ref h0), (4, .int (nI bs)), (5, .int (nI (i + 1)))]) hc 5 rfl (by decide) rfl (by decide) [1, 2, 3, 4, 5, 0] rfl rfl dL_isBoard_197 (n := 200) rfl ?_
                  refine g_goto (n := 154) hc dL_isBoard_200 (by decide) ?_
                  exact ih_13 (i + 1) bs w2_22 (hw2_23) (by omega) (by first | exact (bst_st _ hbs).1 (by omega) | exact (bst_st _ hbs).2 (by omega)) (by omega) (by omega)
                · skip
                  refine g_iload hc 5 rfl dL_isBoard_188 (n := 190) rfl ?_
                  refine g_goto (n := 195) hc dL_isBoard_190 (by decide) ?_
                  refine g_istore (lv2 := [(0, .ref (a 0)), (1, .int (nI bo)), (2, .ref t0), (3, .ref h0), (4, .int (nI i)), (5, .int (nI i))]) hc (by decide) [1, 2, 3, 4, 0, 5] rfl rfl dL_isBoard_195 (n := 197) rfl ?_
                  refine n_iinc (v := i + 1) (zk := 1) (lv2 := [(0, .ref (a 0)), (1, .int (nI bo)), (2, .ref t0), (3, .ref h0), (4, .int (nI i)), (5, .int (nI (i + 1)))]) hc 5 rfl (by decide) rfl (by decide) [1, 2, 3, 4, 5, 0] rfl rfl dL_isBoard_197 (n := 200) rfl ?_
                  refine g_goto (n := 154) hc dL_isBoard_200 (by decide) ?_
                  exact ih_13 (i + 1) i w2_22 (hw2_23) (by omega) (by first | exact (bst_st _ hbs).1 (by omega) | exact (bst_st _ hbs).2 (by omega)) (by omega) (by omega)
          exact L_12 _ 0 0 w (hwk) (by omega) (rfl) (by omega) (Nat.lt_succ_self _)
        · skip
          refine g_aload_n hc 0 rfl rfl dL_isBoard_129 (n := 130) rfl ?_
          refine g_iload_n hc 1 rfl rfl dL_isBoard_130 (n := 131) rfl ?_
          refine g_iload hc 5 rfl dL_isBoard_131 (n := 133) rfl ?_
          refine g_cls (As := [.int (nI bo), .int (nI k)]) (rest := []) hc (s_holder_ok hwk bo k hb (by omega) hha) q_X4_holder k_ml_RL_46 rfl rfl (Oc.rc hwk) vw_4 ⟨⟨by decide, by decide⟩, by decide, by decide⟩ (Nat.le_of_ble_eq_true rfl) dL_isBoard_133 (n := 136) rfl (fun w_26 hw_27 => ?_)
          refine g_aload_n hc 3 rfl rfl dL_isBoard_136 (n := 137) rfl ?_
          refine g_iload hc 5 rfl dL_isBoard_137 (n := 139) rfl ?_
          refine n_iald (v := hd z bo k) hc 1 rfl (by omega) (by decide) rfl dL_isBoard_139 (n := 140) rfl ?_
          have b_28 := hh4 k (by omega)
          refine g_icmp_eq hc dL_isBoard_140 (tgt := 145) (by decide) (n := 143) rfl (fun _ => ?_) (fun e => absurd rfl e)
          refine n_iinc (v := k + 1) (zk := 1) (lv2 := [(0, .ref (a 0)), (1, .int (nI bo)), (2, .ref t0), (3, .ref h0), (4, .int (nI 0)), (5, .int (nI (k + 1)))]) hc 5 rfl (by decide) rfl (by decide) [1, 2, 3, 4, 5, 0] rfl rfl dL_isBoard_145 (n := 148) rfl ?_
          refine g_goto (n := 122) hc dL_isBoard_148 (by decide) ?_
          exact ih_9 (k + 1) w_26 (hw_27) (by omega) (by omega)
    exact L_8 _ 0 w_5 (hw_6) (by omega) (Nat.lt_succ_self _)
  · skip
    refine g_aload_n hc 0 rfl rfl dL_isBoard_56 (n := 57) rfl ?_
    refine g_iload_n hc 1 rfl rfl dL_isBoard_57 (n := 58) rfl ?_
    refine g_iconst (v := nI 3) hc (by decide) dL_isBoard_58 (n := 59) rfl ?_
    refine g_cls (As := [.int (nI bo), .int (nI 3)]) (rest := []) hc (s_board_ok hw_6 bo 3 hb (by decide)) q_X4_board k_ml_RL_42 rfl rfl (Oc.rc hw_6) vw_4 ⟨⟨by decide, by decide⟩, by decide, by decide⟩ (Nat.le_of_ble_eq_true rfl) dL_isBoard_59 (n := 62) rfl (fun w_29 hw_30 => ?_)
    refine g_top (y := nI 4294967290) (congrArg nI ((ab_3 z hb).trans (if_pos (by assumption)))) ?_
    refine g_bipush (v := nI 4294967290) hc (by decide) dL_isBoard_62 (n := 64) rfl ?_
    refine g_icmp_ne hc dL_isBoard_64 (tgt := 114) (by decide) (n := 67) rfl (fun e => absurd rfl e) (fun _ => ?_)
    refine g_aload_n hc 0 rfl rfl dL_isBoard_67 (n := 68) rfl ?_
    refine g_iload_n hc 1 rfl rfl dL_isBoard_68 (n := 69) rfl ?_
    refine g_iconst (v := nI 4) hc (by decide) dL_isBoard_69 (n := 70) rfl ?_
    refine g_cls (As := [.int (nI bo), .int (nI 4)]) (rest := []) hc (s_board_ok hw_30 bo 4 hb (by decide)) q_X4_board k_ml_RL_42 rfl rfl (Oc.rc hw_30) vw_4 ⟨⟨by decide, by decide⟩, by decide, by decide⟩ (Nat.le_of_ble_eq_true rfl) dL_isBoard_70 (n := 73) rfl (fun w_31 hw_32 => ?_)
    refine g_top (y := nI 0) (congrArg nI ((ab_4 z hb).trans (if_pos (by assumption)))) ?_
    refine n_if_ne hc (by omega) dL_isBoard_73 (tgt := 114) (by decide) (n := 76) rfl (fun c_33 => by (exfalso; revert c_33; first | omega | decide)) (fun c_33 => ?_)
    refine g_aload_n hc 0 rfl rfl dL_isBoard_76 (n := 77) rfl ?_
    refine g_iload_n hc 1 rfl rfl dL_isBoard_77 (n := 78) rfl ?_
    refine g_iconst (v := nI 5) hc (by decide) dL_isBoard_78 (n := 79) rfl ?_
    refine g_cls (As := [.int (nI bo), .int (nI 5)]) (rest := []) hc (s_holder_no hw_32 bo 5 hb (by decide) (by assumption)) q_X4_holder k_ml_RL_46 rfl rfl (Oc.rc hw_32) vw_4 ⟨⟨by decide, by decide⟩, by decide, by decide⟩ (Nat.le_of_ble_eq_true rfl) dL_isBoard_79 (n := 82) rfl (fun w_34 hw_35 => ?_)
    refine g_bipush (v := nI 4294967290) hc (by decide) dL_isBoard_82 (n := 84) rfl ?_
    refine g_icmp_ne hc dL_isBoard_84 (tgt := 114) (by decide) (n := 87) rfl (fun e => absurd rfl e) (fun _ => ?_)
    refine g_aload_n hc 0 rfl rfl dL_isBoard_87 (n := 88) rfl ?_
    refine g_iload_n hc 1 rfl rfl dL_isBoard_88 (n := 89) rfl ?_
    refine g_iconst (v := nI 3) hc (by decide) dL_isBoard_89 (n := 90) rfl ?_
    refine g_iconst (v := nI 4) hc (by decide) dL_isBoard_90 (n := 91) rfl ?_
    refine g_cls (As := [.int (nI bo), .int (nI 3), .int (nI 4)]) (rest := []) hc (s_hand_no hw_35 bo 3 4 hb (by decide) (by decide) (by assumption)) q_X4_hand k_ml_RL_33 rfl rfl (Oc.rc hw_35) vw_4 ⟨⟨by decide, by decide⟩, by decide, by decide⟩ (Nat.le_of_ble_eq_true rfl) dL_isBoard_91 (n := 94) rfl (fun w_36 hw_37 => ?_)
    refine g_bipush (v := nI 4294967290) hc (by decide) dL_isBoard_94 (n := 96) rfl ?_
    refine g_icmp_ne hc dL_isBoard_96 (tgt := 114) (by decide) (n := 99) rfl (fun e => absurd rfl e) (fun _ => ?_)
    refine g_aload_n hc 0 rfl rfl dL_isBoard_99 (n := 100) rfl ?_
    refine g_iload_n hc 1 rfl rfl dL_isBoard_100 (n := 101) rfl ?_
    refine g_iload_n hc 1 rfl rfl dL_isBoard_101 (n := 102) rfl ?_
    refine g_cls (As := [.int (nI bo), .int (nI bo)]) (rest := []) hc (s_alike_no hw_37 bo bo hb hb (Or.inl (by assumption)) hzf) q_X4_alike k_ml_RL_49 rfl rfl (Oc.rc hw_37) vw_4 ⟨⟨by decide, by decide⟩, by decide, by decide⟩ (Nat.le_of_ble_eq_true rfl) dL_isBoard_102 (n := 105) rfl (fun w_38 hw_39 => ?_)
    refine g_bipush (v := nI 4294967290) hc (by decide) dL_isBoard_105 (n := 107) rfl ?_
    refine g_icmp_ne hc dL_isBoard_107 (tgt := 114) (by decide) (n := 110) rfl (fun e => absurd rfl e) (fun _ => ?_)
    refine g_iconst (v := nI 1) hc (by decide) dL_isBoard_110 (n := 111) rfl ?_
    refine g_goto (n := 115) hc dL_isBoard_111 (by decide) ?_
    refine hret.2.1 _ _ _ _ _ _ _ rfl rfl (by decide) (by decide) dL_isBoard_115 ?_
    exact ⟨_, rfl, w_38, (hw_39), rfl, rfl⟩
set_option maxHeartbeats 1000000 in
set_option maxRecDepth 100000 in
theorem c_L_isSo (κ : Kp) (l : Launch) (a : Nat → Nat) (q : Nat → Nat) (z : Nat → Nat) (n : Nat) (w0 : va_W) (p0 : Nat) (b0 : Nat) (g0 : Nat) (t0 : Nat) (hw0 : Oc κ a q z n w0) : CT κ l yL_isSo cL_isSo 10 (some .boolean) 5 134 0 0 [.ref (a 0), .ref p0, .ref b0, .ref g0, .ref t0] ([(p0, aI κ 52 z), (b0, aI κ 52 (fun k => z (52 + k))), (g0, aI κ 9 (fun k => z (324 + k))), (t0, aI κ 12 (tt z))] ++ w0) (PI (fun rr ww => ∃ w2 : va_W, (Oc κ a q z n w2) ∧ rr = (nI 1) ∧ ww = [(p0, aI κ 52 z), (b0, aI κ 52 (fun k => z (52 + k))), (g0, aI κ 9 (fun k => z (324 + k))), (t0, aI κ 12 (tt z))] ++ w2)) := by
  refine CT.go (by decide +kernel) (Nat.le_of_ble_eq_true rfl) ?_
  intro Γ A Q hl hc hret
  subst hl
  have hc : Cx κ Γ A cL_isSo 10 RL "isSo" (some .boolean) { frames := 5, cells := 0, slots := 0, locals := 134 } := hc
  refine g_lv (lv' := [(0, .ref (a 0)), (1, .ref p0), (2, .ref b0), (3, .ref g0), (4, .ref t0)]) rfl ?_
  obtain ⟨hzb, hzf, hzc, hpz, hzh, hk1, hk2, hzx⟩ := hw0.zv
  refine g_iconst (v := nI 0) hc (by decide) dL_isSo_0 (n := 1) rfl ?_
  refine g_istore (lv2 := [(0, .ref (a 0)), (1, .ref p0), (2, .ref b0), (3, .ref g0), (4, .ref t0), (5, .int (nI 0))]) hc (by decide) [1, 2, 3, 4, 5, 0] rfl rfl dL_isSo_1 (n := 3) rfl ?_
  refine g_iconst (v := nI 0) hc (by decide) dL_isSo_3 (n := 4) rfl ?_
  refine g_istore (lv2 := [(0, .ref (a 0)), (1, .ref p0), (2, .ref b0), (3, .ref g0), (4, .ref t0), (5, .int (nI 0)), (6, .int (nI 0))]) hc (by decide) [1, 2, 3, 4, 5, 6, 0] rfl rfl dL_isSo_4 (n := 6) rfl ?_
  refine g_iconst (v := nI 0) hc (by decide) dL_isSo_6 (n := 7) rfl ?_
  refine g_istore (lv2 := [(0, .ref (a 0)), (1, .ref p0), (2, .ref b0), (3, .ref g0), (4, .ref t0), (5, .int (nI 0)), (6, .int (nI 0)), (7, .int (nI 0))]) hc (by decide) [1, 2, 3, 4, 5, 6, 7, 0] rfl rfl dL_isSo_7 (n := 9) rfl ?_
  have L_1 : ∀ (fuel : Nat) (k : Nat) (bt : Nat) (pr : Nat) (w : va_W), (Oc κ a q z n w) → (k ≤ 52) → (bt = sm (fun k => z (52 + k)) k) → (pr = sm (fun k => if z (k + 1) = z k + 1 then 1 else 0) (k - 1)) → 52 - k < fuel → G κ Γ A 10 0 0 Q ([(p0, aI κ 52 z), (b0, aI κ 52 (fun k => z (52 + k))), (g0, aI κ 9 (fun k => z (324 + k))), (t0, aI κ 12 (tt z))] ++ w) 9 [(0, .ref (a 0)), (1, .ref p0), (2, .ref b0), (3, .ref g0), (4, .ref t0), (5, .int (nI bt)), (6, .int (nI pr)), (7, .int (nI k))] [] := by
    intro fuel
    induction fuel with
    | zero => intro k bt pr w hwk hk hbt hpr h; exact absurd h (Nat.not_lt_zero _)
    | succ fuel ih_2 =>
      intro k bt pr w hwk hk hbt hpr hn_3
      refine g_iload hc 7 rfl dL_isSo_9 (n := 11) rfl ?_
      refine g_bipush (v := nI 52) hc (by decide) dL_isSo_11 (n := 13) rfl ?_
      refine n_icmp_ge hc (by omega) (by omega) dL_isSo_13 (tgt := 89) (by decide) (n := 16) rfl (fun c_4 => ?_) (fun c_4 => ?_)
      · skip
        have e9 : k = 52 := by omega
        subst e9
        refine g_aload hc 4 rfl dL_isSo_89 (n := 91) rfl ?_
        refine g_iconst (v := nI 1) hc (by decide) dL_isSo_91 (n := 92) rfl ?_
        refine n_iald (v := z 316) hc 3 rfl (by omega) (by decide) rfl dL_isSo_92 (n := 93) rfl ?_
        refine g_aload hc 4 rfl dL_isSo_93 (n := 95) rfl ?_
        refine g_iconst (v := nI 4) hc (by decide) dL_isSo_95 (n := 96) rfl ?_
        refine n_iald (v := z 317) hc 3 rfl (by omega) (by decide) rfl dL_isSo_96 (n := 97) rfl ?_
        refine n_iadd (v := (z 316) + (z 317)) hc rfl dL_isSo_97 (n := 98) rfl ?_
        refine g_aload hc 4 rfl dL_isSo_98 (n := 100) rfl ?_
        refine g_bipush (v := nI 7) hc (by decide) dL_isSo_100 (n := 102) rfl ?_
        refine n_iald (v := z 318) hc 3 rfl (by omega) (by decide) rfl dL_isSo_102 (n := 103) rfl ?_
        refine n_iadd (v := ((z 316) + (z 317)) + (z 318)) hc rfl dL_isSo_103 (n := 104) rfl ?_
        refine g_aload hc 4 rfl dL_isSo_104 (n := 106) rfl ?_
        refine g_bipush (v := nI 10) hc (by decide) dL_isSo_106 (n := 108) rfl ?_
        refine n_iald (v := z 319) hc 3 rfl (by omega) (by decide) rfl dL_isSo_108 (n := 109) rfl ?_
        refine n_iadd (v := (((z 316) + (z 317)) + (z 318)) + (z 319)) hc rfl dL_isSo_109 (n := 110) rfl ?_
        refine g_istore (lv2 := [(0, .ref (a 0)), (1, .ref p0), (2, .ref b0), (3, .ref g0), (4, .ref t0), (5, .int (nI bt)), (6, .int (nI pr)), (7, .int (nI ((((z 316) + (z 317)) + (z 318)) + (z 319))))]) hc (by decide) [1, 2, 3, 4, 5, 6, 7, 0] rfl rfl dL_isSo_110 (n := 112) rfl ?_
        refine g_aload_n hc 0 rfl rfl dL_isSo_112 (n := 113) rfl ?_
        refine g_iconst (v := nI 0) hc (by decide) dL_isSo_113 (n := 114) rfl ?_
        refine g_cls (As := [.int (nI 0)]) (rest := []) hc (s_count_ok hwk 0 (by decide)) q_X4_count k_ml_RL_63 rfl rfl (Oc.rc hwk) vw_4 ⟨⟨by decide, by decide⟩, by decide, by decide⟩ (Nat.le_of_ble_eq_true rfl) dL_isSo_114 (n := 117) rfl (fun w_5 hw_6 => ?_)
        refine g_top (y := nI (z 324)) (congrArg nI (rfl)) ?_
        refine g_aload_n hc 3 rfl rfl dL_isSo_117 (n := 118) rfl ?_
        refine g_iconst (v := nI 0) hc (by decide) dL_isSo_118 (n := 119) rfl ?_
        refine n_iald (v := z 324) hc 2 rfl (by omega) (by decide) rfl dL_isSo_119 (n := 120) rfl ?_
        refine g_icmp_ne hc dL_isSo_120 (tgt := 200) (by decide) (n := 123) rfl (fun e => absurd rfl e) (fun _ => ?_)
        refine g_aload_n hc 0 rfl rfl dL_isSo_123 (n := 124) rfl ?_
        refine g_iconst (v := nI 1) hc (by decide) dL_isSo_124 (n := 125) rfl ?_
        refine g_cls (As := [.int (nI 1)]) (rest := []) hc (s_count_ok hw_6 1 (by decide)) q_X4_count k_ml_RL_63 rfl rfl (Oc.rc hw_6) vw_4 ⟨⟨by decide, by decide⟩, by decide, by decide⟩ (Nat.le_of_ble_eq_true rfl) dL_isSo_125 (n := 128) rfl (fun w_7 hw_8 => ?_)
        refine g_top (y := nI (z 325)) (congrArg nI (rfl)) ?_
        refine g_aload_n hc 3 rfl rfl dL_isSo_128 (n := 129) rfl ?_
        refine g_iconst (v := nI 1) hc (by decide) dL_isSo_129 (n := 130) rfl ?_
        refine n_iald (v := z 325) hc 2 rfl (by omega) (by decide) rfl dL_isSo_130 (n := 131) rfl ?_
        refine g_icmp_ne hc dL_isSo_131 (tgt := 200) (by decide) (n := 134) rfl (fun e => absurd rfl e) (fun _ => ?_)
        refine g_aload_n hc 0 rfl rfl dL_isSo_134 (n := 135) rfl ?_
        refine g_iconst (v := nI 2) hc (by decide) dL_isSo_135 (n := 136) rfl ?_
        refine g_cls (As := [.int (nI 2)]) (rest := []) hc (s_count_ok hw_8 2 (by decide)) q_X4_count k_ml_RL_63 rfl rfl (Oc.rc hw_8) vw_4 ⟨⟨by decide, by decide⟩, by decide, by decide⟩ (Nat.le_of_ble_eq_true rfl) dL_isSo_136 (n := 139) rfl (fun w_9 hw_10 => ?_)
        refine g_top (y := nI (z 326)) (congrArg nI (rfl)) ?_
        refine g_aload_n hc 3 rfl rfl dL_isSo_139 (n := 140) rfl ?_
        refine g_iconst (v := nI 2) hc (by decide) dL_isSo_140 (n := 141) rfl ?_
        refine n_iald (v := z 326) hc 2 rfl (by omega) (by decide) rfl dL_isSo_141 (n := 142) rfl ?_
        refine g_icmp_ne hc dL_isSo_142 (tgt := 200) (by decide) (n := 145) rfl (fun e => absurd rfl e) (fun _ => ?_)
        refine g_aload_n hc 0 rfl rfl dL_isSo_145 (n := 146) rfl ?_
        refine g_iconst (v := nI 3) hc (by decide) dL_isSo_146 (n := 147) rfl ?_
        refine g_cls (As := [.int (nI 3)]) (rest := []) hc (s_count_ok hw_10 3 (by decide)) q_X4_count k_ml_RL_63 rfl rfl (Oc.rc hw_10) vw_4 ⟨⟨by decide, by decide⟩, by decide, by decide⟩ (Nat.le_of_ble_eq_true rfl) dL_isSo_147 (n := 150) rfl (fun w_11 hw_12 => ?_)
        refine g_top (y := nI bt) (congrArg nI (hbt.symm)) ?_
        refine g_iload hc 5 rfl dL_isSo_150 (n := 152) rfl ?_
        refine g_icmp_ne hc dL_isSo_152 (tgt := 200) (by decide) (n := 155) rfl (fun e => absurd rfl e) (fun _ => ?_)
        refine g_aload_n hc 0 rfl rfl dL_isSo_155 (n := 156) rfl ?_
        refine g_bipush (v := nI 10) hc (by decide) dL_isSo_156 (n := 158) rfl ?_
        refine g_cls (As := [.int (nI 10)]) (rest := []) hc (s_count_ok hw_12 10 (by decide)) q_X4_count k_ml_RL_63 rfl rfl (Oc.rc hw_12) vw_4 ⟨⟨by decide, by decide⟩, by decide, by decide⟩ (Nat.le_of_ble_eq_true rfl) dL_isSo_158 (n := 161) rfl (fun w_13 hw_14 => ?_)
        refine g_top (y := nI ((((z 316) + (z 317)) + (z 318)) + (z 319))) (congrArg nI (ct_10 z)) ?_
        refine g_iload hc 7 rfl dL_isSo_161 (n := 163) rfl ?_
        refine g_icmp_ne hc dL_isSo_163 (tgt := 200) (by decide) (n := 166) rfl (fun e => absurd rfl e) (fun _ => ?_)
        refine g_aload_n hc 0 rfl rfl dL_isSo_166 (n := 167) rfl ?_
        refine g_bipush (v := nI 11) hc (by decide) dL_isSo_167 (n := 169) rfl ?_
        refine g_cls (As := [.int (nI 11)]) (rest := []) hc (s_count_ok hw_14 11 (by decide)) q_X4_count k_ml_RL_63 rfl rfl (Oc.rc hw_14) vw_4 ⟨⟨by decide, by decide⟩, by decide, by decide⟩ (Nat.le_of_ble_eq_true rfl) dL_isSo_169 (n := 172) rfl (fun w_15 hw_16 => ?_)
        refine g_top (y := nI pr) (congrArg nI (hpr.symm)) ?_
        refine g_iload hc 6 rfl dL_isSo_172 (n := 174) rfl ?_
        refine g_icmp_ne hc dL_isSo_174 (tgt := 200) (by decide) (n := 177) rfl (fun e => absurd rfl e) (fun _ => ?_)
        refine g_aload_n hc 0 rfl rfl dL_isSo_177 (n := 178) rfl ?_
        refine g_bipush (v := nI 52) hc (by decide) dL_isSo_178 (n := 180) rfl ?_
        refine g_cls (As := [.int (nI 52)]) (rest := []) hc (s_card_er hw_16 (nI 52) (by decide)) q_X4_card k_ml_RL_56 rfl rfl (Oc.rc hw_16) vw_4 ⟨⟨by decide, by decide⟩, by decide, by decide⟩ (Nat.le_of_ble_eq_true rfl) dL_isSo_180 (n := 183) rfl (fun w_17 hw_18 => ?_)
        refine g_iconst (v := nI 4294967295) hc (by decide) dL_isSo_183 (n := 184) rfl ?_
        refine g_icmp_ne hc dL_isSo_184 (tgt := 200) (by decide) (n := 187) rfl (fun e => absurd rfl e) (fun _ => ?_)
        refine g_aload_n hc 0 rfl rfl dL_isSo_187 (n := 188) rfl ?_
        refine g_iconst (v := nI 4294967295) hc (by decide) dL_isSo_188 (n := 189) rfl ?_
        refine g_cls (As := [.int (nI 4294967295)]) (rest := []) hc (s_placeOf_er hw_18 (nI 4294967295) (by decide)) q_X4_placeOf k_ml_RL_60 rfl rfl (Oc.rc hw_18) vw_4 ⟨⟨by decide, by decide⟩, by decide, by decide⟩ (Nat.le_of_ble_eq_true rfl) dL_isSo_189 (n := 192) rfl (fun w_19 hw_20 => ?_)
        refine g_iconst (v := nI 4294967295) hc (by decide) dL_isSo_192 (n := 193) rfl ?_
        refine g_icmp_ne hc dL_isSo_193 (tgt := 200) (by decide) (n := 196) rfl (fun e => absurd rfl e) (fun _ => ?_)
        refine g_iconst (v := nI 1) hc (by decide) dL_isSo_196 (n := 197) rfl ?_
        refine g_goto (n := 201) hc dL_isSo_197 (by decide) ?_
        refine g_istore (lv2 := [(0, .ref (a 0)), (1, .ref p0), (2, .ref b0), (3, .ref g0), (4, .ref t0), (5, .int (nI bt)), (6, .int (nI pr)), (7, .int (nI ((((z 316) + (z 317)) + (z 318)) + (z 319)))), (8, .int (nI 1))]) hc (by decide) [1, 2, 3, 4, 5, 6, 7, 8, 0] rfl rfl dL_isSo_201 (n := 203) rfl ?_
        refine g_iconst (v := nI 0) hc (by decide) dL_isSo_203 (n := 204) rfl ?_
        refine g_istore (lv2 := [(0, .ref (a 0)), (1, .ref p0), (2, .ref b0), (3, .ref g0), (4, .ref t0), (5, .int (nI bt)), (6, .int (nI pr)), (7, .int (nI ((((z 316) + (z 317)) + (z 318)) + (z 319)))), (8, .int (nI 1)), (9, .int (nI 0))]) hc (by decide) [1, 2, 3, 4, 5, 6, 7, 8, 9, 0] rfl rfl dL_isSo_204 (n := 206) rfl ?_
        have L_21 : ∀ (fuel : Nat) (j : Nat) (w : va_W), (Oc κ a q z n w) → (j ≤ 6) → 6 - j < fuel → G κ Γ A 10 0 0 Q ([(p0, aI κ 52 z), (b0, aI κ 52 (fun k => z (52 + k))), (g0, aI κ 9 (fun k => z (324 + k))), (t0, aI κ 12 (tt z))] ++ w) 206 [(0, .ref (a 0)), (1, .ref p0), (2, .ref b0), (3, .ref g0), (4, .ref t0), (5, .int (nI bt)), (6, .int (nI pr)), (7, .int (nI ((((z 316) + (z 317)) + (z 318)) + (z 319)))), (8, .int (nI 1)), (9, .int (nI j))] [] := by
          intro fuel
          induction fuel with
          | zero => intro j w hwj hj h; exact absurd h (Nat.not_lt_zero _)
          | succ fuel ih_22 =>
            intro j w hwj hj hn_23
            refine g_iload hc 9 rfl dL_isSo_206 (n := 208) rfl ?_
            refine g_bipush (v := nI 6) hc (by decide) dL_isSo_208 (n := 210) rfl ?_
            refine n_icmp_ge hc (by omega) (by omega) dL_isSo_210 (tgt := 248) (by decide) (n := 213) rfl (fun c_24 => ?_) (fun c_24 => ?_)
            · skip
              refine g_iload hc 8 rfl dL_isSo_248 (n := 250) rfl ?_
              refine hret.2.1 _ _ _ _ _ _ _ rfl rfl (by decide) (by decide) dL_isSo_250 ?_
              exact ⟨_, rfl, w, (hwj), rfl, rfl⟩
            · skip
              refine g_iload hc 8 rfl dL_isSo_213 (n := 215) rfl ?_
              refine n_if_eq hc (by omega) dL_isSo_215 (tgt := 239) (by decide) (n := 218) rfl (fun c_25 => by (exfalso; revert c_25; first | omega | decide)) (fun c_25 => ?_)
              refine g_aload_n hc 0 rfl rfl dL_isSo_218 (n := 219) rfl ?_
              refine g_iconst (v := nI 4) hc (by decide) dL_isSo_219 (n := 220) rfl ?_
              refine g_iload hc 9 rfl dL_isSo_220 (n := 222) rfl ?_
              refine n_iadd (v := 4 + j) hc rfl dL_isSo_222 (n := 223) rfl ?_
              refine g_cls (As := [.int (nI (4 + j))]) (rest := []) hc (s_count_ok hwj (4 + j) (by omega)) q_X4_count k_ml_RL_63 rfl rfl (Oc.rc hwj) vw_4 ⟨⟨by decide, by decide⟩, by decide, by decide⟩ (Nat.le_of_ble_eq_true rfl) dL_isSo_223 (n := 226) rfl (fun w_26 hw_27 => ?_)
              refine g_top (y := nI (z (324 + (3 + j)))) (congrArg nI (ct_k z j (by omega))) ?_
              refine g_aload_n hc 3 rfl rfl dL_isSo_226 (n := 227) rfl ?_
              refine g_iconst (v := nI 3) hc (by decide) dL_isSo_227 (n := 228) rfl ?_
              refine g_iload hc 9 rfl dL_isSo_228 (n := 230) rfl ?_
              refine n_iadd (v := 3 + j) hc rfl dL_isSo_230 (n := 231) rfl ?_
              refine n_iald (v := z (324 + (3 + j))) hc 2 rfl (by omega) (by decide) rfl dL_isSo_231 (n := 232) rfl ?_
              refine g_icmp_ne hc dL_isSo_232 (tgt := 239) (by decide) (n := 235) rfl (fun e => absurd rfl e) (fun _ => ?_)
              refine g_iconst (v := nI 1) hc (by decide) dL_isSo_235 (n := 236) rfl ?_
              refine g_goto (n := 240) hc dL_isSo_236 (by decide) ?_
              refine g_istore (lv2 := [(0, .ref (a 0)), (1, .ref p0), (2, .ref b0), (3, .ref g0), (4, .ref t0), (5, .int (nI bt)), (6, .int (nI pr)), (7, .int (nI ((((z 316) + (z 317)) + (z 318)) + (z 319)))), (8, .int (nI 1)), (9, .int (nI j))]) hc (by decide) [1, 2, 3, 4, 5, 6, 7, 8, 0, 9] rfl rfl dL_isSo_240 (n := 242) rfl ?_
              refine n_iinc (v := j + 1) (zk := 1) (lv2 := [(0, .ref (a 0)), (1, .ref p0), (2, .ref b0), (3, .ref g0), (4, .ref t0), (5, .int (nI bt)), (6, .int (nI pr)), (7, .int (nI ((((z 316) + (z 317)) + (z 318)) + (z 319)))), (8, .int (nI 1)), (9, .int (nI (j + 1)))]) hc 9 rfl (by decide) rfl (by decide) [1, 2, 3, 4, 5, 6, 7, 8, 9, 0] rfl rfl dL_isSo_242 (n := 245) rfl ?_
              refine g_goto (n := 206) hc dL_isSo_245 (by decide) ?_
              exact ih_22 (j + 1) w_26 (hw_27) (by omega) (by omega)
        exact L_21 _ 0 w_19 (hw_20) (by omega) (Nat.lt_succ_self _)
      · skip
        refine g_aload_n hc 0 rfl rfl dL_isSo_16 (n := 17) rfl ?_
        refine g_iload hc 7 rfl dL_isSo_17 (n := 19) rfl ?_
        refine g_cls (As := [.int (nI k)]) (rest := []) hc (s_card_ok hwk k (by omega)) q_X4_card k_ml_RL_56 rfl rfl (Oc.rc hwk) vw_4 ⟨⟨by decide, by decide⟩, by decide, by decide⟩ (Nat.le_of_ble_eq_true rfl) dL_isSo_19 (n := 22) rfl (fun w_28 hw_29 => ?_)
        refine g_aload_n hc 1 rfl rfl dL_isSo_22 (n := 23) rfl ?_
        refine g_iload hc 7 rfl dL_isSo_23 (n := 25) rfl ?_
        refine n_iald (v := z k) hc 0 rfl (by omega) (by decide) rfl dL_isSo_25 (n := 26) rfl ?_
        have b_30 := hpz.1 k (by omega)
        refine g_icmp_ne hc dL_isSo_26 (tgt := 42) (by decide) (n := 29) rfl (fun e => absurd rfl e) (fun _ => ?_)
        refine g_aload_n hc 0 rfl rfl dL_isSo_29 (n := 30) rfl ?_
        refine g_aload_n hc 1 rfl rfl dL_isSo_30 (n := 31) rfl ?_
        refine g_iload hc 7 rfl dL_isSo_31 (n := 33) rfl ?_
        refine n_iald (v := z k) hc 0 rfl (by omega) (by decide) rfl dL_isSo_33 (n := 34) rfl ?_
        have b_31 := hpz.1 k (by omega)
        refine g_cls (As := [.int (nI (z k))]) (rest := []) hc (s_placeOf_ok hw_29 (z k) (by assumption)) q_X4_placeOf k_ml_RL_60 rfl rfl (Oc.rc hw_29) vw_4 ⟨⟨by decide, by decide⟩, by decide, by decide⟩ (Nat.le_of_ble_eq_true rfl) dL_isSo_34 (n := 37) rfl (fun w_32 hw_33 => ?_)
        refine g_top (y := nI k) (congrArg nI (inv_p hpz (by omega))) ?_
        refine g_iload hc 7 rfl dL_isSo_37 (n := 39) rfl ?_
        refine g_icmp_eq hc dL_isSo_39 (tgt := 44) (by decide) (n := 42) rfl (fun _ => ?_) (fun e => absurd rfl e)
        refine g_iload hc 5 rfl dL_isSo_44 (n := 46) rfl ?_
        refine g_aload_n hc 2 rfl rfl dL_isSo_46 (n := 47) rfl ?_
        refine g_iload hc 7 rfl dL_isSo_47 (n := 49) rfl ?_
        refine n_iald (v := z (52 + k)) hc 1 rfl (by omega) (by decide) rfl dL_isSo_49 (n := 50) rfl ?_
        have b_34 := hzb k (by omega)
        refine n_iadd (v := bt + (z (52 + k))) hc rfl dL_isSo_50 (n := 51) rfl ?_
        refine g_istore (lv2 := [(0, .ref (a 0)), (1, .ref p0), (2, .ref b0), (3, .ref g0), (4, .ref t0), (5, .int (nI (bt + (z (52 + k))))), (6, .int (nI pr)), (7, .int (nI k))]) hc (by decide) [1, 2, 3, 4, 5, 0, 6, 7] rfl rfl dL_isSo_51 (n := 53) rfl ?_
        refine g_iload hc 6 rfl dL_isSo_53 (n := 55) rfl ?_
        refine g_iload hc 7 rfl dL_isSo_55 (n := 57) rfl ?_
        refine n_if_le hc (by omega) dL_isSo_57 (tgt := 79) (by decide) (n := 60) rfl (fun c_35 => ?_) (fun c_35 => ?_)
        · skip
          refine g_iconst (v := nI 0) hc (by decide) dL_isSo_79 (n := 80) rfl ?_
          refine n_iadd (v := pr + 0) hc rfl dL_isSo_80 (n := 81) rfl ?_
          refine g_istore (lv2 := [(0, .ref (a 0)), (1, .ref p0), (2, .ref b0), (3, .ref g0), (4, .ref t0), (5, .int (nI (bt + (z (52 + k))))), (6, .int (nI (pr + 0))), (7, .int (nI k))]) hc (by decide) [1, 2, 3, 4, 5, 6, 0, 7] rfl rfl dL_isSo_81 (n := 83) rfl ?_
          refine n_iinc (v := k + 1) (zk := 1) (lv2 := [(0, .ref (a 0)), (1, .ref p0), (2, .ref b0), (3, .ref g0), (4, .ref t0), (5, .int (nI (bt + (z (52 + k))))), (6, .int (nI (pr + 0))), (7, .int (nI (k + 1)))]) hc 7 rfl (by decide) rfl (by decide) [1, 2, 3, 4, 5, 6, 7, 0] rfl rfl dL_isSo_83 (n := 86) rfl ?_
          refine g_goto (n := 9) hc dL_isSo_86 (by decide) ?_
          exact ih_2 (k + 1) (bt + (z (52 + k))) (pr + 0) w_32 (hw_33) (by omega) (by rw [sm_s, ← hbt]) (by first | exact pr_n (by omega) hpr hpk | (have e0 : k = 0 := (by omega); subst e0; exact hpr)) (by omega)
        · skip
          refine g_aload_n hc 1 rfl rfl dL_isSo_60 (n := 61) rfl ?_
          refine g_iload hc 7 rfl dL_isSo_61 (n := 63) rfl ?_
          refine n_iald (v := z k) hc 0 rfl (by omega) (by decide) rfl dL_isSo_63 (n := 64) rfl ?_
          have b_36 := hpz.1 k (by omega)
          refine g_aload_n hc 1 rfl rfl dL_isSo_64 (n := 65) rfl ?_
          refine g_iload hc 7 rfl dL_isSo_65 (n := 67) rfl ?_
          refine g_iconst (v := nI 1) hc (by decide) dL_isSo_67 (n := 68) rfl ?_
          refine n_isub (v := k - 1) hc (by omega) rfl dL_isSo_68 (n := 69) rfl ?_
          refine n_iald (v := z (k - 1)) hc 0 rfl (by omega) (by decide) rfl dL_isSo_69 (n := 70) rfl ?_
          have b_37 := hpz.1 (k - 1) (by omega)
          refine g_isub (v := nI (z k) - nI (z (k - 1))) hc rfl dL_isSo_70 (n := 71) rfl ?_
          refine g_iconst (v := nI 1) hc (by decide) dL_isSo_71 (n := 72) rfl ?_
          refine g_icmp_ne hc dL_isSo_72 (tgt := 79) (by decide) (n := 75) rfl (fun c_38 => ?_) (fun c_38 => ?_)
          · skip
            have e1 : k - 1 + 1 = k := by omega
            have hpk : (fun k => if z (k + 1) = z k + 1 then 1 else 0) (k - 1) = 0 := by show (if z (k - 1 + 1) = z (k - 1) + 1 then 1 else 0) = 0; rw [e1]; exact if_neg (fun z9 => absurd ((sub1_e _ (hpz.1 k (by omega)) _ (hpz.1 (k - 1) (by omega))).mpr z9) (by assumption))
            refine g_iconst (v := nI 0) hc (by decide) dL_isSo_79 (n := 80) rfl ?_
            refine n_iadd (v := pr + 0) hc rfl dL_isSo_80 (n := 81) rfl ?_
            refine g_istore (lv2 := [(0, .ref (a 0)), (1, .ref p0), (2, .ref b0), (3, .ref g0), (4, .ref t0), (5, .int (nI (bt + (z (52 + k))))), (6, .int (nI (pr + 0))), (7, .int (nI k))]) hc (by decide) [1, 2, 3, 4, 5, 6, 0, 7] rfl rfl dL_isSo_81 (n := 83) rfl ?_
            refine n_iinc (v := k + 1) (zk := 1) (lv2 := [(0, .ref (a 0)), (1, .ref p0), (2, .ref b0), (3, .ref g0), (4, .ref t0), (5, .int (nI (bt + (z (52 + k))))), (6, .int (nI (pr + 0))), (7, .int (nI (k + 1)))]) hc 7 rfl (by decide) rfl (by decide) [1, 2, 3, 4, 5, 6, 7, 0] rfl rfl dL_isSo_83 (n := 86) rfl ?_
            refine g_goto (n := 9) hc dL_isSo_86 (by decide) ?_
            exact ih_2 (k + 1) (bt + (z (52 + k))) (pr + 0) w_32 (hw_33) (by omega) (by rw [sm_s, ← hbt]) (by first | exact pr_n (by omega) hpr hpk | (have e0 : k = 0 := (by omega); subst e0; exact hpr)) (by omega)
          · skip
            have e1 : k - 1 + 1 = k := by omega
            have hpk : (fun k => if z (k + 1) = z k + 1 then 1 else 0) (k - 1) = 1 := by show (if z (k - 1 + 1) = z (k - 1) + 1 then 1 else 0) = 1; rw [e1]; exact if_pos ((sub1_e _ (hpz.1 k (by omega)) _ (hpz.1 (k - 1) (by omega))).mp (by assumption))
            refine g_iconst (v := nI 1) hc (by decide) dL_isSo_75 (n := 76) rfl ?_
            refine g_goto (n := 80) hc dL_isSo_76 (by decide) ?_
            refine n_iadd (v := pr + 1) hc rfl dL_isSo_80 (n := 81) rfl ?_
            refine g_istore (lv2 := [(0, .ref (a 0)), (1, .ref p0), (2, .ref b0), (3, .ref g0), (4, .ref t0), (5, .int (nI (bt + (z (52 + k))))), (6, .int (nI (pr + 1))), (7, .int (nI k))]) hc (by decide) [1, 2, 3, 4, 5, 6, 0, 7] rfl rfl dL_isSo_81 (n := 83) rfl ?_
            refine n_iinc (v := k + 1) (zk := 1) (lv2 := [(0, .ref (a 0)), (1, .ref p0), (2, .ref b0), (3, .ref g0), (4, .ref t0), (5, .int (nI (bt + (z (52 + k))))), (6, .int (nI (pr + 1))), (7, .int (nI (k + 1)))]) hc 7 rfl (by decide) rfl (by decide) [1, 2, 3, 4, 5, 6, 7, 0] rfl rfl dL_isSo_83 (n := 86) rfl ?_
            refine g_goto (n := 9) hc dL_isSo_86 (by decide) ?_
            exact ih_2 (k + 1) (bt + (z (52 + k))) (pr + 1) w_32 (hw_33) (by omega) (by rw [sm_s, ← hbt]) (by first | exact pr_n (by omega) hpr hpk | (have e0 : k = 0 := (by omega); subst e0; exact hpr)) (by omega)
  exact L_1 _ 0 0 0 w0 (hw0) (by omega) (rfl) (rfl) (Nat.lt_succ_self _)
