set_option maxHeartbeats 1000000 in
set_option maxRecDepth 100000 in
theorem c_X5_riffle (κ : Kp) (l : Launch) (m : Nat → Nat) (n : Nat) (ln : Nat) (z : Nat → Nat) (r0 : Nat → Nat) (p : Nat → Nat) (b : Nat → Nat) (hp : Perm p) (hx : z 326 < 2 ^ 31) (hb : ∀ k, k < 52 → b k ≤ 1) (hzp : ∀ k, k < 52 → z k = p k) (hzb : ∀ k, k < 52 → z (52 + k) = b k) : CT κ l yX5_riffle cX5_riffle 8 none 1 21 0 0 [.ref (m 0)] [(m 0, .inr (5, [.ref (m 1), .ref (m 2), .ref (m 3), .int (nI n), .ref (m 4), .ref (m 5), .ref (m 6), .int (nI ln), .ref (m 7), .ref (m 8)])), (m 1, aI κ 333 z), (m 7, aI κ 52 r0)] (PV (fun ww => ∃ r2 : Nat → Nat, ww = [(m 0, .inr (5, [.ref (m 1), .ref (m 2), .ref (m 3), .int (nI n), .ref (m 4), .ref (m 5), .ref (m 6), .int (nI ln), .ref (m 7), .ref (m 8)])), (m 1, aI κ 333 (rfg z b p)), (m 7, aI κ 52 r2)])) := by
  refine CT.go (plainFor_of_name (by decide)) (Nat.le_of_ble_eq_true rfl) ?_
  intro Γ A Q hl hc hret
  subst hl
  have hc : Cx κ Γ A cX5_riffle 8 RX5 "riffle" none { frames := 1, cells := 0, slots := 0, locals := 21 } := hc
  refine g_lv (lv' := [(0, .ref (m 0))]) rfl ?_
  have hsp := spl_in (z 326)
  refine g_iconst (v := nI 0) hc (by decide) dX5_riffle_0 (n := 1) rfl ?_
  refine g_istore_n (lv2 := [(0, .ref (m 0)), (1, .int (nI 0))]) hc rfl (by decide) [1, 0] rfl rfl dX5_riffle_1 (n := 2) rfl ?_
  refine g_bipush (v := nI 24) hc (by decide) dX5_riffle_2 (n := 4) rfl ?_
  refine g_aload_n hc 0 rfl rfl dX5_riffle_4 (n := 5) rfl ?_
  refine g_iconst (v := nI 5) hc (by decide) dX5_riffle_5 (n := 6) rfl ?_
  refine g_callV (rest := [.int (nI 24)]) (As := [.int (nI 5)]) (cells' := 0) (slots' := 0) hc (c_X5_draw κ _ m n ln z 5 hx (by decide) (by decide)) q_X5_draw k_ml_RX5_57 rfl rfl (jn_ix (wr := [(m 7, aI κ 52 r0)]) [0, 1] [2] rfl rfl rfl rfl (by decide)) (qr := 0) rfl vw_5 ⟨⟨by decide, by decide⟩, by decide, by decide⟩ (Nat.le_of_ble_eq_true rfl) rfl rfl dX5_riffle_6 (n := 9) rfl (fun vv ww hp => ?_)
  obtain ⟨rr, rfl, rfl, rfl⟩ := hp
  refine ⟨_, rfl, ?_⟩
  refine g_ws (ws' := [(m 7, aI κ 52 r0), (m 0, .inr (5, [.ref (m 1), .ref (m 2), .ref (m 3), .int (nI n), .ref (m 4), .ref (m 5), .ref (m 6), .int (nI ln), .ref (m 7), .ref (m 8)])), (m 1, aI κ 333 (va_up z 326 (nx (z 326))))]) rfl ?_
  refine g_st (st' := [.int (nI (dv (nx (z 326)) 5)), .int (nI 24)]) rfl ?_
  refine n_iadd (v := 24 + (dv (nx (z 326)) 5)) hc rfl dX5_riffle_9 (n := 10) rfl ?_
  refine g_st (st' := [.int (nI (spl (z 326)))]) rfl ?_
  refine g_istore_n (lv2 := [(0, .ref (m 0)), (1, .int (nI 0)), (2, .int (nI (spl (z 326))))]) hc rfl (by decide) [1, 2, 0] rfl rfl dX5_riffle_10 (n := 11) rfl ?_
  refine g_iload_n hc 2 rfl rfl dX5_riffle_11 (n := 12) rfl ?_
  refine g_istore_n (lv2 := [(0, .ref (m 0)), (1, .int (nI 0)), (2, .int (nI (spl (z 326)))), (3, .int (nI (spl (z 326))))]) hc rfl (by decide) [1, 2, 3, 0] rfl rfl dX5_riffle_12 (n := 13) rfl ?_
  have L_1 : ∀ (fuel : Nat) (i : Nat) (u : Nat) (l : Nat) (X : Nat) (f : Nat) (t : Nat) (g : Nat → Nat), (i ≤ 52) → (X < 2 ^ 31) → (u ≤ spl (z 326)) → (spl (z 326) ≤ l ∧ l ≤ 52) → (u + l = spl (z 326) + i) → (rsn p b (spl (z 326)) (nx (z 326)) i = (X, u, l, f, t)) → (∀ k, k < i → g k = rfp b p (z 326) k) → (spl (z 326) ≤ u ∨ 52 ≤ l) → 52 - i < fuel → G κ Γ A 8 0 0 Q [(m 7, aI κ 52 g), (m 0, .inr (5, [.ref (m 1), .ref (m 2), .ref (m 3), .int (nI n), .ref (m 4), .ref (m 5), .ref (m 6), .int (nI ln), .ref (m 7), .ref (m 8)])), (m 1, aI κ 333 (va_up z 326 X))] 166 [(0, .ref (m 0)), (1, .int (nI u)), (2, .int (nI (spl (z 326)))), (3, .int (nI l)), (4, .int (nI i))] [] := by
    intro fuel
    induction fuel with
    | zero => intro i u l X f t g hi hX hu hl hul hst hg hq h; exact absurd h (Nat.not_lt_zero _)
    | succ fuel ih_2 =>
      intro i u l X f t g hi hX hu hl hul hst hg hq hn_3
      refine g_iload_n hc 1 rfl rfl dX5_riffle_166 (n := 167) rfl ?_
      refine g_iload_n hc 2 rfl rfl dX5_riffle_167 (n := 168) rfl ?_
      refine n_icmp_lt hc (by omega) (by omega) dX5_riffle_168 (tgt := 177) (by decide) (n := 171) rfl (fun c_4 => ?_) (fun c_4 => ?_)
      · skip
        refine g_iload_n hc 1 rfl rfl dX5_riffle_177 (n := 178) rfl ?_
        refine g_iload_n hc 2 rfl rfl dX5_riffle_178 (n := 179) rfl ?_
        refine n_icmp_ge hc (by omega) (by omega) dX5_riffle_179 (tgt := 186) (by decide) (n := 182) rfl (fun c_5 => ?_) (fun c_5 => ?_)
        · skip
          refine g_iconst (v := nI 0) hc (by decide) dX5_riffle_186 (n := 187) rfl ?_
          have hcz := hp.1 l (by omega)
          have hnx : rsn p b (spl (z 326)) (nx (z 326)) (i + 1) = (X, u, l + 1, 0, b (p l)) := by rw [rsn, hst]; unfold rst; dsimp only; (repeat' split) <;> first | rfl | (exfalso; omega)
          have hg2 : ∀ k, k < i + 1 → va_up g i (p l) k = rfp b p (z 326) k := fun k hk => (Nat.lt_succ_iff_lt_or_eq.mp hk).elim (fun q => (va_up_ne _ _ (by omega)).trans (hg k q)) (fun q => by subst q; rw [va_up_self]; unfold rfp rcd rix; rw [hst, hnx]; first | rfl | simp)
          refine g_istore (lv2 := [(0, .ref (m 0)), (1, .int (nI u)), (2, .int (nI (spl (z 326)))), (3, .int (nI l)), (4, .int (nI i)), (5, .int (nI 0))]) hc (by decide) [1, 2, 3, 4, 5, 0] rfl rfl dX5_riffle_187 (n := 189) rfl ?_
          refine g_aload_n hc 0 rfl rfl dX5_riffle_189 (n := 190) rfl ?_
          refine g_getf hc 1 rfl vw_5 inX5 8 (by decide) k_fl_RX5_29 rfl rfl dX5_riffle_190 (n := 193) rfl ?_
          refine g_iload hc 4 rfl dX5_riffle_193 (n := 195) rfl ?_
          refine g_iload hc 5 rfl dX5_riffle_195 (n := 197) rfl ?_
          refine n_if_eq hc (by omega) dX5_riffle_197 (tgt := 209) (by decide) (n := 200) rfl (fun c_6 => ?_) (fun c_6 => by (exfalso; revert c_6; first | omega | decide))
          refine g_aload_n hc 0 rfl rfl dX5_riffle_209 (n := 210) rfl ?_
          refine g_getf hc 1 rfl vw_5 inX5 0 (by decide) k_fl_RX5_7 rfl rfl dX5_riffle_210 (n := 213) rfl ?_
          refine g_iload_n hc 3 rfl rfl dX5_riffle_213 (n := 214) rfl ?_
          refine n_iald (v := p l) hc 2 rfl (by omega) (by decide) ((va_up_ne _ _ (by omega)).trans (hzp _ (by omega))) dX5_riffle_214 (n := 215) rfl ?_
          refine n_iast (ws' := [(m 7, aI κ 52 (va_up g i (p l))), (m 0, .inr (5, [.ref (m 1), .ref (m 2), .ref (m 3), .int (nI n), .ref (m 4), .ref (m 5), .ref (m 6), .int (nI ln), .ref (m 7), .ref (m 8)])), (m 1, aI κ 333 (va_up z 326 X))]) hc 0 rfl (by omega) (by decide) rfl dX5_riffle_215 (n := 216) rfl ?_
          refine n_iinc (v := i + 1) (zk := 1) (lv2 := [(0, .ref (m 0)), (1, .int (nI u)), (2, .int (nI (spl (z 326)))), (3, .int (nI l)), (4, .int (nI (i + 1))), (5, .int (nI 0))]) hc 4 rfl (by decide) rfl (by decide) [1, 2, 3, 4, 0, 5] rfl rfl dX5_riffle_216 (n := 219) rfl ?_
          refine g_iload_n hc 1 rfl rfl dX5_riffle_219 (n := 220) rfl ?_
          refine g_iload hc 5 rfl dX5_riffle_220 (n := 222) rfl ?_
          refine n_if_eq hc (by omega) dX5_riffle_222 (tgt := 229) (by decide) (n := 225) rfl (fun c_7 => ?_) (fun c_7 => by (exfalso; revert c_7; first | omega | decide))
          refine g_iconst (v := nI 0) hc (by decide) dX5_riffle_229 (n := 230) rfl ?_
          refine n_iadd (v := u + 0) hc rfl dX5_riffle_230 (n := 231) rfl ?_
          refine g_istore_n (lv2 := [(0, .ref (m 0)), (1, .int (nI (u + 0))), (2, .int (nI (spl (z 326)))), (3, .int (nI l)), (4, .int (nI (i + 1))), (5, .int (nI 0))]) hc rfl (by decide) [1, 0, 2, 3, 4, 5] rfl rfl dX5_riffle_231 (n := 232) rfl ?_
          refine g_iload_n hc 3 rfl rfl dX5_riffle_232 (n := 233) rfl ?_
          refine g_iload hc 5 rfl dX5_riffle_233 (n := 235) rfl ?_
          refine n_if_eq hc (by omega) dX5_riffle_235 (tgt := 242) (by decide) (n := 238) rfl (fun c_8 => ?_) (fun c_8 => by (exfalso; revert c_8; first | omega | decide))
          refine g_iconst (v := nI 1) hc (by decide) dX5_riffle_242 (n := 243) rfl ?_
          refine n_iadd (v := l + 1) hc rfl dX5_riffle_243 (n := 244) rfl ?_
          refine g_istore_n (lv2 := [(0, .ref (m 0)), (1, .int (nI (u + 0))), (2, .int (nI (spl (z 326)))), (3, .int (nI (l + 1))), (4, .int (nI (i + 1))), (5, .int (nI 0))]) hc rfl (by decide) [1, 2, 3, 0, 4, 5] rfl rfl dX5_riffle_244 (n := 245) rfl ?_
          refine g_goto (n := 166) hc dX5_riffle_245 (by decide) ?_
          refine g_lsub (lv' := [(0, .ref (m 0)), (1, .int (nI (u + 0))), (2, .int (nI (spl (z 326)))), (3, .int (nI (l + 1))), (4, .int (nI (i + 1)))]) [0, 1, 2, 3, 4] rfl ?_
          exact ih_2 (i + 1) (u + 0) (l + 1) X 0 (b (p l)) (va_up g i (p l)) (by omega) (hX) (by omega) (by omega) (by omega) (hnx) (hg2) (by omega) (by omega)
        · skip
          refine g_iconst (v := nI 1) hc (by decide) dX5_riffle_182 (n := 183) rfl ?_
          refine g_goto (n := 187) hc dX5_riffle_183 (by decide) ?_
          have hcz := hp.1 u (by omega)
          have hnx : rsn p b (spl (z 326)) (nx (z 326)) (i + 1) = (X, u + 1, l, 1, b (p u)) := by rw [rsn, hst]; unfold rst; dsimp only; (repeat' split) <;> first | rfl | (exfalso; omega)
          have hg2 : ∀ k, k < i + 1 → va_up g i (p u) k = rfp b p (z 326) k := fun k hk => (Nat.lt_succ_iff_lt_or_eq.mp hk).elim (fun q => (va_up_ne _ _ (by omega)).trans (hg k q)) (fun q => by subst q; rw [va_up_self]; unfold rfp rcd rix; rw [hst, hnx]; first | rfl | simp)
          refine g_istore (lv2 := [(0, .ref (m 0)), (1, .int (nI u)), (2, .int (nI (spl (z 326)))), (3, .int (nI l)), (4, .int (nI i)), (5, .int (nI 1))]) hc (by decide) [1, 2, 3, 4, 5, 0] rfl rfl dX5_riffle_187 (n := 189) rfl ?_
          refine g_aload_n hc 0 rfl rfl dX5_riffle_189 (n := 190) rfl ?_
          refine g_getf hc 1 rfl vw_5 inX5 8 (by decide) k_fl_RX5_29 rfl rfl dX5_riffle_190 (n := 193) rfl ?_
          refine g_iload hc 4 rfl dX5_riffle_193 (n := 195) rfl ?_
          refine g_iload hc 5 rfl dX5_riffle_195 (n := 197) rfl ?_
          refine n_if_eq hc (by omega) dX5_riffle_197 (tgt := 209) (by decide) (n := 200) rfl (fun c_9 => by (exfalso; revert c_9; first | omega | decide)) (fun c_9 => ?_)
          refine g_aload_n hc 0 rfl rfl dX5_riffle_200 (n := 201) rfl ?_
          refine g_getf hc 1 rfl vw_5 inX5 0 (by decide) k_fl_RX5_7 rfl rfl dX5_riffle_201 (n := 204) rfl ?_
          refine g_iload_n hc 1 rfl rfl dX5_riffle_204 (n := 205) rfl ?_
          refine n_iald (v := p u) hc 2 rfl (by omega) (by decide) ((va_up_ne _ _ (by omega)).trans (hzp _ (by omega))) dX5_riffle_205 (n := 206) rfl ?_
          refine g_goto (n := 215) hc dX5_riffle_206 (by decide) ?_
          refine n_iast (ws' := [(m 7, aI κ 52 (va_up g i (p u))), (m 0, .inr (5, [.ref (m 1), .ref (m 2), .ref (m 3), .int (nI n), .ref (m 4), .ref (m 5), .ref (m 6), .int (nI ln), .ref (m 7), .ref (m 8)])), (m 1, aI κ 333 (va_up z 326 X))]) hc 0 rfl (by omega) (by decide) rfl dX5_riffle_215 (n := 216) rfl ?_
          refine n_iinc (v := i + 1) (zk := 1) (lv2 := [(0, .ref (m 0)), (1, .int (nI u)), (2, .int (nI (spl (z 326)))), (3, .int (nI l)), (4, .int (nI (i + 1))), (5, .int (nI 1))]) hc 4 rfl (by decide) rfl (by decide) [1, 2, 3, 4, 0, 5] rfl rfl dX5_riffle_216 (n := 219) rfl ?_
          refine g_iload_n hc 1 rfl rfl dX5_riffle_219 (n := 220) rfl ?_
          refine g_iload hc 5 rfl dX5_riffle_220 (n := 222) rfl ?_
          refine n_if_eq hc (by omega) dX5_riffle_222 (tgt := 229) (by decide) (n := 225) rfl (fun c_10 => by (exfalso; revert c_10; first | omega | decide)) (fun c_10 => ?_)
          refine g_iconst (v := nI 1) hc (by decide) dX5_riffle_225 (n := 226) rfl ?_
          refine g_goto (n := 230) hc dX5_riffle_226 (by decide) ?_
          refine n_iadd (v := u + 1) hc rfl dX5_riffle_230 (n := 231) rfl ?_
          refine g_istore_n (lv2 := [(0, .ref (m 0)), (1, .int (nI (u + 1))), (2, .int (nI (spl (z 326)))), (3, .int (nI l)), (4, .int (nI (i + 1))), (5, .int (nI 1))]) hc rfl (by decide) [1, 0, 2, 3, 4, 5] rfl rfl dX5_riffle_231 (n := 232) rfl ?_
          refine g_iload_n hc 3 rfl rfl dX5_riffle_232 (n := 233) rfl ?_
          refine g_iload hc 5 rfl dX5_riffle_233 (n := 235) rfl ?_
          refine n_if_eq hc (by omega) dX5_riffle_235 (tgt := 242) (by decide) (n := 238) rfl (fun c_11 => by (exfalso; revert c_11; first | omega | decide)) (fun c_11 => ?_)
          refine g_iconst (v := nI 0) hc (by decide) dX5_riffle_238 (n := 239) rfl ?_
          refine g_goto (n := 243) hc dX5_riffle_239 (by decide) ?_
          refine n_iadd (v := l + 0) hc rfl dX5_riffle_243 (n := 244) rfl ?_
          refine g_istore_n (lv2 := [(0, .ref (m 0)), (1, .int (nI (u + 1))), (2, .int (nI (spl (z 326)))), (3, .int (nI (l + 0))), (4, .int (nI (i + 1))), (5, .int (nI 1))]) hc rfl (by decide) [1, 2, 3, 0, 4, 5] rfl rfl dX5_riffle_244 (n := 245) rfl ?_
          refine g_goto (n := 166) hc dX5_riffle_245 (by decide) ?_
          refine g_lsub (lv' := [(0, .ref (m 0)), (1, .int (nI (u + 1))), (2, .int (nI (spl (z 326)))), (3, .int (nI (l + 0))), (4, .int (nI (i + 1)))]) [0, 1, 2, 3, 4] rfl ?_
          exact ih_2 (i + 1) (u + 1) (l + 0) X 1 (b (p u)) (va_up g i (p u)) (by omega) (hX) (by omega) (by omega) (by omega) (hnx) (hg2) (by omega) (by omega)
      · skip
        refine g_iload_n hc 3 rfl rfl dX5_riffle_171 (n := 172) rfl ?_
        refine g_bipush (v := nI 52) hc (by decide) dX5_riffle_172 (n := 174) rfl ?_
        refine n_icmp_ge hc (by omega) (by omega) dX5_riffle_174 (tgt := 248) (by decide) (n := 177) rfl (fun c_12 => ?_) (fun c_12 => ?_)
        · skip
          have hgf := rz_of (rfx_of (show i = 52 by omega) hst) (fun k hk => hg k (by omega))
          clear hst hg
          refine g_iconst (v := nI 0) hc (by decide) dX5_riffle_248 (n := 249) rfl ?_
          refine g_istore (lv2 := [(0, .ref (m 0)), (1, .int (nI u)), (2, .int (nI (spl (z 326)))), (3, .int (nI l)), (4, .int (nI i)), (5, .int (nI 0))]) hc (by decide) [1, 2, 3, 4, 5, 0] rfl rfl dX5_riffle_249 (n := 251) rfl ?_
          have L_13 : ∀ (fuel : Nat) (j : Nat) (y : Nat → Nat), (j ≤ 52) → (∀ k, k < j → y k = g k) → (∀ k, j ≤ k → y k = va_up z 326 X k) → 52 - j < fuel → G κ Γ A 8 0 0 Q [(m 7, aI κ 52 g), (m 0, .inr (5, [.ref (m 1), .ref (m 2), .ref (m 3), .int (nI n), .ref (m 4), .ref (m 5), .ref (m 6), .int (nI ln), .ref (m 7), .ref (m 8)])), (m 1, aI κ 333 y)] 251 [(0, .ref (m 0)), (5, .int (nI j))] [] := by
            intro fuel
            induction fuel with
            | zero => intro j y hj ha hb2 h; exact absurd h (Nat.not_lt_zero _)
            | succ fuel ih_14 =>
              intro j y hj ha hb2 hn_15
              refine g_iload hc 1 rfl dX5_riffle_251 (n := 253) rfl ?_
              refine g_bipush (v := nI 52) hc (by decide) dX5_riffle_253 (n := 255) rfl ?_
              refine n_icmp_ge hc (by omega) (by omega) dX5_riffle_255 (tgt := 278) (by decide) (n := 258) rfl (fun c_16 => ?_) (fun c_16 => ?_)
              · skip
                refine g_sub (ws' := [(m 0, .inr (5, [.ref (m 1), .ref (m 2), .ref (m 3), .int (nI n), .ref (m 4), .ref (m 5), .ref (m 6), .int (nI ln), .ref (m 7), .ref (m 8)])), (m 1, aI κ 333 y), (m 7, aI κ 52 g)]) [1, 2, 0] rfl rfl ?_
                refine g_arr (ws' := [(m 0, .inr (5, [.ref (m 1), .ref (m 2), .ref (m 3), .int (nI n), .ref (m 4), .ref (m 5), .ref (m 6), .int (nI ln), .ref (m 7), .ref (m 8)])), (m 1, aI κ 333 (rfg z b p)), (m 7, aI κ 52 g)]) (f := y) (g := rfg z b p) 1 rfl (fun k hk => by rw [← hgf k]; by_cases h : k < 52; (rw [if_pos h]; exact ha k (by omega)); (rw [if_neg h]; exact hb2 k (by omega))) rfl ?_
                refine hret.2.2.1 _ _ _ _ _ rfl (by decide) (by decide) dX5_riffle_278 ?_
                exact ⟨rfl, g, rfl⟩
              · skip
                refine g_aload_n hc 0 rfl rfl dX5_riffle_258 (n := 259) rfl ?_
                refine g_getf hc 1 rfl vw_5 inX5 0 (by decide) k_fl_RX5_7 rfl rfl dX5_riffle_259 (n := 262) rfl ?_
                refine g_iload hc 1 rfl dX5_riffle_262 (n := 264) rfl ?_
                refine g_aload_n hc 0 rfl rfl dX5_riffle_264 (n := 265) rfl ?_
                refine g_getf hc 1 rfl vw_5 inX5 8 (by decide) k_fl_RX5_29 rfl rfl dX5_riffle_265 (n := 268) rfl ?_
                refine g_iload hc 1 rfl dX5_riffle_268 (n := 270) rfl ?_
                refine n_iald (v := g j) hc 0 rfl (by omega) (by decide) rfl dX5_riffle_270 (n := 271) rfl ?_
                refine n_iast (ws' := [(m 7, aI κ 52 g), (m 0, .inr (5, [.ref (m 1), .ref (m 2), .ref (m 3), .int (nI n), .ref (m 4), .ref (m 5), .ref (m 6), .int (nI ln), .ref (m 7), .ref (m 8)])), (m 1, aI κ 333 (va_up y j (g j)))]) hc 2 rfl (by omega) (by decide) rfl dX5_riffle_271 (n := 272) rfl ?_
                refine n_iinc (v := j + 1) (zk := 1) (lv2 := [(0, .ref (m 0)), (5, .int (nI (j + 1)))]) hc 1 rfl (by decide) rfl (by decide) [1, 0] rfl rfl dX5_riffle_272 (n := 275) rfl ?_
                refine g_goto (n := 251) hc dX5_riffle_275 (by decide) ?_
                exact ih_14 (j + 1) (va_up y j (g j)) (by omega) (fun k hk => (Nat.lt_succ_iff_lt_or_eq.mp hk).elim (fun q => (va_up_ne _ _ (by omega)).trans (ha k q)) (fun q => by subst q; exact va_up_self _ _ _)) (fun k hk => (va_up_ne _ _ (by omega)).trans (hb2 k (by omega))) (by omega)
          refine g_lsub (lv' := [(0, .ref (m 0)), (5, .int (nI 0))]) [0, 5] rfl ?_
          exact L_13 _ 0 (va_up z 326 X) (by omega) (fun k hk => absurd hk (Nat.not_lt_zero _)) (fun k hk => rfl) (Nat.lt_succ_self _)
        · skip
          refine g_iload_n hc 1 rfl rfl dX5_riffle_177 (n := 178) rfl ?_
          refine g_iload_n hc 2 rfl rfl dX5_riffle_178 (n := 179) rfl ?_
          refine n_icmp_ge hc (by omega) (by omega) dX5_riffle_179 (tgt := 186) (by decide) (n := 182) rfl (fun c_17 => ?_) (fun c_17 => ?_)
          · skip
            refine g_iconst (v := nI 0) hc (by decide) dX5_riffle_186 (n := 187) rfl ?_
            have hcz := hp.1 l (by omega)
            have hnx : rsn p b (spl (z 326)) (nx (z 326)) (i + 1) = (X, u, l + 1, 0, b (p l)) := by rw [rsn, hst]; unfold rst; dsimp only; (repeat' split) <;> first | rfl | (exfalso; omega)
            have hg2 : ∀ k, k < i + 1 → va_up g i (p l) k = rfp b p (z 326) k := fun k hk => (Nat.lt_succ_iff_lt_or_eq.mp hk).elim (fun q => (va_up_ne _ _ (by omega)).trans (hg k q)) (fun q => by subst q; rw [va_up_self]; unfold rfp rcd rix; rw [hst, hnx]; first | rfl | simp)
            refine g_istore (lv2 := [(0, .ref (m 0)), (1, .int (nI u)), (2, .int (nI (spl (z 326)))), (3, .int (nI l)), (4, .int (nI i)), (5, .int (nI 0))]) hc (by decide) [1, 2, 3, 4, 5, 0] rfl rfl dX5_riffle_187 (n := 189) rfl ?_
            refine g_aload_n hc 0 rfl rfl dX5_riffle_189 (n := 190) rfl ?_
            refine g_getf hc 1 rfl vw_5 inX5 8 (by decide) k_fl_RX5_29 rfl rfl dX5_riffle_190 (n := 193) rfl ?_
            refine g_iload hc 4 rfl dX5_riffle_193 (n := 195) rfl ?_
            refine g_iload hc 5 rfl dX5_riffle_195 (n := 197) rfl ?_
            refine n_if_eq hc (by omega) dX5_riffle_197 (tgt := 209) (by decide) (n := 200) rfl (fun c_18 => ?_) (fun c_18 => by (exfalso; revert c_18; first | omega | decide))
            refine g_aload_n hc 0 rfl rfl dX5_riffle_209 (n := 210) rfl ?_
            refine g_getf hc 1 rfl vw_5 inX5 0 (by decide) k_fl_RX5_7 rfl rfl dX5_riffle_210 (n := 213) rfl ?_
            refine g_iload_n hc 3 rfl rfl dX5_riffle_213 (n := 214) rfl ?_
            refine n_iald (v := p l) hc 2 rfl (by omega) (by decide) ((va_up_ne _ _ (by omega)).trans (hzp _ (by omega))) dX5_riffle_214 (n := 215) rfl ?_
            refine n_iast (ws' := [(m 7, aI κ 52 (va_up g i (p l))), (m 0, .inr (5, [.ref (m 1), .ref (m 2), .ref (m 3), .int (nI n), .ref (m 4), .ref (m 5), .ref (m 6), .int (nI ln), .ref (m 7), .ref (m 8)])), (m 1, aI κ 333 (va_up z 326 X))]) hc 0 rfl (by omega) (by decide) rfl dX5_riffle_215 (n := 216) rfl ?_
            refine n_iinc (v := i + 1) (zk := 1) (lv2 := [(0, .ref (m 0)), (1, .int (nI u)), (2, .int (nI (spl (z 326)))), (3, .int (nI l)), (4, .int (nI (i + 1))), (5, .int (nI 0))]) hc 4 rfl (by decide) rfl (by decide) [1, 2, 3, 4, 0, 5] rfl rfl dX5_riffle_216 (n := 219) rfl ?_
            refine g_iload_n hc 1 rfl rfl dX5_riffle_219 (n := 220) rfl ?_
            refine g_iload hc 5 rfl dX5_riffle_220 (n := 222) rfl ?_
            refine n_if_eq hc (by omega) dX5_riffle_222 (tgt := 229) (by decide) (n := 225) rfl (fun c_19 => ?_) (fun c_19 => by (exfalso; revert c_19; first | omega | decide))
            refine g_iconst (v := nI 0) hc (by decide) dX5_riffle_229 (n := 230) rfl ?_
            refine n_iadd (v := u + 0) hc rfl dX5_riffle_230 (n := 231) rfl ?_
            refine g_istore_n (lv2 := [(0, .ref (m 0)), (1, .int (nI (u + 0))), (2, .int (nI (spl (z 326)))), (3, .int (nI l)), (4, .int (nI (i + 1))), (5, .int (nI 0))]) hc rfl (by decide) [1, 0, 2, 3, 4, 5] rfl rfl dX5_riffle_231 (n := 232) rfl ?_
            refine g_iload_n hc 3 rfl rfl dX5_riffle_232 (n := 233) rfl ?_
            refine g_iload hc 5 rfl dX5_riffle_233 (n := 235) rfl ?_
            refine n_if_eq hc (by omega) dX5_riffle_235 (tgt := 242) (by decide) (n := 238) rfl (fun c_20 => ?_) (fun c_20 => by (exfalso; revert c_20; first | omega | decide))
            refine g_iconst (v := nI 1) hc (by decide) dX5_riffle_242 (n := 243) rfl ?_
            refine n_iadd (v := l + 1) hc rfl dX5_riffle_243 (n := 244) rfl ?_
            refine g_istore_n (lv2 := [(0, .ref (m 0)), (1, .int (nI (u + 0))), (2, .int (nI (spl (z 326)))), (3, .int (nI (l + 1))), (4, .int (nI (i + 1))), (5, .int (nI 0))]) hc rfl (by decide) [1, 2, 3, 0, 4, 5] rfl rfl dX5_riffle_244 (n := 245) rfl ?_
            refine g_goto (n := 166) hc dX5_riffle_245 (by decide) ?_
            refine g_lsub (lv' := [(0, .ref (m 0)), (1, .int (nI (u + 0))), (2, .int (nI (spl (z 326)))), (3, .int (nI (l + 1))), (4, .int (nI (i + 1)))]) [0, 1, 2, 3, 4] rfl ?_
            exact ih_2 (i + 1) (u + 0) (l + 1) X 0 (b (p l)) (va_up g i (p l)) (by omega) (hX) (by omega) (by omega) (by omega) (hnx) (hg2) (by omega) (by omega)
          · skip
            refine g_iconst (v := nI 1) hc (by decide) dX5_riffle_182 (n := 183) rfl ?_
            refine g_goto (n := 187) hc dX5_riffle_183 (by decide) ?_
            have hcz := hp.1 u (by omega)
            have hnx : rsn p b (spl (z 326)) (nx (z 326)) (i + 1) = (X, u + 1, l, 1, b (p u)) := by rw [rsn, hst]; unfold rst; dsimp only; (repeat' split) <;> first | rfl | (exfalso; omega)
            have hg2 : ∀ k, k < i + 1 → va_up g i (p u) k = rfp b p (z 326) k := fun k hk => (Nat.lt_succ_iff_lt_or_eq.mp hk).elim (fun q => (va_up_ne _ _ (by omega)).trans (hg k q)) (fun q => by subst q; rw [va_up_self]; unfold rfp rcd rix; rw [hst, hnx]; first | rfl | simp)
            refine g_istore (lv2 := [(0, .ref (m 0)), (1, .int (nI u)), (2, .int (nI (spl (z 326)))), (3, .int (nI l)), (4, .int (nI i)), (5, .int (nI 1))]) hc (by decide) [1, 2, 3, 4, 5, 0] rfl rfl dX5_riffle_187 (n := 189) rfl ?_
            refine g_aload_n hc 0 rfl rfl dX5_riffle_189 (n := 190) rfl ?_
            refine g_getf hc 1 rfl vw_5 inX5 8 (by decide) k_fl_RX5_29 rfl rfl dX5_riffle_190 (n := 193) rfl ?_
            refine g_iload hc 4 rfl dX5_riffle_193 (n := 195) rfl ?_
            refine g_iload hc 5 rfl dX5_riffle_195 (n := 197) rfl ?_
            refine n_if_eq hc (by omega) dX5_riffle_197 (tgt := 209) (by decide) (n := 200) rfl (fun c_21 => by (exfalso; revert c_21; first | omega | decide)) (fun c_21 => ?_)
            refine g_aload_n hc 0 rfl rfl dX5_riffle_200 (n := 201) rfl ?_
            refine g_getf hc 1 rfl vw_5 inX5 0 (by decide) k_fl_RX5_7 rfl rfl dX5_riffle_201 (n := 204) rfl ?_
            refine g_iload_n hc 1 rfl rfl dX5_riffle_204 (n := 205) rfl ?_
            refine n_iald (v := p u) hc 2 rfl (by omega) (by decide) ((va_up_ne _ _ (by omega)).trans (hzp _ (by omega))) dX5_riffle_205 (n := 206) rfl ?_
            refine g_goto (n := 215) hc dX5_riffle_206 (by decide) ?_
            refine n_iast (ws' := [(m 7, aI κ 52 (va_up g i (p u))), (m 0, .inr (5, [.ref (m 1), .ref (m 2), .ref (m 3), .int (nI n), .ref (m 4), .ref (m 5), .ref (m 6), .int (nI ln), .ref (m 7), .ref (m 8)])), (m 1, aI κ 333 (va_up z 326 X))]) hc 0 rfl (by omega) (by decide) rfl dX5_riffle_215 (n := 216) rfl ?_
            refine n_iinc (v := i + 1) (zk := 1) (lv2 := [(0, .ref (m 0)), (1, .int (nI u)), (2, .int (nI (spl (z 326)))), (3, .int (nI l)), (4, .int (nI (i + 1))), (5, .int (nI 1))]) hc 4 rfl (by decide) rfl (by decide) [1, 2, 3, 4, 0, 5] rfl rfl dX5_riffle_216 (n := 219) rfl ?_
            refine g_iload_n hc 1 rfl rfl dX5_riffle_219 (n := 220) rfl ?_
            refine g_iload hc 5 rfl dX5_riffle_220 (n := 222) rfl ?_
            refine n_if_eq hc (by omega) dX5_riffle_222 (tgt := 229) (by decide) (n := 225) rfl (fun c_22 => by (exfalso; revert c_22; first | omega | decide)) (fun c_22 => ?_)
            refine g_iconst (v := nI 1) hc (by decide) dX5_riffle_225 (n := 226) rfl ?_
            refine g_goto (n := 230) hc dX5_riffle_226 (by decide) ?_
            refine n_iadd (v := u + 1) hc rfl dX5_riffle_230 (n := 231) rfl ?_
            refine g_istore_n (lv2 := [(0, .ref (m 0)), (1, .int (nI (u + 1))), (2, .int (nI (spl (z 326)))), (3, .int (nI l)), (4, .int (nI (i + 1))), (5, .int (nI 1))]) hc rfl (by decide) [1, 0, 2, 3, 4, 5] rfl rfl dX5_riffle_231 (n := 232) rfl ?_
            refine g_iload_n hc 3 rfl rfl dX5_riffle_232 (n := 233) rfl ?_
            refine g_iload hc 5 rfl dX5_riffle_233 (n := 235) rfl ?_
            refine n_if_eq hc (by omega) dX5_riffle_235 (tgt := 242) (by decide) (n := 238) rfl (fun c_23 => by (exfalso; revert c_23; first | omega | decide)) (fun c_23 => ?_)
            refine g_iconst (v := nI 0) hc (by decide) dX5_riffle_238 (n := 239) rfl ?_
            refine g_goto (n := 243) hc dX5_riffle_239 (by decide) ?_
            refine n_iadd (v := l + 0) hc rfl dX5_riffle_243 (n := 244) rfl ?_
            refine g_istore_n (lv2 := [(0, .ref (m 0)), (1, .int (nI (u + 1))), (2, .int (nI (spl (z 326)))), (3, .int (nI (l + 0))), (4, .int (nI (i + 1))), (5, .int (nI 1))]) hc rfl (by decide) [1, 2, 3, 0, 4, 5] rfl rfl dX5_riffle_244 (n := 245) rfl ?_
            refine g_goto (n := 166) hc dX5_riffle_245 (by decide) ?_
            refine g_lsub (lv' := [(0, .ref (m 0)), (1, .int (nI (u + 1))), (2, .int (nI (spl (z 326)))), (3, .int (nI (l + 0))), (4, .int (nI (i + 1)))]) [0, 1, 2, 3, 4] rfl ?_
            exact ih_2 (i + 1) (u + 1) (l + 0) X 1 (b (p u)) (va_up g i (p u)) (by omega) (hX) (by omega) (by omega) (by omega) (hnx) (hg2) (by omega) (by omega)
  have L_24 : ∀ (fuel : Nat) (i : Nat) (u : Nat) (l : Nat) (w : Nat) (X : Nat) (Y : Nat) (f : Nat) (t : Nat) (g : Nat → Nat), (i < 52) → (X < 2 ^ 31) → (u < spl (z 326)) → (spl (z 326) ≤ l ∧ l < 52) → (u + l = spl (z 326) + i) → (rsn p b (spl (z 326)) (nx (z 326)) i = (Y, u, l, f, t)) → (w ≤ 1) → (rsn p b (spl (z 326)) (nx (z 326)) (i + 1) = (X, u + w, l + (1 - w), w, b (p (if w = 1 then u else l)))) → (∀ k, k < i → g k = rfp b p (z 326) k) → 52 - i < fuel → G κ Γ A 8 0 0 Q [(m 7, aI κ 52 g), (m 0, .inr (5, [.ref (m 1), .ref (m 2), .ref (m 3), .int (nI n), .ref (m 4), .ref (m 5), .ref (m 6), .int (nI ln), .ref (m 7), .ref (m 8)])), (m 1, aI κ 333 (va_up z 326 X))] 60 [(0, .ref (m 0)), (1, .int (nI u)), (2, .int (nI (spl (z 326)))), (3, .int (nI l)), (4, .int (nI i)), (5, .int (nI w))] [] := by
    intro fuel
    induction fuel with
    | zero => intro i u l w X Y f t g hi hX hu hl hul hst hw hnx hg h; exact absurd h (Nat.not_lt_zero _)
    | succ fuel ih_25 =>
      intro i u l w X Y f t g hi hX hu hl hul hst hw hnx hg hn_26
      have L_27 : ∀ (i : Nat) (u : Nat) (l : Nat) (X : Nat) (f : Nat) (t : Nat) (g : Nat → Nat), (i ≤ 52) → (X < 2 ^ 31) → (u ≤ spl (z 326)) → (spl (z 326) ≤ l ∧ l ≤ 52) → (u + l = spl (z 326) + i) → (rsn p b (spl (z 326)) (nx (z 326)) i = (X, u, l, f, t)) → (∀ k, k < i → g k = rfp b p (z 326) k) → (u < spl (z 326) → l < 52 → t = 0) → (52 - i < fuel) → G κ Γ A 8 0 0 Q [(m 7, aI κ 52 g), (m 0, .inr (5, [.ref (m 1), .ref (m 2), .ref (m 3), .int (nI n), .ref (m 4), .ref (m 5), .ref (m 6), .int (nI ln), .ref (m 7), .ref (m 8)])), (m 1, aI κ 333 (va_up z 326 X))] 16 [(0, .ref (m 0)), (1, .int (nI u)), (2, .int (nI (spl (z 326)))), (3, .int (nI l)), (4, .int (nI i))] [] := by
        intro i u l X f t g hi hX hu hl hul hst hg hq hfu
        refine g_iload_n hc 1 rfl rfl dX5_riffle_16 (n := 17) rfl ?_
        refine g_iload_n hc 2 rfl rfl dX5_riffle_17 (n := 18) rfl ?_
        refine n_icmp_ge hc (by omega) (by omega) dX5_riffle_18 (tgt := 166) (by decide) (n := 21) rfl (fun c_28 => ?_) (fun c_28 => ?_)
        · skip
          exact L_1 _ i u l X f t g (by omega) (hX) (by omega) (by omega) (by omega) (hst) (hg) (by omega) (Nat.lt_succ_self _)
        · skip
          refine g_iload_n hc 3 rfl rfl dX5_riffle_21 (n := 22) rfl ?_
          refine g_bipush (v := nI 52) hc (by decide) dX5_riffle_22 (n := 24) rfl ?_
          refine n_icmp_ge hc (by omega) (by omega) dX5_riffle_24 (tgt := 166) (by decide) (n := 27) rfl (fun c_29 => ?_) (fun c_29 => ?_)
          · skip
            exact L_1 _ i u l X f t g (by omega) (hX) (by omega) (by omega) (by omega) (hst) (hg) (by omega) (Nat.lt_succ_self _)
          · skip
            refine g_aload_n hc 0 rfl rfl dX5_riffle_27 (n := 28) rfl ?_
            refine g_iload_n hc 2 rfl rfl dX5_riffle_28 (n := 29) rfl ?_
            refine g_iload_n hc 1 rfl rfl dX5_riffle_29 (n := 30) rfl ?_
            refine n_isub (v := (spl (z 326)) - u) hc (by omega) rfl dX5_riffle_30 (n := 31) rfl ?_
            refine g_bipush (v := nI 52) hc (by decide) dX5_riffle_31 (n := 33) rfl ?_
            refine n_iadd (v := ((spl (z 326)) - u) + 52) hc rfl dX5_riffle_33 (n := 34) rfl ?_
            refine g_iload_n hc 3 rfl rfl dX5_riffle_34 (n := 35) rfl ?_
            refine n_isub (v := (((spl (z 326)) - u) + 52) - l) hc (by omega) rfl dX5_riffle_35 (n := 36) rfl ?_
            refine g_callV (rest := []) (As := [.int (nI ((((spl (z 326)) - u) + 52) - l))]) (cells' := 0) (slots' := 0) hc (c_X5_draw κ _ m n ln (va_up z 326 X) ((((spl (z 326)) - u) + 52) - l) (by rw [va_up_self]; exact hX) (by omega) (by omega)) q_X5_draw k_ml_RX5_57 rfl rfl (jn_ix (wr := [(m 7, aI κ 52 g)]) [1, 2] [0] rfl rfl rfl rfl (by decide)) (qr := 1) rfl vw_5 ⟨⟨by decide, by decide⟩, by decide, by decide⟩ (Nat.le_of_ble_eq_true rfl) rfl rfl dX5_riffle_36 (n := 39) rfl (fun vv ww hp => ?_)
            obtain ⟨rr, rfl, rfl, rfl⟩ := hp
            refine ⟨_, rfl, ?_⟩
            refine g_ws (ws' := [(m 7, aI κ 52 g), (m 0, .inr (5, [.ref (m 1), .ref (m 2), .ref (m 3), .int (nI n), .ref (m 4), .ref (m 5), .ref (m 6), .int (nI ln), .ref (m 7), .ref (m 8)])), (m 1, aI κ 333 (va_up (va_up z 326 X) 326 (nx ((va_up z 326 X) 326))))]) rfl ?_
            refine g_st (st' := [.int (nI (dv (nx ((va_up z 326 X) 326)) ((((spl (z 326)) - u) + 52) - l)))]) rfl ?_
            refine g_ws (ws' := [(m 7, aI κ 52 g), (m 0, .inr (5, [.ref (m 1), .ref (m 2), .ref (m 3), .int (nI n), .ref (m 4), .ref (m 5), .ref (m 6), .int (nI ln), .ref (m 7), .ref (m 8)])), (m 1, aI κ 333 (va_up z 326 (nx X)))]) (by rw [drw]) ?_
            refine g_st (st' := [.int (nI (dv (nx X) ((((spl (z 326)) - u) + 52) - l)))]) (by rw [va_up_self]) ?_
            have hdv := dv_lt (nx X) (b := (((spl (z 326)) - u) + 52) - l) (by omega)
            have hnX := nx_lt X
            refine g_iload_n hc 2 rfl rfl dX5_riffle_39 (n := 40) rfl ?_
            refine g_iload_n hc 1 rfl rfl dX5_riffle_40 (n := 41) rfl ?_
            refine n_isub (v := (spl (z 326)) - u) hc (by omega) rfl dX5_riffle_41 (n := 42) rfl ?_
            refine n_icmp_ge hc (by omega) (by omega) dX5_riffle_42 (tgt := 49) (by decide) (n := 45) rfl (fun c_30 => ?_) (fun c_30 => ?_)
            · skip
              refine g_iconst (v := nI 0) hc (by decide) dX5_riffle_49 (n := 50) rfl ?_
              refine g_istore (lv2 := [(0, .ref (m 0)), (1, .int (nI u)), (2, .int (nI (spl (z 326)))), (3, .int (nI l)), (4, .int (nI i)), (5, .int (nI 0))]) hc (by decide) [1, 2, 3, 4, 5, 0] rfl rfl dX5_riffle_50 (n := 52) rfl ?_
              refine g_iconst (v := nI 1) hc (by decide) dX5_riffle_52 (n := 53) rfl ?_
              refine g_istore (lv2 := [(0, .ref (m 0)), (1, .int (nI u)), (2, .int (nI (spl (z 326)))), (3, .int (nI l)), (4, .int (nI i)), (5, .int (nI 0)), (6, .int (nI 1))]) hc (by decide) [1, 2, 3, 4, 5, 6, 0] rfl rfl dX5_riffle_53 (n := 55) rfl ?_
              refine g_iload hc 6 rfl dX5_riffle_55 (n := 57) rfl ?_
              refine n_if_eq hc (by omega) dX5_riffle_57 (tgt := 163) (by decide) (n := 60) rfl (fun c_31 => by (exfalso; revert c_31; first | omega | decide)) (fun c_31 => ?_)
              have hnx : rsn p b (spl (z 326)) (nx (z 326)) (i + 1) = (nx X, u + 0, l + (1 - 0), 0, b (p (if 0 = 1 then u else l))) := by rw [rsn, hst, hq (by assumption) (by assumption)]; unfold rst; dsimp only; rw [if_neg (by omega), if_neg (by omega), if_pos rfl, if_neg (by omega)]; rfl
              refine g_lsub (lv' := [(0, .ref (m 0)), (1, .int (nI u)), (2, .int (nI (spl (z 326)))), (3, .int (nI l)), (4, .int (nI i)), (5, .int (nI 0))]) [0, 1, 2, 3, 4, 5] rfl ?_
              exact ih_25 i u l 0 (nx X) X f t g (by omega) (hnX) (by omega) (by omega) (by omega) (hst) (by decide) (hnx) (hg) (by omega)
            · skip
              refine g_iconst (v := nI 1) hc (by decide) dX5_riffle_45 (n := 46) rfl ?_
              refine g_goto (n := 50) hc dX5_riffle_46 (by decide) ?_
              refine g_istore (lv2 := [(0, .ref (m 0)), (1, .int (nI u)), (2, .int (nI (spl (z 326)))), (3, .int (nI l)), (4, .int (nI i)), (5, .int (nI 1))]) hc (by decide) [1, 2, 3, 4, 5, 0] rfl rfl dX5_riffle_50 (n := 52) rfl ?_
              refine g_iconst (v := nI 1) hc (by decide) dX5_riffle_52 (n := 53) rfl ?_
              refine g_istore (lv2 := [(0, .ref (m 0)), (1, .int (nI u)), (2, .int (nI (spl (z 326)))), (3, .int (nI l)), (4, .int (nI i)), (5, .int (nI 1)), (6, .int (nI 1))]) hc (by decide) [1, 2, 3, 4, 5, 6, 0] rfl rfl dX5_riffle_53 (n := 55) rfl ?_
              refine g_iload hc 6 rfl dX5_riffle_55 (n := 57) rfl ?_
              refine n_if_eq hc (by omega) dX5_riffle_57 (tgt := 163) (by decide) (n := 60) rfl (fun c_32 => by (exfalso; revert c_32; first | omega | decide)) (fun c_32 => ?_)
              have hnx : rsn p b (spl (z 326)) (nx (z 326)) (i + 1) = (nx X, u + 1, l + (1 - 1), 1, b (p (if 1 = 1 then u else l))) := by rw [rsn, hst, hq (by assumption) (by assumption)]; unfold rst; dsimp only; rw [if_neg (by omega), if_neg (by omega), if_pos rfl, if_pos (by omega)]; rfl
              refine g_lsub (lv' := [(0, .ref (m 0)), (1, .int (nI u)), (2, .int (nI (spl (z 326)))), (3, .int (nI l)), (4, .int (nI i)), (5, .int (nI 1))]) [0, 1, 2, 3, 4, 5] rfl ?_
              exact ih_25 i u l 1 (nx X) X f t g (by omega) (hnX) (by omega) (by omega) (by omega) (hst) (by decide) (hnx) (hg) (by omega)
      rcases Nat.le_one_iff_eq_zero_or_eq_one.mp hw with rfl | rfl
      · skip
        have hcz := hp.1 l (by omega)
        have hcb := hb (p l) hcz
        have hnx : rsn p b (spl (z 326)) (nx (z 326)) (i + 1) = (X, u, l + 1, 0, b (p l)) := hnx
        have hg2 : ∀ k, k < i + 1 → va_up g i (p l) k = rfp b p (z 326) k := fun k hk => (Nat.lt_succ_iff_lt_or_eq.mp hk).elim (fun q => (va_up_ne _ _ (by omega)).trans (hg k q)) (fun q => by subst q; rw [va_up_self]; unfold rfp rcd rix; rw [hst, hnx]; first | rfl | simp)
        refine g_iload hc 5 rfl dX5_riffle_60 (n := 62) rfl ?_
        refine n_if_eq hc (by omega) dX5_riffle_62 (tgt := 74) (by decide) (n := 65) rfl (fun c_33 => ?_) (fun c_33 => by (exfalso; revert c_33; first | omega | decide))
        refine g_aload_n hc 0 rfl rfl dX5_riffle_74 (n := 75) rfl ?_
        refine g_getf hc 1 rfl vw_5 inX5 0 (by decide) k_fl_RX5_7 rfl rfl dX5_riffle_75 (n := 78) rfl ?_
        refine g_iload_n hc 3 rfl rfl dX5_riffle_78 (n := 79) rfl ?_
        refine n_iald (v := p l) hc 2 rfl (by omega) (by decide) ((va_up_ne _ _ (by omega)).trans (hzp _ (by omega))) dX5_riffle_79 (n := 80) rfl ?_
        refine g_istore (lv2 := [(0, .ref (m 0)), (1, .int (nI u)), (2, .int (nI (spl (z 326)))), (3, .int (nI l)), (4, .int (nI i)), (5, .int (nI 0)), (7, .int (nI (p l)))]) hc (by decide) [1, 2, 3, 4, 5, 6, 0] rfl rfl dX5_riffle_80 (n := 82) rfl ?_
        refine g_aload_n hc 0 rfl rfl dX5_riffle_82 (n := 83) rfl ?_
        refine g_getf hc 1 rfl vw_5 inX5 8 (by decide) k_fl_RX5_29 rfl rfl dX5_riffle_83 (n := 86) rfl ?_
        refine g_iload hc 4 rfl dX5_riffle_86 (n := 88) rfl ?_
        refine g_iload hc 6 rfl dX5_riffle_88 (n := 90) rfl ?_
        refine n_iast (ws' := [(m 7, aI κ 52 (va_up g i (p l))), (m 0, .inr (5, [.ref (m 1), .ref (m 2), .ref (m 3), .int (nI n), .ref (m 4), .ref (m 5), .ref (m 6), .int (nI ln), .ref (m 7), .ref (m 8)])), (m 1, aI κ 333 (va_up z 326 X))]) hc 0 rfl (by omega) (by decide) rfl dX5_riffle_90 (n := 91) rfl ?_
        refine n_iinc (v := i + 1) (zk := 1) (lv2 := [(0, .ref (m 0)), (1, .int (nI u)), (2, .int (nI (spl (z 326)))), (3, .int (nI l)), (4, .int (nI (i + 1))), (5, .int (nI 0)), (7, .int (nI (p l)))]) hc 4 rfl (by decide) rfl (by decide) [1, 2, 3, 4, 0, 5, 6] rfl rfl dX5_riffle_91 (n := 94) rfl ?_
        refine g_iload_n hc 1 rfl rfl dX5_riffle_94 (n := 95) rfl ?_
        refine g_iload hc 5 rfl dX5_riffle_95 (n := 97) rfl ?_
        refine n_if_eq hc (by omega) dX5_riffle_97 (tgt := 104) (by decide) (n := 100) rfl (fun c_34 => ?_) (fun c_34 => by (exfalso; revert c_34; first | omega | decide))
        refine g_iconst (v := nI 0) hc (by decide) dX5_riffle_104 (n := 105) rfl ?_
        refine n_iadd (v := u + 0) hc rfl dX5_riffle_105 (n := 106) rfl ?_
        refine g_istore_n (lv2 := [(0, .ref (m 0)), (1, .int (nI (u + 0))), (2, .int (nI (spl (z 326)))), (3, .int (nI l)), (4, .int (nI (i + 1))), (5, .int (nI 0)), (7, .int (nI (p l)))]) hc rfl (by decide) [1, 0, 2, 3, 4, 5, 6] rfl rfl dX5_riffle_106 (n := 107) rfl ?_
        refine g_iload_n hc 3 rfl rfl dX5_riffle_107 (n := 108) rfl ?_
        refine g_iload hc 5 rfl dX5_riffle_108 (n := 110) rfl ?_
        refine n_if_eq hc (by omega) dX5_riffle_110 (tgt := 117) (by decide) (n := 113) rfl (fun c_35 => ?_) (fun c_35 => by (exfalso; revert c_35; first | omega | decide))
        refine g_iconst (v := nI 1) hc (by decide) dX5_riffle_117 (n := 118) rfl ?_
        refine n_iadd (v := l + 1) hc rfl dX5_riffle_118 (n := 119) rfl ?_
        refine g_istore_n (lv2 := [(0, .ref (m 0)), (1, .int (nI (u + 0))), (2, .int (nI (spl (z 326)))), (3, .int (nI (l + 1))), (4, .int (nI (i + 1))), (5, .int (nI 0)), (7, .int (nI (p l)))]) hc rfl (by decide) [1, 2, 3, 0, 4, 5, 6] rfl rfl dX5_riffle_119 (n := 120) rfl ?_
        refine g_aload_n hc 0 rfl rfl dX5_riffle_120 (n := 121) rfl ?_
        refine g_getf hc 1 rfl vw_5 inX5 0 (by decide) k_fl_RX5_7 rfl rfl dX5_riffle_121 (n := 124) rfl ?_
        refine g_bipush (v := nI 52) hc (by decide) dX5_riffle_124 (n := 126) rfl ?_
        refine g_iload hc 6 rfl dX5_riffle_126 (n := 128) rfl ?_
        refine n_iadd (v := 52 + (p l)) hc rfl dX5_riffle_128 (n := 129) rfl ?_
        refine n_iald (v := b (p l)) hc 2 rfl (by omega) (by decide) ((va_up_ne _ _ (by omega)).trans (hzb _ (by omega))) dX5_riffle_129 (n := 130) rfl ?_
        refine g_iconst (v := nI 1) hc (by decide) dX5_riffle_130 (n := 131) rfl ?_
        refine n_icmp_ne hc (by omega) (by omega) dX5_riffle_131 (tgt := 157) (by decide) (n := 134) rfl (fun c_36 => ?_) (fun c_36 => ?_)
        · skip
          refine g_iconst (v := nI 0) hc (by decide) dX5_riffle_157 (n := 158) rfl ?_
          refine g_istore (lv2 := [(0, .ref (m 0)), (1, .int (nI (u + 0))), (2, .int (nI (spl (z 326)))), (3, .int (nI (l + 1))), (4, .int (nI (i + 1))), (5, .int (nI 0)), (6, .int (nI 0)), (7, .int (nI (p l)))]) hc (by decide) [1, 2, 3, 4, 5, 6, 0, 7] rfl rfl dX5_riffle_158 (n := 160) rfl ?_
          refine g_goto (n := 55) hc dX5_riffle_160 (by decide) ?_
          refine g_iload hc 6 rfl dX5_riffle_55 (n := 57) rfl ?_
          refine n_if_eq hc (by omega) dX5_riffle_57 (tgt := 163) (by decide) (n := 60) rfl (fun c_37 => ?_) (fun c_37 => by (exfalso; revert c_37; first | omega | decide))
          refine g_goto (n := 16) hc dX5_riffle_163 (by decide) ?_
          refine g_lsub (lv' := [(0, .ref (m 0)), (1, .int (nI (u + 0))), (2, .int (nI (spl (z 326)))), (3, .int (nI (l + 1))), (4, .int (nI (i + 1)))]) [0, 1, 2, 3, 4] rfl ?_
          exact L_27 (i + 1) (u + 0) (l + 1) X 0 (b (p l)) (va_up g i (p l)) (by omega) (hX) (by omega) (by omega) (by omega) (hnx) (hg2) (fun h1 h2 => (by omega)) (by omega)
        · skip
          refine g_iload hc 5 rfl dX5_riffle_134 (n := 136) rfl ?_
          refine n_if_eq hc (by omega) dX5_riffle_136 (tgt := 147) (by decide) (n := 139) rfl (fun c_38 => ?_) (fun c_38 => by (exfalso; revert c_38; first | omega | decide))
          refine g_iload_n hc 3 rfl rfl dX5_riffle_147 (n := 148) rfl ?_
          refine g_bipush (v := nI 52) hc (by decide) dX5_riffle_148 (n := 150) rfl ?_
          refine n_icmp_ge hc (by omega) (by omega) dX5_riffle_150 (tgt := 157) (by decide) (n := 153) rfl (fun c_39 => ?_) (fun c_39 => ?_)
          · skip
            refine g_iconst (v := nI 0) hc (by decide) dX5_riffle_157 (n := 158) rfl ?_
            refine g_istore (lv2 := [(0, .ref (m 0)), (1, .int (nI (u + 0))), (2, .int (nI (spl (z 326)))), (3, .int (nI (l + 1))), (4, .int (nI (i + 1))), (5, .int (nI 0)), (6, .int (nI 0)), (7, .int (nI (p l)))]) hc (by decide) [1, 2, 3, 4, 5, 6, 0, 7] rfl rfl dX5_riffle_158 (n := 160) rfl ?_
            refine g_goto (n := 55) hc dX5_riffle_160 (by decide) ?_
            refine g_iload hc 6 rfl dX5_riffle_55 (n := 57) rfl ?_
            refine n_if_eq hc (by omega) dX5_riffle_57 (tgt := 163) (by decide) (n := 60) rfl (fun c_40 => ?_) (fun c_40 => by (exfalso; revert c_40; first | omega | decide))
            refine g_goto (n := 16) hc dX5_riffle_163 (by decide) ?_
            refine g_lsub (lv' := [(0, .ref (m 0)), (1, .int (nI (u + 0))), (2, .int (nI (spl (z 326)))), (3, .int (nI (l + 1))), (4, .int (nI (i + 1)))]) [0, 1, 2, 3, 4] rfl ?_
            exact L_27 (i + 1) (u + 0) (l + 1) X 0 (b (p l)) (va_up g i (p l)) (by omega) (hX) (by omega) (by omega) (by omega) (hnx) (hg2) (fun h1 h2 => (by omega)) (by omega)
          · skip
            refine g_iconst (v := nI 1) hc (by decide) dX5_riffle_153 (n := 154) rfl ?_
            refine g_goto (n := 158) hc dX5_riffle_154 (by decide) ?_
            refine g_istore (lv2 := [(0, .ref (m 0)), (1, .int (nI (u + 0))), (2, .int (nI (spl (z 326)))), (3, .int (nI (l + 1))), (4, .int (nI (i + 1))), (5, .int (nI 0)), (6, .int (nI 1)), (7, .int (nI (p l)))]) hc (by decide) [1, 2, 3, 4, 5, 6, 0, 7] rfl rfl dX5_riffle_158 (n := 160) rfl ?_
            refine g_goto (n := 55) hc dX5_riffle_160 (by decide) ?_
            refine g_iload hc 6 rfl dX5_riffle_55 (n := 57) rfl ?_
            refine n_if_eq hc (by omega) dX5_riffle_57 (tgt := 163) (by decide) (n := 60) rfl (fun c_41 => by (exfalso; revert c_41; first | omega | decide)) (fun c_41 => ?_)
            have hnx2 : rsn p b (spl (z 326)) (nx (z 326)) (i + 1 + 1) = (X, (u + 0) + 0, (l + 1) + (1 - 0), 0, b (p (if 0 = 1 then u + 0 else l + 1))) := by rw [rsn, hnx]; unfold rst; dsimp only; rw [if_neg (by omega), if_neg (by omega), if_neg (by omega), if_neg (by decide)]; rfl
            refine g_lsub (lv' := [(0, .ref (m 0)), (1, .int (nI (u + 0))), (2, .int (nI (spl (z 326)))), (3, .int (nI (l + 1))), (4, .int (nI (i + 1))), (5, .int (nI 0))]) [0, 1, 2, 3, 4, 5] rfl ?_
            exact ih_25 (i + 1) (u + 0) (l + 1) 0 X X 0 (b (p l)) (va_up g i (p l)) (by omega) (hX) (by omega) (by omega) (by omega) (hnx) (by decide) (hnx2) (hg2) (by omega)
      · skip
        have hcz := hp.1 u (by omega)
        have hcb := hb (p u) hcz
        have hnx : rsn p b (spl (z 326)) (nx (z 326)) (i + 1) = (X, u + 1, l, 1, b (p u)) := hnx
        have hg2 : ∀ k, k < i + 1 → va_up g i (p u) k = rfp b p (z 326) k := fun k hk => (Nat.lt_succ_iff_lt_or_eq.mp hk).elim (fun q => (va_up_ne _ _ (by omega)).trans (hg k q)) (fun q => by subst q; rw [va_up_self]; unfold rfp rcd rix; rw [hst, hnx]; first | rfl | simp)
        refine g_iload hc 5 rfl dX5_riffle_60 (n := 62) rfl ?_
        refine n_if_eq hc (by omega) dX5_riffle_62 (tgt := 74) (by decide) (n := 65) rfl (fun c_42 => by (exfalso; revert c_42; first | omega | decide)) (fun c_42 => ?_)
        refine g_aload_n hc 0 rfl rfl dX5_riffle_65 (n := 66) rfl ?_
        refine g_getf hc 1 rfl vw_5 inX5 0 (by decide) k_fl_RX5_7 rfl rfl dX5_riffle_66 (n := 69) rfl ?_
        refine g_iload_n hc 1 rfl rfl dX5_riffle_69 (n := 70) rfl ?_
        refine n_iald (v := p u) hc 2 rfl (by omega) (by decide) ((va_up_ne _ _ (by omega)).trans (hzp _ (by omega))) dX5_riffle_70 (n := 71) rfl ?_
        refine g_goto (n := 80) hc dX5_riffle_71 (by decide) ?_
        refine g_istore (lv2 := [(0, .ref (m 0)), (1, .int (nI u)), (2, .int (nI (spl (z 326)))), (3, .int (nI l)), (4, .int (nI i)), (5, .int (nI 1)), (7, .int (nI (p u)))]) hc (by decide) [1, 2, 3, 4, 5, 6, 0] rfl rfl dX5_riffle_80 (n := 82) rfl ?_
        refine g_aload_n hc 0 rfl rfl dX5_riffle_82 (n := 83) rfl ?_
        refine g_getf hc 1 rfl vw_5 inX5 8 (by decide) k_fl_RX5_29 rfl rfl dX5_riffle_83 (n := 86) rfl ?_
        refine g_iload hc 4 rfl dX5_riffle_86 (n := 88) rfl ?_
        refine g_iload hc 6 rfl dX5_riffle_88 (n := 90) rfl ?_
        refine n_iast (ws' := [(m 7, aI κ 52 (va_up g i (p u))), (m 0, .inr (5, [.ref (m 1), .ref (m 2), .ref (m 3), .int (nI n), .ref (m 4), .ref (m 5), .ref (m 6), .int (nI ln), .ref (m 7), .ref (m 8)])), (m 1, aI κ 333 (va_up z 326 X))]) hc 0 rfl (by omega) (by decide) rfl dX5_riffle_90 (n := 91) rfl ?_
        refine n_iinc (v := i + 1) (zk := 1) (lv2 := [(0, .ref (m 0)), (1, .int (nI u)), (2, .int (nI (spl (z 326)))), (3, .int (nI l)), (4, .int (nI (i + 1))), (5, .int (nI 1)), (7, .int (nI (p u)))]) hc 4 rfl (by decide) rfl (by decide) [1, 2, 3, 4, 0, 5, 6] rfl rfl dX5_riffle_91 (n := 94) rfl ?_
        refine g_iload_n hc 1 rfl rfl dX5_riffle_94 (n := 95) rfl ?_
        refine g_iload hc 5 rfl dX5_riffle_95 (n := 97) rfl ?_
        refine n_if_eq hc (by omega) dX5_riffle_97 (tgt := 104) (by decide) (n := 100) rfl (fun c_43 => by (exfalso; revert c_43; first | omega | decide)) (fun c_43 => ?_)
        refine g_iconst (v := nI 1) hc (by decide) dX5_riffle_100 (n := 101) rfl ?_
        refine g_goto (n := 105) hc dX5_riffle_101 (by decide) ?_
        refine n_iadd (v := u + 1) hc rfl dX5_riffle_105 (n := 106) rfl ?_
        refine g_istore_n (lv2 := [(0, .ref (m 0)), (1, .int (nI (u + 1))), (2, .int (nI (spl (z 326)))), (3, .int (nI l)), (4, .int (nI (i + 1))), (5, .int (nI 1)), (7, .int (nI (p u)))]) hc rfl (by decide) [1, 0, 2, 3, 4, 5, 6] rfl rfl dX5_riffle_106 (n := 107) rfl ?_
        refine g_iload_n hc 3 rfl rfl dX5_riffle_107 (n := 108) rfl ?_
        refine g_iload hc 5 rfl dX5_riffle_108 (n := 110) rfl ?_
        refine n_if_eq hc (by omega) dX5_riffle_110 (tgt := 117) (by decide) (n := 113) rfl (fun c_44 => by (exfalso; revert c_44; first | omega | decide)) (fun c_44 => ?_)
        refine g_iconst (v := nI 0) hc (by decide) dX5_riffle_113 (n := 114) rfl ?_
        refine g_goto (n := 118) hc dX5_riffle_114 (by decide) ?_
        refine n_iadd (v := l + 0) hc rfl dX5_riffle_118 (n := 119) rfl ?_
        refine g_istore_n (lv2 := [(0, .ref (m 0)), (1, .int (nI (u + 1))), (2, .int (nI (spl (z 326)))), (3, .int (nI (l + 0))), (4, .int (nI (i + 1))), (5, .int (nI 1)), (7, .int (nI (p u)))]) hc rfl (by decide) [1, 2, 3, 0, 4, 5, 6] rfl rfl dX5_riffle_119 (n := 120) rfl ?_
        refine g_aload_n hc 0 rfl rfl dX5_riffle_120 (n := 121) rfl ?_
        refine g_getf hc 1 rfl vw_5 inX5 0 (by decide) k_fl_RX5_7 rfl rfl dX5_riffle_121 (n := 124) rfl ?_
        refine g_bipush (v := nI 52) hc (by decide) dX5_riffle_124 (n := 126) rfl ?_
        refine g_iload hc 6 rfl dX5_riffle_126 (n := 128) rfl ?_
        refine n_iadd (v := 52 + (p u)) hc rfl dX5_riffle_128 (n := 129) rfl ?_
        refine n_iald (v := b (p u)) hc 2 rfl (by omega) (by decide) ((va_up_ne _ _ (by omega)).trans (hzb _ (by omega))) dX5_riffle_129 (n := 130) rfl ?_
        refine g_iconst (v := nI 1) hc (by decide) dX5_riffle_130 (n := 131) rfl ?_
        refine n_icmp_ne hc (by omega) (by omega) dX5_riffle_131 (tgt := 157) (by decide) (n := 134) rfl (fun c_45 => ?_) (fun c_45 => ?_)
        · skip
          refine g_iconst (v := nI 0) hc (by decide) dX5_riffle_157 (n := 158) rfl ?_
          refine g_istore (lv2 := [(0, .ref (m 0)), (1, .int (nI (u + 1))), (2, .int (nI (spl (z 326)))), (3, .int (nI (l + 0))), (4, .int (nI (i + 1))), (5, .int (nI 1)), (6, .int (nI 0)), (7, .int (nI (p u)))]) hc (by decide) [1, 2, 3, 4, 5, 6, 0, 7] rfl rfl dX5_riffle_158 (n := 160) rfl ?_
          refine g_goto (n := 55) hc dX5_riffle_160 (by decide) ?_
          refine g_iload hc 6 rfl dX5_riffle_55 (n := 57) rfl ?_
          refine n_if_eq hc (by omega) dX5_riffle_57 (tgt := 163) (by decide) (n := 60) rfl (fun c_46 => ?_) (fun c_46 => by (exfalso; revert c_46; first | omega | decide))
          refine g_goto (n := 16) hc dX5_riffle_163 (by decide) ?_
          refine g_lsub (lv' := [(0, .ref (m 0)), (1, .int (nI (u + 1))), (2, .int (nI (spl (z 326)))), (3, .int (nI (l + 0))), (4, .int (nI (i + 1)))]) [0, 1, 2, 3, 4] rfl ?_
          exact L_27 (i + 1) (u + 1) (l + 0) X 1 (b (p u)) (va_up g i (p u)) (by omega) (hX) (by omega) (by omega) (by omega) (hnx) (hg2) (fun h1 h2 => (by omega)) (by omega)
        · skip
          refine g_iload hc 5 rfl dX5_riffle_134 (n := 136) rfl ?_
          refine n_if_eq hc (by omega) dX5_riffle_136 (tgt := 147) (by decide) (n := 139) rfl (fun c_47 => by (exfalso; revert c_47; first | omega | decide)) (fun c_47 => ?_)
          refine g_iload_n hc 1 rfl rfl dX5_riffle_139 (n := 140) rfl ?_
          refine g_iload_n hc 2 rfl rfl dX5_riffle_140 (n := 141) rfl ?_
          refine n_icmp_ge hc (by omega) (by omega) dX5_riffle_141 (tgt := 157) (by decide) (n := 144) rfl (fun c_48 => ?_) (fun c_48 => ?_)
          · skip
            refine g_iconst (v := nI 0) hc (by decide) dX5_riffle_157 (n := 158) rfl ?_
            refine g_istore (lv2 := [(0, .ref (m 0)), (1, .int (nI (u + 1))), (2, .int (nI (spl (z 326)))), (3, .int (nI (l + 0))), (4, .int (nI (i + 1))), (5, .int (nI 1)), (6, .int (nI 0)), (7, .int (nI (p u)))]) hc (by decide) [1, 2, 3, 4, 5, 6, 0, 7] rfl rfl dX5_riffle_158 (n := 160) rfl ?_
            refine g_goto (n := 55) hc dX5_riffle_160 (by decide) ?_
            refine g_iload hc 6 rfl dX5_riffle_55 (n := 57) rfl ?_
            refine n_if_eq hc (by omega) dX5_riffle_57 (tgt := 163) (by decide) (n := 60) rfl (fun c_49 => ?_) (fun c_49 => by (exfalso; revert c_49; first | omega | decide))
            refine g_goto (n := 16) hc dX5_riffle_163 (by decide) ?_
            refine g_lsub (lv' := [(0, .ref (m 0)), (1, .int (nI (u + 1))), (2, .int (nI (spl (z 326)))), (3, .int (nI (l + 0))), (4, .int (nI (i + 1)))]) [0, 1, 2, 3, 4] rfl ?_
            exact L_27 (i + 1) (u + 1) (l + 0) X 1 (b (p u)) (va_up g i (p u)) (by omega) (hX) (by omega) (by omega) (by omega) (hnx) (hg2) (fun h1 h2 => (by omega)) (by omega)
          · skip
            refine g_goto (n := 153) hc dX5_riffle_144 (by decide) ?_
            refine g_iconst (v := nI 1) hc (by decide) dX5_riffle_153 (n := 154) rfl ?_
            refine g_goto (n := 158) hc dX5_riffle_154 (by decide) ?_
            refine g_istore (lv2 := [(0, .ref (m 0)), (1, .int (nI (u + 1))), (2, .int (nI (spl (z 326)))), (3, .int (nI (l + 0))), (4, .int (nI (i + 1))), (5, .int (nI 1)), (6, .int (nI 1)), (7, .int (nI (p u)))]) hc (by decide) [1, 2, 3, 4, 5, 6, 0, 7] rfl rfl dX5_riffle_158 (n := 160) rfl ?_
            refine g_goto (n := 55) hc dX5_riffle_160 (by decide) ?_
            refine g_iload hc 6 rfl dX5_riffle_55 (n := 57) rfl ?_
            refine n_if_eq hc (by omega) dX5_riffle_57 (tgt := 163) (by decide) (n := 60) rfl (fun c_50 => by (exfalso; revert c_50; first | omega | decide)) (fun c_50 => ?_)
            have hnx2 : rsn p b (spl (z 326)) (nx (z 326)) (i + 1 + 1) = (X, (u + 1) + 1, (l + 0) + (1 - 1), 1, b (p (if 1 = 1 then u + 1 else l + 0))) := by rw [rsn, hnx]; unfold rst; dsimp only; rw [if_neg (by omega), if_neg (by omega), if_neg (by omega), if_pos rfl]; rfl
            refine g_lsub (lv' := [(0, .ref (m 0)), (1, .int (nI (u + 1))), (2, .int (nI (spl (z 326)))), (3, .int (nI (l + 0))), (4, .int (nI (i + 1))), (5, .int (nI 1))]) [0, 1, 2, 3, 4, 5] rfl ?_
            exact ih_25 (i + 1) (u + 1) (l + 0) 1 X X 1 (b (p u)) (va_up g i (p u)) (by omega) (hX) (by omega) (by omega) (by omega) (hnx) (by decide) (hnx2) (hg2) (by omega)
  refine g_iconst (v := nI 0) hc (by decide) dX5_riffle_13 (n := 14) rfl ?_
  refine g_istore (lv2 := [(0, .ref (m 0)), (1, .int (nI 0)), (2, .int (nI (spl (z 326)))), (3, .int (nI (spl (z 326)))), (4, .int (nI 0))]) hc (by decide) [1, 2, 3, 4, 0] rfl rfl dX5_riffle_14 (n := 16) rfl ?_
  have L_51 : ∀ (i : Nat) (u : Nat) (l : Nat) (X : Nat) (f : Nat) (t : Nat) (g : Nat → Nat), (i ≤ 52) → (X < 2 ^ 31) → (u ≤ spl (z 326)) → (spl (z 326) ≤ l ∧ l ≤ 52) → (u + l = spl (z 326) + i) → (rsn p b (spl (z 326)) (nx (z 326)) i = (X, u, l, f, t)) → (∀ k, k < i → g k = rfp b p (z 326) k) → (u < spl (z 326) → l < 52 → t = 0) → G κ Γ A 8 0 0 Q [(m 7, aI κ 52 g), (m 0, .inr (5, [.ref (m 1), .ref (m 2), .ref (m 3), .int (nI n), .ref (m 4), .ref (m 5), .ref (m 6), .int (nI ln), .ref (m 7), .ref (m 8)])), (m 1, aI κ 333 (va_up z 326 X))] 16 [(0, .ref (m 0)), (1, .int (nI u)), (2, .int (nI (spl (z 326)))), (3, .int (nI l)), (4, .int (nI i))] [] := by
    intro i u l X f t g hi hX hu hl hul hst hg hq
    refine g_iload_n hc 1 rfl rfl dX5_riffle_16 (n := 17) rfl ?_
    refine g_iload_n hc 2 rfl rfl dX5_riffle_17 (n := 18) rfl ?_
    refine n_icmp_ge hc (by omega) (by omega) dX5_riffle_18 (tgt := 166) (by decide) (n := 21) rfl (fun c_52 => ?_) (fun c_52 => ?_)
    · skip
      exact L_1 _ i u l X f t g (by omega) (hX) (by omega) (by omega) (by omega) (hst) (hg) (by omega) (Nat.lt_succ_self _)
    · skip
      refine g_iload_n hc 3 rfl rfl dX5_riffle_21 (n := 22) rfl ?_
      refine g_bipush (v := nI 52) hc (by decide) dX5_riffle_22 (n := 24) rfl ?_
      refine n_icmp_ge hc (by omega) (by omega) dX5_riffle_24 (tgt := 166) (by decide) (n := 27) rfl (fun c_53 => ?_) (fun c_53 => ?_)
      · skip
        exact L_1 _ i u l X f t g (by omega) (hX) (by omega) (by omega) (by omega) (hst) (hg) (by omega) (Nat.lt_succ_self _)
      · skip
        refine g_aload_n hc 0 rfl rfl dX5_riffle_27 (n := 28) rfl ?_
        refine g_iload_n hc 2 rfl rfl dX5_riffle_28 (n := 29) rfl ?_
        refine g_iload_n hc 1 rfl rfl dX5_riffle_29 (n := 30) rfl ?_
        refine n_isub (v := (spl (z 326)) - u) hc (by omega) rfl dX5_riffle_30 (n := 31) rfl ?_
        refine g_bipush (v := nI 52) hc (by decide) dX5_riffle_31 (n := 33) rfl ?_
        refine n_iadd (v := ((spl (z 326)) - u) + 52) hc rfl dX5_riffle_33 (n := 34) rfl ?_
        refine g_iload_n hc 3 rfl rfl dX5_riffle_34 (n := 35) rfl ?_
        refine n_isub (v := (((spl (z 326)) - u) + 52) - l) hc (by omega) rfl dX5_riffle_35 (n := 36) rfl ?_
        refine g_callV (rest := []) (As := [.int (nI ((((spl (z 326)) - u) + 52) - l))]) (cells' := 0) (slots' := 0) hc (c_X5_draw κ _ m n ln (va_up z 326 X) ((((spl (z 326)) - u) + 52) - l) (by rw [va_up_self]; exact hX) (by omega) (by omega)) q_X5_draw k_ml_RX5_57 rfl rfl (jn_ix (wr := [(m 7, aI κ 52 g)]) [1, 2] [0] rfl rfl rfl rfl (by decide)) (qr := 1) rfl vw_5 ⟨⟨by decide, by decide⟩, by decide, by decide⟩ (Nat.le_of_ble_eq_true rfl) rfl rfl dX5_riffle_36 (n := 39) rfl (fun vv ww hp => ?_)
        obtain ⟨rr, rfl, rfl, rfl⟩ := hp
        refine ⟨_, rfl, ?_⟩
        refine g_ws (ws' := [(m 7, aI κ 52 g), (m 0, .inr (5, [.ref (m 1), .ref (m 2), .ref (m 3), .int (nI n), .ref (m 4), .ref (m 5), .ref (m 6), .int (nI ln), .ref (m 7), .ref (m 8)])), (m 1, aI κ 333 (va_up (va_up z 326 X) 326 (nx ((va_up z 326 X) 326))))]) rfl ?_
        refine g_st (st' := [.int (nI (dv (nx ((va_up z 326 X) 326)) ((((spl (z 326)) - u) + 52) - l)))]) rfl ?_
        refine g_ws (ws' := [(m 7, aI κ 52 g), (m 0, .inr (5, [.ref (m 1), .ref (m 2), .ref (m 3), .int (nI n), .ref (m 4), .ref (m 5), .ref (m 6), .int (nI ln), .ref (m 7), .ref (m 8)])), (m 1, aI κ 333 (va_up z 326 (nx X)))]) (by rw [drw]) ?_
        refine g_st (st' := [.int (nI (dv (nx X) ((((spl (z 326)) - u) + 52) - l)))]) (by rw [va_up_self]) ?_
        have hdv := dv_lt (nx X) (b := (((spl (z 326)) - u) + 52) - l) (by omega)
        have hnX := nx_lt X
        refine g_iload_n hc 2 rfl rfl dX5_riffle_39 (n := 40) rfl ?_
        refine g_iload_n hc 1 rfl rfl dX5_riffle_40 (n := 41) rfl ?_
        refine n_isub (v := (spl (z 326)) - u) hc (by omega) rfl dX5_riffle_41 (n := 42) rfl ?_
        refine n_icmp_ge hc (by omega) (by omega) dX5_riffle_42 (tgt := 49) (by decide) (n := 45) rfl (fun c_54 => ?_) (fun c_54 => ?_)
        · skip
          refine g_iconst (v := nI 0) hc (by decide) dX5_riffle_49 (n := 50) rfl ?_
          refine g_istore (lv2 := [(0, .ref (m 0)), (1, .int (nI u)), (2, .int (nI (spl (z 326)))), (3, .int (nI l)), (4, .int (nI i)), (5, .int (nI 0))]) hc (by decide) [1, 2, 3, 4, 5, 0] rfl rfl dX5_riffle_50 (n := 52) rfl ?_
          refine g_iconst (v := nI 1) hc (by decide) dX5_riffle_52 (n := 53) rfl ?_
          refine g_istore (lv2 := [(0, .ref (m 0)), (1, .int (nI u)), (2, .int (nI (spl (z 326)))), (3, .int (nI l)), (4, .int (nI i)), (5, .int (nI 0)), (6, .int (nI 1))]) hc (by decide) [1, 2, 3, 4, 5, 6, 0] rfl rfl dX5_riffle_53 (n := 55) rfl ?_
          refine g_iload hc 6 rfl dX5_riffle_55 (n := 57) rfl ?_
          refine n_if_eq hc (by omega) dX5_riffle_57 (tgt := 163) (by decide) (n := 60) rfl (fun c_55 => by (exfalso; revert c_55; first | omega | decide)) (fun c_55 => ?_)
          have hnx : rsn p b (spl (z 326)) (nx (z 326)) (i + 1) = (nx X, u + 0, l + (1 - 0), 0, b (p (if 0 = 1 then u else l))) := by rw [rsn, hst, hq (by assumption) (by assumption)]; unfold rst; dsimp only; rw [if_neg (by omega), if_neg (by omega), if_pos rfl, if_neg (by omega)]; rfl
          refine g_lsub (lv' := [(0, .ref (m 0)), (1, .int (nI u)), (2, .int (nI (spl (z 326)))), (3, .int (nI l)), (4, .int (nI i)), (5, .int (nI 0))]) [0, 1, 2, 3, 4, 5] rfl ?_
          exact L_24 _ i u l 0 (nx X) X f t g (by omega) (hnX) (by omega) (by omega) (by omega) (hst) (by decide) (hnx) (hg) (Nat.lt_succ_self _)
        · skip
          refine g_iconst (v := nI 1) hc (by decide) dX5_riffle_45 (n := 46) rfl ?_
          refine g_goto (n := 50) hc dX5_riffle_46 (by decide) ?_
          refine g_istore (lv2 := [(0, .ref (m 0)), (1, .int (nI u)), (2, .int (nI (spl (z 326)))), (3, .int (nI l)), (4, .int (nI i)), (5, .int (nI 1))]) hc (by decide) [1, 2, 3, 4, 5, 0] rfl rfl dX5_riffle_50 (n := 52) rfl ?_
          refine g_iconst (v := nI 1) hc (by decide) dX5_riffle_52 (n := 53) rfl ?_
          refine g_istore (lv2 := [(0, .ref (m 0)), (1, .int (nI u)), (2, .int (nI (spl (z 326)))), (3, .int (nI l)), (4, .int (nI i)), (5, .int (nI 1)), (6, .int (nI 1))]) hc (by decide) [1, 2, 3, 4, 5, 6, 0] rfl rfl dX5_riffle_53 (n := 55) rfl ?_
          refine g_iload hc 6 rfl dX5_riffle_55 (n := 57) rfl ?_
          refine n_if_eq hc (by omega) dX5_riffle_57 (tgt := 163) (by decide) (n := 60) rfl (fun c_56 => by (exfalso; revert c_56; first | omega | decide)) (fun c_56 => ?_)
          have hnx : rsn p b (spl (z 326)) (nx (z 326)) (i + 1) = (nx X, u + 1, l + (1 - 1), 1, b (p (if 1 = 1 then u else l))) := by rw [rsn, hst, hq (by assumption) (by assumption)]; unfold rst; dsimp only; rw [if_neg (by omega), if_neg (by omega), if_pos rfl, if_pos (by omega)]; rfl
          refine g_lsub (lv' := [(0, .ref (m 0)), (1, .int (nI u)), (2, .int (nI (spl (z 326)))), (3, .int (nI l)), (4, .int (nI i)), (5, .int (nI 1))]) [0, 1, 2, 3, 4, 5] rfl ?_
          exact L_24 _ i u l 1 (nx X) X f t g (by omega) (hnX) (by omega) (by omega) (by omega) (hst) (by decide) (hnx) (hg) (Nat.lt_succ_self _)
  exact L_51 0 0 (spl (z 326)) (nx (z 326)) 0 0 r0 (Nat.zero_le _) (nx_lt _) (Nat.zero_le _) (⟨Nat.le_refl _, spl_52 _⟩) (by omega) (rfl) (fun k hk => absurd hk (Nat.not_lt_zero _)) (fun _ _ => rfl)
