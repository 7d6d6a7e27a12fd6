set_option maxHeartbeats 1000000 in
set_option maxRecDepth 100000 in
theorem c_L_cell (κ : Kp) (l : Launch) (k : Nat) (hk : k < 200) : CT κ l yL_cell cL_cell 2 (some .int) 0 0 0 0 [.ref (κ.2.2 3), .int (nI k)] [] (PI (fun rr ww => rr = (cl κ k) ∧ ww = [])) := by
  refine CT.go (by decide +kernel) (Nat.le_of_ble_eq_true rfl) ?_
  intro Γ A Q hl hc hret
  subst hl
  have hc : Cx κ Γ A cL_cell 2 RL "cell" (some .int) { frames := 0, cells := 0, slots := 0, locals := 0 } := hc
  refine g_lv (lv' := [(0, .ref (κ.2.2 3)), (1, .int (nI k))]) rfl ?_
  have hL := hc.en.2.2.2.2
  refine g_iload_n hc 1 rfl rfl dL_cell_0 (n := 1) rfl ?_
  refine g_aload_n hc 0 rfl rfl dL_cell_1 (n := 2) rfl ?_
  refine g_tlen hc hc.en.2.2.2.1 dL_cell_2 (n := 3) rfl ?_
  refine n_icmp_ge hc (by omega) (by omega) dL_cell_3 (tgt := 12) (by decide) (n := 6) rfl (fun c_1 => ?_) (fun c_1 => ?_)
  · skip
    refine g_ldc (v2 := nI 3516065817) hc k_kc_RL_7 (by decide) dL_cell_12 (n := 14) rfl ?_
    refine g_iload_n hc 1 rfl rfl dL_cell_14 (n := 15) rfl ?_
    refine g_iconst (v := nI 1) hc (by decide) dL_cell_15 (n := 16) rfl ?_
    refine n_iadd (v := k + 1) hc rfl dL_cell_16 (n := 17) rfl ?_
    refine n_imul (v := 3516065817 * (k + 1)) hc rfl dL_cell_17 (n := 18) rfl ?_
    refine hret.1 _ _ _ _ _ _ rfl (by decide) (by decide) dL_cell_18 ?_
    exact ⟨_, rfl, (by unfold cl; rw [if_neg (by omega)]), rfl⟩
  · skip
    refine g_aload_n hc 0 rfl rfl dL_cell_6 (n := 7) rfl ?_
    refine g_iload_n hc 1 rfl rfl dL_cell_7 (n := 8) rfl ?_
    refine g_tld (v := .int (nI (κ.2.2 (5 + k)))) hc hc.en.2.2.2.1 (k := k) (by omega) (by omega) rfl dL_cell_8 (n := 9) rfl ?_
    refine g_goto (n := 18) hc dL_cell_9 (by decide) ?_
    refine hret.1 _ _ _ _ _ _ rfl (by decide) (by decide) dL_cell_18 ?_
    exact ⟨_, rfl, (by unfold cl; rw [if_pos (by omega)]), rfl⟩
set_option maxHeartbeats 1000000 in
set_option maxRecDepth 100000 in
theorem c_L_low (κ : Kp) (l : Launch) (x : Int32) (m : Nat) (hm : 0 < m) (hm2 : m < 2 ^ 31) : CT κ l yL_low cL_low 2 (some .int) 0 0 0 0 [.int x, .int (nI m)] [] (PI (fun rr ww => rr = (nI (lw x % m)) ∧ ww = [])) := by
  refine CT.go (by decide +kernel) (Nat.le_of_ble_eq_true rfl) ?_
  intro Γ A Q hl hc hret
  subst hl
  have hc : Cx κ Γ A cL_low 2 RL "low" (some .int) { frames := 0, cells := 0, slots := 0, locals := 0 } := hc
  refine g_lv (lv' := [(0, .int x), (1, .int (nI m))]) rfl ?_
  have hlw := lw_lt x
  refine g_iload_n hc 0 rfl rfl dL_low_0 (n := 1) rfl ?_
  refine g_ldc (v2 := nI 2147483647) hc k_kc_RL_8 (by decide) dL_low_1 (n := 3) rfl ?_
  refine g_iand (v := (nI (lw x))) hc (lw_e x) dL_low_3 (n := 4) rfl ?_
  refine g_iload_n hc 1 rfl rfl dL_low_4 (n := 5) rfl ?_
  refine n_irem (v := (lw x) % m) hc (by omega) (by omega) (by omega) rfl dL_low_5 (n := 6) rfl ?_
  refine hret.1 _ _ _ _ _ _ rfl (by decide) (by decide) dL_low_6 ?_
  exact ⟨_, rfl, rfl, rfl⟩
set_option maxHeartbeats 1000000 in
set_option maxRecDepth 100000 in
theorem c_L_draw (κ : Kp) (l : Launch) (g0 : Nat) (m : Nat) (gf : Nat → Nat) (hx : gf 2 < 2 ^ 31) (hm : 0 < m) (hm2 : m < 2 ^ 31) : CT κ l yL_draw cL_draw 4 (some .int) 0 0 0 0 [.ref g0, .int (nI m)] [(g0, aI κ 9 gf)] (PI (fun rr ww => rr = (nI (dv (nx (gf 2)) m)) ∧ ww = [(g0, aI κ 9 (va_up gf 2 (nx (gf 2))))])) := by
  refine CT.go (by decide +kernel) (Nat.le_of_ble_eq_true rfl) ?_
  intro Γ A Q hl hc hret
  subst hl
  have hc : Cx κ Γ A cL_draw 4 RL "draw" (some .int) { frames := 0, cells := 0, slots := 0, locals := 0 } := hc
  refine g_lv (lv' := [(0, .ref g0), (1, .int (nI m))]) rfl ?_
  have hnx := nx_lt (gf 2)
  refine g_aload_n hc 0 rfl rfl dL_draw_0 (n := 1) rfl ?_
  refine g_iconst (v := nI 2) hc (by decide) dL_draw_1 (n := 2) rfl ?_
  refine n_iald (v := gf 2) hc 0 rfl (by omega) (by decide) rfl dL_draw_2 (n := 3) rfl ?_
  refine n_i2l hc (by omega) dL_draw_3 (n := 4) rfl ?_
  refine g_ldc2 (v2 := lN 1103515245) hc k_kc_RL_9 (by decide) dL_draw_4 (n := 7) rfl ?_
  refine n_lmul (v := (gf 2) * 1103515245) hc rfl dL_draw_7 (n := 8) rfl ?_
  refine g_ldc2 (v2 := lN 12345) hc k_kc_RL_11 (by decide) dL_draw_8 (n := 11) rfl ?_
  refine n_ladd (v := ((gf 2) * 1103515245) + 12345) hc rfl dL_draw_11 (n := 12) rfl ?_
  refine g_lstore_n (lv2 := [(0, .ref g0), (1, .int (nI m)), (2, .long (lN (((gf 2) * 1103515245) + 12345)))]) hc rfl (by decide) [1, 2, 0] rfl rfl dL_draw_12 (n := 13) rfl ?_
  refine g_aload_n hc 0 rfl rfl dL_draw_13 (n := 14) rfl ?_
  refine g_iconst (v := nI 2) hc (by decide) dL_draw_14 (n := 15) rfl ?_
  refine g_lload_n hc 2 rfl rfl dL_draw_15 (n := 16) rfl ?_
  refine g_ldc2 (v2 := lN 2147483647) hc k_kc_RL_13 (by decide) dL_draw_16 (n := 19) rfl ?_
  refine g_land (v := (lN (nx (gf 2)))) hc (land_nx (gf 2)) dL_draw_19 (n := 20) rfl ?_
  refine n_l2i hc dL_draw_20 (n := 21) rfl ?_
  refine n_iast (ws' := [(g0, aI κ 9 (va_up gf 2 (nx (gf 2))))]) hc 0 rfl (by omega) (by decide) rfl dL_draw_21 (n := 22) rfl ?_
  refine g_aload_n hc 0 rfl rfl dL_draw_22 (n := 23) rfl ?_
  refine g_iconst (v := nI 2) hc (by decide) dL_draw_23 (n := 24) rfl ?_
  refine n_iald (v := nx (gf 2)) hc 0 rfl (by omega) (by decide) (va_up_self _ _ _) dL_draw_24 (n := 25) rfl ?_
  refine g_bipush (v := nI 16) hc (by decide) dL_draw_25 (n := 27) rfl ?_
  refine g_ishr (v := (nI (nx (gf 2) / 65536))) hc (shr16 hnx) dL_draw_27 (n := 28) rfl ?_
  refine g_iload_n hc 1 rfl rfl dL_draw_28 (n := 29) rfl ?_
  refine n_irem (v := (nx (gf 2) / 65536) % m) hc (by omega) (by omega) (by omega) rfl dL_draw_29 (n := 30) rfl ?_
  refine hret.1 _ _ _ _ _ _ rfl (by decide) (by decide) dL_draw_30 ?_
  exact ⟨_, rfl, rfl, rfl⟩
set_option maxHeartbeats 1000000 in
set_option maxRecDepth 100000 in
theorem c_L_copy52 (κ : Kp) (l : Launch) (f0 : Nat) (t0 : Nat) (pf : Nat → Nat) (tf : Nat → Nat)  : CT κ l yL_copy cL_copy 3 none 0 0 0 0 [.ref f0, .ref t0] [(f0, aI κ 52 pf), (t0, aI κ 52 tf)] (PV (fun ww => ww = [(f0, aI κ 52 pf), (t0, aI κ 52 pf)])) := by
  refine CT.go (by decide +kernel) (Nat.le_of_ble_eq_true rfl) ?_
  intro Γ A Q hl hc hret
  subst hl
  have hc : Cx κ Γ A cL_copy 3 RL "copy" none { frames := 0, cells := 0, slots := 0, locals := 0 } := hc
  refine g_lv (lv' := [(0, .ref f0), (1, .ref t0)]) rfl ?_
  refine g_iconst (v := nI 0) hc (by decide) dL_copy_0 (n := 1) rfl ?_
  refine g_istore_n (lv2 := [(0, .ref f0), (1, .ref t0), (2, .int (nI 0))]) hc rfl (by decide) [1, 2, 0] rfl rfl dL_copy_1 (n := 2) rfl ?_
  have L_1 : ∀ (fuel : Nat) (i : Nat) (g : Nat → Nat), (i ≤ 52) → (∀ k, k < i → g k = pf k) → 52 - i < fuel → G κ Γ A 3 0 0 Q [(f0, aI κ 52 pf), (t0, aI κ 52 g)] 2 [(0, .ref f0), (1, .ref t0), (2, .int (nI i))] [] := by
    intro fuel
    induction fuel with
    | zero => intro i g hi hg h; exact absurd h (Nat.not_lt_zero _)
    | succ fuel ih_2 =>
      intro i g hi hg hn_3
      refine g_iload_n hc 2 rfl rfl dL_copy_2 (n := 3) rfl ?_
      refine g_aload_n hc 0 rfl rfl dL_copy_3 (n := 4) rfl ?_
      refine n_alen hc 0 0 rfl rfl dL_copy_4 (n := 5) rfl ?_
      refine n_icmp_ge hc (by omega) (by omega) dL_copy_5 (tgt := 20) (by decide) (n := 8) rfl (fun c_4 => ?_) (fun c_4 => ?_)
      · skip
        refine g_arr (ws' := [(f0, aI κ 52 pf), (t0, aI κ 52 pf)]) (f := g) (g := pf) 1 rfl (fun k hk => hg k (by omega)) rfl ?_
        refine hret.2.2.1 _ _ _ _ _ rfl (by decide) (by decide) dL_copy_20 ?_
        exact ⟨rfl, rfl⟩
      · skip
        refine g_aload_n hc 1 rfl rfl dL_copy_8 (n := 9) rfl ?_
        refine g_iload_n hc 2 rfl rfl dL_copy_9 (n := 10) rfl ?_
        refine g_aload_n hc 0 rfl rfl dL_copy_10 (n := 11) rfl ?_
        refine g_iload_n hc 2 rfl rfl dL_copy_11 (n := 12) rfl ?_
        refine n_iald (v := pf i) hc 0 rfl (by omega) (by decide) rfl dL_copy_12 (n := 13) rfl ?_
        refine n_iast (ws' := [(f0, aI κ 52 pf), (t0, aI κ 52 (va_up g i (pf i)))]) hc 1 rfl (by omega) (by decide) rfl dL_copy_13 (n := 14) rfl ?_
        refine n_iinc (v := i + 1) (zk := 1) (lv2 := [(0, .ref f0), (1, .ref t0), (2, .int (nI (i + 1)))]) hc 2 rfl (by decide) rfl (by decide) [1, 2, 0] rfl rfl dL_copy_14 (n := 17) rfl ?_
        refine g_goto (n := 2) hc dL_copy_17 (by decide) ?_
        exact ih_2 (i + 1) (va_up g i (pf i)) (by omega) (fun k hk => (Nat.lt_succ_iff_lt_or_eq.mp hk).elim (fun q => (va_up_ne _ _ (by omega)).trans (hg k q)) (fun q => by subst q; exact va_up_self _ _ _)) (by omega)
  exact L_1 _ 0 tf (by omega) (fun k hk => absurd hk (Nat.not_lt_zero _)) (Nat.lt_succ_self _)
set_option maxHeartbeats 1000000 in
set_option maxRecDepth 100000 in
theorem c_L_copy9 (κ : Kp) (l : Launch) (f0 : Nat) (t0 : Nat) (pf : Nat → Nat) (tf : Nat → Nat)  : CT κ l yL_copy cL_copy 3 none 0 0 0 0 [.ref f0, .ref t0] [(f0, aI κ 9 pf), (t0, aI κ 9 tf)] (PV (fun ww => ww = [(f0, aI κ 9 pf), (t0, aI κ 9 pf)])) := by
  refine CT.go (by decide +kernel) (Nat.le_of_ble_eq_true rfl) ?_
  intro Γ A Q hl hc hret
  subst hl
  have hc : Cx κ Γ A cL_copy 3 RL "copy" none { frames := 0, cells := 0, slots := 0, locals := 0 } := hc
  refine g_lv (lv' := [(0, .ref f0), (1, .ref t0)]) rfl ?_
  refine g_iconst (v := nI 0) hc (by decide) dL_copy_0 (n := 1) rfl ?_
  refine g_istore_n (lv2 := [(0, .ref f0), (1, .ref t0), (2, .int (nI 0))]) hc rfl (by decide) [1, 2, 0] rfl rfl dL_copy_1 (n := 2) rfl ?_
  have L_1 : ∀ (fuel : Nat) (i : Nat) (g : Nat → Nat), (i ≤ 9) → (∀ k, k < i → g k = pf k) → 9 - i < fuel → G κ Γ A 3 0 0 Q [(f0, aI κ 9 pf), (t0, aI κ 9 g)] 2 [(0, .ref f0), (1, .ref t0), (2, .int (nI i))] [] := by
    intro fuel
    induction fuel with
    | zero => intro i g hi hg h; exact absurd h (Nat.not_lt_zero _)
    | succ fuel ih_2 =>
      intro i g hi hg hn_3
      refine g_iload_n hc 2 rfl rfl dL_copy_2 (n := 3) rfl ?_
      refine g_aload_n hc 0 rfl rfl dL_copy_3 (n := 4) rfl ?_
      refine n_alen hc 0 0 rfl rfl dL_copy_4 (n := 5) rfl ?_
      refine n_icmp_ge hc (by omega) (by omega) dL_copy_5 (tgt := 20) (by decide) (n := 8) rfl (fun c_4 => ?_) (fun c_4 => ?_)
      · skip
        refine g_arr (ws' := [(f0, aI κ 9 pf), (t0, aI κ 9 pf)]) (f := g) (g := pf) 1 rfl (fun k hk => hg k (by omega)) rfl ?_
        refine hret.2.2.1 _ _ _ _ _ rfl (by decide) (by decide) dL_copy_20 ?_
        exact ⟨rfl, rfl⟩
      · skip
        refine g_aload_n hc 1 rfl rfl dL_copy_8 (n := 9) rfl ?_
        refine g_iload_n hc 2 rfl rfl dL_copy_9 (n := 10) rfl ?_
        refine g_aload_n hc 0 rfl rfl dL_copy_10 (n := 11) rfl ?_
        refine g_iload_n hc 2 rfl rfl dL_copy_11 (n := 12) rfl ?_
        refine n_iald (v := pf i) hc 0 rfl (by omega) (by decide) rfl dL_copy_12 (n := 13) rfl ?_
        refine n_iast (ws' := [(f0, aI κ 9 pf), (t0, aI κ 9 (va_up g i (pf i)))]) hc 1 rfl (by omega) (by decide) rfl dL_copy_13 (n := 14) rfl ?_
        refine n_iinc (v := i + 1) (zk := 1) (lv2 := [(0, .ref f0), (1, .ref t0), (2, .int (nI (i + 1)))]) hc 2 rfl (by decide) rfl (by decide) [1, 2, 0] rfl rfl dL_copy_14 (n := 17) rfl ?_
        refine g_goto (n := 2) hc dL_copy_17 (by decide) ?_
        exact ih_2 (i + 1) (va_up g i (pf i)) (by omega) (fun k hk => (Nat.lt_succ_iff_lt_or_eq.mp hk).elim (fun q => (va_up_ne _ _ (by omega)).trans (hg k q)) (fun q => by subst q; exact va_up_self _ _ _)) (by omega)
  exact L_1 _ 0 tf (by omega) (fun k hk => absurd hk (Nat.not_lt_zero _)) (Nat.lt_succ_self _)
set_option maxHeartbeats 1000000 in
set_option maxRecDepth 100000 in
theorem c_L_riffle (κ : Kp) (l : Launch) (p0 : Nat) (b0 : Nat) (g0 : Nat) (w0 : Nat) (fx : Int32) (pf : Nat → Nat) (bf : Nat → Nat) (gf : Nat → Nat) (wf : Nat → Nat) (bb : Nat → Nat) (hp : Perm pf) (hx : gf 2 < 2 ^ 31) (hb : ∀ k, k < 52 → bf k ≤ 1) (hbb : Bb bf bb fx) : CT κ l yL_riffle cL_riffle 11 none 1 23 0 0 [.ref p0, .ref b0, .ref g0, .int fx, .ref w0] [(p0, aI κ 52 pf), (b0, aI κ 52 bf), (g0, aI κ 9 gf), (w0, aI κ 52 wf)] (PV (fun ww => ww = [(p0, aI κ 52 (rfp bb pf (gf 2))), (b0, aI κ 52 bf), (g0, aI κ 9 (va_up gf 2 (rfx bb pf (gf 2)))), (w0, aI κ 52 pf)])) := by
  refine CT.go (by decide +kernel) (Nat.le_of_ble_eq_true rfl) ?_
  intro Γ A Q hl hc hret
  subst hl
  have hc : Cx κ Γ A cL_riffle 11 RL "riffle" none { frames := 1, cells := 0, slots := 0, locals := 23 } := hc
  refine g_lv (lv' := [(0, .ref p0), (1, .ref b0), (2, .ref g0), (3, .int fx), (4, .ref w0)]) rfl ?_
  refine g_aload_n hc 0 rfl rfl dL_riffle_0 (n := 1) rfl ?_
  refine g_aload hc 4 rfl dL_riffle_1 (n := 3) rfl ?_
  refine g_callS (rest := []) (As := [.ref p0, .ref w0]) (cells' := 0) (slots' := 0) hc (c_L_copy52 κ _ p0 w0 pf wf ) q_L_copy k_ml_RL_15 rfl rfl (jn_ix (wr := [(b0, aI κ 52 bf), (g0, aI κ 9 gf)]) [0, 3] [1, 2] rfl rfl rfl rfl (by decide)) ⟨⟨by decide, by decide⟩, by decide, by decide⟩ (Nat.le_of_ble_eq_true rfl) rfl rfl dL_riffle_3 (n := 6) rfl (fun vv ww hp => ?_)
  obtain ⟨rfl, rfl⟩ := hp
  refine ⟨_, rfl, ?_⟩
  refine g_ws (ws' := [(b0, aI κ 52 bf), (g0, aI κ 9 gf), (p0, aI κ 52 pf), (w0, aI κ 52 pf)]) rfl ?_
  refine g_st (st' := []) rfl ?_
  refine g_bipush (v := nI 24) hc (by decide) dL_riffle_6 (n := 8) rfl ?_
  refine g_aload_n hc 2 rfl rfl dL_riffle_8 (n := 9) rfl ?_
  refine g_iconst (v := nI 5) hc (by decide) dL_riffle_9 (n := 10) rfl ?_
  refine g_callS (rest := [.int (nI 24)]) (As := [.ref g0, .int (nI 5)]) (cells' := 0) (slots' := 0) hc (c_L_draw κ _ g0 5 gf hx (by decide) (by decide)) q_L_draw k_ml_RL_21 rfl rfl (jn_ix (wr := [(b0, aI κ 52 bf), (p0, aI κ 52 pf), (w0, aI κ 52 pf)]) [1] [0, 2, 3] rfl rfl rfl rfl (by decide)) ⟨⟨by decide, by decide⟩, by decide, by decide⟩ (Nat.le_of_ble_eq_true rfl) rfl rfl dL_riffle_10 (n := 13) rfl (fun vv ww hp => ?_)
  obtain ⟨rr, rfl, rfl, rfl⟩ := hp
  refine ⟨_, rfl, ?_⟩
  refine g_ws (ws' := [(b0, aI κ 52 bf), (p0, aI κ 52 pf), (w0, aI κ 52 pf), (g0, aI κ 9 (va_up gf 2 (nx (gf 2))))]) rfl ?_
  refine g_st (st' := [.int (nI (dv (nx (gf 2)) 5)), .int (nI 24)]) rfl ?_
  have hsp := spl_in (gf 2)
  refine n_iadd (v := 24 + (dv (nx (gf 2)) 5)) hc rfl dL_riffle_13 (n := 14) rfl ?_
  refine g_top (y := nI (spl (gf 2))) rfl ?_
  refine g_istore (lv2 := [(0, .ref p0), (1, .ref b0), (2, .ref g0), (3, .int fx), (4, .ref w0), (5, .int (nI (spl (gf 2))))]) hc (by decide) [1, 2, 3, 4, 5, 0] rfl rfl dL_riffle_14 (n := 16) rfl ?_
  refine g_iload hc 5 rfl dL_riffle_16 (n := 18) rfl ?_
  refine g_istore (lv2 := [(0, .ref p0), (1, .ref b0), (2, .ref g0), (3, .int fx), (4, .ref w0), (5, .int (nI (spl (gf 2)))), (6, .int (nI (spl (gf 2))))]) hc (by decide) [1, 2, 3, 4, 5, 6, 0] rfl rfl dL_riffle_18 (n := 20) rfl ?_
  refine g_bipush (v := nI 52) hc (by decide) dL_riffle_20 (n := 22) rfl ?_
  refine g_iload hc 5 rfl dL_riffle_22 (n := 24) rfl ?_
  refine n_isub (v := 52 - (spl (gf 2))) hc (by omega) rfl dL_riffle_24 (n := 25) rfl ?_
  refine g_istore (lv2 := [(0, .ref p0), (1, .ref b0), (2, .ref g0), (3, .int fx), (4, .ref w0), (5, .int (nI (spl (gf 2)))), (6, .int (nI (spl (gf 2)))), (7, .int (nI (52 - (spl (gf 2)))))]) hc (by decide) [1, 2, 3, 4, 5, 6, 7, 0] rfl rfl dL_riffle_25 (n := 27) rfl ?_
  refine g_iconst (v := nI 0) hc (by decide) dL_riffle_27 (n := 28) rfl ?_
  refine g_istore (lv2 := [(0, .ref p0), (1, .ref b0), (2, .ref g0), (3, .int fx), (4, .ref w0), (5, .int (nI (spl (gf 2)))), (6, .int (nI (spl (gf 2)))), (7, .int (nI (52 - (spl (gf 2))))), (8, .int (nI 0))]) hc (by decide) [1, 2, 3, 4, 5, 6, 7, 8, 0] rfl rfl dL_riffle_28 (n := 30) rfl ?_
  have L_1 : ∀ (fuel : Nat) (i : Nat) (u : Nat) (l : Nat) (X : Nat) (pp : Nat → Nat), (Rq pf bb (spl (gf 2)) (nx (gf 2)) i u l) → (Rt pf bb (spl (gf 2)) (nx (gf 2)) i X u l) → (X < 2 ^ 31) → (∀ k, k < i → pp k = rcd pf bb (spl (gf 2)) (nx (gf 2)) k) → u + l < fuel → G κ Γ A 11 0 0 Q [(b0, aI κ 52 bf), (p0, aI κ 52 pp), (w0, aI κ 52 pf), (g0, aI κ 9 (va_up gf 2 X))] 30 [(0, .ref p0), (1, .ref b0), (2, .ref g0), (3, .int fx), (4, .ref w0), (5, .int (nI (spl (gf 2)))), (6, .int (nI u)), (7, .int (nI l)), (8, .int (nI i))] [] := by
    intro fuel
    induction fuel with
    | zero => intro i u l X pp hq ht hX hg h; exact absurd h (Nat.not_lt_zero _)
    | succ fuel ih_2 =>
      intro i u l X pp hq ht hX hg hn_3
      obtain ⟨o1, o2, o3, o4, o5, o6⟩ := id hq
      refine g_iload hc 6 rfl dL_riffle_30 (n := 32) rfl ?_
      refine n_if_le hc (by omega) dL_riffle_32 (tgt := 176) (by decide) (n := 35) rfl (fun c_4 => ?_) (fun c_4 => ?_)
      · skip
        have L_5 : ∀ (fuel : Nat) (i2 : Nat) (u2 : Nat) (l2 : Nat) (p2 : Nat → Nat), (Rq pf bb (spl (gf 2)) (nx (gf 2)) i2 u2 l2) → ((rsn pf bb (spl (gf 2)) (nx (gf 2)) i2).1 = X) → (u2 = 0 ∨ l2 = 0) → (∀ k, k < i2 → p2 k = rcd pf bb (spl (gf 2)) (nx (gf 2)) k) → u2 < fuel → G κ Γ A 11 0 0 Q [(b0, aI κ 52 bf), (p0, aI κ 52 p2), (w0, aI κ 52 pf), (g0, aI κ 9 (va_up gf 2 X))] 176 [(0, .ref p0), (1, .ref b0), (2, .ref g0), (3, .int fx), (4, .ref w0), (5, .int (nI (spl (gf 2)))), (6, .int (nI u2)), (7, .int (nI l2)), (8, .int (nI i2))] [] := by
          intro fuel
          induction fuel with
          | zero => intro i2 u2 l2 p2 hq3 hx3 hul hg3 h; exact absurd h (Nat.not_lt_zero _)
          | succ fuel ih_6 =>
            intro i2 u2 l2 p2 hq3 hx3 hul hg3 hn_7
            obtain ⟨b1, b2, b3, b4, b5, b6⟩ := id hq3
            refine g_iload hc 6 rfl dL_riffle_176 (n := 178) rfl ?_
            refine n_if_le hc (by omega) dL_riffle_178 (tgt := 202) (by decide) (n := 181) rfl (fun c_8 => ?_) (fun c_8 => ?_)
            · skip
              have L_9 : ∀ (fuel : Nat) (i3 : Nat) (l3 : Nat) (p3 : Nat → Nat), (Rq pf bb (spl (gf 2)) (nx (gf 2)) i3 0 l3) → ((rsn pf bb (spl (gf 2)) (nx (gf 2)) i3).1 = X) → (∀ k, k < i3 → p3 k = rcd pf bb (spl (gf 2)) (nx (gf 2)) k) → l3 < fuel → G κ Γ A 11 0 0 Q [(b0, aI κ 52 bf), (p0, aI κ 52 p3), (w0, aI κ 52 pf), (g0, aI κ 9 (va_up gf 2 X))] 202 [(0, .ref p0), (1, .ref b0), (2, .ref g0), (3, .int fx), (4, .ref w0), (5, .int (nI (spl (gf 2)))), (7, .int (nI l3)), (8, .int (nI i3))] [] := by
                intro fuel
                induction fuel with
                | zero => intro i3 l3 p3 hq5 hx5 hg5 h; exact absurd h (Nat.not_lt_zero _)
                | succ fuel ih_10 =>
                  intro i3 l3 p3 hq5 hx5 hg5 hn_11
                  obtain ⟨d1, d2, d3, d4, d5, d6⟩ := id hq5
                  refine g_iload hc 6 rfl dL_riffle_202 (n := 204) rfl ?_
                  refine n_if_le hc (by omega) dL_riffle_204 (tgt := 228) (by decide) (n := 207) rfl (fun c_12 => ?_) (fun c_12 => ?_)
                  · skip
                    have e9 : i3 = 52 := by omega
                    have ex : X = rfx bb pf (gf 2) := rfx_e e9 hx5
                    refine g_arr (ws' := [(b0, aI κ 52 bf), (p0, aI κ 52 p3), (w0, aI κ 52 pf), (g0, aI κ 9 (va_up gf 2 (rfx bb pf (gf 2))))]) (f := va_up gf 2 X) (g := va_up gf 2 (rfx bb pf (gf 2))) 3 rfl (fun k _ => by rw [ex]) rfl ?_
                    refine g_sub (ws' := [(p0, aI κ 52 p3), (b0, aI κ 52 bf), (g0, aI κ 9 (va_up gf 2 (rfx bb pf (gf 2)))), (w0, aI κ 52 pf)]) [1, 0, 3, 2] rfl rfl ?_
                    refine g_arr (ws' := [(p0, aI κ 52 (rfp bb pf (gf 2))), (b0, aI κ 52 bf), (g0, aI κ 9 (va_up gf 2 (rfx bb pf (gf 2)))), (w0, aI κ 52 pf)]) (f := p3) (g := rfp bb pf (gf 2)) 0 rfl (fun k hk => hg5 k (by omega)) rfl ?_
                    refine hret.2.2.1 _ _ _ _ _ rfl (by decide) (by decide) dL_riffle_228 ?_
                    exact ⟨rfl, rfl⟩
                  · skip
                    have hrn := re_0 hq5 hx5 (by omega)
                    obtain ⟨⟨hq6, hx6, -, -⟩, -, hcd⟩ := ra_0 hq5 hrn
                    refine g_aload_n hc 0 rfl rfl dL_riffle_207 (n := 208) rfl ?_
                    refine g_iload hc 7 rfl dL_riffle_208 (n := 210) rfl ?_
                    refine n_iinc (v := i3 + 1) (zk := 1) (lv2 := [(0, .ref p0), (1, .ref b0), (2, .ref g0), (3, .int fx), (4, .ref w0), (5, .int (nI (spl (gf 2)))), (7, .int (nI l3)), (8, .int (nI (i3 + 1)))]) hc 7 rfl (by decide) rfl (by decide) [1, 2, 3, 4, 5, 6, 7, 0] rfl rfl dL_riffle_210 (n := 213) rfl ?_
                    refine g_aload hc 4 rfl dL_riffle_213 (n := 215) rfl ?_
                    refine g_bipush (v := nI 52) hc (by decide) dL_riffle_215 (n := 217) rfl ?_
                    refine g_iload hc 6 rfl dL_riffle_217 (n := 219) rfl ?_
                    refine n_isub (v := 52 - l3) hc (by omega) rfl dL_riffle_219 (n := 220) rfl ?_
                    refine n_iald (v := pf (52 - l3)) hc 2 rfl (by omega) (by decide) rfl dL_riffle_220 (n := 221) rfl ?_
                    have b_13 := hp.1 (52 - l3) (by omega)
                    refine n_iast (ws' := [(b0, aI κ 52 bf), (p0, aI κ 52 (va_up p3 i3 (pf (52 - l3)))), (w0, aI κ 52 pf), (g0, aI κ 9 (va_up gf 2 X))]) hc 1 rfl (by omega) (by decide) rfl dL_riffle_221 (n := 222) rfl ?_
                    refine n_idec (v := l3 - 1) (lv2 := [(0, .ref p0), (1, .ref b0), (2, .ref g0), (3, .int fx), (4, .ref w0), (5, .int (nI (spl (gf 2)))), (7, .int (nI (l3 - 1))), (8, .int (nI (i3 + 1)))]) hc 6 rfl (by decide) (by omega) (by decide) [1, 2, 3, 4, 5, 6, 0, 7] rfl rfl dL_riffle_222 (n := 225) rfl ?_
                    refine g_goto (n := 202) hc dL_riffle_225 (by decide) ?_
                    exact ih_10 (i3 + 1) (l3 - 1) (va_up p3 i3 (pf (52 - l3))) (hq6) (hx6) (fun k hk => (Nat.lt_succ_iff_lt_or_eq.mp hk).elim (fun q => (va_up_ne _ _ (by omega)).trans (hg5 k q)) (fun q => by subst q; rw [va_up_self]; exact hcd.symm)) (by omega)
              refine g_lsub (lv' := [(0, .ref p0), (1, .ref b0), (2, .ref g0), (3, .int fx), (4, .ref w0), (5, .int (nI (spl (gf 2)))), (7, .int (nI l2)), (8, .int (nI i2))]) [0, 1, 2, 3, 4, 5, 7, 8] rfl ?_
              exact L_9 _ i2 l2 p2 (by have e0 : u2 = 0 := (by omega); rw [← e0]; exact hq3) (hx3) (hg3) (Nat.lt_succ_self _)
            · skip
              have el2 : l2 = 0 := by omega
              subst el2
              have hrn := re_1 hq3 hx3 (by omega)
              obtain ⟨⟨hq4, hx4, -, -⟩, -, hcd⟩ := ra_1 hq3 hrn
              refine g_aload_n hc 0 rfl rfl dL_riffle_181 (n := 182) rfl ?_
              refine g_iload hc 8 rfl dL_riffle_182 (n := 184) rfl ?_
              refine n_iinc (v := i2 + 1) (zk := 1) (lv2 := [(0, .ref p0), (1, .ref b0), (2, .ref g0), (3, .int fx), (4, .ref w0), (5, .int (nI (spl (gf 2)))), (6, .int (nI u2)), (7, .int (nI 0)), (8, .int (nI (i2 + 1)))]) hc 8 rfl (by decide) rfl (by decide) [1, 2, 3, 4, 5, 6, 7, 8, 0] rfl rfl dL_riffle_184 (n := 187) rfl ?_
              refine g_aload hc 4 rfl dL_riffle_187 (n := 189) rfl ?_
              refine g_iload hc 5 rfl dL_riffle_189 (n := 191) rfl ?_
              refine g_iload hc 6 rfl dL_riffle_191 (n := 193) rfl ?_
              refine n_isub (v := (spl (gf 2)) - u2) hc (by omega) rfl dL_riffle_193 (n := 194) rfl ?_
              refine n_iald (v := pf ((spl (gf 2)) - u2)) hc 2 rfl (by omega) (by decide) rfl dL_riffle_194 (n := 195) rfl ?_
              have b_14 := hp.1 ((spl (gf 2)) - u2) (by omega)
              refine n_iast (ws' := [(b0, aI κ 52 bf), (p0, aI κ 52 (va_up p2 i2 (pf ((spl (gf 2)) - u2)))), (w0, aI κ 52 pf), (g0, aI κ 9 (va_up gf 2 X))]) hc 1 rfl (by omega) (by decide) rfl dL_riffle_195 (n := 196) rfl ?_
              refine n_idec (v := u2 - 1) (lv2 := [(0, .ref p0), (1, .ref b0), (2, .ref g0), (3, .int fx), (4, .ref w0), (5, .int (nI (spl (gf 2)))), (6, .int (nI (u2 - 1))), (7, .int (nI 0)), (8, .int (nI (i2 + 1)))]) hc 6 rfl (by decide) (by omega) (by decide) [1, 2, 3, 4, 5, 6, 0, 7, 8] rfl rfl dL_riffle_196 (n := 199) rfl ?_
              refine g_goto (n := 176) hc dL_riffle_199 (by decide) ?_
              exact ih_6 (i2 + 1) (u2 - 1) 0 (va_up p2 i2 (pf ((spl (gf 2)) - u2))) (hq4) (hx4) (by omega) (fun k hk => (Nat.lt_succ_iff_lt_or_eq.mp hk).elim (fun q => (va_up_ne _ _ (by omega)).trans (hg3 k q)) (fun q => by subst q; rw [va_up_self]; exact hcd.symm)) (by omega)
        exact L_5 _ i u l pp (hq) (ht.1) (by omega) (hg) (Nat.lt_succ_self _)
      · skip
        refine g_iload hc 7 rfl dL_riffle_35 (n := 37) rfl ?_
        refine n_if_le hc (by omega) dL_riffle_37 (tgt := 176) (by decide) (n := 40) rfl (fun c_15 => ?_) (fun c_15 => ?_)
        · skip
          have L_16 : ∀ (fuel : Nat) (i2 : Nat) (u2 : Nat) (l2 : Nat) (p2 : Nat → Nat), (Rq pf bb (spl (gf 2)) (nx (gf 2)) i2 u2 l2) → ((rsn pf bb (spl (gf 2)) (nx (gf 2)) i2).1 = X) → (u2 = 0 ∨ l2 = 0) → (∀ k, k < i2 → p2 k = rcd pf bb (spl (gf 2)) (nx (gf 2)) k) → u2 < fuel → G κ Γ A 11 0 0 Q [(b0, aI κ 52 bf), (p0, aI κ 52 p2), (w0, aI κ 52 pf), (g0, aI κ 9 (va_up gf 2 X))] 176 [(0, .ref p0), (1, .ref b0), (2, .ref g0), (3, .int fx), (4, .ref w0), (5, .int (nI (spl (gf 2)))), (6, .int (nI u2)), (7, .int (nI l2)), (8, .int (nI i2))] [] := by
            intro fuel
            induction fuel with
            | zero => intro i2 u2 l2 p2 hq3 hx3 hul hg3 h; exact absurd h (Nat.not_lt_zero _)
            | succ fuel ih_17 =>
              intro i2 u2 l2 p2 hq3 hx3 hul hg3 hn_18
              obtain ⟨b1, b2, b3, b4, b5, b6⟩ := id hq3
              refine g_iload hc 6 rfl dL_riffle_176 (n := 178) rfl ?_
              refine n_if_le hc (by omega) dL_riffle_178 (tgt := 202) (by decide) (n := 181) rfl (fun c_19 => ?_) (fun c_19 => ?_)
              · skip
                have L_20 : ∀ (fuel : Nat) (i3 : Nat) (l3 : Nat) (p3 : Nat → Nat), (Rq pf bb (spl (gf 2)) (nx (gf 2)) i3 0 l3) → ((rsn pf bb (spl (gf 2)) (nx (gf 2)) i3).1 = X) → (∀ k, k < i3 → p3 k = rcd pf bb (spl (gf 2)) (nx (gf 2)) k) → l3 < fuel → G κ Γ A 11 0 0 Q [(b0, aI κ 52 bf), (p0, aI κ 52 p3), (w0, aI κ 52 pf), (g0, aI κ 9 (va_up gf 2 X))] 202 [(0, .ref p0), (1, .ref b0), (2, .ref g0), (3, .int fx), (4, .ref w0), (5, .int (nI (spl (gf 2)))), (7, .int (nI l3)), (8, .int (nI i3))] [] := by
                  intro fuel
                  induction fuel with
                  | zero => intro i3 l3 p3 hq5 hx5 hg5 h; exact absurd h (Nat.not_lt_zero _)
                  | succ fuel ih_21 =>
                    intro i3 l3 p3 hq5 hx5 hg5 hn_22
                    obtain ⟨d1, d2, d3, d4, d5, d6⟩ := id hq5
                    refine g_iload hc 6 rfl dL_riffle_202 (n := 204) rfl ?_
                    refine n_if_le hc (by omega) dL_riffle_204 (tgt := 228) (by decide) (n := 207) rfl (fun c_23 => ?_) (fun c_23 => ?_)
                    · skip
                      have e9 : i3 = 52 := by omega
                      have ex : X = rfx bb pf (gf 2) := rfx_e e9 hx5
                      refine g_arr (ws' := [(b0, aI κ 52 bf), (p0, aI κ 52 p3), (w0, aI κ 52 pf), (g0, aI κ 9 (va_up gf 2 (rfx bb pf (gf 2))))]) (f := va_up gf 2 X) (g := va_up gf 2 (rfx bb pf (gf 2))) 3 rfl (fun k _ => by rw [ex]) rfl ?_
                      refine g_sub (ws' := [(p0, aI κ 52 p3), (b0, aI κ 52 bf), (g0, aI κ 9 (va_up gf 2 (rfx bb pf (gf 2)))), (w0, aI κ 52 pf)]) [1, 0, 3, 2] rfl rfl ?_
                      refine g_arr (ws' := [(p0, aI κ 52 (rfp bb pf (gf 2))), (b0, aI κ 52 bf), (g0, aI κ 9 (va_up gf 2 (rfx bb pf (gf 2)))), (w0, aI κ 52 pf)]) (f := p3) (g := rfp bb pf (gf 2)) 0 rfl (fun k hk => hg5 k (by omega)) rfl ?_
                      refine hret.2.2.1 _ _ _ _ _ rfl (by decide) (by decide) dL_riffle_228 ?_
                      exact ⟨rfl, rfl⟩
                    · skip
                      have hrn := re_0 hq5 hx5 (by omega)
                      obtain ⟨⟨hq6, hx6, -, -⟩, -, hcd⟩ := ra_0 hq5 hrn
                      refine g_aload_n hc 0 rfl rfl dL_riffle_207 (n := 208) rfl ?_
                      refine g_iload hc 7 rfl dL_riffle_208 (n := 210) rfl ?_
                      refine n_iinc (v := i3 + 1) (zk := 1) (lv2 := [(0, .ref p0), (1, .ref b0), (2, .ref g0), (3, .int fx), (4, .ref w0), (5, .int (nI (spl (gf 2)))), (7, .int (nI l3)), (8, .int (nI (i3 + 1)))]) hc 7 rfl (by decide) rfl (by decide) [1, 2, 3, 4, 5, 6, 7, 0] rfl rfl dL_riffle_210 (n := 213) rfl ?_
                      refine g_aload hc 4 rfl dL_riffle_213 (n := 215) rfl ?_
                      refine g_bipush (v := nI 52) hc (by decide) dL_riffle_215 (n := 217) rfl ?_
                      refine g_iload hc 6 rfl dL_riffle_217 (n := 219) rfl ?_
                      refine n_isub (v := 52 - l3) hc (by omega) rfl dL_riffle_219 (n := 220) rfl ?_
                      refine n_iald (v := pf (52 - l3)) hc 2 rfl (by omega) (by decide) rfl dL_riffle_220 (n := 221) rfl ?_
                      have b_24 := hp.1 (52 - l3) (by omega)
                      refine n_iast (ws' := [(b0, aI κ 52 bf), (p0, aI κ 52 (va_up p3 i3 (pf (52 - l3)))), (w0, aI κ 52 pf), (g0, aI κ 9 (va_up gf 2 X))]) hc 1 rfl (by omega) (by decide) rfl dL_riffle_221 (n := 222) rfl ?_
                      refine n_idec (v := l3 - 1) (lv2 := [(0, .ref p0), (1, .ref b0), (2, .ref g0), (3, .int fx), (4, .ref w0), (5, .int (nI (spl (gf 2)))), (7, .int (nI (l3 - 1))), (8, .int (nI (i3 + 1)))]) hc 6 rfl (by decide) (by omega) (by decide) [1, 2, 3, 4, 5, 6, 0, 7] rfl rfl dL_riffle_222 (n := 225) rfl ?_
                      refine g_goto (n := 202) hc dL_riffle_225 (by decide) ?_
                      exact ih_21 (i3 + 1) (l3 - 1) (va_up p3 i3 (pf (52 - l3))) (hq6) (hx6) (fun k hk => (Nat.lt_succ_iff_lt_or_eq.mp hk).elim (fun q => (va_up_ne _ _ (by omega)).trans (hg5 k q)) (fun q => by subst q; rw [va_up_self]; exact hcd.symm)) (by omega)
                refine g_lsub (lv' := [(0, .ref p0), (1, .ref b0), (2, .ref g0), (3, .int fx), (4, .ref w0), (5, .int (nI (spl (gf 2)))), (7, .int (nI l2)), (8, .int (nI i2))]) [0, 1, 2, 3, 4, 5, 7, 8] rfl ?_
                exact L_20 _ i2 l2 p2 (by have e0 : u2 = 0 := (by omega); rw [← e0]; exact hq3) (hx3) (hg3) (Nat.lt_succ_self _)
              · skip
                have el2 : l2 = 0 := by omega
                subst el2
                have hrn := re_1 hq3 hx3 (by omega)
                obtain ⟨⟨hq4, hx4, -, -⟩, -, hcd⟩ := ra_1 hq3 hrn
                refine g_aload_n hc 0 rfl rfl dL_riffle_181 (n := 182) rfl ?_
                refine g_iload hc 8 rfl dL_riffle_182 (n := 184) rfl ?_
                refine n_iinc (v := i2 + 1) (zk := 1) (lv2 := [(0, .ref p0), (1, .ref b0), (2, .ref g0), (3, .int fx), (4, .ref w0), (5, .int (nI (spl (gf 2)))), (6, .int (nI u2)), (7, .int (nI 0)), (8, .int (nI (i2 + 1)))]) hc 8 rfl (by decide) rfl (by decide) [1, 2, 3, 4, 5, 6, 7, 8, 0] rfl rfl dL_riffle_184 (n := 187) rfl ?_
                refine g_aload hc 4 rfl dL_riffle_187 (n := 189) rfl ?_
                refine g_iload hc 5 rfl dL_riffle_189 (n := 191) rfl ?_
                refine g_iload hc 6 rfl dL_riffle_191 (n := 193) rfl ?_
                refine n_isub (v := (spl (gf 2)) - u2) hc (by omega) rfl dL_riffle_193 (n := 194) rfl ?_
                refine n_iald (v := pf ((spl (gf 2)) - u2)) hc 2 rfl (by omega) (by decide) rfl dL_riffle_194 (n := 195) rfl ?_
                have b_25 := hp.1 ((spl (gf 2)) - u2) (by omega)
                refine n_iast (ws' := [(b0, aI κ 52 bf), (p0, aI κ 52 (va_up p2 i2 (pf ((spl (gf 2)) - u2)))), (w0, aI κ 52 pf), (g0, aI κ 9 (va_up gf 2 X))]) hc 1 rfl (by omega) (by decide) rfl dL_riffle_195 (n := 196) rfl ?_
                refine n_idec (v := u2 - 1) (lv2 := [(0, .ref p0), (1, .ref b0), (2, .ref g0), (3, .int fx), (4, .ref w0), (5, .int (nI (spl (gf 2)))), (6, .int (nI (u2 - 1))), (7, .int (nI 0)), (8, .int (nI (i2 + 1)))]) hc 6 rfl (by decide) (by omega) (by decide) [1, 2, 3, 4, 5, 6, 0, 7, 8] rfl rfl dL_riffle_196 (n := 199) rfl ?_
                refine g_goto (n := 176) hc dL_riffle_199 (by decide) ?_
                exact ih_17 (i2 + 1) (u2 - 1) 0 (va_up p2 i2 (pf ((spl (gf 2)) - u2))) (hq4) (hx4) (by omega) (fun k hk => (Nat.lt_succ_iff_lt_or_eq.mp hk).elim (fun q => (va_up_ne _ _ (by omega)).trans (hg3 k q)) (fun q => by subst q; rw [va_up_self]; exact hcd.symm)) (by omega)
          exact L_16 _ i u l pp (hq) (ht.1) (by omega) (hg) (Nat.lt_succ_self _)
        · skip
          refine g_aload_n hc 2 rfl rfl dL_riffle_40 (n := 41) rfl ?_
          refine g_iload hc 6 rfl dL_riffle_41 (n := 43) rfl ?_
          refine g_iload hc 7 rfl dL_riffle_43 (n := 45) rfl ?_
          refine n_iadd (v := u + l) hc rfl dL_riffle_45 (n := 46) rfl ?_
          refine g_callS (rest := []) (As := [.ref g0, .int (nI (u + l))]) (cells' := 0) (slots' := 0) hc (c_L_draw κ _ g0 (u + l) (va_up gf 2 X) (by rw [va_up_self]; exact hX) (by omega) (by omega)) q_L_draw k_ml_RL_21 rfl rfl (jn_ix (wr := [(b0, aI κ 52 bf), (p0, aI κ 52 pp), (w0, aI κ 52 pf)]) [3] [0, 1, 2] rfl rfl rfl rfl (by decide)) ⟨⟨by decide, by decide⟩, by decide, by decide⟩ (Nat.le_of_ble_eq_true rfl) rfl rfl dL_riffle_46 (n := 49) rfl (fun vv ww hp => ?_)
          obtain ⟨rr, rfl, rfl, rfl⟩ := hp
          refine ⟨_, rfl, ?_⟩
          refine g_ws (ws' := [(b0, aI κ 52 bf), (p0, aI κ 52 pp), (w0, aI κ 52 pf), (g0, aI κ 9 (va_up (va_up gf 2 X) 2 (nx ((va_up gf 2 X) 2))))]) rfl ?_
          refine g_st (st' := [.int (nI (dv (nx ((va_up gf 2 X) 2)) (u + l)))]) rfl ?_
          refine g_arr (ws' := [(b0, aI κ 52 bf), (p0, aI κ 52 pp), (w0, aI κ 52 pf), (g0, aI κ 9 (va_up gf 2 (nx X)))]) (f := va_up (va_up gf 2 X) 2 (nx ((va_up gf 2 X) 2))) (g := va_up gf 2 (nx X)) 3 rfl (fun k _ => by rw [va_up_self]; exact up_up k) rfl ?_
          refine g_top (y := nI (dv (nx X) (u + l))) (by rw [va_up_self]) ?_
          have hdl := dv_lt (nx X) (b := u + l) (by omega)
          refine g_iload hc 6 rfl dL_riffle_49 (n := 51) rfl ?_
          refine n_icmp_ge hc (by omega) (by omega) dL_riffle_51 (tgt := 58) (by decide) (n := 54) rfl (fun c_26 => ?_) (fun c_26 => ?_)
          · skip
            refine g_iconst (v := nI 0) hc (by decide) dL_riffle_58 (n := 59) rfl ?_
            refine g_istore (lv2 := [(0, .ref p0), (1, .ref b0), (2, .ref g0), (3, .int fx), (4, .ref w0), (5, .int (nI (spl (gf 2)))), (6, .int (nI u)), (7, .int (nI l)), (8, .int (nI i)), (9, .int (nI 0))]) hc (by decide) [1, 2, 3, 4, 5, 6, 7, 8, 9, 0] rfl rfl dL_riffle_59 (n := 61) rfl ?_
            refine g_iconst (v := nI 1) hc (by decide) dL_riffle_61 (n := 62) rfl ?_
            refine g_istore (lv2 := [(0, .ref p0), (1, .ref b0), (2, .ref g0), (3, .int fx), (4, .ref w0), (5, .int (nI (spl (gf 2)))), (6, .int (nI u)), (7, .int (nI l)), (8, .int (nI i)), (9, .int (nI 0)), (10, .int (nI 1))]) hc (by decide) [1, 2, 3, 4, 5, 6, 7, 8, 9, 10, 0] rfl rfl dL_riffle_62 (n := 64) rfl ?_
            have L_27 : ∀ (fuel : Nat) (s1 : Nat) (f1 : Nat) (i1 : Nat) (u1 : Nat) (l1 : Nat) (Y : Nat) (p1 : Nat → Nat), (f1 ≤ 1) → (Rq pf bb (spl (gf 2)) (nx (gf 2)) i1 u1 l1) → ((s1 = 0 ∧ Rt pf bb (spl (gf 2)) (nx (gf 2)) i1 Y u1 l1 ∧ u1 + l1 < u + l) ∨ (s1 = 1 ∧ Rn pf bb (spl (gf 2)) (nx (gf 2)) i1 Y u1 l1 f1 ∧ u1 + l1 ≤ u + l)) → (Y < 2 ^ 31) → (∀ k, k < i1 → p1 k = rcd pf bb (spl (gf 2)) (nx (gf 2)) k) → u1 + l1 < fuel → G κ Γ A 11 0 0 Q [(b0, aI κ 52 bf), (p0, aI κ 52 p1), (w0, aI κ 52 pf), (g0, aI κ 9 (va_up gf 2 Y))] 64 [(0, .ref p0), (1, .ref b0), (2, .ref g0), (3, .int fx), (4, .ref w0), (5, .int (nI (spl (gf 2)))), (6, .int (nI u1)), (7, .int (nI l1)), (8, .int (nI i1)), (9, .int (nI f1)), (10, .int (nI s1))] [] := by
              intro fuel
              induction fuel with
              | zero => intro s1 f1 i1 u1 l1 Y p1 hf1 hq1 hs1 hY hg1 h; exact absurd h (Nat.not_lt_zero _)
              | succ fuel ih_28 =>
                intro s1 f1 i1 u1 l1 Y p1 hf1 hq1 hs1 hY hg1 hn_29
                obtain ⟨a1, a2, a3, a4, a5, a6⟩ := id hq1
                refine g_iload hc 10 rfl dL_riffle_64 (n := 66) rfl ?_
                refine n_if_eq hc (by omega) dL_riffle_66 (tgt := 173) (by decide) (n := 69) rfl (fun c_30 => ?_) (fun c_30 => ?_)
                · skip
                  obtain ⟨-, hrt, hlt⟩ := hs1.resolve_right (fun z => by omega)
                  refine g_goto (n := 30) hc dL_riffle_173 (by decide) ?_
                  refine g_lsub (lv' := [(0, .ref p0), (1, .ref b0), (2, .ref g0), (3, .int fx), (4, .ref w0), (5, .int (nI (spl (gf 2)))), (6, .int (nI u1)), (7, .int (nI l1)), (8, .int (nI i1))]) [0, 1, 2, 3, 4, 5, 6, 7, 8] rfl ?_
                  exact ih_2 i1 u1 l1 Y p1 (hq1) (hrt) (by assumption) (hg1) (by omega)
                · skip
                  obtain ⟨-, hrn, hle⟩ := hs1.resolve_left (fun z => by omega)
                  refine g_aload_n hc 0 rfl rfl dL_riffle_69 (n := 70) rfl ?_
                  refine g_iload hc 8 rfl dL_riffle_70 (n := 72) rfl ?_
                  refine g_iload hc 9 rfl dL_riffle_72 (n := 74) rfl ?_
                  refine n_if_eq hc (by omega) dL_riffle_74 (tgt := 88) (by decide) (n := 77) rfl (fun c_31 => ?_) (fun c_31 => ?_)
                  · skip
                    have ef : f1 = 0 := by omega
                    subst ef
                    obtain ⟨⟨hq2, hx2, hb2, hf2⟩, hpos, hcd⟩ := ra_0 hq1 hrn
                    refine g_aload hc 4 rfl dL_riffle_88 (n := 90) rfl ?_
                    refine g_bipush (v := nI 52) hc (by decide) dL_riffle_90 (n := 92) rfl ?_
                    refine g_iload hc 7 rfl dL_riffle_92 (n := 94) rfl ?_
                    refine n_isub (v := 52 - l1) hc (by omega) rfl dL_riffle_94 (n := 95) rfl ?_
                    refine n_iald (v := pf (52 - l1)) hc 2 rfl (by omega) (by decide) rfl dL_riffle_95 (n := 96) rfl ?_
                    have b_32 := hp.1 (52 - l1) (by omega)
                    have hcl := hp.1 (52 - l1) (by omega)
                    refine n_iast (ws' := [(b0, aI κ 52 bf), (p0, aI κ 52 (va_up p1 i1 (pf (52 - l1)))), (w0, aI κ 52 pf), (g0, aI κ 9 (va_up gf 2 Y))]) hc 1 rfl (by omega) (by decide) rfl dL_riffle_96 (n := 97) rfl ?_
                    refine g_iload hc 6 rfl dL_riffle_97 (n := 99) rfl ?_
                    refine g_iload hc 9 rfl dL_riffle_99 (n := 101) rfl ?_
                    refine n_if_eq hc (by omega) dL_riffle_101 (tgt := 108) (by decide) (n := 104) rfl (fun c_33 => ?_) (fun c_33 => by (exfalso; revert c_33; first | omega | decide))
                    refine g_iconst (v := nI 0) hc (by decide) dL_riffle_108 (n := 109) rfl ?_
                    refine n_isub (v := u1) hc (by omega) rfl dL_riffle_109 (n := 110) rfl ?_
                    refine g_istore (lv2 := [(0, .ref p0), (1, .ref b0), (2, .ref g0), (3, .int fx), (4, .ref w0), (5, .int (nI (spl (gf 2)))), (6, .int (nI u1)), (7, .int (nI l1)), (8, .int (nI i1)), (9, .int (nI 0)), (10, .int (nI s1))]) hc (by decide) [1, 2, 3, 4, 5, 6, 0, 7, 8, 9, 10] rfl rfl dL_riffle_110 (n := 112) rfl ?_
                    refine g_iload hc 7 rfl dL_riffle_112 (n := 114) rfl ?_
                    refine g_iload hc 9 rfl dL_riffle_114 (n := 116) rfl ?_
                    refine n_if_eq hc (by omega) dL_riffle_116 (tgt := 123) (by decide) (n := 119) rfl (fun c_34 => ?_) (fun c_34 => by (exfalso; revert c_34; first | omega | decide))
                    refine g_iconst (v := nI 1) hc (by decide) dL_riffle_123 (n := 124) rfl ?_
                    refine n_isub (v := l1 - 1) hc (by omega) rfl dL_riffle_124 (n := 125) rfl ?_
                    refine g_istore (lv2 := [(0, .ref p0), (1, .ref b0), (2, .ref g0), (3, .int fx), (4, .ref w0), (5, .int (nI (spl (gf 2)))), (6, .int (nI u1)), (7, .int (nI (l1 - 1))), (8, .int (nI i1)), (9, .int (nI 0)), (10, .int (nI s1))]) hc (by decide) [1, 2, 3, 4, 5, 6, 7, 0, 8, 9, 10] rfl rfl dL_riffle_125 (n := 127) rfl ?_
                    refine g_aload_n hc 1 rfl rfl dL_riffle_127 (n := 128) rfl ?_
                    refine g_aload_n hc 0 rfl rfl dL_riffle_128 (n := 129) rfl ?_
                    refine g_iload hc 8 rfl dL_riffle_129 (n := 131) rfl ?_
                    refine n_iald (v := pf (52 - l1)) hc 1 rfl (by omega) (by decide) (va_up_self _ _ _) dL_riffle_131 (n := 132) rfl ?_
                    refine n_iald (v := bf (pf (52 - l1))) hc 0 rfl (by omega) (by decide) rfl dL_riffle_132 (n := 133) rfl ?_
                    have b_35 := hb (pf (52 - l1)) (by omega)
                    refine g_iconst (v := nI 1) hc (by decide) dL_riffle_133 (n := 134) rfl ?_
                    refine n_icmp_ne hc (by omega) (by omega) dL_riffle_134 (tgt := 164) (by decide) (n := 137) rfl (fun c_36 => ?_) (fun c_36 => ?_)
                    · skip
                      refine g_iconst (v := nI 0) hc (by decide) dL_riffle_164 (n := 165) rfl ?_
                      refine g_istore (lv2 := [(0, .ref p0), (1, .ref b0), (2, .ref g0), (3, .int fx), (4, .ref w0), (5, .int (nI (spl (gf 2)))), (6, .int (nI u1)), (7, .int (nI (l1 - 1))), (8, .int (nI i1)), (9, .int (nI 0)), (10, .int (nI 0))]) hc (by decide) [1, 2, 3, 4, 5, 6, 7, 8, 9, 10, 0] rfl rfl dL_riffle_165 (n := 167) rfl ?_
                      refine n_iinc (v := i1 + 1) (zk := 1) (lv2 := [(0, .ref p0), (1, .ref b0), (2, .ref g0), (3, .int fx), (4, .ref w0), (5, .int (nI (spl (gf 2)))), (6, .int (nI u1)), (7, .int (nI (l1 - 1))), (8, .int (nI (i1 + 1))), (9, .int (nI 0)), (10, .int (nI 0))]) hc 8 rfl (by decide) rfl (by decide) [1, 2, 3, 4, 5, 6, 7, 8, 0, 9, 10] rfl rfl dL_riffle_167 (n := 170) rfl ?_
                      refine g_goto (n := 64) hc dL_riffle_170 (by decide) ?_
                      exact ih_28 0 0 (i1 + 1) u1 (l1 - 1) Y (va_up p1 i1 (pf (52 - l1))) (by omega) (hq2) (Or.inl ⟨rfl, ⟨hx2, by first | exact Or.inl (by omega) | exact Or.inr (Or.inl (by omega)) | exact Or.inr (Or.inr (hb2.trans (hbb.no hcl (by first | exact Or.inl (by assumption) | exact Or.inr (by assumption)))))⟩, by omega⟩) (by assumption) (fun k hk => (Nat.lt_succ_iff_lt_or_eq.mp hk).elim (fun q => (va_up_ne _ _ (by omega)).trans (hg1 k q)) (fun q => by subst q; rw [va_up_self]; exact hcd.symm)) (by omega)
                    · skip
                      refine g_aload_n hc 0 rfl rfl dL_riffle_137 (n := 138) rfl ?_
                      refine g_iload hc 8 rfl dL_riffle_138 (n := 140) rfl ?_
                      refine n_iald (v := pf (52 - l1)) hc 1 rfl (by omega) (by decide) (va_up_self _ _ _) dL_riffle_140 (n := 141) rfl ?_
                      refine g_iload_n hc 3 rfl rfl dL_riffle_141 (n := 142) rfl ?_
                      refine g_icmp_eq hc dL_riffle_142 (tgt := 164) (by decide) (n := 145) rfl (fun c_37 => ?_) (fun c_37 => ?_)
                      · skip
                        refine g_iconst (v := nI 0) hc (by decide) dL_riffle_164 (n := 165) rfl ?_
                        refine g_istore (lv2 := [(0, .ref p0), (1, .ref b0), (2, .ref g0), (3, .int fx), (4, .ref w0), (5, .int (nI (spl (gf 2)))), (6, .int (nI u1)), (7, .int (nI (l1 - 1))), (8, .int (nI i1)), (9, .int (nI 0)), (10, .int (nI 0))]) hc (by decide) [1, 2, 3, 4, 5, 6, 7, 8, 9, 10, 0] rfl rfl dL_riffle_165 (n := 167) rfl ?_
                        refine n_iinc (v := i1 + 1) (zk := 1) (lv2 := [(0, .ref p0), (1, .ref b0), (2, .ref g0), (3, .int fx), (4, .ref w0), (5, .int (nI (spl (gf 2)))), (6, .int (nI u1)), (7, .int (nI (l1 - 1))), (8, .int (nI (i1 + 1))), (9, .int (nI 0)), (10, .int (nI 0))]) hc 8 rfl (by decide) rfl (by decide) [1, 2, 3, 4, 5, 6, 7, 8, 0, 9, 10] rfl rfl dL_riffle_167 (n := 170) rfl ?_
                        refine g_goto (n := 64) hc dL_riffle_170 (by decide) ?_
                        exact ih_28 0 0 (i1 + 1) u1 (l1 - 1) Y (va_up p1 i1 (pf (52 - l1))) (by omega) (hq2) (Or.inl ⟨rfl, ⟨hx2, by first | exact Or.inl (by omega) | exact Or.inr (Or.inl (by omega)) | exact Or.inr (Or.inr (hb2.trans (hbb.no hcl (by first | exact Or.inl (by assumption) | exact Or.inr (by assumption)))))⟩, by omega⟩) (by assumption) (fun k hk => (Nat.lt_succ_iff_lt_or_eq.mp hk).elim (fun q => (va_up_ne _ _ (by omega)).trans (hg1 k q)) (fun q => by subst q; rw [va_up_self]; exact hcd.symm)) (by omega)
                      · skip
                        refine g_iload hc 9 rfl dL_riffle_145 (n := 147) rfl ?_
                        refine n_if_eq hc (by omega) dL_riffle_147 (tgt := 155) (by decide) (n := 150) rfl (fun c_38 => ?_) (fun c_38 => by (exfalso; revert c_38; first | omega | decide))
                        refine g_iload hc 7 rfl dL_riffle_155 (n := 157) rfl ?_
                        refine n_if_le hc (by omega) dL_riffle_157 (tgt := 164) (by decide) (n := 160) rfl (fun c_39 => ?_) (fun c_39 => ?_)
                        · skip
                          refine g_iconst (v := nI 0) hc (by decide) dL_riffle_164 (n := 165) rfl ?_
                          refine g_istore (lv2 := [(0, .ref p0), (1, .ref b0), (2, .ref g0), (3, .int fx), (4, .ref w0), (5, .int (nI (spl (gf 2)))), (6, .int (nI u1)), (7, .int (nI (l1 - 1))), (8, .int (nI i1)), (9, .int (nI 0)), (10, .int (nI 0))]) hc (by decide) [1, 2, 3, 4, 5, 6, 7, 8, 9, 10, 0] rfl rfl dL_riffle_165 (n := 167) rfl ?_
                          refine n_iinc (v := i1 + 1) (zk := 1) (lv2 := [(0, .ref p0), (1, .ref b0), (2, .ref g0), (3, .int fx), (4, .ref w0), (5, .int (nI (spl (gf 2)))), (6, .int (nI u1)), (7, .int (nI (l1 - 1))), (8, .int (nI (i1 + 1))), (9, .int (nI 0)), (10, .int (nI 0))]) hc 8 rfl (by decide) rfl (by decide) [1, 2, 3, 4, 5, 6, 7, 8, 0, 9, 10] rfl rfl dL_riffle_167 (n := 170) rfl ?_
                          refine g_goto (n := 64) hc dL_riffle_170 (by decide) ?_
                          exact ih_28 0 0 (i1 + 1) u1 (l1 - 1) Y (va_up p1 i1 (pf (52 - l1))) (by omega) (hq2) (Or.inl ⟨rfl, ⟨hx2, by first | exact Or.inl (by omega) | exact Or.inr (Or.inl (by omega)) | exact Or.inr (Or.inr (hb2.trans (hbb.no hcl (by first | exact Or.inl (by assumption) | exact Or.inr (by assumption)))))⟩, by omega⟩) (by assumption) (fun k hk => (Nat.lt_succ_iff_lt_or_eq.mp hk).elim (fun q => (va_up_ne _ _ (by omega)).trans (hg1 k q)) (fun q => by subst q; rw [va_up_self]; exact hcd.symm)) (by omega)
                        · skip
                          refine g_iconst (v := nI 1) hc (by decide) dL_riffle_160 (n := 161) rfl ?_
                          refine g_goto (n := 165) hc dL_riffle_161 (by decide) ?_
                          refine g_istore (lv2 := [(0, .ref p0), (1, .ref b0), (2, .ref g0), (3, .int fx), (4, .ref w0), (5, .int (nI (spl (gf 2)))), (6, .int (nI u1)), (7, .int (nI (l1 - 1))), (8, .int (nI i1)), (9, .int (nI 0)), (10, .int (nI 1))]) hc (by decide) [1, 2, 3, 4, 5, 6, 7, 8, 9, 10, 0] rfl rfl dL_riffle_165 (n := 167) rfl ?_
                          refine n_iinc (v := i1 + 1) (zk := 1) (lv2 := [(0, .ref p0), (1, .ref b0), (2, .ref g0), (3, .int fx), (4, .ref w0), (5, .int (nI (spl (gf 2)))), (6, .int (nI u1)), (7, .int (nI (l1 - 1))), (8, .int (nI (i1 + 1))), (9, .int (nI 0)), (10, .int (nI 1))]) hc 8 rfl (by decide) rfl (by decide) [1, 2, 3, 4, 5, 6, 7, 8, 0, 9, 10] rfl rfl dL_riffle_167 (n := 170) rfl ?_
                          refine g_goto (n := 64) hc dL_riffle_170 (by decide) ?_
                          exact ih_28 1 0 (i1 + 1) u1 (l1 - 1) Y (va_up p1 i1 (pf (52 - l1))) (by omega) (hq2) (Or.inr ⟨rfl, rk_0 hq2 hx2 (by omega) (hb2.trans (hbb.yes hcl (by assumption) (by assumption))) hf2, by omega⟩) (by assumption) (fun k hk => (Nat.lt_succ_iff_lt_or_eq.mp hk).elim (fun q => (va_up_ne _ _ (by omega)).trans (hg1 k q)) (fun q => by subst q; rw [va_up_self]; exact hcd.symm)) (by omega)
                  · skip
                    have ef : f1 = 1 := by omega
                    subst ef
                    obtain ⟨⟨hq2, hx2, hb2, hf2⟩, hpos, hcd⟩ := ra_1 hq1 hrn
                    refine g_aload hc 4 rfl dL_riffle_77 (n := 79) rfl ?_
                    refine g_iload hc 5 rfl dL_riffle_79 (n := 81) rfl ?_
                    refine g_iload hc 6 rfl dL_riffle_81 (n := 83) rfl ?_
                    refine n_isub (v := (spl (gf 2)) - u1) hc (by omega) rfl dL_riffle_83 (n := 84) rfl ?_
                    refine n_iald (v := pf ((spl (gf 2)) - u1)) hc 2 rfl (by omega) (by decide) rfl dL_riffle_84 (n := 85) rfl ?_
                    have b_40 := hp.1 ((spl (gf 2)) - u1) (by omega)
                    refine g_goto (n := 96) hc dL_riffle_85 (by decide) ?_
                    have hcl := hp.1 (spl (gf 2) - u1) (by omega)
                    refine n_iast (ws' := [(b0, aI κ 52 bf), (p0, aI κ 52 (va_up p1 i1 (pf ((spl (gf 2)) - u1)))), (w0, aI κ 52 pf), (g0, aI κ 9 (va_up gf 2 Y))]) hc 1 rfl (by omega) (by decide) rfl dL_riffle_96 (n := 97) rfl ?_
                    refine g_iload hc 6 rfl dL_riffle_97 (n := 99) rfl ?_
                    refine g_iload hc 9 rfl dL_riffle_99 (n := 101) rfl ?_
                    refine n_if_eq hc (by omega) dL_riffle_101 (tgt := 108) (by decide) (n := 104) rfl (fun c_41 => by (exfalso; revert c_41; first | omega | decide)) (fun c_41 => ?_)
                    refine g_iconst (v := nI 1) hc (by decide) dL_riffle_104 (n := 105) rfl ?_
                    refine g_goto (n := 109) hc dL_riffle_105 (by decide) ?_
                    refine n_isub (v := u1 - 1) hc (by omega) rfl dL_riffle_109 (n := 110) rfl ?_
                    refine g_istore (lv2 := [(0, .ref p0), (1, .ref b0), (2, .ref g0), (3, .int fx), (4, .ref w0), (5, .int (nI (spl (gf 2)))), (6, .int (nI (u1 - 1))), (7, .int (nI l1)), (8, .int (nI i1)), (9, .int (nI 1)), (10, .int (nI s1))]) hc (by decide) [1, 2, 3, 4, 5, 6, 0, 7, 8, 9, 10] rfl rfl dL_riffle_110 (n := 112) rfl ?_
                    refine g_iload hc 7 rfl dL_riffle_112 (n := 114) rfl ?_
                    refine g_iload hc 9 rfl dL_riffle_114 (n := 116) rfl ?_
                    refine n_if_eq hc (by omega) dL_riffle_116 (tgt := 123) (by decide) (n := 119) rfl (fun c_42 => by (exfalso; revert c_42; first | omega | decide)) (fun c_42 => ?_)
                    refine g_iconst (v := nI 0) hc (by decide) dL_riffle_119 (n := 120) rfl ?_
                    refine g_goto (n := 124) hc dL_riffle_120 (by decide) ?_
                    refine n_isub (v := l1) hc (by omega) rfl dL_riffle_124 (n := 125) rfl ?_
                    refine g_istore (lv2 := [(0, .ref p0), (1, .ref b0), (2, .ref g0), (3, .int fx), (4, .ref w0), (5, .int (nI (spl (gf 2)))), (6, .int (nI (u1 - 1))), (7, .int (nI l1)), (8, .int (nI i1)), (9, .int (nI 1)), (10, .int (nI s1))]) hc (by decide) [1, 2, 3, 4, 5, 6, 7, 0, 8, 9, 10] rfl rfl dL_riffle_125 (n := 127) rfl ?_
                    refine g_aload_n hc 1 rfl rfl dL_riffle_127 (n := 128) rfl ?_
                    refine g_aload_n hc 0 rfl rfl dL_riffle_128 (n := 129) rfl ?_
                    refine g_iload hc 8 rfl dL_riffle_129 (n := 131) rfl ?_
                    refine n_iald (v := pf ((spl (gf 2)) - u1)) hc 1 rfl (by omega) (by decide) (va_up_self _ _ _) dL_riffle_131 (n := 132) rfl ?_
                    refine n_iald (v := bf (pf ((spl (gf 2)) - u1))) hc 0 rfl (by omega) (by decide) rfl dL_riffle_132 (n := 133) rfl ?_
                    have b_43 := hb (pf ((spl (gf 2)) - u1)) (by omega)
                    refine g_iconst (v := nI 1) hc (by decide) dL_riffle_133 (n := 134) rfl ?_
                    refine n_icmp_ne hc (by omega) (by omega) dL_riffle_134 (tgt := 164) (by decide) (n := 137) rfl (fun c_44 => ?_) (fun c_44 => ?_)
                    · skip
                      refine g_iconst (v := nI 0) hc (by decide) dL_riffle_164 (n := 165) rfl ?_
                      refine g_istore (lv2 := [(0, .ref p0), (1, .ref b0), (2, .ref g0), (3, .int fx), (4, .ref w0), (5, .int (nI (spl (gf 2)))), (6, .int (nI (u1 - 1))), (7, .int (nI l1)), (8, .int (nI i1)), (9, .int (nI 1)), (10, .int (nI 0))]) hc (by decide) [1, 2, 3, 4, 5, 6, 7, 8, 9, 10, 0] rfl rfl dL_riffle_165 (n := 167) rfl ?_
                      refine n_iinc (v := i1 + 1) (zk := 1) (lv2 := [(0, .ref p0), (1, .ref b0), (2, .ref g0), (3, .int fx), (4, .ref w0), (5, .int (nI (spl (gf 2)))), (6, .int (nI (u1 - 1))), (7, .int (nI l1)), (8, .int (nI (i1 + 1))), (9, .int (nI 1)), (10, .int (nI 0))]) hc 8 rfl (by decide) rfl (by decide) [1, 2, 3, 4, 5, 6, 7, 8, 0, 9, 10] rfl rfl dL_riffle_167 (n := 170) rfl ?_
                      refine g_goto (n := 64) hc dL_riffle_170 (by decide) ?_
                      exact ih_28 0 1 (i1 + 1) (u1 - 1) l1 Y (va_up p1 i1 (pf ((spl (gf 2)) - u1))) (by omega) (hq2) (Or.inl ⟨rfl, ⟨hx2, by first | exact Or.inl (by omega) | exact Or.inr (Or.inl (by omega)) | exact Or.inr (Or.inr (hb2.trans (hbb.no hcl (by first | exact Or.inl (by assumption) | exact Or.inr (by assumption)))))⟩, by omega⟩) (by assumption) (fun k hk => (Nat.lt_succ_iff_lt_or_eq.mp hk).elim (fun q => (va_up_ne _ _ (by omega)).trans (hg1 k q)) (fun q => by subst q; rw [va_up_self]; exact hcd.symm)) (by omega)
                    · skip
                      refine g_aload_n hc 0 rfl rfl dL_riffle_137 (n := 138) rfl ?_
                      refine g_iload hc 8 rfl dL_riffle_138 (n := 140) rfl ?_
                      refine n_iald (v := pf ((spl (gf 2)) - u1)) hc 1 rfl (by omega) (by decide) (va_up_self _ _ _) dL_riffle_140 (n := 141) rfl ?_
                      refine g_iload_n hc 3 rfl rfl dL_riffle_141 (n := 142) rfl ?_
                      refine g_icmp_eq hc dL_riffle_142 (tgt := 164) (by decide) (n := 145) rfl (fun c_45 => ?_) (fun c_45 => ?_)
                      · skip
                        refine g_iconst (v := nI 0) hc (by decide) dL_riffle_164 (n := 165) rfl ?_
                        refine g_istore (lv2 := [(0, .ref p0), (1, .ref b0), (2, .ref g0), (3, .int fx), (4, .ref w0), (5, .int (nI (spl (gf 2)))), (6, .int (nI (u1 - 1))), (7, .int (nI l1)), (8, .int (nI i1)), (9, .int (nI 1)), (10, .int (nI 0))]) hc (by decide) [1, 2, 3, 4, 5, 6, 7, 8, 9, 10, 0] rfl rfl dL_riffle_165 (n := 167) rfl ?_
                        refine n_iinc (v := i1 + 1) (zk := 1) (lv2 := [(0, .ref p0), (1, .ref b0), (2, .ref g0), (3, .int fx), (4, .ref w0), (5, .int (nI (spl (gf 2)))), (6, .int (nI (u1 - 1))), (7, .int (nI l1)), (8, .int (nI (i1 + 1))), (9, .int (nI 1)), (10, .int (nI 0))]) hc 8 rfl (by decide) rfl (by decide) [1, 2, 3, 4, 5, 6, 7, 8, 0, 9, 10] rfl rfl dL_riffle_167 (n := 170) rfl ?_
                        refine g_goto (n := 64) hc dL_riffle_170 (by decide) ?_
                        exact ih_28 0 1 (i1 + 1) (u1 - 1) l1 Y (va_up p1 i1 (pf ((spl (gf 2)) - u1))) (by omega) (hq2) (Or.inl ⟨rfl, ⟨hx2, by first | exact Or.inl (by omega) | exact Or.inr (Or.inl (by omega)) | exact Or.inr (Or.inr (hb2.trans (hbb.no hcl (by first | exact Or.inl (by assumption) | exact Or.inr (by assumption)))))⟩, by omega⟩) (by assumption) (fun k hk => (Nat.lt_succ_iff_lt_or_eq.mp hk).elim (fun q => (va_up_ne _ _ (by omega)).trans (hg1 k q)) (fun q => by subst q; rw [va_up_self]; exact hcd.symm)) (by omega)
                      · skip
                        refine g_iload hc 9 rfl dL_riffle_145 (n := 147) rfl ?_
                        refine n_if_eq hc (by omega) dL_riffle_147 (tgt := 155) (by decide) (n := 150) rfl (fun c_46 => by (exfalso; revert c_46; first | omega | decide)) (fun c_46 => ?_)
                        refine g_iload hc 6 rfl dL_riffle_150 (n := 152) rfl ?_
                        refine g_goto (n := 157) hc dL_riffle_152 (by decide) ?_
                        refine n_if_le hc (by omega) dL_riffle_157 (tgt := 164) (by decide) (n := 160) rfl (fun c_47 => ?_) (fun c_47 => ?_)
                        · skip
                          refine g_iconst (v := nI 0) hc (by decide) dL_riffle_164 (n := 165) rfl ?_
                          refine g_istore (lv2 := [(0, .ref p0), (1, .ref b0), (2, .ref g0), (3, .int fx), (4, .ref w0), (5, .int (nI (spl (gf 2)))), (6, .int (nI (u1 - 1))), (7, .int (nI l1)), (8, .int (nI i1)), (9, .int (nI 1)), (10, .int (nI 0))]) hc (by decide) [1, 2, 3, 4, 5, 6, 7, 8, 9, 10, 0] rfl rfl dL_riffle_165 (n := 167) rfl ?_
                          refine n_iinc (v := i1 + 1) (zk := 1) (lv2 := [(0, .ref p0), (1, .ref b0), (2, .ref g0), (3, .int fx), (4, .ref w0), (5, .int (nI (spl (gf 2)))), (6, .int (nI (u1 - 1))), (7, .int (nI l1)), (8, .int (nI (i1 + 1))), (9, .int (nI 1)), (10, .int (nI 0))]) hc 8 rfl (by decide) rfl (by decide) [1, 2, 3, 4, 5, 6, 7, 8, 0, 9, 10] rfl rfl dL_riffle_167 (n := 170) rfl ?_
                          refine g_goto (n := 64) hc dL_riffle_170 (by decide) ?_
                          exact ih_28 0 1 (i1 + 1) (u1 - 1) l1 Y (va_up p1 i1 (pf ((spl (gf 2)) - u1))) (by omega) (hq2) (Or.inl ⟨rfl, ⟨hx2, by first | exact Or.inl (by omega) | exact Or.inr (Or.inl (by omega)) | exact Or.inr (Or.inr (hb2.trans (hbb.no hcl (by first | exact Or.inl (by assumption) | exact Or.inr (by assumption)))))⟩, by omega⟩) (by assumption) (fun k hk => (Nat.lt_succ_iff_lt_or_eq.mp hk).elim (fun q => (va_up_ne _ _ (by omega)).trans (hg1 k q)) (fun q => by subst q; rw [va_up_self]; exact hcd.symm)) (by omega)
                        · skip
                          refine g_iconst (v := nI 1) hc (by decide) dL_riffle_160 (n := 161) rfl ?_
                          refine g_goto (n := 165) hc dL_riffle_161 (by decide) ?_
                          refine g_istore (lv2 := [(0, .ref p0), (1, .ref b0), (2, .ref g0), (3, .int fx), (4, .ref w0), (5, .int (nI (spl (gf 2)))), (6, .int (nI (u1 - 1))), (7, .int (nI l1)), (8, .int (nI i1)), (9, .int (nI 1)), (10, .int (nI 1))]) hc (by decide) [1, 2, 3, 4, 5, 6, 7, 8, 9, 10, 0] rfl rfl dL_riffle_165 (n := 167) rfl ?_
                          refine n_iinc (v := i1 + 1) (zk := 1) (lv2 := [(0, .ref p0), (1, .ref b0), (2, .ref g0), (3, .int fx), (4, .ref w0), (5, .int (nI (spl (gf 2)))), (6, .int (nI (u1 - 1))), (7, .int (nI l1)), (8, .int (nI (i1 + 1))), (9, .int (nI 1)), (10, .int (nI 1))]) hc 8 rfl (by decide) rfl (by decide) [1, 2, 3, 4, 5, 6, 7, 8, 0, 9, 10] rfl rfl dL_riffle_167 (n := 170) rfl ?_
                          refine g_goto (n := 64) hc dL_riffle_170 (by decide) ?_
                          exact ih_28 1 1 (i1 + 1) (u1 - 1) l1 Y (va_up p1 i1 (pf ((spl (gf 2)) - u1))) (by omega) (hq2) (Or.inr ⟨rfl, rk_1 hq2 hx2 (by omega) (hb2.trans (hbb.yes hcl (by assumption) (by assumption))) hf2, by omega⟩) (by assumption) (fun k hk => (Nat.lt_succ_iff_lt_or_eq.mp hk).elim (fun q => (va_up_ne _ _ (by omega)).trans (hg1 k q)) (fun q => by subst q; rw [va_up_self]; exact hcd.symm)) (by omega)
            exact L_27 _ 1 0 i u l (nx X) pp (by omega) (hq) (Or.inr ⟨rfl, rd_0 hq ht (by omega) (by omega) (by omega), by omega⟩) (nx_lt X) (hg) (Nat.lt_succ_self _)
          · skip
            refine g_iconst (v := nI 1) hc (by decide) dL_riffle_54 (n := 55) rfl ?_
            refine g_goto (n := 59) hc dL_riffle_55 (by decide) ?_
            refine g_istore (lv2 := [(0, .ref p0), (1, .ref b0), (2, .ref g0), (3, .int fx), (4, .ref w0), (5, .int (nI (spl (gf 2)))), (6, .int (nI u)), (7, .int (nI l)), (8, .int (nI i)), (9, .int (nI 1))]) hc (by decide) [1, 2, 3, 4, 5, 6, 7, 8, 9, 0] rfl rfl dL_riffle_59 (n := 61) rfl ?_
            refine g_iconst (v := nI 1) hc (by decide) dL_riffle_61 (n := 62) rfl ?_
            refine g_istore (lv2 := [(0, .ref p0), (1, .ref b0), (2, .ref g0), (3, .int fx), (4, .ref w0), (5, .int (nI (spl (gf 2)))), (6, .int (nI u)), (7, .int (nI l)), (8, .int (nI i)), (9, .int (nI 1)), (10, .int (nI 1))]) hc (by decide) [1, 2, 3, 4, 5, 6, 7, 8, 9, 10, 0] rfl rfl dL_riffle_62 (n := 64) rfl ?_
            have L_48 : ∀ (fuel : Nat) (s1 : Nat) (f1 : Nat) (i1 : Nat) (u1 : Nat) (l1 : Nat) (Y : Nat) (p1 : Nat → Nat), (f1 ≤ 1) → (Rq pf bb (spl (gf 2)) (nx (gf 2)) i1 u1 l1) → ((s1 = 0 ∧ Rt pf bb (spl (gf 2)) (nx (gf 2)) i1 Y u1 l1 ∧ u1 + l1 < u + l) ∨ (s1 = 1 ∧ Rn pf bb (spl (gf 2)) (nx (gf 2)) i1 Y u1 l1 f1 ∧ u1 + l1 ≤ u + l)) → (Y < 2 ^ 31) → (∀ k, k < i1 → p1 k = rcd pf bb (spl (gf 2)) (nx (gf 2)) k) → u1 + l1 < fuel → G κ Γ A 11 0 0 Q [(b0, aI κ 52 bf), (p0, aI κ 52 p1), (w0, aI κ 52 pf), (g0, aI κ 9 (va_up gf 2 Y))] 64 [(0, .ref p0), (1, .ref b0), (2, .ref g0), (3, .int fx), (4, .ref w0), (5, .int (nI (spl (gf 2)))), (6, .int (nI u1)), (7, .int (nI l1)), (8, .int (nI i1)), (9, .int (nI f1)), (10, .int (nI s1))] [] := by
              intro fuel
              induction fuel with
              | zero => intro s1 f1 i1 u1 l1 Y p1 hf1 hq1 hs1 hY hg1 h; exact absurd h (Nat.not_lt_zero _)
              | succ fuel ih_49 =>
                intro s1 f1 i1 u1 l1 Y p1 hf1 hq1 hs1 hY hg1 hn_50
                obtain ⟨a1, a2, a3, a4, a5, a6⟩ := id hq1
                refine g_iload hc 10 rfl dL_riffle_64 (n := 66) rfl ?_
                refine n_if_eq hc (by omega) dL_riffle_66 (tgt := 173) (by decide) (n := 69) rfl (fun c_51 => ?_) (fun c_51 => ?_)
                · skip
                  obtain ⟨-, hrt, hlt⟩ := hs1.resolve_right (fun z => by omega)
                  refine g_goto (n := 30) hc dL_riffle_173 (by decide) ?_
                  refine g_lsub (lv' := [(0, .ref p0), (1, .ref b0), (2, .ref g0), (3, .int fx), (4, .ref w0), (5, .int (nI (spl (gf 2)))), (6, .int (nI u1)), (7, .int (nI l1)), (8, .int (nI i1))]) [0, 1, 2, 3, 4, 5, 6, 7, 8] rfl ?_
                  exact ih_2 i1 u1 l1 Y p1 (hq1) (hrt) (by assumption) (hg1) (by omega)
                · skip
                  obtain ⟨-, hrn, hle⟩ := hs1.resolve_left (fun z => by omega)
                  refine g_aload_n hc 0 rfl rfl dL_riffle_69 (n := 70) rfl ?_
                  refine g_iload hc 8 rfl dL_riffle_70 (n := 72) rfl ?_
                  refine g_iload hc 9 rfl dL_riffle_72 (n := 74) rfl ?_
                  refine n_if_eq hc (by omega) dL_riffle_74 (tgt := 88) (by decide) (n := 77) rfl (fun c_52 => ?_) (fun c_52 => ?_)
                  · skip
                    have ef : f1 = 0 := by omega
                    subst ef
                    obtain ⟨⟨hq2, hx2, hb2, hf2⟩, hpos, hcd⟩ := ra_0 hq1 hrn
                    refine g_aload hc 4 rfl dL_riffle_88 (n := 90) rfl ?_
                    refine g_bipush (v := nI 52) hc (by decide) dL_riffle_90 (n := 92) rfl ?_
                    refine g_iload hc 7 rfl dL_riffle_92 (n := 94) rfl ?_
                    refine n_isub (v := 52 - l1) hc (by omega) rfl dL_riffle_94 (n := 95) rfl ?_
                    refine n_iald (v := pf (52 - l1)) hc 2 rfl (by omega) (by decide) rfl dL_riffle_95 (n := 96) rfl ?_
                    have b_53 := hp.1 (52 - l1) (by omega)
                    have hcl := hp.1 (52 - l1) (by omega)
                    refine n_iast (ws' := [(b0, aI κ 52 bf), (p0, aI κ 52 (va_up p1 i1 (pf (52 - l1)))), (w0, aI κ 52 pf), (g0, aI κ 9 (va_up gf 2 Y))]) hc 1 rfl (by omega) (by decide) rfl dL_riffle_96 (n := 97) rfl ?_
                    refine g_iload hc 6 rfl dL_riffle_97 (n := 99) rfl ?_
                    refine g_iload hc 9 rfl dL_riffle_99 (n := 101) rfl ?_
                    refine n_if_eq hc (by omega) dL_riffle_101 (tgt := 108) (by decide) (n := 104) rfl (fun c_54 => ?_) (fun c_54 => by (exfalso; revert c_54; first | omega | decide))
                    refine g_iconst (v := nI 0) hc (by decide) dL_riffle_108 (n := 109) rfl ?_
                    refine n_isub (v := u1) hc (by omega) rfl dL_riffle_109 (n := 110) rfl ?_
                    refine g_istore (lv2 := [(0, .ref p0), (1, .ref b0), (2, .ref g0), (3, .int fx), (4, .ref w0), (5, .int (nI (spl (gf 2)))), (6, .int (nI u1)), (7, .int (nI l1)), (8, .int (nI i1)), (9, .int (nI 0)), (10, .int (nI s1))]) hc (by decide) [1, 2, 3, 4, 5, 6, 0, 7, 8, 9, 10] rfl rfl dL_riffle_110 (n := 112) rfl ?_
                    refine g_iload hc 7 rfl dL_riffle_112 (n := 114) rfl ?_
                    refine g_iload hc 9 rfl dL_riffle_114 (n := 116) rfl ?_
                    refine n_if_eq hc (by omega) dL_riffle_116 (tgt := 123) (by decide) (n := 119) rfl (fun c_55 => ?_) (fun c_55 => by (exfalso; revert c_55; first | omega | decide))
                    refine g_iconst (v := nI 1) hc (by decide) dL_riffle_123 (n := 124) rfl ?_
                    refine n_isub (v := l1 - 1) hc (by omega) rfl dL_riffle_124 (n := 125) rfl ?_
                    refine g_istore (lv2 := [(0, .ref p0), (1, .ref b0), (2, .ref g0), (3, .int fx), (4, .ref w0), (5, .int (nI (spl (gf 2)))), (6, .int (nI u1)), (7, .int (nI (l1 - 1))), (8, .int (nI i1)), (9, .int (nI 0)), (10, .int (nI s1))]) hc (by decide) [1, 2, 3, 4, 5, 6, 7, 0, 8, 9, 10] rfl rfl dL_riffle_125 (n := 127) rfl ?_
                    refine g_aload_n hc 1 rfl rfl dL_riffle_127 (n := 128) rfl ?_
                    refine g_aload_n hc 0 rfl rfl dL_riffle_128 (n := 129) rfl ?_
                    refine g_iload hc 8 rfl dL_riffle_129 (n := 131) rfl ?_
                    refine n_iald (v := pf (52 - l1)) hc 1 rfl (by omega) (by decide) (va_up_self _ _ _) dL_riffle_131 (n := 132) rfl ?_
                    refine n_iald (v := bf (pf (52 - l1))) hc 0 rfl (by omega) (by decide) rfl dL_riffle_132 (n := 133) rfl ?_
                    have b_56 := hb (pf (52 - l1)) (by omega)
                    refine g_iconst (v := nI 1) hc (by decide) dL_riffle_133 (n := 134) rfl ?_
                    refine n_icmp_ne hc (by omega) (by omega) dL_riffle_134 (tgt := 164) (by decide) (n := 137) rfl (fun c_57 => ?_) (fun c_57 => ?_)
                    · skip
                      refine g_iconst (v := nI 0) hc (by decide) dL_riffle_164 (n := 165) rfl ?_
                      refine g_istore (lv2 := [(0, .ref p0), (1, .ref b0), (2, .ref g0), (3, .int fx), (4, .ref w0), (5, .int (nI (spl (gf 2)))), (6, .int (nI u1)), (7, .int (nI (l1 - 1))), (8, .int (nI i1)), (9, .int (nI 0)), (10, .int (nI 0))]) hc (by decide) [1, 2, 3, 4, 5, 6, 7, 8, 9, 10, 0] rfl rfl dL_riffle_165 (n := 167) rfl ?_
                      refine n_iinc (v := i1 + 1) (zk := 1) (lv2 := [(0, .ref p0), (1, .ref b0), (2, .ref g0), (3, .int fx), (4, .ref w0), (5, .int (nI (spl (gf 2)))), (6, .int (nI u1)), (7, .int (nI (l1 - 1))), (8, .int (nI (i1 + 1))), (9, .int (nI 0)), (10, .int (nI 0))]) hc 8 rfl (by decide) rfl (by decide) [1, 2, 3, 4, 5, 6, 7, 8, 0, 9, 10] rfl rfl dL_riffle_167 (n := 170) rfl ?_
                      refine g_goto (n := 64) hc dL_riffle_170 (by decide) ?_
                      exact ih_49 0 0 (i1 + 1) u1 (l1 - 1) Y (va_up p1 i1 (pf (52 - l1))) (by omega) (hq2) (Or.inl ⟨rfl, ⟨hx2, by first | exact Or.inl (by omega) | exact Or.inr (Or.inl (by omega)) | exact Or.inr (Or.inr (hb2.trans (hbb.no hcl (by first | exact Or.inl (by assumption) | exact Or.inr (by assumption)))))⟩, by omega⟩) (by assumption) (fun k hk => (Nat.lt_succ_iff_lt_or_eq.mp hk).elim (fun q => (va_up_ne _ _ (by omega)).trans (hg1 k q)) (fun q => by subst q; rw [va_up_self]; exact hcd.symm)) (by omega)
                    · skip
                      refine g_aload_n hc 0 rfl rfl dL_riffle_137 (n := 138) rfl ?_
                      refine g_iload hc 8 rfl dL_riffle_138 (n := 140) rfl ?_
                      refine n_iald (v := pf (52 - l1)) hc 1 rfl (by omega) (by decide) (va_up_self _ _ _) dL_riffle_140 (n := 141) rfl ?_
                      refine g_iload_n hc 3 rfl rfl dL_riffle_141 (n := 142) rfl ?_
                      refine g_icmp_eq hc dL_riffle_142 (tgt := 164) (by decide) (n := 145) rfl (fun c_58 => ?_) (fun c_58 => ?_)
                      · skip
                        refine g_iconst (v := nI 0) hc (by decide) dL_riffle_164 (n := 165) rfl ?_
                        refine g_istore (lv2 := [(0, .ref p0), (1, .ref b0), (2, .ref g0), (3, .int fx), (4, .ref w0), (5, .int (nI (spl (gf 2)))), (6, .int (nI u1)), (7, .int (nI (l1 - 1))), (8, .int (nI i1)), (9, .int (nI 0)), (10, .int (nI 0))]) hc (by decide) [1, 2, 3, 4, 5, 6, 7, 8, 9, 10, 0] rfl rfl dL_riffle_165 (n := 167) rfl ?_
                        refine n_iinc (v := i1 + 1) (zk := 1) (lv2 := [(0, .ref p0), (1, .ref b0), (2, .ref g0), (3, .int fx), (4, .ref w0), (5, .int (nI (spl (gf 2)))), (6, .int (nI u1)), (7, .int (nI (l1 - 1))), (8, .int (nI (i1 + 1))), (9, .int (nI 0)), (10, .int (nI 0))]) hc 8 rfl (by decide) rfl (by decide) [1, 2, 3, 4, 5, 6, 7, 8, 0, 9, 10] rfl rfl dL_riffle_167 (n := 170) rfl ?_
                        refine g_goto (n := 64) hc dL_riffle_170 (by decide) ?_
                        exact ih_49 0 0 (i1 + 1) u1 (l1 - 1) Y (va_up p1 i1 (pf (52 - l1))) (by omega) (hq2) (Or.inl ⟨rfl, ⟨hx2, by first | exact Or.inl (by omega) | exact Or.inr (Or.inl (by omega)) | exact Or.inr (Or.inr (hb2.trans (hbb.no hcl (by first | exact Or.inl (by assumption) | exact Or.inr (by assumption)))))⟩, by omega⟩) (by assumption) (fun k hk => (Nat.lt_succ_iff_lt_or_eq.mp hk).elim (fun q => (va_up_ne _ _ (by omega)).trans (hg1 k q)) (fun q => by subst q; rw [va_up_self]; exact hcd.symm)) (by omega)
                      · skip
                        refine g_iload hc 9 rfl dL_riffle_145 (n := 147) rfl ?_
                        refine n_if_eq hc (by omega) dL_riffle_147 (tgt := 155) (by decide) (n := 150) rfl (fun c_59 => ?_) (fun c_59 => by (exfalso; revert c_59; first | omega | decide))
                        refine g_iload hc 7 rfl dL_riffle_155 (n := 157) rfl ?_
                        refine n_if_le hc (by omega) dL_riffle_157 (tgt := 164) (by decide) (n := 160) rfl (fun c_60 => ?_) (fun c_60 => ?_)
                        · skip
                          refine g_iconst (v := nI 0) hc (by decide) dL_riffle_164 (n := 165) rfl ?_
                          refine g_istore (lv2 := [(0, .ref p0), (1, .ref b0), (2, .ref g0), (3, .int fx), (4, .ref w0), (5, .int (nI (spl (gf 2)))), (6, .int (nI u1)), (7, .int (nI (l1 - 1))), (8, .int (nI i1)), (9, .int (nI 0)), (10, .int (nI 0))]) hc (by decide) [1, 2, 3, 4, 5, 6, 7, 8, 9, 10, 0] rfl rfl dL_riffle_165 (n := 167) rfl ?_
                          refine n_iinc (v := i1 + 1) (zk := 1) (lv2 := [(0, .ref p0), (1, .ref b0), (2, .ref g0), (3, .int fx), (4, .ref w0), (5, .int (nI (spl (gf 2)))), (6, .int (nI u1)), (7, .int (nI (l1 - 1))), (8, .int (nI (i1 + 1))), (9, .int (nI 0)), (10, .int (nI 0))]) hc 8 rfl (by decide) rfl (by decide) [1, 2, 3, 4, 5, 6, 7, 8, 0, 9, 10] rfl rfl dL_riffle_167 (n := 170) rfl ?_
                          refine g_goto (n := 64) hc dL_riffle_170 (by decide) ?_
                          exact ih_49 0 0 (i1 + 1) u1 (l1 - 1) Y (va_up p1 i1 (pf (52 - l1))) (by omega) (hq2) (Or.inl ⟨rfl, ⟨hx2, by first | exact Or.inl (by omega) | exact Or.inr (Or.inl (by omega)) | exact Or.inr (Or.inr (hb2.trans (hbb.no hcl (by first | exact Or.inl (by assumption) | exact Or.inr (by assumption)))))⟩, by omega⟩) (by assumption) (fun k hk => (Nat.lt_succ_iff_lt_or_eq.mp hk).elim (fun q => (va_up_ne _ _ (by omega)).trans (hg1 k q)) (fun q => by subst q; rw [va_up_self]; exact hcd.symm)) (by omega)
                        · skip
                          refine g_iconst (v := nI 1) hc (by decide) dL_riffle_160 (n := 161) rfl ?_
                          refine g_goto (n := 165) hc dL_riffle_161 (by decide) ?_
                          refine g_istore (lv2 := [(0, .ref p0), (1, .ref b0), (2, .ref g0), (3, .int fx), (4, .ref w0), (5, .int (nI (spl (gf 2)))), (6, .int (nI u1)), (7, .int (nI (l1 - 1))), (8, .int (nI i1)), (9, .int (nI 0)), (10, .int (nI 1))]) hc (by decide) [1, 2, 3, 4, 5, 6, 7, 8, 9, 10, 0] rfl rfl dL_riffle_165 (n := 167) rfl ?_
                          refine n_iinc (v := i1 + 1) (zk := 1) (lv2 := [(0, .ref p0), (1, .ref b0), (2, .ref g0), (3, .int fx), (4, .ref w0), (5, .int (nI (spl (gf 2)))), (6, .int (nI u1)), (7, .int (nI (l1 - 1))), (8, .int (nI (i1 + 1))), (9, .int (nI 0)), (10, .int (nI 1))]) hc 8 rfl (by decide) rfl (by decide) [1, 2, 3, 4, 5, 6, 7, 8, 0, 9, 10] rfl rfl dL_riffle_167 (n := 170) rfl ?_
                          refine g_goto (n := 64) hc dL_riffle_170 (by decide) ?_
                          exact ih_49 1 0 (i1 + 1) u1 (l1 - 1) Y (va_up p1 i1 (pf (52 - l1))) (by omega) (hq2) (Or.inr ⟨rfl, rk_0 hq2 hx2 (by omega) (hb2.trans (hbb.yes hcl (by assumption) (by assumption))) hf2, by omega⟩) (by assumption) (fun k hk => (Nat.lt_succ_iff_lt_or_eq.mp hk).elim (fun q => (va_up_ne _ _ (by omega)).trans (hg1 k q)) (fun q => by subst q; rw [va_up_self]; exact hcd.symm)) (by omega)
                  · skip
                    have ef : f1 = 1 := by omega
                    subst ef
                    obtain ⟨⟨hq2, hx2, hb2, hf2⟩, hpos, hcd⟩ := ra_1 hq1 hrn
                    refine g_aload hc 4 rfl dL_riffle_77 (n := 79) rfl ?_
                    refine g_iload hc 5 rfl dL_riffle_79 (n := 81) rfl ?_
                    refine g_iload hc 6 rfl dL_riffle_81 (n := 83) rfl ?_
                    refine n_isub (v := (spl (gf 2)) - u1) hc (by omega) rfl dL_riffle_83 (n := 84) rfl ?_
                    refine n_iald (v := pf ((spl (gf 2)) - u1)) hc 2 rfl (by omega) (by decide) rfl dL_riffle_84 (n := 85) rfl ?_
                    have b_61 := hp.1 ((spl (gf 2)) - u1) (by omega)
                    refine g_goto (n := 96) hc dL_riffle_85 (by decide) ?_
                    have hcl := hp.1 (spl (gf 2) - u1) (by omega)
                    refine n_iast (ws' := [(b0, aI κ 52 bf), (p0, aI κ 52 (va_up p1 i1 (pf ((spl (gf 2)) - u1)))), (w0, aI κ 52 pf), (g0, aI κ 9 (va_up gf 2 Y))]) hc 1 rfl (by omega) (by decide) rfl dL_riffle_96 (n := 97) rfl ?_
                    refine g_iload hc 6 rfl dL_riffle_97 (n := 99) rfl ?_
                    refine g_iload hc 9 rfl dL_riffle_99 (n := 101) rfl ?_
                    refine n_if_eq hc (by omega) dL_riffle_101 (tgt := 108) (by decide) (n := 104) rfl (fun c_62 => by (exfalso; revert c_62; first | omega | decide)) (fun c_62 => ?_)
                    refine g_iconst (v := nI 1) hc (by decide) dL_riffle_104 (n := 105) rfl ?_
                    refine g_goto (n := 109) hc dL_riffle_105 (by decide) ?_
                    refine n_isub (v := u1 - 1) hc (by omega) rfl dL_riffle_109 (n := 110) rfl ?_
                    refine g_istore (lv2 := [(0, .ref p0), (1, .ref b0), (2, .ref g0), (3, .int fx), (4, .ref w0), (5, .int (nI (spl (gf 2)))), (6, .int (nI (u1 - 1))), (7, .int (nI l1)), (8, .int (nI i1)), (9, .int (nI 1)), (10, .int (nI s1))]) hc (by decide) [1, 2, 3, 4, 5, 6, 0, 7, 8, 9, 10] rfl rfl dL_riffle_110 (n := 112) rfl ?_
                    refine g_iload hc 7 rfl dL_riffle_112 (n := 114) rfl ?_
                    refine g_iload hc 9 rfl dL_riffle_114 (n := 116) rfl ?_
                    refine n_if_eq hc (by omega) dL_riffle_116 (tgt := 123) (by decide) (n := 119) rfl (fun c_63 => by (exfalso; revert c_63; first | omega | decide)) (fun c_63 => ?_)
                    refine g_iconst (v := nI 0) hc (by decide) dL_riffle_119 (n := 120) rfl ?_
                    refine g_goto (n := 124) hc dL_riffle_120 (by decide) ?_
                    refine n_isub (v := l1) hc (by omega) rfl dL_riffle_124 (n := 125) rfl ?_
                    refine g_istore (lv2 := [(0, .ref p0), (1, .ref b0), (2, .ref g0), (3, .int fx), (4, .ref w0), (5, .int (nI (spl (gf 2)))), (6, .int (nI (u1 - 1))), (7, .int (nI l1)), (8, .int (nI i1)), (9, .int (nI 1)), (10, .int (nI s1))]) hc (by decide) [1, 2, 3, 4, 5, 6, 7, 0, 8, 9, 10] rfl rfl dL_riffle_125 (n := 127) rfl ?_
                    refine g_aload_n hc 1 rfl rfl dL_riffle_127 (n := 128) rfl ?_
                    refine g_aload_n hc 0 rfl rfl dL_riffle_128 (n := 129) rfl ?_
                    refine g_iload hc 8 rfl dL_riffle_129 (n := 131) rfl ?_
                    refine n_iald (v := pf ((spl (gf 2)) - u1)) hc 1 rfl (by omega) (by decide) (va_up_self _ _ _) dL_riffle_131 (n := 132) rfl ?_
                    refine n_iald (v := bf (pf ((spl (gf 2)) - u1))) hc 0 rfl (by omega) (by decide) rfl dL_riffle_132 (n := 133) rfl ?_
                    have b_64 := hb (pf ((spl (gf 2)) - u1)) (by omega)
                    refine g_iconst (v := nI 1) hc (by decide) dL_riffle_133 (n := 134) rfl ?_
                    refine n_icmp_ne hc (by omega) (by omega) dL_riffle_134 (tgt := 164) (by decide) (n := 137) rfl (fun c_65 => ?_) (fun c_65 => ?_)
                    · skip
                      refine g_iconst (v := nI 0) hc (by decide) dL_riffle_164 (n := 165) rfl ?_
                      refine g_istore (lv2 := [(0, .ref p0), (1, .ref b0), (2, .ref g0), (3, .int fx), (4, .ref w0), (5, .int (nI (spl (gf 2)))), (6, .int (nI (u1 - 1))), (7, .int (nI l1)), (8, .int (nI i1)), (9, .int (nI 1)), (10, .int (nI 0))]) hc (by decide) [1, 2, 3, 4, 5, 6, 7, 8, 9, 10, 0] rfl rfl dL_riffle_165 (n := 167) rfl ?_
                      refine n_iinc (v := i1 + 1) (zk := 1) (lv2 := [(0, .ref p0), (1, .ref b0), (2, .ref g0), (3, .int fx), (4, .ref w0), (5, .int (nI (spl (gf 2)))), (6, .int (nI (u1 - 1))), (7, .int (nI l1)), (8, .int (nI (i1 + 1))), (9, .int (nI 1)), (10, .int (nI 0))]) hc 8 rfl (by decide) rfl (by decide) [1, 2, 3, 4, 5, 6, 7, 8, 0, 9, 10] rfl rfl dL_riffle_167 (n := 170) rfl ?_
                      refine g_goto (n := 64) hc dL_riffle_170 (by decide) ?_
                      exact ih_49 0 1 (i1 + 1) (u1 - 1) l1 Y (va_up p1 i1 (pf ((spl (gf 2)) - u1))) (by omega) (hq2) (Or.inl ⟨rfl, ⟨hx2, by first | exact Or.inl (by omega) | exact Or.inr (Or.inl (by omega)) | exact Or.inr (Or.inr (hb2.trans (hbb.no hcl (by first | exact Or.inl (by assumption) | exact Or.inr (by assumption)))))⟩, by omega⟩) (by assumption) (fun k hk => (Nat.lt_succ_iff_lt_or_eq.mp hk).elim (fun q => (va_up_ne _ _ (by omega)).trans (hg1 k q)) (fun q => by subst q; rw [va_up_self]; exact hcd.symm)) (by omega)
                    · skip
                      refine g_aload_n hc 0 rfl rfl dL_riffle_137 (n := 138) rfl ?_
                      refine g_iload hc 8 rfl dL_riffle_138 (n := 140) rfl ?_
                      refine n_iald (v := pf ((spl (gf 2)) - u1)) hc 1 rfl (by omega) (by decide) (va_up_self _ _ _) dL_riffle_140 (n := 141) rfl ?_
                      refine g_iload_n hc 3 rfl rfl dL_riffle_141 (n := 142) rfl ?_
                      refine g_icmp_eq hc dL_riffle_142 (tgt := 164) (by decide) (n := 145) rfl (fun c_66 => ?_) (fun c_66 => ?_)
                      · skip
                        refine g_iconst (v := nI 0) hc (by decide) dL_riffle_164 (n := 165) rfl ?_
                        refine g_istore (lv2 := [(0, .ref p0), (1, .ref b0), (2, .ref g0), (3, .int fx), (4, .ref w0), (5, .int (nI (spl (gf 2)))), (6, .int (nI (u1 - 1))), (7, .int (nI l1)), (8, .int (nI i1)), (9, .int (nI 1)), (10, .int (nI 0))]) hc (by decide) [1, 2, 3, 4, 5, 6, 7, 8, 9, 10, 0] rfl rfl dL_riffle_165 (n := 167) rfl ?_
                        refine n_iinc (v := i1 + 1) (zk := 1) (lv2 := [(0, .ref p0), (1, .ref b0), (2, .ref g0), (3, .int fx), (4, .ref w0), (5, .int (nI (spl (gf 2)))), (6, .int (nI (u1 - 1))), (7, .int (nI l1)), (8, .int (nI (i1 + 1))), (9, .int (nI 1)), (10, .int (nI 0))]) hc 8 rfl (by decide) rfl (by decide) [1, 2, 3, 4, 5, 6, 7, 8, 0, 9, 10] rfl rfl dL_riffle_167 (n := 170) rfl ?_
                        refine g_goto (n := 64) hc dL_riffle_170 (by decide) ?_
                        exact ih_49 0 1 (i1 + 1) (u1 - 1) l1 Y (va_up p1 i1 (pf ((spl (gf 2)) - u1))) (by omega) (hq2) (Or.inl ⟨rfl, ⟨hx2, by first | exact Or.inl (by omega) | exact Or.inr (Or.inl (by omega)) | exact Or.inr (Or.inr (hb2.trans (hbb.no hcl (by first | exact Or.inl (by assumption) | exact Or.inr (by assumption)))))⟩, by omega⟩) (by assumption) (fun k hk => (Nat.lt_succ_iff_lt_or_eq.mp hk).elim (fun q => (va_up_ne _ _ (by omega)).trans (hg1 k q)) (fun q => by subst q; rw [va_up_self]; exact hcd.symm)) (by omega)
                      · skip
                        refine g_iload hc 9 rfl dL_riffle_145 (n := 147) rfl ?_
                        refine n_if_eq hc (by omega) dL_riffle_147 (tgt := 155) (by decide) (n := 150) rfl (fun c_67 => by (exfalso; revert c_67; first | omega | decide)) (fun c_67 => ?_)
                        refine g_iload hc 6 rfl dL_riffle_150 (n := 152) rfl ?_
                        refine g_goto (n := 157) hc dL_riffle_152 (by decide) ?_
                        refine n_if_le hc (by omega) dL_riffle_157 (tgt := 164) (by decide) (n := 160) rfl (fun c_68 => ?_) (fun c_68 => ?_)
                        · skip
                          refine g_iconst (v := nI 0) hc (by decide) dL_riffle_164 (n := 165) rfl ?_
                          refine g_istore (lv2 := [(0, .ref p0), (1, .ref b0), (2, .ref g0), (3, .int fx), (4, .ref w0), (5, .int (nI (spl (gf 2)))), (6, .int (nI (u1 - 1))), (7, .int (nI l1)), (8, .int (nI i1)), (9, .int (nI 1)), (10, .int (nI 0))]) hc (by decide) [1, 2, 3, 4, 5, 6, 7, 8, 9, 10, 0] rfl rfl dL_riffle_165 (n := 167) rfl ?_
                          refine n_iinc (v := i1 + 1) (zk := 1) (lv2 := [(0, .ref p0), (1, .ref b0), (2, .ref g0), (3, .int fx), (4, .ref w0), (5, .int (nI (spl (gf 2)))), (6, .int (nI (u1 - 1))), (7, .int (nI l1)), (8, .int (nI (i1 + 1))), (9, .int (nI 1)), (10, .int (nI 0))]) hc 8 rfl (by decide) rfl (by decide) [1, 2, 3, 4, 5, 6, 7, 8, 0, 9, 10] rfl rfl dL_riffle_167 (n := 170) rfl ?_
                          refine g_goto (n := 64) hc dL_riffle_170 (by decide) ?_
                          exact ih_49 0 1 (i1 + 1) (u1 - 1) l1 Y (va_up p1 i1 (pf ((spl (gf 2)) - u1))) (by omega) (hq2) (Or.inl ⟨rfl, ⟨hx2, by first | exact Or.inl (by omega) | exact Or.inr (Or.inl (by omega)) | exact Or.inr (Or.inr (hb2.trans (hbb.no hcl (by first | exact Or.inl (by assumption) | exact Or.inr (by assumption)))))⟩, by omega⟩) (by assumption) (fun k hk => (Nat.lt_succ_iff_lt_or_eq.mp hk).elim (fun q => (va_up_ne _ _ (by omega)).trans (hg1 k q)) (fun q => by subst q; rw [va_up_self]; exact hcd.symm)) (by omega)
                        · skip
                          refine g_iconst (v := nI 1) hc (by decide) dL_riffle_160 (n := 161) rfl ?_
                          refine g_goto (n := 165) hc dL_riffle_161 (by decide) ?_
                          refine g_istore (lv2 := [(0, .ref p0), (1, .ref b0), (2, .ref g0), (3, .int fx), (4, .ref w0), (5, .int (nI (spl (gf 2)))), (6, .int (nI (u1 - 1))), (7, .int (nI l1)), (8, .int (nI i1)), (9, .int (nI 1)), (10, .int (nI 1))]) hc (by decide) [1, 2, 3, 4, 5, 6, 7, 8, 9, 10, 0] rfl rfl dL_riffle_165 (n := 167) rfl ?_
                          refine n_iinc (v := i1 + 1) (zk := 1) (lv2 := [(0, .ref p0), (1, .ref b0), (2, .ref g0), (3, .int fx), (4, .ref w0), (5, .int (nI (spl (gf 2)))), (6, .int (nI (u1 - 1))), (7, .int (nI l1)), (8, .int (nI (i1 + 1))), (9, .int (nI 1)), (10, .int (nI 1))]) hc 8 rfl (by decide) rfl (by decide) [1, 2, 3, 4, 5, 6, 7, 8, 0, 9, 10] rfl rfl dL_riffle_167 (n := 170) rfl ?_
                          refine g_goto (n := 64) hc dL_riffle_170 (by decide) ?_
                          exact ih_49 1 1 (i1 + 1) (u1 - 1) l1 Y (va_up p1 i1 (pf ((spl (gf 2)) - u1))) (by omega) (hq2) (Or.inr ⟨rfl, rk_1 hq2 hx2 (by omega) (hb2.trans (hbb.yes hcl (by assumption) (by assumption))) hf2, by omega⟩) (by assumption) (fun k hk => (Nat.lt_succ_iff_lt_or_eq.mp hk).elim (fun q => (va_up_ne _ _ (by omega)).trans (hg1 k q)) (fun q => by subst q; rw [va_up_self]; exact hcd.symm)) (by omega)
            exact L_48 _ 1 1 i u l (nx X) pp (by omega) (hq) (Or.inr ⟨rfl, rd_1 hq ht (by omega) (by omega) (by omega), by omega⟩) (nx_lt X) (hg) (Nat.lt_succ_self _)
  exact L_1 _ 0 (spl (gf 2)) (52 - (spl (gf 2))) (nx (gf 2)) pf (rq_0 (gf 2)) (rt_0 (gf 2)) (nx_lt (gf 2)) (fun k hk => absurd hk (Nat.not_lt_zero _)) (Nat.lt_succ_self _)
set_option maxHeartbeats 1000000 in
set_option maxRecDepth 100000 in
theorem c_L_kept (κ : Kp) (l : Launch) (p0 : Nat) (q0 : Nat) (pf : Nat → Nat) (qf : Nat → Nat) (hp : Perm pf) (hq : Perm qf) : CT κ l yL_kept cL_kept 5 (some .int) 0 0 0 0 [.ref p0, .ref q0] [(p0, aI κ 52 pf), (q0, aI κ 52 qf)] (PI (fun rr ww => rr = (nI (kp pf qf)) ∧ ww = [(p0, aI κ 52 pf), (q0, aI κ 52 qf)])) := by
  refine CT.go (by decide +kernel) (Nat.le_of_ble_eq_true rfl) ?_
  intro Γ A Q hl hc hret
  subst hl
  have hc : Cx κ Γ A cL_kept 5 RL "kept" (some .int) { frames := 0, cells := 0, slots := 0, locals := 0 } := hc
  refine g_lv (lv' := [(0, .ref p0), (1, .ref q0)]) rfl ?_
  refine g_iconst (v := nI 0) hc (by decide) dL_kept_0 (n := 1) rfl ?_
  refine g_istore_n (lv2 := [(0, .ref p0), (1, .ref q0), (2, .int (nI 0))]) hc rfl (by decide) [1, 2, 0] rfl rfl dL_kept_1 (n := 2) rfl ?_
  refine g_iconst (v := nI 0) hc (by decide) dL_kept_2 (n := 3) rfl ?_
  refine g_istore_n (lv2 := [(0, .ref p0), (1, .ref q0), (2, .int (nI 0)), (3, .int (nI 0))]) hc rfl (by decide) [1, 2, 3, 0] rfl rfl dL_kept_3 (n := 4) rfl ?_
  have L_1 : ∀ (fuel : Nat) (i : Nat) (n : Nat), (i ≤ 51) → (n = sm (fun k => if inv qf (pf (k + 1)) = inv qf (pf k) + 1 then 1 else 0) i) → 51 - i < fuel → G κ Γ A 5 0 0 Q [(p0, aI κ 52 pf), (q0, aI κ 52 qf)] 4 [(0, .ref p0), (1, .ref q0), (2, .int (nI n)), (3, .int (nI i))] [] := by
    intro fuel
    induction fuel with
    | zero => intro i n hi hs h; exact absurd h (Nat.not_lt_zero _)
    | succ fuel ih_2 =>
      intro i n hi hs hn_3
      refine g_iload_n hc 3 rfl rfl dL_kept_4 (n := 5) rfl ?_
      refine g_bipush (v := nI 51) hc (by decide) dL_kept_5 (n := 7) rfl ?_
      refine n_icmp_ge hc (by omega) (by omega) dL_kept_7 (tgt := 64) (by decide) (n := 10) rfl (fun c_4 => ?_) (fun c_4 => ?_)
      · skip
        refine g_iload_n hc 2 rfl rfl dL_kept_64 (n := 65) rfl ?_
        refine hret.1 _ _ _ _ _ _ rfl (by decide) (by decide) dL_kept_65 ?_
        exact ⟨_, rfl, (by have e9 : i = 51 := (by omega); subst e9; rw [hs]; rfl), rfl⟩
      · skip
        refine g_iconst (v := nI 0) hc (by decide) dL_kept_10 (n := 11) rfl ?_
        refine g_istore (lv2 := [(0, .ref p0), (1, .ref q0), (2, .int (nI n)), (3, .int (nI i)), (4, .int (nI 0))]) hc (by decide) [1, 2, 3, 4, 0] rfl rfl dL_kept_11 (n := 13) rfl ?_
        have L_5 : ∀ (fuel : Nat) (m : Nat), (m ≤ inv qf (pf i)) → (m < 52) → 52 - m < fuel → G κ Γ A 5 0 0 Q [(p0, aI κ 52 pf), (q0, aI κ 52 qf)] 13 [(0, .ref p0), (1, .ref q0), (2, .int (nI n)), (3, .int (nI i)), (4, .int (nI m))] [] := by
          intro fuel
          induction fuel with
          | zero => intro m hm hm5 h; exact absurd h (Nat.not_lt_zero _)
          | succ fuel ih_6 =>
            intro m hm hm5 hn_7
            refine g_aload_n hc 1 rfl rfl dL_kept_13 (n := 14) rfl ?_
            refine g_iload hc 4 rfl dL_kept_14 (n := 16) rfl ?_
            refine n_iald (v := qf m) hc 1 rfl (by omega) (by decide) rfl dL_kept_16 (n := 17) rfl ?_
            have b_8 := hq.1 m (by omega)
            refine g_aload_n hc 0 rfl rfl dL_kept_17 (n := 18) rfl ?_
            refine g_iload_n hc 3 rfl rfl dL_kept_18 (n := 19) rfl ?_
            refine n_iald (v := pf i) hc 0 rfl (by omega) (by decide) rfl dL_kept_19 (n := 20) rfl ?_
            have b_9 := hp.1 i (by omega)
            refine n_icmp_eq hc (by omega) (by omega) dL_kept_20 (tgt := 29) (by decide) (n := 23) rfl (fun c_10 => ?_) (fun c_10 => ?_)
            · skip
              have hat : inv qf (pf i) = m := kq_e hq (by omega) (by assumption)
              refine g_iload_n hc 2 rfl rfl dL_kept_29 (n := 30) rfl ?_
              refine g_iload hc 4 rfl dL_kept_30 (n := 32) rfl ?_
              refine g_bipush (v := nI 51) hc (by decide) dL_kept_32 (n := 34) rfl ?_
              refine n_icmp_ge hc (by omega) (by omega) dL_kept_34 (tgt := 55) (by decide) (n := 37) rfl (fun c_11 => ?_) (fun c_11 => ?_)
              · skip
                have hkv : (if inv qf (pf (i + 1)) = inv qf (pf i) + 1 then 1 else 0) = 0 := by rw [hat]; exact if_neg (kq_0 hq (hp.1 (i + 1) (by omega)) (Or.inl (by assumption)))
                refine g_iconst (v := nI 0) hc (by decide) dL_kept_55 (n := 56) rfl ?_
                refine n_iadd (v := n + 0) hc rfl dL_kept_56 (n := 57) rfl ?_
                refine g_istore_n (lv2 := [(0, .ref p0), (1, .ref q0), (2, .int (nI (n + 0))), (3, .int (nI i)), (4, .int (nI m))]) hc rfl (by decide) [1, 2, 0, 3, 4] rfl rfl dL_kept_57 (n := 58) rfl ?_
                refine n_iinc (v := i + 1) (zk := 1) (lv2 := [(0, .ref p0), (1, .ref q0), (2, .int (nI (n + 0))), (3, .int (nI (i + 1))), (4, .int (nI m))]) hc 3 rfl (by decide) rfl (by decide) [1, 2, 3, 0, 4] rfl rfl dL_kept_58 (n := 61) rfl ?_
                refine g_goto (n := 4) hc dL_kept_61 (by decide) ?_
                refine g_lsub (lv' := [(0, .ref p0), (1, .ref q0), (2, .int (nI (n + 0))), (3, .int (nI (i + 1)))]) [0, 1, 2, 3] rfl ?_
                exact ih_2 (i + 1) (n + 0) (by omega) (by rw [sm_s, ← hs, hkv]) (by omega)
              · skip
                refine g_aload_n hc 1 rfl rfl dL_kept_37 (n := 38) rfl ?_
                refine g_iload hc 4 rfl dL_kept_38 (n := 40) rfl ?_
                refine g_iconst (v := nI 1) hc (by decide) dL_kept_40 (n := 41) rfl ?_
                refine n_iadd (v := m + 1) hc rfl dL_kept_41 (n := 42) rfl ?_
                refine n_iald (v := qf (m + 1)) hc 1 rfl (by omega) (by decide) rfl dL_kept_42 (n := 43) rfl ?_
                have b_12 := hq.1 (m + 1) (by omega)
                refine g_aload_n hc 0 rfl rfl dL_kept_43 (n := 44) rfl ?_
                refine g_iload_n hc 3 rfl rfl dL_kept_44 (n := 45) rfl ?_
                refine g_iconst (v := nI 1) hc (by decide) dL_kept_45 (n := 46) rfl ?_
                refine n_iadd (v := i + 1) hc rfl dL_kept_46 (n := 47) rfl ?_
                refine n_iald (v := pf (i + 1)) hc 0 rfl (by omega) (by decide) rfl dL_kept_47 (n := 48) rfl ?_
                have b_13 := hp.1 (i + 1) (by omega)
                refine n_icmp_ne hc (by omega) (by omega) dL_kept_48 (tgt := 55) (by decide) (n := 51) rfl (fun c_14 => ?_) (fun c_14 => ?_)
                · skip
                  have hkv : (if inv qf (pf (i + 1)) = inv qf (pf i) + 1 then 1 else 0) = 0 := by rw [hat]; exact if_neg (kq_0 hq (hp.1 (i + 1) (by omega)) (Or.inr (by assumption)))
                  refine g_iconst (v := nI 0) hc (by decide) dL_kept_55 (n := 56) rfl ?_
                  refine n_iadd (v := n + 0) hc rfl dL_kept_56 (n := 57) rfl ?_
                  refine g_istore_n (lv2 := [(0, .ref p0), (1, .ref q0), (2, .int (nI (n + 0))), (3, .int (nI i)), (4, .int (nI m))]) hc rfl (by decide) [1, 2, 0, 3, 4] rfl rfl dL_kept_57 (n := 58) rfl ?_
                  refine n_iinc (v := i + 1) (zk := 1) (lv2 := [(0, .ref p0), (1, .ref q0), (2, .int (nI (n + 0))), (3, .int (nI (i + 1))), (4, .int (nI m))]) hc 3 rfl (by decide) rfl (by decide) [1, 2, 3, 0, 4] rfl rfl dL_kept_58 (n := 61) rfl ?_
                  refine g_goto (n := 4) hc dL_kept_61 (by decide) ?_
                  refine g_lsub (lv' := [(0, .ref p0), (1, .ref q0), (2, .int (nI (n + 0))), (3, .int (nI (i + 1)))]) [0, 1, 2, 3] rfl ?_
                  exact ih_2 (i + 1) (n + 0) (by omega) (by rw [sm_s, ← hs, hkv]) (by omega)
                · skip
                  have hkv : (if inv qf (pf (i + 1)) = inv qf (pf i) + 1 then 1 else 0) = 1 := by rw [hat]; exact if_pos (kq_1 hq (by omega) (by assumption))
                  refine g_iconst (v := nI 1) hc (by decide) dL_kept_51 (n := 52) rfl ?_
                  refine g_goto (n := 56) hc dL_kept_52 (by decide) ?_
                  refine n_iadd (v := n + 1) hc rfl dL_kept_56 (n := 57) rfl ?_
                  refine g_istore_n (lv2 := [(0, .ref p0), (1, .ref q0), (2, .int (nI (n + 1))), (3, .int (nI i)), (4, .int (nI m))]) hc rfl (by decide) [1, 2, 0, 3, 4] rfl rfl dL_kept_57 (n := 58) rfl ?_
                  refine n_iinc (v := i + 1) (zk := 1) (lv2 := [(0, .ref p0), (1, .ref q0), (2, .int (nI (n + 1))), (3, .int (nI (i + 1))), (4, .int (nI m))]) hc 3 rfl (by decide) rfl (by decide) [1, 2, 3, 0, 4] rfl rfl dL_kept_58 (n := 61) rfl ?_
                  refine g_goto (n := 4) hc dL_kept_61 (by decide) ?_
                  refine g_lsub (lv' := [(0, .ref p0), (1, .ref q0), (2, .int (nI (n + 1))), (3, .int (nI (i + 1)))]) [0, 1, 2, 3] rfl ?_
                  exact ih_2 (i + 1) (n + 1) (by omega) (by rw [sm_s, ← hs, hkv]) (by omega)
            · skip
              obtain ⟨hm1, hm2⟩ := kq_n hq (hp.1 i (by omega)) hm (by assumption)
              refine n_iinc (v := m + 1) (zk := 1) (lv2 := [(0, .ref p0), (1, .ref q0), (2, .int (nI n)), (3, .int (nI i)), (4, .int (nI (m + 1)))]) hc 4 rfl (by decide) rfl (by decide) [1, 2, 3, 4, 0] rfl rfl dL_kept_23 (n := 26) rfl ?_
              refine g_goto (n := 13) hc dL_kept_26 (by decide) ?_
              exact ih_6 (m + 1) (by omega) (by omega) (by omega)
        exact L_5 _ 0 (by omega) (by omega) (Nat.lt_succ_self _)
  exact L_1 _ 0 0 (by omega) (rfl) (Nat.lt_succ_self _)
set_option maxHeartbeats 1000000 in
set_option maxRecDepth 100000 in
theorem c_L_keptIf (κ : Kp) (l : Launch) (p0 : Nat) (b0 : Nat) (g0 : Nat) (m : Nat) (q0 : Nat) (w0 : Nat) (e0 : Nat) (fx : Int32) (pf : Nat → Nat) (bf : Nat → Nat) (gf : Nat → Nat) (qf : Nat → Nat) (wf : Nat → Nat) (ef : Nat → Nat) (bb : Nat → Nat) (hp : Perm pf) (hx : gf 2 < 2 ^ 31) (hb : ∀ k, k < 52 → bf k ≤ 1) (hbb : Bb bf bb fx) (hm : m < 2 ^ 31) : CT κ l yL_keptIf cL_keptIf 9 (some .int) 2 53 0 0 [.ref p0, .ref b0, .ref g0, .int (nI m), .int fx, .ref q0, .ref w0, .ref e0] [(p0, aI κ 52 pf), (b0, aI κ 52 bf), (g0, aI κ 9 gf), (q0, aI κ 52 qf), (w0, aI κ 52 wf), (e0, aI κ 9 ef)] (PI (fun rr ww => ∃ w2 : Nat → Nat, rr = (nI (kp pf (rit bb pf (gf 2) m).2)) ∧ ww = [(p0, aI κ 52 pf), (b0, aI κ 52 bf), (g0, aI κ 9 gf), (q0, aI κ 52 ((rit bb pf (gf 2) m).2)), (w0, aI κ 52 w2), (e0, aI κ 9 (va_up gf 2 (rit bb pf (gf 2) m).1))])) := by
  refine CT.go (by decide +kernel) (Nat.le_of_ble_eq_true rfl) ?_
  intro Γ A Q hl hc hret
  subst hl
  have hc : Cx κ Γ A cL_keptIf 9 RL "keptIf" (some .int) { frames := 2, cells := 0, slots := 0, locals := 53 } := hc
  refine g_lv (lv' := [(0, .ref p0), (1, .ref b0), (2, .ref g0), (3, .int (nI m)), (4, .int fx), (5, .ref q0), (6, .ref w0), (7, .ref e0)]) rfl ?_
  refine g_aload_n hc 0 rfl rfl dL_keptIf_0 (n := 1) rfl ?_
  refine g_aload hc 5 rfl dL_keptIf_1 (n := 3) rfl ?_
  refine g_callS (rest := []) (As := [.ref p0, .ref q0]) (cells' := 0) (slots' := 0) hc (c_L_copy52 κ _ p0 q0 pf qf ) q_L_copy k_ml_RL_15 rfl rfl (jn_ix (wr := [(b0, aI κ 52 bf), (g0, aI κ 9 gf), (w0, aI κ 52 wf), (e0, aI κ 9 ef)]) [0, 3] [1, 2, 4, 5] rfl rfl rfl rfl (by decide)) ⟨⟨by decide, by decide⟩, by decide, by decide⟩ (Nat.le_of_ble_eq_true rfl) rfl rfl dL_keptIf_3 (n := 6) rfl (fun vv ww hp => ?_)
  obtain ⟨rfl, rfl⟩ := hp
  refine ⟨_, rfl, ?_⟩
  refine g_ws (ws' := [(b0, aI κ 52 bf), (g0, aI κ 9 gf), (w0, aI κ 52 wf), (e0, aI κ 9 ef), (p0, aI κ 52 pf), (q0, aI κ 52 pf)]) rfl ?_
  refine g_st (st' := []) rfl ?_
  refine g_aload_n hc 2 rfl rfl dL_keptIf_6 (n := 7) rfl ?_
  refine g_aload hc 7 rfl dL_keptIf_7 (n := 9) rfl ?_
  refine g_callS (rest := []) (As := [.ref g0, .ref e0]) (cells' := 0) (slots' := 0) hc (c_L_copy9 κ _ g0 e0 gf ef ) q_L_copy k_ml_RL_15 rfl rfl (jn_ix (wr := [(b0, aI κ 52 bf), (w0, aI κ 52 wf), (p0, aI κ 52 pf), (q0, aI κ 52 pf)]) [1, 3] [0, 2, 4, 5] rfl rfl rfl rfl (by decide)) ⟨⟨by decide, by decide⟩, by decide, by decide⟩ (Nat.le_of_ble_eq_true rfl) rfl rfl dL_keptIf_9 (n := 12) rfl (fun vv ww hp => ?_)
  obtain ⟨rfl, rfl⟩ := hp
  refine ⟨_, rfl, ?_⟩
  refine g_ws (ws' := [(b0, aI κ 52 bf), (w0, aI κ 52 wf), (p0, aI κ 52 pf), (q0, aI κ 52 pf), (g0, aI κ 9 gf), (e0, aI κ 9 gf)]) rfl ?_
  refine g_st (st' := []) rfl ?_
  refine g_arr (ws' := [(b0, aI κ 52 bf), (w0, aI κ 52 wf), (p0, aI κ 52 pf), (q0, aI κ 52 pf), (g0, aI κ 9 gf), (e0, aI κ 9 (va_up gf 2 (gf 2)))]) (f := gf) (g := va_up gf 2 (gf 2)) 5 rfl (fun k _ => (up_id gf 2 k).symm) rfl ?_
  refine g_iconst (v := nI 0) hc (by decide) dL_keptIf_12 (n := 13) rfl ?_
  refine g_istore (lv2 := [(0, .ref p0), (1, .ref b0), (2, .ref g0), (3, .int (nI m)), (4, .int fx), (5, .ref q0), (6, .ref w0), (7, .ref e0), (8, .int (nI 0))]) hc (by decide) [1, 2, 3, 4, 5, 6, 7, 8, 0] rfl rfl dL_keptIf_13 (n := 15) rfl ?_
  have L_1 : ∀ (fuel : Nat) (i : Nat) (w : Nat → Nat), (i ≤ m) → m - i < fuel → G κ Γ A 9 0 0 Q [(b0, aI κ 52 bf), (w0, aI κ 52 w), (p0, aI κ 52 pf), (q0, aI κ 52 ((rit bb pf (gf 2) i).2)), (g0, aI κ 9 gf), (e0, aI κ 9 (va_up gf 2 (rit bb pf (gf 2) i).1))] 15 [(0, .ref p0), (1, .ref b0), (2, .ref g0), (3, .int (nI m)), (4, .int fx), (5, .ref q0), (6, .ref w0), (7, .ref e0), (8, .int (nI i))] [] := by
    intro fuel
    induction fuel with
    | zero => intro i w hi h; exact absurd h (Nat.not_lt_zero _)
    | succ fuel ih_2 =>
      intro i w hi hn_3
      refine g_iload hc 8 rfl dL_keptIf_15 (n := 17) rfl ?_
      refine g_iload_n hc 3 rfl rfl dL_keptIf_17 (n := 18) rfl ?_
      refine n_icmp_ge hc (by omega) (by omega) dL_keptIf_18 (tgt := 39) (by decide) (n := 21) rfl (fun c_4 => ?_) (fun c_4 => ?_)
      · skip
        refine g_aload_n hc 0 rfl rfl dL_keptIf_39 (n := 40) rfl ?_
        refine g_aload hc 5 rfl dL_keptIf_40 (n := 42) rfl ?_
        have e9 : i = m := by omega
        subst e9
        refine g_callS (rest := []) (As := [.ref p0, .ref q0]) (cells' := 0) (slots' := 0) hc (c_L_kept κ _ p0 q0 pf ((rit bb pf (gf 2) i).2) hp (rit_in (b := bb) hp hx i).2) q_L_kept k_ml_RL_29 rfl rfl (jn_ix (wr := [(b0, aI κ 52 bf), (w0, aI κ 52 w), (g0, aI κ 9 gf), (e0, aI κ 9 (va_up gf 2 (rit bb pf (gf 2) i).1))]) [2, 3] [0, 1, 4, 5] rfl rfl rfl rfl (by decide)) ⟨⟨by decide, by decide⟩, by decide, by decide⟩ (Nat.le_of_ble_eq_true rfl) rfl rfl dL_keptIf_42 (n := 45) rfl (fun vv ww hp => ?_)
        obtain ⟨rr, rfl, rfl, rfl⟩ := hp
        refine ⟨_, rfl, ?_⟩
        refine g_ws (ws' := [(b0, aI κ 52 bf), (w0, aI κ 52 w), (g0, aI κ 9 gf), (e0, aI κ 9 (va_up gf 2 (rit bb pf (gf 2) i).1)), (p0, aI κ 52 pf), (q0, aI κ 52 ((rit bb pf (gf 2) i).2))]) rfl ?_
        refine g_st (st' := [.int (nI (kp pf ((rit bb pf (gf 2) i).2)))]) rfl ?_
        refine g_sub (ws' := [(p0, aI κ 52 pf), (b0, aI κ 52 bf), (g0, aI κ 9 gf), (q0, aI κ 52 ((rit bb pf (gf 2) i).2)), (w0, aI κ 52 w), (e0, aI κ 9 (va_up gf 2 (rit bb pf (gf 2) i).1))]) [4, 0, 2, 5, 1, 3] rfl rfl ?_
        refine hret.1 _ _ _ _ _ _ rfl (by decide) (by decide) dL_keptIf_45 ?_
        exact ⟨_, rfl, w, rfl, rfl⟩
      · skip
        refine g_aload hc 5 rfl dL_keptIf_21 (n := 23) rfl ?_
        refine g_aload_n hc 1 rfl rfl dL_keptIf_23 (n := 24) rfl ?_
        refine g_aload hc 7 rfl dL_keptIf_24 (n := 26) rfl ?_
        refine g_iload hc 4 rfl dL_keptIf_26 (n := 28) rfl ?_
        refine g_aload hc 6 rfl dL_keptIf_28 (n := 30) rfl ?_
        have hin := rit_in (b := bb) hp hx i
        refine g_callS (rest := []) (As := [.ref q0, .ref b0, .ref e0, .int fx, .ref w0]) (cells' := 0) (slots' := 0) hc (c_L_riffle κ _ q0 b0 e0 w0 fx ((rit bb pf (gf 2) i).2) bf (va_up gf 2 (rit bb pf (gf 2) i).1) w bb hin.2 (by rw [va_up_self]; exact hin.1) hb hbb) q_L_riffle k_ml_RL_25 rfl rfl (jn_ix (wr := [(p0, aI κ 52 pf), (g0, aI κ 9 gf)]) [3, 0, 5, 1] [2, 4] rfl rfl rfl rfl (by decide)) ⟨⟨by decide, by decide⟩, by decide, by decide⟩ (Nat.le_of_ble_eq_true rfl) rfl rfl dL_keptIf_30 (n := 33) rfl (fun vv ww hp => ?_)
        obtain ⟨rfl, rfl⟩ := hp
        refine ⟨_, rfl, ?_⟩
        refine g_ws (ws' := [(p0, aI κ 52 pf), (g0, aI κ 9 gf), (q0, aI κ 52 (rfp bb ((rit bb pf (gf 2) i).2) ((va_up gf 2 (rit bb pf (gf 2) i).1) 2))), (b0, aI κ 52 bf), (e0, aI κ 9 (va_up (va_up gf 2 (rit bb pf (gf 2) i).1) 2 (rfx bb ((rit bb pf (gf 2) i).2) ((va_up gf 2 (rit bb pf (gf 2) i).1) 2)))), (w0, aI κ 52 ((rit bb pf (gf 2) i).2))]) rfl ?_
        refine g_st (st' := []) rfl ?_
        refine g_arr (ws' := [(p0, aI κ 52 pf), (g0, aI κ 9 gf), (q0, aI κ 52 ((rit bb pf (gf 2) (i + 1)).2)), (b0, aI κ 52 bf), (e0, aI κ 9 (va_up (va_up gf 2 (rit bb pf (gf 2) i).1) 2 (rfx bb ((rit bb pf (gf 2) i).2) ((va_up gf 2 (rit bb pf (gf 2) i).1) 2)))), (w0, aI κ 52 ((rit bb pf (gf 2) i).2))]) (f := rfp bb ((rit bb pf (gf 2) i).2) ((va_up gf 2 (rit bb pf (gf 2) i).1) 2)) (g := (rit bb pf (gf 2) (i + 1)).2) 2 rfl (fun k _ => by rw [va_up_self, rit_p]) rfl ?_
        refine g_arr (ws' := [(p0, aI κ 52 pf), (g0, aI κ 9 gf), (q0, aI κ 52 ((rit bb pf (gf 2) (i + 1)).2)), (b0, aI κ 52 bf), (e0, aI κ 9 (va_up gf 2 (rit bb pf (gf 2) (i + 1)).1)), (w0, aI κ 52 ((rit bb pf (gf 2) i).2))]) (f := va_up (va_up gf 2 (rit bb pf (gf 2) i).1) 2 (rfx bb ((rit bb pf (gf 2) i).2) ((va_up gf 2 (rit bb pf (gf 2) i).1) 2))) (g := va_up gf 2 (rit bb pf (gf 2) (i + 1)).1) 4 rfl (fun k _ => by rw [va_up_self, rit_x]; exact up_up k) rfl ?_
        refine n_iinc (v := i + 1) (zk := 1) (lv2 := [(0, .ref p0), (1, .ref b0), (2, .ref g0), (3, .int (nI m)), (4, .int fx), (5, .ref q0), (6, .ref w0), (7, .ref e0), (8, .int (nI (i + 1)))]) hc 8 rfl (by decide) rfl (by decide) [1, 2, 3, 4, 5, 6, 7, 8, 0] rfl rfl dL_keptIf_33 (n := 36) rfl ?_
        refine g_goto (n := 15) hc dL_keptIf_36 (by decide) ?_
        refine g_sub (ws' := [(b0, aI κ 52 bf), (w0, aI κ 52 ((rit bb pf (gf 2) i).2)), (p0, aI κ 52 pf), (q0, aI κ 52 ((rit bb pf (gf 2) (i + 1)).2)), (g0, aI κ 9 gf), (e0, aI κ 9 (va_up gf 2 (rit bb pf (gf 2) (i + 1)).1))]) [3, 5, 0, 2, 1, 4] rfl rfl ?_
        exact ih_2 (i + 1) ((rit bb pf (gf 2) i).2) (by omega) (by omega)
  exact L_1 _ 0 wf (by omega) (Nat.lt_succ_self _)
set_option maxHeartbeats 1000000 in
set_option maxRecDepth 100000 in
theorem c_L_points (κ : Kp) (l : Launch) (h0 : Nat) (d : Nat) (hf : Nat → Nat) (hh : ∀ k, k < 52 → hf k < 4) (hd : d < 4) : CT κ l yL_points cL_points 4 (some .int) 0 0 0 0 [.ref h0, .int (nI d)] [(h0, aI κ 52 hf)] (PI (fun rr ww => rr = (nI (pt hf d)) ∧ ww = [(h0, aI κ 52 hf)])) := by
  refine CT.go (by decide +kernel) (Nat.le_of_ble_eq_true rfl) ?_
  intro Γ A Q hl hc hret
  subst hl
  have hc : Cx κ Γ A cL_points 4 RL "points" (some .int) { frames := 0, cells := 0, slots := 0, locals := 0 } := hc
  refine g_lv (lv' := [(0, .ref h0), (1, .int (nI d))]) rfl ?_
  refine g_iconst (v := nI 0) hc (by decide) dL_points_0 (n := 1) rfl ?_
  refine g_istore_n (lv2 := [(0, .ref h0), (1, .int (nI d)), (2, .int (nI 0))]) hc rfl (by decide) [1, 2, 0] rfl rfl dL_points_1 (n := 2) rfl ?_
  refine g_iconst (v := nI 0) hc (by decide) dL_points_2 (n := 3) rfl ?_
  refine g_istore_n (lv2 := [(0, .ref h0), (1, .int (nI d)), (2, .int (nI 0)), (3, .int (nI 0))]) hc rfl (by decide) [1, 2, 3, 0] rfl rfl dL_points_3 (n := 4) rfl ?_
  have L_1 : ∀ (fuel : Nat) (i : Nat) (s : Nat), (i ≤ 52) → (s = sm (fun k => if hf k = d then k % 13 - 8 else 0) i) → 52 - i < fuel → G κ Γ A 4 0 0 Q [(h0, aI κ 52 hf)] 4 [(0, .ref h0), (1, .int (nI d)), (2, .int (nI s)), (3, .int (nI i))] [] := by
    intro fuel
    induction fuel with
    | zero => intro i s hi hs h; exact absurd h (Nat.not_lt_zero _)
    | succ fuel ih_2 =>
      intro i s hi hs hn_3
      refine g_iload_n hc 3 rfl rfl dL_points_4 (n := 5) rfl ?_
      refine g_bipush (v := nI 52) hc (by decide) dL_points_5 (n := 7) rfl ?_
      refine n_icmp_ge hc (by omega) (by omega) dL_points_7 (tgt := 46) (by decide) (n := 10) rfl (fun c_4 => ?_) (fun c_4 => ?_)
      · skip
        refine g_iload_n hc 2 rfl rfl dL_points_46 (n := 47) rfl ?_
        refine hret.1 _ _ _ _ _ _ rfl (by decide) (by decide) dL_points_47 ?_
        exact ⟨_, rfl, (by have e9 : i = 52 := (by omega); subst e9; rw [hs]; rfl), rfl⟩
      · skip
        refine g_iload_n hc 2 rfl rfl dL_points_10 (n := 11) rfl ?_
        refine g_aload_n hc 0 rfl rfl dL_points_11 (n := 12) rfl ?_
        refine g_iload_n hc 3 rfl rfl dL_points_12 (n := 13) rfl ?_
        refine n_iald (v := hf i) hc 0 rfl (by omega) (by decide) rfl dL_points_13 (n := 14) rfl ?_
        have b_5 := hh i (by omega)
        refine g_iload_n hc 1 rfl rfl dL_points_14 (n := 15) rfl ?_
        refine n_icmp_ne hc (by omega) (by omega) dL_points_15 (tgt := 37) (by decide) (n := 18) rfl (fun c_6 => ?_) (fun c_6 => ?_)
        · skip
          refine g_iconst (v := nI 0) hc (by decide) dL_points_37 (n := 38) rfl ?_
          refine n_iadd (v := s + 0) hc rfl dL_points_38 (n := 39) rfl ?_
          refine g_istore_n (lv2 := [(0, .ref h0), (1, .int (nI d)), (2, .int (nI (s + 0))), (3, .int (nI i))]) hc rfl (by decide) [1, 2, 0, 3] rfl rfl dL_points_39 (n := 40) rfl ?_
          refine n_iinc (v := i + 1) (zk := 1) (lv2 := [(0, .ref h0), (1, .int (nI d)), (2, .int (nI (s + 0))), (3, .int (nI (i + 1)))]) hc 3 rfl (by decide) rfl (by decide) [1, 2, 3, 0] rfl rfl dL_points_40 (n := 43) rfl ?_
          refine g_goto (n := 4) hc dL_points_43 (by decide) ?_
          exact ih_2 (i + 1) (s + 0) (by omega) (by rw [sm_s, ← hs]; first | (split <;> omega) | omega) (by omega)
        · skip
          refine g_iload_n hc 3 rfl rfl dL_points_18 (n := 19) rfl ?_
          refine g_bipush (v := nI 13) hc (by decide) dL_points_19 (n := 21) rfl ?_
          refine n_irem (v := i % 13) hc (by omega) (by decide) (by decide) rfl dL_points_21 (n := 22) rfl ?_
          refine g_bipush (v := nI 8) hc (by decide) dL_points_22 (n := 24) rfl ?_
          refine n_icmp_le hc (by omega) (by omega) dL_points_24 (tgt := 37) (by decide) (n := 27) rfl (fun c_7 => ?_) (fun c_7 => ?_)
          · skip
            refine g_iconst (v := nI 0) hc (by decide) dL_points_37 (n := 38) rfl ?_
            refine n_iadd (v := s + 0) hc rfl dL_points_38 (n := 39) rfl ?_
            refine g_istore_n (lv2 := [(0, .ref h0), (1, .int (nI d)), (2, .int (nI (s + 0))), (3, .int (nI i))]) hc rfl (by decide) [1, 2, 0, 3] rfl rfl dL_points_39 (n := 40) rfl ?_
            refine n_iinc (v := i + 1) (zk := 1) (lv2 := [(0, .ref h0), (1, .int (nI d)), (2, .int (nI (s + 0))), (3, .int (nI (i + 1)))]) hc 3 rfl (by decide) rfl (by decide) [1, 2, 3, 0] rfl rfl dL_points_40 (n := 43) rfl ?_
            refine g_goto (n := 4) hc dL_points_43 (by decide) ?_
            exact ih_2 (i + 1) (s + 0) (by omega) (by rw [sm_s, ← hs]; first | (split <;> omega) | omega) (by omega)
          · skip
            refine g_iload_n hc 3 rfl rfl dL_points_27 (n := 28) rfl ?_
            refine g_bipush (v := nI 13) hc (by decide) dL_points_28 (n := 30) rfl ?_
            refine n_irem (v := i % 13) hc (by omega) (by decide) (by decide) rfl dL_points_30 (n := 31) rfl ?_
            refine g_bipush (v := nI 8) hc (by decide) dL_points_31 (n := 33) rfl ?_
            refine n_isub (v := (i % 13) - 8) hc (by omega) rfl dL_points_33 (n := 34) rfl ?_
            refine g_goto (n := 38) hc dL_points_34 (by decide) ?_
            refine n_iadd (v := s + ((i % 13) - 8)) hc rfl dL_points_38 (n := 39) rfl ?_
            refine g_istore_n (lv2 := [(0, .ref h0), (1, .int (nI d)), (2, .int (nI (s + ((i % 13) - 8)))), (3, .int (nI i))]) hc rfl (by decide) [1, 2, 0, 3] rfl rfl dL_points_39 (n := 40) rfl ?_
            refine n_iinc (v := i + 1) (zk := 1) (lv2 := [(0, .ref h0), (1, .int (nI d)), (2, .int (nI (s + ((i % 13) - 8)))), (3, .int (nI (i + 1)))]) hc 3 rfl (by decide) rfl (by decide) [1, 2, 3, 0] rfl rfl dL_points_40 (n := 43) rfl ?_
            refine g_goto (n := 4) hc dL_points_43 (by decide) ?_
            exact ih_2 (i + 1) (s + ((i % 13) - 8)) (by omega) (by rw [sm_s, ← hs]; first | (split <;> omega) | omega) (by omega)
  exact L_1 _ 0 0 (by omega) (rfl) (Nat.lt_succ_self _)
