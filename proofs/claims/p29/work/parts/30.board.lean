set_option maxHeartbeats 1000000 in
set_option maxRecDepth 100000 in
theorem c_X0_init (κ : Kp) (l : Launch) (h0 : Nat)  : CT κ l yX0_init cX0_init 1 none 1 20 1 52 [.ref h0] [(h0, .inr (0, [.null, .int (nI 0), .int (nI 0), .int (nI 0)]))] (PV (fun ww => ∃ q1 : Nat, ww = [(h0, .inr (0, [.ref q1, .int (nI 0), .int (nI 0), .int (nI 0)])), (q1, aI κ 52 (fun _ => 0))])) := by
  refine CT.go (plainFor_of_name (by decide)) (Nat.le_of_ble_eq_true rfl) ?_
  intro Γ A Q hl hc hret
  subst hl
  have hc : Cx κ Γ A cX0_init 1 RX0 "<init>" none { frames := 1, cells := 1, slots := 52, locals := 20 } := hc
  refine g_lv (lv' := [(0, .ref h0)]) rfl ?_
  refine g_aload_n hc 0 rfl rfl dX0_init_0 (n := 1) rfl ?_
  refine g_objInit (rest := []) hc k_ml_RX0_3 ⟨by decide, Nat.le_of_ble_eq_true rfl⟩ dX0_init_1 (n := 4) rfl ?_
  refine g_aload_n hc 0 rfl rfl dX0_init_4 (n := 5) rfl ?_
  refine g_bipush (v := nI 52) hc (by decide) dX0_init_5 (n := 7) rfl ?_
  refine n_newI hc k_ac_int (by decide) ⟨by decide, by decide⟩ (cells' := 1) (slots' := 52) rfl rfl dX0_init_7 (n := 9) rfl (fun q_1 => ?_)
  refine g_ws (ws' := [(h0, .inr (0, [.null, .int (nI 0), .int (nI 0), .int (nI 0)])), (q_1, aI κ 52 (fun _ => 0))]) rfl ?_
  refine g_putF (ws' := [(h0, .inr (0, [.ref q_1, .int (nI 0), .int (nI 0), .int (nI 0)])), (q_1, aI κ 52 (fun _ => 0))]) hc 0 rfl vw_0 inX0 tyX0_ok nmX0 0 (by decide) k_fl_RX0_9 rfl rfl rfl rfl rfl rfl (Nat.le_of_ble_eq_true rfl) rfl dX0_init_9 (n := 12) rfl ?_
  refine hret.2.2.1 _ _ _ _ _ rfl (by decide) (by decide) dX0_init_12 ?_
  exact ⟨rfl, q_1, rfl⟩
set_option maxHeartbeats 1000000 in
set_option maxRecDepth 100000 in
theorem c_X0_copyFrom (κ : Kp) (l : Launch) (h0 : Nat) (a0 : Nat) (has : Nat) (cl : Nat) (rep : Nat) (h : Nat → Nat) (h1 : Nat) (a1 : Nat) (has1 : Nat) (cl1 : Nat) (rep1 : Nat) (g : Nat → Nat) (hz1 : has1 ≤ 1) (hz2 : cl1 ≤ 1) : CT κ l yX0_copyFrom cX0_copyFrom 2 none 1 40 0 0 [.ref h0, .ref h1] [(h0, .inr (0, [.ref a0, .int (nI has), .int (nI cl), .int (nI rep)])), (a0, aI κ 52 h), (h1, .inr (0, [.ref a1, .int (nI has1), .int (nI cl1), .int (nI rep1)])), (a1, aI κ 52 g)] (PV (fun ww => ww = [(h0, .inr (0, [.ref a0, .int (nI has1), .int (nI cl1), .int (nI rep1)])), (a0, aI κ 52 g), (h1, .inr (0, [.ref a1, .int (nI has1), .int (nI cl1), .int (nI rep1)])), (a1, aI κ 52 g)])) := by
  refine CT.go (plainFor_of_name (by decide)) (Nat.le_of_ble_eq_true rfl) ?_
  intro Γ A Q hl hc hret
  subst hl
  have hc : Cx κ Γ A cX0_copyFrom 2 RX0 "copyFrom" none { frames := 1, cells := 0, slots := 0, locals := 40 } := hc
  refine g_lv (lv' := [(0, .ref h0), (1, .ref h1)]) rfl ?_
  refine g_aload_n hc 1 rfl rfl dX0_copyFrom_0 (n := 1) rfl ?_
  refine g_getf hc 2 rfl vw_0 inX0 0 (by decide) k_fl_RX0_9 rfl rfl dX0_copyFrom_1 (n := 4) rfl ?_
  refine g_iconst (v := nI 0) hc (by decide) dX0_copyFrom_4 (n := 5) rfl ?_
  refine g_aload_n hc 0 rfl rfl dX0_copyFrom_5 (n := 6) rfl ?_
  refine g_getf hc 0 rfl vw_0 inX0 0 (by decide) k_fl_RX0_9 rfl rfl dX0_copyFrom_6 (n := 9) rfl ?_
  refine g_iconst (v := nI 0) hc (by decide) dX0_copyFrom_9 (n := 10) rfl ?_
  refine g_bipush (v := nI 52) hc (by decide) dX0_copyFrom_10 (n := 12) rfl ?_
  refine n_copy (ws' := [(h0, .inr (0, [.ref a0, .int (nI has), .int (nI cl), .int (nI rep)])), (a0, aI κ 52 (va_cpy g h 0 0 52)), (h1, .inr (0, [.ref a1, .int (nI has1), .int (nI cl1), .int (nI rep1)])), (a1, aI κ 52 g)]) (f := g) (g := h) hc 3 1 0 rfl rfl rfl rfl (by omega) (by omega) (by decide) (by decide) (fun _ _ => rfl) k_ml_RX0_15 ⟨by decide, Nat.le_of_ble_eq_true rfl⟩ rfl dX0_copyFrom_12 (n := 15) rfl ?_
  refine g_aload_n hc 0 rfl rfl dX0_copyFrom_15 (n := 16) rfl ?_
  refine g_aload_n hc 1 rfl rfl dX0_copyFrom_16 (n := 17) rfl ?_
  refine g_getf hc 2 rfl vw_0 inX0 1 (by decide) k_fl_RX0_21 rfl rfl dX0_copyFrom_17 (n := 20) rfl ?_
  refine g_putf (ws' := [(h0, .inr (0, [.ref a0, .int (nI has1), .int (nI cl), .int (nI rep)])), (a0, aI κ 52 (va_cpy g h 0 0 52)), (h1, .inr (0, [.ref a1, .int (nI has1), .int (nI cl1), .int (nI rep1)])), (a1, aI κ 52 g)]) hc 0 rfl vw_0 inX0 tyX0_ok nmX0 1 (by decide) k_fl_RX0_21 rfl rfl (nar_z (by omega)) (fit_z (by omega)) (Nat.le_of_ble_eq_true rfl) rfl dX0_copyFrom_20 (n := 23) rfl ?_
  refine g_aload_n hc 0 rfl rfl dX0_copyFrom_23 (n := 24) rfl ?_
  refine g_aload_n hc 1 rfl rfl dX0_copyFrom_24 (n := 25) rfl ?_
  refine g_getf hc 2 rfl vw_0 inX0 2 (by decide) k_fl_RX0_25 rfl rfl dX0_copyFrom_25 (n := 28) rfl ?_
  refine g_putf (ws' := [(h0, .inr (0, [.ref a0, .int (nI has1), .int (nI cl1), .int (nI rep)])), (a0, aI κ 52 (va_cpy g h 0 0 52)), (h1, .inr (0, [.ref a1, .int (nI has1), .int (nI cl1), .int (nI rep1)])), (a1, aI κ 52 g)]) hc 0 rfl vw_0 inX0 tyX0_ok nmX0 2 (by decide) k_fl_RX0_25 rfl rfl (nar_z (by omega)) (fit_z (by omega)) (Nat.le_of_ble_eq_true rfl) rfl dX0_copyFrom_28 (n := 31) rfl ?_
  refine g_aload_n hc 0 rfl rfl dX0_copyFrom_31 (n := 32) rfl ?_
  refine g_aload_n hc 1 rfl rfl dX0_copyFrom_32 (n := 33) rfl ?_
  refine g_getf hc 2 rfl vw_0 inX0 3 (by decide) k_fl_RX0_28 rfl rfl dX0_copyFrom_33 (n := 36) rfl ?_
  refine g_putf (ws' := [(h0, .inr (0, [.ref a0, .int (nI has1), .int (nI cl1), .int (nI rep1)])), (a0, aI κ 52 (va_cpy g h 0 0 52)), (h1, .inr (0, [.ref a1, .int (nI has1), .int (nI cl1), .int (nI rep1)])), (a1, aI κ 52 g)]) hc 0 rfl vw_0 inX0 tyX0_ok nmX0 3 (by decide) k_fl_RX0_28 rfl rfl rfl rfl (Nat.le_of_ble_eq_true rfl) rfl dX0_copyFrom_36 (n := 39) rfl ?_
  refine g_arr (ws' := [(h0, .inr (0, [.ref a0, .int (nI has1), .int (nI cl1), .int (nI rep1)])), (a0, aI κ 52 g), (h1, .inr (0, [.ref a1, .int (nI has1), .int (nI cl1), .int (nI rep1)])), (a1, aI κ 52 g)]) (f := va_cpy g h 0 0 52) (g := g) 1 rfl (fun k hk => by rw [va_cpy, if_pos ⟨Nat.zero_le k, by omega⟩]; simp) rfl ?_
  refine hret.2.2.1 _ _ _ _ _ rfl (by decide) (by decide) dX0_copyFrom_39 ?_
  exact ⟨rfl, rfl⟩
set_option maxHeartbeats 1000000 in
set_option maxRecDepth 100000 in
theorem c_J9_max (κ : Kp) (l : Launch) (x : Int32) (y : Int32)  : CT κ l yJ9_max_7cf53 cJ9_max_7cf53 2 (some .int) 0 0 0 0 [.int x, .int y] [] (PI (fun rr ww => rr = (if x < y then y else x) ∧ ww = [])) := by
  refine CT.go (by decide +kernel) (Nat.le_of_ble_eq_true rfl) ?_
  intro Γ A Q hl hc hret
  subst hl
  have hc : Cx κ Γ A cJ9_max_7cf53 2 RJ9 "max" (some .int) { frames := 0, cells := 0, slots := 0, locals := 0 } := hc
  refine g_lv (lv' := [(0, .int x), (1, .int y)]) rfl ?_
  refine g_iload_n hc 0 rfl rfl dJ9_max_7cf53_0 (n := 1) rfl ?_
  refine g_iload_n hc 1 rfl rfl dJ9_max_7cf53_1 (n := 2) rfl ?_
  refine g_icmp_lt hc dJ9_max_7cf53_2 (tgt := 9) (by decide) (n := 5) rfl (fun c_1 => ?_) (fun c_1 => ?_)
  · skip
    refine g_iload_n hc 1 rfl rfl dJ9_max_7cf53_9 (n := 10) rfl ?_
    refine hret.1 _ _ _ _ _ _ rfl (by decide) (by decide) dJ9_max_7cf53_10 ?_
    exact ⟨_, rfl, ((if_pos (by assumption)).symm), rfl⟩
  · skip
    refine g_iload_n hc 0 rfl rfl dJ9_max_7cf53_5 (n := 6) rfl ?_
    refine g_goto (n := 10) hc dJ9_max_7cf53_6 (by decide) ?_
    refine hret.1 _ _ _ _ _ _ rfl (by decide) (by decide) dJ9_max_7cf53_10 ?_
    exact ⟨_, rfl, ((if_neg (by assumption)).symm), rfl⟩
set_option maxHeartbeats 1000000 in
set_option maxRecDepth 100000 in
theorem c_X0_giveOut (κ : Kp) (l : Launch) (h0 : Nat) (a0 : Nat) (has : Nat) (cl : Nat) (rep : Nat) (h : Nat → Nat) (h1 : Nat) (p : Nat → Nat) (hp : Perm p) : CT κ l yX0_giveOut cX0_giveOut 4 none 0 0 0 0 [.ref h0, .ref h1] [(h0, .inr (0, [.ref a0, .int (nI has), .int (nI cl), .int (nI rep)])), (a0, aI κ 52 h), (h1, aI κ 52 p)] (PV (fun ww => ∃ g : Nat → Nat, (∀ c, c < 52 → g c = inv p c % 4) ∧ ww = [(h0, .inr (0, [.ref a0, .int (nI 1), .int (nI cl), .int (nI 0)])), (a0, aI κ 52 g), (h1, aI κ 52 p)])) := by
  refine CT.go (plainFor_of_name (by decide)) (Nat.le_of_ble_eq_true rfl) ?_
  intro Γ A Q hl hc hret
  subst hl
  have hc : Cx κ Γ A cX0_giveOut 4 RX0 "giveOut" none { frames := 0, cells := 0, slots := 0, locals := 0 } := hc
  refine g_lv (lv' := [(0, .ref h0), (1, .ref h1)]) rfl ?_
  refine g_iconst (v := nI 0) hc (by decide) dX0_giveOut_0 (n := 1) rfl ?_
  refine g_istore_n (lv2 := [(0, .ref h0), (1, .ref h1), (2, .int (nI 0))]) hc rfl (by decide) [1, 2, 0] rfl rfl dX0_giveOut_1 (n := 2) rfl ?_
  have L_1 : ∀ (fuel : Nat) (i : Nat) (g : Nat → Nat), (i ≤ 52) → (∀ k, k < i → g (p k) = k % 4) → 52 - i < fuel → G κ Γ A 4 0 0 Q [(h0, .inr (0, [.ref a0, .int (nI has), .int (nI cl), .int (nI rep)])), (a0, aI κ 52 g), (h1, aI κ 52 p)] 2 [(0, .ref h0), (1, .ref h1), (2, .int (nI i))] [] := by
    intro fuel
    induction fuel with
    | zero => intro i g hi hg h; exact absurd h (Nat.not_lt_zero _)
    | succ fuel ih_2 =>
      intro i g hi hg hn_3
      refine g_iload_n hc 2 rfl rfl dX0_giveOut_2 (n := 3) rfl ?_
      refine g_bipush (v := nI 52) hc (by decide) dX0_giveOut_3 (n := 5) rfl ?_
      refine n_icmp_ge hc (by omega) (by omega) dX0_giveOut_5 (tgt := 37) (by decide) (n := 8) rfl (fun c_4 => ?_) (fun c_4 => ?_)
      · skip
        refine g_aload_n hc 0 rfl rfl dX0_giveOut_37 (n := 38) rfl ?_
        refine g_iconst (v := nI 1) hc (by decide) dX0_giveOut_38 (n := 39) rfl ?_
        refine g_putf (ws' := [(h0, .inr (0, [.ref a0, .int (nI 1), .int (nI cl), .int (nI rep)])), (a0, aI κ 52 g), (h1, aI κ 52 p)]) hc 0 rfl vw_0 inX0 tyX0_ok nmX0 1 (by decide) k_fl_RX0_21 rfl rfl rfl rfl (Nat.le_of_ble_eq_true rfl) rfl dX0_giveOut_39 (n := 42) rfl ?_
        refine g_aload_n hc 0 rfl rfl dX0_giveOut_42 (n := 43) rfl ?_
        refine g_iconst (v := nI 0) hc (by decide) dX0_giveOut_43 (n := 44) rfl ?_
        refine g_putf (ws' := [(h0, .inr (0, [.ref a0, .int (nI 1), .int (nI cl), .int (nI 0)])), (a0, aI κ 52 g), (h1, aI κ 52 p)]) hc 0 rfl vw_0 inX0 tyX0_ok nmX0 3 (by decide) k_fl_RX0_28 rfl rfl rfl rfl (Nat.le_of_ble_eq_true rfl) rfl dX0_giveOut_44 (n := 47) rfl ?_
        refine hret.2.2.1 _ _ _ _ _ rfl (by decide) (by decide) dX0_giveOut_47 ?_
        exact ⟨rfl, g, (fun c hc => by obtain ⟨e1, e2⟩ := p_inv hp hc; have := hg (inv p c) (by omega); rwa [e1] at this), rfl⟩
      · skip
        refine g_aload_n hc 1 rfl rfl dX0_giveOut_8 (n := 9) rfl ?_
        refine g_iload_n hc 2 rfl rfl dX0_giveOut_9 (n := 10) rfl ?_
        refine n_iald (v := p i) hc 2 rfl (by omega) (by decide) rfl dX0_giveOut_10 (n := 11) rfl ?_
        have b_5 := hp.1 i (by omega)
        refine g_istore_n (lv2 := [(0, .ref h0), (1, .ref h1), (2, .int (nI i)), (3, .int (nI (p i)))]) hc rfl (by decide) [1, 2, 3, 0] rfl rfl dX0_giveOut_11 (n := 12) rfl ?_
        refine g_iload_n hc 3 rfl rfl dX0_giveOut_12 (n := 13) rfl ?_
        refine n_if_lt hc (by omega) dX0_giveOut_13 (tgt := 31) (by decide) (n := 16) rfl ?_
        refine g_iload_n hc 3 rfl rfl dX0_giveOut_16 (n := 17) rfl ?_
        refine g_bipush (v := nI 52) hc (by decide) dX0_giveOut_17 (n := 19) rfl ?_
        refine n_icmp_ge hc (by omega) (by omega) dX0_giveOut_19 (tgt := 31) (by decide) (n := 22) rfl (fun c_7 => by (exfalso; revert c_7; first | omega | decide)) (fun c_7 => ?_)
        refine g_aload_n hc 0 rfl rfl dX0_giveOut_22 (n := 23) rfl ?_
        refine g_getf hc 0 rfl vw_0 inX0 0 (by decide) k_fl_RX0_9 rfl rfl dX0_giveOut_23 (n := 26) rfl ?_
        refine g_iload_n hc 3 rfl rfl dX0_giveOut_26 (n := 27) rfl ?_
        refine g_iload_n hc 2 rfl rfl dX0_giveOut_27 (n := 28) rfl ?_
        refine g_iconst (v := nI 4) hc (by decide) dX0_giveOut_28 (n := 29) rfl ?_
        refine n_irem (v := i % 4) hc (by omega) (by decide) (by decide) rfl dX0_giveOut_29 (n := 30) rfl ?_
        refine n_iast (ws' := [(h0, .inr (0, [.ref a0, .int (nI has), .int (nI cl), .int (nI rep)])), (a0, aI κ 52 (va_up g (p i) (i % 4))), (h1, aI κ 52 p)]) hc 1 rfl (by omega) (by decide) rfl dX0_giveOut_30 (n := 31) rfl ?_
        refine n_iinc (v := i + 1) (zk := 1) (lv2 := [(0, .ref h0), (1, .ref h1), (2, .int (nI (i + 1))), (3, .int (nI (p i)))]) hc 2 rfl (by decide) rfl (by decide) [1, 2, 0, 3] rfl rfl dX0_giveOut_31 (n := 34) rfl ?_
        refine g_goto (n := 2) hc dX0_giveOut_34 (by decide) ?_
        refine g_lsub (lv' := [(0, .ref h0), (1, .ref h1), (2, .int (nI (i + 1)))]) [0, 1, 2] rfl ?_
        exact ih_2 (i + 1) (va_up g (p i) (i % 4)) (by omega) (fun k hk => (Nat.lt_succ_iff_lt_or_eq.mp hk).elim (fun q => (va_up_ne _ _ (fun e => by have := hp.2 k i (by omega) (by omega) e; omega)).trans (hg k q)) (fun q => by subst q; exact va_up_self _ _ _)) (by omega)
  exact L_1 _ 0 h (by omega) (fun k hk => absurd hk (Nat.not_lt_zero _)) (Nat.lt_succ_self _)
set_option maxHeartbeats 1000000 in
set_option maxRecDepth 100000 in
theorem c_X0_hasHandsOf (κ : Kp) (l : Launch) (h0 : Nat) (a0 : Nat) (has : Nat) (cl : Nat) (rep : Nat) (h : Nat → Nat) (h1 : Nat) (a1 : Nat) (has1 : Nat) (cl1 : Nat) (rep1 : Nat) (g : Nat → Nat) (hh : ∀ k, k < 52 → h k < 4) (hg : ∀ k, k < 52 → g k < 4) : CT κ l yX0_hasHandsOf cX0_hasHandsOf 3 (some .boolean) 0 0 0 0 [.ref h0, .ref h1] [(h0, .inr (0, [.ref a0, .int (nI has), .int (nI cl), .int (nI rep)])), (a0, aI κ 52 h), (h1, .inr (0, [.ref a1, .int (nI has1), .int (nI cl1), .int (nI rep1)])), (a1, aI κ 52 g)] (PI (fun rr ww => rr = (nI (al h g)) ∧ ww = [(h0, .inr (0, [.ref a0, .int (nI has), .int (nI cl), .int (nI rep)])), (a0, aI κ 52 h), (h1, .inr (0, [.ref a1, .int (nI has1), .int (nI cl1), .int (nI rep1)])), (a1, aI κ 52 g)])) := by
  refine CT.go (plainFor_of_name (by decide)) (Nat.le_of_ble_eq_true rfl) ?_
  intro Γ A Q hl hc hret
  subst hl
  have hc : Cx κ Γ A cX0_hasHandsOf 3 RX0 "hasHandsOf" (some .boolean) { frames := 0, cells := 0, slots := 0, locals := 0 } := hc
  refine g_lv (lv' := [(0, .ref h0), (1, .ref h1)]) rfl ?_
  refine g_iconst (v := nI 0) hc (by decide) dX0_hasHandsOf_0 (n := 1) rfl ?_
  refine g_istore_n (lv2 := [(0, .ref h0), (1, .ref h1), (2, .int (nI 0))]) hc rfl (by decide) [1, 2, 0] rfl rfl dX0_hasHandsOf_1 (n := 2) rfl ?_
  have L_1 : ∀ (fuel : Nat) (i : Nat), (i ≤ 52) → (sm (fun k => if h k = g k then 0 else 1) i = 0) → 52 - i < fuel → G κ Γ A 3 0 0 Q [(h0, .inr (0, [.ref a0, .int (nI has), .int (nI cl), .int (nI rep)])), (a0, aI κ 52 h), (h1, .inr (0, [.ref a1, .int (nI has1), .int (nI cl1), .int (nI rep1)])), (a1, aI κ 52 g)] 2 [(0, .ref h0), (1, .ref h1), (2, .int (nI i))] [] := by
    intro fuel
    induction fuel with
    | zero => intro i hi hs h; exact absurd h (Nat.not_lt_zero _)
    | succ fuel ih_2 =>
      intro i hi hs hn_3
      refine g_iload_n hc 2 rfl rfl dX0_hasHandsOf_2 (n := 3) rfl ?_
      refine g_bipush (v := nI 52) hc (by decide) dX0_hasHandsOf_3 (n := 5) rfl ?_
      refine n_icmp_ge hc (by omega) (by omega) dX0_hasHandsOf_5 (tgt := 31) (by decide) (n := 8) rfl (fun c_4 => ?_) (fun c_4 => ?_)
      · skip
        refine g_iconst (v := nI 1) hc (by decide) dX0_hasHandsOf_31 (n := 32) rfl ?_
        refine hret.2.1 _ _ _ _ _ _ _ rfl rfl (by decide) (by decide) dX0_hasHandsOf_32 ?_
        exact ⟨_, rfl, (by have e9 : i = 52 := (by omega); subst e9; unfold al; rw [if_pos hs]), rfl⟩
      · skip
        refine g_aload_n hc 0 rfl rfl dX0_hasHandsOf_8 (n := 9) rfl ?_
        refine g_getf hc 0 rfl vw_0 inX0 0 (by decide) k_fl_RX0_9 rfl rfl dX0_hasHandsOf_9 (n := 12) rfl ?_
        refine g_iload_n hc 2 rfl rfl dX0_hasHandsOf_12 (n := 13) rfl ?_
        refine n_iald (v := h i) hc 1 rfl (by omega) (by decide) rfl dX0_hasHandsOf_13 (n := 14) rfl ?_
        have b_5 := hh i (by omega)
        refine g_aload_n hc 1 rfl rfl dX0_hasHandsOf_14 (n := 15) rfl ?_
        refine g_getf hc 2 rfl vw_0 inX0 0 (by decide) k_fl_RX0_9 rfl rfl dX0_hasHandsOf_15 (n := 18) rfl ?_
        refine g_iload_n hc 2 rfl rfl dX0_hasHandsOf_18 (n := 19) rfl ?_
        refine n_iald (v := g i) hc 3 rfl (by omega) (by decide) rfl dX0_hasHandsOf_19 (n := 20) rfl ?_
        have b_6 := hg i (by omega)
        refine n_icmp_eq hc (by omega) (by omega) dX0_hasHandsOf_20 (tgt := 25) (by decide) (n := 23) rfl (fun c_7 => ?_) (fun c_7 => ?_)
        · skip
          refine n_iinc (v := i + 1) (zk := 1) (lv2 := [(0, .ref h0), (1, .ref h1), (2, .int (nI (i + 1)))]) hc 2 rfl (by decide) rfl (by decide) [1, 2, 0] rfl rfl dX0_hasHandsOf_25 (n := 28) rfl ?_
          refine g_goto (n := 2) hc dX0_hasHandsOf_28 (by decide) ?_
          exact ih_2 (i + 1) (by omega) (by rw [sm_s, hs]; first | (split <;> omega) | simp) (by omega)
        · skip
          refine g_iconst (v := nI 0) hc (by decide) dX0_hasHandsOf_23 (n := 24) rfl ?_
          refine hret.2.1 _ _ _ _ _ _ _ rfl rfl (by decide) (by decide) dX0_hasHandsOf_24 ?_
          exact ⟨_, rfl, (by have e := sm_mem (f := fun k => if h k = g k then 0 else 1) (k := i) (n := 52) (by omega); rw [if_neg (by assumption)] at e; unfold al; rw [if_neg (by omega)]), rfl⟩
  exact L_1 _ 0 (by omega) (rfl) (Nat.lt_succ_self _)
set_option maxHeartbeats 1000000 in
set_option maxRecDepth 100000 in
theorem c_X0_hasHandsOf1 (κ : Kp) (l : Launch) (h0 : Nat) (a0 : Nat) (has : Nat) (cl : Nat) (rep : Nat) (h : Nat → Nat) (hh : ∀ k, k < 52 → h k < 4) : CT κ l yX0_hasHandsOf cX0_hasHandsOf 3 (some .boolean) 0 0 0 0 [.ref h0, .ref h0] [(h0, .inr (0, [.ref a0, .int (nI has), .int (nI cl), .int (nI rep)])), (a0, aI κ 52 h)] (PI (fun rr ww => rr = (nI (al h h)) ∧ ww = [(h0, .inr (0, [.ref a0, .int (nI has), .int (nI cl), .int (nI rep)])), (a0, aI κ 52 h)])) := by
  refine CT.go (plainFor_of_name (by decide)) (Nat.le_of_ble_eq_true rfl) ?_
  intro Γ A Q hl hc hret
  subst hl
  have hc : Cx κ Γ A cX0_hasHandsOf 3 RX0 "hasHandsOf" (some .boolean) { frames := 0, cells := 0, slots := 0, locals := 0 } := hc
  refine g_lv (lv' := [(0, .ref h0), (1, .ref h0)]) rfl ?_
  refine g_iconst (v := nI 0) hc (by decide) dX0_hasHandsOf_0 (n := 1) rfl ?_
  refine g_istore_n (lv2 := [(0, .ref h0), (1, .ref h0), (2, .int (nI 0))]) hc rfl (by decide) [1, 2, 0] rfl rfl dX0_hasHandsOf_1 (n := 2) rfl ?_
  have L_1 : ∀ (fuel : Nat) (i : Nat), (i ≤ 52) → (sm (fun k => if h k = h k then 0 else 1) i = 0) → 52 - i < fuel → G κ Γ A 3 0 0 Q [(h0, .inr (0, [.ref a0, .int (nI has), .int (nI cl), .int (nI rep)])), (a0, aI κ 52 h)] 2 [(0, .ref h0), (1, .ref h0), (2, .int (nI i))] [] := by
    intro fuel
    induction fuel with
    | zero => intro i hi hs h; exact absurd h (Nat.not_lt_zero _)
    | succ fuel ih_2 =>
      intro i hi hs hn_3
      refine g_iload_n hc 2 rfl rfl dX0_hasHandsOf_2 (n := 3) rfl ?_
      refine g_bipush (v := nI 52) hc (by decide) dX0_hasHandsOf_3 (n := 5) rfl ?_
      refine n_icmp_ge hc (by omega) (by omega) dX0_hasHandsOf_5 (tgt := 31) (by decide) (n := 8) rfl (fun c_4 => ?_) (fun c_4 => ?_)
      · skip
        refine g_iconst (v := nI 1) hc (by decide) dX0_hasHandsOf_31 (n := 32) rfl ?_
        refine hret.2.1 _ _ _ _ _ _ _ rfl rfl (by decide) (by decide) dX0_hasHandsOf_32 ?_
        exact ⟨_, rfl, (by have e9 : i = 52 := (by omega); subst e9; unfold al; rw [if_pos hs]), rfl⟩
      · skip
        refine g_aload_n hc 0 rfl rfl dX0_hasHandsOf_8 (n := 9) rfl ?_
        refine g_getf hc 0 rfl vw_0 inX0 0 (by decide) k_fl_RX0_9 rfl rfl dX0_hasHandsOf_9 (n := 12) rfl ?_
        refine g_iload_n hc 2 rfl rfl dX0_hasHandsOf_12 (n := 13) rfl ?_
        refine n_iald (v := h i) hc 1 rfl (by omega) (by decide) rfl dX0_hasHandsOf_13 (n := 14) rfl ?_
        have b_5 := hh i (by omega)
        refine g_aload_n hc 1 rfl rfl dX0_hasHandsOf_14 (n := 15) rfl ?_
        refine g_getf hc 0 rfl vw_0 inX0 0 (by decide) k_fl_RX0_9 rfl rfl dX0_hasHandsOf_15 (n := 18) rfl ?_
        refine g_iload_n hc 2 rfl rfl dX0_hasHandsOf_18 (n := 19) rfl ?_
        refine n_iald (v := h i) hc 1 rfl (by omega) (by decide) rfl dX0_hasHandsOf_19 (n := 20) rfl ?_
        have b_6 := hh i (by omega)
        refine n_icmp_eq hc (by omega) (by omega) dX0_hasHandsOf_20 (tgt := 25) (by decide) (n := 23) rfl (fun c_7 => ?_) (fun c_7 => by (exfalso; revert c_7; first | omega | decide))
        refine n_iinc (v := i + 1) (zk := 1) (lv2 := [(0, .ref h0), (1, .ref h0), (2, .int (nI (i + 1)))]) hc 2 rfl (by decide) rfl (by decide) [1, 2, 0] rfl rfl dX0_hasHandsOf_25 (n := 28) rfl ?_
        refine g_goto (n := 2) hc dX0_hasHandsOf_28 (by decide) ?_
        exact ih_2 (i + 1) (by omega) (by rw [sm_s, hs]; first | (split <;> omega) | simp) (by omega)
  exact L_1 _ 0 (by omega) (rfl) (Nat.lt_succ_self _)
set_option maxHeartbeats 1000000 in
set_option maxRecDepth 100000 in
theorem c_X0_suitLength (κ : Kp) (l : Launch) (h0 : Nat) (a0 : Nat) (has : Nat) (cl : Nat) (rep : Nat) (h : Nat → Nat) (d : Nat) (q : Nat) (hh : ∀ k, k < 52 → h k < 4) (hd : d < 4) (hq : q < 4) : CT κ l yX0_suitLength cX0_suitLength 5 (some .int) 0 0 0 0 [.ref h0, .int (nI d), .int (nI q)] [(h0, .inr (0, [.ref a0, .int (nI has), .int (nI cl), .int (nI rep)])), (a0, aI κ 52 h)] (PI (fun rr ww => rr = (nI (sl h d q)) ∧ ww = [(h0, .inr (0, [.ref a0, .int (nI has), .int (nI cl), .int (nI rep)])), (a0, aI κ 52 h)])) := by
  refine CT.go (plainFor_of_name (by decide)) (Nat.le_of_ble_eq_true rfl) ?_
  intro Γ A Q hl hc hret
  subst hl
  have hc : Cx κ Γ A cX0_suitLength 5 RX0 "suitLength" (some .int) { frames := 0, cells := 0, slots := 0, locals := 0 } := hc
  refine g_lv (lv' := [(0, .ref h0), (1, .int (nI d)), (2, .int (nI q))]) rfl ?_
  refine g_iconst (v := nI 0) hc (by decide) dX0_suitLength_0 (n := 1) rfl ?_
  refine g_istore_n (lv2 := [(0, .ref h0), (1, .int (nI d)), (2, .int (nI q)), (3, .int (nI 0))]) hc rfl (by decide) [1, 2, 3, 0] rfl rfl dX0_suitLength_1 (n := 2) rfl ?_
  refine g_iconst (v := nI 0) hc (by decide) dX0_suitLength_2 (n := 3) rfl ?_
  refine g_istore (lv2 := [(0, .ref h0), (1, .int (nI d)), (2, .int (nI q)), (3, .int (nI 0)), (4, .int (nI 0))]) hc (by decide) [1, 2, 3, 4, 0] rfl rfl dX0_suitLength_3 (n := 5) rfl ?_
  have L_1 : ∀ (fuel : Nat) (i : Nat) (s : Nat), (i ≤ 52) → (s = sm (fun k => if h k = d ∧ k / 13 = q then 1 else 0) i) → 52 - i < fuel → G κ Γ A 5 0 0 Q [(h0, .inr (0, [.ref a0, .int (nI has), .int (nI cl), .int (nI rep)])), (a0, aI κ 52 h)] 5 [(0, .ref h0), (1, .int (nI d)), (2, .int (nI q)), (3, .int (nI s)), (4, .int (nI i))] [] := by
    intro fuel
    induction fuel with
    | zero => intro i s hi hs h; exact absurd h (Nat.not_lt_zero _)
    | succ fuel ih_2 =>
      intro i s hi hs hn_3
      refine g_iload hc 4 rfl dX0_suitLength_5 (n := 7) rfl ?_
      refine g_bipush (v := nI 52) hc (by decide) dX0_suitLength_7 (n := 9) rfl ?_
      refine n_icmp_ge hc (by omega) (by omega) dX0_suitLength_9 (tgt := 41) (by decide) (n := 12) rfl (fun c_4 => ?_) (fun c_4 => ?_)
      · skip
        refine g_iload_n hc 3 rfl rfl dX0_suitLength_41 (n := 42) rfl ?_
        refine hret.1 _ _ _ _ _ _ rfl (by decide) (by decide) dX0_suitLength_42 ?_
        exact ⟨_, rfl, (by have e9 : i = 52 := (by omega); subst e9; rw [hs]; rfl), rfl⟩
      · skip
        refine g_aload_n hc 0 rfl rfl dX0_suitLength_12 (n := 13) rfl ?_
        refine g_getf hc 0 rfl vw_0 inX0 0 (by decide) k_fl_RX0_9 rfl rfl dX0_suitLength_13 (n := 16) rfl ?_
        refine g_iload hc 4 rfl dX0_suitLength_16 (n := 18) rfl ?_
        refine n_iald (v := h i) hc 1 rfl (by omega) (by decide) rfl dX0_suitLength_18 (n := 19) rfl ?_
        have b_5 := hh i (by omega)
        refine g_iload_n hc 1 rfl rfl dX0_suitLength_19 (n := 20) rfl ?_
        refine n_icmp_ne hc (by omega) (by omega) dX0_suitLength_20 (tgt := 35) (by decide) (n := 23) rfl (fun c_6 => ?_) (fun c_6 => ?_)
        · skip
          refine n_iinc (v := i + 1) (zk := 1) (lv2 := [(0, .ref h0), (1, .int (nI d)), (2, .int (nI q)), (3, .int (nI s)), (4, .int (nI (i + 1)))]) hc 4 rfl (by decide) rfl (by decide) [1, 2, 3, 4, 0] rfl rfl dX0_suitLength_35 (n := 38) rfl ?_
          refine g_goto (n := 5) hc dX0_suitLength_38 (by decide) ?_
          exact ih_2 (i + 1) s (by omega) (by rw [sm_s, ← hs]; first | (split <;> omega) | omega) (by omega)
        · skip
          refine g_iload hc 4 rfl dX0_suitLength_23 (n := 25) rfl ?_
          refine g_bipush (v := nI 13) hc (by decide) dX0_suitLength_25 (n := 27) rfl ?_
          refine n_idiv (v := i / 13) hc (by omega) (by decide) (by decide) rfl dX0_suitLength_27 (n := 28) rfl ?_
          refine g_iload_n hc 2 rfl rfl dX0_suitLength_28 (n := 29) rfl ?_
          refine n_icmp_ne hc (by omega) (by omega) dX0_suitLength_29 (tgt := 35) (by decide) (n := 32) rfl (fun c_7 => ?_) (fun c_7 => ?_)
          · skip
            refine n_iinc (v := i + 1) (zk := 1) (lv2 := [(0, .ref h0), (1, .int (nI d)), (2, .int (nI q)), (3, .int (nI s)), (4, .int (nI (i + 1)))]) hc 4 rfl (by decide) rfl (by decide) [1, 2, 3, 4, 0] rfl rfl dX0_suitLength_35 (n := 38) rfl ?_
            refine g_goto (n := 5) hc dX0_suitLength_38 (by decide) ?_
            exact ih_2 (i + 1) s (by omega) (by rw [sm_s, ← hs]; first | (split <;> omega) | omega) (by omega)
          · skip
            refine n_iinc (v := s + 1) (zk := 1) (lv2 := [(0, .ref h0), (1, .int (nI d)), (2, .int (nI q)), (3, .int (nI (s + 1))), (4, .int (nI i))]) hc 3 rfl (by decide) rfl (by decide) [1, 2, 3, 0, 4] rfl rfl dX0_suitLength_32 (n := 35) rfl ?_
            refine n_iinc (v := i + 1) (zk := 1) (lv2 := [(0, .ref h0), (1, .int (nI d)), (2, .int (nI q)), (3, .int (nI (s + 1))), (4, .int (nI (i + 1)))]) hc 4 rfl (by decide) rfl (by decide) [1, 2, 3, 4, 0] rfl rfl dX0_suitLength_35 (n := 38) rfl ?_
            refine g_goto (n := 5) hc dX0_suitLength_38 (by decide) ?_
            exact ih_2 (i + 1) (s + 1) (by omega) (by rw [sm_s, ← hs]; first | (split <;> omega) | omega) (by omega)
  exact L_1 _ 0 0 (by omega) (rfl) (Nat.lt_succ_self _)
set_option maxHeartbeats 1000000 in
set_option maxRecDepth 100000 in
theorem c_X0_pointsOfRank (κ : Kp) (l : Launch) (r0 : Nat) (hr : r0 < 13) : CT κ l yX0_pointsOfRank cX0_pointsOfRank 1 (some .int) 1 21 0 0 [.int (nI r0)] [] (PI (fun rr ww => rr = (nI (r0 - 8)) ∧ ww = [])) := by
  refine CT.go (plainFor_of_name (by decide)) (Nat.le_of_ble_eq_true rfl) ?_
  intro Γ A Q hl hc hret
  subst hl
  have hc : Cx κ Γ A cX0_pointsOfRank 1 RX0 "pointsOfRank" (some .int) { frames := 1, cells := 0, slots := 0, locals := 21 } := hc
  refine g_lv (lv' := [(0, .int (nI r0))]) rfl ?_
  refine g_iconst (v := nI 0) hc (by decide) dX0_pointsOfRank_0 (n := 1) rfl ?_
  refine g_iload_n hc 0 rfl rfl dX0_pointsOfRank_1 (n := 2) rfl ?_
  refine g_bipush (v := nI 8) hc (by decide) dX0_pointsOfRank_2 (n := 4) rfl ?_
  refine g_isub (v := nI r0 - nI 8) hc rfl dX0_pointsOfRank_4 (n := 5) rfl ?_
  refine g_callS (rest := []) (As := [.int (nI 0), .int (nI r0 - nI 8)]) (cells' := 0) (slots' := 0) hc (c_J9_max κ _ (nI 0) (nI r0 - nI 8)) q_J9_max_7cf53 k_ml_RX0_36 rfl rfl (jn_ix (wr := []) [] [] rfl rfl rfl rfl (by decide)) ⟨⟨by decide, by decide⟩, by decide, by decide⟩ (Nat.le_of_ble_eq_true rfl) rfl rfl dX0_pointsOfRank_5 (n := 8) rfl (fun vv ww hp => ?_)
  obtain ⟨rr, rfl, rfl, rfl⟩ := hp
  refine ⟨_, rfl, ?_⟩
  refine g_ws (ws' := []) rfl ?_
  refine g_st (st' := [.int (if (nI 0) < (nI r0 - nI 8) then (nI r0 - nI 8) else (nI 0))]) rfl ?_
  refine hret.1 _ _ _ _ _ _ rfl (by decide) (by decide) dX0_pointsOfRank_8 ?_
  exact ⟨_, rfl, (max_r r0 hr), rfl⟩
set_option maxHeartbeats 1000000 in
set_option maxRecDepth 100000 in
theorem c_X0_pointsOf (κ : Kp) (l : Launch) (h0 : Nat) (a0 : Nat) (has : Nat) (cl : Nat) (rep : Nat) (h : Nat → Nat) (d : Nat) (hh : ∀ k, k < 52 → h k < 4) (hd : d < 4) : CT κ l yX0_pointsOf cX0_pointsOf 4 (some .int) 2 41 0 0 [.ref h0, .int (nI d)] [(h0, .inr (0, [.ref a0, .int (nI has), .int (nI cl), .int (nI rep)])), (a0, aI κ 52 h)] (PI (fun rr ww => rr = (nI (pt h d)) ∧ ww = [(h0, .inr (0, [.ref a0, .int (nI has), .int (nI cl), .int (nI rep)])), (a0, aI κ 52 h)])) := by
  refine CT.go (plainFor_of_name (by decide)) (Nat.le_of_ble_eq_true rfl) ?_
  intro Γ A Q hl hc hret
  subst hl
  have hc : Cx κ Γ A cX0_pointsOf 4 RX0 "pointsOf" (some .int) { frames := 2, cells := 0, slots := 0, locals := 41 } := hc
  refine g_lv (lv' := [(0, .ref h0), (1, .int (nI d))]) rfl ?_
  refine g_iconst (v := nI 0) hc (by decide) dX0_pointsOf_0 (n := 1) rfl ?_
  refine g_istore_n (lv2 := [(0, .ref h0), (1, .int (nI d)), (2, .int (nI 0))]) hc rfl (by decide) [1, 2, 0] rfl rfl dX0_pointsOf_1 (n := 2) rfl ?_
  refine g_iconst (v := nI 0) hc (by decide) dX0_pointsOf_2 (n := 3) rfl ?_
  refine g_istore_n (lv2 := [(0, .ref h0), (1, .int (nI d)), (2, .int (nI 0)), (3, .int (nI 0))]) hc rfl (by decide) [1, 2, 3, 0] rfl rfl dX0_pointsOf_3 (n := 4) rfl ?_
  have L_1 : ∀ (fuel : Nat) (i : Nat) (s : Nat), (i ≤ 52) → (s = sm (fun k => if h k = d then k % 13 - 8 else 0) i) → 52 - i < fuel → G κ Γ A 4 0 0 Q [(h0, .inr (0, [.ref a0, .int (nI has), .int (nI cl), .int (nI rep)])), (a0, aI κ 52 h)] 4 [(0, .ref h0), (1, .int (nI d)), (2, .int (nI s)), (3, .int (nI i))] [] := by
    intro fuel
    induction fuel with
    | zero => intro i s hi hs h; exact absurd h (Nat.not_lt_zero _)
    | succ fuel ih_2 =>
      intro i s hi hs hn_3
      refine g_iload_n hc 3 rfl rfl dX0_pointsOf_4 (n := 5) rfl ?_
      refine g_bipush (v := nI 52) hc (by decide) dX0_pointsOf_5 (n := 7) rfl ?_
      refine n_icmp_ge hc (by omega) (by omega) dX0_pointsOf_7 (tgt := 36) (by decide) (n := 10) rfl (fun c_4 => ?_) (fun c_4 => ?_)
      · skip
        refine g_iload_n hc 2 rfl rfl dX0_pointsOf_36 (n := 37) rfl ?_
        refine hret.1 _ _ _ _ _ _ rfl (by decide) (by decide) dX0_pointsOf_37 ?_
        exact ⟨_, rfl, (by have e9 : i = 52 := (by omega); subst e9; rw [hs]; rfl), rfl⟩
      · skip
        refine g_aload_n hc 0 rfl rfl dX0_pointsOf_10 (n := 11) rfl ?_
        refine g_getf hc 0 rfl vw_0 inX0 0 (by decide) k_fl_RX0_9 rfl rfl dX0_pointsOf_11 (n := 14) rfl ?_
        refine g_iload_n hc 3 rfl rfl dX0_pointsOf_14 (n := 15) rfl ?_
        refine n_iald (v := h i) hc 1 rfl (by omega) (by decide) rfl dX0_pointsOf_15 (n := 16) rfl ?_
        have b_5 := hh i (by omega)
        refine g_iload_n hc 1 rfl rfl dX0_pointsOf_16 (n := 17) rfl ?_
        refine n_icmp_ne hc (by omega) (by omega) dX0_pointsOf_17 (tgt := 30) (by decide) (n := 20) rfl (fun c_6 => ?_) (fun c_6 => ?_)
        · skip
          refine n_iinc (v := i + 1) (zk := 1) (lv2 := [(0, .ref h0), (1, .int (nI d)), (2, .int (nI s)), (3, .int (nI (i + 1)))]) hc 3 rfl (by decide) rfl (by decide) [1, 2, 3, 0] rfl rfl dX0_pointsOf_30 (n := 33) rfl ?_
          refine g_goto (n := 4) hc dX0_pointsOf_33 (by decide) ?_
          exact ih_2 (i + 1) s (by omega) (by rw [sm_s, ← hs]; first | (split <;> omega) | omega) (by omega)
        · skip
          refine g_iload_n hc 2 rfl rfl dX0_pointsOf_20 (n := 21) rfl ?_
          refine g_iload_n hc 3 rfl rfl dX0_pointsOf_21 (n := 22) rfl ?_
          refine g_bipush (v := nI 13) hc (by decide) dX0_pointsOf_22 (n := 24) rfl ?_
          refine n_irem (v := i % 13) hc (by omega) (by decide) (by decide) rfl dX0_pointsOf_24 (n := 25) rfl ?_
          refine g_callS (rest := [.int (nI s)]) (As := [.int (nI (i % 13))]) (cells' := 0) (slots' := 0) hc (c_X0_pointsOfRank κ _ (i % 13) (by omega)) q_X0_pointsOfRank k_ml_RX0_32 rfl rfl (jn_ix (wr := [(h0, .inr (0, [.ref a0, .int (nI has), .int (nI cl), .int (nI rep)])), (a0, aI κ 52 h)]) [] [0, 1] rfl rfl rfl rfl (by decide)) ⟨⟨by decide, by decide⟩, by decide, by decide⟩ (Nat.le_of_ble_eq_true rfl) rfl rfl dX0_pointsOf_25 (n := 28) rfl (fun vv ww hp => ?_)
          obtain ⟨rr, rfl, rfl, rfl⟩ := hp
          refine ⟨_, rfl, ?_⟩
          refine g_ws (ws' := [(h0, .inr (0, [.ref a0, .int (nI has), .int (nI cl), .int (nI rep)])), (a0, aI κ 52 h)]) rfl ?_
          refine g_st (st' := [.int (nI ((i % 13) - 8)), .int (nI s)]) rfl ?_
          refine n_iadd (v := s + ((i % 13) - 8)) hc rfl dX0_pointsOf_28 (n := 29) rfl ?_
          refine g_istore_n (lv2 := [(0, .ref h0), (1, .int (nI d)), (2, .int (nI (s + ((i % 13) - 8)))), (3, .int (nI i))]) hc rfl (by decide) [1, 2, 0, 3] rfl rfl dX0_pointsOf_29 (n := 30) rfl ?_
          refine n_iinc (v := i + 1) (zk := 1) (lv2 := [(0, .ref h0), (1, .int (nI d)), (2, .int (nI (s + ((i % 13) - 8)))), (3, .int (nI (i + 1)))]) hc 3 rfl (by decide) rfl (by decide) [1, 2, 3, 0] rfl rfl dX0_pointsOf_30 (n := 33) rfl ?_
          refine g_goto (n := 4) hc dX0_pointsOf_33 (by decide) ?_
          exact ih_2 (i + 1) (s + ((i % 13) - 8)) (by omega) (by rw [sm_s, ← hs]; first | (split <;> omega) | omega) (by omega)
  exact L_1 _ 0 0 (by omega) (rfl) (Nat.lt_succ_self _)
set_option maxHeartbeats 1000000 in
set_option maxRecDepth 100000 in
theorem c_X0_isBalanced (κ : Kp) (l : Launch) (h0 : Nat) (a0 : Nat) (has : Nat) (cl : Nat) (rep : Nat) (h : Nat → Nat) (d : Nat) (hh : ∀ k, k < 52 → h k < 4) (hd : d < 4) : CT κ l yX0_isBalanced cX0_isBalanced 5 (some .boolean) 1 24 0 0 [.ref h0, .int (nI d)] [(h0, .inr (0, [.ref a0, .int (nI has), .int (nI cl), .int (nI rep)])), (a0, aI κ 52 h)] (PI (fun rr ww => rr = (nI (bl h d)) ∧ ww = [(h0, .inr (0, [.ref a0, .int (nI has), .int (nI cl), .int (nI rep)])), (a0, aI κ 52 h)])) := by
  refine CT.go (plainFor_of_name (by decide)) (Nat.le_of_ble_eq_true rfl) ?_
  intro Γ A Q hl hc hret
  subst hl
  have hc : Cx κ Γ A cX0_isBalanced 5 RX0 "isBalanced" (some .boolean) { frames := 1, cells := 0, slots := 0, locals := 24 } := hc
  refine g_lv (lv' := [(0, .ref h0), (1, .int (nI d))]) rfl ?_
  refine g_iconst (v := nI 0) hc (by decide) dX0_isBalanced_0 (n := 1) rfl ?_
  refine g_istore_n (lv2 := [(0, .ref h0), (1, .int (nI d)), (2, .int (nI 0))]) hc rfl (by decide) [1, 2, 0] rfl rfl dX0_isBalanced_1 (n := 2) rfl ?_
  refine g_iconst (v := nI 0) hc (by decide) dX0_isBalanced_2 (n := 3) rfl ?_
  refine g_istore_n (lv2 := [(0, .ref h0), (1, .int (nI d)), (2, .int (nI 0)), (3, .int (nI 0))]) hc rfl (by decide) [1, 2, 3, 0] rfl rfl dX0_isBalanced_3 (n := 4) rfl ?_
  have L_1 : ∀ (fuel : Nat) (i : Nat) (t : Nat), (i ≤ 4) → (t = sm (fun s => if sl h d s = 2 then 1 else 0) i) → (sm (fun s => if sl h d s < 2 then 1 else 0) i = 0) → (t ≤ i) → 4 - i < fuel → G κ Γ A 5 0 0 Q [(h0, .inr (0, [.ref a0, .int (nI has), .int (nI cl), .int (nI rep)])), (a0, aI κ 52 h)] 4 [(0, .ref h0), (1, .int (nI d)), (2, .int (nI t)), (3, .int (nI i))] [] := by
    intro fuel
    induction fuel with
    | zero => intro i t hi hs hz ht h; exact absurd h (Nat.not_lt_zero _)
    | succ fuel ih_2 =>
      intro i t hi hs hz ht hn_3
      refine g_iload_n hc 3 rfl rfl dX0_isBalanced_4 (n := 5) rfl ?_
      refine g_iconst (v := nI 4) hc (by decide) dX0_isBalanced_5 (n := 6) rfl ?_
      refine n_icmp_ge hc (by omega) (by omega) dX0_isBalanced_6 (tgt := 40) (by decide) (n := 9) rfl (fun c_4 => ?_) (fun c_4 => ?_)
      · skip
        refine g_iload_n hc 2 rfl rfl dX0_isBalanced_40 (n := 41) rfl ?_
        refine g_iconst (v := nI 1) hc (by decide) dX0_isBalanced_41 (n := 42) rfl ?_
        refine n_icmp_gt hc (by omega) (by omega) dX0_isBalanced_42 (tgt := 49) (by decide) (n := 45) rfl (fun c_5 => ?_) (fun c_5 => ?_)
        · skip
          refine g_iconst (v := nI 0) hc (by decide) dX0_isBalanced_49 (n := 50) rfl ?_
          refine hret.2.1 _ _ _ _ _ _ _ rfl rfl (by decide) (by decide) dX0_isBalanced_50 ?_
          exact ⟨_, rfl, (by have e9 : i = 4 := (by omega); subst e9; unfold bl; rw [if_neg (fun z => by have := z.2; omega)]), rfl⟩
        · skip
          refine g_iconst (v := nI 1) hc (by decide) dX0_isBalanced_45 (n := 46) rfl ?_
          refine g_goto (n := 50) hc dX0_isBalanced_46 (by decide) ?_
          refine hret.2.1 _ _ _ _ _ _ _ rfl rfl (by decide) (by decide) dX0_isBalanced_50 ?_
          exact ⟨_, rfl, (by have e9 : i = 4 := (by omega); subst e9; unfold bl; rw [if_pos ⟨hz, by omega⟩]), rfl⟩
      · skip
        refine g_aload_n hc 0 rfl rfl dX0_isBalanced_9 (n := 10) rfl ?_
        refine g_iload_n hc 1 rfl rfl dX0_isBalanced_10 (n := 11) rfl ?_
        refine g_iload_n hc 3 rfl rfl dX0_isBalanced_11 (n := 12) rfl ?_
        refine g_callV (rest := []) (As := [.int (nI d), .int (nI i)]) (cells' := 0) (slots' := 0) hc (c_X0_suitLength κ _ h0 a0 has cl rep h d i hh hd (by omega)) q_X0_suitLength k_ml_RX0_42 rfl rfl (jn_ix (wr := []) [0, 1] [] rfl rfl rfl rfl (by decide)) (qr := 0) rfl vw_0 ⟨⟨by decide, by decide⟩, by decide, by decide⟩ (Nat.le_of_ble_eq_true rfl) rfl rfl dX0_isBalanced_12 (n := 15) rfl (fun vv ww hp => ?_)
        obtain ⟨rr, rfl, rfl, rfl⟩ := hp
        refine ⟨_, rfl, ?_⟩
        refine g_ws (ws' := [(h0, .inr (0, [.ref a0, .int (nI has), .int (nI cl), .int (nI rep)])), (a0, aI κ 52 h)]) rfl ?_
        refine g_st (st' := [.int (nI (sl h d i))]) rfl ?_
        have hsl := sl_le h d i
        refine g_istore (lv2 := [(0, .ref h0), (1, .int (nI d)), (2, .int (nI t)), (3, .int (nI i)), (4, .int (nI (sl h d i)))]) hc (by decide) [1, 2, 3, 4, 0] rfl rfl dX0_isBalanced_15 (n := 17) rfl ?_
        refine g_iload hc 4 rfl dX0_isBalanced_17 (n := 19) rfl ?_
        refine g_iconst (v := nI 2) hc (by decide) dX0_isBalanced_19 (n := 20) rfl ?_
        refine n_icmp_ge hc (by omega) (by omega) dX0_isBalanced_20 (tgt := 25) (by decide) (n := 23) rfl (fun c_6 => ?_) (fun c_6 => ?_)
        · skip
          refine g_iload hc 4 rfl dX0_isBalanced_25 (n := 27) rfl ?_
          refine g_iconst (v := nI 2) hc (by decide) dX0_isBalanced_27 (n := 28) rfl ?_
          refine n_icmp_ne hc (by omega) (by omega) dX0_isBalanced_28 (tgt := 34) (by decide) (n := 31) rfl (fun c_7 => ?_) (fun c_7 => ?_)
          · skip
            refine n_iinc (v := i + 1) (zk := 1) (lv2 := [(0, .ref h0), (1, .int (nI d)), (2, .int (nI t)), (3, .int (nI (i + 1))), (4, .int (nI (sl h d i)))]) hc 3 rfl (by decide) rfl (by decide) [1, 2, 3, 0, 4] rfl rfl dX0_isBalanced_34 (n := 37) rfl ?_
            refine g_goto (n := 4) hc dX0_isBalanced_37 (by decide) ?_
            refine g_lsub (lv' := [(0, .ref h0), (1, .int (nI d)), (2, .int (nI t)), (3, .int (nI (i + 1)))]) [0, 1, 2, 3] rfl ?_
            exact ih_2 (i + 1) t (by omega) (by rw [sm_s, ← hs]; first | (split <;> omega) | omega) (by rw [sm_s, hz]; first | (split <;> omega) | omega) (by omega) (by omega)
          · skip
            refine n_iinc (v := t + 1) (zk := 1) (lv2 := [(0, .ref h0), (1, .int (nI d)), (2, .int (nI (t + 1))), (3, .int (nI i)), (4, .int (nI (sl h d i)))]) hc 2 rfl (by decide) rfl (by decide) [1, 2, 0, 3, 4] rfl rfl dX0_isBalanced_31 (n := 34) rfl ?_
            refine n_iinc (v := i + 1) (zk := 1) (lv2 := [(0, .ref h0), (1, .int (nI d)), (2, .int (nI (t + 1))), (3, .int (nI (i + 1))), (4, .int (nI (sl h d i)))]) hc 3 rfl (by decide) rfl (by decide) [1, 2, 3, 0, 4] rfl rfl dX0_isBalanced_34 (n := 37) rfl ?_
            refine g_goto (n := 4) hc dX0_isBalanced_37 (by decide) ?_
            refine g_lsub (lv' := [(0, .ref h0), (1, .int (nI d)), (2, .int (nI (t + 1))), (3, .int (nI (i + 1)))]) [0, 1, 2, 3] rfl ?_
            exact ih_2 (i + 1) (t + 1) (by omega) (by rw [sm_s, ← hs]; first | (split <;> omega) | omega) (by rw [sm_s, hz]; first | (split <;> omega) | omega) (by omega) (by omega)
        · skip
          refine g_iconst (v := nI 0) hc (by decide) dX0_isBalanced_23 (n := 24) rfl ?_
          refine hret.2.1 _ _ _ _ _ _ _ rfl rfl (by decide) (by decide) dX0_isBalanced_24 ?_
          exact ⟨_, rfl, (by have e := sm_mem (f := (fun s => if sl h d s < 2 then 1 else 0)) (k := i) (n := 4) (by omega); rw [if_pos (by assumption)] at e; unfold bl; rw [if_neg (fun z => by have := z.1; omega)]), rfl⟩
  exact L_1 _ 0 0 (by omega) (rfl) (rfl) (by omega) (Nat.lt_succ_self _)
set_option maxHeartbeats 1000000 in
set_option maxRecDepth 100000 in
theorem c_X0_highestSpade (κ : Kp) (l : Launch) (h0 : Nat) (a0 : Nat) (has : Nat) (cl : Nat) (rep : Nat) (h : Nat → Nat) (d : Nat) (hh : ∀ k, k < 52 → h k < 4) (hd : d < 4) : CT κ l yX0_highestSpade cX0_highestSpade 3 (some .int) 0 0 0 0 [.ref h0, .int (nI d)] [(h0, .inr (0, [.ref a0, .int (nI has), .int (nI cl), .int (nI rep)])), (a0, aI κ 52 h)] (PI (fun rr ww => rr = (nI (hs h d)) ∧ ww = [(h0, .inr (0, [.ref a0, .int (nI has), .int (nI cl), .int (nI rep)])), (a0, aI κ 52 h)])) := by
  refine CT.go (plainFor_of_name (by decide)) (Nat.le_of_ble_eq_true rfl) ?_
  intro Γ A Q hl hc hret
  subst hl
  have hc : Cx κ Γ A cX0_highestSpade 3 RX0 "highestSpade" (some .int) { frames := 0, cells := 0, slots := 0, locals := 0 } := hc
  refine g_lv (lv' := [(0, .ref h0), (1, .int (nI d))]) rfl ?_
  refine g_bipush (v := nI 12) hc (by decide) dX0_highestSpade_0 (n := 2) rfl ?_
  refine g_istore_n (lv2 := [(0, .ref h0), (1, .int (nI d)), (2, .int (nI 12))]) hc rfl (by decide) [1, 2, 0] rfl rfl dX0_highestSpade_2 (n := 3) rfl ?_
  refine g_lv (lv' := [(0, .ref h0), (1, .int (nI d)), (2, .int (nI 13 + (-1)))]) rfl ?_
  have L_1 : ∀ (fuel : Nat) (j : Nat), (j ≤ 13) → (lst (fun r => if h (39 + r) = d then 1 else 0) 13 = lst (fun r => if h (39 + r) = d then 1 else 0) j) → j < fuel → G κ Γ A 3 0 0 Q [(h0, .inr (0, [.ref a0, .int (nI has), .int (nI cl), .int (nI rep)])), (a0, aI κ 52 h)] 3 [(0, .ref h0), (1, .int (nI d)), (2, .int (nI j + (-1)))] [] := by
    intro fuel
    induction fuel with
    | zero => intro j hj hs1 h; exact absurd h (Nat.not_lt_zero _)
    | succ fuel ih_2 =>
      intro j hj hs1 hn_3
      rcases j with _ | j
      · refine g_lv (lv' := [(0, .ref h0), (1, .int (nI d)), (2, .int (-1))]) rfl ?_
        refine g_iload_n hc 2 rfl rfl dX0_highestSpade_3 (n := 4) rfl ?_
        refine g_if_lt hc dX0_highestSpade_4 (tgt := 28) (by decide) (n := 7) rfl (fun c_4 => ?_) (fun c_4 => by (exfalso; revert c_4; first | omega | decide))
        refine g_bipush (v := (-6)) hc (by decide) dX0_highestSpade_28 (n := 30) rfl ?_
        refine hret.1 _ _ _ _ _ _ rfl (by decide) (by decide) dX0_highestSpade_30 ?_
        exact ⟨_, rfl, (by unfold hs; rw [hs1]; exact (show (-6 : Int32) = nI 4294967290 from by decide)), rfl⟩
      · refine g_lv (lv' := [(0, .ref h0), (1, .int (nI d)), (2, .int (nI j))]) (by rw [pk_m1]) ?_
        refine g_iload_n hc 2 rfl rfl dX0_highestSpade_3 (n := 4) rfl ?_
        refine n_if_lt hc (by omega) dX0_highestSpade_4 (tgt := 28) (by decide) (n := 7) rfl ?_
        refine g_aload_n hc 0 rfl rfl dX0_highestSpade_7 (n := 8) rfl ?_
        refine g_getf hc 0 rfl vw_0 inX0 0 (by decide) k_fl_RX0_9 rfl rfl dX0_highestSpade_8 (n := 11) rfl ?_
        refine g_bipush (v := nI 39) hc (by decide) dX0_highestSpade_11 (n := 13) rfl ?_
        refine g_iload_n hc 2 rfl rfl dX0_highestSpade_13 (n := 14) rfl ?_
        refine n_iadd (v := 39 + j) hc rfl dX0_highestSpade_14 (n := 15) rfl ?_
        refine n_iald (v := h (39 + j)) hc 1 rfl (by omega) (by decide) rfl dX0_highestSpade_15 (n := 16) rfl ?_
        have b_6 := hh (39 + j) (by omega)
        refine g_iload_n hc 1 rfl rfl dX0_highestSpade_16 (n := 17) rfl ?_
        refine n_icmp_ne hc (by omega) (by omega) dX0_highestSpade_17 (tgt := 22) (by decide) (n := 20) rfl (fun c_7 => ?_) (fun c_7 => ?_)
        · skip
          refine g_iinc (v := nI j + (-1)) (lv2 := [(0, .ref h0), (1, .int (nI d)), (2, .int (nI j + (-1)))]) hc 2 rfl (congrArg (fun z : Int32 => nI j + z) (by decide : Int32.ofInt (-1) = -1)) (by decide) [1, 2, 0] rfl rfl dX0_highestSpade_22 (n := 25) rfl ?_
          refine g_goto (n := 3) hc dX0_highestSpade_25 (by decide) ?_
          exact ih_2 j (by omega) (by rw [hs1, lst, if_neg (by rw [if_neg (by assumption)]; decide)]) (by omega)
        · skip
          refine g_iload_n hc 2 rfl rfl dX0_highestSpade_20 (n := 21) rfl ?_
          refine hret.1 _ _ _ _ _ _ rfl (by decide) (by decide) dX0_highestSpade_21 ?_
          exact ⟨_, rfl, (by unfold hs; rw [hs1, lst, if_pos (if_pos (by assumption))]), rfl⟩
  exact L_1 _ 13 (by omega) (rfl) (Nat.lt_succ_self _)
set_option maxHeartbeats 1000000 in
set_option maxRecDepth 100000 in
theorem c_X0_strongestHand (κ : Kp) (l : Launch) (h0 : Nat) (a0 : Nat) (has : Nat) (cl : Nat) (rep : Nat) (h : Nat → Nat) (hh : ∀ k, k < 52 → h k < 4) : CT κ l yX0_strongestHand cX0_strongestHand 5 (some .int) 3 64 0 0 [.ref h0] [(h0, .inr (0, [.ref a0, .int (nI has), .int (nI cl), .int (nI rep)])), (a0, aI κ 52 h)] (PI (fun rr ww => rr = (nI (bh h)) ∧ ww = [(h0, .inr (0, [.ref a0, .int (nI has), .int (nI cl), .int (nI rep)])), (a0, aI κ 52 h)])) := by
  refine CT.go (plainFor_of_name (by decide)) (Nat.le_of_ble_eq_true rfl) ?_
  intro Γ A Q hl hc hret
  subst hl
  have hc : Cx κ Γ A cX0_strongestHand 5 RX0 "strongestHand" (some .int) { frames := 3, cells := 0, slots := 0, locals := 64 } := hc
  refine g_lv (lv' := [(0, .ref h0)]) rfl ?_
  refine g_iconst (v := nI 0) hc (by decide) dX0_strongestHand_0 (n := 1) rfl ?_
  refine g_istore_n (lv2 := [(0, .ref h0), (1, .int (nI 0))]) hc rfl (by decide) [1, 0] rfl rfl dX0_strongestHand_1 (n := 2) rfl ?_
  refine g_aload_n hc 0 rfl rfl dX0_strongestHand_2 (n := 3) rfl ?_
  refine g_iconst (v := nI 0) hc (by decide) dX0_strongestHand_3 (n := 4) rfl ?_
  refine g_callV (rest := []) (As := [.int (nI 0)]) (cells' := 0) (slots' := 0) hc (c_X0_pointsOf κ _ h0 a0 has cl rep h 0 hh (by omega)) q_X0_pointsOf k_ml_RX0_45 rfl rfl (jn_ix (wr := []) [0, 1] [] rfl rfl rfl rfl (by decide)) (qr := 0) rfl vw_0 ⟨⟨by decide, by decide⟩, by decide, by decide⟩ (Nat.le_of_ble_eq_true rfl) rfl rfl dX0_strongestHand_4 (n := 7) rfl (fun vv ww hp => ?_)
  obtain ⟨rr, rfl, rfl, rfl⟩ := hp
  refine ⟨_, rfl, ?_⟩
  refine g_ws (ws' := [(h0, .inr (0, [.ref a0, .int (nI has), .int (nI cl), .int (nI rep)])), (a0, aI κ 52 h)]) rfl ?_
  refine g_st (st' := [.int (nI (pt h 0))]) rfl ?_
  have hp0 := pt_le h 0
  refine g_istore_n (lv2 := [(0, .ref h0), (1, .int (nI 0)), (2, .int (nI (pt h 0)))]) hc rfl (by decide) [1, 2, 0] rfl rfl dX0_strongestHand_7 (n := 8) rfl ?_
  refine g_iconst (v := nI 1) hc (by decide) dX0_strongestHand_8 (n := 9) rfl ?_
  refine g_istore_n (lv2 := [(0, .ref h0), (1, .int (nI 0)), (2, .int (nI (pt h 0))), (3, .int (nI 1))]) hc rfl (by decide) [1, 2, 3, 0] rfl rfl dX0_strongestHand_9 (n := 10) rfl ?_
  have L_1 : ∀ (fuel : Nat) (i : Nat) (b : Nat) (t : Nat), (1 ≤ i) → (i ≤ 4) → (b = bst (pt h) (i - 1)) → (t = pt h b) → 4 - i < fuel → G κ Γ A 5 0 0 Q [(h0, .inr (0, [.ref a0, .int (nI has), .int (nI cl), .int (nI rep)])), (a0, aI κ 52 h)] 10 [(0, .ref h0), (1, .int (nI b)), (2, .int (nI t)), (3, .int (nI i))] [] := by
    intro fuel
    induction fuel with
    | zero => intro i b t h1 hi hb ht h; exact absurd h (Nat.not_lt_zero _)
    | succ fuel ih_2 =>
      intro i b t h1 hi hb ht hn_3
      have hp2 := pt_le h b
      refine g_iload_n hc 3 rfl rfl dX0_strongestHand_10 (n := 11) rfl ?_
      refine g_iconst (v := nI 4) hc (by decide) dX0_strongestHand_11 (n := 12) rfl ?_
      refine n_icmp_ge hc (by omega) (by omega) dX0_strongestHand_12 (tgt := 39) (by decide) (n := 15) rfl (fun c_4 => ?_) (fun c_4 => ?_)
      · skip
        refine g_iload_n hc 1 rfl rfl dX0_strongestHand_39 (n := 40) rfl ?_
        refine hret.1 _ _ _ _ _ _ rfl (by decide) (by decide) dX0_strongestHand_40 ?_
        exact ⟨_, rfl, (by have e9 : i = 4 := (by omega); subst e9; rw [hb]; rfl), rfl⟩
      · skip
        refine g_aload_n hc 0 rfl rfl dX0_strongestHand_15 (n := 16) rfl ?_
        refine g_iload_n hc 3 rfl rfl dX0_strongestHand_16 (n := 17) rfl ?_
        refine g_callV (rest := []) (As := [.int (nI i)]) (cells' := 0) (slots' := 0) hc (c_X0_pointsOf κ _ h0 a0 has cl rep h i hh (by omega)) q_X0_pointsOf k_ml_RX0_45 rfl rfl (jn_ix (wr := []) [0, 1] [] rfl rfl rfl rfl (by decide)) (qr := 0) rfl vw_0 ⟨⟨by decide, by decide⟩, by decide, by decide⟩ (Nat.le_of_ble_eq_true rfl) rfl rfl dX0_strongestHand_17 (n := 20) rfl (fun vv ww hp => ?_)
        obtain ⟨rr, rfl, rfl, rfl⟩ := hp
        refine ⟨_, rfl, ?_⟩
        refine g_ws (ws' := [(h0, .inr (0, [.ref a0, .int (nI has), .int (nI cl), .int (nI rep)])), (a0, aI κ 52 h)]) rfl ?_
        refine g_st (st' := [.int (nI (pt h i))]) rfl ?_
        have hp1 := pt_le h i
        refine g_istore (lv2 := [(0, .ref h0), (1, .int (nI b)), (2, .int (nI t)), (3, .int (nI i)), (4, .int (nI (pt h i)))]) hc (by decide) [1, 2, 3, 4, 0] rfl rfl dX0_strongestHand_20 (n := 22) rfl ?_
        refine g_iload hc 4 rfl dX0_strongestHand_22 (n := 24) rfl ?_
        refine g_iload_n hc 2 rfl rfl dX0_strongestHand_24 (n := 25) rfl ?_
        refine n_icmp_le hc (by omega) (by omega) dX0_strongestHand_25 (tgt := 33) (by decide) (n := 28) rfl (fun c_5 => ?_) (fun c_5 => ?_)
        · skip
          refine n_iinc (v := i + 1) (zk := 1) (lv2 := [(0, .ref h0), (1, .int (nI b)), (2, .int (nI t)), (3, .int (nI (i + 1))), (4, .int (nI (pt h i)))]) hc 3 rfl (by decide) rfl (by decide) [1, 2, 3, 0, 4] rfl rfl dX0_strongestHand_33 (n := 36) rfl ?_
          refine g_goto (n := 10) hc dX0_strongestHand_36 (by decide) ?_
          refine g_lsub (lv' := [(0, .ref h0), (1, .int (nI b)), (2, .int (nI t)), (3, .int (nI (i + 1)))]) [0, 1, 2, 3] rfl ?_
          exact ih_2 (i + 1) b t (by omega) (by omega) (by have e8 : i + 1 - 1 = (i - 1) + 1 := (by omega); have e9 : i - 1 + 1 = i := (by omega); rw [e8, bst, ← hb, e9]; first | exact (if_pos (by omega)).symm | exact (if_neg (by omega)).symm) (by first | rfl | assumption) (by omega)
        · skip
          refine g_iload hc 4 rfl dX0_strongestHand_28 (n := 30) rfl ?_
          refine g_istore_n (lv2 := [(0, .ref h0), (1, .int (nI b)), (2, .int (nI (pt h i))), (3, .int (nI i)), (4, .int (nI (pt h i)))]) hc rfl (by decide) [1, 2, 0, 3, 4] rfl rfl dX0_strongestHand_30 (n := 31) rfl ?_
          refine g_iload_n hc 3 rfl rfl dX0_strongestHand_31 (n := 32) rfl ?_
          refine g_istore_n (lv2 := [(0, .ref h0), (1, .int (nI i)), (2, .int (nI (pt h i))), (3, .int (nI i)), (4, .int (nI (pt h i)))]) hc rfl (by decide) [1, 0, 2, 3, 4] rfl rfl dX0_strongestHand_32 (n := 33) rfl ?_
          refine n_iinc (v := i + 1) (zk := 1) (lv2 := [(0, .ref h0), (1, .int (nI i)), (2, .int (nI (pt h i))), (3, .int (nI (i + 1))), (4, .int (nI (pt h i)))]) hc 3 rfl (by decide) rfl (by decide) [1, 2, 3, 0, 4] rfl rfl dX0_strongestHand_33 (n := 36) rfl ?_
          refine g_goto (n := 10) hc dX0_strongestHand_36 (by decide) ?_
          refine g_lsub (lv' := [(0, .ref h0), (1, .int (nI i)), (2, .int (nI (pt h i))), (3, .int (nI (i + 1)))]) [0, 1, 2, 3] rfl ?_
          exact ih_2 (i + 1) i (pt h i) (by omega) (by omega) (by have e8 : i + 1 - 1 = (i - 1) + 1 := (by omega); have e9 : i - 1 + 1 = i := (by omega); rw [e8, bst, ← hb, e9]; first | exact (if_pos (by omega)).symm | exact (if_neg (by omega)).symm) (by first | rfl | assumption) (by omega)
  exact L_1 _ 1 0 (pt h 0) (by omega) (by omega) (rfl) (rfl) (Nat.lt_succ_self _)
set_option maxHeartbeats 1000000 in
set_option maxRecDepth 100000 in
theorem c_X0_balancedHands (κ : Kp) (l : Launch) (h0 : Nat) (a0 : Nat) (has : Nat) (cl : Nat) (rep : Nat) (h : Nat → Nat) (hh : ∀ k, k < 52 → h k < 4) : CT κ l yX0_balancedHands cX0_balancedHands 3 (some .int) 2 48 0 0 [.ref h0] [(h0, .inr (0, [.ref a0, .int (nI has), .int (nI cl), .int (nI rep)])), (a0, aI κ 52 h)] (PI (fun rr ww => rr = (nI (bm h)) ∧ ww = [(h0, .inr (0, [.ref a0, .int (nI has), .int (nI cl), .int (nI rep)])), (a0, aI κ 52 h)])) := by
  refine CT.go (plainFor_of_name (by decide)) (Nat.le_of_ble_eq_true rfl) ?_
  intro Γ A Q hl hc hret
  subst hl
  have hc : Cx κ Γ A cX0_balancedHands 3 RX0 "balancedHands" (some .int) { frames := 2, cells := 0, slots := 0, locals := 48 } := hc
  refine g_lv (lv' := [(0, .ref h0)]) rfl ?_
  refine g_iconst (v := nI 0) hc (by decide) dX0_balancedHands_0 (n := 1) rfl ?_
  refine g_istore_n (lv2 := [(0, .ref h0), (1, .int (nI 0))]) hc rfl (by decide) [1, 0] rfl rfl dX0_balancedHands_1 (n := 2) rfl ?_
  refine g_iconst (v := nI 0) hc (by decide) dX0_balancedHands_2 (n := 3) rfl ?_
  refine g_istore_n (lv2 := [(0, .ref h0), (1, .int (nI 0)), (2, .int (nI 0))]) hc rfl (by decide) [1, 2, 0] rfl rfl dX0_balancedHands_3 (n := 4) rfl ?_
  have L_1 : ∀ (fuel : Nat) (i : Nat) (t : Nat), (i ≤ 4) → (t = sm (fun d => if bl h d = 1 then 2 ^ d else 0) i) → (t < 2 ^ i) → 4 - i < fuel → G κ Γ A 3 0 0 Q [(h0, .inr (0, [.ref a0, .int (nI has), .int (nI cl), .int (nI rep)])), (a0, aI κ 52 h)] 4 [(0, .ref h0), (1, .int (nI t)), (2, .int (nI i))] [] := by
    intro fuel
    induction fuel with
    | zero => intro i t hi hs ht h; exact absurd h (Nat.not_lt_zero _)
    | succ fuel ih_2 =>
      intro i t hi hs ht hn_3
      refine g_iload_n hc 2 rfl rfl dX0_balancedHands_4 (n := 5) rfl ?_
      refine g_iconst (v := nI 4) hc (by decide) dX0_balancedHands_5 (n := 6) rfl ?_
      refine n_icmp_ge hc (by omega) (by omega) dX0_balancedHands_6 (tgt := 29) (by decide) (n := 9) rfl (fun c_4 => ?_) (fun c_4 => ?_)
      · skip
        refine g_iload_n hc 1 rfl rfl dX0_balancedHands_29 (n := 30) rfl ?_
        refine hret.1 _ _ _ _ _ _ rfl (by decide) (by decide) dX0_balancedHands_30 ?_
        exact ⟨_, rfl, (by have e9 : i = 4 := (by omega); subst e9; rw [hs]; rfl), rfl⟩
      · skip
        refine g_aload_n hc 0 rfl rfl dX0_balancedHands_9 (n := 10) rfl ?_
        refine g_iload_n hc 2 rfl rfl dX0_balancedHands_10 (n := 11) rfl ?_
        refine g_callV (rest := []) (As := [.int (nI i)]) (cells' := 0) (slots' := 0) hc (c_X0_isBalanced κ _ h0 a0 has cl rep h i hh (by omega)) q_X0_isBalanced k_ml_RX0_48 rfl rfl (jn_ix (wr := []) [0, 1] [] rfl rfl rfl rfl (by decide)) (qr := 0) rfl vw_0 ⟨⟨by decide, by decide⟩, by decide, by decide⟩ (Nat.le_of_ble_eq_true rfl) rfl rfl dX0_balancedHands_11 (n := 14) rfl (fun vv ww hp => ?_)
        obtain ⟨rr, rfl, rfl, rfl⟩ := hp
        refine ⟨_, rfl, ?_⟩
        refine g_ws (ws' := [(h0, .inr (0, [.ref a0, .int (nI has), .int (nI cl), .int (nI rep)])), (a0, aI κ 52 h)]) rfl ?_
        refine g_st (st' := [.int (nI (bl h i))]) rfl ?_
        have hbl := bl_le h i
        refine n_if_eq hc (by omega) dX0_balancedHands_14 (tgt := 23) (by decide) (n := 17) rfl (fun c_5 => ?_) (fun c_5 => ?_)
        · skip
          refine n_iinc (v := i + 1) (zk := 1) (lv2 := [(0, .ref h0), (1, .int (nI t)), (2, .int (nI (i + 1)))]) hc 2 rfl (by decide) rfl (by decide) [1, 2, 0] rfl rfl dX0_balancedHands_23 (n := 26) rfl ?_
          refine g_goto (n := 4) hc dX0_balancedHands_26 (by decide) ?_
          exact ih_2 (i + 1) t (by omega) (by rw [sm_s, ← hs]; split <;> omega) (by rw [Nat.pow_succ]; omega) (by omega)
        · skip
          refine g_iload_n hc 1 rfl rfl dX0_balancedHands_17 (n := 18) rfl ?_
          refine g_iconst (v := nI 1) hc (by decide) dX0_balancedHands_18 (n := 19) rfl ?_
          refine g_iload_n hc 2 rfl rfl dX0_balancedHands_19 (n := 20) rfl ?_
          refine g_ishl (v := (nI (2 ^ i))) hc (shl_1 i (by omega)) dX0_balancedHands_20 (n := 21) rfl ?_
          refine g_ior (v := (nI (t + 2 ^ i))) hc (or_sum ht) dX0_balancedHands_21 (n := 22) rfl ?_
          refine g_istore_n (lv2 := [(0, .ref h0), (1, .int (nI (t + 2 ^ i))), (2, .int (nI i))]) hc rfl (by decide) [1, 0, 2] rfl rfl dX0_balancedHands_22 (n := 23) rfl ?_
          refine n_iinc (v := i + 1) (zk := 1) (lv2 := [(0, .ref h0), (1, .int (nI (t + 2 ^ i))), (2, .int (nI (i + 1)))]) hc 2 rfl (by decide) rfl (by decide) [1, 2, 0] rfl rfl dX0_balancedHands_23 (n := 26) rfl ?_
          refine g_goto (n := 4) hc dX0_balancedHands_26 (by decide) ?_
          exact ih_2 (i + 1) (t + 2 ^ i) (by omega) (by rw [sm_s, ← hs]; split <;> omega) (by rw [Nat.pow_succ]; omega) (by omega)
  exact L_1 _ 0 0 (by omega) (rfl) (by decide) (Nat.lt_succ_self _)
