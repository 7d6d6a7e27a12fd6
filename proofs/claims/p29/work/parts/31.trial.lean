set_option maxHeartbeats 1000000 in
set_option maxRecDepth 100000 in
theorem c_X3_init (κ : Kp) (l : Launch) (r0 : Nat)  : CT κ l yX3_init cX3_init 1 none 1 20 5 260 [.ref r0] [(r0, .inr (3, [.null, .null, .null, .null, .null, .int (nI 0)]))] (PV (fun ww => ∃ q1 : Nat, ∃ q2 : Nat, ∃ q3 : Nat, ∃ q4 : Nat, ∃ q5 : Nat, ww = [(r0, .inr (3, [.ref q1, .ref q2, .ref q3, .ref q4, .ref q5, .int (nI 0)])), (q1, aI κ 52 (fun _ => 0)), (q2, aI κ 52 (fun _ => 0)), (q3, aI κ 52 (fun _ => 0)), (q4, aI κ 52 (fun _ => 0)), (q5, aZ κ 52 (fun _ => 0))])) := by
  refine CT.go (plainFor_of_name (by decide)) (Nat.le_of_ble_eq_true rfl) ?_
  intro Γ A Q hl hc hret
  subst hl
  have hc : Cx κ Γ A cX3_init 1 RX3 "<init>" none { frames := 1, cells := 5, slots := 260, locals := 20 } := hc
  refine g_lv (lv' := [(0, .ref r0)]) rfl ?_
  refine g_aload_n hc 0 rfl rfl dX3_init_0 (n := 1) rfl ?_
  refine g_objInit (rest := []) hc k_ml_RX3_3 ⟨by decide, Nat.le_of_ble_eq_true rfl⟩ dX3_init_1 (n := 4) rfl ?_
  refine g_aload_n hc 0 rfl rfl dX3_init_4 (n := 5) rfl ?_
  refine g_bipush (v := nI 52) hc (by decide) dX3_init_5 (n := 7) rfl ?_
  refine n_newI hc k_ac_int (by decide) ⟨by decide, by decide⟩ (cells' := 1) (slots' := 52) rfl rfl dX3_init_7 (n := 9) rfl (fun q_1 => ?_)
  refine g_ws (ws' := [(r0, .inr (3, [.null, .null, .null, .null, .null, .int (nI 0)])), (q_1, aI κ 52 (fun _ => 0))]) rfl ?_
  refine g_putF (ws' := [(r0, .inr (3, [.ref q_1, .null, .null, .null, .null, .int (nI 0)])), (q_1, aI κ 52 (fun _ => 0))]) hc 0 rfl vw_3 inX3 tyX3_ok nmX3 0 (by decide) k_fl_RX3_9 rfl rfl rfl rfl rfl rfl (Nat.le_of_ble_eq_true rfl) rfl dX3_init_9 (n := 12) rfl ?_
  refine g_aload_n hc 0 rfl rfl dX3_init_12 (n := 13) rfl ?_
  refine g_bipush (v := nI 52) hc (by decide) dX3_init_13 (n := 15) rfl ?_
  refine n_newI hc k_ac_int (by decide) ⟨by decide, by decide⟩ (cells' := 2) (slots' := 104) rfl rfl dX3_init_15 (n := 17) rfl (fun q_2 => ?_)
  refine g_ws (ws' := [(r0, .inr (3, [.ref q_1, .null, .null, .null, .null, .int (nI 0)])), (q_1, aI κ 52 (fun _ => 0)), (q_2, aI κ 52 (fun _ => 0))]) rfl ?_
  refine g_putF (ws' := [(r0, .inr (3, [.ref q_1, .ref q_2, .null, .null, .null, .int (nI 0)])), (q_1, aI κ 52 (fun _ => 0)), (q_2, aI κ 52 (fun _ => 0))]) hc 0 rfl vw_3 inX3 tyX3_ok nmX3 1 (by decide) k_fl_RX3_15 rfl rfl rfl rfl rfl rfl (Nat.le_of_ble_eq_true rfl) rfl dX3_init_17 (n := 20) rfl ?_
  refine g_aload_n hc 0 rfl rfl dX3_init_20 (n := 21) rfl ?_
  refine g_bipush (v := nI 52) hc (by decide) dX3_init_21 (n := 23) rfl ?_
  refine n_newI hc k_ac_int (by decide) ⟨by decide, by decide⟩ (cells' := 3) (slots' := 156) rfl rfl dX3_init_23 (n := 25) rfl (fun q_3 => ?_)
  refine g_ws (ws' := [(r0, .inr (3, [.ref q_1, .ref q_2, .null, .null, .null, .int (nI 0)])), (q_1, aI κ 52 (fun _ => 0)), (q_2, aI κ 52 (fun _ => 0)), (q_3, aI κ 52 (fun _ => 0))]) rfl ?_
  refine g_putF (ws' := [(r0, .inr (3, [.ref q_1, .ref q_2, .ref q_3, .null, .null, .int (nI 0)])), (q_1, aI κ 52 (fun _ => 0)), (q_2, aI κ 52 (fun _ => 0)), (q_3, aI κ 52 (fun _ => 0))]) hc 0 rfl vw_3 inX3 tyX3_ok nmX3 2 (by decide) k_fl_RX3_18 rfl rfl rfl rfl rfl rfl (Nat.le_of_ble_eq_true rfl) rfl dX3_init_25 (n := 28) rfl ?_
  refine g_aload_n hc 0 rfl rfl dX3_init_28 (n := 29) rfl ?_
  refine g_bipush (v := nI 52) hc (by decide) dX3_init_29 (n := 31) rfl ?_
  refine n_newI hc k_ac_int (by decide) ⟨by decide, by decide⟩ (cells' := 4) (slots' := 208) rfl rfl dX3_init_31 (n := 33) rfl (fun q_4 => ?_)
  refine g_ws (ws' := [(r0, .inr (3, [.ref q_1, .ref q_2, .ref q_3, .null, .null, .int (nI 0)])), (q_1, aI κ 52 (fun _ => 0)), (q_2, aI κ 52 (fun _ => 0)), (q_3, aI κ 52 (fun _ => 0)), (q_4, aI κ 52 (fun _ => 0))]) rfl ?_
  refine g_putF (ws' := [(r0, .inr (3, [.ref q_1, .ref q_2, .ref q_3, .ref q_4, .null, .int (nI 0)])), (q_1, aI κ 52 (fun _ => 0)), (q_2, aI κ 52 (fun _ => 0)), (q_3, aI κ 52 (fun _ => 0)), (q_4, aI κ 52 (fun _ => 0))]) hc 0 rfl vw_3 inX3 tyX3_ok nmX3 3 (by decide) k_fl_RX3_21 rfl rfl rfl rfl rfl rfl (Nat.le_of_ble_eq_true rfl) rfl dX3_init_33 (n := 36) rfl ?_
  refine g_aload_n hc 0 rfl rfl dX3_init_36 (n := 37) rfl ?_
  refine g_bipush (v := nI 52) hc (by decide) dX3_init_37 (n := 39) rfl ?_
  refine n_newZ hc k_ac_boolean (by decide) ⟨by decide, by decide⟩ (cells' := 5) (slots' := 260) rfl rfl dX3_init_39 (n := 41) rfl (fun q_5 => ?_)
  refine g_ws (ws' := [(r0, .inr (3, [.ref q_1, .ref q_2, .ref q_3, .ref q_4, .null, .int (nI 0)])), (q_1, aI κ 52 (fun _ => 0)), (q_2, aI κ 52 (fun _ => 0)), (q_3, aI κ 52 (fun _ => 0)), (q_4, aI κ 52 (fun _ => 0)), (q_5, aZ κ 52 (fun _ => 0))]) rfl ?_
  refine g_putF (ws' := [(r0, .inr (3, [.ref q_1, .ref q_2, .ref q_3, .ref q_4, .ref q_5, .int (nI 0)])), (q_1, aI κ 52 (fun _ => 0)), (q_2, aI κ 52 (fun _ => 0)), (q_3, aI κ 52 (fun _ => 0)), (q_4, aI κ 52 (fun _ => 0)), (q_5, aZ κ 52 (fun _ => 0))]) hc 0 rfl vw_3 inX3 tyX3_ok nmX3 4 (by decide) k_fl_RX3_24 rfl rfl rfl rfl rfl rfl (Nat.le_of_ble_eq_true rfl) rfl dX3_init_41 (n := 44) rfl ?_
  refine hret.2.2.1 _ _ _ _ _ rfl (by decide) (by decide) dX3_init_44 ?_
  exact ⟨rfl, q_1, q_2, q_3, q_4, q_5, rfl⟩
set_option maxHeartbeats 1000000 in
set_option maxRecDepth 100000 in
theorem c_X3_begin (κ : Kp) (l : Launch) (r0 : Nat) (aB : Nat) (aP : Nat) (aQ : Nat) (aL : Nat) (aN : Nat) (x : Nat) (t0 : Nat) (t1 : Nat) (t2 : Nat) (t3 : Nat) (t4 : Nat) (tx : Nat) (tc : Nat) (tk : Nat) (ts : Nat) (tg : Nat) (td : Nat) (te : Nat) (f1 : Nat → Nat) (f2 : Nat → Nat) (f3 : Nat → Nat) (p : Nat → Nat) (b : Nat → Nat) (hb : ∀ k, k < 52 → b k ≤ 1) : CT κ l yX3_begin cX3_begin 2 none 1 40 0 0 [.ref r0, .ref t0] [(r0, .inr (3, [.ref aB, .ref aP, .ref aQ, .ref aL, .ref aN, .int (nI x)])), (aB, aI κ 52 f1), (aP, aI κ 52 f2), (aN, aZ κ 52 f3), (t0, .inr (2, [.ref t1, .ref t2, .ref t3, .ref t4, .int (nI tx), .int (nI tc), .int (nI tk), .int (nI ts), .int (nI tg), .int (nI td), .int (nI te)])), (t2, aI κ 52 p), (t3, aZ κ 52 b)] (PV (fun ww => ww = [(r0, .inr (3, [.ref aB, .ref aP, .ref aQ, .ref aL, .ref aN, .int (nI tx)])), (aB, aI κ 52 p), (aP, aI κ 52 p), (aN, aZ κ 52 b), (t0, .inr (2, [.ref t1, .ref t2, .ref t3, .ref t4, .int (nI tx), .int (nI tc), .int (nI tk), .int (nI ts), .int (nI tg), .int (nI td), .int (nI te)])), (t2, aI κ 52 p), (t3, aZ κ 52 b)])) := by
  refine CT.go (plainFor_of_name (by decide)) (Nat.le_of_ble_eq_true rfl) ?_
  intro Γ A Q hl hc hret
  subst hl
  have hc : Cx κ Γ A cX3_begin 2 RX3 "begin" none { frames := 1, cells := 0, slots := 0, locals := 40 } := hc
  refine g_lv (lv' := [(0, .ref r0), (1, .ref t0)]) rfl ?_
  refine g_aload_n hc 1 rfl rfl dX3_begin_0 (n := 1) rfl ?_
  refine g_getf hc 4 rfl vw_2 inX2 1 (by decide) k_fl_RX3_28 rfl rfl dX3_begin_1 (n := 4) rfl ?_
  refine g_iconst (v := nI 0) hc (by decide) dX3_begin_4 (n := 5) rfl ?_
  refine g_aload_n hc 0 rfl rfl dX3_begin_5 (n := 6) rfl ?_
  refine g_getf hc 0 rfl vw_3 inX3 0 (by decide) k_fl_RX3_9 rfl rfl dX3_begin_6 (n := 9) rfl ?_
  refine g_iconst (v := nI 0) hc (by decide) dX3_begin_9 (n := 10) rfl ?_
  refine g_bipush (v := nI 52) hc (by decide) dX3_begin_10 (n := 12) rfl ?_
  refine n_copy (ws' := [(r0, .inr (3, [.ref aB, .ref aP, .ref aQ, .ref aL, .ref aN, .int (nI x)])), (aB, aI κ 52 (va_cpy p f1 0 0 52)), (aP, aI κ 52 f2), (aN, aZ κ 52 f3), (t0, .inr (2, [.ref t1, .ref t2, .ref t3, .ref t4, .int (nI tx), .int (nI tc), .int (nI tk), .int (nI ts), .int (nI tg), .int (nI td), .int (nI te)])), (t2, aI κ 52 p), (t3, aZ κ 52 b)]) (f := p) (g := f1) hc 5 1 0 rfl rfl rfl rfl (by omega) (by omega) (by decide) (by decide) (fun _ _ => rfl) k_ml_RX3_31 ⟨by decide, Nat.le_of_ble_eq_true rfl⟩ rfl dX3_begin_12 (n := 15) rfl ?_
  refine g_aload_n hc 1 rfl rfl dX3_begin_15 (n := 16) rfl ?_
  refine g_getf hc 4 rfl vw_2 inX2 1 (by decide) k_fl_RX3_28 rfl rfl dX3_begin_16 (n := 19) rfl ?_
  refine g_iconst (v := nI 0) hc (by decide) dX3_begin_19 (n := 20) rfl ?_
  refine g_aload_n hc 0 rfl rfl dX3_begin_20 (n := 21) rfl ?_
  refine g_getf hc 0 rfl vw_3 inX3 1 (by decide) k_fl_RX3_15 rfl rfl dX3_begin_21 (n := 24) rfl ?_
  refine g_iconst (v := nI 0) hc (by decide) dX3_begin_24 (n := 25) rfl ?_
  refine g_bipush (v := nI 52) hc (by decide) dX3_begin_25 (n := 27) rfl ?_
  refine n_copy (ws' := [(r0, .inr (3, [.ref aB, .ref aP, .ref aQ, .ref aL, .ref aN, .int (nI x)])), (aB, aI κ 52 (va_cpy p f1 0 0 52)), (aP, aI κ 52 (va_cpy p f2 0 0 52)), (aN, aZ κ 52 f3), (t0, .inr (2, [.ref t1, .ref t2, .ref t3, .ref t4, .int (nI tx), .int (nI tc), .int (nI tk), .int (nI ts), .int (nI tg), .int (nI td), .int (nI te)])), (t2, aI κ 52 p), (t3, aZ κ 52 b)]) (f := p) (g := f2) hc 5 2 0 rfl rfl rfl rfl (by omega) (by omega) (by decide) (by decide) (fun _ _ => rfl) k_ml_RX3_31 ⟨by decide, Nat.le_of_ble_eq_true rfl⟩ rfl dX3_begin_27 (n := 30) rfl ?_
  refine g_aload_n hc 1 rfl rfl dX3_begin_30 (n := 31) rfl ?_
  refine g_getf hc 4 rfl vw_2 inX2 2 (by decide) k_fl_RX3_37 rfl rfl dX3_begin_31 (n := 34) rfl ?_
  refine g_iconst (v := nI 0) hc (by decide) dX3_begin_34 (n := 35) rfl ?_
  refine g_aload_n hc 0 rfl rfl dX3_begin_35 (n := 36) rfl ?_
  refine g_getf hc 0 rfl vw_3 inX3 4 (by decide) k_fl_RX3_24 rfl rfl dX3_begin_36 (n := 39) rfl ?_
  refine g_iconst (v := nI 0) hc (by decide) dX3_begin_39 (n := 40) rfl ?_
  refine g_bipush (v := nI 52) hc (by decide) dX3_begin_40 (n := 42) rfl ?_
  refine n_copy (ws' := [(r0, .inr (3, [.ref aB, .ref aP, .ref aQ, .ref aL, .ref aN, .int (nI x)])), (aB, aI κ 52 (va_cpy p f1 0 0 52)), (aP, aI κ 52 (va_cpy p f2 0 0 52)), (aN, aZ κ 52 (va_cpy b f3 0 0 52)), (t0, .inr (2, [.ref t1, .ref t2, .ref t3, .ref t4, .int (nI tx), .int (nI tc), .int (nI tk), .int (nI ts), .int (nI tg), .int (nI td), .int (nI te)])), (t2, aI κ 52 p), (t3, aZ κ 52 b)]) (f := b) (g := f3) hc 6 3 1 rfl rfl rfl rfl (by omega) (by omega) (by decide) (by decide) (fun i hi => fit_z (hb _ (by omega))) k_ml_RX3_31 ⟨by decide, Nat.le_of_ble_eq_true rfl⟩ rfl dX3_begin_42 (n := 45) rfl ?_
  refine g_aload_n hc 0 rfl rfl dX3_begin_45 (n := 46) rfl ?_
  refine g_aload_n hc 1 rfl rfl dX3_begin_46 (n := 47) rfl ?_
  refine g_getf hc 4 rfl vw_2 inX2 4 (by decide) k_fl_RX3_38 rfl rfl dX3_begin_47 (n := 50) rfl ?_
  refine g_putf (ws' := [(r0, .inr (3, [.ref aB, .ref aP, .ref aQ, .ref aL, .ref aN, .int (nI tx)])), (aB, aI κ 52 (va_cpy p f1 0 0 52)), (aP, aI κ 52 (va_cpy p f2 0 0 52)), (aN, aZ κ 52 (va_cpy b f3 0 0 52)), (t0, .inr (2, [.ref t1, .ref t2, .ref t3, .ref t4, .int (nI tx), .int (nI tc), .int (nI tk), .int (nI ts), .int (nI tg), .int (nI td), .int (nI te)])), (t2, aI κ 52 p), (t3, aZ κ 52 b)]) hc 0 rfl vw_3 inX3 tyX3_ok nmX3 5 (by decide) k_fl_RX3_42 rfl rfl rfl rfl (Nat.le_of_ble_eq_true rfl) rfl dX3_begin_50 (n := 53) rfl ?_
  refine g_arr (ws' := [(r0, .inr (3, [.ref aB, .ref aP, .ref aQ, .ref aL, .ref aN, .int (nI tx)])), (aB, aI κ 52 p), (aP, aI κ 52 (va_cpy p f2 0 0 52)), (aN, aZ κ 52 (va_cpy b f3 0 0 52)), (t0, .inr (2, [.ref t1, .ref t2, .ref t3, .ref t4, .int (nI tx), .int (nI tc), .int (nI tk), .int (nI ts), .int (nI tg), .int (nI td), .int (nI te)])), (t2, aI κ 52 p), (t3, aZ κ 52 b)]) (f := va_cpy p f1 0 0 52) (g := p) 1 rfl (fun k hk => by rw [va_cpy, if_pos ⟨Nat.zero_le k, by omega⟩]; simp) rfl ?_
  refine g_arr (ws' := [(r0, .inr (3, [.ref aB, .ref aP, .ref aQ, .ref aL, .ref aN, .int (nI tx)])), (aB, aI κ 52 p), (aP, aI κ 52 p), (aN, aZ κ 52 (va_cpy b f3 0 0 52)), (t0, .inr (2, [.ref t1, .ref t2, .ref t3, .ref t4, .int (nI tx), .int (nI tc), .int (nI tk), .int (nI ts), .int (nI tg), .int (nI td), .int (nI te)])), (t2, aI κ 52 p), (t3, aZ κ 52 b)]) (f := va_cpy p f2 0 0 52) (g := p) 2 rfl (fun k hk => by rw [va_cpy, if_pos ⟨Nat.zero_le k, by omega⟩]; simp) rfl ?_
  refine g_arr (ws' := [(r0, .inr (3, [.ref aB, .ref aP, .ref aQ, .ref aL, .ref aN, .int (nI tx)])), (aB, aI κ 52 p), (aP, aI κ 52 p), (aN, aZ κ 52 b), (t0, .inr (2, [.ref t1, .ref t2, .ref t3, .ref t4, .int (nI tx), .int (nI tc), .int (nI tk), .int (nI ts), .int (nI tg), .int (nI td), .int (nI te)])), (t2, aI κ 52 p), (t3, aZ κ 52 b)]) (f := va_cpy b f3 0 0 52) (g := b) 3 rfl (fun k hk => by rw [va_cpy, if_pos ⟨Nat.zero_le k, by omega⟩]; simp) rfl ?_
  refine hret.2.2.1 _ _ _ _ _ rfl (by decide) (by decide) dX3_begin_53 ?_
  exact ⟨rfl, rfl⟩
set_option maxHeartbeats 1000000 in
set_option maxRecDepth 100000 in
theorem c_X3_flatten (κ : Kp) (l : Launch) (r0 : Nat) (aB : Nat) (aP : Nat) (aQ : Nat) (aL : Nat) (aN : Nat) (x : Nat) (c : Nat) (b : Nat → Nat) (hcc : c < 52) : CT κ l yX3_flatten cX3_flatten 2 none 0 0 0 0 [.ref r0, .int (nI c)] [(r0, .inr (3, [.ref aB, .ref aP, .ref aQ, .ref aL, .ref aN, .int (nI x)])), (aN, aZ κ 52 b)] (PV (fun ww => ww = [(r0, .inr (3, [.ref aB, .ref aP, .ref aQ, .ref aL, .ref aN, .int (nI x)])), (aN, aZ κ 52 (va_up b c 0))])) := by
  refine CT.go (plainFor_of_name (by decide)) (Nat.le_of_ble_eq_true rfl) ?_
  intro Γ A Q hl hc hret
  subst hl
  have hc : Cx κ Γ A cX3_flatten 2 RX3 "flatten" none { frames := 0, cells := 0, slots := 0, locals := 0 } := hc
  refine g_lv (lv' := [(0, .ref r0), (1, .int (nI c))]) rfl ?_
  refine g_iload_n hc 1 rfl rfl dX3_flatten_0 (n := 1) rfl ?_
  refine n_if_lt hc (by omega) dX3_flatten_1 (tgt := 17) (by decide) (n := 4) rfl ?_
  refine g_iload_n hc 1 rfl rfl dX3_flatten_4 (n := 5) rfl ?_
  refine g_bipush (v := nI 52) hc (by decide) dX3_flatten_5 (n := 7) rfl ?_
  refine n_icmp_ge hc (by omega) (by omega) dX3_flatten_7 (tgt := 17) (by decide) (n := 10) rfl (fun c_2 => by (exfalso; revert c_2; first | omega | decide)) (fun c_2 => ?_)
  refine g_aload_n hc 0 rfl rfl dX3_flatten_10 (n := 11) rfl ?_
  refine g_getf hc 0 rfl vw_3 inX3 4 (by decide) k_fl_RX3_24 rfl rfl dX3_flatten_11 (n := 14) rfl ?_
  refine g_iload_n hc 1 rfl rfl dX3_flatten_14 (n := 15) rfl ?_
  refine g_iconst (v := nI 0) hc (by decide) dX3_flatten_15 (n := 16) rfl ?_
  refine n_zast (ws' := [(r0, .inr (3, [.ref aB, .ref aP, .ref aQ, .ref aL, .ref aN, .int (nI x)])), (aN, aZ κ 52 (va_up b c 0))]) hc 1 rfl (by omega) (by decide) (by omega) rfl dX3_flatten_16 (n := 17) rfl ?_
  refine hret.2.2.1 _ _ _ _ _ rfl (by decide) (by decide) dX3_flatten_17 ?_
  exact ⟨rfl, rfl⟩
set_option maxHeartbeats 1000000 in
set_option maxRecDepth 100000 in
theorem c_X3_isBent (κ : Kp) (l : Launch) (r0 : Nat) (aB : Nat) (aP : Nat) (aQ : Nat) (aL : Nat) (aN : Nat) (x : Nat) (c : Nat) (b : Nat → Nat) (hcc : c < 52) (hb : ∀ k, k < 52 → b k ≤ 1) : CT κ l yX3_isBent cX3_isBent 2 (some .boolean) 0 0 0 0 [.ref r0, .int (nI c)] [(r0, .inr (3, [.ref aB, .ref aP, .ref aQ, .ref aL, .ref aN, .int (nI x)])), (aN, aZ κ 52 b)] (PI (fun rr ww => rr = (nI (b c)) ∧ ww = [(r0, .inr (3, [.ref aB, .ref aP, .ref aQ, .ref aL, .ref aN, .int (nI x)])), (aN, aZ κ 52 b)])) := by
  refine CT.go (plainFor_of_name (by decide)) (Nat.le_of_ble_eq_true rfl) ?_
  intro Γ A Q hl hc hret
  subst hl
  have hc : Cx κ Γ A cX3_isBent 2 RX3 "isBent" (some .boolean) { frames := 0, cells := 0, slots := 0, locals := 0 } := hc
  refine g_lv (lv' := [(0, .ref r0), (1, .int (nI c))]) rfl ?_
  refine g_iload_n hc 1 rfl rfl dX3_isBent_0 (n := 1) rfl ?_
  refine n_if_lt hc (by omega) dX3_isBent_1 (tgt := 23) (by decide) (n := 4) rfl ?_
  refine g_iload_n hc 1 rfl rfl dX3_isBent_4 (n := 5) rfl ?_
  refine g_bipush (v := nI 52) hc (by decide) dX3_isBent_5 (n := 7) rfl ?_
  refine n_icmp_ge hc (by omega) (by omega) dX3_isBent_7 (tgt := 23) (by decide) (n := 10) rfl (fun c_2 => by (exfalso; revert c_2; first | omega | decide)) (fun c_2 => ?_)
  refine g_aload_n hc 0 rfl rfl dX3_isBent_10 (n := 11) rfl ?_
  refine g_getf hc 0 rfl vw_3 inX3 4 (by decide) k_fl_RX3_24 rfl rfl dX3_isBent_11 (n := 14) rfl ?_
  refine g_iload_n hc 1 rfl rfl dX3_isBent_14 (n := 15) rfl ?_
  refine n_zald (v := b c) hc 1 rfl (by omega) (by decide) rfl dX3_isBent_15 (n := 16) rfl ?_
  have b_3 := hb c (by omega)
  refine n_if_eq hc (by omega) dX3_isBent_16 (tgt := 23) (by decide) (n := 19) rfl (fun c_4 => ?_) (fun c_4 => ?_)
  · skip
    refine g_iconst (v := nI 0) hc (by decide) dX3_isBent_23 (n := 24) rfl ?_
    refine hret.2.1 _ _ _ _ _ _ _ rfl rfl (by decide) (by decide) dX3_isBent_24 ?_
    exact ⟨_, rfl, (by rw [show b c = 0 from by omega]), rfl⟩
  · skip
    refine g_iconst (v := nI 1) hc (by decide) dX3_isBent_19 (n := 20) rfl ?_
    refine g_goto (n := 24) hc dX3_isBent_20 (by decide) ?_
    refine hret.2.1 _ _ _ _ _ _ _ rfl rfl (by decide) (by decide) dX3_isBent_24 ?_
    exact ⟨_, rfl, (by rw [show b c = 1 from by omega]), rfl⟩
set_option maxHeartbeats 1000000 in
set_option maxRecDepth 100000 in
theorem c_X3_drawBelow (κ : Kp) (l : Launch) (r0 : Nat) (aB : Nat) (aP : Nat) (aQ : Nat) (aL : Nat) (aN : Nat) (x : Nat) (m : Nat) (hx : x < 2 ^ 31) (hm : 0 < m) (hm2 : m < 2 ^ 31) : CT κ l yX3_drawBelow cX3_drawBelow 2 (some .int) 0 0 0 0 [.ref r0, .int (nI m)] [(r0, .inr (3, [.ref aB, .ref aP, .ref aQ, .ref aL, .ref aN, .int (nI x)]))] (PI (fun rr ww => rr = (nI (dv (nx x) m)) ∧ ww = [(r0, .inr (3, [.ref aB, .ref aP, .ref aQ, .ref aL, .ref aN, .int (nI (nx x))]))])) := by
  refine CT.go (plainFor_of_name (by decide)) (Nat.le_of_ble_eq_true rfl) ?_
  intro Γ A Q hl hc hret
  subst hl
  have hc : Cx κ Γ A cX3_drawBelow 2 RX3 "drawBelow" (some .int) { frames := 0, cells := 0, slots := 0, locals := 0 } := hc
  refine g_lv (lv' := [(0, .ref r0), (1, .int (nI m))]) rfl ?_
  refine g_aload_n hc 0 rfl rfl dX3_drawBelow_0 (n := 1) rfl ?_
  refine g_aload_n hc 0 rfl rfl dX3_drawBelow_1 (n := 2) rfl ?_
  refine g_getf hc 0 rfl vw_3 inX3 5 (by decide) k_fl_RX3_42 rfl rfl dX3_drawBelow_2 (n := 5) rfl ?_
  refine n_i2l hc (by omega) dX3_drawBelow_5 (n := 6) rfl ?_
  refine g_ldc2 (v2 := lN 1103515245) hc k_kc_RX3_54 (by decide) dX3_drawBelow_6 (n := 9) rfl ?_
  refine n_lmul (v := x * 1103515245) hc rfl dX3_drawBelow_9 (n := 10) rfl ?_
  refine g_ldc2 (v2 := lN 12345) hc k_kc_RX3_56 (by decide) dX3_drawBelow_10 (n := 13) rfl ?_
  refine n_ladd (v := (x * 1103515245) + 12345) hc rfl dX3_drawBelow_13 (n := 14) rfl ?_
  refine g_ldc2 (v2 := lN 2147483648) hc k_kc_RX3_58 (by decide) dX3_drawBelow_14 (n := 17) rfl ?_
  refine n_lrem (v := ((x * 1103515245) + 12345) % 2147483648) hc (by omega) (by decide) (by decide) rfl dX3_drawBelow_17 (n := 18) rfl ?_
  refine n_l2i hc dX3_drawBelow_18 (n := 19) rfl ?_
  refine g_putf (ws' := [(r0, .inr (3, [.ref aB, .ref aP, .ref aQ, .ref aL, .ref aN, .int (nI (((x * 1103515245) + 12345) % 2147483648))]))]) hc 0 rfl vw_3 inX3 tyX3_ok nmX3 5 (by decide) k_fl_RX3_42 rfl rfl rfl rfl (Nat.le_of_ble_eq_true rfl) rfl dX3_drawBelow_19 (n := 22) rfl ?_
  refine g_iload_n hc 1 rfl rfl dX3_drawBelow_22 (n := 23) rfl ?_
  refine g_iconst (v := nI 1) hc (by decide) dX3_drawBelow_23 (n := 24) rfl ?_
  refine n_icmp_ge hc (by omega) (by omega) dX3_drawBelow_24 (tgt := 29) (by decide) (n := 27) rfl (fun c_1 => ?_) (fun c_1 => by (exfalso; revert c_1; first | omega | decide))
  refine g_aload_n hc 0 rfl rfl dX3_drawBelow_29 (n := 30) rfl ?_
  refine g_getf hc 0 rfl vw_3 inX3 5 (by decide) k_fl_RX3_42 rfl rfl dX3_drawBelow_30 (n := 33) rfl ?_
  refine g_ldc (v2 := nI 65536) hc k_kc_RX3_60 (by decide) dX3_drawBelow_33 (n := 35) rfl ?_
  refine n_idiv (v := (((x * 1103515245) + 12345) % 2147483648) / 65536) hc (by omega) (by decide) (by decide) rfl dX3_drawBelow_35 (n := 36) rfl ?_
  refine g_iload_n hc 1 rfl rfl dX3_drawBelow_36 (n := 37) rfl ?_
  refine n_irem (v := ((((x * 1103515245) + 12345) % 2147483648) / 65536) % m) hc (by omega) (by omega) (by omega) rfl dX3_drawBelow_37 (n := 38) rfl ?_
  refine hret.1 _ _ _ _ _ _ rfl (by decide) (by decide) dX3_drawBelow_38 ?_
  exact ⟨_, rfl, rfl, rfl⟩
set_option maxHeartbeats 1000000 in
set_option maxRecDepth 100000 in
theorem c_X3_notePlaces (κ : Kp) (l : Launch) (r0 : Nat) (aB : Nat) (aP : Nat) (aQ : Nat) (aL : Nat) (aN : Nat) (x : Nat) (h2 : Nat) (p : Nat → Nat) (pl : Nat → Nat) (hp : Perm p) : CT κ l yX3_notePlaces cX3_notePlaces 4 none 0 0 0 0 [.ref r0, .ref h2] [(r0, .inr (3, [.ref aB, .ref aP, .ref aQ, .ref aL, .ref aN, .int (nI x)])), (h2, aI κ 52 p), (aL, aI κ 52 pl)] (PV (fun ww => ww = [(r0, .inr (3, [.ref aB, .ref aP, .ref aQ, .ref aL, .ref aN, .int (nI x)])), (h2, aI κ 52 p), (aL, aI κ 52 (inv p))])) := by
  refine CT.go (plainFor_of_name (by decide)) (Nat.le_of_ble_eq_true rfl) ?_
  intro Γ A Q hl hc hret
  subst hl
  have hc : Cx κ Γ A cX3_notePlaces 4 RX3 "notePlaces" none { frames := 0, cells := 0, slots := 0, locals := 0 } := hc
  refine g_lv (lv' := [(0, .ref r0), (1, .ref h2)]) rfl ?_
  refine g_iconst (v := nI 0) hc (by decide) dX3_notePlaces_0 (n := 1) rfl ?_
  refine g_istore_n (lv2 := [(0, .ref r0), (1, .ref h2), (2, .int (nI 0))]) hc rfl (by decide) [1, 2, 0] rfl rfl dX3_notePlaces_1 (n := 2) rfl ?_
  have L_1 : ∀ (fuel : Nat) (i : Nat) (g : Nat → Nat), (i ≤ 52) → (∀ k, k < i → g (p k) = k) → 52 - i < fuel → G κ Γ A 4 0 0 Q [(r0, .inr (3, [.ref aB, .ref aP, .ref aQ, .ref aL, .ref aN, .int (nI x)])), (h2, aI κ 52 p), (aL, aI κ 52 g)] 2 [(0, .ref r0), (1, .ref h2), (2, .int (nI i))] [] := by
    intro fuel
    induction fuel with
    | zero => intro i g hi hg h; exact absurd h (Nat.not_lt_zero _)
    | succ fuel ih_2 =>
      intro i g hi hg hn_3
      refine g_iload_n hc 2 rfl rfl dX3_notePlaces_2 (n := 3) rfl ?_
      refine g_bipush (v := nI 52) hc (by decide) dX3_notePlaces_3 (n := 5) rfl ?_
      refine n_icmp_ge hc (by omega) (by omega) dX3_notePlaces_5 (tgt := 35) (by decide) (n := 8) rfl (fun c_4 => ?_) (fun c_4 => ?_)
      · skip
        refine g_arr (ws' := [(r0, .inr (3, [.ref aB, .ref aP, .ref aQ, .ref aL, .ref aN, .int (nI x)])), (h2, aI κ 52 p), (aL, aI κ 52 (inv p))]) (f := g) (g := inv p) 2 rfl (fun c hc => by obtain ⟨e1, e2⟩ := p_inv hp hc; have := hg (inv p c) (by omega); rwa [e1] at this) rfl ?_
        refine hret.2.2.1 _ _ _ _ _ rfl (by decide) (by decide) dX3_notePlaces_35 ?_
        exact ⟨rfl, rfl⟩
      · skip
        refine g_aload_n hc 1 rfl rfl dX3_notePlaces_8 (n := 9) rfl ?_
        refine g_iload_n hc 2 rfl rfl dX3_notePlaces_9 (n := 10) rfl ?_
        refine n_iald (v := p i) hc 1 rfl (by omega) (by decide) rfl dX3_notePlaces_10 (n := 11) rfl ?_
        have b_5 := hp.1 i (by omega)
        refine g_istore_n (lv2 := [(0, .ref r0), (1, .ref h2), (2, .int (nI i)), (3, .int (nI (p i)))]) hc rfl (by decide) [1, 2, 3, 0] rfl rfl dX3_notePlaces_11 (n := 12) rfl ?_
        refine g_iload_n hc 3 rfl rfl dX3_notePlaces_12 (n := 13) rfl ?_
        refine n_if_lt hc (by omega) dX3_notePlaces_13 (tgt := 29) (by decide) (n := 16) rfl ?_
        refine g_iload_n hc 3 rfl rfl dX3_notePlaces_16 (n := 17) rfl ?_
        refine g_bipush (v := nI 52) hc (by decide) dX3_notePlaces_17 (n := 19) rfl ?_
        refine n_icmp_ge hc (by omega) (by omega) dX3_notePlaces_19 (tgt := 29) (by decide) (n := 22) rfl (fun c_7 => by (exfalso; revert c_7; first | omega | decide)) (fun c_7 => ?_)
        refine g_aload_n hc 0 rfl rfl dX3_notePlaces_22 (n := 23) rfl ?_
        refine g_getf hc 0 rfl vw_3 inX3 3 (by decide) k_fl_RX3_21 rfl rfl dX3_notePlaces_23 (n := 26) rfl ?_
        refine g_iload_n hc 3 rfl rfl dX3_notePlaces_26 (n := 27) rfl ?_
        refine g_iload_n hc 2 rfl rfl dX3_notePlaces_27 (n := 28) rfl ?_
        refine n_iast (ws' := [(r0, .inr (3, [.ref aB, .ref aP, .ref aQ, .ref aL, .ref aN, .int (nI x)])), (h2, aI κ 52 p), (aL, aI κ 52 (va_up g (p i) i))]) hc 2 rfl (by omega) (by decide) rfl dX3_notePlaces_28 (n := 29) rfl ?_
        refine n_iinc (v := i + 1) (zk := 1) (lv2 := [(0, .ref r0), (1, .ref h2), (2, .int (nI (i + 1))), (3, .int (nI (p i)))]) hc 2 rfl (by decide) rfl (by decide) [1, 2, 0, 3] rfl rfl dX3_notePlaces_29 (n := 32) rfl ?_
        refine g_goto (n := 2) hc dX3_notePlaces_32 (by decide) ?_
        refine g_lsub (lv' := [(0, .ref r0), (1, .ref h2), (2, .int (nI (i + 1)))]) [0, 1, 2] rfl ?_
        exact ih_2 (i + 1) (va_up g (p i) i) (by omega) (fun k hk => (Nat.lt_succ_iff_lt_or_eq.mp hk).elim (fun q => (va_up_ne _ _ (fun e => by have := hp.2 k i (by omega) (by omega) e; omega)).trans (hg k q)) (fun q => by subst q; exact va_up_self _ _ _)) (by omega)
  exact L_1 _ 0 pl (by omega) (fun k hk => absurd hk (Nat.not_lt_zero _)) (Nat.lt_succ_self _)
set_option maxHeartbeats 1000000 in
set_option maxRecDepth 100000 in
theorem c_X3_notedPlace (κ : Kp) (l : Launch) (r0 : Nat) (aB : Nat) (aP : Nat) (aQ : Nat) (aL : Nat) (aN : Nat) (x : Nat) (c : Nat) (pl : Nat → Nat) (hcc : c < 52) : CT κ l yX3_notedPlace cX3_notedPlace 2 (some .int) 0 0 0 0 [.ref r0, .int (nI c)] [(r0, .inr (3, [.ref aB, .ref aP, .ref aQ, .ref aL, .ref aN, .int (nI x)])), (aL, aI κ 52 pl)] (PI (fun rr ww => rr = (nI (pl c)) ∧ ww = [(r0, .inr (3, [.ref aB, .ref aP, .ref aQ, .ref aL, .ref aN, .int (nI x)])), (aL, aI κ 52 pl)])) := by
  refine CT.go (plainFor_of_name (by decide)) (Nat.le_of_ble_eq_true rfl) ?_
  intro Γ A Q hl hc hret
  subst hl
  have hc : Cx κ Γ A cX3_notedPlace 2 RX3 "notedPlace" (some .int) { frames := 0, cells := 0, slots := 0, locals := 0 } := hc
  refine g_lv (lv' := [(0, .ref r0), (1, .int (nI c))]) rfl ?_
  refine g_iload_n hc 1 rfl rfl dX3_notedPlace_0 (n := 1) rfl ?_
  refine n_if_lt hc (by omega) dX3_notedPlace_1 (tgt := 10) (by decide) (n := 4) rfl ?_
  refine g_iload_n hc 1 rfl rfl dX3_notedPlace_4 (n := 5) rfl ?_
  refine g_bipush (v := nI 52) hc (by decide) dX3_notedPlace_5 (n := 7) rfl ?_
  refine n_icmp_lt hc (by omega) (by omega) dX3_notedPlace_7 (tgt := 12) (by decide) (n := 10) rfl (fun c_2 => ?_) (fun c_2 => by (exfalso; revert c_2; first | omega | decide))
  refine g_aload_n hc 0 rfl rfl dX3_notedPlace_12 (n := 13) rfl ?_
  refine g_getf hc 0 rfl vw_3 inX3 3 (by decide) k_fl_RX3_21 rfl rfl dX3_notedPlace_13 (n := 16) rfl ?_
  refine g_iload_n hc 1 rfl rfl dX3_notedPlace_16 (n := 17) rfl ?_
  refine n_iald (v := pl c) hc 1 rfl (by omega) (by decide) rfl dX3_notedPlace_17 (n := 18) rfl ?_
  refine hret.1 _ _ _ _ _ _ rfl (by decide) (by decide) dX3_notedPlace_18 ?_
  exact ⟨_, rfl, rfl, rfl⟩
set_option maxHeartbeats 1000000 in
set_option maxRecDepth 100000 in
theorem c_X3_pairsFound (κ : Kp) (l : Launch) (r0 : Nat) (aB : Nat) (aP : Nat) (aQ : Nat) (aL : Nat) (aN : Nat) (x : Nat) (h1 : Nat) (h2 : Nat) (a : Nat → Nat) (p : Nat → Nat) (pl : Nat → Nat) (ha : Perm a) (hp : Perm p) : CT κ l yX3_pairsFound cX3_pairsFound 5 (some .int) 1 23 0 0 [.ref r0, .ref h1, .ref h2] [(r0, .inr (3, [.ref aB, .ref aP, .ref aQ, .ref aL, .ref aN, .int (nI x)])), (h1, aI κ 52 a), (h2, aI κ 52 p), (aL, aI κ 52 pl)] (PI (fun rr ww => rr = (nI (kp a p)) ∧ ww = [(r0, .inr (3, [.ref aB, .ref aP, .ref aQ, .ref aL, .ref aN, .int (nI x)])), (h1, aI κ 52 a), (h2, aI κ 52 p), (aL, aI κ 52 (inv p))])) := by
  refine CT.go (plainFor_of_name (by decide)) (Nat.le_of_ble_eq_true rfl) ?_
  intro Γ A Q hl hc hret
  subst hl
  have hc : Cx κ Γ A cX3_pairsFound 5 RX3 "pairsFound" (some .int) { frames := 1, cells := 0, slots := 0, locals := 23 } := hc
  refine g_lv (lv' := [(0, .ref r0), (1, .ref h1), (2, .ref h2)]) rfl ?_
  refine g_aload_n hc 0 rfl rfl dX3_pairsFound_0 (n := 1) rfl ?_
  refine g_aload_n hc 2 rfl rfl dX3_pairsFound_1 (n := 2) rfl ?_
  refine g_callV (rest := []) (As := [.ref h2]) (cells' := 0) (slots' := 0) hc (c_X3_notePlaces κ _ r0 aB aP aQ aL aN x h2 p pl hp) q_X3_notePlaces k_ml_RX3_65 rfl rfl (jn_ix (wr := [(h1, aI κ 52 a)]) [0, 2, 3] [1] rfl rfl rfl rfl (by decide)) (qr := 0) rfl vw_3 ⟨⟨by decide, by decide⟩, by decide, by decide⟩ (Nat.le_of_ble_eq_true rfl) rfl rfl dX3_pairsFound_2 (n := 5) rfl (fun vv ww hp => ?_)
  obtain ⟨rfl, rfl⟩ := hp
  refine ⟨_, rfl, ?_⟩
  refine g_ws (ws' := [(h1, aI κ 52 a), (r0, .inr (3, [.ref aB, .ref aP, .ref aQ, .ref aL, .ref aN, .int (nI x)])), (h2, aI κ 52 p), (aL, aI κ 52 (inv p))]) rfl ?_
  refine g_st (st' := []) rfl ?_
  refine g_iconst (v := nI 0) hc (by decide) dX3_pairsFound_5 (n := 6) rfl ?_
  refine g_istore_n (lv2 := [(0, .ref r0), (1, .ref h1), (2, .ref h2), (3, .int (nI 0))]) hc rfl (by decide) [1, 2, 3, 0] rfl rfl dX3_pairsFound_6 (n := 7) rfl ?_
  refine g_iconst (v := nI 1) hc (by decide) dX3_pairsFound_7 (n := 8) rfl ?_
  refine g_istore (lv2 := [(0, .ref r0), (1, .ref h1), (2, .ref h2), (3, .int (nI 0)), (4, .int (nI 1))]) hc (by decide) [1, 2, 3, 4, 0] rfl rfl dX3_pairsFound_8 (n := 10) rfl ?_
  have L_1 : ∀ (fuel : Nat) (i : Nat) (s : Nat), (i ≤ 51) → (s = sm (fun k => if inv p (a (k + 1)) = inv p (a k) + 1 then 1 else 0) i) → 51 - i < fuel → G κ Γ A 5 0 0 Q [(h1, aI κ 52 a), (r0, .inr (3, [.ref aB, .ref aP, .ref aQ, .ref aL, .ref aN, .int (nI x)])), (h2, aI κ 52 p), (aL, aI κ 52 (inv p))] 10 [(0, .ref r0), (1, .ref h1), (2, .ref h2), (3, .int (nI s)), (4, .int (nI (i + 1)))] [] := by
    intro fuel
    induction fuel with
    | zero => intro i s hi hs h; exact absurd h (Nat.not_lt_zero _)
    | succ fuel ih_2 =>
      intro i s hi hs hn_3
      refine g_iload hc 4 rfl dX3_pairsFound_10 (n := 12) rfl ?_
      refine g_bipush (v := nI 52) hc (by decide) dX3_pairsFound_12 (n := 14) rfl ?_
      refine n_icmp_ge hc (by omega) (by omega) dX3_pairsFound_14 (tgt := 49) (by decide) (n := 17) rfl (fun c_4 => ?_) (fun c_4 => ?_)
      · skip
        refine g_iload_n hc 3 rfl rfl dX3_pairsFound_49 (n := 50) rfl ?_
        refine g_sub (ws' := [(r0, .inr (3, [.ref aB, .ref aP, .ref aQ, .ref aL, .ref aN, .int (nI x)])), (h1, aI κ 52 a), (h2, aI κ 52 p), (aL, aI κ 52 (inv p))]) [1, 0, 2, 3] rfl rfl ?_
        refine hret.1 _ _ _ _ _ _ rfl (by decide) (by decide) dX3_pairsFound_50 ?_
        exact ⟨_, rfl, (by have e9 : i = 51 := (by omega); subst e9; rw [hs]; rfl), rfl⟩
      · skip
        refine g_aload_n hc 0 rfl rfl dX3_pairsFound_17 (n := 18) rfl ?_
        refine g_aload_n hc 1 rfl rfl dX3_pairsFound_18 (n := 19) rfl ?_
        refine g_iload hc 4 rfl dX3_pairsFound_19 (n := 21) rfl ?_
        refine n_iald (v := a (i + 1)) hc 0 rfl (by omega) (by decide) rfl dX3_pairsFound_21 (n := 22) rfl ?_
        have b_5 := ha.1 (i + 1) (by omega)
        refine g_callV (rest := []) (As := [.int (nI (a (i + 1)))]) (cells' := 0) (slots' := 0) hc (c_X3_notedPlace κ _ r0 aB aP aQ aL aN x (a (i + 1)) (inv p) (by omega)) q_X3_notedPlace k_ml_RX3_69 rfl rfl (jn_ix (wr := [(h1, aI κ 52 a), (h2, aI κ 52 p)]) [1, 3] [0, 2] rfl rfl rfl rfl (by decide)) (qr := 1) rfl vw_3 ⟨⟨by decide, by decide⟩, by decide, by decide⟩ (Nat.le_of_ble_eq_true rfl) rfl rfl dX3_pairsFound_22 (n := 25) rfl (fun vv ww hp => ?_)
        obtain ⟨rr, rfl, rfl, rfl⟩ := hp
        refine ⟨_, rfl, ?_⟩
        refine g_ws (ws' := [(h1, aI κ 52 a), (h2, aI κ 52 p), (r0, .inr (3, [.ref aB, .ref aP, .ref aQ, .ref aL, .ref aN, .int (nI x)])), (aL, aI κ 52 (inv p))]) rfl ?_
        refine g_st (st' := [.int (nI ((inv p) (a (i + 1))))]) rfl ?_
        have iv_6 := inv_le p (a (i + 1))
        refine g_aload_n hc 0 rfl rfl dX3_pairsFound_25 (n := 26) rfl ?_
        refine g_aload_n hc 1 rfl rfl dX3_pairsFound_26 (n := 27) rfl ?_
        refine g_iload hc 4 rfl dX3_pairsFound_27 (n := 29) rfl ?_
        refine g_iconst (v := nI 1) hc (by decide) dX3_pairsFound_29 (n := 30) rfl ?_
        refine n_isub (v := i) hc (by omega) rfl dX3_pairsFound_30 (n := 31) rfl ?_
        refine n_iald (v := a i) hc 0 rfl (by omega) (by decide) rfl dX3_pairsFound_31 (n := 32) rfl ?_
        have b_7 := ha.1 i (by omega)
        refine g_callV (rest := [.int (nI ((inv p) (a (i + 1))))]) (As := [.int (nI (a i))]) (cells' := 0) (slots' := 0) hc (c_X3_notedPlace κ _ r0 aB aP aQ aL aN x (a i) (inv p) (by omega)) q_X3_notedPlace k_ml_RX3_69 rfl rfl (jn_ix (wr := [(h1, aI κ 52 a), (h2, aI κ 52 p)]) [2, 3] [0, 1] rfl rfl rfl rfl (by decide)) (qr := 2) rfl vw_3 ⟨⟨by decide, by decide⟩, by decide, by decide⟩ (Nat.le_of_ble_eq_true rfl) rfl rfl dX3_pairsFound_32 (n := 35) rfl (fun vv ww hp => ?_)
        obtain ⟨rr, rfl, rfl, rfl⟩ := hp
        refine ⟨_, rfl, ?_⟩
        refine g_ws (ws' := [(h1, aI κ 52 a), (h2, aI κ 52 p), (r0, .inr (3, [.ref aB, .ref aP, .ref aQ, .ref aL, .ref aN, .int (nI x)])), (aL, aI κ 52 (inv p))]) rfl ?_
        refine g_st (st' := [.int (nI ((inv p) (a i))), .int (nI ((inv p) (a (i + 1))))]) rfl ?_
        have iv_8 := inv_le p (a i)
        refine g_iconst (v := nI 1) hc (by decide) dX3_pairsFound_35 (n := 36) rfl ?_
        refine n_iadd (v := ((inv p) (a i)) + 1) hc rfl dX3_pairsFound_36 (n := 37) rfl ?_
        refine n_icmp_ne hc (by omega) (by omega) dX3_pairsFound_37 (tgt := 43) (by decide) (n := 40) rfl (fun c_9 => ?_) (fun c_9 => ?_)
        · skip
          refine n_iinc (v := (i + 1) + 1) (zk := 1) (lv2 := [(0, .ref r0), (1, .ref h1), (2, .ref h2), (3, .int (nI s)), (4, .int (nI ((i + 1) + 1)))]) hc 4 rfl (by decide) rfl (by decide) [1, 2, 3, 4, 0] rfl rfl dX3_pairsFound_43 (n := 46) rfl ?_
          refine g_goto (n := 10) hc dX3_pairsFound_46 (by decide) ?_
          refine g_sub (ws' := [(h1, aI κ 52 a), (r0, .inr (3, [.ref aB, .ref aP, .ref aQ, .ref aL, .ref aN, .int (nI x)])), (h2, aI κ 52 p), (aL, aI κ 52 (inv p))]) [0, 2, 1, 3] rfl rfl ?_
          exact ih_2 (i + 1) s (by omega) (by rw [sm_s, ← hs]; first | (split <;> omega) | omega) (by omega)
        · skip
          refine n_iinc (v := s + 1) (zk := 1) (lv2 := [(0, .ref r0), (1, .ref h1), (2, .ref h2), (3, .int (nI (s + 1))), (4, .int (nI (i + 1)))]) hc 3 rfl (by decide) rfl (by decide) [1, 2, 3, 0, 4] rfl rfl dX3_pairsFound_40 (n := 43) rfl ?_
          refine n_iinc (v := (i + 1) + 1) (zk := 1) (lv2 := [(0, .ref r0), (1, .ref h1), (2, .ref h2), (3, .int (nI (s + 1))), (4, .int (nI ((i + 1) + 1)))]) hc 4 rfl (by decide) rfl (by decide) [1, 2, 3, 4, 0] rfl rfl dX3_pairsFound_43 (n := 46) rfl ?_
          refine g_goto (n := 10) hc dX3_pairsFound_46 (by decide) ?_
          refine g_sub (ws' := [(h1, aI κ 52 a), (r0, .inr (3, [.ref aB, .ref aP, .ref aQ, .ref aL, .ref aN, .int (nI x)])), (h2, aI κ 52 p), (aL, aI κ 52 (inv p))]) [0, 2, 1, 3] rfl rfl ?_
          exact ih_2 (i + 1) (s + 1) (by omega) (by rw [sm_s, ← hs]; first | (split <;> omega) | omega) (by omega)
  exact L_1 _ 0 0 (by omega) (rfl) (Nat.lt_succ_self _)
set_option maxHeartbeats 1000000 in
set_option maxRecDepth 100000 in
theorem c_X3_keptPairs0 (κ : Kp) (l : Launch) (r0 : Nat) (aB : Nat) (aP : Nat) (aQ : Nat) (aL : Nat) (aN : Nat) (x : Nat) (a : Nat → Nat) (p : Nat → Nat) (pl : Nat → Nat) (ha : Perm a) (hp : Perm p) : CT κ l yX3_keptPairs cX3_keptPairs 2 (some .int) 2 47 0 0 [.ref r0, .int (nI 0)] [(r0, .inr (3, [.ref aB, .ref aP, .ref aQ, .ref aL, .ref aN, .int (nI x)])), (aB, aI κ 52 a), (aP, aI κ 52 p), (aL, aI κ 52 pl)] (PI (fun rr ww => rr = (nI (kp a p)) ∧ ww = [(r0, .inr (3, [.ref aB, .ref aP, .ref aQ, .ref aL, .ref aN, .int (nI x)])), (aB, aI κ 52 a), (aP, aI κ 52 p), (aL, aI κ 52 (inv p))])) := by
  refine CT.go (plainFor_of_name (by decide)) (Nat.le_of_ble_eq_true rfl) ?_
  intro Γ A Q hl hc hret
  subst hl
  have hc : Cx κ Γ A cX3_keptPairs 2 RX3 "keptPairs" (some .int) { frames := 2, cells := 0, slots := 0, locals := 47 } := hc
  refine g_lv (lv' := [(0, .ref r0), (1, .int (nI 0))]) rfl ?_
  refine g_iload_n hc 1 rfl rfl dX3_keptPairs_0 (n := 1) rfl ?_
  refine n_if_ne hc (by omega) dX3_keptPairs_1 (tgt := 17) (by decide) (n := 4) rfl (fun c_1 => by (exfalso; revert c_1; first | omega | decide)) (fun c_1 => ?_)
  refine g_aload_n hc 0 rfl rfl dX3_keptPairs_4 (n := 5) rfl ?_
  refine g_aload_n hc 0 rfl rfl dX3_keptPairs_5 (n := 6) rfl ?_
  refine g_getf hc 0 rfl vw_3 inX3 0 (by decide) k_fl_RX3_9 rfl rfl dX3_keptPairs_6 (n := 9) rfl ?_
  refine g_aload_n hc 0 rfl rfl dX3_keptPairs_9 (n := 10) rfl ?_
  refine g_getf hc 0 rfl vw_3 inX3 1 (by decide) k_fl_RX3_15 rfl rfl dX3_keptPairs_10 (n := 13) rfl ?_
  refine g_callV (rest := []) (As := [.ref aB, .ref aP]) (cells' := 0) (slots' := 0) hc (c_X3_pairsFound κ _ r0 aB aP aQ aL aN x aB aP a p pl ha hp) q_X3_pairsFound k_ml_RX3_61 rfl rfl (jn_ix (wr := []) [0, 1, 2, 3] [] rfl rfl rfl rfl (by decide)) (qr := 0) rfl vw_3 ⟨⟨by decide, by decide⟩, by decide, by decide⟩ (Nat.le_of_ble_eq_true rfl) rfl rfl dX3_keptPairs_13 (n := 16) rfl (fun vv ww hp => ?_)
  obtain ⟨rr, rfl, rfl, rfl⟩ := hp
  refine ⟨_, rfl, ?_⟩
  refine g_ws (ws' := [(r0, .inr (3, [.ref aB, .ref aP, .ref aQ, .ref aL, .ref aN, .int (nI x)])), (aB, aI κ 52 a), (aP, aI κ 52 p), (aL, aI κ 52 (inv p))]) rfl ?_
  refine g_st (st' := [.int (nI (kp a p))]) rfl ?_
  refine hret.1 _ _ _ _ _ _ rfl (by decide) (by decide) dX3_keptPairs_16 ?_
  exact ⟨_, rfl, rfl, rfl⟩
set_option maxHeartbeats 1000000 in
set_option maxRecDepth 100000 in
theorem c_X3_keptPairs1 (κ : Kp) (l : Launch) (r0 : Nat) (aB : Nat) (aP : Nat) (aQ : Nat) (aL : Nat) (aN : Nat) (x : Nat) (a : Nat → Nat) (p : Nat → Nat) (pl : Nat → Nat) (ha : Perm a) (hp : Perm p) : CT κ l yX3_keptPairs cX3_keptPairs 2 (some .int) 2 47 0 0 [.ref r0, .int (nI 1)] [(r0, .inr (3, [.ref aB, .ref aP, .ref aQ, .ref aL, .ref aN, .int (nI x)])), (aB, aI κ 52 a), (aP, aI κ 52 p), (aL, aI κ 52 pl)] (PI (fun rr ww => rr = (nI (kp a p)) ∧ ww = [(r0, .inr (3, [.ref aB, .ref aP, .ref aQ, .ref aL, .ref aN, .int (nI x)])), (aB, aI κ 52 a), (aP, aI κ 52 p), (aL, aI κ 52 (inv a))])) := by
  refine CT.go (plainFor_of_name (by decide)) (Nat.le_of_ble_eq_true rfl) ?_
  intro Γ A Q hl hc hret
  subst hl
  have hc : Cx κ Γ A cX3_keptPairs 2 RX3 "keptPairs" (some .int) { frames := 2, cells := 0, slots := 0, locals := 47 } := hc
  refine g_lv (lv' := [(0, .ref r0), (1, .int (nI 1))]) rfl ?_
  refine g_iload_n hc 1 rfl rfl dX3_keptPairs_0 (n := 1) rfl ?_
  refine n_if_ne hc (by omega) dX3_keptPairs_1 (tgt := 17) (by decide) (n := 4) rfl (fun c_1 => ?_) (fun c_1 => by (exfalso; revert c_1; first | omega | decide))
  refine g_aload_n hc 0 rfl rfl dX3_keptPairs_17 (n := 18) rfl ?_
  refine g_aload_n hc 0 rfl rfl dX3_keptPairs_18 (n := 19) rfl ?_
  refine g_getf hc 0 rfl vw_3 inX3 1 (by decide) k_fl_RX3_15 rfl rfl dX3_keptPairs_19 (n := 22) rfl ?_
  refine g_aload_n hc 0 rfl rfl dX3_keptPairs_22 (n := 23) rfl ?_
  refine g_getf hc 0 rfl vw_3 inX3 0 (by decide) k_fl_RX3_9 rfl rfl dX3_keptPairs_23 (n := 26) rfl ?_
  refine g_callV (rest := []) (As := [.ref aP, .ref aB]) (cells' := 0) (slots' := 0) hc (c_X3_pairsFound κ _ r0 aB aP aQ aL aN x aP aB p a pl hp ha) q_X3_pairsFound k_ml_RX3_61 rfl rfl (jn_ix (wr := []) [0, 2, 1, 3] [] rfl rfl rfl rfl (by decide)) (qr := 0) rfl vw_3 ⟨⟨by decide, by decide⟩, by decide, by decide⟩ (Nat.le_of_ble_eq_true rfl) rfl rfl dX3_keptPairs_26 (n := 29) rfl (fun vv ww hp => ?_)
  obtain ⟨rr, rfl, rfl, rfl⟩ := hp
  refine ⟨_, rfl, ?_⟩
  refine g_ws (ws' := [(r0, .inr (3, [.ref aB, .ref aP, .ref aQ, .ref aL, .ref aN, .int (nI x)])), (aP, aI κ 52 p), (aB, aI κ 52 a), (aL, aI κ 52 (inv a))]) rfl ?_
  refine g_st (st' := [.int (nI (kp p a))]) rfl ?_
  refine g_sub (ws' := [(r0, .inr (3, [.ref aB, .ref aP, .ref aQ, .ref aL, .ref aN, .int (nI x)])), (aB, aI κ 52 a), (aP, aI κ 52 p), (aL, aI κ 52 (inv a))]) [0, 2, 1, 3] rfl rfl ?_
  refine hret.1 _ _ _ _ _ _ rfl (by decide) (by decide) dX3_keptPairs_29 ?_
  exact ⟨_, rfl, (by rw [kp_swap ha hp]), rfl⟩
set_option maxHeartbeats 1000000 in
set_option maxRecDepth 100000 in
theorem c_X3_riffleOnce (κ : Kp) (l : Launch) (r0 : Nat) (aB : Nat) (aP : Nat) (aQ : Nat) (aL : Nat) (aN : Nat) (x : Nat) (p : Nat → Nat) (q : Nat → Nat) (b : Nat → Nat) (hp : Perm p) (hx : x < 2 ^ 31) (hb : ∀ k, k < 52 → b k ≤ 1) : CT κ l yX3_riffleOnce cX3_riffleOnce 8 none 1 40 0 0 [.ref r0] [(r0, .inr (3, [.ref aB, .ref aP, .ref aQ, .ref aL, .ref aN, .int (nI x)])), (aP, aI κ 52 p), (aQ, aI κ 52 q), (aN, aZ κ 52 b)] (PV (fun ww => ww = [(r0, .inr (3, [.ref aB, .ref aP, .ref aQ, .ref aL, .ref aN, .int (nI (rfx b p x))])), (aP, aI κ 52 (rfp b p x)), (aQ, aI κ 52 p), (aN, aZ κ 52 b)])) := by
  refine CT.go (plainFor_of_name (by decide)) (Nat.le_of_ble_eq_true rfl) ?_
  intro Γ A Q hl hc hret
  subst hl
  have hc : Cx κ Γ A cX3_riffleOnce 8 RX3 "riffleOnce" none { frames := 1, cells := 0, slots := 0, locals := 40 } := hc
  refine g_lv (lv' := [(0, .ref r0)]) rfl ?_
  refine g_aload_n hc 0 rfl rfl dX3_riffleOnce_0 (n := 1) rfl ?_
  refine g_getf hc 0 rfl vw_3 inX3 1 (by decide) k_fl_RX3_15 rfl rfl dX3_riffleOnce_1 (n := 4) rfl ?_
  refine g_iconst (v := nI 0) hc (by decide) dX3_riffleOnce_4 (n := 5) rfl ?_
  refine g_aload_n hc 0 rfl rfl dX3_riffleOnce_5 (n := 6) rfl ?_
  refine g_getf hc 0 rfl vw_3 inX3 2 (by decide) k_fl_RX3_18 rfl rfl dX3_riffleOnce_6 (n := 9) rfl ?_
  refine g_iconst (v := nI 0) hc (by decide) dX3_riffleOnce_9 (n := 10) rfl ?_
  refine g_bipush (v := nI 52) hc (by decide) dX3_riffleOnce_10 (n := 12) rfl ?_
  refine n_copy (ws' := [(r0, .inr (3, [.ref aB, .ref aP, .ref aQ, .ref aL, .ref aN, .int (nI x)])), (aP, aI κ 52 p), (aQ, aI κ 52 (va_cpy p q 0 0 52)), (aN, aZ κ 52 b)]) (f := p) (g := q) hc 1 2 0 rfl rfl rfl rfl (by omega) (by omega) (by decide) (by decide) (fun _ _ => rfl) k_ml_RX3_31 ⟨by decide, Nat.le_of_ble_eq_true rfl⟩ rfl dX3_riffleOnce_12 (n := 15) rfl ?_
  refine g_arr (ws' := [(r0, .inr (3, [.ref aB, .ref aP, .ref aQ, .ref aL, .ref aN, .int (nI x)])), (aP, aI κ 52 p), (aQ, aI κ 52 p), (aN, aZ κ 52 b)]) (f := va_cpy p q 0 0 52) (g := p) 2 rfl (fun k hk => by rw [va_cpy, if_pos ⟨Nat.zero_le k, by omega⟩]; simp) rfl ?_
  refine g_bipush (v := nI 24) hc (by decide) dX3_riffleOnce_15 (n := 17) rfl ?_
  refine g_aload_n hc 0 rfl rfl dX3_riffleOnce_17 (n := 18) rfl ?_
  refine g_iconst (v := nI 5) hc (by decide) dX3_riffleOnce_18 (n := 19) rfl ?_
  refine g_callV (rest := [.int (nI 24)]) (As := [.int (nI 5)]) (cells' := 0) (slots' := 0) hc (c_X3_drawBelow κ _ r0 aB aP aQ aL aN x 5 hx (by omega) (by omega)) q_X3_drawBelow k_ml_RX3_46 rfl rfl (jn_ix (wr := [(aP, aI κ 52 p), (aQ, aI κ 52 p), (aN, aZ κ 52 b)]) [0] [1, 2, 3] rfl rfl rfl rfl (by decide)) (qr := 0) rfl vw_3 ⟨⟨by decide, by decide⟩, by decide, by decide⟩ (Nat.le_of_ble_eq_true rfl) rfl rfl dX3_riffleOnce_19 (n := 22) rfl (fun vv ww hp => ?_)
  obtain ⟨rr, rfl, rfl, rfl⟩ := hp
  refine ⟨_, rfl, ?_⟩
  refine g_ws (ws' := [(aP, aI κ 52 p), (aQ, aI κ 52 p), (aN, aZ κ 52 b), (r0, .inr (3, [.ref aB, .ref aP, .ref aQ, .ref aL, .ref aN, .int (nI (nx x))]))]) rfl ?_
  refine g_st (st' := [.int (nI (dv (nx x) 5)), .int (nI 24)]) rfl ?_
  have dl_1 := dv_lt (nx x) (b := 5) (by omega)
  refine n_iadd (v := 24 + (dv (nx x) 5)) hc rfl dX3_riffleOnce_22 (n := 23) rfl ?_
  refine g_istore_n (lv2 := [(0, .ref r0), (1, .int (nI (24 + (dv (nx x) 5))))]) hc rfl (by decide) [1, 0] rfl rfl dX3_riffleOnce_23 (n := 24) rfl ?_
  have hsp := spl_in x
  refine g_lv (lv' := [(0, .ref r0), (1, .int (nI (spl x)))]) rfl ?_
  refine g_iconst (v := nI 0) hc (by decide) dX3_riffleOnce_24 (n := 25) rfl ?_
  refine g_istore_n (lv2 := [(0, .ref r0), (1, .int (nI (spl x))), (2, .int (nI 0))]) hc rfl (by decide) [1, 2, 0] rfl rfl dX3_riffleOnce_25 (n := 26) rfl ?_
  refine g_iload_n hc 1 rfl rfl dX3_riffleOnce_26 (n := 27) rfl ?_
  refine g_istore_n (lv2 := [(0, .ref r0), (1, .int (nI (spl x))), (2, .int (nI 0)), (3, .int (nI (spl x)))]) hc rfl (by decide) [1, 2, 3, 0] rfl rfl dX3_riffleOnce_27 (n := 28) rfl ?_
  refine g_iconst (v := nI 0) hc (by decide) dX3_riffleOnce_28 (n := 29) rfl ?_
  refine g_istore (lv2 := [(0, .ref r0), (1, .int (nI (spl x))), (2, .int (nI 0)), (3, .int (nI (spl x))), (4, .int (nI 0))]) hc (by decide) [1, 2, 3, 4, 0] rfl rfl dX3_riffleOnce_29 (n := 31) rfl ?_
  refine g_iconst (v := nI 0) hc (by decide) dX3_riffleOnce_31 (n := 32) rfl ?_
  refine g_istore (lv2 := [(0, .ref r0), (1, .int (nI (spl x))), (2, .int (nI 0)), (3, .int (nI (spl x))), (4, .int (nI 0)), (5, .int (nI 0))]) hc (by decide) [1, 2, 3, 4, 5, 0] rfl rfl dX3_riffleOnce_32 (n := 34) rfl ?_
  refine g_iconst (v := nI 0) hc (by decide) dX3_riffleOnce_34 (n := 35) rfl ?_
  refine g_istore (lv2 := [(0, .ref r0), (1, .int (nI (spl x))), (2, .int (nI 0)), (3, .int (nI (spl x))), (4, .int (nI 0)), (5, .int (nI 0)), (6, .int (nI 0))]) hc (by decide) [1, 2, 3, 4, 5, 6, 0] rfl rfl dX3_riffleOnce_35 (n := 37) rfl ?_
  have L_2 : ∀ (fuel : Nat) (i : Nat) (u : Nat) (l : Nat) (f : Nat) (t : Nat) (X : Nat) (g : Nat → Nat), (i ≤ 52) → (rsn p b (spl x) (nx x) i = (X, u, l, f, t)) → (f ≤ 1) → (t ≤ 1) → (∀ k, k < i → g k = rfp b p x k) → 52 - i < fuel → G κ Γ A 8 0 0 Q [(aP, aI κ 52 g), (aQ, aI κ 52 p), (aN, aZ κ 52 b), (r0, .inr (3, [.ref aB, .ref aP, .ref aQ, .ref aL, .ref aN, .int (nI X)]))] 37 [(0, .ref r0), (1, .int (nI (spl x))), (2, .int (nI u)), (3, .int (nI l)), (4, .int (nI f)), (5, .int (nI t)), (6, .int (nI i))] [] := by
    intro fuel
    induction fuel with
    | zero => intro i u l f t X g hi hst hf ht hg h; exact absurd h (Nat.not_lt_zero _)
    | succ fuel ih_3 =>
      intro i u l f t X g hi hst hf ht hg hn_4
      have hin := rsn_in p b (nx_lt x) (spl_52 x) i hi
      rw [hst] at hin
      dsimp only at hin
      obtain ⟨hX, hu, hl1, hl2, hul⟩ := hin
      refine g_iload hc 6 rfl dX3_riffleOnce_37 (n := 39) rfl ?_
      refine g_bipush (v := nI 52) hc (by decide) dX3_riffleOnce_39 (n := 41) rfl ?_
      refine n_icmp_ge hc (by omega) (by omega) dX3_riffleOnce_41 (tgt := 165) (by decide) (n := 44) rfl (fun c_5 => ?_) (fun c_5 => ?_)
      · skip
        have e9 : i = 52 := by omega
        have ex : X = rfx b p x := rfx_of e9 hst
        refine g_ws (ws' := [(aP, aI κ 52 g), (aQ, aI κ 52 p), (aN, aZ κ 52 b), (r0, .inr (3, [.ref aB, .ref aP, .ref aQ, .ref aL, .ref aN, .int (nI (rfx b p x))]))]) (by rw [ex]) ?_
        refine g_sub (ws' := [(r0, .inr (3, [.ref aB, .ref aP, .ref aQ, .ref aL, .ref aN, .int (nI (rfx b p x))])), (aP, aI κ 52 g), (aQ, aI κ 52 p), (aN, aZ κ 52 b)]) [3, 0, 1, 2] rfl rfl ?_
        refine g_arr (ws' := [(r0, .inr (3, [.ref aB, .ref aP, .ref aQ, .ref aL, .ref aN, .int (nI (rfx b p x))])), (aP, aI κ 52 (rfp b p x)), (aQ, aI κ 52 p), (aN, aZ κ 52 b)]) (f := g) (g := rfp b p x) 1 rfl (fun k hk => hg k (by omega)) rfl ?_
        refine hret.2.2.1 _ _ _ _ _ rfl (by decide) (by decide) dX3_riffleOnce_165 ?_
        exact ⟨rfl, rfl⟩
      · skip
        refine g_iload_n hc 2 rfl rfl dX3_riffleOnce_44 (n := 45) rfl ?_
        refine g_iload_n hc 1 rfl rfl dX3_riffleOnce_45 (n := 46) rfl ?_
        refine n_icmp_lt hc (by omega) (by omega) dX3_riffleOnce_46 (tgt := 55) (by decide) (n := 49) rfl (fun c_6 => ?_) (fun c_6 => ?_)
        · skip
          refine g_iload_n hc 2 rfl rfl dX3_riffleOnce_55 (n := 56) rfl ?_
          refine g_iload_n hc 1 rfl rfl dX3_riffleOnce_56 (n := 57) rfl ?_
          refine n_icmp_ge hc (by omega) (by omega) dX3_riffleOnce_57 (tgt := 66) (by decide) (n := 60) rfl (fun c_7 => ?_) (fun c_7 => ?_)
          · skip
            exfalso; omega
          · skip
            refine g_iload_n hc 3 rfl rfl dX3_riffleOnce_60 (n := 61) rfl ?_
            refine g_bipush (v := nI 52) hc (by decide) dX3_riffleOnce_61 (n := 63) rfl ?_
            refine n_icmp_lt hc (by omega) (by omega) dX3_riffleOnce_63 (tgt := 81) (by decide) (n := 66) rfl (fun c_8 => ?_) (fun c_8 => ?_)
            · skip
              refine g_iload hc 5 rfl dX3_riffleOnce_81 (n := 83) rfl ?_
              refine n_if_ne hc (by omega) dX3_riffleOnce_83 (tgt := 111) (by decide) (n := 86) rfl (fun c_9 => ?_) (fun c_9 => ?_)
              · skip
                refine g_aload_n hc 0 rfl rfl dX3_riffleOnce_111 (n := 112) rfl ?_
                refine g_getf hc 3 rfl vw_3 inX3 2 (by decide) k_fl_RX3_18 rfl rfl dX3_riffleOnce_112 (n := 115) rfl ?_
                refine g_iload hc 4 rfl dX3_riffleOnce_115 (n := 117) rfl ?_
                refine n_if_eq hc (by omega) dX3_riffleOnce_117 (tgt := 124) (by decide) (n := 120) rfl (fun c_10 => ?_) (fun c_10 => ?_)
                · skip
                  subst c_10
                  refine g_iload_n hc 3 rfl rfl dX3_riffleOnce_124 (n := 125) rfl ?_
                  refine n_iald (v := p l) hc 1 rfl (by omega) (by decide) rfl dX3_riffleOnce_125 (n := 126) rfl ?_
                  have b_11 := hp.1 l (by omega)
                  refine g_istore (lv2 := [(0, .ref r0), (1, .int (nI (spl x))), (2, .int (nI u)), (3, .int (nI l)), (4, .int (nI 0)), (5, .int (nI t)), (6, .int (nI i)), (7, .int (nI (p l)))]) hc (by decide) [1, 2, 3, 4, 5, 6, 7, 0] rfl rfl dX3_riffleOnce_126 (n := 128) rfl ?_
                  refine g_aload_n hc 0 rfl rfl dX3_riffleOnce_128 (n := 129) rfl ?_
                  refine g_getf hc 3 rfl vw_3 inX3 1 (by decide) k_fl_RX3_15 rfl rfl dX3_riffleOnce_129 (n := 132) rfl ?_
                  refine g_iload hc 6 rfl dX3_riffleOnce_132 (n := 134) rfl ?_
                  refine g_iload hc 7 rfl dX3_riffleOnce_134 (n := 136) rfl ?_
                  refine n_iast (ws' := [(aP, aI κ 52 (va_up g i (p l))), (aQ, aI κ 52 p), (aN, aZ κ 52 b), (r0, .inr (3, [.ref aB, .ref aP, .ref aQ, .ref aL, .ref aN, .int (nI X)]))]) hc 0 rfl (by omega) (by decide) rfl dX3_riffleOnce_136 (n := 137) rfl ?_
                  refine g_aload_n hc 0 rfl rfl dX3_riffleOnce_137 (n := 138) rfl ?_
                  refine g_iload hc 7 rfl dX3_riffleOnce_138 (n := 140) rfl ?_
                  refine g_callV (rest := []) (As := [.int (nI (p l))]) (cells' := 0) (slots' := 0) hc (c_X3_isBent κ _ r0 aB aP aQ aL aN X (p l) b (by omega) hb) q_X3_isBent k_ml_RX3_50 rfl rfl (jn_ix (wr := [(aP, aI κ 52 (va_up g i (p l))), (aQ, aI κ 52 p)]) [3, 2] [0, 1] rfl rfl rfl rfl (by decide)) (qr := 3) rfl vw_3 ⟨⟨by decide, by decide⟩, by decide, by decide⟩ (Nat.le_of_ble_eq_true rfl) rfl rfl dX3_riffleOnce_140 (n := 143) rfl (fun vv ww hp => ?_)
                  obtain ⟨rr, rfl, rfl, rfl⟩ := hp
                  refine ⟨_, rfl, ?_⟩
                  refine g_ws (ws' := [(aP, aI κ 52 (va_up g i (p l))), (aQ, aI κ 52 p), (r0, .inr (3, [.ref aB, .ref aP, .ref aQ, .ref aL, .ref aN, .int (nI X)])), (aN, aZ κ 52 b)]) rfl ?_
                  refine g_st (st' := [.int (nI (b (p l)))]) rfl ?_
                  have hbb_12 := hb (p l) (by omega)
                  refine g_istore (lv2 := [(0, .ref r0), (1, .int (nI (spl x))), (2, .int (nI u)), (3, .int (nI l)), (4, .int (nI 0)), (5, .int (nI (b (p l)))), (6, .int (nI i)), (7, .int (nI (p l)))]) hc (by decide) [1, 2, 3, 4, 5, 0, 6, 7] rfl rfl dX3_riffleOnce_143 (n := 145) rfl ?_
                  refine g_iload hc 4 rfl dX3_riffleOnce_145 (n := 147) rfl ?_
                  refine n_if_eq hc (by omega) dX3_riffleOnce_147 (tgt := 156) (by decide) (n := 150) rfl (fun c_13 => ?_) (fun c_13 => by (exfalso; revert c_13; first | omega | decide))
                  refine n_iinc (v := l + 1) (zk := 1) (lv2 := [(0, .ref r0), (1, .int (nI (spl x))), (2, .int (nI u)), (3, .int (nI (l + 1))), (4, .int (nI 0)), (5, .int (nI (b (p l)))), (6, .int (nI i)), (7, .int (nI (p l)))]) hc 3 rfl (by decide) rfl (by decide) [1, 2, 3, 0, 4, 5, 6, 7] rfl rfl dX3_riffleOnce_156 (n := 159) rfl ?_
                  refine n_iinc (v := i + 1) (zk := 1) (lv2 := [(0, .ref r0), (1, .int (nI (spl x))), (2, .int (nI u)), (3, .int (nI (l + 1))), (4, .int (nI 0)), (5, .int (nI (b (p l)))), (6, .int (nI (i + 1))), (7, .int (nI (p l)))]) hc 6 rfl (by decide) rfl (by decide) [1, 2, 3, 4, 5, 6, 0, 7] rfl rfl dX3_riffleOnce_159 (n := 162) rfl ?_
                  refine g_goto (n := 37) hc dX3_riffleOnce_162 (by decide) ?_
                  refine g_sub (ws' := [(aP, aI κ 52 (va_up g i (p l))), (aQ, aI κ 52 p), (aN, aZ κ 52 b), (r0, .inr (3, [.ref aB, .ref aP, .ref aQ, .ref aL, .ref aN, .int (nI X)]))]) [0, 1, 3, 2] rfl rfl ?_
                  refine g_lsub (lv' := [(0, .ref r0), (1, .int (nI (spl x))), (2, .int (nI u)), (3, .int (nI (l + 1))), (4, .int (nI 0)), (5, .int (nI (b (p l)))), (6, .int (nI (i + 1)))]) [0, 1, 2, 3, 4, 5, 6] rfl ?_
                  have hst2 : rsn p b (spl x) (nx x) (i + 1) = (X, u, l + 1, 0, b (p l)) := by rw [rsn, hst]; unfold rst; dsimp only; (repeat' split) <;> first | rfl | (exfalso; omega)
                  exact ih_3 (i + 1) u (l + 1) 0 (b (p l)) X (va_up g i (p l)) (by omega) (hst2) (by omega) (by first | assumption | omega) (fun k hk => (Nat.lt_succ_iff_lt_or_eq.mp hk).elim (fun q => (va_up_ne _ _ (by omega)).trans (hg k q)) (fun q => by subst q; rw [va_up_self]; unfold rfp rcd rix; rw [hst, hst2]; first | rfl | simp)) (by omega)
                · skip
                  have ef : f = 1 := by omega
                  subst ef
                  refine g_iload_n hc 2 rfl rfl dX3_riffleOnce_120 (n := 121) rfl ?_
                  refine g_goto (n := 125) hc dX3_riffleOnce_121 (by decide) ?_
                  refine n_iald (v := p u) hc 1 rfl (by omega) (by decide) rfl dX3_riffleOnce_125 (n := 126) rfl ?_
                  have b_14 := hp.1 u (by omega)
                  refine g_istore (lv2 := [(0, .ref r0), (1, .int (nI (spl x))), (2, .int (nI u)), (3, .int (nI l)), (4, .int (nI 1)), (5, .int (nI t)), (6, .int (nI i)), (7, .int (nI (p u)))]) hc (by decide) [1, 2, 3, 4, 5, 6, 7, 0] rfl rfl dX3_riffleOnce_126 (n := 128) rfl ?_
                  refine g_aload_n hc 0 rfl rfl dX3_riffleOnce_128 (n := 129) rfl ?_
                  refine g_getf hc 3 rfl vw_3 inX3 1 (by decide) k_fl_RX3_15 rfl rfl dX3_riffleOnce_129 (n := 132) rfl ?_
                  refine g_iload hc 6 rfl dX3_riffleOnce_132 (n := 134) rfl ?_
                  refine g_iload hc 7 rfl dX3_riffleOnce_134 (n := 136) rfl ?_
                  refine n_iast (ws' := [(aP, aI κ 52 (va_up g i (p u))), (aQ, aI κ 52 p), (aN, aZ κ 52 b), (r0, .inr (3, [.ref aB, .ref aP, .ref aQ, .ref aL, .ref aN, .int (nI X)]))]) hc 0 rfl (by omega) (by decide) rfl dX3_riffleOnce_136 (n := 137) rfl ?_
                  refine g_aload_n hc 0 rfl rfl dX3_riffleOnce_137 (n := 138) rfl ?_
                  refine g_iload hc 7 rfl dX3_riffleOnce_138 (n := 140) rfl ?_
                  refine g_callV (rest := []) (As := [.int (nI (p u))]) (cells' := 0) (slots' := 0) hc (c_X3_isBent κ _ r0 aB aP aQ aL aN X (p u) b (by omega) hb) q_X3_isBent k_ml_RX3_50 rfl rfl (jn_ix (wr := [(aP, aI κ 52 (va_up g i (p u))), (aQ, aI κ 52 p)]) [3, 2] [0, 1] rfl rfl rfl rfl (by decide)) (qr := 3) rfl vw_3 ⟨⟨by decide, by decide⟩, by decide, by decide⟩ (Nat.le_of_ble_eq_true rfl) rfl rfl dX3_riffleOnce_140 (n := 143) rfl (fun vv ww hp => ?_)
                  obtain ⟨rr, rfl, rfl, rfl⟩ := hp
                  refine ⟨_, rfl, ?_⟩
                  refine g_ws (ws' := [(aP, aI κ 52 (va_up g i (p u))), (aQ, aI κ 52 p), (r0, .inr (3, [.ref aB, .ref aP, .ref aQ, .ref aL, .ref aN, .int (nI X)])), (aN, aZ κ 52 b)]) rfl ?_
                  refine g_st (st' := [.int (nI (b (p u)))]) rfl ?_
                  have hbb_15 := hb (p u) (by omega)
                  refine g_istore (lv2 := [(0, .ref r0), (1, .int (nI (spl x))), (2, .int (nI u)), (3, .int (nI l)), (4, .int (nI 1)), (5, .int (nI (b (p u)))), (6, .int (nI i)), (7, .int (nI (p u)))]) hc (by decide) [1, 2, 3, 4, 5, 0, 6, 7] rfl rfl dX3_riffleOnce_143 (n := 145) rfl ?_
                  refine g_iload hc 4 rfl dX3_riffleOnce_145 (n := 147) rfl ?_
                  refine n_if_eq hc (by omega) dX3_riffleOnce_147 (tgt := 156) (by decide) (n := 150) rfl (fun c_16 => by (exfalso; revert c_16; first | omega | decide)) (fun c_16 => ?_)
                  refine n_iinc (v := u + 1) (zk := 1) (lv2 := [(0, .ref r0), (1, .int (nI (spl x))), (2, .int (nI (u + 1))), (3, .int (nI l)), (4, .int (nI 1)), (5, .int (nI (b (p u)))), (6, .int (nI i)), (7, .int (nI (p u)))]) hc 2 rfl (by decide) rfl (by decide) [1, 2, 0, 3, 4, 5, 6, 7] rfl rfl dX3_riffleOnce_150 (n := 153) rfl ?_
                  refine g_goto (n := 159) hc dX3_riffleOnce_153 (by decide) ?_
                  refine n_iinc (v := i + 1) (zk := 1) (lv2 := [(0, .ref r0), (1, .int (nI (spl x))), (2, .int (nI (u + 1))), (3, .int (nI l)), (4, .int (nI 1)), (5, .int (nI (b (p u)))), (6, .int (nI (i + 1))), (7, .int (nI (p u)))]) hc 6 rfl (by decide) rfl (by decide) [1, 2, 3, 4, 5, 6, 0, 7] rfl rfl dX3_riffleOnce_159 (n := 162) rfl ?_
                  refine g_goto (n := 37) hc dX3_riffleOnce_162 (by decide) ?_
                  refine g_sub (ws' := [(aP, aI κ 52 (va_up g i (p u))), (aQ, aI κ 52 p), (aN, aZ κ 52 b), (r0, .inr (3, [.ref aB, .ref aP, .ref aQ, .ref aL, .ref aN, .int (nI X)]))]) [0, 1, 3, 2] rfl rfl ?_
                  refine g_lsub (lv' := [(0, .ref r0), (1, .int (nI (spl x))), (2, .int (nI (u + 1))), (3, .int (nI l)), (4, .int (nI 1)), (5, .int (nI (b (p u)))), (6, .int (nI (i + 1)))]) [0, 1, 2, 3, 4, 5, 6] rfl ?_
                  have hst2 : rsn p b (spl x) (nx x) (i + 1) = (X, u + 1, l, 1, b (p u)) := by rw [rsn, hst]; unfold rst; dsimp only; (repeat' split) <;> first | rfl | (exfalso; omega)
                  exact ih_3 (i + 1) (u + 1) l 1 (b (p u)) X (va_up g i (p u)) (by omega) (hst2) (by omega) (by first | assumption | omega) (fun k hk => (Nat.lt_succ_iff_lt_or_eq.mp hk).elim (fun q => (va_up_ne _ _ (by omega)).trans (hg k q)) (fun q => by subst q; rw [va_up_self]; unfold rfp rcd rix; rw [hst, hst2]; first | rfl | simp)) (by omega)
              · skip
                refine g_aload_n hc 0 rfl rfl dX3_riffleOnce_86 (n := 87) rfl ?_
                refine g_iload_n hc 1 rfl rfl dX3_riffleOnce_87 (n := 88) rfl ?_
                refine g_iload_n hc 2 rfl rfl dX3_riffleOnce_88 (n := 89) rfl ?_
                refine n_isub (v := (spl x) - u) hc (by omega) rfl dX3_riffleOnce_89 (n := 90) rfl ?_
                refine g_bipush (v := nI 52) hc (by decide) dX3_riffleOnce_90 (n := 92) rfl ?_
                refine n_iadd (v := ((spl x) - u) + 52) hc rfl dX3_riffleOnce_92 (n := 93) rfl ?_
                refine g_iload_n hc 3 rfl rfl dX3_riffleOnce_93 (n := 94) rfl ?_
                refine n_isub (v := (((spl x) - u) + 52) - l) hc (by omega) rfl dX3_riffleOnce_94 (n := 95) rfl ?_
                refine g_callV (rest := []) (As := [.int (nI ((((spl x) - u) + 52) - l))]) (cells' := 0) (slots' := 0) hc (c_X3_drawBelow κ _ r0 aB aP aQ aL aN X ((((spl x) - u) + 52) - l) (by omega) (by omega) (by omega)) q_X3_drawBelow k_ml_RX3_46 rfl rfl (jn_ix (wr := [(aP, aI κ 52 g), (aQ, aI κ 52 p), (aN, aZ κ 52 b)]) [3] [0, 1, 2] rfl rfl rfl rfl (by decide)) (qr := 3) rfl vw_3 ⟨⟨by decide, by decide⟩, by decide, by decide⟩ (Nat.le_of_ble_eq_true rfl) rfl rfl dX3_riffleOnce_95 (n := 98) rfl (fun vv ww hp => ?_)
                obtain ⟨rr, rfl, rfl, rfl⟩ := hp
                refine ⟨_, rfl, ?_⟩
                refine g_ws (ws' := [(aP, aI κ 52 g), (aQ, aI κ 52 p), (aN, aZ κ 52 b), (r0, .inr (3, [.ref aB, .ref aP, .ref aQ, .ref aL, .ref aN, .int (nI (nx X))]))]) rfl ?_
                refine g_st (st' := [.int (nI (dv (nx X) ((((spl x) - u) + 52) - l)))]) rfl ?_
                have dl_17 := dv_lt (nx X) (b := (((spl x) - u) + 52) - l) (by omega)
                refine g_iload_n hc 1 rfl rfl dX3_riffleOnce_98 (n := 99) rfl ?_
                refine g_iload_n hc 2 rfl rfl dX3_riffleOnce_99 (n := 100) rfl ?_
                refine n_isub (v := (spl x) - u) hc (by omega) rfl dX3_riffleOnce_100 (n := 101) rfl ?_
                refine n_icmp_ge hc (by omega) (by omega) dX3_riffleOnce_101 (tgt := 108) (by decide) (n := 104) rfl (fun c_18 => ?_) (fun c_18 => ?_)
                · skip
                  refine g_iconst (v := nI 0) hc (by decide) dX3_riffleOnce_108 (n := 109) rfl ?_
                  refine g_istore (lv2 := [(0, .ref r0), (1, .int (nI (spl x))), (2, .int (nI u)), (3, .int (nI l)), (4, .int (nI 0)), (5, .int (nI t)), (6, .int (nI i))]) hc (by decide) [1, 2, 3, 4, 0, 5, 6] rfl rfl dX3_riffleOnce_109 (n := 111) rfl ?_
                  refine g_aload_n hc 0 rfl rfl dX3_riffleOnce_111 (n := 112) rfl ?_
                  refine g_getf hc 3 rfl vw_3 inX3 2 (by decide) k_fl_RX3_18 rfl rfl dX3_riffleOnce_112 (n := 115) rfl ?_
                  refine g_iload hc 4 rfl dX3_riffleOnce_115 (n := 117) rfl ?_
                  refine n_if_eq hc (by omega) dX3_riffleOnce_117 (tgt := 124) (by decide) (n := 120) rfl (fun c_19 => ?_) (fun c_19 => by (exfalso; revert c_19; first | omega | decide))
                  refine g_iload_n hc 3 rfl rfl dX3_riffleOnce_124 (n := 125) rfl ?_
                  refine n_iald (v := p l) hc 1 rfl (by omega) (by decide) rfl dX3_riffleOnce_125 (n := 126) rfl ?_
                  have b_20 := hp.1 l (by omega)
                  refine g_istore (lv2 := [(0, .ref r0), (1, .int (nI (spl x))), (2, .int (nI u)), (3, .int (nI l)), (4, .int (nI 0)), (5, .int (nI t)), (6, .int (nI i)), (7, .int (nI (p l)))]) hc (by decide) [1, 2, 3, 4, 5, 6, 7, 0] rfl rfl dX3_riffleOnce_126 (n := 128) rfl ?_
                  refine g_aload_n hc 0 rfl rfl dX3_riffleOnce_128 (n := 129) rfl ?_
                  refine g_getf hc 3 rfl vw_3 inX3 1 (by decide) k_fl_RX3_15 rfl rfl dX3_riffleOnce_129 (n := 132) rfl ?_
                  refine g_iload hc 6 rfl dX3_riffleOnce_132 (n := 134) rfl ?_
                  refine g_iload hc 7 rfl dX3_riffleOnce_134 (n := 136) rfl ?_
                  refine n_iast (ws' := [(aP, aI κ 52 (va_up g i (p l))), (aQ, aI κ 52 p), (aN, aZ κ 52 b), (r0, .inr (3, [.ref aB, .ref aP, .ref aQ, .ref aL, .ref aN, .int (nI (nx X))]))]) hc 0 rfl (by omega) (by decide) rfl dX3_riffleOnce_136 (n := 137) rfl ?_
                  refine g_aload_n hc 0 rfl rfl dX3_riffleOnce_137 (n := 138) rfl ?_
                  refine g_iload hc 7 rfl dX3_riffleOnce_138 (n := 140) rfl ?_
                  refine g_callV (rest := []) (As := [.int (nI (p l))]) (cells' := 0) (slots' := 0) hc (c_X3_isBent κ _ r0 aB aP aQ aL aN (nx X) (p l) b (by omega) hb) q_X3_isBent k_ml_RX3_50 rfl rfl (jn_ix (wr := [(aP, aI κ 52 (va_up g i (p l))), (aQ, aI κ 52 p)]) [3, 2] [0, 1] rfl rfl rfl rfl (by decide)) (qr := 3) rfl vw_3 ⟨⟨by decide, by decide⟩, by decide, by decide⟩ (Nat.le_of_ble_eq_true rfl) rfl rfl dX3_riffleOnce_140 (n := 143) rfl (fun vv ww hp => ?_)
                  obtain ⟨rr, rfl, rfl, rfl⟩ := hp
                  refine ⟨_, rfl, ?_⟩
                  refine g_ws (ws' := [(aP, aI κ 52 (va_up g i (p l))), (aQ, aI κ 52 p), (r0, .inr (3, [.ref aB, .ref aP, .ref aQ, .ref aL, .ref aN, .int (nI (nx X))])), (aN, aZ κ 52 b)]) rfl ?_
                  refine g_st (st' := [.int (nI (b (p l)))]) rfl ?_
                  have hbb_21 := hb (p l) (by omega)
                  refine g_istore (lv2 := [(0, .ref r0), (1, .int (nI (spl x))), (2, .int (nI u)), (3, .int (nI l)), (4, .int (nI 0)), (5, .int (nI (b (p l)))), (6, .int (nI i)), (7, .int (nI (p l)))]) hc (by decide) [1, 2, 3, 4, 5, 0, 6, 7] rfl rfl dX3_riffleOnce_143 (n := 145) rfl ?_
                  refine g_iload hc 4 rfl dX3_riffleOnce_145 (n := 147) rfl ?_
                  refine n_if_eq hc (by omega) dX3_riffleOnce_147 (tgt := 156) (by decide) (n := 150) rfl (fun c_22 => ?_) (fun c_22 => by (exfalso; revert c_22; first | omega | decide))
                  refine n_iinc (v := l + 1) (zk := 1) (lv2 := [(0, .ref r0), (1, .int (nI (spl x))), (2, .int (nI u)), (3, .int (nI (l + 1))), (4, .int (nI 0)), (5, .int (nI (b (p l)))), (6, .int (nI i)), (7, .int (nI (p l)))]) hc 3 rfl (by decide) rfl (by decide) [1, 2, 3, 0, 4, 5, 6, 7] rfl rfl dX3_riffleOnce_156 (n := 159) rfl ?_
                  refine n_iinc (v := i + 1) (zk := 1) (lv2 := [(0, .ref r0), (1, .int (nI (spl x))), (2, .int (nI u)), (3, .int (nI (l + 1))), (4, .int (nI 0)), (5, .int (nI (b (p l)))), (6, .int (nI (i + 1))), (7, .int (nI (p l)))]) hc 6 rfl (by decide) rfl (by decide) [1, 2, 3, 4, 5, 6, 0, 7] rfl rfl dX3_riffleOnce_159 (n := 162) rfl ?_
                  refine g_goto (n := 37) hc dX3_riffleOnce_162 (by decide) ?_
                  refine g_sub (ws' := [(aP, aI κ 52 (va_up g i (p l))), (aQ, aI κ 52 p), (aN, aZ κ 52 b), (r0, .inr (3, [.ref aB, .ref aP, .ref aQ, .ref aL, .ref aN, .int (nI (nx X))]))]) [0, 1, 3, 2] rfl rfl ?_
                  refine g_lsub (lv' := [(0, .ref r0), (1, .int (nI (spl x))), (2, .int (nI u)), (3, .int (nI (l + 1))), (4, .int (nI 0)), (5, .int (nI (b (p l)))), (6, .int (nI (i + 1)))]) [0, 1, 2, 3, 4, 5, 6] rfl ?_
                  have hst2 : rsn p b (spl x) (nx x) (i + 1) = ((nx X), u, l + 1, 0, b (p l)) := by rw [rsn, hst]; unfold rst; dsimp only; (repeat' split) <;> first | rfl | (exfalso; omega)
                  exact ih_3 (i + 1) u (l + 1) 0 (b (p l)) (nx X) (va_up g i (p l)) (by omega) (hst2) (by omega) (by first | assumption | omega) (fun k hk => (Nat.lt_succ_iff_lt_or_eq.mp hk).elim (fun q => (va_up_ne _ _ (by omega)).trans (hg k q)) (fun q => by subst q; rw [va_up_self]; unfold rfp rcd rix; rw [hst, hst2]; first | rfl | simp)) (by omega)
                · skip
                  refine g_iconst (v := nI 1) hc (by decide) dX3_riffleOnce_104 (n := 105) rfl ?_
                  refine g_goto (n := 109) hc dX3_riffleOnce_105 (by decide) ?_
                  refine g_istore (lv2 := [(0, .ref r0), (1, .int (nI (spl x))), (2, .int (nI u)), (3, .int (nI l)), (4, .int (nI 1)), (5, .int (nI t)), (6, .int (nI i))]) hc (by decide) [1, 2, 3, 4, 0, 5, 6] rfl rfl dX3_riffleOnce_109 (n := 111) rfl ?_
                  refine g_aload_n hc 0 rfl rfl dX3_riffleOnce_111 (n := 112) rfl ?_
                  refine g_getf hc 3 rfl vw_3 inX3 2 (by decide) k_fl_RX3_18 rfl rfl dX3_riffleOnce_112 (n := 115) rfl ?_
                  refine g_iload hc 4 rfl dX3_riffleOnce_115 (n := 117) rfl ?_
                  refine n_if_eq hc (by omega) dX3_riffleOnce_117 (tgt := 124) (by decide) (n := 120) rfl (fun c_23 => by (exfalso; revert c_23; first | omega | decide)) (fun c_23 => ?_)
                  refine g_iload_n hc 2 rfl rfl dX3_riffleOnce_120 (n := 121) rfl ?_
                  refine g_goto (n := 125) hc dX3_riffleOnce_121 (by decide) ?_
                  refine n_iald (v := p u) hc 1 rfl (by omega) (by decide) rfl dX3_riffleOnce_125 (n := 126) rfl ?_
                  have b_24 := hp.1 u (by omega)
                  refine g_istore (lv2 := [(0, .ref r0), (1, .int (nI (spl x))), (2, .int (nI u)), (3, .int (nI l)), (4, .int (nI 1)), (5, .int (nI t)), (6, .int (nI i)), (7, .int (nI (p u)))]) hc (by decide) [1, 2, 3, 4, 5, 6, 7, 0] rfl rfl dX3_riffleOnce_126 (n := 128) rfl ?_
                  refine g_aload_n hc 0 rfl rfl dX3_riffleOnce_128 (n := 129) rfl ?_
                  refine g_getf hc 3 rfl vw_3 inX3 1 (by decide) k_fl_RX3_15 rfl rfl dX3_riffleOnce_129 (n := 132) rfl ?_
                  refine g_iload hc 6 rfl dX3_riffleOnce_132 (n := 134) rfl ?_
                  refine g_iload hc 7 rfl dX3_riffleOnce_134 (n := 136) rfl ?_
                  refine n_iast (ws' := [(aP, aI κ 52 (va_up g i (p u))), (aQ, aI κ 52 p), (aN, aZ κ 52 b), (r0, .inr (3, [.ref aB, .ref aP, .ref aQ, .ref aL, .ref aN, .int (nI (nx X))]))]) hc 0 rfl (by omega) (by decide) rfl dX3_riffleOnce_136 (n := 137) rfl ?_
                  refine g_aload_n hc 0 rfl rfl dX3_riffleOnce_137 (n := 138) rfl ?_
                  refine g_iload hc 7 rfl dX3_riffleOnce_138 (n := 140) rfl ?_
                  refine g_callV (rest := []) (As := [.int (nI (p u))]) (cells' := 0) (slots' := 0) hc (c_X3_isBent κ _ r0 aB aP aQ aL aN (nx X) (p u) b (by omega) hb) q_X3_isBent k_ml_RX3_50 rfl rfl (jn_ix (wr := [(aP, aI κ 52 (va_up g i (p u))), (aQ, aI κ 52 p)]) [3, 2] [0, 1] rfl rfl rfl rfl (by decide)) (qr := 3) rfl vw_3 ⟨⟨by decide, by decide⟩, by decide, by decide⟩ (Nat.le_of_ble_eq_true rfl) rfl rfl dX3_riffleOnce_140 (n := 143) rfl (fun vv ww hp => ?_)
                  obtain ⟨rr, rfl, rfl, rfl⟩ := hp
                  refine ⟨_, rfl, ?_⟩
                  refine g_ws (ws' := [(aP, aI κ 52 (va_up g i (p u))), (aQ, aI κ 52 p), (r0, .inr (3, [.ref aB, .ref aP, .ref aQ, .ref aL, .ref aN, .int (nI (nx X))])), (aN, aZ κ 52 b)]) rfl ?_
                  refine g_st (st' := [.int (nI (b (p u)))]) rfl ?_
                  have hbb_25 := hb (p u) (by omega)
                  refine g_istore (lv2 := [(0, .ref r0), (1, .int (nI (spl x))), (2, .int (nI u)), (3, .int (nI l)), (4, .int (nI 1)), (5, .int (nI (b (p u)))), (6, .int (nI i)), (7, .int (nI (p u)))]) hc (by decide) [1, 2, 3, 4, 5, 0, 6, 7] rfl rfl dX3_riffleOnce_143 (n := 145) rfl ?_
                  refine g_iload hc 4 rfl dX3_riffleOnce_145 (n := 147) rfl ?_
                  refine n_if_eq hc (by omega) dX3_riffleOnce_147 (tgt := 156) (by decide) (n := 150) rfl (fun c_26 => by (exfalso; revert c_26; first | omega | decide)) (fun c_26 => ?_)
                  refine n_iinc (v := u + 1) (zk := 1) (lv2 := [(0, .ref r0), (1, .int (nI (spl x))), (2, .int (nI (u + 1))), (3, .int (nI l)), (4, .int (nI 1)), (5, .int (nI (b (p u)))), (6, .int (nI i)), (7, .int (nI (p u)))]) hc 2 rfl (by decide) rfl (by decide) [1, 2, 0, 3, 4, 5, 6, 7] rfl rfl dX3_riffleOnce_150 (n := 153) rfl ?_
                  refine g_goto (n := 159) hc dX3_riffleOnce_153 (by decide) ?_
                  refine n_iinc (v := i + 1) (zk := 1) (lv2 := [(0, .ref r0), (1, .int (nI (spl x))), (2, .int (nI (u + 1))), (3, .int (nI l)), (4, .int (nI 1)), (5, .int (nI (b (p u)))), (6, .int (nI (i + 1))), (7, .int (nI (p u)))]) hc 6 rfl (by decide) rfl (by decide) [1, 2, 3, 4, 5, 6, 0, 7] rfl rfl dX3_riffleOnce_159 (n := 162) rfl ?_
                  refine g_goto (n := 37) hc dX3_riffleOnce_162 (by decide) ?_
                  refine g_sub (ws' := [(aP, aI κ 52 (va_up g i (p u))), (aQ, aI κ 52 p), (aN, aZ κ 52 b), (r0, .inr (3, [.ref aB, .ref aP, .ref aQ, .ref aL, .ref aN, .int (nI (nx X))]))]) [0, 1, 3, 2] rfl rfl ?_
                  refine g_lsub (lv' := [(0, .ref r0), (1, .int (nI (spl x))), (2, .int (nI (u + 1))), (3, .int (nI l)), (4, .int (nI 1)), (5, .int (nI (b (p u)))), (6, .int (nI (i + 1)))]) [0, 1, 2, 3, 4, 5, 6] rfl ?_
                  have hst2 : rsn p b (spl x) (nx x) (i + 1) = ((nx X), u + 1, l, 1, b (p u)) := by rw [rsn, hst]; unfold rst; dsimp only; (repeat' split) <;> first | rfl | (exfalso; omega)
                  exact ih_3 (i + 1) (u + 1) l 1 (b (p u)) (nx X) (va_up g i (p u)) (by omega) (hst2) (by omega) (by first | assumption | omega) (fun k hk => (Nat.lt_succ_iff_lt_or_eq.mp hk).elim (fun q => (va_up_ne _ _ (by omega)).trans (hg k q)) (fun q => by subst q; rw [va_up_self]; unfold rfp rcd rix; rw [hst, hst2]; first | rfl | simp)) (by omega)
            · skip
              refine g_iload_n hc 2 rfl rfl dX3_riffleOnce_66 (n := 67) rfl ?_
              refine g_iload_n hc 1 rfl rfl dX3_riffleOnce_67 (n := 68) rfl ?_
              refine n_icmp_ge hc (by omega) (by omega) dX3_riffleOnce_68 (tgt := 75) (by decide) (n := 71) rfl (fun c_27 => ?_) (fun c_27 => ?_)
              · skip
                exfalso; omega
              · skip
                refine g_iconst (v := nI 1) hc (by decide) dX3_riffleOnce_71 (n := 72) rfl ?_
                refine g_goto (n := 76) hc dX3_riffleOnce_72 (by decide) ?_
                refine g_istore (lv2 := [(0, .ref r0), (1, .int (nI (spl x))), (2, .int (nI u)), (3, .int (nI l)), (4, .int (nI 1)), (5, .int (nI t)), (6, .int (nI i))]) hc (by decide) [1, 2, 3, 4, 0, 5, 6] rfl rfl dX3_riffleOnce_76 (n := 78) rfl ?_
                refine g_goto (n := 111) hc dX3_riffleOnce_78 (by decide) ?_
                refine g_aload_n hc 0 rfl rfl dX3_riffleOnce_111 (n := 112) rfl ?_
                refine g_getf hc 3 rfl vw_3 inX3 2 (by decide) k_fl_RX3_18 rfl rfl dX3_riffleOnce_112 (n := 115) rfl ?_
                refine g_iload hc 4 rfl dX3_riffleOnce_115 (n := 117) rfl ?_
                refine n_if_eq hc (by omega) dX3_riffleOnce_117 (tgt := 124) (by decide) (n := 120) rfl (fun c_28 => by (exfalso; revert c_28; first | omega | decide)) (fun c_28 => ?_)
                refine g_iload_n hc 2 rfl rfl dX3_riffleOnce_120 (n := 121) rfl ?_
                refine g_goto (n := 125) hc dX3_riffleOnce_121 (by decide) ?_
                refine n_iald (v := p u) hc 1 rfl (by omega) (by decide) rfl dX3_riffleOnce_125 (n := 126) rfl ?_
                have b_29 := hp.1 u (by omega)
                refine g_istore (lv2 := [(0, .ref r0), (1, .int (nI (spl x))), (2, .int (nI u)), (3, .int (nI l)), (4, .int (nI 1)), (5, .int (nI t)), (6, .int (nI i)), (7, .int (nI (p u)))]) hc (by decide) [1, 2, 3, 4, 5, 6, 7, 0] rfl rfl dX3_riffleOnce_126 (n := 128) rfl ?_
                refine g_aload_n hc 0 rfl rfl dX3_riffleOnce_128 (n := 129) rfl ?_
                refine g_getf hc 3 rfl vw_3 inX3 1 (by decide) k_fl_RX3_15 rfl rfl dX3_riffleOnce_129 (n := 132) rfl ?_
                refine g_iload hc 6 rfl dX3_riffleOnce_132 (n := 134) rfl ?_
                refine g_iload hc 7 rfl dX3_riffleOnce_134 (n := 136) rfl ?_
                refine n_iast (ws' := [(aP, aI κ 52 (va_up g i (p u))), (aQ, aI κ 52 p), (aN, aZ κ 52 b), (r0, .inr (3, [.ref aB, .ref aP, .ref aQ, .ref aL, .ref aN, .int (nI X)]))]) hc 0 rfl (by omega) (by decide) rfl dX3_riffleOnce_136 (n := 137) rfl ?_
                refine g_aload_n hc 0 rfl rfl dX3_riffleOnce_137 (n := 138) rfl ?_
                refine g_iload hc 7 rfl dX3_riffleOnce_138 (n := 140) rfl ?_
                refine g_callV (rest := []) (As := [.int (nI (p u))]) (cells' := 0) (slots' := 0) hc (c_X3_isBent κ _ r0 aB aP aQ aL aN X (p u) b (by omega) hb) q_X3_isBent k_ml_RX3_50 rfl rfl (jn_ix (wr := [(aP, aI κ 52 (va_up g i (p u))), (aQ, aI κ 52 p)]) [3, 2] [0, 1] rfl rfl rfl rfl (by decide)) (qr := 3) rfl vw_3 ⟨⟨by decide, by decide⟩, by decide, by decide⟩ (Nat.le_of_ble_eq_true rfl) rfl rfl dX3_riffleOnce_140 (n := 143) rfl (fun vv ww hp => ?_)
                obtain ⟨rr, rfl, rfl, rfl⟩ := hp
                refine ⟨_, rfl, ?_⟩
                refine g_ws (ws' := [(aP, aI κ 52 (va_up g i (p u))), (aQ, aI κ 52 p), (r0, .inr (3, [.ref aB, .ref aP, .ref aQ, .ref aL, .ref aN, .int (nI X)])), (aN, aZ κ 52 b)]) rfl ?_
                refine g_st (st' := [.int (nI (b (p u)))]) rfl ?_
                have hbb_30 := hb (p u) (by omega)
                refine g_istore (lv2 := [(0, .ref r0), (1, .int (nI (spl x))), (2, .int (nI u)), (3, .int (nI l)), (4, .int (nI 1)), (5, .int (nI (b (p u)))), (6, .int (nI i)), (7, .int (nI (p u)))]) hc (by decide) [1, 2, 3, 4, 5, 0, 6, 7] rfl rfl dX3_riffleOnce_143 (n := 145) rfl ?_
                refine g_iload hc 4 rfl dX3_riffleOnce_145 (n := 147) rfl ?_
                refine n_if_eq hc (by omega) dX3_riffleOnce_147 (tgt := 156) (by decide) (n := 150) rfl (fun c_31 => by (exfalso; revert c_31; first | omega | decide)) (fun c_31 => ?_)
                refine n_iinc (v := u + 1) (zk := 1) (lv2 := [(0, .ref r0), (1, .int (nI (spl x))), (2, .int (nI (u + 1))), (3, .int (nI l)), (4, .int (nI 1)), (5, .int (nI (b (p u)))), (6, .int (nI i)), (7, .int (nI (p u)))]) hc 2 rfl (by decide) rfl (by decide) [1, 2, 0, 3, 4, 5, 6, 7] rfl rfl dX3_riffleOnce_150 (n := 153) rfl ?_
                refine g_goto (n := 159) hc dX3_riffleOnce_153 (by decide) ?_
                refine n_iinc (v := i + 1) (zk := 1) (lv2 := [(0, .ref r0), (1, .int (nI (spl x))), (2, .int (nI (u + 1))), (3, .int (nI l)), (4, .int (nI 1)), (5, .int (nI (b (p u)))), (6, .int (nI (i + 1))), (7, .int (nI (p u)))]) hc 6 rfl (by decide) rfl (by decide) [1, 2, 3, 4, 5, 6, 0, 7] rfl rfl dX3_riffleOnce_159 (n := 162) rfl ?_
                refine g_goto (n := 37) hc dX3_riffleOnce_162 (by decide) ?_
                refine g_sub (ws' := [(aP, aI κ 52 (va_up g i (p u))), (aQ, aI κ 52 p), (aN, aZ κ 52 b), (r0, .inr (3, [.ref aB, .ref aP, .ref aQ, .ref aL, .ref aN, .int (nI X)]))]) [0, 1, 3, 2] rfl rfl ?_
                refine g_lsub (lv' := [(0, .ref r0), (1, .int (nI (spl x))), (2, .int (nI (u + 1))), (3, .int (nI l)), (4, .int (nI 1)), (5, .int (nI (b (p u)))), (6, .int (nI (i + 1)))]) [0, 1, 2, 3, 4, 5, 6] rfl ?_
                have hst2 : rsn p b (spl x) (nx x) (i + 1) = (X, u + 1, l, 1, b (p u)) := by rw [rsn, hst]; unfold rst; dsimp only; (repeat' split) <;> first | rfl | (exfalso; omega)
                exact ih_3 (i + 1) (u + 1) l 1 (b (p u)) X (va_up g i (p u)) (by omega) (hst2) (by omega) (by first | assumption | omega) (fun k hk => (Nat.lt_succ_iff_lt_or_eq.mp hk).elim (fun q => (va_up_ne _ _ (by omega)).trans (hg k q)) (fun q => by subst q; rw [va_up_self]; unfold rfp rcd rix; rw [hst, hst2]; first | rfl | simp)) (by omega)
        · skip
          refine g_iload_n hc 3 rfl rfl dX3_riffleOnce_49 (n := 50) rfl ?_
          refine g_bipush (v := nI 52) hc (by decide) dX3_riffleOnce_50 (n := 52) rfl ?_
          refine n_icmp_ge hc (by omega) (by omega) dX3_riffleOnce_52 (tgt := 165) (by decide) (n := 55) rfl (fun c_32 => by (exfalso; revert c_32; first | omega | decide)) (fun c_32 => ?_)
          refine g_iload_n hc 2 rfl rfl dX3_riffleOnce_55 (n := 56) rfl ?_
          refine g_iload_n hc 1 rfl rfl dX3_riffleOnce_56 (n := 57) rfl ?_
          refine n_icmp_ge hc (by omega) (by omega) dX3_riffleOnce_57 (tgt := 66) (by decide) (n := 60) rfl (fun c_33 => ?_) (fun c_33 => ?_)
          · skip
            refine g_iload_n hc 2 rfl rfl dX3_riffleOnce_66 (n := 67) rfl ?_
            refine g_iload_n hc 1 rfl rfl dX3_riffleOnce_67 (n := 68) rfl ?_
            refine n_icmp_ge hc (by omega) (by omega) dX3_riffleOnce_68 (tgt := 75) (by decide) (n := 71) rfl (fun c_34 => ?_) (fun c_34 => ?_)
            · skip
              refine g_iconst (v := nI 0) hc (by decide) dX3_riffleOnce_75 (n := 76) rfl ?_
              refine g_istore (lv2 := [(0, .ref r0), (1, .int (nI (spl x))), (2, .int (nI u)), (3, .int (nI l)), (4, .int (nI 0)), (5, .int (nI t)), (6, .int (nI i))]) hc (by decide) [1, 2, 3, 4, 0, 5, 6] rfl rfl dX3_riffleOnce_76 (n := 78) rfl ?_
              refine g_goto (n := 111) hc dX3_riffleOnce_78 (by decide) ?_
              refine g_aload_n hc 0 rfl rfl dX3_riffleOnce_111 (n := 112) rfl ?_
              refine g_getf hc 3 rfl vw_3 inX3 2 (by decide) k_fl_RX3_18 rfl rfl dX3_riffleOnce_112 (n := 115) rfl ?_
              refine g_iload hc 4 rfl dX3_riffleOnce_115 (n := 117) rfl ?_
              refine n_if_eq hc (by omega) dX3_riffleOnce_117 (tgt := 124) (by decide) (n := 120) rfl (fun c_35 => ?_) (fun c_35 => by (exfalso; revert c_35; first | omega | decide))
              refine g_iload_n hc 3 rfl rfl dX3_riffleOnce_124 (n := 125) rfl ?_
              refine n_iald (v := p l) hc 1 rfl (by omega) (by decide) rfl dX3_riffleOnce_125 (n := 126) rfl ?_
              have b_36 := hp.1 l (by omega)
              refine g_istore (lv2 := [(0, .ref r0), (1, .int (nI (spl x))), (2, .int (nI u)), (3, .int (nI l)), (4, .int (nI 0)), (5, .int (nI t)), (6, .int (nI i)), (7, .int (nI (p l)))]) hc (by decide) [1, 2, 3, 4, 5, 6, 7, 0] rfl rfl dX3_riffleOnce_126 (n := 128) rfl ?_
              refine g_aload_n hc 0 rfl rfl dX3_riffleOnce_128 (n := 129) rfl ?_
              refine g_getf hc 3 rfl vw_3 inX3 1 (by decide) k_fl_RX3_15 rfl rfl dX3_riffleOnce_129 (n := 132) rfl ?_
              refine g_iload hc 6 rfl dX3_riffleOnce_132 (n := 134) rfl ?_
              refine g_iload hc 7 rfl dX3_riffleOnce_134 (n := 136) rfl ?_
              refine n_iast (ws' := [(aP, aI κ 52 (va_up g i (p l))), (aQ, aI κ 52 p), (aN, aZ κ 52 b), (r0, .inr (3, [.ref aB, .ref aP, .ref aQ, .ref aL, .ref aN, .int (nI X)]))]) hc 0 rfl (by omega) (by decide) rfl dX3_riffleOnce_136 (n := 137) rfl ?_
              refine g_aload_n hc 0 rfl rfl dX3_riffleOnce_137 (n := 138) rfl ?_
              refine g_iload hc 7 rfl dX3_riffleOnce_138 (n := 140) rfl ?_
              refine g_callV (rest := []) (As := [.int (nI (p l))]) (cells' := 0) (slots' := 0) hc (c_X3_isBent κ _ r0 aB aP aQ aL aN X (p l) b (by omega) hb) q_X3_isBent k_ml_RX3_50 rfl rfl (jn_ix (wr := [(aP, aI κ 52 (va_up g i (p l))), (aQ, aI κ 52 p)]) [3, 2] [0, 1] rfl rfl rfl rfl (by decide)) (qr := 3) rfl vw_3 ⟨⟨by decide, by decide⟩, by decide, by decide⟩ (Nat.le_of_ble_eq_true rfl) rfl rfl dX3_riffleOnce_140 (n := 143) rfl (fun vv ww hp => ?_)
              obtain ⟨rr, rfl, rfl, rfl⟩ := hp
              refine ⟨_, rfl, ?_⟩
              refine g_ws (ws' := [(aP, aI κ 52 (va_up g i (p l))), (aQ, aI κ 52 p), (r0, .inr (3, [.ref aB, .ref aP, .ref aQ, .ref aL, .ref aN, .int (nI X)])), (aN, aZ κ 52 b)]) rfl ?_
              refine g_st (st' := [.int (nI (b (p l)))]) rfl ?_
              have hbb_37 := hb (p l) (by omega)
              refine g_istore (lv2 := [(0, .ref r0), (1, .int (nI (spl x))), (2, .int (nI u)), (3, .int (nI l)), (4, .int (nI 0)), (5, .int (nI (b (p l)))), (6, .int (nI i)), (7, .int (nI (p l)))]) hc (by decide) [1, 2, 3, 4, 5, 0, 6, 7] rfl rfl dX3_riffleOnce_143 (n := 145) rfl ?_
              refine g_iload hc 4 rfl dX3_riffleOnce_145 (n := 147) rfl ?_
              refine n_if_eq hc (by omega) dX3_riffleOnce_147 (tgt := 156) (by decide) (n := 150) rfl (fun c_38 => ?_) (fun c_38 => by (exfalso; revert c_38; first | omega | decide))
              refine n_iinc (v := l + 1) (zk := 1) (lv2 := [(0, .ref r0), (1, .int (nI (spl x))), (2, .int (nI u)), (3, .int (nI (l + 1))), (4, .int (nI 0)), (5, .int (nI (b (p l)))), (6, .int (nI i)), (7, .int (nI (p l)))]) hc 3 rfl (by decide) rfl (by decide) [1, 2, 3, 0, 4, 5, 6, 7] rfl rfl dX3_riffleOnce_156 (n := 159) rfl ?_
              refine n_iinc (v := i + 1) (zk := 1) (lv2 := [(0, .ref r0), (1, .int (nI (spl x))), (2, .int (nI u)), (3, .int (nI (l + 1))), (4, .int (nI 0)), (5, .int (nI (b (p l)))), (6, .int (nI (i + 1))), (7, .int (nI (p l)))]) hc 6 rfl (by decide) rfl (by decide) [1, 2, 3, 4, 5, 6, 0, 7] rfl rfl dX3_riffleOnce_159 (n := 162) rfl ?_
              refine g_goto (n := 37) hc dX3_riffleOnce_162 (by decide) ?_
              refine g_sub (ws' := [(aP, aI κ 52 (va_up g i (p l))), (aQ, aI κ 52 p), (aN, aZ κ 52 b), (r0, .inr (3, [.ref aB, .ref aP, .ref aQ, .ref aL, .ref aN, .int (nI X)]))]) [0, 1, 3, 2] rfl rfl ?_
              refine g_lsub (lv' := [(0, .ref r0), (1, .int (nI (spl x))), (2, .int (nI u)), (3, .int (nI (l + 1))), (4, .int (nI 0)), (5, .int (nI (b (p l)))), (6, .int (nI (i + 1)))]) [0, 1, 2, 3, 4, 5, 6] rfl ?_
              have hst2 : rsn p b (spl x) (nx x) (i + 1) = (X, u, l + 1, 0, b (p l)) := by rw [rsn, hst]; unfold rst; dsimp only; (repeat' split) <;> first | rfl | (exfalso; omega)
              exact ih_3 (i + 1) u (l + 1) 0 (b (p l)) X (va_up g i (p l)) (by omega) (hst2) (by omega) (by first | assumption | omega) (fun k hk => (Nat.lt_succ_iff_lt_or_eq.mp hk).elim (fun q => (va_up_ne _ _ (by omega)).trans (hg k q)) (fun q => by subst q; rw [va_up_self]; unfold rfp rcd rix; rw [hst, hst2]; first | rfl | simp)) (by omega)
            · skip
              exfalso; omega
          · skip
            exfalso; omega
  exact L_2 _ 0 0 (spl x) 0 0 (nx x) p (by omega) (rfl) (by omega) (by omega) (fun k hk => absurd hk (Nat.not_lt_zero _)) (Nat.lt_succ_self _)
set_option maxHeartbeats 1000000 in
set_option maxRecDepth 100000 in
theorem c_X3_riffleTimes (κ : Kp) (l : Launch) (r0 : Nat) (aB : Nat) (aP : Nat) (aQ : Nat) (aL : Nat) (aN : Nat) (x : Nat) (m : Nat) (p : Nat → Nat) (q0 : Nat → Nat) (b : Nat → Nat) (hp : Perm p) (hx : x < 2 ^ 31) (hb : ∀ k, k < 52 → b k ≤ 1) (hm : m < 2 ^ 31) : CT κ l yX3_riffleTimes cX3_riffleTimes 3 none 2 67 0 0 [.ref r0, .int (nI m)] [(r0, .inr (3, [.ref aB, .ref aP, .ref aQ, .ref aL, .ref aN, .int (nI x)])), (aP, aI κ 52 p), (aQ, aI κ 52 q0), (aN, aZ κ 52 b)] (PV (fun ww => ∃ qq : Nat → Nat, ww = [(r0, .inr (3, [.ref aB, .ref aP, .ref aQ, .ref aL, .ref aN, .int (nI ((rit b p x m).1))])), (aP, aI κ 52 ((rit b p x m).2)), (aQ, aI κ 52 qq), (aN, aZ κ 52 b)])) := by
  refine CT.go (plainFor_of_name (by decide)) (Nat.le_of_ble_eq_true rfl) ?_
  intro Γ A Q hl hc hret
  subst hl
  have hc : Cx κ Γ A cX3_riffleTimes 3 RX3 "riffleTimes" none { frames := 2, cells := 0, slots := 0, locals := 67 } := hc
  refine g_lv (lv' := [(0, .ref r0), (1, .int (nI m))]) rfl ?_
  refine g_iconst (v := nI 0) hc (by decide) dX3_riffleTimes_0 (n := 1) rfl ?_
  refine g_istore_n (lv2 := [(0, .ref r0), (1, .int (nI m)), (2, .int (nI 0))]) hc rfl (by decide) [1, 2, 0] rfl rfl dX3_riffleTimes_1 (n := 2) rfl ?_
  have L_1 : ∀ (fuel : Nat) (i : Nat) (q : Nat → Nat), (i ≤ m) → m - i < fuel → G κ Γ A 3 0 0 Q [(r0, .inr (3, [.ref aB, .ref aP, .ref aQ, .ref aL, .ref aN, .int (nI ((rit b p x i).1))])), (aP, aI κ 52 ((rit b p x i).2)), (aQ, aI κ 52 q), (aN, aZ κ 52 b)] 2 [(0, .ref r0), (1, .int (nI m)), (2, .int (nI i))] [] := by
    intro fuel
    induction fuel with
    | zero => intro i q hi h; exact absurd h (Nat.not_lt_zero _)
    | succ fuel ih_2 =>
      intro i q hi hn_3
      refine g_iload_n hc 2 rfl rfl dX3_riffleTimes_2 (n := 3) rfl ?_
      refine g_iload_n hc 1 rfl rfl dX3_riffleTimes_3 (n := 4) rfl ?_
      refine n_icmp_ge hc (by omega) (by omega) dX3_riffleTimes_4 (tgt := 17) (by decide) (n := 7) rfl (fun c_4 => ?_) (fun c_4 => ?_)
      · skip
        have e9 : i = m := by omega
        subst e9
        refine hret.2.2.1 _ _ _ _ _ rfl (by decide) (by decide) dX3_riffleTimes_17 ?_
        exact ⟨rfl, q, rfl⟩
      · skip
        refine g_aload_n hc 0 rfl rfl dX3_riffleTimes_7 (n := 8) rfl ?_
        have hin := rit_in (b := b) hp hx i
        refine g_callV (rest := []) (As := []) (cells' := 0) (slots' := 0) hc (c_X3_riffleOnce κ _ r0 aB aP aQ aL aN ((rit b p x i).1) ((rit b p x i).2) q b hin.2 hin.1 hb) q_X3_riffleOnce k_ml_RX3_43 rfl rfl (jn_ix (wr := []) [0, 1, 2, 3] [] rfl rfl rfl rfl (by decide)) (qr := 0) rfl vw_3 ⟨⟨by decide, by decide⟩, by decide, by decide⟩ (Nat.le_of_ble_eq_true rfl) rfl rfl dX3_riffleTimes_8 (n := 11) rfl (fun vv ww hp => ?_)
        obtain ⟨rfl, rfl⟩ := hp
        refine ⟨_, rfl, ?_⟩
        refine g_ws (ws' := [(r0, .inr (3, [.ref aB, .ref aP, .ref aQ, .ref aL, .ref aN, .int (nI (rfx b ((rit b p x i).2) ((rit b p x i).1)))])), (aP, aI κ 52 (rfp b ((rit b p x i).2) ((rit b p x i).1))), (aQ, aI κ 52 ((rit b p x i).2)), (aN, aZ κ 52 b)]) rfl ?_
        refine g_st (st' := []) rfl ?_
        refine n_iinc (v := i + 1) (zk := 1) (lv2 := [(0, .ref r0), (1, .int (nI m)), (2, .int (nI (i + 1)))]) hc 2 rfl (by decide) rfl (by decide) [1, 2, 0] rfl rfl dX3_riffleTimes_11 (n := 14) rfl ?_
        refine g_goto (n := 2) hc dX3_riffleTimes_14 (by decide) ?_
        refine g_ws (ws' := [(r0, .inr (3, [.ref aB, .ref aP, .ref aQ, .ref aL, .ref aN, .int (nI ((rit b p x (i + 1)).1))])), (aP, aI κ 52 ((rit b p x (i + 1)).2)), (aQ, aI κ 52 ((rit b p x i).2)), (aN, aZ κ 52 b)]) (by rw [rit_s]) ?_
        exact ih_2 (i + 1) ((rit b p x i).2) (by omega) (by omega)
  exact L_1 _ 0 q0 (by omega) (Nat.lt_succ_self _)
