set_option maxHeartbeats 1000000 in
set_option maxRecDepth 100000 in
theorem c_X1_init (κ : Kp) (l : Launch) (p0 : Nat)  : CT κ l yX1_init cX1_init 1 none 1 20 1 60 [.ref p0] [(p0, .inr (1, [.null, .int (nI 0)]))] (PV (fun ww => ∃ q1 : Nat, ww = [(p0, .inr (1, [.ref q1, .int (nI 0)])), (q1, aC κ 60 (fun _ => 0))])) := by
  refine CT.go (plainFor_of_name (by decide)) (Nat.le_of_ble_eq_true rfl) ?_
  intro Γ A Q hl hc hret
  subst hl
  have hc : Cx κ Γ A cX1_init 1 RX1 "<init>" none { frames := 1, cells := 1, slots := 60, locals := 20 } := hc
  refine g_lv (lv' := [(0, .ref p0)]) rfl ?_
  refine g_aload_n hc 0 rfl rfl dX1_init_0 (n := 1) rfl ?_
  refine g_objInit (rest := []) hc k_ml_RX1_3 ⟨by decide, Nat.le_of_ble_eq_true rfl⟩ dX1_init_1 (n := 4) rfl ?_
  refine g_aload_n hc 0 rfl rfl dX1_init_4 (n := 5) rfl ?_
  refine g_bipush (v := nI 60) hc (by decide) dX1_init_5 (n := 7) rfl ?_
  refine n_newC hc k_ac_char (by decide) ⟨by decide, by decide⟩ (cells' := 1) (slots' := 60) rfl rfl dX1_init_7 (n := 9) rfl (fun q_1 => ?_)
  refine g_ws (ws' := [(p0, .inr (1, [.null, .int (nI 0)])), (q_1, aC κ 60 (fun _ => 0))]) rfl ?_
  refine g_putF (ws' := [(p0, .inr (1, [.ref q_1, .int (nI 0)])), (q_1, aC κ 60 (fun _ => 0))]) hc 0 rfl vw_1 inX1 tyX1_ok nmX1 0 (by decide) k_fl_RX1_9 rfl rfl rfl rfl rfl rfl (Nat.le_of_ble_eq_true rfl) rfl dX1_init_9 (n := 12) rfl ?_
  refine hret.2.2.1 _ _ _ _ _ rfl (by decide) (by decide) dX1_init_12 ?_
  exact ⟨rfl, q_1, rfl⟩
