/-! THE LAW: what is behind a turn's change; a turn; the loop; the end -/
abbrev wL (κ : Kp) (e z : Nat → Nat) : va_W := [(e 0, aI κ 52 z), (e 1, aI κ 52 (fun k => z (52 + k))), (e 2, aI κ 9 (fun k => z (324 + k))), (e 3, aI κ 12 (tt z)), (e 4, aI κ 52 (hd z 0)), (e 5, aI κ 52 (hd z 1)), (e 6, aI κ 52 (hd z 2)), (e 7, aI κ 52 (hd z 3))]
def lk (z : Nat → Nat) (k : Nat) : Nat := if z 312 = 1 ∧ z 313 = 1 ∧ sm (fun k => if hd z 0 k = hd z 1 k then 0 else 1) k = 0 then 1 else 0
theorem lk_le (z : Nat → Nat) (k : Nat) : lk z k ≤ 1 := by unfold lk; split <;> omega
theorem lk_0 {z : Nat → Nat} (h : ¬ (z 312 = 1 ∧ z 313 = 1)) : lk z 0 = 0 := if_neg (fun q => h ⟨q.1, q.2.1⟩)
theorem lk_1 {z : Nat → Nat} (h : z 312 = 1) (h2 : z 313 = 1) : lk z 0 = 1 := if_pos ⟨h, h2, rfl⟩
theorem lk_n {z : Nat → Nat} {k : Nat} (h : lk z k = 0 ∨ hd z 0 k ≠ hd z 1 k) : lk z (k + 1) = 0 := by
  unfold lk
  refine if_neg (fun q => ?_)
  have q3 := q.2.2
  rw [sm_s] at q3
  rcases h with h | h
  · unfold lk at h
    rw [if_pos ⟨q.1, q.2.1, by omega⟩] at h
    exact absurd h (by decide)
  · rw [if_neg h] at q3
    omega
theorem lk_y {z : Nat → Nat} {k : Nat} (h : lk z k ≠ 0) (h2 : hd z 0 k = hd z 1 k) : lk z (k + 1) = 1 := by
  unfold lk at h ⊢
  by_cases q : z 312 = 1 ∧ z 313 = 1 ∧ sm (fun k => if hd z 0 k = hd z 1 k then 0 else 1) k = 0
  · refine if_pos ⟨q.1, q.2.1, ?_⟩
    rw [sm_s, if_pos h2]
    exact q.2.2
  · exact absurd (if_neg q) h
theorem lk_al {z : Nat → Nat} (h : z 312 = 1) (h2 : z 313 = 1) : lk z 52 = al (hd z 0) (hd z 1) := by
  unfold lk al
  by_cases q : sm (fun k => if hd z 0 k = hd z 1 k then 0 else 1) 52 = 0
  · rw [if_pos ⟨h, h2, q⟩, if_pos q]
  · rw [if_neg (fun p => q p.2.2), if_neg q]
section LAW
variable {κ : Kp} {Γ : Gm} {nm : String} {A : Nat → Prop} {cells slots : Nat} {Q : State → Prop} {a q e z : Nat → Nat} {n : Nat} {w : va_W}
set_option maxHeartbeats 1000000 in
set_option maxRecDepth 100000 in
theorem l_rest0 (hc : Cx κ Γ A cL_law 16 RL nm ret room_1) (hw : Oc κ a q z n w) {i : Nat} (hi : i < 50) {x y : Int32} (h1 : cells + 5 ≤ 600000) (h2 : slots + 300 ≤ 7302250) (kk : ∀ (n2 : Nat) (w2 : va_W), Oc κ a q z n2 w2 → G κ Γ A 16 (cells + 5) (slots + 300) Q (wL κ e z ++ w2) 333 [(0, .ref (κ.2.2 3)), (1, .ref (a 0)), (2, .ref (e 0)), (3, .ref (e 1)), (4, .ref (e 2)), (5, .ref (e 3)), (6, .ref (e 4)), (7, .ref (e 5)), (8, .ref (e 6)), (9, .ref (e 7)), (10, .int (nI i))] []) : G κ Γ A 16 cells slots Q (wL κ e z ++ w) 274 [(0, .ref (κ.2.2 3)), (1, .ref (a 0)), (2, .ref (e 0)), (3, .ref (e 1)), (4, .ref (e 2)), (5, .ref (e 3)), (6, .ref (e 4)), (7, .ref (e 5)), (8, .ref (e 6)), (9, .ref (e 7)), (10, .int (nI i)), (11, .int x), (12, .int y), (13, .int (nI 0)), (14, .ref (e 4)), (15, .int (nI 1))] [] := by
  obtain ⟨hzb, hzf, hzc, hpz, hzh, hk1, hk2, hzx⟩ := hw.zv
  refine g_iload hc 15 rfl dL_law_274 (n := 276) rfl ?_
  refine n_if_eq hc (by omega) dL_law_276 (tgt := 331) (by decide) (n := 279) rfl (fun c_1 => by (exfalso; revert c_1; first | omega | decide)) (fun c_1 => ?_)
  refine g_aload_n hc 1 rfl rfl dL_law_279 (n := 280) rfl ?_
  refine g_aload_n hc 2 rfl rfl dL_law_280 (n := 281) rfl ?_
  refine g_aload_n hc 3 rfl rfl dL_law_281 (n := 282) rfl ?_
  refine g_aload hc 4 rfl dL_law_282 (n := 284) rfl ?_
  refine g_aload hc 5 rfl dL_law_284 (n := 286) rfl ?_
  refine g_callS (rest := []) (As := [.ref (a 0), .ref (e 0), .ref (e 1), .ref (e 2), .ref (e 3)]) (cells' := cells) (slots' := slots) hc (c_L_isSo κ _ a q z n w (e 0) (e 1) (e 2) (e 3) hw) q_L_isSo k_ml_RL_111 rfl rfl (jn_p (wr := [(e 4, aI κ 52 (hd z 0)), (e 5, aI κ 52 (hd z 1)), (e 6, aI κ 52 (hd z 2)), (e 7, aI κ 52 (hd z 3))]) [0, 1, 2, 3] [4, 5, 6, 7] rfl rfl rfl rfl (by decide)) ⟨⟨by decide, by decide⟩, (show cells + 0 ≤ 600000 from by omega), (show slots + 0 ≤ 7302250 from by omega)⟩ (Nat.le_of_ble_eq_true rfl) rfl rfl dL_law_286 (n := 289) rfl (fun vv ww hp => ?_)
  obtain ⟨rr, rfl, w2_2, hw2_3, rfl, rfl⟩ := hp
  refine ⟨_, ⟨_, _, rfl, rfl⟩, ?_⟩
  refine g_ws (ws' := ([(e 4, aI κ 52 (hd z 0)), (e 5, aI κ 52 (hd z 1)), (e 6, aI κ 52 (hd z 2)), (e 7, aI κ 52 (hd z 3)), (e 0, aI κ 52 z), (e 1, aI κ 52 (fun k => z (52 + k))), (e 2, aI κ 9 (fun k => z (324 + k))), (e 3, aI κ 12 (tt z))] ++ w2_2)) rfl ?_
  refine g_st (st' := [.int (nI 1)]) rfl ?_
  refine n_if_eq hc (by omega) dL_law_289 (tgt := 331) (by decide) (n := 292) rfl (fun c_4 => by (exfalso; revert c_4; first | omega | decide)) (fun c_4 => ?_)
  refine g_aload_n hc 1 rfl rfl dL_law_292 (n := 293) rfl ?_
  refine g_iload hc 13 rfl dL_law_293 (n := 295) rfl ?_
  refine g_aload hc 5 rfl dL_law_295 (n := 297) rfl ?_
  refine g_aload hc 14 rfl dL_law_297 (n := 299) rfl ?_
  refine g_callS (rest := []) (As := [.ref (a 0), .int (nI 0), .ref (e 3), .ref (e 4)]) (cells' := cells) (slots' := slots) hc (c_L_isBoard κ _ a q z n w2_2 (e 3) (e 4) 0 hw2_3 (by decide)) q_L_isBoard k_ml_RL_115 rfl rfl (jn_p (wr := [(e 5, aI κ 52 (hd z 1)), (e 6, aI κ 52 (hd z 2)), (e 7, aI κ 52 (hd z 3)), (e 0, aI κ 52 z), (e 1, aI κ 52 (fun k => z (52 + k))), (e 2, aI κ 9 (fun k => z (324 + k)))]) [7, 0] [1, 2, 3, 4, 5, 6] rfl rfl rfl rfl (by decide)) ⟨⟨by decide, by decide⟩, (show cells + 0 ≤ 600000 from by omega), (show slots + 0 ≤ 7302250 from by omega)⟩ (Nat.le_of_ble_eq_true rfl) rfl rfl dL_law_299 (n := 302) rfl (fun vv ww hp => ?_)
  obtain ⟨rr, rfl, w2_5, hw2_6, rfl, rfl⟩ := hp
  refine ⟨_, ⟨_, _, rfl, rfl⟩, ?_⟩
  refine g_ws (ws' := ([(e 5, aI κ 52 (hd z 1)), (e 6, aI κ 52 (hd z 2)), (e 7, aI κ 52 (hd z 3)), (e 0, aI κ 52 z), (e 1, aI κ 52 (fun k => z (52 + k))), (e 2, aI κ 9 (fun k => z (324 + k))), (e 3, aI κ 12 (tt z)), (e 4, aI κ 52 (hd z 0))] ++ w2_5)) rfl ?_
  refine g_st (st' := [.int (nI 1)]) rfl ?_
  refine n_if_eq hc (by omega) dL_law_302 (tgt := 331) (by decide) (n := 305) rfl (fun c_7 => by (exfalso; revert c_7; first | omega | decide)) (fun c_7 => ?_)
  refine g_iload hc 10 rfl dL_law_305 (n := 307) rfl ?_
  refine g_bipush (v := nI 9) hc (by decide) dL_law_307 (n := 309) rfl ?_
  refine n_irem (v := i % 9) hc (by omega) (by decide) (by decide) rfl dL_law_309 (n := 310) rfl ?_
  refine g_bipush (v := nI 8) hc (by decide) dL_law_310 (n := 312) rfl ?_
  refine n_icmp_ne hc (by omega) (by omega) dL_law_312 (tgt := 333) (by decide) (n := 315) rfl (fun c_8 => ?_) (fun c_8 => ?_)
  · skip
    refine g_subq (X' := [(e 0, aI κ 52 z), (e 1, aI κ 52 (fun k => z (52 + k))), (e 2, aI κ 9 (fun k => z (324 + k))), (e 3, aI κ 12 (tt z)), (e 4, aI κ 52 (hd z 0)), (e 5, aI κ 52 (hd z 1)), (e 6, aI κ 52 (hd z 2)), (e 7, aI κ 52 (hd z 3))]) [3, 4, 5, 6, 7, 0, 1, 2] rfl rfl ?_
    refine g_lsub (lv' := [(0, .ref (κ.2.2 3)), (1, .ref (a 0)), (2, .ref (e 0)), (3, .ref (e 1)), (4, .ref (e 2)), (5, .ref (e 3)), (6, .ref (e 4)), (7, .ref (e 5)), (8, .ref (e 6)), (9, .ref (e 7)), (10, .int (nI i))]) [0, 1, 2, 3, 4, 5, 6, 7, 8, 9, 10] rfl ?_
    exact g_wide (by omega) (by omega) (kk n w2_5 hw2_6)
  · skip
    refine g_aload_n hc 1 rfl rfl dL_law_315 (n := 316) rfl ?_
    refine g_iload hc 11 rfl dL_law_316 (n := 318) rfl ?_
    refine g_bipush (v := nI 9) hc (by decide) dL_law_318 (n := 320) rfl ?_
    refine g_ishr (v := x >>> ((nI 9) &&& 31)) hc rfl dL_law_320 (n := 321) rfl ?_
    refine g_aload_n hc 2 rfl rfl dL_law_321 (n := 322) rfl ?_
    refine g_aload_n hc 3 rfl rfl dL_law_322 (n := 323) rfl ?_
    refine g_aload hc 4 rfl dL_law_323 (n := 325) rfl ?_
    refine g_callS (rest := []) (As := [.ref (a 0), .int (x >>> ((nI 9) &&& 31)), .ref (e 0), .ref (e 1), .ref (e 2)]) (cells' := cells + 3) (slots' := slots + 113) hc (c_L_isAhead κ _ a q z n w2_5 (e 0) (e 1) (e 2) (x >>> ((nI 9) &&& 31)) hw2_6) q_L_isAhead k_ml_RL_119 rfl rfl (jn_p (wr := [(e 5, aI κ 52 (hd z 1)), (e 6, aI κ 52 (hd z 2)), (e 7, aI κ 52 (hd z 3)), (e 3, aI κ 12 (tt z)), (e 4, aI κ 52 (hd z 0))]) [3, 4, 5] [0, 1, 2, 6, 7] rfl rfl rfl rfl (by decide)) ⟨⟨by decide, by decide⟩, (show cells + 3 ≤ 600000 from by omega), (show slots + 113 ≤ 7302250 from by omega)⟩ (Nat.le_of_ble_eq_true rfl) rfl rfl dL_law_325 (n := 328) rfl (fun vv ww hp => ?_)
    obtain ⟨rr, rfl, w2_9, hw2_10, rfl, rfl⟩ := hp
    refine ⟨_, ⟨_, _, rfl, rfl⟩, ?_⟩
    refine g_ws (ws' := ([(e 5, aI κ 52 (hd z 1)), (e 6, aI κ 52 (hd z 2)), (e 7, aI κ 52 (hd z 3)), (e 3, aI κ 12 (tt z)), (e 4, aI κ 52 (hd z 0)), (e 0, aI κ 52 z), (e 1, aI κ 52 (fun k => z (52 + k))), (e 2, aI κ 9 (fun k => z (324 + k)))] ++ w2_9)) rfl ?_
    refine g_st (st' := [.int (nI 1)]) rfl ?_
    refine n_if_ne hc (by omega) dL_law_328 (tgt := 333) (by decide) (n := 331) rfl (fun c_11 => ?_) (fun c_11 => by (exfalso; revert c_11; first | omega | decide))
    refine g_subq (X' := [(e 0, aI κ 52 z), (e 1, aI κ 52 (fun k => z (52 + k))), (e 2, aI κ 9 (fun k => z (324 + k))), (e 3, aI κ 12 (tt z)), (e 4, aI κ 52 (hd z 0)), (e 5, aI κ 52 (hd z 1)), (e 6, aI κ 52 (hd z 2)), (e 7, aI κ 52 (hd z 3))]) [5, 6, 7, 3, 4, 0, 1, 2] rfl rfl ?_
    refine g_lsub (lv' := [(0, .ref (κ.2.2 3)), (1, .ref (a 0)), (2, .ref (e 0)), (3, .ref (e 1)), (4, .ref (e 2)), (5, .ref (e 3)), (6, .ref (e 4)), (7, .ref (e 5)), (8, .ref (e 6)), (9, .ref (e 7)), (10, .int (nI i))]) [0, 1, 2, 3, 4, 5, 6, 7, 8, 9, 10] rfl ?_
    exact g_wide (by omega) (by omega) (kk n w2_9 hw2_10)
set_option maxHeartbeats 1000000 in
set_option maxRecDepth 100000 in
theorem l_rest1 (hc : Cx κ Γ A cL_law 16 RL nm ret room_1) (hw : Oc κ a q z n w) {i : Nat} (hi : i < 50) {x y : Int32} (h1 : cells + 5 ≤ 600000) (h2 : slots + 300 ≤ 7302250) (kk : ∀ (n2 : Nat) (w2 : va_W), Oc κ a q z n2 w2 → G κ Γ A 16 (cells + 5) (slots + 300) Q (wL κ e z ++ w2) 333 [(0, .ref (κ.2.2 3)), (1, .ref (a 0)), (2, .ref (e 0)), (3, .ref (e 1)), (4, .ref (e 2)), (5, .ref (e 3)), (6, .ref (e 4)), (7, .ref (e 5)), (8, .ref (e 6)), (9, .ref (e 7)), (10, .int (nI i))] []) : G κ Γ A 16 cells slots Q (wL κ e z ++ w) 274 [(0, .ref (κ.2.2 3)), (1, .ref (a 0)), (2, .ref (e 0)), (3, .ref (e 1)), (4, .ref (e 2)), (5, .ref (e 3)), (6, .ref (e 4)), (7, .ref (e 5)), (8, .ref (e 6)), (9, .ref (e 7)), (10, .int (nI i)), (11, .int x), (12, .int y), (13, .int (nI 1)), (14, .ref (e 5)), (15, .int (nI 1))] [] := by
  obtain ⟨hzb, hzf, hzc, hpz, hzh, hk1, hk2, hzx⟩ := hw.zv
  refine g_iload hc 15 rfl dL_law_274 (n := 276) rfl ?_
  refine n_if_eq hc (by omega) dL_law_276 (tgt := 331) (by decide) (n := 279) rfl (fun c_1 => by (exfalso; revert c_1; first | omega | decide)) (fun c_1 => ?_)
  refine g_aload_n hc 1 rfl rfl dL_law_279 (n := 280) rfl ?_
  refine g_aload_n hc 2 rfl rfl dL_law_280 (n := 281) rfl ?_
  refine g_aload_n hc 3 rfl rfl dL_law_281 (n := 282) rfl ?_
  refine g_aload hc 4 rfl dL_law_282 (n := 284) rfl ?_
  refine g_aload hc 5 rfl dL_law_284 (n := 286) rfl ?_
  refine g_callS (rest := []) (As := [.ref (a 0), .ref (e 0), .ref (e 1), .ref (e 2), .ref (e 3)]) (cells' := cells) (slots' := slots) hc (c_L_isSo κ _ a q z n w (e 0) (e 1) (e 2) (e 3) hw) q_L_isSo k_ml_RL_111 rfl rfl (jn_p (wr := [(e 4, aI κ 52 (hd z 0)), (e 5, aI κ 52 (hd z 1)), (e 6, aI κ 52 (hd z 2)), (e 7, aI κ 52 (hd z 3))]) [0, 1, 2, 3] [4, 5, 6, 7] rfl rfl rfl rfl (by decide)) ⟨⟨by decide, by decide⟩, (show cells + 0 ≤ 600000 from by omega), (show slots + 0 ≤ 7302250 from by omega)⟩ (Nat.le_of_ble_eq_true rfl) rfl rfl dL_law_286 (n := 289) rfl (fun vv ww hp => ?_)
  obtain ⟨rr, rfl, w2_2, hw2_3, rfl, rfl⟩ := hp
  refine ⟨_, ⟨_, _, rfl, rfl⟩, ?_⟩
  refine g_ws (ws' := ([(e 4, aI κ 52 (hd z 0)), (e 5, aI κ 52 (hd z 1)), (e 6, aI κ 52 (hd z 2)), (e 7, aI κ 52 (hd z 3)), (e 0, aI κ 52 z), (e 1, aI κ 52 (fun k => z (52 + k))), (e 2, aI κ 9 (fun k => z (324 + k))), (e 3, aI κ 12 (tt z))] ++ w2_2)) rfl ?_
  refine g_st (st' := [.int (nI 1)]) rfl ?_
  refine n_if_eq hc (by omega) dL_law_289 (tgt := 331) (by decide) (n := 292) rfl (fun c_4 => by (exfalso; revert c_4; first | omega | decide)) (fun c_4 => ?_)
  refine g_aload_n hc 1 rfl rfl dL_law_292 (n := 293) rfl ?_
  refine g_iload hc 13 rfl dL_law_293 (n := 295) rfl ?_
  refine g_aload hc 5 rfl dL_law_295 (n := 297) rfl ?_
  refine g_aload hc 14 rfl dL_law_297 (n := 299) rfl ?_
  refine g_callS (rest := []) (As := [.ref (a 0), .int (nI 1), .ref (e 3), .ref (e 5)]) (cells' := cells) (slots' := slots) hc (c_L_isBoard κ _ a q z n w2_2 (e 3) (e 5) 1 hw2_3 (by decide)) q_L_isBoard k_ml_RL_115 rfl rfl (jn_p (wr := [(e 4, aI κ 52 (hd z 0)), (e 6, aI κ 52 (hd z 2)), (e 7, aI κ 52 (hd z 3)), (e 0, aI κ 52 z), (e 1, aI κ 52 (fun k => z (52 + k))), (e 2, aI κ 9 (fun k => z (324 + k)))]) [7, 1] [0, 2, 3, 4, 5, 6] rfl rfl rfl rfl (by decide)) ⟨⟨by decide, by decide⟩, (show cells + 0 ≤ 600000 from by omega), (show slots + 0 ≤ 7302250 from by omega)⟩ (Nat.le_of_ble_eq_true rfl) rfl rfl dL_law_299 (n := 302) rfl (fun vv ww hp => ?_)
  obtain ⟨rr, rfl, w2_5, hw2_6, rfl, rfl⟩ := hp
  refine ⟨_, ⟨_, _, rfl, rfl⟩, ?_⟩
  refine g_ws (ws' := ([(e 4, aI κ 52 (hd z 0)), (e 6, aI κ 52 (hd z 2)), (e 7, aI κ 52 (hd z 3)), (e 0, aI κ 52 z), (e 1, aI κ 52 (fun k => z (52 + k))), (e 2, aI κ 9 (fun k => z (324 + k))), (e 3, aI κ 12 (tt z)), (e 5, aI κ 52 (hd z 1))] ++ w2_5)) rfl ?_
  refine g_st (st' := [.int (nI 1)]) rfl ?_
  refine n_if_eq hc (by omega) dL_law_302 (tgt := 331) (by decide) (n := 305) rfl (fun c_7 => by (exfalso; revert c_7; first | omega | decide)) (fun c_7 => ?_)
  refine g_iload hc 10 rfl dL_law_305 (n := 307) rfl ?_
  refine g_bipush (v := nI 9) hc (by decide) dL_law_307 (n := 309) rfl ?_
  refine n_irem (v := i % 9) hc (by omega) (by decide) (by decide) rfl dL_law_309 (n := 310) rfl ?_
  refine g_bipush (v := nI 8) hc (by decide) dL_law_310 (n := 312) rfl ?_
  refine n_icmp_ne hc (by omega) (by omega) dL_law_312 (tgt := 333) (by decide) (n := 315) rfl (fun c_8 => ?_) (fun c_8 => ?_)
  · skip
    refine g_subq (X' := [(e 0, aI κ 52 z), (e 1, aI κ 52 (fun k => z (52 + k))), (e 2, aI κ 9 (fun k => z (324 + k))), (e 3, aI κ 12 (tt z)), (e 4, aI κ 52 (hd z 0)), (e 5, aI κ 52 (hd z 1)), (e 6, aI κ 52 (hd z 2)), (e 7, aI κ 52 (hd z 3))]) [3, 4, 5, 6, 0, 7, 1, 2] rfl rfl ?_
    refine g_lsub (lv' := [(0, .ref (κ.2.2 3)), (1, .ref (a 0)), (2, .ref (e 0)), (3, .ref (e 1)), (4, .ref (e 2)), (5, .ref (e 3)), (6, .ref (e 4)), (7, .ref (e 5)), (8, .ref (e 6)), (9, .ref (e 7)), (10, .int (nI i))]) [0, 1, 2, 3, 4, 5, 6, 7, 8, 9, 10] rfl ?_
    exact g_wide (by omega) (by omega) (kk n w2_5 hw2_6)
  · skip
    refine g_aload_n hc 1 rfl rfl dL_law_315 (n := 316) rfl ?_
    refine g_iload hc 11 rfl dL_law_316 (n := 318) rfl ?_
    refine g_bipush (v := nI 9) hc (by decide) dL_law_318 (n := 320) rfl ?_
    refine g_ishr (v := x >>> ((nI 9) &&& 31)) hc rfl dL_law_320 (n := 321) rfl ?_
    refine g_aload_n hc 2 rfl rfl dL_law_321 (n := 322) rfl ?_
    refine g_aload_n hc 3 rfl rfl dL_law_322 (n := 323) rfl ?_
    refine g_aload hc 4 rfl dL_law_323 (n := 325) rfl ?_
    refine g_callS (rest := []) (As := [.ref (a 0), .int (x >>> ((nI 9) &&& 31)), .ref (e 0), .ref (e 1), .ref (e 2)]) (cells' := cells + 3) (slots' := slots + 113) hc (c_L_isAhead κ _ a q z n w2_5 (e 0) (e 1) (e 2) (x >>> ((nI 9) &&& 31)) hw2_6) q_L_isAhead k_ml_RL_119 rfl rfl (jn_p (wr := [(e 4, aI κ 52 (hd z 0)), (e 6, aI κ 52 (hd z 2)), (e 7, aI κ 52 (hd z 3)), (e 3, aI κ 12 (tt z)), (e 5, aI κ 52 (hd z 1))]) [3, 4, 5] [0, 1, 2, 6, 7] rfl rfl rfl rfl (by decide)) ⟨⟨by decide, by decide⟩, (show cells + 3 ≤ 600000 from by omega), (show slots + 113 ≤ 7302250 from by omega)⟩ (Nat.le_of_ble_eq_true rfl) rfl rfl dL_law_325 (n := 328) rfl (fun vv ww hp => ?_)
    obtain ⟨rr, rfl, w2_9, hw2_10, rfl, rfl⟩ := hp
    refine ⟨_, ⟨_, _, rfl, rfl⟩, ?_⟩
    refine g_ws (ws' := ([(e 4, aI κ 52 (hd z 0)), (e 6, aI κ 52 (hd z 2)), (e 7, aI κ 52 (hd z 3)), (e 3, aI κ 12 (tt z)), (e 5, aI κ 52 (hd z 1)), (e 0, aI κ 52 z), (e 1, aI κ 52 (fun k => z (52 + k))), (e 2, aI κ 9 (fun k => z (324 + k)))] ++ w2_9)) rfl ?_
    refine g_st (st' := [.int (nI 1)]) rfl ?_
    refine n_if_ne hc (by omega) dL_law_328 (tgt := 333) (by decide) (n := 331) rfl (fun c_11 => ?_) (fun c_11 => by (exfalso; revert c_11; first | omega | decide))
    refine g_subq (X' := [(e 0, aI κ 52 z), (e 1, aI κ 52 (fun k => z (52 + k))), (e 2, aI κ 9 (fun k => z (324 + k))), (e 3, aI κ 12 (tt z)), (e 4, aI κ 52 (hd z 0)), (e 5, aI κ 52 (hd z 1)), (e 6, aI κ 52 (hd z 2)), (e 7, aI κ 52 (hd z 3))]) [5, 6, 7, 3, 0, 4, 1, 2] rfl rfl ?_
    refine g_lsub (lv' := [(0, .ref (κ.2.2 3)), (1, .ref (a 0)), (2, .ref (e 0)), (3, .ref (e 1)), (4, .ref (e 2)), (5, .ref (e 3)), (6, .ref (e 4)), (7, .ref (e 5)), (8, .ref (e 6)), (9, .ref (e 7)), (10, .int (nI i))]) [0, 1, 2, 3, 4, 5, 6, 7, 8, 9, 10] rfl ?_
    exact g_wide (by omega) (by omega) (kk n w2_9 hw2_10)
set_option maxHeartbeats 1000000 in
set_option maxRecDepth 100000 in
theorem l_rest2 (hc : Cx κ Γ A cL_law 16 RL nm ret room_1) (hw : Oc κ a q z n w) {i : Nat} (hi : i < 50) {x y : Int32} (h1 : cells + 5 ≤ 600000) (h2 : slots + 300 ≤ 7302250) (kk : ∀ (n2 : Nat) (w2 : va_W), Oc κ a q z n2 w2 → G κ Γ A 16 (cells + 5) (slots + 300) Q (wL κ e z ++ w2) 333 [(0, .ref (κ.2.2 3)), (1, .ref (a 0)), (2, .ref (e 0)), (3, .ref (e 1)), (4, .ref (e 2)), (5, .ref (e 3)), (6, .ref (e 4)), (7, .ref (e 5)), (8, .ref (e 6)), (9, .ref (e 7)), (10, .int (nI i))] []) : G κ Γ A 16 cells slots Q (wL κ e z ++ w) 274 [(0, .ref (κ.2.2 3)), (1, .ref (a 0)), (2, .ref (e 0)), (3, .ref (e 1)), (4, .ref (e 2)), (5, .ref (e 3)), (6, .ref (e 4)), (7, .ref (e 5)), (8, .ref (e 6)), (9, .ref (e 7)), (10, .int (nI i)), (11, .int x), (12, .int y), (13, .int (nI 2)), (14, .ref (e 6)), (15, .int (nI 1))] [] := by
  obtain ⟨hzb, hzf, hzc, hpz, hzh, hk1, hk2, hzx⟩ := hw.zv
  refine g_iload hc 15 rfl dL_law_274 (n := 276) rfl ?_
  refine n_if_eq hc (by omega) dL_law_276 (tgt := 331) (by decide) (n := 279) rfl (fun c_1 => by (exfalso; revert c_1; first | omega | decide)) (fun c_1 => ?_)
  refine g_aload_n hc 1 rfl rfl dL_law_279 (n := 280) rfl ?_
  refine g_aload_n hc 2 rfl rfl dL_law_280 (n := 281) rfl ?_
  refine g_aload_n hc 3 rfl rfl dL_law_281 (n := 282) rfl ?_
  refine g_aload hc 4 rfl dL_law_282 (n := 284) rfl ?_
  refine g_aload hc 5 rfl dL_law_284 (n := 286) rfl ?_
  refine g_callS (rest := []) (As := [.ref (a 0), .ref (e 0), .ref (e 1), .ref (e 2), .ref (e 3)]) (cells' := cells) (slots' := slots) hc (c_L_isSo κ _ a q z n w (e 0) (e 1) (e 2) (e 3) hw) q_L_isSo k_ml_RL_111 rfl rfl (jn_p (wr := [(e 4, aI κ 52 (hd z 0)), (e 5, aI κ 52 (hd z 1)), (e 6, aI κ 52 (hd z 2)), (e 7, aI κ 52 (hd z 3))]) [0, 1, 2, 3] [4, 5, 6, 7] rfl rfl rfl rfl (by decide)) ⟨⟨by decide, by decide⟩, (show cells + 0 ≤ 600000 from by omega), (show slots + 0 ≤ 7302250 from by omega)⟩ (Nat.le_of_ble_eq_true rfl) rfl rfl dL_law_286 (n := 289) rfl (fun vv ww hp => ?_)
  obtain ⟨rr, rfl, w2_2, hw2_3, rfl, rfl⟩ := hp
  refine ⟨_, ⟨_, _, rfl, rfl⟩, ?_⟩
  refine g_ws (ws' := ([(e 4, aI κ 52 (hd z 0)), (e 5, aI κ 52 (hd z 1)), (e 6, aI κ 52 (hd z 2)), (e 7, aI κ 52 (hd z 3)), (e 0, aI κ 52 z), (e 1, aI κ 52 (fun k => z (52 + k))), (e 2, aI κ 9 (fun k => z (324 + k))), (e 3, aI κ 12 (tt z))] ++ w2_2)) rfl ?_
  refine g_st (st' := [.int (nI 1)]) rfl ?_
  refine n_if_eq hc (by omega) dL_law_289 (tgt := 331) (by decide) (n := 292) rfl (fun c_4 => by (exfalso; revert c_4; first | omega | decide)) (fun c_4 => ?_)
  refine g_aload_n hc 1 rfl rfl dL_law_292 (n := 293) rfl ?_
  refine g_iload hc 13 rfl dL_law_293 (n := 295) rfl ?_
  refine g_aload hc 5 rfl dL_law_295 (n := 297) rfl ?_
  refine g_aload hc 14 rfl dL_law_297 (n := 299) rfl ?_
  refine g_callS (rest := []) (As := [.ref (a 0), .int (nI 2), .ref (e 3), .ref (e 6)]) (cells' := cells) (slots' := slots) hc (c_L_isBoard κ _ a q z n w2_2 (e 3) (e 6) 2 hw2_3 (by decide)) q_L_isBoard k_ml_RL_115 rfl rfl (jn_p (wr := [(e 4, aI κ 52 (hd z 0)), (e 5, aI κ 52 (hd z 1)), (e 7, aI κ 52 (hd z 3)), (e 0, aI κ 52 z), (e 1, aI κ 52 (fun k => z (52 + k))), (e 2, aI κ 9 (fun k => z (324 + k)))]) [7, 2] [0, 1, 3, 4, 5, 6] rfl rfl rfl rfl (by decide)) ⟨⟨by decide, by decide⟩, (show cells + 0 ≤ 600000 from by omega), (show slots + 0 ≤ 7302250 from by omega)⟩ (Nat.le_of_ble_eq_true rfl) rfl rfl dL_law_299 (n := 302) rfl (fun vv ww hp => ?_)
  obtain ⟨rr, rfl, w2_5, hw2_6, rfl, rfl⟩ := hp
  refine ⟨_, ⟨_, _, rfl, rfl⟩, ?_⟩
  refine g_ws (ws' := ([(e 4, aI κ 52 (hd z 0)), (e 5, aI κ 52 (hd z 1)), (e 7, aI κ 52 (hd z 3)), (e 0, aI κ 52 z), (e 1, aI κ 52 (fun k => z (52 + k))), (e 2, aI κ 9 (fun k => z (324 + k))), (e 3, aI κ 12 (tt z)), (e 6, aI κ 52 (hd z 2))] ++ w2_5)) rfl ?_
  refine g_st (st' := [.int (nI 1)]) rfl ?_
  refine n_if_eq hc (by omega) dL_law_302 (tgt := 331) (by decide) (n := 305) rfl (fun c_7 => by (exfalso; revert c_7; first | omega | decide)) (fun c_7 => ?_)
  refine g_iload hc 10 rfl dL_law_305 (n := 307) rfl ?_
  refine g_bipush (v := nI 9) hc (by decide) dL_law_307 (n := 309) rfl ?_
  refine n_irem (v := i % 9) hc (by omega) (by decide) (by decide) rfl dL_law_309 (n := 310) rfl ?_
  refine g_bipush (v := nI 8) hc (by decide) dL_law_310 (n := 312) rfl ?_
  refine n_icmp_ne hc (by omega) (by omega) dL_law_312 (tgt := 333) (by decide) (n := 315) rfl (fun c_8 => ?_) (fun c_8 => ?_)
  · skip
    refine g_subq (X' := [(e 0, aI κ 52 z), (e 1, aI κ 52 (fun k => z (52 + k))), (e 2, aI κ 9 (fun k => z (324 + k))), (e 3, aI κ 12 (tt z)), (e 4, aI κ 52 (hd z 0)), (e 5, aI κ 52 (hd z 1)), (e 6, aI κ 52 (hd z 2)), (e 7, aI κ 52 (hd z 3))]) [3, 4, 5, 6, 0, 1, 7, 2] rfl rfl ?_
    refine g_lsub (lv' := [(0, .ref (κ.2.2 3)), (1, .ref (a 0)), (2, .ref (e 0)), (3, .ref (e 1)), (4, .ref (e 2)), (5, .ref (e 3)), (6, .ref (e 4)), (7, .ref (e 5)), (8, .ref (e 6)), (9, .ref (e 7)), (10, .int (nI i))]) [0, 1, 2, 3, 4, 5, 6, 7, 8, 9, 10] rfl ?_
    exact g_wide (by omega) (by omega) (kk n w2_5 hw2_6)
  · skip
    refine g_aload_n hc 1 rfl rfl dL_law_315 (n := 316) rfl ?_
    refine g_iload hc 11 rfl dL_law_316 (n := 318) rfl ?_
    refine g_bipush (v := nI 9) hc (by decide) dL_law_318 (n := 320) rfl ?_
    refine g_ishr (v := x >>> ((nI 9) &&& 31)) hc rfl dL_law_320 (n := 321) rfl ?_
    refine g_aload_n hc 2 rfl rfl dL_law_321 (n := 322) rfl ?_
    refine g_aload_n hc 3 rfl rfl dL_law_322 (n := 323) rfl ?_
    refine g_aload hc 4 rfl dL_law_323 (n := 325) rfl ?_
    refine g_callS (rest := []) (As := [.ref (a 0), .int (x >>> ((nI 9) &&& 31)), .ref (e 0), .ref (e 1), .ref (e 2)]) (cells' := cells + 3) (slots' := slots + 113) hc (c_L_isAhead κ _ a q z n w2_5 (e 0) (e 1) (e 2) (x >>> ((nI 9) &&& 31)) hw2_6) q_L_isAhead k_ml_RL_119 rfl rfl (jn_p (wr := [(e 4, aI κ 52 (hd z 0)), (e 5, aI κ 52 (hd z 1)), (e 7, aI κ 52 (hd z 3)), (e 3, aI κ 12 (tt z)), (e 6, aI κ 52 (hd z 2))]) [3, 4, 5] [0, 1, 2, 6, 7] rfl rfl rfl rfl (by decide)) ⟨⟨by decide, by decide⟩, (show cells + 3 ≤ 600000 from by omega), (show slots + 113 ≤ 7302250 from by omega)⟩ (Nat.le_of_ble_eq_true rfl) rfl rfl dL_law_325 (n := 328) rfl (fun vv ww hp => ?_)
    obtain ⟨rr, rfl, w2_9, hw2_10, rfl, rfl⟩ := hp
    refine ⟨_, ⟨_, _, rfl, rfl⟩, ?_⟩
    refine g_ws (ws' := ([(e 4, aI κ 52 (hd z 0)), (e 5, aI κ 52 (hd z 1)), (e 7, aI κ 52 (hd z 3)), (e 3, aI κ 12 (tt z)), (e 6, aI κ 52 (hd z 2)), (e 0, aI κ 52 z), (e 1, aI κ 52 (fun k => z (52 + k))), (e 2, aI κ 9 (fun k => z (324 + k)))] ++ w2_9)) rfl ?_
    refine g_st (st' := [.int (nI 1)]) rfl ?_
    refine n_if_ne hc (by omega) dL_law_328 (tgt := 333) (by decide) (n := 331) rfl (fun c_11 => ?_) (fun c_11 => by (exfalso; revert c_11; first | omega | decide))
    refine g_subq (X' := [(e 0, aI κ 52 z), (e 1, aI κ 52 (fun k => z (52 + k))), (e 2, aI κ 9 (fun k => z (324 + k))), (e 3, aI κ 12 (tt z)), (e 4, aI κ 52 (hd z 0)), (e 5, aI κ 52 (hd z 1)), (e 6, aI κ 52 (hd z 2)), (e 7, aI κ 52 (hd z 3))]) [5, 6, 7, 3, 0, 1, 4, 2] rfl rfl ?_
    refine g_lsub (lv' := [(0, .ref (κ.2.2 3)), (1, .ref (a 0)), (2, .ref (e 0)), (3, .ref (e 1)), (4, .ref (e 2)), (5, .ref (e 3)), (6, .ref (e 4)), (7, .ref (e 5)), (8, .ref (e 6)), (9, .ref (e 7)), (10, .int (nI i))]) [0, 1, 2, 3, 4, 5, 6, 7, 8, 9, 10] rfl ?_
    exact g_wide (by omega) (by omega) (kk n w2_9 hw2_10)
set_option maxHeartbeats 1000000 in
set_option maxRecDepth 100000 in
theorem l_rest3 (hc : Cx κ Γ A cL_law 16 RL nm ret room_1) (hw : Oc κ a q z n w) {i : Nat} (hi : i < 50) {x y : Int32} (h1 : cells + 5 ≤ 600000) (h2 : slots + 300 ≤ 7302250) (kk : ∀ (n2 : Nat) (w2 : va_W), Oc κ a q z n2 w2 → G κ Γ A 16 (cells + 5) (slots + 300) Q (wL κ e z ++ w2) 333 [(0, .ref (κ.2.2 3)), (1, .ref (a 0)), (2, .ref (e 0)), (3, .ref (e 1)), (4, .ref (e 2)), (5, .ref (e 3)), (6, .ref (e 4)), (7, .ref (e 5)), (8, .ref (e 6)), (9, .ref (e 7)), (10, .int (nI i))] []) : G κ Γ A 16 cells slots Q (wL κ e z ++ w) 274 [(0, .ref (κ.2.2 3)), (1, .ref (a 0)), (2, .ref (e 0)), (3, .ref (e 1)), (4, .ref (e 2)), (5, .ref (e 3)), (6, .ref (e 4)), (7, .ref (e 5)), (8, .ref (e 6)), (9, .ref (e 7)), (10, .int (nI i)), (11, .int x), (12, .int y), (13, .int (nI 3)), (14, .ref (e 7)), (15, .int (nI 1))] [] := by
  obtain ⟨hzb, hzf, hzc, hpz, hzh, hk1, hk2, hzx⟩ := hw.zv
  refine g_iload hc 15 rfl dL_law_274 (n := 276) rfl ?_
  refine n_if_eq hc (by omega) dL_law_276 (tgt := 331) (by decide) (n := 279) rfl (fun c_1 => by (exfalso; revert c_1; first | omega | decide)) (fun c_1 => ?_)
  refine g_aload_n hc 1 rfl rfl dL_law_279 (n := 280) rfl ?_
  refine g_aload_n hc 2 rfl rfl dL_law_280 (n := 281) rfl ?_
  refine g_aload_n hc 3 rfl rfl dL_law_281 (n := 282) rfl ?_
  refine g_aload hc 4 rfl dL_law_282 (n := 284) rfl ?_
  refine g_aload hc 5 rfl dL_law_284 (n := 286) rfl ?_
  refine g_callS (rest := []) (As := [.ref (a 0), .ref (e 0), .ref (e 1), .ref (e 2), .ref (e 3)]) (cells' := cells) (slots' := slots) hc (c_L_isSo κ _ a q z n w (e 0) (e 1) (e 2) (e 3) hw) q_L_isSo k_ml_RL_111 rfl rfl (jn_p (wr := [(e 4, aI κ 52 (hd z 0)), (e 5, aI κ 52 (hd z 1)), (e 6, aI κ 52 (hd z 2)), (e 7, aI κ 52 (hd z 3))]) [0, 1, 2, 3] [4, 5, 6, 7] rfl rfl rfl rfl (by decide)) ⟨⟨by decide, by decide⟩, (show cells + 0 ≤ 600000 from by omega), (show slots + 0 ≤ 7302250 from by omega)⟩ (Nat.le_of_ble_eq_true rfl) rfl rfl dL_law_286 (n := 289) rfl (fun vv ww hp => ?_)
  obtain ⟨rr, rfl, w2_2, hw2_3, rfl, rfl⟩ := hp
  refine ⟨_, ⟨_, _, rfl, rfl⟩, ?_⟩
  refine g_ws (ws' := ([(e 4, aI κ 52 (hd z 0)), (e 5, aI κ 52 (hd z 1)), (e 6, aI κ 52 (hd z 2)), (e 7, aI κ 52 (hd z 3)), (e 0, aI κ 52 z), (e 1, aI κ 52 (fun k => z (52 + k))), (e 2, aI κ 9 (fun k => z (324 + k))), (e 3, aI κ 12 (tt z))] ++ w2_2)) rfl ?_
  refine g_st (st' := [.int (nI 1)]) rfl ?_
  refine n_if_eq hc (by omega) dL_law_289 (tgt := 331) (by decide) (n := 292) rfl (fun c_4 => by (exfalso; revert c_4; first | omega | decide)) (fun c_4 => ?_)
  refine g_aload_n hc 1 rfl rfl dL_law_292 (n := 293) rfl ?_
  refine g_iload hc 13 rfl dL_law_293 (n := 295) rfl ?_
  refine g_aload hc 5 rfl dL_law_295 (n := 297) rfl ?_
  refine g_aload hc 14 rfl dL_law_297 (n := 299) rfl ?_
  refine g_callS (rest := []) (As := [.ref (a 0), .int (nI 3), .ref (e 3), .ref (e 7)]) (cells' := cells) (slots' := slots) hc (c_L_isBoard κ _ a q z n w2_2 (e 3) (e 7) 3 hw2_3 (by decide)) q_L_isBoard k_ml_RL_115 rfl rfl (jn_p (wr := [(e 4, aI κ 52 (hd z 0)), (e 5, aI κ 52 (hd z 1)), (e 6, aI κ 52 (hd z 2)), (e 0, aI κ 52 z), (e 1, aI κ 52 (fun k => z (52 + k))), (e 2, aI κ 9 (fun k => z (324 + k)))]) [7, 3] [0, 1, 2, 4, 5, 6] rfl rfl rfl rfl (by decide)) ⟨⟨by decide, by decide⟩, (show cells + 0 ≤ 600000 from by omega), (show slots + 0 ≤ 7302250 from by omega)⟩ (Nat.le_of_ble_eq_true rfl) rfl rfl dL_law_299 (n := 302) rfl (fun vv ww hp => ?_)
  obtain ⟨rr, rfl, w2_5, hw2_6, rfl, rfl⟩ := hp
  refine ⟨_, ⟨_, _, rfl, rfl⟩, ?_⟩
  refine g_ws (ws' := ([(e 4, aI κ 52 (hd z 0)), (e 5, aI κ 52 (hd z 1)), (e 6, aI κ 52 (hd z 2)), (e 0, aI κ 52 z), (e 1, aI κ 52 (fun k => z (52 + k))), (e 2, aI κ 9 (fun k => z (324 + k))), (e 3, aI κ 12 (tt z)), (e 7, aI κ 52 (hd z 3))] ++ w2_5)) rfl ?_
  refine g_st (st' := [.int (nI 1)]) rfl ?_
  refine n_if_eq hc (by omega) dL_law_302 (tgt := 331) (by decide) (n := 305) rfl (fun c_7 => by (exfalso; revert c_7; first | omega | decide)) (fun c_7 => ?_)
  refine g_iload hc 10 rfl dL_law_305 (n := 307) rfl ?_
  refine g_bipush (v := nI 9) hc (by decide) dL_law_307 (n := 309) rfl ?_
  refine n_irem (v := i % 9) hc (by omega) (by decide) (by decide) rfl dL_law_309 (n := 310) rfl ?_
  refine g_bipush (v := nI 8) hc (by decide) dL_law_310 (n := 312) rfl ?_
  refine n_icmp_ne hc (by omega) (by omega) dL_law_312 (tgt := 333) (by decide) (n := 315) rfl (fun c_8 => ?_) (fun c_8 => ?_)
  · skip
    refine g_subq (X' := [(e 0, aI κ 52 z), (e 1, aI κ 52 (fun k => z (52 + k))), (e 2, aI κ 9 (fun k => z (324 + k))), (e 3, aI κ 12 (tt z)), (e 4, aI κ 52 (hd z 0)), (e 5, aI κ 52 (hd z 1)), (e 6, aI κ 52 (hd z 2)), (e 7, aI κ 52 (hd z 3))]) [3, 4, 5, 6, 0, 1, 2, 7] rfl rfl ?_
    refine g_lsub (lv' := [(0, .ref (κ.2.2 3)), (1, .ref (a 0)), (2, .ref (e 0)), (3, .ref (e 1)), (4, .ref (e 2)), (5, .ref (e 3)), (6, .ref (e 4)), (7, .ref (e 5)), (8, .ref (e 6)), (9, .ref (e 7)), (10, .int (nI i))]) [0, 1, 2, 3, 4, 5, 6, 7, 8, 9, 10] rfl ?_
    exact g_wide (by omega) (by omega) (kk n w2_5 hw2_6)
  · skip
    refine g_aload_n hc 1 rfl rfl dL_law_315 (n := 316) rfl ?_
    refine g_iload hc 11 rfl dL_law_316 (n := 318) rfl ?_
    refine g_bipush (v := nI 9) hc (by decide) dL_law_318 (n := 320) rfl ?_
    refine g_ishr (v := x >>> ((nI 9) &&& 31)) hc rfl dL_law_320 (n := 321) rfl ?_
    refine g_aload_n hc 2 rfl rfl dL_law_321 (n := 322) rfl ?_
    refine g_aload_n hc 3 rfl rfl dL_law_322 (n := 323) rfl ?_
    refine g_aload hc 4 rfl dL_law_323 (n := 325) rfl ?_
    refine g_callS (rest := []) (As := [.ref (a 0), .int (x >>> ((nI 9) &&& 31)), .ref (e 0), .ref (e 1), .ref (e 2)]) (cells' := cells + 3) (slots' := slots + 113) hc (c_L_isAhead κ _ a q z n w2_5 (e 0) (e 1) (e 2) (x >>> ((nI 9) &&& 31)) hw2_6) q_L_isAhead k_ml_RL_119 rfl rfl (jn_p (wr := [(e 4, aI κ 52 (hd z 0)), (e 5, aI κ 52 (hd z 1)), (e 6, aI κ 52 (hd z 2)), (e 3, aI κ 12 (tt z)), (e 7, aI κ 52 (hd z 3))]) [3, 4, 5] [0, 1, 2, 6, 7] rfl rfl rfl rfl (by decide)) ⟨⟨by decide, by decide⟩, (show cells + 3 ≤ 600000 from by omega), (show slots + 113 ≤ 7302250 from by omega)⟩ (Nat.le_of_ble_eq_true rfl) rfl rfl dL_law_325 (n := 328) rfl (fun vv ww hp => ?_)
    obtain ⟨rr, rfl, w2_9, hw2_10, rfl, rfl⟩ := hp
    refine ⟨_, ⟨_, _, rfl, rfl⟩, ?_⟩
    refine g_ws (ws' := ([(e 4, aI κ 52 (hd z 0)), (e 5, aI κ 52 (hd z 1)), (e 6, aI κ 52 (hd z 2)), (e 3, aI κ 12 (tt z)), (e 7, aI κ 52 (hd z 3)), (e 0, aI κ 52 z), (e 1, aI κ 52 (fun k => z (52 + k))), (e 2, aI κ 9 (fun k => z (324 + k)))] ++ w2_9)) rfl ?_
    refine g_st (st' := [.int (nI 1)]) rfl ?_
    refine n_if_ne hc (by omega) dL_law_328 (tgt := 333) (by decide) (n := 331) rfl (fun c_11 => ?_) (fun c_11 => by (exfalso; revert c_11; first | omega | decide))
    refine g_subq (X' := [(e 0, aI κ 52 z), (e 1, aI κ 52 (fun k => z (52 + k))), (e 2, aI κ 9 (fun k => z (324 + k))), (e 3, aI κ 12 (tt z)), (e 4, aI κ 52 (hd z 0)), (e 5, aI κ 52 (hd z 1)), (e 6, aI κ 52 (hd z 2)), (e 7, aI κ 52 (hd z 3))]) [5, 6, 7, 3, 0, 1, 2, 4] rfl rfl ?_
    refine g_lsub (lv' := [(0, .ref (κ.2.2 3)), (1, .ref (a 0)), (2, .ref (e 0)), (3, .ref (e 1)), (4, .ref (e 2)), (5, .ref (e 3)), (6, .ref (e 4)), (7, .ref (e 5)), (8, .ref (e 6)), (9, .ref (e 7)), (10, .int (nI i))]) [0, 1, 2, 3, 4, 5, 6, 7, 8, 9, 10] rfl ?_
    exact g_wide (by omega) (by omega) (kk n w2_9 hw2_10)
set_option maxHeartbeats 1000000 in
set_option maxRecDepth 100000 in
theorem l_turn (hc : Cx κ Γ A cL_law 16 RL nm ret room_1) (hw : Oc κ a q z n w) {i : Nat} (hi : i < 50) (h1 : cells + 20 ≤ 600000) (h2 : slots + 1000 ≤ 7302250) (kk : ∀ (z2 : Nat → Nat) (n2 : Nat) (w2 : va_W), Oc κ a q z2 n2 w2 → G κ Γ A 16 (cells + 5 + 5) (slots + 300 + 300) Q (wL κ e z2 ++ w2) 333 [(0, .ref (κ.2.2 3)), (1, .ref (a 0)), (2, .ref (e 0)), (3, .ref (e 1)), (4, .ref (e 2)), (5, .ref (e 3)), (6, .ref (e 4)), (7, .ref (e 5)), (8, .ref (e 6)), (9, .ref (e 7)), (10, .int (nI i))] []) : G κ Γ A 16 cells slots Q (wL κ e z ++ w) 166 [(0, .ref (κ.2.2 3)), (1, .ref (a 0)), (2, .ref (e 0)), (3, .ref (e 1)), (4, .ref (e 2)), (5, .ref (e 3)), (6, .ref (e 4)), (7, .ref (e 5)), (8, .ref (e 6)), (9, .ref (e 7)), (10, .int (nI i))] [] := by
  refine g_aload_n hc 0 rfl rfl dL_law_166 (n := 167) rfl ?_
  refine g_iconst (v := nI 2) hc (by decide) dL_law_167 (n := 168) rfl ?_
  refine g_iload hc 10 rfl dL_law_168 (n := 170) rfl ?_
  refine n_imul (v := 2 * i) hc rfl dL_law_170 (n := 171) rfl ?_
  refine g_callS (rest := []) (As := [.ref (κ.2.2 3), .int (nI (2 * i))]) (cells' := cells) (slots' := slots) hc (c_L_cell κ _ (2 * i) (by omega)) q_L_cell k_ml_RL_129 rfl rfl (jn_q (wr := [(e 0, aI κ 52 z), (e 1, aI κ 52 (fun k => z (52 + k))), (e 2, aI κ 9 (fun k => z (324 + k))), (e 3, aI κ 12 (tt z)), (e 4, aI κ 52 (hd z 0)), (e 5, aI κ 52 (hd z 1)), (e 6, aI κ 52 (hd z 2)), (e 7, aI κ 52 (hd z 3))]) [] [0, 1, 2, 3, 4, 5, 6, 7] rfl rfl rfl rfl (by decide)) ⟨⟨by decide, by decide⟩, (show cells + 0 ≤ 600000 from by omega), (show slots + 0 ≤ 7302250 from by omega)⟩ (Nat.le_of_ble_eq_true rfl) rfl rfl dL_law_171 (n := 174) rfl (fun vv ww hp => ?_)
  obtain ⟨rr, rfl, rfl, rfl⟩ := hp
  refine ⟨_, rfl, ?_⟩
  refine g_ws (ws' := ([(e 0, aI κ 52 z), (e 1, aI κ 52 (fun k => z (52 + k))), (e 2, aI κ 9 (fun k => z (324 + k))), (e 3, aI κ 12 (tt z)), (e 4, aI κ 52 (hd z 0)), (e 5, aI κ 52 (hd z 1)), (e 6, aI κ 52 (hd z 2)), (e 7, aI κ 52 (hd z 3))] ++ w)) rfl ?_
  refine g_st (st' := [.int (cl κ (2 * i))]) rfl ?_
  obtain ⟨x, ex⟩ : ∃ x, x = cl κ (2 * i) := ⟨_, rfl⟩
  refine g_top (y := x) ex.symm ?_
  refine g_istore (lv2 := [(0, .ref (κ.2.2 3)), (1, .ref (a 0)), (2, .ref (e 0)), (3, .ref (e 1)), (4, .ref (e 2)), (5, .ref (e 3)), (6, .ref (e 4)), (7, .ref (e 5)), (8, .ref (e 6)), (9, .ref (e 7)), (10, .int (nI i)), (11, .int x)]) hc (by decide) [1, 2, 3, 4, 5, 6, 7, 8, 9, 10, 11, 0] rfl rfl dL_law_174 (n := 176) rfl ?_
  refine g_aload_n hc 0 rfl rfl dL_law_176 (n := 177) rfl ?_
  refine g_iconst (v := nI 2) hc (by decide) dL_law_177 (n := 178) rfl ?_
  refine g_iload hc 10 rfl dL_law_178 (n := 180) rfl ?_
  refine n_imul (v := 2 * i) hc rfl dL_law_180 (n := 181) rfl ?_
  refine g_iconst (v := nI 1) hc (by decide) dL_law_181 (n := 182) rfl ?_
  refine n_iadd (v := (2 * i) + 1) hc rfl dL_law_182 (n := 183) rfl ?_
  refine g_callS (rest := []) (As := [.ref (κ.2.2 3), .int (nI ((2 * i) + 1))]) (cells' := cells) (slots' := slots) hc (c_L_cell κ _ ((2 * i) + 1) (by omega)) q_L_cell k_ml_RL_129 rfl rfl (jn_q (wr := [(e 0, aI κ 52 z), (e 1, aI κ 52 (fun k => z (52 + k))), (e 2, aI κ 9 (fun k => z (324 + k))), (e 3, aI κ 12 (tt z)), (e 4, aI κ 52 (hd z 0)), (e 5, aI κ 52 (hd z 1)), (e 6, aI κ 52 (hd z 2)), (e 7, aI κ 52 (hd z 3))]) [] [0, 1, 2, 3, 4, 5, 6, 7] rfl rfl rfl rfl (by decide)) ⟨⟨by decide, by decide⟩, (show cells + 0 ≤ 600000 from by omega), (show slots + 0 ≤ 7302250 from by omega)⟩ (Nat.le_of_ble_eq_true rfl) rfl rfl dL_law_183 (n := 186) rfl (fun vv ww hp => ?_)
  obtain ⟨rr, rfl, rfl, rfl⟩ := hp
  refine ⟨_, rfl, ?_⟩
  refine g_ws (ws' := ([(e 0, aI κ 52 z), (e 1, aI κ 52 (fun k => z (52 + k))), (e 2, aI κ 9 (fun k => z (324 + k))), (e 3, aI κ 12 (tt z)), (e 4, aI κ 52 (hd z 0)), (e 5, aI κ 52 (hd z 1)), (e 6, aI κ 52 (hd z 2)), (e 7, aI κ 52 (hd z 3))] ++ w)) rfl ?_
  refine g_st (st' := [.int (cl κ ((2 * i) + 1))]) rfl ?_
  obtain ⟨y, ey⟩ : ∃ y, y = cl κ ((2 * i) + 1) := ⟨_, rfl⟩
  refine g_top (y := y) ey.symm ?_
  refine g_istore (lv2 := [(0, .ref (κ.2.2 3)), (1, .ref (a 0)), (2, .ref (e 0)), (3, .ref (e 1)), (4, .ref (e 2)), (5, .ref (e 3)), (6, .ref (e 4)), (7, .ref (e 5)), (8, .ref (e 6)), (9, .ref (e 7)), (10, .int (nI i)), (11, .int x), (12, .int y)]) hc (by decide) [1, 2, 3, 4, 5, 6, 7, 8, 9, 10, 11, 12, 0] rfl rfl dL_law_186 (n := 188) rfl ?_
  refine g_iload hc 12 rfl dL_law_188 (n := 190) rfl ?_
  refine g_iconst (v := nI 4) hc (by decide) dL_law_190 (n := 191) rfl ?_
  refine g_callS (rest := []) (As := [.int y, .int (nI 4)]) (cells' := cells) (slots' := slots) hc (c_L_low κ _ y 4 (by decide) (by decide)) q_L_low k_ml_RL_66 rfl rfl (jn_q (wr := [(e 0, aI κ 52 z), (e 1, aI κ 52 (fun k => z (52 + k))), (e 2, aI κ 9 (fun k => z (324 + k))), (e 3, aI κ 12 (tt z)), (e 4, aI κ 52 (hd z 0)), (e 5, aI κ 52 (hd z 1)), (e 6, aI κ 52 (hd z 2)), (e 7, aI κ 52 (hd z 3))]) [] [0, 1, 2, 3, 4, 5, 6, 7] rfl rfl rfl rfl (by decide)) ⟨⟨by decide, by decide⟩, (show cells + 0 ≤ 600000 from by omega), (show slots + 0 ≤ 7302250 from by omega)⟩ (Nat.le_of_ble_eq_true rfl) rfl rfl dL_law_191 (n := 194) rfl (fun vv ww hp => ?_)
  obtain ⟨rr, rfl, rfl, rfl⟩ := hp
  refine ⟨_, rfl, ?_⟩
  refine g_ws (ws' := ([(e 0, aI κ 52 z), (e 1, aI κ 52 (fun k => z (52 + k))), (e 2, aI κ 9 (fun k => z (324 + k))), (e 3, aI κ 12 (tt z)), (e 4, aI κ 52 (hd z 0)), (e 5, aI κ 52 (hd z 1)), (e 6, aI κ 52 (hd z 2)), (e 7, aI κ 52 (hd z 3))] ++ w)) rfl ?_
  refine g_st (st' := [.int (nI (lw y % 4))]) rfl ?_
  have hl4 : lw y % 4 < 4 := Nat.mod_lt _ (by decide)
  obtain ⟨bo, hbo⟩ : ∃ bo, bo = lw y % 4 := ⟨_, rfl⟩
  refine g_top (y := nI bo) (by rw [hbo]) ?_
  rcases (show bo = 0 ∨ bo = 1 ∨ bo = 2 ∨ bo = 3 by omega) with rfl | rfl | rfl | rfl
  · skip
    refine g_istore (lv2 := [(0, .ref (κ.2.2 3)), (1, .ref (a 0)), (2, .ref (e 0)), (3, .ref (e 1)), (4, .ref (e 2)), (5, .ref (e 3)), (6, .ref (e 4)), (7, .ref (e 5)), (8, .ref (e 6)), (9, .ref (e 7)), (10, .int (nI i)), (11, .int x), (12, .int y), (13, .int (nI 0))]) hc (by decide) [1, 2, 3, 4, 5, 6, 7, 8, 9, 10, 11, 12, 13, 0] rfl rfl dL_law_194 (n := 196) rfl ?_
    refine g_iload hc 13 rfl dL_law_196 (n := 198) rfl ?_
    refine n_if_ne hc (by omega) dL_law_198 (tgt := 206) (by decide) (n := 201) rfl (fun c_1 => by (exfalso; revert c_1; first | omega | decide)) (fun c_1 => ?_)
    refine g_aload hc 6 rfl dL_law_201 (n := 203) rfl ?_
    refine g_goto (n := 230) hc dL_law_203 (by decide) ?_
    refine g_astore (lv2 := [(0, .ref (κ.2.2 3)), (1, .ref (a 0)), (2, .ref (e 0)), (3, .ref (e 1)), (4, .ref (e 2)), (5, .ref (e 3)), (6, .ref (e 4)), (7, .ref (e 5)), (8, .ref (e 6)), (9, .ref (e 7)), (10, .int (nI i)), (11, .int x), (12, .int y), (13, .int (nI 0)), (14, .ref (e 4))]) hc (by decide) [1, 2, 3, 4, 5, 6, 7, 8, 9, 10, 11, 12, 13, 14, 0] rfl rfl dL_law_230 (n := 232) rfl ?_
    refine g_iload hc 11 rfl dL_law_232 (n := 234) rfl ?_
    refine g_bipush (v := nI 8) hc (by decide) dL_law_234 (n := 236) rfl ?_
    refine g_ishr (v := x >>> ((nI 8) &&& 31)) hc rfl dL_law_236 (n := 237) rfl ?_
    refine g_iconst (v := nI 1) hc (by decide) dL_law_237 (n := 238) rfl ?_
    refine g_iand (v := (x >>> ((nI 8) &&& 31)) &&& (nI 1)) hc rfl dL_law_238 (n := 239) rfl ?_
    refine g_if_ne hc dL_law_239 (tgt := 257) (by decide) (n := 242) rfl (fun c_2 => ?_) (fun c_2 => ?_)
    · skip
      refine g_aload_n hc 1 rfl rfl dL_law_257 (n := 258) rfl ?_
      refine g_iload hc 11 rfl dL_law_258 (n := 260) rfl ?_
      refine g_iload hc 12 rfl dL_law_260 (n := 262) rfl ?_
      refine g_aload_n hc 2 rfl rfl dL_law_262 (n := 263) rfl ?_
      refine g_aload hc 4 rfl dL_law_263 (n := 265) rfl ?_
      refine g_aload hc 5 rfl dL_law_265 (n := 267) rfl ?_
      refine g_aload hc 14 rfl dL_law_267 (n := 269) rfl ?_
      refine g_callS (rest := []) (As := [.ref (a 0), .int x, .int y, .ref (e 0), .ref (e 2), .ref (e 3), .ref (e 4)]) (cells' := cells) (slots' := slots) hc (c_L_boards κ _ a q z n w x y (e 0) (e 2) (e 3) (e 4) 0 hw hbo) q_L_boards k_ml_RL_136 rfl rfl (jn_p (wr := [(e 1, aI κ 52 (fun k => z (52 + k))), (e 5, aI κ 52 (hd z 1)), (e 6, aI κ 52 (hd z 2)), (e 7, aI κ 52 (hd z 3))]) [0, 2, 3, 4] [1, 5, 6, 7] rfl rfl rfl rfl (by decide)) ⟨⟨by decide, by decide⟩, (show cells + 0 ≤ 600000 from by omega), (show slots + 0 ≤ 7302250 from by omega)⟩ (Nat.le_of_ble_eq_true rfl) rfl rfl dL_law_269 (n := 272) rfl (fun vv ww hp => ?_)
      obtain ⟨rr, rfl, z2_3, n2_4, w2_5, hw2_6, hlo_7, hot_8, rfl, rfl⟩ := hp
      refine ⟨_, ⟨_, _, rfl, rfl⟩, ?_⟩
      refine g_ws (ws' := ([(e 1, aI κ 52 (fun k => z (52 + k))), (e 5, aI κ 52 (hd z 1)), (e 6, aI κ 52 (hd z 2)), (e 7, aI κ 52 (hd z 3)), (e 0, aI κ 52 z2_3), (e 2, aI κ 9 (fun k => z2_3 (324 + k))), (e 3, aI κ 12 (tt z2_3)), (e 4, aI κ 52 (hd z2_3 0))] ++ w2_5)) rfl ?_
      refine g_st (st' := [.int (nI 1)]) rfl ?_
      refine g_arr (ws' := ([(e 1, aI κ 52 (fun k => z2_3 (52 + k))), (e 5, aI κ 52 (hd z 1)), (e 6, aI κ 52 (hd z 2)), (e 7, aI κ 52 (hd z 3)), (e 0, aI κ 52 z2_3), (e 2, aI κ 9 (fun k => z2_3 (324 + k))), (e 3, aI κ 12 (tt z2_3)), (e 4, aI κ 52 (hd z2_3 0))] ++ w2_5)) (f := fun k => z (52 + k)) (g := fun k => z2_3 (52 + k)) 0 rfl (fun k hk => (hlo_7 (52 + k) (by omega)).symm) rfl ?_
      refine g_arr (ws' := ([(e 1, aI κ 52 (fun k => z2_3 (52 + k))), (e 5, aI κ 52 (hd z2_3 1)), (e 6, aI κ 52 (hd z 2)), (e 7, aI κ 52 (hd z 3)), (e 0, aI κ 52 z2_3), (e 2, aI κ 9 (fun k => z2_3 (324 + k))), (e 3, aI κ 12 (tt z2_3)), (e 4, aI κ 52 (hd z2_3 0))] ++ w2_5)) (f := hd z 1) (g := hd z2_3 1) 1 rfl (fun k hk => (hot_8 1 (by decide) (by decide) k hk).symm) rfl ?_
      refine g_arr (ws' := ([(e 1, aI κ 52 (fun k => z2_3 (52 + k))), (e 5, aI κ 52 (hd z2_3 1)), (e 6, aI κ 52 (hd z2_3 2)), (e 7, aI κ 52 (hd z 3)), (e 0, aI κ 52 z2_3), (e 2, aI κ 9 (fun k => z2_3 (324 + k))), (e 3, aI κ 12 (tt z2_3)), (e 4, aI κ 52 (hd z2_3 0))] ++ w2_5)) (f := hd z 2) (g := hd z2_3 2) 2 rfl (fun k hk => (hot_8 2 (by decide) (by decide) k hk).symm) rfl ?_
      refine g_arr (ws' := ([(e 1, aI κ 52 (fun k => z2_3 (52 + k))), (e 5, aI κ 52 (hd z2_3 1)), (e 6, aI κ 52 (hd z2_3 2)), (e 7, aI κ 52 (hd z2_3 3)), (e 0, aI κ 52 z2_3), (e 2, aI κ 9 (fun k => z2_3 (324 + k))), (e 3, aI κ 12 (tt z2_3)), (e 4, aI κ 52 (hd z2_3 0))] ++ w2_5)) (f := hd z 3) (g := hd z2_3 3) 3 rfl (fun k hk => (hot_8 3 (by decide) (by decide) k hk).symm) rfl ?_
      refine g_istore (lv2 := [(0, .ref (κ.2.2 3)), (1, .ref (a 0)), (2, .ref (e 0)), (3, .ref (e 1)), (4, .ref (e 2)), (5, .ref (e 3)), (6, .ref (e 4)), (7, .ref (e 5)), (8, .ref (e 6)), (9, .ref (e 7)), (10, .int (nI i)), (11, .int x), (12, .int y), (13, .int (nI 0)), (14, .ref (e 4)), (15, .int (nI 1))]) hc (by decide) [1, 2, 3, 4, 5, 6, 7, 8, 9, 10, 11, 12, 13, 14, 15, 0] rfl rfl dL_law_272 (n := 274) rfl ?_
      refine g_subq (X' := [(e 0, aI κ 52 z2_3), (e 1, aI κ 52 (fun k => z2_3 (52 + k))), (e 2, aI κ 9 (fun k => z2_3 (324 + k))), (e 3, aI κ 12 (tt z2_3)), (e 4, aI κ 52 (hd z2_3 0)), (e 5, aI κ 52 (hd z2_3 1)), (e 6, aI κ 52 (hd z2_3 2)), (e 7, aI κ 52 (hd z2_3 3))]) [4, 0, 5, 6, 7, 1, 2, 3] rfl rfl ?_
      refine g_wide (k := cells + 5) (m := slots + 300) (by omega) (by omega) ?_
      exact l_rest0 hc hw2_6 hi (by omega) (by omega) (fun n2 w2 h => kk z2_3 n2 w2 h)
    · skip
      refine g_aload_n hc 1 rfl rfl dL_law_242 (n := 243) rfl ?_
      refine g_iload hc 11 rfl dL_law_243 (n := 245) rfl ?_
      refine g_iload hc 12 rfl dL_law_245 (n := 247) rfl ?_
      refine g_aload_n hc 2 rfl rfl dL_law_247 (n := 248) rfl ?_
      refine g_aload_n hc 3 rfl rfl dL_law_248 (n := 249) rfl ?_
      refine g_aload hc 4 rfl dL_law_249 (n := 251) rfl ?_
      refine g_callS (rest := []) (As := [.ref (a 0), .int x, .int y, .ref (e 0), .ref (e 1), .ref (e 2)]) (cells' := cells + 2) (slots' := slots + 104) hc (c_L_cards κ _ a q z n w x y (e 0) (e 1) (e 2) hw) q_L_cards k_ml_RL_132 rfl rfl (jn_p (wr := [(e 3, aI κ 12 (tt z)), (e 4, aI κ 52 (hd z 0)), (e 5, aI κ 52 (hd z 1)), (e 6, aI κ 52 (hd z 2)), (e 7, aI κ 52 (hd z 3))]) [0, 1, 2] [3, 4, 5, 6, 7] rfl rfl rfl rfl (by decide)) ⟨⟨by decide, by decide⟩, (show cells + 2 ≤ 600000 from by omega), (show slots + 104 ≤ 7302250 from by omega)⟩ (Nat.le_of_ble_eq_true rfl) rfl rfl dL_law_251 (n := 254) rfl (fun vv ww hp => ?_)
      obtain ⟨rr, rfl, z2_9, n2_10, w2_11, hw2_12, hkp_13, rfl, rfl⟩ := hp
      refine ⟨_, ⟨_, _, rfl, rfl⟩, ?_⟩
      refine g_ws (ws' := ([(e 3, aI κ 12 (tt z)), (e 4, aI κ 52 (hd z 0)), (e 5, aI κ 52 (hd z 1)), (e 6, aI κ 52 (hd z 2)), (e 7, aI κ 52 (hd z 3)), (e 0, aI κ 52 z2_9), (e 1, aI κ 52 (fun k => z2_9 (52 + k))), (e 2, aI κ 9 (fun k => z2_9 (324 + k)))] ++ w2_11)) rfl ?_
      refine g_st (st' := [.int (nI 1)]) rfl ?_
      refine g_arr (ws' := ([(e 3, aI κ 12 (tt z2_9)), (e 4, aI κ 52 (hd z 0)), (e 5, aI κ 52 (hd z 1)), (e 6, aI κ 52 (hd z 2)), (e 7, aI κ 52 (hd z 3)), (e 0, aI κ 52 z2_9), (e 1, aI κ 52 (fun k => z2_9 (52 + k))), (e 2, aI κ 9 (fun k => z2_9 (324 + k)))] ++ w2_11)) (f := tt z) (g := tt z2_9) 0 rfl (tt_c (fun j h1 h2 => hkp_13 j (by omega) (by omega))) rfl ?_
      refine g_arr (ws' := ([(e 3, aI κ 12 (tt z2_9)), (e 4, aI κ 52 (hd z2_9 0)), (e 5, aI κ 52 (hd z 1)), (e 6, aI κ 52 (hd z 2)), (e 7, aI κ 52 (hd z 3)), (e 0, aI κ 52 z2_9), (e 1, aI κ 52 (fun k => z2_9 (52 + k))), (e 2, aI κ 9 (fun k => z2_9 (324 + k)))] ++ w2_11)) (f := hd z 0) (g := hd z2_9 0) 1 rfl (fun k hk => (hkp_13 (104 + 52 * 0 + k) (by omega) (by omega)).symm) rfl ?_
      refine g_arr (ws' := ([(e 3, aI κ 12 (tt z2_9)), (e 4, aI κ 52 (hd z2_9 0)), (e 5, aI κ 52 (hd z2_9 1)), (e 6, aI κ 52 (hd z 2)), (e 7, aI κ 52 (hd z 3)), (e 0, aI κ 52 z2_9), (e 1, aI κ 52 (fun k => z2_9 (52 + k))), (e 2, aI κ 9 (fun k => z2_9 (324 + k)))] ++ w2_11)) (f := hd z 1) (g := hd z2_9 1) 2 rfl (fun k hk => (hkp_13 (104 + 52 * 1 + k) (by omega) (by omega)).symm) rfl ?_
      refine g_arr (ws' := ([(e 3, aI κ 12 (tt z2_9)), (e 4, aI κ 52 (hd z2_9 0)), (e 5, aI κ 52 (hd z2_9 1)), (e 6, aI κ 52 (hd z2_9 2)), (e 7, aI κ 52 (hd z 3)), (e 0, aI κ 52 z2_9), (e 1, aI κ 52 (fun k => z2_9 (52 + k))), (e 2, aI κ 9 (fun k => z2_9 (324 + k)))] ++ w2_11)) (f := hd z 2) (g := hd z2_9 2) 3 rfl (fun k hk => (hkp_13 (104 + 52 * 2 + k) (by omega) (by omega)).symm) rfl ?_
      refine g_arr (ws' := ([(e 3, aI κ 12 (tt z2_9)), (e 4, aI κ 52 (hd z2_9 0)), (e 5, aI κ 52 (hd z2_9 1)), (e 6, aI κ 52 (hd z2_9 2)), (e 7, aI κ 52 (hd z2_9 3)), (e 0, aI κ 52 z2_9), (e 1, aI κ 52 (fun k => z2_9 (52 + k))), (e 2, aI κ 9 (fun k => z2_9 (324 + k)))] ++ w2_11)) (f := hd z 3) (g := hd z2_9 3) 4 rfl (fun k hk => (hkp_13 (104 + 52 * 3 + k) (by omega) (by omega)).symm) rfl ?_
      refine g_goto (n := 272) hc dL_law_254 (by decide) ?_
      refine g_istore (lv2 := [(0, .ref (κ.2.2 3)), (1, .ref (a 0)), (2, .ref (e 0)), (3, .ref (e 1)), (4, .ref (e 2)), (5, .ref (e 3)), (6, .ref (e 4)), (7, .ref (e 5)), (8, .ref (e 6)), (9, .ref (e 7)), (10, .int (nI i)), (11, .int x), (12, .int y), (13, .int (nI 0)), (14, .ref (e 4)), (15, .int (nI 1))]) hc (by decide) [1, 2, 3, 4, 5, 6, 7, 8, 9, 10, 11, 12, 13, 14, 15, 0] rfl rfl dL_law_272 (n := 274) rfl ?_
      refine g_subq (X' := [(e 0, aI κ 52 z2_9), (e 1, aI κ 52 (fun k => z2_9 (52 + k))), (e 2, aI κ 9 (fun k => z2_9 (324 + k))), (e 3, aI κ 12 (tt z2_9)), (e 4, aI κ 52 (hd z2_9 0)), (e 5, aI κ 52 (hd z2_9 1)), (e 6, aI κ 52 (hd z2_9 2)), (e 7, aI κ 52 (hd z2_9 3))]) [5, 6, 7, 0, 1, 2, 3, 4] rfl rfl ?_
      refine g_wide (k := cells + 5) (m := slots + 300) (by omega) (by omega) ?_
      exact l_rest0 hc hw2_12 hi (by omega) (by omega) (fun n2 w2 h => kk z2_9 n2 w2 h)
  · skip
    refine g_istore (lv2 := [(0, .ref (κ.2.2 3)), (1, .ref (a 0)), (2, .ref (e 0)), (3, .ref (e 1)), (4, .ref (e 2)), (5, .ref (e 3)), (6, .ref (e 4)), (7, .ref (e 5)), (8, .ref (e 6)), (9, .ref (e 7)), (10, .int (nI i)), (11, .int x), (12, .int y), (13, .int (nI 1))]) hc (by decide) [1, 2, 3, 4, 5, 6, 7, 8, 9, 10, 11, 12, 13, 0] rfl rfl dL_law_194 (n := 196) rfl ?_
    refine g_iload hc 13 rfl dL_law_196 (n := 198) rfl ?_
    refine n_if_ne hc (by omega) dL_law_198 (tgt := 206) (by decide) (n := 201) rfl (fun c_14 => ?_) (fun c_14 => by (exfalso; revert c_14; first | omega | decide))
    refine g_iload hc 13 rfl dL_law_206 (n := 208) rfl ?_
    refine g_iconst (v := nI 1) hc (by decide) dL_law_208 (n := 209) rfl ?_
    refine g_icmp_ne hc dL_law_209 (tgt := 217) (by decide) (n := 212) rfl (fun e => absurd rfl e) (fun _ => ?_)
    refine g_aload hc 7 rfl dL_law_212 (n := 214) rfl ?_
    refine g_goto (n := 230) hc dL_law_214 (by decide) ?_
    refine g_astore (lv2 := [(0, .ref (κ.2.2 3)), (1, .ref (a 0)), (2, .ref (e 0)), (3, .ref (e 1)), (4, .ref (e 2)), (5, .ref (e 3)), (6, .ref (e 4)), (7, .ref (e 5)), (8, .ref (e 6)), (9, .ref (e 7)), (10, .int (nI i)), (11, .int x), (12, .int y), (13, .int (nI 1)), (14, .ref (e 5))]) hc (by decide) [1, 2, 3, 4, 5, 6, 7, 8, 9, 10, 11, 12, 13, 14, 0] rfl rfl dL_law_230 (n := 232) rfl ?_
    refine g_iload hc 11 rfl dL_law_232 (n := 234) rfl ?_
    refine g_bipush (v := nI 8) hc (by decide) dL_law_234 (n := 236) rfl ?_
    refine g_ishr (v := x >>> ((nI 8) &&& 31)) hc rfl dL_law_236 (n := 237) rfl ?_
    refine g_iconst (v := nI 1) hc (by decide) dL_law_237 (n := 238) rfl ?_
    refine g_iand (v := (x >>> ((nI 8) &&& 31)) &&& (nI 1)) hc rfl dL_law_238 (n := 239) rfl ?_
    refine g_if_ne hc dL_law_239 (tgt := 257) (by decide) (n := 242) rfl (fun c_15 => ?_) (fun c_15 => ?_)
    · skip
      refine g_aload_n hc 1 rfl rfl dL_law_257 (n := 258) rfl ?_
      refine g_iload hc 11 rfl dL_law_258 (n := 260) rfl ?_
      refine g_iload hc 12 rfl dL_law_260 (n := 262) rfl ?_
      refine g_aload_n hc 2 rfl rfl dL_law_262 (n := 263) rfl ?_
      refine g_aload hc 4 rfl dL_law_263 (n := 265) rfl ?_
      refine g_aload hc 5 rfl dL_law_265 (n := 267) rfl ?_
      refine g_aload hc 14 rfl dL_law_267 (n := 269) rfl ?_
      refine g_callS (rest := []) (As := [.ref (a 0), .int x, .int y, .ref (e 0), .ref (e 2), .ref (e 3), .ref (e 5)]) (cells' := cells) (slots' := slots) hc (c_L_boards κ _ a q z n w x y (e 0) (e 2) (e 3) (e 5) 1 hw hbo) q_L_boards k_ml_RL_136 rfl rfl (jn_p (wr := [(e 1, aI κ 52 (fun k => z (52 + k))), (e 4, aI κ 52 (hd z 0)), (e 6, aI κ 52 (hd z 2)), (e 7, aI κ 52 (hd z 3))]) [0, 2, 3, 5] [1, 4, 6, 7] rfl rfl rfl rfl (by decide)) ⟨⟨by decide, by decide⟩, (show cells + 0 ≤ 600000 from by omega), (show slots + 0 ≤ 7302250 from by omega)⟩ (Nat.le_of_ble_eq_true rfl) rfl rfl dL_law_269 (n := 272) rfl (fun vv ww hp => ?_)
      obtain ⟨rr, rfl, z2_16, n2_17, w2_18, hw2_19, hlo_20, hot_21, rfl, rfl⟩ := hp
      refine ⟨_, ⟨_, _, rfl, rfl⟩, ?_⟩
      refine g_ws (ws' := ([(e 1, aI κ 52 (fun k => z (52 + k))), (e 4, aI κ 52 (hd z 0)), (e 6, aI κ 52 (hd z 2)), (e 7, aI κ 52 (hd z 3)), (e 0, aI κ 52 z2_16), (e 2, aI κ 9 (fun k => z2_16 (324 + k))), (e 3, aI κ 12 (tt z2_16)), (e 5, aI κ 52 (hd z2_16 1))] ++ w2_18)) rfl ?_
      refine g_st (st' := [.int (nI 1)]) rfl ?_
      refine g_arr (ws' := ([(e 1, aI κ 52 (fun k => z2_16 (52 + k))), (e 4, aI κ 52 (hd z 0)), (e 6, aI κ 52 (hd z 2)), (e 7, aI κ 52 (hd z 3)), (e 0, aI κ 52 z2_16), (e 2, aI κ 9 (fun k => z2_16 (324 + k))), (e 3, aI κ 12 (tt z2_16)), (e 5, aI κ 52 (hd z2_16 1))] ++ w2_18)) (f := fun k => z (52 + k)) (g := fun k => z2_16 (52 + k)) 0 rfl (fun k hk => (hlo_20 (52 + k) (by omega)).symm) rfl ?_
      refine g_arr (ws' := ([(e 1, aI κ 52 (fun k => z2_16 (52 + k))), (e 4, aI κ 52 (hd z2_16 0)), (e 6, aI κ 52 (hd z 2)), (e 7, aI κ 52 (hd z 3)), (e 0, aI κ 52 z2_16), (e 2, aI κ 9 (fun k => z2_16 (324 + k))), (e 3, aI κ 12 (tt z2_16)), (e 5, aI κ 52 (hd z2_16 1))] ++ w2_18)) (f := hd z 0) (g := hd z2_16 0) 1 rfl (fun k hk => (hot_21 0 (by decide) (by decide) k hk).symm) rfl ?_
      refine g_arr (ws' := ([(e 1, aI κ 52 (fun k => z2_16 (52 + k))), (e 4, aI κ 52 (hd z2_16 0)), (e 6, aI κ 52 (hd z2_16 2)), (e 7, aI κ 52 (hd z 3)), (e 0, aI κ 52 z2_16), (e 2, aI κ 9 (fun k => z2_16 (324 + k))), (e 3, aI κ 12 (tt z2_16)), (e 5, aI κ 52 (hd z2_16 1))] ++ w2_18)) (f := hd z 2) (g := hd z2_16 2) 2 rfl (fun k hk => (hot_21 2 (by decide) (by decide) k hk).symm) rfl ?_
      refine g_arr (ws' := ([(e 1, aI κ 52 (fun k => z2_16 (52 + k))), (e 4, aI κ 52 (hd z2_16 0)), (e 6, aI κ 52 (hd z2_16 2)), (e 7, aI κ 52 (hd z2_16 3)), (e 0, aI κ 52 z2_16), (e 2, aI κ 9 (fun k => z2_16 (324 + k))), (e 3, aI κ 12 (tt z2_16)), (e 5, aI κ 52 (hd z2_16 1))] ++ w2_18)) (f := hd z 3) (g := hd z2_16 3) 3 rfl (fun k hk => (hot_21 3 (by decide) (by decide) k hk).symm) rfl ?_
      refine g_istore (lv2 := [(0, .ref (κ.2.2 3)), (1, .ref (a 0)), (2, .ref (e 0)), (3, .ref (e 1)), (4, .ref (e 2)), (5, .ref (e 3)), (6, .ref (e 4)), (7, .ref (e 5)), (8, .ref (e 6)), (9, .ref (e 7)), (10, .int (nI i)), (11, .int x), (12, .int y), (13, .int (nI 1)), (14, .ref (e 5)), (15, .int (nI 1))]) hc (by decide) [1, 2, 3, 4, 5, 6, 7, 8, 9, 10, 11, 12, 13, 14, 15, 0] rfl rfl dL_law_272 (n := 274) rfl ?_
      refine g_subq (X' := [(e 0, aI κ 52 z2_16), (e 1, aI κ 52 (fun k => z2_16 (52 + k))), (e 2, aI κ 9 (fun k => z2_16 (324 + k))), (e 3, aI κ 12 (tt z2_16)), (e 4, aI κ 52 (hd z2_16 0)), (e 5, aI κ 52 (hd z2_16 1)), (e 6, aI κ 52 (hd z2_16 2)), (e 7, aI κ 52 (hd z2_16 3))]) [4, 0, 5, 6, 1, 7, 2, 3] rfl rfl ?_
      refine g_wide (k := cells + 5) (m := slots + 300) (by omega) (by omega) ?_
      exact l_rest1 hc hw2_19 hi (by omega) (by omega) (fun n2 w2 h => kk z2_16 n2 w2 h)
    · skip
      refine g_aload_n hc 1 rfl rfl dL_law_242 (n := 243) rfl ?_
      refine g_iload hc 11 rfl dL_law_243 (n := 245) rfl ?_
      refine g_iload hc 12 rfl dL_law_245 (n := 247) rfl ?_
      refine g_aload_n hc 2 rfl rfl dL_law_247 (n := 248) rfl ?_
      refine g_aload_n hc 3 rfl rfl dL_law_248 (n := 249) rfl ?_
      refine g_aload hc 4 rfl dL_law_249 (n := 251) rfl ?_
      refine g_callS (rest := []) (As := [.ref (a 0), .int x, .int y, .ref (e 0), .ref (e 1), .ref (e 2)]) (cells' := cells + 2) (slots' := slots + 104) hc (c_L_cards κ _ a q z n w x y (e 0) (e 1) (e 2) hw) q_L_cards k_ml_RL_132 rfl rfl (jn_p (wr := [(e 3, aI κ 12 (tt z)), (e 4, aI κ 52 (hd z 0)), (e 5, aI κ 52 (hd z 1)), (e 6, aI κ 52 (hd z 2)), (e 7, aI κ 52 (hd z 3))]) [0, 1, 2] [3, 4, 5, 6, 7] rfl rfl rfl rfl (by decide)) ⟨⟨by decide, by decide⟩, (show cells + 2 ≤ 600000 from by omega), (show slots + 104 ≤ 7302250 from by omega)⟩ (Nat.le_of_ble_eq_true rfl) rfl rfl dL_law_251 (n := 254) rfl (fun vv ww hp => ?_)
      obtain ⟨rr, rfl, z2_22, n2_23, w2_24, hw2_25, hkp_26, rfl, rfl⟩ := hp
      refine ⟨_, ⟨_, _, rfl, rfl⟩, ?_⟩
      refine g_ws (ws' := ([(e 3, aI κ 12 (tt z)), (e 4, aI κ 52 (hd z 0)), (e 5, aI κ 52 (hd z 1)), (e 6, aI κ 52 (hd z 2)), (e 7, aI κ 52 (hd z 3)), (e 0, aI κ 52 z2_22), (e 1, aI κ 52 (fun k => z2_22 (52 + k))), (e 2, aI κ 9 (fun k => z2_22 (324 + k)))] ++ w2_24)) rfl ?_
      refine g_st (st' := [.int (nI 1)]) rfl ?_
      refine g_arr (ws' := ([(e 3, aI κ 12 (tt z2_22)), (e 4, aI κ 52 (hd z 0)), (e 5, aI κ 52 (hd z 1)), (e 6, aI κ 52 (hd z 2)), (e 7, aI κ 52 (hd z 3)), (e 0, aI κ 52 z2_22), (e 1, aI κ 52 (fun k => z2_22 (52 + k))), (e 2, aI κ 9 (fun k => z2_22 (324 + k)))] ++ w2_24)) (f := tt z) (g := tt z2_22) 0 rfl (tt_c (fun j h1 h2 => hkp_26 j (by omega) (by omega))) rfl ?_
      refine g_arr (ws' := ([(e 3, aI κ 12 (tt z2_22)), (e 4, aI κ 52 (hd z2_22 0)), (e 5, aI κ 52 (hd z 1)), (e 6, aI κ 52 (hd z 2)), (e 7, aI κ 52 (hd z 3)), (e 0, aI κ 52 z2_22), (e 1, aI κ 52 (fun k => z2_22 (52 + k))), (e 2, aI κ 9 (fun k => z2_22 (324 + k)))] ++ w2_24)) (f := hd z 0) (g := hd z2_22 0) 1 rfl (fun k hk => (hkp_26 (104 + 52 * 0 + k) (by omega) (by omega)).symm) rfl ?_
      refine g_arr (ws' := ([(e 3, aI κ 12 (tt z2_22)), (e 4, aI κ 52 (hd z2_22 0)), (e 5, aI κ 52 (hd z2_22 1)), (e 6, aI κ 52 (hd z 2)), (e 7, aI κ 52 (hd z 3)), (e 0, aI κ 52 z2_22), (e 1, aI κ 52 (fun k => z2_22 (52 + k))), (e 2, aI κ 9 (fun k => z2_22 (324 + k)))] ++ w2_24)) (f := hd z 1) (g := hd z2_22 1) 2 rfl (fun k hk => (hkp_26 (104 + 52 * 1 + k) (by omega) (by omega)).symm) rfl ?_
      refine g_arr (ws' := ([(e 3, aI κ 12 (tt z2_22)), (e 4, aI κ 52 (hd z2_22 0)), (e 5, aI κ 52 (hd z2_22 1)), (e 6, aI κ 52 (hd z2_22 2)), (e 7, aI κ 52 (hd z 3)), (e 0, aI κ 52 z2_22), (e 1, aI κ 52 (fun k => z2_22 (52 + k))), (e 2, aI κ 9 (fun k => z2_22 (324 + k)))] ++ w2_24)) (f := hd z 2) (g := hd z2_22 2) 3 rfl (fun k hk => (hkp_26 (104 + 52 * 2 + k) (by omega) (by omega)).symm) rfl ?_
      refine g_arr (ws' := ([(e 3, aI κ 12 (tt z2_22)), (e 4, aI κ 52 (hd z2_22 0)), (e 5, aI κ 52 (hd z2_22 1)), (e 6, aI κ 52 (hd z2_22 2)), (e 7, aI κ 52 (hd z2_22 3)), (e 0, aI κ 52 z2_22), (e 1, aI κ 52 (fun k => z2_22 (52 + k))), (e 2, aI κ 9 (fun k => z2_22 (324 + k)))] ++ w2_24)) (f := hd z 3) (g := hd z2_22 3) 4 rfl (fun k hk => (hkp_26 (104 + 52 * 3 + k) (by omega) (by omega)).symm) rfl ?_
      refine g_goto (n := 272) hc dL_law_254 (by decide) ?_
      refine g_istore (lv2 := [(0, .ref (κ.2.2 3)), (1, .ref (a 0)), (2, .ref (e 0)), (3, .ref (e 1)), (4, .ref (e 2)), (5, .ref (e 3)), (6, .ref (e 4)), (7, .ref (e 5)), (8, .ref (e 6)), (9, .ref (e 7)), (10, .int (nI i)), (11, .int x), (12, .int y), (13, .int (nI 1)), (14, .ref (e 5)), (15, .int (nI 1))]) hc (by decide) [1, 2, 3, 4, 5, 6, 7, 8, 9, 10, 11, 12, 13, 14, 15, 0] rfl rfl dL_law_272 (n := 274) rfl ?_
      refine g_subq (X' := [(e 0, aI κ 52 z2_22), (e 1, aI κ 52 (fun k => z2_22 (52 + k))), (e 2, aI κ 9 (fun k => z2_22 (324 + k))), (e 3, aI κ 12 (tt z2_22)), (e 4, aI κ 52 (hd z2_22 0)), (e 5, aI κ 52 (hd z2_22 1)), (e 6, aI κ 52 (hd z2_22 2)), (e 7, aI κ 52 (hd z2_22 3))]) [5, 6, 7, 0, 1, 2, 3, 4] rfl rfl ?_
      refine g_wide (k := cells + 5) (m := slots + 300) (by omega) (by omega) ?_
      exact l_rest1 hc hw2_25 hi (by omega) (by omega) (fun n2 w2 h => kk z2_22 n2 w2 h)
  · skip
    refine g_istore (lv2 := [(0, .ref (κ.2.2 3)), (1, .ref (a 0)), (2, .ref (e 0)), (3, .ref (e 1)), (4, .ref (e 2)), (5, .ref (e 3)), (6, .ref (e 4)), (7, .ref (e 5)), (8, .ref (e 6)), (9, .ref (e 7)), (10, .int (nI i)), (11, .int x), (12, .int y), (13, .int (nI 2))]) hc (by decide) [1, 2, 3, 4, 5, 6, 7, 8, 9, 10, 11, 12, 13, 0] rfl rfl dL_law_194 (n := 196) rfl ?_
    refine g_iload hc 13 rfl dL_law_196 (n := 198) rfl ?_
    refine n_if_ne hc (by omega) dL_law_198 (tgt := 206) (by decide) (n := 201) rfl (fun c_27 => ?_) (fun c_27 => by (exfalso; revert c_27; first | omega | decide))
    refine g_iload hc 13 rfl dL_law_206 (n := 208) rfl ?_
    refine g_iconst (v := nI 1) hc (by decide) dL_law_208 (n := 209) rfl ?_
    refine n_icmp_ne hc (by omega) (by omega) dL_law_209 (tgt := 217) (by decide) (n := 212) rfl (fun c_28 => ?_) (fun c_28 => by (exfalso; revert c_28; first | omega | decide))
    refine g_iload hc 13 rfl dL_law_217 (n := 219) rfl ?_
    refine g_iconst (v := nI 2) hc (by decide) dL_law_219 (n := 220) rfl ?_
    refine g_icmp_ne hc dL_law_220 (tgt := 228) (by decide) (n := 223) rfl (fun e => absurd rfl e) (fun _ => ?_)
    refine g_aload hc 8 rfl dL_law_223 (n := 225) rfl ?_
    refine g_goto (n := 230) hc dL_law_225 (by decide) ?_
    refine g_astore (lv2 := [(0, .ref (κ.2.2 3)), (1, .ref (a 0)), (2, .ref (e 0)), (3, .ref (e 1)), (4, .ref (e 2)), (5, .ref (e 3)), (6, .ref (e 4)), (7, .ref (e 5)), (8, .ref (e 6)), (9, .ref (e 7)), (10, .int (nI i)), (11, .int x), (12, .int y), (13, .int (nI 2)), (14, .ref (e 6))]) hc (by decide) [1, 2, 3, 4, 5, 6, 7, 8, 9, 10, 11, 12, 13, 14, 0] rfl rfl dL_law_230 (n := 232) rfl ?_
    refine g_iload hc 11 rfl dL_law_232 (n := 234) rfl ?_
    refine g_bipush (v := nI 8) hc (by decide) dL_law_234 (n := 236) rfl ?_
    refine g_ishr (v := x >>> ((nI 8) &&& 31)) hc rfl dL_law_236 (n := 237) rfl ?_
    refine g_iconst (v := nI 1) hc (by decide) dL_law_237 (n := 238) rfl ?_
    refine g_iand (v := (x >>> ((nI 8) &&& 31)) &&& (nI 1)) hc rfl dL_law_238 (n := 239) rfl ?_
    refine g_if_ne hc dL_law_239 (tgt := 257) (by decide) (n := 242) rfl (fun c_29 => ?_) (fun c_29 => ?_)
    · skip
      refine g_aload_n hc 1 rfl rfl dL_law_257 (n := 258) rfl ?_
      refine g_iload hc 11 rfl dL_law_258 (n := 260) rfl ?_
      refine g_iload hc 12 rfl dL_law_260 (n := 262) rfl ?_
      refine g_aload_n hc 2 rfl rfl dL_law_262 (n := 263) rfl ?_
      refine g_aload hc 4 rfl dL_law_263 (n := 265) rfl ?_
      refine g_aload hc 5 rfl dL_law_265 (n := 267) rfl ?_
      refine g_aload hc 14 rfl dL_law_267 (n := 269) rfl ?_
      refine g_callS (rest := []) (As := [.ref (a 0), .int x, .int y, .ref (e 0), .ref (e 2), .ref (e 3), .ref (e 6)]) (cells' := cells) (slots' := slots) hc (c_L_boards κ _ a q z n w x y (e 0) (e 2) (e 3) (e 6) 2 hw hbo) q_L_boards k_ml_RL_136 rfl rfl (jn_p (wr := [(e 1, aI κ 52 (fun k => z (52 + k))), (e 4, aI κ 52 (hd z 0)), (e 5, aI κ 52 (hd z 1)), (e 7, aI κ 52 (hd z 3))]) [0, 2, 3, 6] [1, 4, 5, 7] rfl rfl rfl rfl (by decide)) ⟨⟨by decide, by decide⟩, (show cells + 0 ≤ 600000 from by omega), (show slots + 0 ≤ 7302250 from by omega)⟩ (Nat.le_of_ble_eq_true rfl) rfl rfl dL_law_269 (n := 272) rfl (fun vv ww hp => ?_)
      obtain ⟨rr, rfl, z2_30, n2_31, w2_32, hw2_33, hlo_34, hot_35, rfl, rfl⟩ := hp
      refine ⟨_, ⟨_, _, rfl, rfl⟩, ?_⟩
      refine g_ws (ws' := ([(e 1, aI κ 52 (fun k => z (52 + k))), (e 4, aI κ 52 (hd z 0)), (e 5, aI κ 52 (hd z 1)), (e 7, aI κ 52 (hd z 3)), (e 0, aI κ 52 z2_30), (e 2, aI κ 9 (fun k => z2_30 (324 + k))), (e 3, aI κ 12 (tt z2_30)), (e 6, aI κ 52 (hd z2_30 2))] ++ w2_32)) rfl ?_
      refine g_st (st' := [.int (nI 1)]) rfl ?_
      refine g_arr (ws' := ([(e 1, aI κ 52 (fun k => z2_30 (52 + k))), (e 4, aI κ 52 (hd z 0)), (e 5, aI κ 52 (hd z 1)), (e 7, aI κ 52 (hd z 3)), (e 0, aI κ 52 z2_30), (e 2, aI κ 9 (fun k => z2_30 (324 + k))), (e 3, aI κ 12 (tt z2_30)), (e 6, aI κ 52 (hd z2_30 2))] ++ w2_32)) (f := fun k => z (52 + k)) (g := fun k => z2_30 (52 + k)) 0 rfl (fun k hk => (hlo_34 (52 + k) (by omega)).symm) rfl ?_
      refine g_arr (ws' := ([(e 1, aI κ 52 (fun k => z2_30 (52 + k))), (e 4, aI κ 52 (hd z2_30 0)), (e 5, aI κ 52 (hd z 1)), (e 7, aI κ 52 (hd z 3)), (e 0, aI κ 52 z2_30), (e 2, aI κ 9 (fun k => z2_30 (324 + k))), (e 3, aI κ 12 (tt z2_30)), (e 6, aI κ 52 (hd z2_30 2))] ++ w2_32)) (f := hd z 0) (g := hd z2_30 0) 1 rfl (fun k hk => (hot_35 0 (by decide) (by decide) k hk).symm) rfl ?_
      refine g_arr (ws' := ([(e 1, aI κ 52 (fun k => z2_30 (52 + k))), (e 4, aI κ 52 (hd z2_30 0)), (e 5, aI κ 52 (hd z2_30 1)), (e 7, aI κ 52 (hd z 3)), (e 0, aI κ 52 z2_30), (e 2, aI κ 9 (fun k => z2_30 (324 + k))), (e 3, aI κ 12 (tt z2_30)), (e 6, aI κ 52 (hd z2_30 2))] ++ w2_32)) (f := hd z 1) (g := hd z2_30 1) 2 rfl (fun k hk => (hot_35 1 (by decide) (by decide) k hk).symm) rfl ?_
      refine g_arr (ws' := ([(e 1, aI κ 52 (fun k => z2_30 (52 + k))), (e 4, aI κ 52 (hd z2_30 0)), (e 5, aI κ 52 (hd z2_30 1)), (e 7, aI κ 52 (hd z2_30 3)), (e 0, aI κ 52 z2_30), (e 2, aI κ 9 (fun k => z2_30 (324 + k))), (e 3, aI κ 12 (tt z2_30)), (e 6, aI κ 52 (hd z2_30 2))] ++ w2_32)) (f := hd z 3) (g := hd z2_30 3) 3 rfl (fun k hk => (hot_35 3 (by decide) (by decide) k hk).symm) rfl ?_
      refine g_istore (lv2 := [(0, .ref (κ.2.2 3)), (1, .ref (a 0)), (2, .ref (e 0)), (3, .ref (e 1)), (4, .ref (e 2)), (5, .ref (e 3)), (6, .ref (e 4)), (7, .ref (e 5)), (8, .ref (e 6)), (9, .ref (e 7)), (10, .int (nI i)), (11, .int x), (12, .int y), (13, .int (nI 2)), (14, .ref (e 6)), (15, .int (nI 1))]) hc (by decide) [1, 2, 3, 4, 5, 6, 7, 8, 9, 10, 11, 12, 13, 14, 15, 0] rfl rfl dL_law_272 (n := 274) rfl ?_
      refine g_subq (X' := [(e 0, aI κ 52 z2_30), (e 1, aI κ 52 (fun k => z2_30 (52 + k))), (e 2, aI κ 9 (fun k => z2_30 (324 + k))), (e 3, aI κ 12 (tt z2_30)), (e 4, aI κ 52 (hd z2_30 0)), (e 5, aI κ 52 (hd z2_30 1)), (e 6, aI κ 52 (hd z2_30 2)), (e 7, aI κ 52 (hd z2_30 3))]) [4, 0, 5, 6, 1, 2, 7, 3] rfl rfl ?_
      refine g_wide (k := cells + 5) (m := slots + 300) (by omega) (by omega) ?_
      exact l_rest2 hc hw2_33 hi (by omega) (by omega) (fun n2 w2 h => kk z2_30 n2 w2 h)
    · skip
      refine g_aload_n hc 1 rfl rfl dL_law_242 (n := 243) rfl ?_
      refine g_iload hc 11 rfl dL_law_243 (n := 245) rfl ?_
      refine g_iload hc 12 rfl dL_law_245 (n := 247) rfl ?_
      refine g_aload_n hc 2 rfl rfl dL_law_247 (n := 248) rfl ?_
      refine g_aload_n hc 3 rfl rfl dL_law_248 (n := 249) rfl ?_
      refine g_aload hc 4 rfl dL_law_249 (n := 251) rfl ?_
      refine g_callS (rest := []) (As := [.ref (a 0), .int x, .int y, .ref (e 0), .ref (e 1), .ref (e 2)]) (cells' := cells + 2) (slots' := slots + 104) hc (c_L_cards κ _ a q z n w x y (e 0) (e 1) (e 2) hw) q_L_cards k_ml_RL_132 rfl rfl (jn_p (wr := [(e 3, aI κ 12 (tt z)), (e 4, aI κ 52 (hd z 0)), (e 5, aI κ 52 (hd z 1)), (e 6, aI κ 52 (hd z 2)), (e 7, aI κ 52 (hd z 3))]) [0, 1, 2] [3, 4, 5, 6, 7] rfl rfl rfl rfl (by decide)) ⟨⟨by decide, by decide⟩, (show cells + 2 ≤ 600000 from by omega), (show slots + 104 ≤ 7302250 from by omega)⟩ (Nat.le_of_ble_eq_true rfl) rfl rfl dL_law_251 (n := 254) rfl (fun vv ww hp => ?_)
      obtain ⟨rr, rfl, z2_36, n2_37, w2_38, hw2_39, hkp_40, rfl, rfl⟩ := hp
      refine ⟨_, ⟨_, _, rfl, rfl⟩, ?_⟩
      refine g_ws (ws' := ([(e 3, aI κ 12 (tt z)), (e 4, aI κ 52 (hd z 0)), (e 5, aI κ 52 (hd z 1)), (e 6, aI κ 52 (hd z 2)), (e 7, aI κ 52 (hd z 3)), (e 0, aI κ 52 z2_36), (e 1, aI κ 52 (fun k => z2_36 (52 + k))), (e 2, aI κ 9 (fun k => z2_36 (324 + k)))] ++ w2_38)) rfl ?_
      refine g_st (st' := [.int (nI 1)]) rfl ?_
      refine g_arr (ws' := ([(e 3, aI κ 12 (tt z2_36)), (e 4, aI κ 52 (hd z 0)), (e 5, aI κ 52 (hd z 1)), (e 6, aI κ 52 (hd z 2)), (e 7, aI κ 52 (hd z 3)), (e 0, aI κ 52 z2_36), (e 1, aI κ 52 (fun k => z2_36 (52 + k))), (e 2, aI κ 9 (fun k => z2_36 (324 + k)))] ++ w2_38)) (f := tt z) (g := tt z2_36) 0 rfl (tt_c (fun j h1 h2 => hkp_40 j (by omega) (by omega))) rfl ?_
      refine g_arr (ws' := ([(e 3, aI κ 12 (tt z2_36)), (e 4, aI κ 52 (hd z2_36 0)), (e 5, aI κ 52 (hd z 1)), (e 6, aI κ 52 (hd z 2)), (e 7, aI κ 52 (hd z 3)), (e 0, aI κ 52 z2_36), (e 1, aI κ 52 (fun k => z2_36 (52 + k))), (e 2, aI κ 9 (fun k => z2_36 (324 + k)))] ++ w2_38)) (f := hd z 0) (g := hd z2_36 0) 1 rfl (fun k hk => (hkp_40 (104 + 52 * 0 + k) (by omega) (by omega)).symm) rfl ?_
      refine g_arr (ws' := ([(e 3, aI κ 12 (tt z2_36)), (e 4, aI κ 52 (hd z2_36 0)), (e 5, aI κ 52 (hd z2_36 1)), (e 6, aI κ 52 (hd z 2)), (e 7, aI κ 52 (hd z 3)), (e 0, aI κ 52 z2_36), (e 1, aI κ 52 (fun k => z2_36 (52 + k))), (e 2, aI κ 9 (fun k => z2_36 (324 + k)))] ++ w2_38)) (f := hd z 1) (g := hd z2_36 1) 2 rfl (fun k hk => (hkp_40 (104 + 52 * 1 + k) (by omega) (by omega)).symm) rfl ?_
      refine g_arr (ws' := ([(e 3, aI κ 12 (tt z2_36)), (e 4, aI κ 52 (hd z2_36 0)), (e 5, aI κ 52 (hd z2_36 1)), (e 6, aI κ 52 (hd z2_36 2)), (e 7, aI κ 52 (hd z 3)), (e 0, aI κ 52 z2_36), (e 1, aI κ 52 (fun k => z2_36 (52 + k))), (e 2, aI κ 9 (fun k => z2_36 (324 + k)))] ++ w2_38)) (f := hd z 2) (g := hd z2_36 2) 3 rfl (fun k hk => (hkp_40 (104 + 52 * 2 + k) (by omega) (by omega)).symm) rfl ?_
      refine g_arr (ws' := ([(e 3, aI κ 12 (tt z2_36)), (e 4, aI κ 52 (hd z2_36 0)), (e 5, aI κ 52 (hd z2_36 1)), (e 6, aI κ 52 (hd z2_36 2)), (e 7, aI κ 52 (hd z2_36 3)), (e 0, aI κ 52 z2_36), (e 1, aI κ 52 (fun k => z2_36 (52 + k))), (e 2, aI κ 9 (fun k => z2_36 (324 + k)))] ++ w2_38)) (f := hd z 3) (g := hd z2_36 3) 4 rfl (fun k hk => (hkp_40 (104 + 52 * 3 + k) (by omega) (by omega)).symm) rfl ?_
      refine g_goto (n := 272) hc dL_law_254 (by decide) ?_
      refine g_istore (lv2 := [(0, .ref (κ.2.2 3)), (1, .ref (a 0)), (2, .ref (e 0)), (3, .ref (e 1)), (4, .ref (e 2)), (5, .ref (e 3)), (6, .ref (e 4)), (7, .ref (e 5)), (8, .ref (e 6)), (9, .ref (e 7)), (10, .int (nI i)), (11, .int x), (12, .int y), (13, .int (nI 2)), (14, .ref (e 6)), (15, .int (nI 1))]) hc (by decide) [1, 2, 3, 4, 5, 6, 7, 8, 9, 10, 11, 12, 13, 14, 15, 0] rfl rfl dL_law_272 (n := 274) rfl ?_
      refine g_subq (X' := [(e 0, aI κ 52 z2_36), (e 1, aI κ 52 (fun k => z2_36 (52 + k))), (e 2, aI κ 9 (fun k => z2_36 (324 + k))), (e 3, aI κ 12 (tt z2_36)), (e 4, aI κ 52 (hd z2_36 0)), (e 5, aI κ 52 (hd z2_36 1)), (e 6, aI κ 52 (hd z2_36 2)), (e 7, aI κ 52 (hd z2_36 3))]) [5, 6, 7, 0, 1, 2, 3, 4] rfl rfl ?_
      refine g_wide (k := cells + 5) (m := slots + 300) (by omega) (by omega) ?_
      exact l_rest2 hc hw2_39 hi (by omega) (by omega) (fun n2 w2 h => kk z2_36 n2 w2 h)
  · skip
    refine g_istore (lv2 := [(0, .ref (κ.2.2 3)), (1, .ref (a 0)), (2, .ref (e 0)), (3, .ref (e 1)), (4, .ref (e 2)), (5, .ref (e 3)), (6, .ref (e 4)), (7, .ref (e 5)), (8, .ref (e 6)), (9, .ref (e 7)), (10, .int (nI i)), (11, .int x), (12, .int y), (13, .int (nI 3))]) hc (by decide) [1, 2, 3, 4, 5, 6, 7, 8, 9, 10, 11, 12, 13, 0] rfl rfl dL_law_194 (n := 196) rfl ?_
    refine g_iload hc 13 rfl dL_law_196 (n := 198) rfl ?_
    refine n_if_ne hc (by omega) dL_law_198 (tgt := 206) (by decide) (n := 201) rfl (fun c_41 => ?_) (fun c_41 => by (exfalso; revert c_41; first | omega | decide))
    refine g_iload hc 13 rfl dL_law_206 (n := 208) rfl ?_
    refine g_iconst (v := nI 1) hc (by decide) dL_law_208 (n := 209) rfl ?_
    refine n_icmp_ne hc (by omega) (by omega) dL_law_209 (tgt := 217) (by decide) (n := 212) rfl (fun c_42 => ?_) (fun c_42 => by (exfalso; revert c_42; first | omega | decide))
    refine g_iload hc 13 rfl dL_law_217 (n := 219) rfl ?_
    refine g_iconst (v := nI 2) hc (by decide) dL_law_219 (n := 220) rfl ?_
    refine n_icmp_ne hc (by omega) (by omega) dL_law_220 (tgt := 228) (by decide) (n := 223) rfl (fun c_43 => ?_) (fun c_43 => by (exfalso; revert c_43; first | omega | decide))
    refine g_aload hc 9 rfl dL_law_228 (n := 230) rfl ?_
    refine g_astore (lv2 := [(0, .ref (κ.2.2 3)), (1, .ref (a 0)), (2, .ref (e 0)), (3, .ref (e 1)), (4, .ref (e 2)), (5, .ref (e 3)), (6, .ref (e 4)), (7, .ref (e 5)), (8, .ref (e 6)), (9, .ref (e 7)), (10, .int (nI i)), (11, .int x), (12, .int y), (13, .int (nI 3)), (14, .ref (e 7))]) hc (by decide) [1, 2, 3, 4, 5, 6, 7, 8, 9, 10, 11, 12, 13, 14, 0] rfl rfl dL_law_230 (n := 232) rfl ?_
    refine g_iload hc 11 rfl dL_law_232 (n := 234) rfl ?_
    refine g_bipush (v := nI 8) hc (by decide) dL_law_234 (n := 236) rfl ?_
    refine g_ishr (v := x >>> ((nI 8) &&& 31)) hc rfl dL_law_236 (n := 237) rfl ?_
    refine g_iconst (v := nI 1) hc (by decide) dL_law_237 (n := 238) rfl ?_
    refine g_iand (v := (x >>> ((nI 8) &&& 31)) &&& (nI 1)) hc rfl dL_law_238 (n := 239) rfl ?_
    refine g_if_ne hc dL_law_239 (tgt := 257) (by decide) (n := 242) rfl (fun c_44 => ?_) (fun c_44 => ?_)
    · skip
      refine g_aload_n hc 1 rfl rfl dL_law_257 (n := 258) rfl ?_
      refine g_iload hc 11 rfl dL_law_258 (n := 260) rfl ?_
      refine g_iload hc 12 rfl dL_law_260 (n := 262) rfl ?_
      refine g_aload_n hc 2 rfl rfl dL_law_262 (n := 263) rfl ?_
      refine g_aload hc 4 rfl dL_law_263 (n := 265) rfl ?_
      refine g_aload hc 5 rfl dL_law_265 (n := 267) rfl ?_
      refine g_aload hc 14 rfl dL_law_267 (n := 269) rfl ?_
      refine g_callS (rest := []) (As := [.ref (a 0), .int x, .int y, .ref (e 0), .ref (e 2), .ref (e 3), .ref (e 7)]) (cells' := cells) (slots' := slots) hc (c_L_boards κ _ a q z n w x y (e 0) (e 2) (e 3) (e 7) 3 hw hbo) q_L_boards k_ml_RL_136 rfl rfl (jn_p (wr := [(e 1, aI κ 52 (fun k => z (52 + k))), (e 4, aI κ 52 (hd z 0)), (e 5, aI κ 52 (hd z 1)), (e 6, aI κ 52 (hd z 2))]) [0, 2, 3, 7] [1, 4, 5, 6] rfl rfl rfl rfl (by decide)) ⟨⟨by decide, by decide⟩, (show cells + 0 ≤ 600000 from by omega), (show slots + 0 ≤ 7302250 from by omega)⟩ (Nat.le_of_ble_eq_true rfl) rfl rfl dL_law_269 (n := 272) rfl (fun vv ww hp => ?_)
      obtain ⟨rr, rfl, z2_45, n2_46, w2_47, hw2_48, hlo_49, hot_50, rfl, rfl⟩ := hp
      refine ⟨_, ⟨_, _, rfl, rfl⟩, ?_⟩
      refine g_ws (ws' := ([(e 1, aI κ 52 (fun k => z (52 + k))), (e 4, aI κ 52 (hd z 0)), (e 5, aI κ 52 (hd z 1)), (e 6, aI κ 52 (hd z 2)), (e 0, aI κ 52 z2_45), (e 2, aI κ 9 (fun k => z2_45 (324 + k))), (e 3, aI κ 12 (tt z2_45)), (e 7, aI κ 52 (hd z2_45 3))] ++ w2_47)) rfl ?_
      refine g_st (st' := [.int (nI 1)]) rfl ?_
      refine g_arr (ws' := ([(e 1, aI κ 52 (fun k => z2_45 (52 + k))), (e 4, aI κ 52 (hd z 0)), (e 5, aI κ 52 (hd z 1)), (e 6, aI κ 52 (hd z 2)), (e 0, aI κ 52 z2_45), (e 2, aI κ 9 (fun k => z2_45 (324 + k))), (e 3, aI κ 12 (tt z2_45)), (e 7, aI κ 52 (hd z2_45 3))] ++ w2_47)) (f := fun k => z (52 + k)) (g := fun k => z2_45 (52 + k)) 0 rfl (fun k hk => (hlo_49 (52 + k) (by omega)).symm) rfl ?_
      refine g_arr (ws' := ([(e 1, aI κ 52 (fun k => z2_45 (52 + k))), (e 4, aI κ 52 (hd z2_45 0)), (e 5, aI κ 52 (hd z 1)), (e 6, aI κ 52 (hd z 2)), (e 0, aI κ 52 z2_45), (e 2, aI κ 9 (fun k => z2_45 (324 + k))), (e 3, aI κ 12 (tt z2_45)), (e 7, aI κ 52 (hd z2_45 3))] ++ w2_47)) (f := hd z 0) (g := hd z2_45 0) 1 rfl (fun k hk => (hot_50 0 (by decide) (by decide) k hk).symm) rfl ?_
      refine g_arr (ws' := ([(e 1, aI κ 52 (fun k => z2_45 (52 + k))), (e 4, aI κ 52 (hd z2_45 0)), (e 5, aI κ 52 (hd z2_45 1)), (e 6, aI κ 52 (hd z 2)), (e 0, aI κ 52 z2_45), (e 2, aI κ 9 (fun k => z2_45 (324 + k))), (e 3, aI κ 12 (tt z2_45)), (e 7, aI κ 52 (hd z2_45 3))] ++ w2_47)) (f := hd z 1) (g := hd z2_45 1) 2 rfl (fun k hk => (hot_50 1 (by decide) (by decide) k hk).symm) rfl ?_
      refine g_arr (ws' := ([(e 1, aI κ 52 (fun k => z2_45 (52 + k))), (e 4, aI κ 52 (hd z2_45 0)), (e 5, aI κ 52 (hd z2_45 1)), (e 6, aI κ 52 (hd z2_45 2)), (e 0, aI κ 52 z2_45), (e 2, aI κ 9 (fun k => z2_45 (324 + k))), (e 3, aI κ 12 (tt z2_45)), (e 7, aI κ 52 (hd z2_45 3))] ++ w2_47)) (f := hd z 2) (g := hd z2_45 2) 3 rfl (fun k hk => (hot_50 2 (by decide) (by decide) k hk).symm) rfl ?_
      refine g_istore (lv2 := [(0, .ref (κ.2.2 3)), (1, .ref (a 0)), (2, .ref (e 0)), (3, .ref (e 1)), (4, .ref (e 2)), (5, .ref (e 3)), (6, .ref (e 4)), (7, .ref (e 5)), (8, .ref (e 6)), (9, .ref (e 7)), (10, .int (nI i)), (11, .int x), (12, .int y), (13, .int (nI 3)), (14, .ref (e 7)), (15, .int (nI 1))]) hc (by decide) [1, 2, 3, 4, 5, 6, 7, 8, 9, 10, 11, 12, 13, 14, 15, 0] rfl rfl dL_law_272 (n := 274) rfl ?_
      refine g_subq (X' := [(e 0, aI κ 52 z2_45), (e 1, aI κ 52 (fun k => z2_45 (52 + k))), (e 2, aI κ 9 (fun k => z2_45 (324 + k))), (e 3, aI κ 12 (tt z2_45)), (e 4, aI κ 52 (hd z2_45 0)), (e 5, aI κ 52 (hd z2_45 1)), (e 6, aI κ 52 (hd z2_45 2)), (e 7, aI κ 52 (hd z2_45 3))]) [4, 0, 5, 6, 1, 2, 3, 7] rfl rfl ?_
      refine g_wide (k := cells + 5) (m := slots + 300) (by omega) (by omega) ?_
      exact l_rest3 hc hw2_48 hi (by omega) (by omega) (fun n2 w2 h => kk z2_45 n2 w2 h)
    · skip
      refine g_aload_n hc 1 rfl rfl dL_law_242 (n := 243) rfl ?_
      refine g_iload hc 11 rfl dL_law_243 (n := 245) rfl ?_
      refine g_iload hc 12 rfl dL_law_245 (n := 247) rfl ?_
      refine g_aload_n hc 2 rfl rfl dL_law_247 (n := 248) rfl ?_
      refine g_aload_n hc 3 rfl rfl dL_law_248 (n := 249) rfl ?_
      refine g_aload hc 4 rfl dL_law_249 (n := 251) rfl ?_
      refine g_callS (rest := []) (As := [.ref (a 0), .int x, .int y, .ref (e 0), .ref (e 1), .ref (e 2)]) (cells' := cells + 2) (slots' := slots + 104) hc (c_L_cards κ _ a q z n w x y (e 0) (e 1) (e 2) hw) q_L_cards k_ml_RL_132 rfl rfl (jn_p (wr := [(e 3, aI κ 12 (tt z)), (e 4, aI κ 52 (hd z 0)), (e 5, aI κ 52 (hd z 1)), (e 6, aI κ 52 (hd z 2)), (e 7, aI κ 52 (hd z 3))]) [0, 1, 2] [3, 4, 5, 6, 7] rfl rfl rfl rfl (by decide)) ⟨⟨by decide, by decide⟩, (show cells + 2 ≤ 600000 from by omega), (show slots + 104 ≤ 7302250 from by omega)⟩ (Nat.le_of_ble_eq_true rfl) rfl rfl dL_law_251 (n := 254) rfl (fun vv ww hp => ?_)
      obtain ⟨rr, rfl, z2_51, n2_52, w2_53, hw2_54, hkp_55, rfl, rfl⟩ := hp
      refine ⟨_, ⟨_, _, rfl, rfl⟩, ?_⟩
      refine g_ws (ws' := ([(e 3, aI κ 12 (tt z)), (e 4, aI κ 52 (hd z 0)), (e 5, aI κ 52 (hd z 1)), (e 6, aI κ 52 (hd z 2)), (e 7, aI κ 52 (hd z 3)), (e 0, aI κ 52 z2_51), (e 1, aI κ 52 (fun k => z2_51 (52 + k))), (e 2, aI κ 9 (fun k => z2_51 (324 + k)))] ++ w2_53)) rfl ?_
      refine g_st (st' := [.int (nI 1)]) rfl ?_
      refine g_arr (ws' := ([(e 3, aI κ 12 (tt z2_51)), (e 4, aI κ 52 (hd z 0)), (e 5, aI κ 52 (hd z 1)), (e 6, aI κ 52 (hd z 2)), (e 7, aI κ 52 (hd z 3)), (e 0, aI κ 52 z2_51), (e 1, aI κ 52 (fun k => z2_51 (52 + k))), (e 2, aI κ 9 (fun k => z2_51 (324 + k)))] ++ w2_53)) (f := tt z) (g := tt z2_51) 0 rfl (tt_c (fun j h1 h2 => hkp_55 j (by omega) (by omega))) rfl ?_
      refine g_arr (ws' := ([(e 3, aI κ 12 (tt z2_51)), (e 4, aI κ 52 (hd z2_51 0)), (e 5, aI κ 52 (hd z 1)), (e 6, aI κ 52 (hd z 2)), (e 7, aI κ 52 (hd z 3)), (e 0, aI κ 52 z2_51), (e 1, aI κ 52 (fun k => z2_51 (52 + k))), (e 2, aI κ 9 (fun k => z2_51 (324 + k)))] ++ w2_53)) (f := hd z 0) (g := hd z2_51 0) 1 rfl (fun k hk => (hkp_55 (104 + 52 * 0 + k) (by omega) (by omega)).symm) rfl ?_
      refine g_arr (ws' := ([(e 3, aI κ 12 (tt z2_51)), (e 4, aI κ 52 (hd z2_51 0)), (e 5, aI κ 52 (hd z2_51 1)), (e 6, aI κ 52 (hd z 2)), (e 7, aI κ 52 (hd z 3)), (e 0, aI κ 52 z2_51), (e 1, aI κ 52 (fun k => z2_51 (52 + k))), (e 2, aI κ 9 (fun k => z2_51 (324 + k)))] ++ w2_53)) (f := hd z 1) (g := hd z2_51 1) 2 rfl (fun k hk => (hkp_55 (104 + 52 * 1 + k) (by omega) (by omega)).symm) rfl ?_
      refine g_arr (ws' := ([(e 3, aI κ 12 (tt z2_51)), (e 4, aI κ 52 (hd z2_51 0)), (e 5, aI κ 52 (hd z2_51 1)), (e 6, aI κ 52 (hd z2_51 2)), (e 7, aI κ 52 (hd z 3)), (e 0, aI κ 52 z2_51), (e 1, aI κ 52 (fun k => z2_51 (52 + k))), (e 2, aI κ 9 (fun k => z2_51 (324 + k)))] ++ w2_53)) (f := hd z 2) (g := hd z2_51 2) 3 rfl (fun k hk => (hkp_55 (104 + 52 * 2 + k) (by omega) (by omega)).symm) rfl ?_
      refine g_arr (ws' := ([(e 3, aI κ 12 (tt z2_51)), (e 4, aI κ 52 (hd z2_51 0)), (e 5, aI κ 52 (hd z2_51 1)), (e 6, aI κ 52 (hd z2_51 2)), (e 7, aI κ 52 (hd z2_51 3)), (e 0, aI κ 52 z2_51), (e 1, aI κ 52 (fun k => z2_51 (52 + k))), (e 2, aI κ 9 (fun k => z2_51 (324 + k)))] ++ w2_53)) (f := hd z 3) (g := hd z2_51 3) 4 rfl (fun k hk => (hkp_55 (104 + 52 * 3 + k) (by omega) (by omega)).symm) rfl ?_
      refine g_goto (n := 272) hc dL_law_254 (by decide) ?_
      refine g_istore (lv2 := [(0, .ref (κ.2.2 3)), (1, .ref (a 0)), (2, .ref (e 0)), (3, .ref (e 1)), (4, .ref (e 2)), (5, .ref (e 3)), (6, .ref (e 4)), (7, .ref (e 5)), (8, .ref (e 6)), (9, .ref (e 7)), (10, .int (nI i)), (11, .int x), (12, .int y), (13, .int (nI 3)), (14, .ref (e 7)), (15, .int (nI 1))]) hc (by decide) [1, 2, 3, 4, 5, 6, 7, 8, 9, 10, 11, 12, 13, 14, 15, 0] rfl rfl dL_law_272 (n := 274) rfl ?_
      refine g_subq (X' := [(e 0, aI κ 52 z2_51), (e 1, aI κ 52 (fun k => z2_51 (52 + k))), (e 2, aI κ 9 (fun k => z2_51 (324 + k))), (e 3, aI κ 12 (tt z2_51)), (e 4, aI κ 52 (hd z2_51 0)), (e 5, aI κ 52 (hd z2_51 1)), (e 6, aI κ 52 (hd z2_51 2)), (e 7, aI κ 52 (hd z2_51 3))]) [5, 6, 7, 0, 1, 2, 3, 4] rfl rfl ?_
      refine g_wide (k := cells + 5) (m := slots + 300) (by omega) (by omega) ?_
      exact l_rest3 hc hw2_54 hi (by omega) (by omega) (fun n2 w2 h => kk z2_51 n2 w2 h)
set_option maxHeartbeats 1000000 in
set_option maxRecDepth 100000 in
theorem l_like (hc : Cx κ Γ A cL_law 16 RL nm ret room_1) (hw : Oc κ a q z n w) (h1 : cells ≤ 600000) (h2 : slots ≤ 7302250) (fin : ∀ (cells slots : Nat) (lv : List (Nat × Value)) (w : va_W), cells ≤ 600000 → slots ≤ 7302250 → G κ Γ A 16 cells slots Q w 551 lv [.int (nI 1)]) {v : Nat} (hv0 : lk z 0 = v) : G κ Γ A 16 cells slots Q (wL κ e z ++ w) 362 [(0, .ref (κ.2.2 3)), (1, .ref (a 0)), (2, .ref (e 0)), (3, .ref (e 1)), (4, .ref (e 2)), (5, .ref (e 3)), (6, .ref (e 4)), (7, .ref (e 5)), (8, .ref (e 6)), (9, .ref (e 7)), (10, .int (nI v))] [] := by
  obtain ⟨hzb, hzf, hzc, hpz, hzh, hk1, hk2, hzx⟩ := hw.zv
  have hh0 : ∀ k, k < 52 → hd z 0 k < 4 := fun k hk => hd_lt hzh (by decide) k hk
  have hh1 : ∀ k, k < 52 → hd z 1 k < 4 := fun k hk => hd_lt hzh (by decide) k hk
  refine g_iconst (v := nI 0) hc (by decide) dL_law_362 (n := 363) rfl ?_
  refine g_istore (lv2 := [(0, .ref (κ.2.2 3)), (1, .ref (a 0)), (2, .ref (e 0)), (3, .ref (e 1)), (4, .ref (e 2)), (5, .ref (e 3)), (6, .ref (e 4)), (7, .ref (e 5)), (8, .ref (e 6)), (9, .ref (e 7)), (10, .int (nI v)), (11, .int (nI 0))]) hc (by decide) [1, 2, 3, 4, 5, 6, 7, 8, 9, 10, 11, 0] rfl rfl dL_law_363 (n := 365) rfl ?_
  have L_1 : ∀ (fuel : Nat) (v : Nat) (k : Nat), (k ≤ 52) → (lk z k = v) → (v ≤ 1) → 52 - k < fuel → G κ Γ A 16 cells slots Q ([(e 0, aI κ 52 z), (e 1, aI κ 52 (fun k => z (52 + k))), (e 2, aI κ 9 (fun k => z (324 + k))), (e 3, aI κ 12 (tt z)), (e 4, aI κ 52 (hd z 0)), (e 5, aI κ 52 (hd z 1)), (e 6, aI κ 52 (hd z 2)), (e 7, aI κ 52 (hd z 3))] ++ w) 365 [(0, .ref (κ.2.2 3)), (1, .ref (a 0)), (2, .ref (e 0)), (3, .ref (e 1)), (4, .ref (e 2)), (5, .ref (e 3)), (6, .ref (e 4)), (7, .ref (e 5)), (8, .ref (e 6)), (9, .ref (e 7)), (10, .int (nI v)), (11, .int (nI k))] [] := by
    intro fuel
    induction fuel with
    | zero => intro v k hk hv hv1 h; exact absurd h (Nat.not_lt_zero _)
    | succ fuel ih_2 =>
      intro v k hk hv hv1 hn_3
      refine g_iload hc 11 rfl dL_law_365 (n := 367) rfl ?_
      refine g_bipush (v := nI 52) hc (by decide) dL_law_367 (n := 369) rfl ?_
      refine n_icmp_ge hc (by omega) (by omega) dL_law_369 (tgt := 403) (by decide) (n := 372) rfl (fun c_4 => ?_) (fun c_4 => ?_)
      · skip
        have e9 : k = 52 := by omega
        subst e9
        refine g_aload_n hc 1 rfl rfl dL_law_403 (n := 404) rfl ?_
        refine g_iconst (v := nI 0) hc (by decide) dL_law_404 (n := 405) rfl ?_
        refine g_aload hc 5 rfl dL_law_405 (n := 407) rfl ?_
        refine g_aload hc 6 rfl dL_law_407 (n := 409) rfl ?_
        refine g_callS (rest := []) (As := [.ref (a 0), .int (nI 0), .ref (e 3), .ref (e 4)]) (cells' := cells) (slots' := slots) hc (c_L_isBoard κ _ a q z n w (e 3) (e 4) 0 hw (by decide)) q_L_isBoard k_ml_RL_115 rfl rfl (jn_p (wr := [(e 0, aI κ 52 z), (e 1, aI κ 52 (fun k => z (52 + k))), (e 2, aI κ 9 (fun k => z (324 + k))), (e 5, aI κ 52 (hd z 1)), (e 6, aI κ 52 (hd z 2)), (e 7, aI κ 52 (hd z 3))]) [3, 4] [0, 1, 2, 5, 6, 7] rfl rfl rfl rfl (by decide)) ⟨⟨by decide, by decide⟩, (show cells + 0 ≤ 600000 from by omega), (show slots + 0 ≤ 7302250 from by omega)⟩ (Nat.le_of_ble_eq_true rfl) rfl rfl dL_law_409 (n := 412) rfl (fun vv ww hp => ?_)
        obtain ⟨rr, rfl, w2_5, hw2_6, rfl, rfl⟩ := hp
        refine ⟨_, ⟨_, _, rfl, rfl⟩, ?_⟩
        refine g_ws (ws' := ([(e 0, aI κ 52 z), (e 1, aI κ 52 (fun k => z (52 + k))), (e 2, aI κ 9 (fun k => z (324 + k))), (e 5, aI κ 52 (hd z 1)), (e 6, aI κ 52 (hd z 2)), (e 7, aI κ 52 (hd z 3)), (e 3, aI κ 12 (tt z)), (e 4, aI κ 52 (hd z 0))] ++ w2_5)) rfl ?_
        refine g_st (st' := [.int (nI 1)]) rfl ?_
        refine n_if_eq hc (by omega) dL_law_412 (tgt := 550) (by decide) (n := 415) rfl (fun c_7 => by (exfalso; revert c_7; first | omega | decide)) (fun c_7 => ?_)
        refine g_aload_n hc 1 rfl rfl dL_law_415 (n := 416) rfl ?_
        refine g_iconst (v := nI 1) hc (by decide) dL_law_416 (n := 417) rfl ?_
        refine g_aload hc 5 rfl dL_law_417 (n := 419) rfl ?_
        refine g_aload hc 7 rfl dL_law_419 (n := 421) rfl ?_
        refine g_callS (rest := []) (As := [.ref (a 0), .int (nI 1), .ref (e 3), .ref (e 5)]) (cells' := cells) (slots' := slots) hc (c_L_isBoard κ _ a q z n w2_5 (e 3) (e 5) 1 hw2_6 (by decide)) q_L_isBoard k_ml_RL_115 rfl rfl (jn_p (wr := [(e 0, aI κ 52 z), (e 1, aI κ 52 (fun k => z (52 + k))), (e 2, aI κ 9 (fun k => z (324 + k))), (e 6, aI κ 52 (hd z 2)), (e 7, aI κ 52 (hd z 3)), (e 4, aI κ 52 (hd z 0))]) [6, 3] [0, 1, 2, 4, 5, 7] rfl rfl rfl rfl (by decide)) ⟨⟨by decide, by decide⟩, (show cells + 0 ≤ 600000 from by omega), (show slots + 0 ≤ 7302250 from by omega)⟩ (Nat.le_of_ble_eq_true rfl) rfl rfl dL_law_421 (n := 424) rfl (fun vv ww hp => ?_)
        obtain ⟨rr, rfl, w2_8, hw2_9, rfl, rfl⟩ := hp
        refine ⟨_, ⟨_, _, rfl, rfl⟩, ?_⟩
        refine g_ws (ws' := ([(e 0, aI κ 52 z), (e 1, aI κ 52 (fun k => z (52 + k))), (e 2, aI κ 9 (fun k => z (324 + k))), (e 6, aI κ 52 (hd z 2)), (e 7, aI κ 52 (hd z 3)), (e 4, aI κ 52 (hd z 0)), (e 3, aI κ 12 (tt z)), (e 5, aI κ 52 (hd z 1))] ++ w2_8)) rfl ?_
        refine g_st (st' := [.int (nI 1)]) rfl ?_
        refine n_if_eq hc (by omega) dL_law_424 (tgt := 550) (by decide) (n := 427) rfl (fun c_10 => by (exfalso; revert c_10; first | omega | decide)) (fun c_10 => ?_)
        refine g_aload_n hc 1 rfl rfl dL_law_427 (n := 428) rfl ?_
        refine g_iconst (v := nI 2) hc (by decide) dL_law_428 (n := 429) rfl ?_
        refine g_aload hc 5 rfl dL_law_429 (n := 431) rfl ?_
        refine g_aload hc 8 rfl dL_law_431 (n := 433) rfl ?_
        refine g_callS (rest := []) (As := [.ref (a 0), .int (nI 2), .ref (e 3), .ref (e 6)]) (cells' := cells) (slots' := slots) hc (c_L_isBoard κ _ a q z n w2_8 (e 3) (e 6) 2 hw2_9 (by decide)) q_L_isBoard k_ml_RL_115 rfl rfl (jn_p (wr := [(e 0, aI κ 52 z), (e 1, aI κ 52 (fun k => z (52 + k))), (e 2, aI κ 9 (fun k => z (324 + k))), (e 7, aI κ 52 (hd z 3)), (e 4, aI κ 52 (hd z 0)), (e 5, aI κ 52 (hd z 1))]) [6, 3] [0, 1, 2, 4, 5, 7] rfl rfl rfl rfl (by decide)) ⟨⟨by decide, by decide⟩, (show cells + 0 ≤ 600000 from by omega), (show slots + 0 ≤ 7302250 from by omega)⟩ (Nat.le_of_ble_eq_true rfl) rfl rfl dL_law_433 (n := 436) rfl (fun vv ww hp => ?_)
        obtain ⟨rr, rfl, w2_11, hw2_12, rfl, rfl⟩ := hp
        refine ⟨_, ⟨_, _, rfl, rfl⟩, ?_⟩
        refine g_ws (ws' := ([(e 0, aI κ 52 z), (e 1, aI κ 52 (fun k => z (52 + k))), (e 2, aI κ 9 (fun k => z (324 + k))), (e 7, aI κ 52 (hd z 3)), (e 4, aI κ 52 (hd z 0)), (e 5, aI κ 52 (hd z 1)), (e 3, aI κ 12 (tt z)), (e 6, aI κ 52 (hd z 2))] ++ w2_11)) rfl ?_
        refine g_st (st' := [.int (nI 1)]) rfl ?_
        refine n_if_eq hc (by omega) dL_law_436 (tgt := 550) (by decide) (n := 439) rfl (fun c_13 => by (exfalso; revert c_13; first | omega | decide)) (fun c_13 => ?_)
        refine g_aload_n hc 1 rfl rfl dL_law_439 (n := 440) rfl ?_
        refine g_iconst (v := nI 3) hc (by decide) dL_law_440 (n := 441) rfl ?_
        refine g_aload hc 5 rfl dL_law_441 (n := 443) rfl ?_
        refine g_aload hc 9 rfl dL_law_443 (n := 445) rfl ?_
        refine g_callS (rest := []) (As := [.ref (a 0), .int (nI 3), .ref (e 3), .ref (e 7)]) (cells' := cells) (slots' := slots) hc (c_L_isBoard κ _ a q z n w2_11 (e 3) (e 7) 3 hw2_12 (by decide)) q_L_isBoard k_ml_RL_115 rfl rfl (jn_p (wr := [(e 0, aI κ 52 z), (e 1, aI κ 52 (fun k => z (52 + k))), (e 2, aI κ 9 (fun k => z (324 + k))), (e 4, aI κ 52 (hd z 0)), (e 5, aI κ 52 (hd z 1)), (e 6, aI κ 52 (hd z 2))]) [6, 3] [0, 1, 2, 4, 5, 7] rfl rfl rfl rfl (by decide)) ⟨⟨by decide, by decide⟩, (show cells + 0 ≤ 600000 from by omega), (show slots + 0 ≤ 7302250 from by omega)⟩ (Nat.le_of_ble_eq_true rfl) rfl rfl dL_law_445 (n := 448) rfl (fun vv ww hp => ?_)
        obtain ⟨rr, rfl, w2_14, hw2_15, rfl, rfl⟩ := hp
        refine ⟨_, ⟨_, _, rfl, rfl⟩, ?_⟩
        refine g_ws (ws' := ([(e 0, aI κ 52 z), (e 1, aI κ 52 (fun k => z (52 + k))), (e 2, aI κ 9 (fun k => z (324 + k))), (e 4, aI κ 52 (hd z 0)), (e 5, aI κ 52 (hd z 1)), (e 6, aI κ 52 (hd z 2)), (e 3, aI κ 12 (tt z)), (e 7, aI κ 52 (hd z 3))] ++ w2_14)) rfl ?_
        refine g_st (st' := [.int (nI 1)]) rfl ?_
        refine n_if_eq hc (by omega) dL_law_448 (tgt := 550) (by decide) (n := 451) rfl (fun c_16 => by (exfalso; revert c_16; first | omega | decide)) (fun c_16 => ?_)
        have hz0 : z 312 ≤ 1 := hzf 0 (by decide)
        have hz1 : z 313 ≤ 1 := hzf 1 (by decide)
        by_cases hb : z 312 = 1 ∧ z 313 = 1
        · obtain ⟨hb0, hb1⟩ := hb
          have hal := lk_al hb0 hb1
          rw [hv] at hal
          rcases (show v = 0 ∨ v = 1 by omega) with rfl | rfl
          · skip
            refine g_aload_n hc 1 rfl rfl dL_law_451 (n := 452) rfl ?_
            refine g_iconst (v := nI 0) hc (by decide) dL_law_452 (n := 453) rfl ?_
            refine g_iconst (v := nI 1) hc (by decide) dL_law_453 (n := 454) rfl ?_
            refine g_cls (As := [.int (nI 0), .int (nI 1)]) (rest := []) hc (s_alike_ok hw2_15 0 1 (by decide) (by decide) hb0 hb1) q_X4_alike k_ml_RL_49 rfl rfl (Oc.rc hw2_15) vw_4 ⟨⟨Nat.le_of_ble_eq_true rfl, Nat.le_of_ble_eq_true rfl⟩, (show _ ≤ 600000 from by omega), (show _ ≤ 7302250 from by omega)⟩ (Nat.le_of_ble_eq_true rfl) dL_law_454 (n := 457) rfl (fun w_17 hw_18 => ?_)
            refine g_top (y := nI 0) (congrArg nI (hal.symm)) ?_
            refine g_aload hc 5 rfl dL_law_457 (n := 459) rfl ?_
            refine g_iconst (v := nI 0) hc (by decide) dL_law_459 (n := 460) rfl ?_
            refine n_iald (v := z 312) hc 6 rfl (by omega) (by decide) rfl dL_law_460 (n := 461) rfl ?_
            refine n_if_eq hc (by omega) dL_law_461 (tgt := 471) (by decide) (n := 464) rfl (fun c_19 => ?_) (fun c_19 => ?_)
            · skip
              exfalso; omega
            · skip
              refine g_aload hc 5 rfl dL_law_464 (n := 466) rfl ?_
              refine g_iconst (v := nI 3) hc (by decide) dL_law_466 (n := 467) rfl ?_
              refine n_iald (v := z 313) hc 6 rfl (by omega) (by decide) rfl dL_law_467 (n := 468) rfl ?_
              refine n_if_ne hc (by omega) dL_law_468 (tgt := 476) (by decide) (n := 471) rfl (fun c_20 => ?_) (fun c_20 => ?_)
              · skip
                refine g_iload hc 10 rfl dL_law_476 (n := 478) rfl ?_
                refine n_if_eq hc (by omega) dL_law_478 (tgt := 485) (by decide) (n := 481) rfl (fun c_21 => ?_) (fun c_21 => by (exfalso; revert c_21; first | omega | decide))
                refine g_iconst (v := nI 0) hc (by decide) dL_law_485 (n := 486) rfl ?_
                refine g_icmp_ne hc dL_law_486 (tgt := 550) (by decide) (n := 489) rfl (fun e => absurd rfl e) (fun _ => ?_)
                refine g_aload_n hc 1 rfl rfl dL_law_489 (n := 490) rfl ?_
                refine g_iconst (v := nI 0) hc (by decide) dL_law_490 (n := 491) rfl ?_
                refine g_iconst (v := nI 4) hc (by decide) dL_law_491 (n := 492) rfl ?_
                refine g_cls (As := [.int (nI 0), .int (nI 4)]) (rest := []) hc (s_alike_er3 hw_18 0 (nI 4) (by decide) (by decide)) q_X4_alike k_ml_RL_49 rfl rfl (Oc.rc hw_18) vw_4 ⟨⟨Nat.le_of_ble_eq_true rfl, Nat.le_of_ble_eq_true rfl⟩, (show _ ≤ 600000 from by omega), (show _ ≤ 7302250 from by omega)⟩ (Nat.le_of_ble_eq_true rfl) dL_law_492 (n := 495) rfl (fun w_22 hw_23 => ?_)
                refine g_iconst (v := nI 4294967295) hc (by decide) dL_law_495 (n := 496) rfl ?_
                refine g_icmp_ne hc dL_law_496 (tgt := 550) (by decide) (n := 499) rfl (fun e => absurd rfl e) (fun _ => ?_)
                refine g_aload_n hc 1 rfl rfl dL_law_499 (n := 500) rfl ?_
                refine g_bipush (v := nI 14) hc (by decide) dL_law_500 (n := 502) rfl ?_
                refine g_cls (As := [.int (nI 14)]) (rest := []) hc (s_count_er hw_23 (nI 14) (by decide)) q_X4_count k_ml_RL_63 rfl rfl (Oc.rc hw_23) vw_4 ⟨⟨Nat.le_of_ble_eq_true rfl, Nat.le_of_ble_eq_true rfl⟩, (show _ ≤ 600000 from by omega), (show _ ≤ 7302250 from by omega)⟩ (Nat.le_of_ble_eq_true rfl) dL_law_502 (n := 505) rfl (fun w_24 hw_25 => ?_)
                refine g_bipush (v := nI 4294967294) hc (by decide) dL_law_505 (n := 507) rfl ?_
                refine g_icmp_ne hc dL_law_507 (tgt := 550) (by decide) (n := 510) rfl (fun e => absurd rfl e) (fun _ => ?_)
                refine g_aload_n hc 1 rfl rfl dL_law_510 (n := 511) rfl ?_
                refine g_iconst (v := nI 0) hc (by decide) dL_law_511 (n := 512) rfl ?_
                refine g_iconst (v := nI 4) hc (by decide) dL_law_512 (n := 513) rfl ?_
                refine g_bipush (v := nI 9) hc (by decide) dL_law_513 (n := 515) rfl ?_
                refine g_cls (As := [.int (nI 0), .int (nI 4), .int (nI 9)]) (rest := []) hc (s_hand_er2 hw_25 0 (nI 4) (nI 9) (by decide) (by decide)) q_X4_hand k_ml_RL_33 rfl rfl (Oc.rc hw_25) vw_4 ⟨⟨Nat.le_of_ble_eq_true rfl, Nat.le_of_ble_eq_true rfl⟩, (show _ ≤ 600000 from by omega), (show _ ≤ 7302250 from by omega)⟩ (Nat.le_of_ble_eq_true rfl) dL_law_515 (n := 518) rfl (fun w_26 hw_27 => ?_)
                refine g_iconst (v := nI 4294967295) hc (by decide) dL_law_518 (n := 519) rfl ?_
                refine g_icmp_ne hc dL_law_519 (tgt := 550) (by decide) (n := 522) rfl (fun e => absurd rfl e) (fun _ => ?_)
                refine g_aload_n hc 1 rfl rfl dL_law_522 (n := 523) rfl ?_
                refine g_iconst (v := nI 0) hc (by decide) dL_law_523 (n := 524) rfl ?_
                refine g_iconst (v := nI 0) hc (by decide) dL_law_524 (n := 525) rfl ?_
                refine g_bipush (v := nI 7) hc (by decide) dL_law_525 (n := 527) rfl ?_
                refine g_cls (As := [.int (nI 0), .int (nI 0), .int (nI 7)]) (rest := []) hc (s_hand_er3 hw_27 0 0 (nI 7) (by decide) (by decide) (by decide)) q_X4_hand k_ml_RL_33 rfl rfl (Oc.rc hw_27) vw_4 ⟨⟨Nat.le_of_ble_eq_true rfl, Nat.le_of_ble_eq_true rfl⟩, (show _ ≤ 600000 from by omega), (show _ ≤ 7302250 from by omega)⟩ (Nat.le_of_ble_eq_true rfl) dL_law_527 (n := 530) rfl (fun w_28 hw_29 => ?_)
                refine g_bipush (v := nI 4294967294) hc (by decide) dL_law_530 (n := 532) rfl ?_
                refine g_icmp_ne hc dL_law_532 (tgt := 550) (by decide) (n := 535) rfl (fun e => absurd rfl e) (fun _ => ?_)
                refine g_aload_n hc 1 rfl rfl dL_law_535 (n := 536) rfl ?_
                refine g_iconst (v := nI 0) hc (by decide) dL_law_536 (n := 537) rfl ?_
                refine g_bipush (v := nI 52) hc (by decide) dL_law_537 (n := 539) rfl ?_
                refine g_cls (As := [.int (nI 0), .int (nI 52)]) (rest := []) hc (s_holder_er2 hw_29 0 (nI 52) (by decide) (by decide)) q_X4_holder k_ml_RL_46 rfl rfl (Oc.rc hw_29) vw_4 ⟨⟨Nat.le_of_ble_eq_true rfl, Nat.le_of_ble_eq_true rfl⟩, (show _ ≤ 600000 from by omega), (show _ ≤ 7302250 from by omega)⟩ (Nat.le_of_ble_eq_true rfl) dL_law_539 (n := 542) rfl (fun w_30 hw_31 => ?_)
                refine g_iconst (v := nI 4294967295) hc (by decide) dL_law_542 (n := 543) rfl ?_
                refine g_icmp_ne hc dL_law_543 (tgt := 550) (by decide) (n := 546) rfl (fun e => absurd rfl e) (fun _ => ?_)
                refine g_iconst (v := nI 1) hc (by decide) dL_law_546 (n := 547) rfl ?_
                refine g_goto (n := 551) hc dL_law_547 (by decide) ?_
                exact fin _ _ _ _ h1 h2
              · skip
                exfalso; omega
          · skip
            refine g_aload_n hc 1 rfl rfl dL_law_451 (n := 452) rfl ?_
            refine g_iconst (v := nI 0) hc (by decide) dL_law_452 (n := 453) rfl ?_
            refine g_iconst (v := nI 1) hc (by decide) dL_law_453 (n := 454) rfl ?_
            refine g_cls (As := [.int (nI 0), .int (nI 1)]) (rest := []) hc (s_alike_ok hw2_15 0 1 (by decide) (by decide) hb0 hb1) q_X4_alike k_ml_RL_49 rfl rfl (Oc.rc hw2_15) vw_4 ⟨⟨Nat.le_of_ble_eq_true rfl, Nat.le_of_ble_eq_true rfl⟩, (show _ ≤ 600000 from by omega), (show _ ≤ 7302250 from by omega)⟩ (Nat.le_of_ble_eq_true rfl) dL_law_454 (n := 457) rfl (fun w_32 hw_33 => ?_)
            refine g_top (y := nI 1) (congrArg nI (hal.symm)) ?_
            refine g_aload hc 5 rfl dL_law_457 (n := 459) rfl ?_
            refine g_iconst (v := nI 0) hc (by decide) dL_law_459 (n := 460) rfl ?_
            refine n_iald (v := z 312) hc 6 rfl (by omega) (by decide) rfl dL_law_460 (n := 461) rfl ?_
            refine n_if_eq hc (by omega) dL_law_461 (tgt := 471) (by decide) (n := 464) rfl (fun c_34 => ?_) (fun c_34 => ?_)
            · skip
              exfalso; omega
            · skip
              refine g_aload hc 5 rfl dL_law_464 (n := 466) rfl ?_
              refine g_iconst (v := nI 3) hc (by decide) dL_law_466 (n := 467) rfl ?_
              refine n_iald (v := z 313) hc 6 rfl (by omega) (by decide) rfl dL_law_467 (n := 468) rfl ?_
              refine n_if_ne hc (by omega) dL_law_468 (tgt := 476) (by decide) (n := 471) rfl (fun c_35 => ?_) (fun c_35 => ?_)
              · skip
                refine g_iload hc 10 rfl dL_law_476 (n := 478) rfl ?_
                refine n_if_eq hc (by omega) dL_law_478 (tgt := 485) (by decide) (n := 481) rfl (fun c_36 => by (exfalso; revert c_36; first | omega | decide)) (fun c_36 => ?_)
                refine g_iconst (v := nI 1) hc (by decide) dL_law_481 (n := 482) rfl ?_
                refine g_goto (n := 486) hc dL_law_482 (by decide) ?_
                refine g_icmp_ne hc dL_law_486 (tgt := 550) (by decide) (n := 489) rfl (fun e => absurd rfl e) (fun _ => ?_)
                refine g_aload_n hc 1 rfl rfl dL_law_489 (n := 490) rfl ?_
                refine g_iconst (v := nI 0) hc (by decide) dL_law_490 (n := 491) rfl ?_
                refine g_iconst (v := nI 4) hc (by decide) dL_law_491 (n := 492) rfl ?_
                refine g_cls (As := [.int (nI 0), .int (nI 4)]) (rest := []) hc (s_alike_er3 hw_33 0 (nI 4) (by decide) (by decide)) q_X4_alike k_ml_RL_49 rfl rfl (Oc.rc hw_33) vw_4 ⟨⟨Nat.le_of_ble_eq_true rfl, Nat.le_of_ble_eq_true rfl⟩, (show _ ≤ 600000 from by omega), (show _ ≤ 7302250 from by omega)⟩ (Nat.le_of_ble_eq_true rfl) dL_law_492 (n := 495) rfl (fun w_37 hw_38 => ?_)
                refine g_iconst (v := nI 4294967295) hc (by decide) dL_law_495 (n := 496) rfl ?_
                refine g_icmp_ne hc dL_law_496 (tgt := 550) (by decide) (n := 499) rfl (fun e => absurd rfl e) (fun _ => ?_)
                refine g_aload_n hc 1 rfl rfl dL_law_499 (n := 500) rfl ?_
                refine g_bipush (v := nI 14) hc (by decide) dL_law_500 (n := 502) rfl ?_
                refine g_cls (As := [.int (nI 14)]) (rest := []) hc (s_count_er hw_38 (nI 14) (by decide)) q_X4_count k_ml_RL_63 rfl rfl (Oc.rc hw_38) vw_4 ⟨⟨Nat.le_of_ble_eq_true rfl, Nat.le_of_ble_eq_true rfl⟩, (show _ ≤ 600000 from by omega), (show _ ≤ 7302250 from by omega)⟩ (Nat.le_of_ble_eq_true rfl) dL_law_502 (n := 505) rfl (fun w_39 hw_40 => ?_)
                refine g_bipush (v := nI 4294967294) hc (by decide) dL_law_505 (n := 507) rfl ?_
                refine g_icmp_ne hc dL_law_507 (tgt := 550) (by decide) (n := 510) rfl (fun e => absurd rfl e) (fun _ => ?_)
                refine g_aload_n hc 1 rfl rfl dL_law_510 (n := 511) rfl ?_
                refine g_iconst (v := nI 0) hc (by decide) dL_law_511 (n := 512) rfl ?_
                refine g_iconst (v := nI 4) hc (by decide) dL_law_512 (n := 513) rfl ?_
                refine g_bipush (v := nI 9) hc (by decide) dL_law_513 (n := 515) rfl ?_
                refine g_cls (As := [.int (nI 0), .int (nI 4), .int (nI 9)]) (rest := []) hc (s_hand_er2 hw_40 0 (nI 4) (nI 9) (by decide) (by decide)) q_X4_hand k_ml_RL_33 rfl rfl (Oc.rc hw_40) vw_4 ⟨⟨Nat.le_of_ble_eq_true rfl, Nat.le_of_ble_eq_true rfl⟩, (show _ ≤ 600000 from by omega), (show _ ≤ 7302250 from by omega)⟩ (Nat.le_of_ble_eq_true rfl) dL_law_515 (n := 518) rfl (fun w_41 hw_42 => ?_)
                refine g_iconst (v := nI 4294967295) hc (by decide) dL_law_518 (n := 519) rfl ?_
                refine g_icmp_ne hc dL_law_519 (tgt := 550) (by decide) (n := 522) rfl (fun e => absurd rfl e) (fun _ => ?_)
                refine g_aload_n hc 1 rfl rfl dL_law_522 (n := 523) rfl ?_
                refine g_iconst (v := nI 0) hc (by decide) dL_law_523 (n := 524) rfl ?_
                refine g_iconst (v := nI 0) hc (by decide) dL_law_524 (n := 525) rfl ?_
                refine g_bipush (v := nI 7) hc (by decide) dL_law_525 (n := 527) rfl ?_
                refine g_cls (As := [.int (nI 0), .int (nI 0), .int (nI 7)]) (rest := []) hc (s_hand_er3 hw_42 0 0 (nI 7) (by decide) (by decide) (by decide)) q_X4_hand k_ml_RL_33 rfl rfl (Oc.rc hw_42) vw_4 ⟨⟨Nat.le_of_ble_eq_true rfl, Nat.le_of_ble_eq_true rfl⟩, (show _ ≤ 600000 from by omega), (show _ ≤ 7302250 from by omega)⟩ (Nat.le_of_ble_eq_true rfl) dL_law_527 (n := 530) rfl (fun w_43 hw_44 => ?_)
                refine g_bipush (v := nI 4294967294) hc (by decide) dL_law_530 (n := 532) rfl ?_
                refine g_icmp_ne hc dL_law_532 (tgt := 550) (by decide) (n := 535) rfl (fun e => absurd rfl e) (fun _ => ?_)
                refine g_aload_n hc 1 rfl rfl dL_law_535 (n := 536) rfl ?_
                refine g_iconst (v := nI 0) hc (by decide) dL_law_536 (n := 537) rfl ?_
                refine g_bipush (v := nI 52) hc (by decide) dL_law_537 (n := 539) rfl ?_
                refine g_cls (As := [.int (nI 0), .int (nI 52)]) (rest := []) hc (s_holder_er2 hw_44 0 (nI 52) (by decide) (by decide)) q_X4_holder k_ml_RL_46 rfl rfl (Oc.rc hw_44) vw_4 ⟨⟨Nat.le_of_ble_eq_true rfl, Nat.le_of_ble_eq_true rfl⟩, (show _ ≤ 600000 from by omega), (show _ ≤ 7302250 from by omega)⟩ (Nat.le_of_ble_eq_true rfl) dL_law_539 (n := 542) rfl (fun w_45 hw_46 => ?_)
                refine g_iconst (v := nI 4294967295) hc (by decide) dL_law_542 (n := 543) rfl ?_
                refine g_icmp_ne hc dL_law_543 (tgt := 550) (by decide) (n := 546) rfl (fun e => absurd rfl e) (fun _ => ?_)
                refine g_iconst (v := nI 1) hc (by decide) dL_law_546 (n := 547) rfl ?_
                refine g_goto (n := 551) hc dL_law_547 (by decide) ?_
                exact fin _ _ _ _ h1 h2
              · skip
                exfalso; omega
        · skip
          refine g_aload_n hc 1 rfl rfl dL_law_451 (n := 452) rfl ?_
          refine g_iconst (v := nI 0) hc (by decide) dL_law_452 (n := 453) rfl ?_
          refine g_iconst (v := nI 1) hc (by decide) dL_law_453 (n := 454) rfl ?_
          refine g_cls (As := [.int (nI 0), .int (nI 1)]) (rest := []) hc (s_alike_no hw2_15 0 1 (by decide) (by decide) (show z 312 = 0 ∨ z 313 = 0 by omega) hzf) q_X4_alike k_ml_RL_49 rfl rfl (Oc.rc hw2_15) vw_4 ⟨⟨Nat.le_of_ble_eq_true rfl, Nat.le_of_ble_eq_true rfl⟩, (show _ ≤ 600000 from by omega), (show _ ≤ 7302250 from by omega)⟩ (Nat.le_of_ble_eq_true rfl) dL_law_454 (n := 457) rfl (fun w_47 hw_48 => ?_)
          refine g_aload hc 5 rfl dL_law_457 (n := 459) rfl ?_
          refine g_iconst (v := nI 0) hc (by decide) dL_law_459 (n := 460) rfl ?_
          refine n_iald (v := z 312) hc 6 rfl (by omega) (by decide) rfl dL_law_460 (n := 461) rfl ?_
          refine n_if_eq hc (by omega) dL_law_461 (tgt := 471) (by decide) (n := 464) rfl (fun c_49 => ?_) (fun c_49 => ?_)
          · skip
            refine g_bipush (v := nI 4294967290) hc (by decide) dL_law_471 (n := 473) rfl ?_
            refine g_goto (n := 486) hc dL_law_473 (by decide) ?_
            refine g_icmp_ne hc dL_law_486 (tgt := 550) (by decide) (n := 489) rfl (fun e => absurd rfl e) (fun _ => ?_)
            refine g_aload_n hc 1 rfl rfl dL_law_489 (n := 490) rfl ?_
            refine g_iconst (v := nI 0) hc (by decide) dL_law_490 (n := 491) rfl ?_
            refine g_iconst (v := nI 4) hc (by decide) dL_law_491 (n := 492) rfl ?_
            refine g_cls (As := [.int (nI 0), .int (nI 4)]) (rest := []) hc (s_alike_er3 hw_48 0 (nI 4) (by decide) (by decide)) q_X4_alike k_ml_RL_49 rfl rfl (Oc.rc hw_48) vw_4 ⟨⟨Nat.le_of_ble_eq_true rfl, Nat.le_of_ble_eq_true rfl⟩, (show _ ≤ 600000 from by omega), (show _ ≤ 7302250 from by omega)⟩ (Nat.le_of_ble_eq_true rfl) dL_law_492 (n := 495) rfl (fun w_50 hw_51 => ?_)
            refine g_iconst (v := nI 4294967295) hc (by decide) dL_law_495 (n := 496) rfl ?_
            refine g_icmp_ne hc dL_law_496 (tgt := 550) (by decide) (n := 499) rfl (fun e => absurd rfl e) (fun _ => ?_)
            refine g_aload_n hc 1 rfl rfl dL_law_499 (n := 500) rfl ?_
            refine g_bipush (v := nI 14) hc (by decide) dL_law_500 (n := 502) rfl ?_
            refine g_cls (As := [.int (nI 14)]) (rest := []) hc (s_count_er hw_51 (nI 14) (by decide)) q_X4_count k_ml_RL_63 rfl rfl (Oc.rc hw_51) vw_4 ⟨⟨Nat.le_of_ble_eq_true rfl, Nat.le_of_ble_eq_true rfl⟩, (show _ ≤ 600000 from by omega), (show _ ≤ 7302250 from by omega)⟩ (Nat.le_of_ble_eq_true rfl) dL_law_502 (n := 505) rfl (fun w_52 hw_53 => ?_)
            refine g_bipush (v := nI 4294967294) hc (by decide) dL_law_505 (n := 507) rfl ?_
            refine g_icmp_ne hc dL_law_507 (tgt := 550) (by decide) (n := 510) rfl (fun e => absurd rfl e) (fun _ => ?_)
            refine g_aload_n hc 1 rfl rfl dL_law_510 (n := 511) rfl ?_
            refine g_iconst (v := nI 0) hc (by decide) dL_law_511 (n := 512) rfl ?_
            refine g_iconst (v := nI 4) hc (by decide) dL_law_512 (n := 513) rfl ?_
            refine g_bipush (v := nI 9) hc (by decide) dL_law_513 (n := 515) rfl ?_
            refine g_cls (As := [.int (nI 0), .int (nI 4), .int (nI 9)]) (rest := []) hc (s_hand_er2 hw_53 0 (nI 4) (nI 9) (by decide) (by decide)) q_X4_hand k_ml_RL_33 rfl rfl (Oc.rc hw_53) vw_4 ⟨⟨Nat.le_of_ble_eq_true rfl, Nat.le_of_ble_eq_true rfl⟩, (show _ ≤ 600000 from by omega), (show _ ≤ 7302250 from by omega)⟩ (Nat.le_of_ble_eq_true rfl) dL_law_515 (n := 518) rfl (fun w_54 hw_55 => ?_)
            refine g_iconst (v := nI 4294967295) hc (by decide) dL_law_518 (n := 519) rfl ?_
            refine g_icmp_ne hc dL_law_519 (tgt := 550) (by decide) (n := 522) rfl (fun e => absurd rfl e) (fun _ => ?_)
            refine g_aload_n hc 1 rfl rfl dL_law_522 (n := 523) rfl ?_
            refine g_iconst (v := nI 0) hc (by decide) dL_law_523 (n := 524) rfl ?_
            refine g_iconst (v := nI 0) hc (by decide) dL_law_524 (n := 525) rfl ?_
            refine g_bipush (v := nI 7) hc (by decide) dL_law_525 (n := 527) rfl ?_
            refine g_cls (As := [.int (nI 0), .int (nI 0), .int (nI 7)]) (rest := []) hc (s_hand_er3 hw_55 0 0 (nI 7) (by decide) (by decide) (by decide)) q_X4_hand k_ml_RL_33 rfl rfl (Oc.rc hw_55) vw_4 ⟨⟨Nat.le_of_ble_eq_true rfl, Nat.le_of_ble_eq_true rfl⟩, (show _ ≤ 600000 from by omega), (show _ ≤ 7302250 from by omega)⟩ (Nat.le_of_ble_eq_true rfl) dL_law_527 (n := 530) rfl (fun w_56 hw_57 => ?_)
            refine g_bipush (v := nI 4294967294) hc (by decide) dL_law_530 (n := 532) rfl ?_
            refine g_icmp_ne hc dL_law_532 (tgt := 550) (by decide) (n := 535) rfl (fun e => absurd rfl e) (fun _ => ?_)
            refine g_aload_n hc 1 rfl rfl dL_law_535 (n := 536) rfl ?_
            refine g_iconst (v := nI 0) hc (by decide) dL_law_536 (n := 537) rfl ?_
            refine g_bipush (v := nI 52) hc (by decide) dL_law_537 (n := 539) rfl ?_
            refine g_cls (As := [.int (nI 0), .int (nI 52)]) (rest := []) hc (s_holder_er2 hw_57 0 (nI 52) (by decide) (by decide)) q_X4_holder k_ml_RL_46 rfl rfl (Oc.rc hw_57) vw_4 ⟨⟨Nat.le_of_ble_eq_true rfl, Nat.le_of_ble_eq_true rfl⟩, (show _ ≤ 600000 from by omega), (show _ ≤ 7302250 from by omega)⟩ (Nat.le_of_ble_eq_true rfl) dL_law_539 (n := 542) rfl (fun w_58 hw_59 => ?_)
            refine g_iconst (v := nI 4294967295) hc (by decide) dL_law_542 (n := 543) rfl ?_
            refine g_icmp_ne hc dL_law_543 (tgt := 550) (by decide) (n := 546) rfl (fun e => absurd rfl e) (fun _ => ?_)
            refine g_iconst (v := nI 1) hc (by decide) dL_law_546 (n := 547) rfl ?_
            refine g_goto (n := 551) hc dL_law_547 (by decide) ?_
            exact fin _ _ _ _ h1 h2
          · skip
            refine g_aload hc 5 rfl dL_law_464 (n := 466) rfl ?_
            refine g_iconst (v := nI 3) hc (by decide) dL_law_466 (n := 467) rfl ?_
            refine n_iald (v := z 313) hc 6 rfl (by omega) (by decide) rfl dL_law_467 (n := 468) rfl ?_
            refine n_if_ne hc (by omega) dL_law_468 (tgt := 476) (by decide) (n := 471) rfl (fun c_60 => ?_) (fun c_60 => ?_)
            · skip
              exfalso; omega
            · skip
              refine g_bipush (v := nI 4294967290) hc (by decide) dL_law_471 (n := 473) rfl ?_
              refine g_goto (n := 486) hc dL_law_473 (by decide) ?_
              refine g_icmp_ne hc dL_law_486 (tgt := 550) (by decide) (n := 489) rfl (fun e => absurd rfl e) (fun _ => ?_)
              refine g_aload_n hc 1 rfl rfl dL_law_489 (n := 490) rfl ?_
              refine g_iconst (v := nI 0) hc (by decide) dL_law_490 (n := 491) rfl ?_
              refine g_iconst (v := nI 4) hc (by decide) dL_law_491 (n := 492) rfl ?_
              refine g_cls (As := [.int (nI 0), .int (nI 4)]) (rest := []) hc (s_alike_er3 hw_48 0 (nI 4) (by decide) (by decide)) q_X4_alike k_ml_RL_49 rfl rfl (Oc.rc hw_48) vw_4 ⟨⟨Nat.le_of_ble_eq_true rfl, Nat.le_of_ble_eq_true rfl⟩, (show _ ≤ 600000 from by omega), (show _ ≤ 7302250 from by omega)⟩ (Nat.le_of_ble_eq_true rfl) dL_law_492 (n := 495) rfl (fun w_61 hw_62 => ?_)
              refine g_iconst (v := nI 4294967295) hc (by decide) dL_law_495 (n := 496) rfl ?_
              refine g_icmp_ne hc dL_law_496 (tgt := 550) (by decide) (n := 499) rfl (fun e => absurd rfl e) (fun _ => ?_)
              refine g_aload_n hc 1 rfl rfl dL_law_499 (n := 500) rfl ?_
              refine g_bipush (v := nI 14) hc (by decide) dL_law_500 (n := 502) rfl ?_
              refine g_cls (As := [.int (nI 14)]) (rest := []) hc (s_count_er hw_62 (nI 14) (by decide)) q_X4_count k_ml_RL_63 rfl rfl (Oc.rc hw_62) vw_4 ⟨⟨Nat.le_of_ble_eq_true rfl, Nat.le_of_ble_eq_true rfl⟩, (show _ ≤ 600000 from by omega), (show _ ≤ 7302250 from by omega)⟩ (Nat.le_of_ble_eq_true rfl) dL_law_502 (n := 505) rfl (fun w_63 hw_64 => ?_)
              refine g_bipush (v := nI 4294967294) hc (by decide) dL_law_505 (n := 507) rfl ?_
              refine g_icmp_ne hc dL_law_507 (tgt := 550) (by decide) (n := 510) rfl (fun e => absurd rfl e) (fun _ => ?_)
              refine g_aload_n hc 1 rfl rfl dL_law_510 (n := 511) rfl ?_
              refine g_iconst (v := nI 0) hc (by decide) dL_law_511 (n := 512) rfl ?_
              refine g_iconst (v := nI 4) hc (by decide) dL_law_512 (n := 513) rfl ?_
              refine g_bipush (v := nI 9) hc (by decide) dL_law_513 (n := 515) rfl ?_
              refine g_cls (As := [.int (nI 0), .int (nI 4), .int (nI 9)]) (rest := []) hc (s_hand_er2 hw_64 0 (nI 4) (nI 9) (by decide) (by decide)) q_X4_hand k_ml_RL_33 rfl rfl (Oc.rc hw_64) vw_4 ⟨⟨Nat.le_of_ble_eq_true rfl, Nat.le_of_ble_eq_true rfl⟩, (show _ ≤ 600000 from by omega), (show _ ≤ 7302250 from by omega)⟩ (Nat.le_of_ble_eq_true rfl) dL_law_515 (n := 518) rfl (fun w_65 hw_66 => ?_)
              refine g_iconst (v := nI 4294967295) hc (by decide) dL_law_518 (n := 519) rfl ?_
              refine g_icmp_ne hc dL_law_519 (tgt := 550) (by decide) (n := 522) rfl (fun e => absurd rfl e) (fun _ => ?_)
              refine g_aload_n hc 1 rfl rfl dL_law_522 (n := 523) rfl ?_
              refine g_iconst (v := nI 0) hc (by decide) dL_law_523 (n := 524) rfl ?_
              refine g_iconst (v := nI 0) hc (by decide) dL_law_524 (n := 525) rfl ?_
              refine g_bipush (v := nI 7) hc (by decide) dL_law_525 (n := 527) rfl ?_
              refine g_cls (As := [.int (nI 0), .int (nI 0), .int (nI 7)]) (rest := []) hc (s_hand_er3 hw_66 0 0 (nI 7) (by decide) (by decide) (by decide)) q_X4_hand k_ml_RL_33 rfl rfl (Oc.rc hw_66) vw_4 ⟨⟨Nat.le_of_ble_eq_true rfl, Nat.le_of_ble_eq_true rfl⟩, (show _ ≤ 600000 from by omega), (show _ ≤ 7302250 from by omega)⟩ (Nat.le_of_ble_eq_true rfl) dL_law_527 (n := 530) rfl (fun w_67 hw_68 => ?_)
              refine g_bipush (v := nI 4294967294) hc (by decide) dL_law_530 (n := 532) rfl ?_
              refine g_icmp_ne hc dL_law_532 (tgt := 550) (by decide) (n := 535) rfl (fun e => absurd rfl e) (fun _ => ?_)
              refine g_aload_n hc 1 rfl rfl dL_law_535 (n := 536) rfl ?_
              refine g_iconst (v := nI 0) hc (by decide) dL_law_536 (n := 537) rfl ?_
              refine g_bipush (v := nI 52) hc (by decide) dL_law_537 (n := 539) rfl ?_
              refine g_cls (As := [.int (nI 0), .int (nI 52)]) (rest := []) hc (s_holder_er2 hw_68 0 (nI 52) (by decide) (by decide)) q_X4_holder k_ml_RL_46 rfl rfl (Oc.rc hw_68) vw_4 ⟨⟨Nat.le_of_ble_eq_true rfl, Nat.le_of_ble_eq_true rfl⟩, (show _ ≤ 600000 from by omega), (show _ ≤ 7302250 from by omega)⟩ (Nat.le_of_ble_eq_true rfl) dL_law_539 (n := 542) rfl (fun w_69 hw_70 => ?_)
              refine g_iconst (v := nI 4294967295) hc (by decide) dL_law_542 (n := 543) rfl ?_
              refine g_icmp_ne hc dL_law_543 (tgt := 550) (by decide) (n := 546) rfl (fun e => absurd rfl e) (fun _ => ?_)
              refine g_iconst (v := nI 1) hc (by decide) dL_law_546 (n := 547) rfl ?_
              refine g_goto (n := 551) hc dL_law_547 (by decide) ?_
              exact fin _ _ _ _ h1 h2
      · skip
        refine g_iload hc 10 rfl dL_law_372 (n := 374) rfl ?_
        refine n_if_eq hc (by omega) dL_law_374 (tgt := 394) (by decide) (n := 377) rfl (fun c_71 => ?_) (fun c_71 => ?_)
        · skip
          refine g_iconst (v := nI 0) hc (by decide) dL_law_394 (n := 395) rfl ?_
          refine g_istore (lv2 := [(0, .ref (κ.2.2 3)), (1, .ref (a 0)), (2, .ref (e 0)), (3, .ref (e 1)), (4, .ref (e 2)), (5, .ref (e 3)), (6, .ref (e 4)), (7, .ref (e 5)), (8, .ref (e 6)), (9, .ref (e 7)), (10, .int (nI 0)), (11, .int (nI k))]) hc (by decide) [1, 2, 3, 4, 5, 6, 7, 8, 9, 10, 0, 11] rfl rfl dL_law_395 (n := 397) rfl ?_
          refine n_iinc (v := k + 1) (zk := 1) (lv2 := [(0, .ref (κ.2.2 3)), (1, .ref (a 0)), (2, .ref (e 0)), (3, .ref (e 1)), (4, .ref (e 2)), (5, .ref (e 3)), (6, .ref (e 4)), (7, .ref (e 5)), (8, .ref (e 6)), (9, .ref (e 7)), (10, .int (nI 0)), (11, .int (nI (k + 1)))]) hc 11 rfl (by decide) rfl (by decide) [1, 2, 3, 4, 5, 6, 7, 8, 9, 10, 11, 0] rfl rfl dL_law_397 (n := 400) rfl ?_
          refine g_goto (n := 365) hc dL_law_400 (by decide) ?_
          exact ih_2 0 (k + 1) (by omega) (by first | exact lk_y (by omega) (by assumption) | exact lk_n (Or.inl (by omega)) | exact lk_n (Or.inr (by assumption))) (by omega) (by omega)
        · skip
          refine g_aload hc 6 rfl dL_law_377 (n := 379) rfl ?_
          refine g_iload hc 11 rfl dL_law_379 (n := 381) rfl ?_
          refine n_iald (v := hd z 0 k) hc 4 rfl (by omega) (by decide) rfl dL_law_381 (n := 382) rfl ?_
          have b_72 := hh0 k (by omega)
          refine g_aload hc 7 rfl dL_law_382 (n := 384) rfl ?_
          refine g_iload hc 11 rfl dL_law_384 (n := 386) rfl ?_
          refine n_iald (v := hd z 1 k) hc 5 rfl (by omega) (by decide) rfl dL_law_386 (n := 387) rfl ?_
          have b_73 := hh1 k (by omega)
          refine n_icmp_ne hc (by omega) (by omega) dL_law_387 (tgt := 394) (by decide) (n := 390) rfl (fun c_74 => ?_) (fun c_74 => ?_)
          · skip
            refine g_iconst (v := nI 0) hc (by decide) dL_law_394 (n := 395) rfl ?_
            refine g_istore (lv2 := [(0, .ref (κ.2.2 3)), (1, .ref (a 0)), (2, .ref (e 0)), (3, .ref (e 1)), (4, .ref (e 2)), (5, .ref (e 3)), (6, .ref (e 4)), (7, .ref (e 5)), (8, .ref (e 6)), (9, .ref (e 7)), (10, .int (nI 0)), (11, .int (nI k))]) hc (by decide) [1, 2, 3, 4, 5, 6, 7, 8, 9, 10, 0, 11] rfl rfl dL_law_395 (n := 397) rfl ?_
            refine n_iinc (v := k + 1) (zk := 1) (lv2 := [(0, .ref (κ.2.2 3)), (1, .ref (a 0)), (2, .ref (e 0)), (3, .ref (e 1)), (4, .ref (e 2)), (5, .ref (e 3)), (6, .ref (e 4)), (7, .ref (e 5)), (8, .ref (e 6)), (9, .ref (e 7)), (10, .int (nI 0)), (11, .int (nI (k + 1)))]) hc 11 rfl (by decide) rfl (by decide) [1, 2, 3, 4, 5, 6, 7, 8, 9, 10, 11, 0] rfl rfl dL_law_397 (n := 400) rfl ?_
            refine g_goto (n := 365) hc dL_law_400 (by decide) ?_
            exact ih_2 0 (k + 1) (by omega) (by first | exact lk_y (by omega) (by assumption) | exact lk_n (Or.inl (by omega)) | exact lk_n (Or.inr (by assumption))) (by omega) (by omega)
          · skip
            refine g_iconst (v := nI 1) hc (by decide) dL_law_390 (n := 391) rfl ?_
            refine g_goto (n := 395) hc dL_law_391 (by decide) ?_
            refine g_istore (lv2 := [(0, .ref (κ.2.2 3)), (1, .ref (a 0)), (2, .ref (e 0)), (3, .ref (e 1)), (4, .ref (e 2)), (5, .ref (e 3)), (6, .ref (e 4)), (7, .ref (e 5)), (8, .ref (e 6)), (9, .ref (e 7)), (10, .int (nI 1)), (11, .int (nI k))]) hc (by decide) [1, 2, 3, 4, 5, 6, 7, 8, 9, 10, 0, 11] rfl rfl dL_law_395 (n := 397) rfl ?_
            refine n_iinc (v := k + 1) (zk := 1) (lv2 := [(0, .ref (κ.2.2 3)), (1, .ref (a 0)), (2, .ref (e 0)), (3, .ref (e 1)), (4, .ref (e 2)), (5, .ref (e 3)), (6, .ref (e 4)), (7, .ref (e 5)), (8, .ref (e 6)), (9, .ref (e 7)), (10, .int (nI 1)), (11, .int (nI (k + 1)))]) hc 11 rfl (by decide) rfl (by decide) [1, 2, 3, 4, 5, 6, 7, 8, 9, 10, 11, 0] rfl rfl dL_law_397 (n := 400) rfl ?_
            refine g_goto (n := 365) hc dL_law_400 (by decide) ?_
            exact ih_2 1 (k + 1) (by omega) (by first | exact lk_y (by omega) (by assumption) | exact lk_n (Or.inl (by omega)) | exact lk_n (Or.inr (by assumption))) (by omega) (by omega)
  exact L_1 _ v 0 (by omega) (hv0) (by rw [← hv0]; exact lk_le _ _) (Nat.lt_succ_self _)
set_option maxHeartbeats 1000000 in
set_option maxRecDepth 100000 in
theorem l_fin (hc : Cx κ Γ A cL_law 16 RL nm ret room_1) (hw : Oc κ a q z n w) {i : Nat} (h1 : cells ≤ 600000) (h2 : slots ≤ 7302250) (fin : ∀ (cells slots : Nat) (lv : List (Nat × Value)) (w : va_W), cells ≤ 600000 → slots ≤ 7302250 → G κ Γ A 16 cells slots Q w 551 lv [.int (nI 1)]) : G κ Γ A 16 cells slots Q (wL κ e z ++ w) 339 [(0, .ref (κ.2.2 3)), (1, .ref (a 0)), (2, .ref (e 0)), (3, .ref (e 1)), (4, .ref (e 2)), (5, .ref (e 3)), (6, .ref (e 4)), (7, .ref (e 5)), (8, .ref (e 6)), (9, .ref (e 7)), (10, .int (nI i))] [] := by
  obtain ⟨hzb, hzf, hzc, hpz, hzh, hk1, hk2, hzx⟩ := hw.zv
  have hz0 : z 312 ≤ 1 := hzf 0 (by decide)
  have hz1 : z 313 ≤ 1 := hzf 1 (by decide)
  refine g_aload hc 5 rfl dL_law_339 (n := 341) rfl ?_
  refine g_iconst (v := nI 0) hc (by decide) dL_law_341 (n := 342) rfl ?_
  refine n_iald (v := z 312) hc 3 rfl (by omega) (by decide) rfl dL_law_342 (n := 343) rfl ?_
  refine g_iconst (v := nI 1) hc (by decide) dL_law_343 (n := 344) rfl ?_
  refine n_icmp_ne hc (by omega) (by omega) dL_law_344 (tgt := 359) (by decide) (n := 347) rfl (fun c_1 => ?_) (fun c_1 => ?_)
  · skip
    refine g_iconst (v := nI 0) hc (by decide) dL_law_359 (n := 360) rfl ?_
    refine g_istore (lv2 := [(0, .ref (κ.2.2 3)), (1, .ref (a 0)), (2, .ref (e 0)), (3, .ref (e 1)), (4, .ref (e 2)), (5, .ref (e 3)), (6, .ref (e 4)), (7, .ref (e 5)), (8, .ref (e 6)), (9, .ref (e 7)), (10, .int (nI 0))]) hc (by decide) [1, 2, 3, 4, 5, 6, 7, 8, 9, 10, 0] rfl rfl dL_law_360 (n := 362) rfl ?_
    have hv0 : lk z 0 = 0 := lk_0 (fun q => by omega)
    refine l_like hc hw h1 h2 fin (v := 0) hv0
  · skip
    refine g_aload hc 5 rfl dL_law_347 (n := 349) rfl ?_
    refine g_iconst (v := nI 3) hc (by decide) dL_law_349 (n := 350) rfl ?_
    refine n_iald (v := z 313) hc 3 rfl (by omega) (by decide) rfl dL_law_350 (n := 351) rfl ?_
    refine g_iconst (v := nI 1) hc (by decide) dL_law_351 (n := 352) rfl ?_
    refine n_icmp_ne hc (by omega) (by omega) dL_law_352 (tgt := 359) (by decide) (n := 355) rfl (fun c_2 => ?_) (fun c_2 => ?_)
    · skip
      refine g_iconst (v := nI 0) hc (by decide) dL_law_359 (n := 360) rfl ?_
      refine g_istore (lv2 := [(0, .ref (κ.2.2 3)), (1, .ref (a 0)), (2, .ref (e 0)), (3, .ref (e 1)), (4, .ref (e 2)), (5, .ref (e 3)), (6, .ref (e 4)), (7, .ref (e 5)), (8, .ref (e 6)), (9, .ref (e 7)), (10, .int (nI 0))]) hc (by decide) [1, 2, 3, 4, 5, 6, 7, 8, 9, 10, 0] rfl rfl dL_law_360 (n := 362) rfl ?_
      have hv0 : lk z 0 = 0 := lk_0 (fun q => by omega)
      refine l_like hc hw h1 h2 fin (v := 0) hv0
    · skip
      refine g_iconst (v := nI 1) hc (by decide) dL_law_355 (n := 356) rfl ?_
      refine g_goto (n := 360) hc dL_law_356 (by decide) ?_
      refine g_istore (lv2 := [(0, .ref (κ.2.2 3)), (1, .ref (a 0)), (2, .ref (e 0)), (3, .ref (e 1)), (4, .ref (e 2)), (5, .ref (e 3)), (6, .ref (e 4)), (7, .ref (e 5)), (8, .ref (e 6)), (9, .ref (e 7)), (10, .int (nI 1))]) hc (by decide) [1, 2, 3, 4, 5, 6, 7, 8, 9, 10, 0] rfl rfl dL_law_360 (n := 362) rfl ?_
      have hv0 : lk z 0 = 1 := lk_1 (by omega) (by omega)
      refine l_like hc hw h1 h2 fin (v := 1) hv0
set_option maxHeartbeats 1000000 in
theorem l_loop (hc : Cx κ Γ A cL_law 16 RL nm ret room_1) {C0 S0 : Nat} (hC0 : C0 ≤ 500000) (hS0 : S0 ≤ 6000000) (fin : ∀ (cells slots : Nat) (lv : List (Nat × Value)) (w : va_W), cells ≤ 600000 → slots ≤ 7302250 → G κ Γ A 16 cells slots Q w 551 lv [.int (nI 1)]) :
    ∀ (fuel i : Nat), 50 < i + fuel → i ≤ 50 → ∀ (z : Nat → Nat) (n : Nat) (w : va_W), Oc κ a q z n w → G κ Γ A 16 (C0 + 20 * i) (S0 + 1000 * i) Q (wL κ e z ++ w) 159 [(0, .ref (κ.2.2 3)), (1, .ref (a 0)), (2, .ref (e 0)), (3, .ref (e 1)), (4, .ref (e 2)), (5, .ref (e 3)), (6, .ref (e 4)), (7, .ref (e 5)), (8, .ref (e 6)), (9, .ref (e 7)), (10, .int (nI i))] [] := by
  intro fuel
  induction fuel with
  | zero => intro i h1 h2; exact absurd h2 (by omega)
  | succ fuel ih =>
    intro i h1 h2 z n w hw
    refine g_iload hc 10 rfl dL_law_159 (n := 161) rfl ?_
    refine g_bipush (v := nI 50) hc (by decide) dL_law_161 (n := 163) rfl ?_
    refine n_icmp_ge hc (by omega) (by omega) dL_law_163 (tgt := 339) (by decide) (n := 166) rfl (fun c => ?_) (fun c => ?_)
    · exact l_fin hc hw (by omega) (by omega) fin
    · refine l_turn hc hw c (by omega) (by omega) (fun z2 n2 w2 hw2 => ?_)
      refine g_wide (k := C0 + 20 * (i + 1)) (m := S0 + 1000 * (i + 1)) (by omega) (by omega) ?_
      refine n_iinc (v := i + 1) (zk := 1) (lv2 := [(0, .ref (κ.2.2 3)), (1, .ref (a 0)), (2, .ref (e 0)), (3, .ref (e 1)), (4, .ref (e 2)), (5, .ref (e 3)), (6, .ref (e 4)), (7, .ref (e 5)), (8, .ref (e 6)), (9, .ref (e 7)), (10, .int (nI (i + 1)))]) hc 10 rfl (by decide) rfl (by decide) [1, 2, 3, 4, 5, 6, 7, 8, 9, 10, 0] rfl rfl dL_law_333 (n := 336) rfl ?_
      refine g_goto hc dL_law_336 (n := 159) (by decide) ?_
      exact ih (i + 1) (by omega) (by omega) z2 n2 w2 hw2
end LAW
