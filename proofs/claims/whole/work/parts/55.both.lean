/-! BOTH SIDES OF A CALL: the same answer, and both are of the same z behind it -/
def Pr (κ : Kp) (l : Launch) (yC : MethodName) (cC : ByteArray) (mC : Nat) (yM : MethodName) (cM : ByteArray) (mM : Nat) (a q m : Nat → Nat) (As : List Value) (wl wr : va_W) : Prop :=
  ∃ (ans : Nat) (z : Nat → Nat) (n : Nat) (hz : Nat → Nat → Nat) (ln : Nat) (sg : Nat → Nat) (b0 b1 : Bool) (sv : Nat → Nat → Nat), Sx κ l yC cC mC (a 0) As ans wl (InC κ a q z n hz ln sg b0 b1 sv) ∧ Sx κ l yM cM mM (m 0) As ans wr (InM κ m z n hz ln sg b0 b1 sv) ∧ Iv z n hz ln sg b0 b1 sv
theorem Iv.ch {z Z : Nat → Nat} {n : Nat} {hz : Nat → Nat → Nat} {ln : Nat} {sg : Nat → Nat} {b0 b1 : Bool} {sv : Nat → Nat → Nat} (h : Iv z n hz ln sg b0 b1 sv) (hZ : Zv Z) : Iv Z (rn n) (rh n hz z) ln sg b0 b1 sv := ⟨hZ, rn_le h.2.1, zv_rh h.2.1 h.1 h.2.2.1, h.2.2.2⟩
set_option maxHeartbeats 1000000 in
theorem p_set {κ : Kp} {l : Launch} {a q m z : Nat → Nat} {n : Nat} {hz : Nat → Nat → Nat} {ln : Nat} {sg : Nat → Nat} {b0 b1 : Bool} {sv : Nat → Nat → Nat} {wl wr : va_W} (hi : Iv z n hz ln sg b0 b1 sv) (hC : InC κ a q z n hz ln sg b0 b1 sv wl) (hM : InM κ m z n hz ln sg b0 b1 sv wr) (x : Int32) (y : Int32) : Pr κ l yX4_set cX4_set 4 yX5_set cX5_set 4 a q m [.int x, .int y] wl wr := by
  obtain ⟨hv, hn, hh0, hln, hsg, hv0, hv1⟩ := id hi
  obtain ⟨zb, zf, zc, zp, zh, z4, z5, z6⟩ := id hv
  rcases ag_cs 2 (by decide) x with ⟨i, hi2, rfl, -⟩ | ⟨hx1, -⟩
  · rcases ag_cs 52 (by decide) y with ⟨v, hv5, rfl, -⟩ | ⟨hx1, -⟩
    · rcases (show i = 0 ∨ i = 1 by omega) with rfl | rfl
      · exact ⟨_, _, _, _, _, _, _, _, _, e4_set_ok0 hC v hv hn (Nat.zero_le v) (by omega), e5_set_ok0 hM v hv hn (Nat.zero_le v) (by omega), (hi.ch (zv_up hv (by omega)))⟩
      · by_cases hq : 1 ≤ v ∧ v ≤ 9
        · exact ⟨_, _, _, _, _, _, _, _, _, e4_set_ok1 hC v hv hn hq.1 hq.2, e5_set_ok1 hM v hv hn hq.1 hq.2, (hi.ch (zv_up hv (by omega)))⟩
        · exact ⟨_, _, _, _, _, _, _, _, _, e4_set_er4 hC v (by omega) hv5, e5_set_er4 hM v (by omega) hv5, hi⟩
    · rcases (show i = 0 ∨ i = 1 by omega) with rfl | rfl
      · exact ⟨_, _, _, _, _, _, _, _, _, e4_set_er2 hC y hx1, e5_set_er2 hM y hx1, hi⟩
      · exact ⟨_, _, _, _, _, _, _, _, _, e4_set_er3 hC y hx1, e5_set_er3 hM y hx1, hi⟩
  · exact ⟨_, _, _, _, _, _, _, _, _, e4_set_er1 hC x y hx1, e5_set_er1 hM x y hx1, hi⟩
set_option maxHeartbeats 1000000 in
theorem p_seed {κ : Kp} {l : Launch} {a q m z : Nat → Nat} {n : Nat} {hz : Nat → Nat → Nat} {ln : Nat} {sg : Nat → Nat} {b0 b1 : Bool} {sv : Nat → Nat → Nat} {wl wr : va_W} (hi : Iv z n hz ln sg b0 b1 sv) (hC : InC κ a q z n hz ln sg b0 b1 sv wl) (hM : InM κ m z n hz ln sg b0 b1 sv wr) (x : Int32) : Pr κ l yX4_seed cX4_seed 3 yX5_seed cX5_seed 3 a q m [.int x] wl wr := by
  obtain ⟨hv, hn, hh0, hln, hsg, hv0, hv1⟩ := id hi
  obtain ⟨zb, zf, zc, zp, zh, z4, z5, z6⟩ := id hv
  rcases ag_sd x with ⟨j, hj, rfl, -⟩ | ⟨hx1, -⟩
  · exact ⟨_, _, _, _, _, _, _, _, _, e4_seed_ok hC j hv hn hj, e5_seed_ok hM j hv hn hj, (hi.ch (zv_up hv (by omega)))⟩
  · exact ⟨_, _, _, _, _, _, _, _, _, e4_seed_er hC x hx1, e5_seed_er hM x hx1, hi⟩
set_option maxHeartbeats 1000000 in
theorem p_bend {κ : Kp} {l : Launch} {a q m z : Nat → Nat} {n : Nat} {hz : Nat → Nat → Nat} {ln : Nat} {sg : Nat → Nat} {b0 b1 : Bool} {sv : Nat → Nat → Nat} {wl wr : va_W} (hi : Iv z n hz ln sg b0 b1 sv) (hC : InC κ a q z n hz ln sg b0 b1 sv wl) (hM : InM κ m z n hz ln sg b0 b1 sv wr) (x : Int32) : Pr κ l yX4_bend cX4_bend 2 yX5_bend cX5_bend 2 a q m [.int x] wl wr := by
  obtain ⟨hv, hn, hh0, hln, hsg, hv0, hv1⟩ := id hi
  obtain ⟨zb, zf, zc, zp, zh, z4, z5, z6⟩ := id hv
  rcases ag_cs 52 (by decide) x with ⟨c, hcc, rfl, -⟩ | ⟨hx1, -⟩
  · exact ⟨_, _, _, _, _, _, _, _, _, e4_bend_ok hC c hv hn hcc, e5_bend_ok hM c hv hn hcc, (hi.ch (zv_flp hv hcc))⟩
  · exact ⟨_, _, _, _, _, _, _, _, _, e4_bend_er hC x hx1, e5_bend_er hM x hx1, hi⟩
set_option maxHeartbeats 1000000 in
theorem p_read {κ : Kp} {l : Launch} {a q m z : Nat → Nat} {n : Nat} {hz : Nat → Nat → Nat} {ln : Nat} {sg : Nat → Nat} {b0 b1 : Bool} {sv : Nat → Nat → Nat} {wl wr : va_W} (hi : Iv z n hz ln sg b0 b1 sv) (hC : InC κ a q z n hz ln sg b0 b1 sv wl) (hM : InM κ m z n hz ln sg b0 b1 sv wr)  : Pr κ l yX4_read cX4_read 2 yX5_read cX5_read 3 a q m [] wl wr := by
  obtain ⟨hv, hn, hh0, hln, hsg, hv0, hv1⟩ := id hi
  obtain ⟨zb, zf, zc, zp, zh, z4, z5, z6⟩ := id hv
  by_cases hfn : ff sg ln = 4294967290
  · have hr : ∀ j, j < (ln + 1) / 3 → rdc sg j < 52 := by
      rcases ff_or sg ln with h | ⟨-, hf3, hfc⟩
      · omega
      · exact fun j hj => rdc_lt hf3 hfc (by omega)
    have hq := hi.ch (zv_rdn (sg := sg) hv ((ln + 1) / 3) hr)
    exact ⟨_, _, _, _, _, _, _, _, _, e4_read_ok hC hv hn hln hsg hfn, e5_read_ok hM hv hn hln hsg hfn, ⟨hq.1, hq.2.1, hq.2.2.1, Nat.zero_le _, hq.2.2.2.2⟩⟩
  · exact ⟨_, _, _, _, _, _, _, _, _, e4_read_er hC hln hsg hfn, e5_read_er hM hln hsg hfn, hi⟩
set_option maxHeartbeats 1000000 in
theorem p_shuffle {κ : Kp} {l : Launch} {a q m z : Nat → Nat} {n : Nat} {hz : Nat → Nat → Nat} {ln : Nat} {sg : Nat → Nat} {b0 b1 : Bool} {sv : Nat → Nat → Nat} {wl wr : va_W} (hi : Iv z n hz ln sg b0 b1 sv) (hC : InC κ a q z n hz ln sg b0 b1 sv wl) (hM : InM κ m z n hz ln sg b0 b1 sv wr)  : Pr κ l yX4_shuffle cX4_shuffle 2 yX5_shuffle cX5_shuffle 2 a q m [] wl wr := by
  obtain ⟨hv, hn, hh0, hln, hsg, hv0, hv1⟩ := id hi
  obtain ⟨zb, zf, zc, zp, zh, z4, z5, z6⟩ := id hv
  exact ⟨_, _, _, _, _, _, _, _, _, e4_shuffle hC hv hn, e5_shuffle hM hv hn, (hi.ch (zv_shz hv))⟩
set_option maxHeartbeats 1000000 in
theorem p_cut {κ : Kp} {l : Launch} {a q m z : Nat → Nat} {n : Nat} {hz : Nat → Nat → Nat} {ln : Nat} {sg : Nat → Nat} {b0 b1 : Bool} {sv : Nat → Nat → Nat} {wl wr : va_W} (hi : Iv z n hz ln sg b0 b1 sv) (hC : InC κ a q z n hz ln sg b0 b1 sv wl) (hM : InM κ m z n hz ln sg b0 b1 sv wr) (x : Int32) : Pr κ l yX4_cut cX4_cut 2 yX5_cut cX5_cut 3 a q m [.int x] wl wr := by
  obtain ⟨hv, hn, hh0, hln, hsg, hv0, hv1⟩ := id hi
  obtain ⟨zb, zf, zc, zp, zh, z4, z5, z6⟩ := id hv
  rcases ag_cs 52 (by decide) x with ⟨c, hc5, rfl, -⟩ | ⟨hx1, -⟩
  · rcases Nat.eq_zero_or_pos c with rfl | hc1
    · exact ⟨_, _, _, _, _, _, _, _, _, e4_cut_er1 hC , e5_cut_er1 hM , hi⟩
    · exact ⟨_, _, _, _, _, _, _, _, _, e4_cut_ok hC c hv hn hc1 hc5, e5_cut_ok hM c hv hn hc1 hc5, (hi.ch (zv_cuz hv c))⟩
  · exact ⟨_, _, _, _, _, _, _, _, _, e4_cut_er2 hC x hx1, e5_cut_er2 hM x hx1, hi⟩
set_option maxHeartbeats 1000000 in
theorem p_sort {κ : Kp} {l : Launch} {a q m z : Nat → Nat} {n : Nat} {hz : Nat → Nat → Nat} {ln : Nat} {sg : Nat → Nat} {b0 b1 : Bool} {sv : Nat → Nat → Nat} {wl wr : va_W} (hi : Iv z n hz ln sg b0 b1 sv) (hC : InC κ a q z n hz ln sg b0 b1 sv wl) (hM : InM κ m z n hz ln sg b0 b1 sv wr)  : Pr κ l yX4_sort cX4_sort 1 yX5_sort cX5_sort 3 a q m [] wl wr := by
  obtain ⟨hv, hn, hh0, hln, hsg, hv0, hv1⟩ := id hi
  obtain ⟨zb, zf, zc, zp, zh, z4, z5, z6⟩ := id hv
  exact ⟨_, _, _, _, _, _, _, _, _, e4_sort hC hv hn, e5_sort hM hv hn, (hi.ch (zv_soz hv))⟩
set_option maxHeartbeats 1000000 in
theorem p_deal {κ : Kp} {l : Launch} {a q m z : Nat → Nat} {n : Nat} {hz : Nat → Nat → Nat} {ln : Nat} {sg : Nat → Nat} {b0 b1 : Bool} {sv : Nat → Nat → Nat} {wl wr : va_W} (hi : Iv z n hz ln sg b0 b1 sv) (hC : InC κ a q z n hz ln sg b0 b1 sv wl) (hM : InM κ m z n hz ln sg b0 b1 sv wr) (x : Int32) : Pr κ l yX4_deal cX4_deal 3 yX5_deal cX5_deal 3 a q m [.int x] wl wr := by
  obtain ⟨hv, hn, hh0, hln, hsg, hv0, hv1⟩ := id hi
  obtain ⟨zb, zf, zc, zp, zh, z4, z5, z6⟩ := id hv
  rcases ag_cs 4 (by decide) x with ⟨b, hb, rfl, -⟩ | ⟨hx1, -⟩
  · have hg : z (312 + b) ≤ 1 := zf b (by omega)
    have hf : z (316 + b) ≤ 1 := by have := zf (4 + b) (by omega); rwa [← Nat.add_assoc] at this
    by_cases hq : z (316 + b) = 0 ∧ z 327 = 1
    · exact ⟨_, _, _, _, _, _, _, _, _, e4_deal_ok hC b hv hn hb hq.1 hq.2, e5_deal_ok hM b hv hn hb hq.1 hq.2, (hi.ch (zv_dez hv hb))⟩
    · exact ⟨_, _, _, _, _, _, _, _, _, e4_deal_no hC b hb (by omega) hf, e5_deal_no hM b hb (by omega) hf, hi⟩
  · exact ⟨_, _, _, _, _, _, _, _, _, e4_deal_er hC x hx1, e5_deal_er hM x hx1, hi⟩
set_option maxHeartbeats 1000000 in
theorem p_seal {κ : Kp} {l : Launch} {a q m z : Nat → Nat} {n : Nat} {hz : Nat → Nat → Nat} {ln : Nat} {sg : Nat → Nat} {b0 b1 : Bool} {sv : Nat → Nat → Nat} {wl wr : va_W} (hi : Iv z n hz ln sg b0 b1 sv) (hC : InC κ a q z n hz ln sg b0 b1 sv wl) (hM : InM κ m z n hz ln sg b0 b1 sv wr) (x : Int32) : Pr κ l yX4_seal cX4_seal 3 yX5_seal cX5_seal 2 a q m [.int x] wl wr := by
  obtain ⟨hv, hn, hh0, hln, hsg, hv0, hv1⟩ := id hi
  obtain ⟨zb, zf, zc, zp, zh, z4, z5, z6⟩ := id hv
  rcases ag_cs 4 (by decide) x with ⟨b, hb, rfl, -⟩ | ⟨hx1, -⟩
  · have hg : z (312 + b) ≤ 1 := zf b (by omega)
    have hf : z (316 + b) ≤ 1 := by have := zf (4 + b) (by omega); rwa [← Nat.add_assoc] at this
    by_cases hq : z (312 + b) = 1 ∧ z (316 + b) = 0
    · exact ⟨_, _, _, _, _, _, _, _, _, e4_seal_ok hC b hv hn hb hq.1 hq.2, e5_seal_ok hM b hv hn hb hq.1 hq.2, (hi.ch (zv_sez hv hb))⟩
    · exact ⟨_, _, _, _, _, _, _, _, _, e4_seal_no hC b hb (by omega) hf hg, e5_seal_no hM b hb (by omega) hf hg, hi⟩
  · exact ⟨_, _, _, _, _, _, _, _, _, e4_seal_er hC x hx1, e5_seal_er hM x hx1, hi⟩
set_option maxHeartbeats 1000000 in
theorem p_open {κ : Kp} {l : Launch} {a q m z : Nat → Nat} {n : Nat} {hz : Nat → Nat → Nat} {ln : Nat} {sg : Nat → Nat} {b0 b1 : Bool} {sv : Nat → Nat → Nat} {wl wr : va_W} (hi : Iv z n hz ln sg b0 b1 sv) (hC : InC κ a q z n hz ln sg b0 b1 sv wl) (hM : InM κ m z n hz ln sg b0 b1 sv wr) (x : Int32) : Pr κ l yX4_open cX4_open 3 yX5_open cX5_open 2 a q m [.int x] wl wr := by
  obtain ⟨hv, hn, hh0, hln, hsg, hv0, hv1⟩ := id hi
  obtain ⟨zb, zf, zc, zp, zh, z4, z5, z6⟩ := id hv
  rcases ag_cs 4 (by decide) x with ⟨b, hb, rfl, -⟩ | ⟨hx1, -⟩
  · have hg : z (312 + b) ≤ 1 := zf b (by omega)
    have hf : z (316 + b) ≤ 1 := by have := zf (4 + b) (by omega); rwa [← Nat.add_assoc] at this
    by_cases hq : z (316 + b) = 1
    · exact ⟨_, _, _, _, _, _, _, _, _, e4_open_ok hC b hv hn hb hq, e5_open_ok hM b hv hn hb hq, (hi.ch (zv_opz hv hb))⟩
    · exact ⟨_, _, _, _, _, _, _, _, _, e4_open_no hC b hb (by omega), e5_open_no hM b hb (by omega), hi⟩
  · exact ⟨_, _, _, _, _, _, _, _, _, e4_open_er hC x hx1, e5_open_er hM x hx1, hi⟩
set_option maxHeartbeats 1000000 in
theorem p_card {κ : Kp} {l : Launch} {a q m z : Nat → Nat} {n : Nat} {hz : Nat → Nat → Nat} {ln : Nat} {sg : Nat → Nat} {b0 b1 : Bool} {sv : Nat → Nat → Nat} {wl wr : va_W} (hi : Iv z n hz ln sg b0 b1 sv) (hC : InC κ a q z n hz ln sg b0 b1 sv wl) (hM : InM κ m z n hz ln sg b0 b1 sv wr) (x : Int32) : Pr κ l yX4_card cX4_card 2 yX5_card cX5_card 2 a q m [.int x] wl wr := by
  obtain ⟨hv, hn, hh0, hln, hsg, hv0, hv1⟩ := id hi
  obtain ⟨zb, zf, zc, zp, zh, z4, z5, z6⟩ := id hv
  rcases ag_cs 52 (by decide) x with ⟨j, hj, rfl, -⟩ | ⟨hx1, -⟩
  · exact ⟨_, _, _, _, _, _, _, _, _, e4_card_ok hC j hv hj, e5_card_ok hM j hj, hi⟩
  · exact ⟨_, _, _, _, _, _, _, _, _, e4_card_er hC x hx1, e5_card_er hM x hx1, hi⟩
set_option maxHeartbeats 1000000 in
theorem p_placeOf {κ : Kp} {l : Launch} {a q m z : Nat → Nat} {n : Nat} {hz : Nat → Nat → Nat} {ln : Nat} {sg : Nat → Nat} {b0 b1 : Bool} {sv : Nat → Nat → Nat} {wl wr : va_W} (hi : Iv z n hz ln sg b0 b1 sv) (hC : InC κ a q z n hz ln sg b0 b1 sv wl) (hM : InM κ m z n hz ln sg b0 b1 sv wr) (x : Int32) : Pr κ l yX4_placeOf cX4_placeOf 3 yX5_placeOf cX5_placeOf 4 a q m [.int x] wl wr := by
  obtain ⟨hv, hn, hh0, hln, hsg, hv0, hv1⟩ := id hi
  obtain ⟨zb, zf, zc, zp, zh, z4, z5, z6⟩ := id hv
  rcases ag_cs 52 (by decide) x with ⟨c, hcc, rfl, -⟩ | ⟨hx1, -⟩
  · exact ⟨_, _, _, _, _, _, _, _, _, e4_placeOf_ok hC c hv hcc, e5_placeOf_ok hM c hv hcc, hi⟩
  · exact ⟨_, _, _, _, _, _, _, _, _, e4_placeOf_er hC x hv hx1, e5_placeOf_er hM x hv hx1, hi⟩
set_option maxHeartbeats 1000000 in
theorem p_holder {κ : Kp} {l : Launch} {a q m z : Nat → Nat} {n : Nat} {hz : Nat → Nat → Nat} {ln : Nat} {sg : Nat → Nat} {b0 b1 : Bool} {sv : Nat → Nat → Nat} {wl wr : va_W} (hi : Iv z n hz ln sg b0 b1 sv) (hC : InC κ a q z n hz ln sg b0 b1 sv wl) (hM : InM κ m z n hz ln sg b0 b1 sv wr) (x : Int32) (y : Int32) : Pr κ l yX4_holder cX4_holder 4 yX5_holder cX5_holder 3 a q m [.int x, .int y] wl wr := by
  obtain ⟨hv, hn, hh0, hln, hsg, hv0, hv1⟩ := id hi
  obtain ⟨zb, zf, zc, zp, zh, z4, z5, z6⟩ := id hv
  rcases ag_cs 4 (by decide) x with ⟨b, hb, rfl, -⟩ | ⟨hx1, -⟩
  · have hg : z (312 + b) ≤ 1 := zf b (by omega)
    have hf : z (316 + b) ≤ 1 := by have := zf (4 + b) (by omega); rwa [← Nat.add_assoc] at this
    rcases ag_cs 52 (by decide) y with ⟨c, hcc, rfl, -⟩ | ⟨hx2, -⟩
    · by_cases hha : z (312 + b) = 1
      · exact ⟨_, _, _, _, _, _, _, _, _, e4_holder_ok hC b c hv hb hcc hha, e5_holder_ok hM b c hb hcc hha, hi⟩
      · exact ⟨_, _, _, _, _, _, _, _, _, e4_holder_no hC b c hv hb hcc (by omega), e5_holder_no hM b c hb hcc (by omega), hi⟩
    · exact ⟨_, _, _, _, _, _, _, _, _, e4_holder_er2 hC b y hb hx2, e5_holder_er2 hM b y hb hx2, hi⟩
  · exact ⟨_, _, _, _, _, _, _, _, _, e4_holder_er1 hC x y hx1, e5_holder_er1 hM x y hx1, hi⟩
set_option maxHeartbeats 1000000 in
theorem p_hand {κ : Kp} {l : Launch} {a q m z : Nat → Nat} {n : Nat} {hz : Nat → Nat → Nat} {ln : Nat} {sg : Nat → Nat} {b0 b1 : Bool} {sv : Nat → Nat → Nat} {wl wr : va_W} (hi : Iv z n hz ln sg b0 b1 sv) (hC : InC κ a q z n hz ln sg b0 b1 sv wl) (hM : InM κ m z n hz ln sg b0 b1 sv wr) (x : Int32) (y : Int32) (v : Int32) : Pr κ l yX4_hand cX4_hand 5 yX5_hand cX5_hand 4 a q m [.int x, .int y, .int v] wl wr := by
  obtain ⟨hv, hn, hh0, hln, hsg, hv0, hv1⟩ := id hi
  obtain ⟨zb, zf, zc, zp, zh, z4, z5, z6⟩ := id hv
  rcases ag_cs 4 (by decide) x with ⟨b, hb, rfl, -⟩ | ⟨hx1, -⟩
  · have hg : z (312 + b) ≤ 1 := zf b (by omega)
    have hf : z (316 + b) ≤ 1 := by have := zf (4 + b) (by omega); rwa [← Nat.add_assoc] at this
    rcases ag_cs 4 (by decide) y with ⟨h, hh4, rfl, -⟩ | ⟨hx2, -⟩
    · rcases ag_cs 7 (by decide) v with ⟨w, hw7, rfl, -⟩ | ⟨hx1, -⟩
      · by_cases hha : z (312 + b) = 1
        · exact ⟨_, _, _, _, _, _, _, _, _, e4_hand_ok hC b h w hv hb hh4 hw7 hha, e5_hand_ok hM b h w hv hb hh4 hw7 hha, hi⟩
        · exact ⟨_, _, _, _, _, _, _, _, _, e4_hand_no hC b h w hv hb hh4 hw7 (by omega), e5_hand_no hM b h w hb hh4 hw7 (by omega), hi⟩
      · exact ⟨_, _, _, _, _, _, _, _, _, e4_hand_er3 hC b h v hb hh4 hx1, e5_hand_er3 hM b h v hb hh4 hx1, hi⟩
    · exact ⟨_, _, _, _, _, _, _, _, _, e4_hand_er2 hC b y v hb hx2, e5_hand_er2 hM b y v hb hx2, hi⟩
  · exact ⟨_, _, _, _, _, _, _, _, _, e4_hand_er1 hC x y v hx1, e5_hand_er1 hM x y v hx1, hi⟩
set_option maxHeartbeats 1000000 in
theorem p_board {κ : Kp} {l : Launch} {a q m z : Nat → Nat} {n : Nat} {hz : Nat → Nat → Nat} {ln : Nat} {sg : Nat → Nat} {b0 b1 : Bool} {sv : Nat → Nat → Nat} {wl wr : va_W} (hi : Iv z n hz ln sg b0 b1 sv) (hC : InC κ a q z n hz ln sg b0 b1 sv wl) (hM : InM κ m z n hz ln sg b0 b1 sv wr) (x : Int32) (y : Int32) : Pr κ l yX4_board cX4_board 4 yX5_board cX5_board 3 a q m [.int x, .int y] wl wr := by
  obtain ⟨hv, hn, hh0, hln, hsg, hv0, hv1⟩ := id hi
  obtain ⟨zb, zf, zc, zp, zh, z4, z5, z6⟩ := id hv
  rcases ag_cs 4 (by decide) x with ⟨b, hb, rfl, -⟩ | ⟨hx1, -⟩
  · have hg : z (312 + b) ≤ 1 := zf b (by omega)
    have hf : z (316 + b) ≤ 1 := by have := zf (4 + b) (by omega); rwa [← Nat.add_assoc] at this
    rcases ag_cs 5 (by decide) y with ⟨w, hw5, rfl, -⟩ | ⟨hx1, -⟩
    · by_cases hha : z (312 + b) = 1
      · exact ⟨_, _, _, _, _, _, _, _, _, e4_board_ok hC b w hv hb hw5, e5_board_ok1 hM b w hv hb hw5 hha, hi⟩
      · exact ⟨_, _, _, _, _, _, _, _, _, e4_board_ok hC b w hv hb hw5, e5_board_ok0 hM b w hv hb hw5 (by omega), hi⟩
    · exact ⟨_, _, _, _, _, _, _, _, _, e4_board_er2 hC b y hb hx1, e5_board_er2 hM b y hb hx1, hi⟩
  · exact ⟨_, _, _, _, _, _, _, _, _, e4_board_er1 hC x y hx1, e5_board_er1 hM x y hx1, hi⟩
set_option maxHeartbeats 1000000 in
theorem p_count {κ : Kp} {l : Launch} {a q m z : Nat → Nat} {n : Nat} {hz : Nat → Nat → Nat} {ln : Nat} {sg : Nat → Nat} {b0 b1 : Bool} {sv : Nat → Nat → Nat} {wl wr : va_W} (hi : Iv z n hz ln sg b0 b1 sv) (hC : InC κ a q z n hz ln sg b0 b1 sv wl) (hM : InM κ m z n hz ln sg b0 b1 sv wr) (x : Int32) : Pr κ l yX4_count cX4_count 2 yX5_count cX5_count 2 a q m [.int x] wl wr := by
  obtain ⟨hv, hn, hh0, hln, hsg, hv0, hv1⟩ := id hi
  obtain ⟨zb, zf, zc, zp, zh, z4, z5, z6⟩ := id hv
  rcases ag_cs 14 (by decide) x with ⟨w, hw14, rfl, -⟩ | ⟨hx1, -⟩
  · exact ⟨_, _, _, _, _, _, _, _, _, e4_count_ok hC w hv hw14, e5_count_ok hM w hv hw14, hi⟩
  · exact ⟨_, _, _, _, _, _, _, _, _, e4_count_er hC x hx1, e5_count_er hM x hx1, hi⟩
set_option maxHeartbeats 1000000 in
theorem p_alike {κ : Kp} {l : Launch} {a q m z : Nat → Nat} {n : Nat} {hz : Nat → Nat → Nat} {ln : Nat} {sg : Nat → Nat} {b0 b1 : Bool} {sv : Nat → Nat → Nat} {wl wr : va_W} (hi : Iv z n hz ln sg b0 b1 sv) (hC : InC κ a q z n hz ln sg b0 b1 sv wl) (hM : InM κ m z n hz ln sg b0 b1 sv wr) (x : Int32) (y : Int32) : Pr κ l yX4_alike cX4_alike 5 yX5_alike cX5_alike 5 a q m [.int x, .int y] wl wr := by
  obtain ⟨hv, hn, hh0, hln, hsg, hv0, hv1⟩ := id hi
  obtain ⟨zb, zf, zc, zp, zh, z4, z5, z6⟩ := id hv
  rcases ag_cs 4 (by decide) x with ⟨b, hb, rfl, -⟩ | ⟨hx1, -⟩
  · have hg : z (312 + b) ≤ 1 := zf b (by omega)
    have hf : z (316 + b) ≤ 1 := by have := zf (4 + b) (by omega); rwa [← Nat.add_assoc] at this
    rcases ag_cs 4 (by decide) y with ⟨c, hc4, rfl, -⟩ | ⟨hx2, -⟩
    · have hg2 : z (312 + c) ≤ 1 := zf c (by omega)
      by_cases hq : z (312 + b) = 1 ∧ z (312 + c) = 1
      · exact ⟨_, _, _, _, _, _, _, _, _, e4_alike_ok hC b c hv hb hc4 hq.1 hq.2, e5_alike_ok hM b c hv hb hc4 hq.1 hq.2, hi⟩
      · exact ⟨_, _, _, _, _, _, _, _, _, e4_alike_no hC b c hb hc4 (by omega) zf, e5_alike_no hM b c hb hc4 (by omega) zf, hi⟩
    · exact ⟨_, _, _, _, _, _, _, _, _, e4_alike_er3 hC b y hb hx2, e5_alike_er3 hM b y hb hx2, hi⟩
  · rcases ag_cs 4 (by decide) y with ⟨c, hc4, rfl, -⟩ | ⟨hx2, -⟩
    · exact ⟨_, _, _, _, _, _, _, _, _, e4_alike_er2 hC x c hx1 hc4, e5_alike_er1 hM x (nI c) hx1, hi⟩
    · exact ⟨_, _, _, _, _, _, _, _, _, e4_alike_er1 hC x y hx1 hx2, e5_alike_er1 hM x y hx1, hi⟩
set_option maxHeartbeats 1000000 in
theorem p_ifRiffled {κ : Kp} {l : Launch} {a q m z : Nat → Nat} {n : Nat} {hz : Nat → Nat → Nat} {ln : Nat} {sg : Nat → Nat} {b0 b1 : Bool} {sv : Nat → Nat → Nat} {wl wr : va_W} (hi : Iv z n hz ln sg b0 b1 sv) (hC : InC κ a q z n hz ln sg b0 b1 sv wl) (hM : InM κ m z n hz ln sg b0 b1 sv wr) (x : Int32) (y : Int32) : Pr κ l yX4_ifRiffled cX4_ifRiffled 3 yX5_ifRiffled cX5_ifRiffled 3 a q m [.int x, .int y] wl wr := by
  obtain ⟨hv, hn, hh0, hln, hsg, hv0, hv1⟩ := id hi
  obtain ⟨zb, zf, zc, zp, zh, z4, z5, z6⟩ := id hv
  rcases ag_cs 21 (by decide) x with ⟨r, hr2, rfl, -⟩ | ⟨hx1, -⟩
  · rcases Nat.eq_zero_or_pos r with rfl | hr1
    · exact ⟨_, _, _, _, _, _, _, _, _, e4_ifRiffled_er2 hC y, e5_ifRiffled_er2 hM y, hi⟩
    · have hr2 : r ≤ 20 := by omega
      rcases ag_cs 2 (by decide) y with ⟨w, hw2, rfl, -⟩ | ⟨hx2, -⟩
      · rcases (show w = 0 ∨ w = 1 by omega) with rfl | rfl
        · exact ⟨_, _, _, _, _, _, _, _, _, e4_ifRiffled_ok0 hC r hv hr1 hr2, e5_ifRiffled_ok0 hM r hv hr1 hr2, hi⟩
        · exact ⟨_, _, _, _, _, _, _, _, _, e4_ifRiffled_ok1 hC r hv hr1 hr2, e5_ifRiffled_ok1 hM r hv hr1 hr2, hi⟩
      · exact ⟨_, _, _, _, _, _, _, _, _, e4_ifRiffled_er3 hC r y hr1 hr2 hx2, e5_ifRiffled_er3 hM r y hr1 hr2 hx2, hi⟩
  · exact ⟨_, _, _, _, _, _, _, _, _, e4_ifRiffled_er1 hC x y hx1, e5_ifRiffled_er1 hM x y hx1, hi⟩
set_option maxHeartbeats 1000000 in
theorem p_needed {κ : Kp} {l : Launch} {a q m z : Nat → Nat} {n : Nat} {hz : Nat → Nat → Nat} {ln : Nat} {sg : Nat → Nat} {b0 b1 : Bool} {sv : Nat → Nat → Nat} {wl wr : va_W} (hi : Iv z n hz ln sg b0 b1 sv) (hC : InC κ a q z n hz ln sg b0 b1 sv wl) (hM : InM κ m z n hz ln sg b0 b1 sv wr)  : Pr κ l yX4_needed cX4_needed 2 yX5_needed cX5_needed 2 a q m [] wl wr := by
  obtain ⟨hv, hn, hh0, hln, hsg, hv0, hv1⟩ := id hi
  obtain ⟨zb, zf, zc, zp, zh, z4, z5, z6⟩ := id hv
  exact ⟨_, _, _, _, _, _, _, _, _, e4_needed hC hv, e5_needed hM hv, hi⟩
set_option maxHeartbeats 1000000 in
theorem p_worstBend {κ : Kp} {l : Launch} {a q m z : Nat → Nat} {n : Nat} {hz : Nat → Nat → Nat} {ln : Nat} {sg : Nat → Nat} {b0 b1 : Bool} {sv : Nat → Nat → Nat} {wl wr : va_W} (hi : Iv z n hz ln sg b0 b1 sv) (hC : InC κ a q z n hz ln sg b0 b1 sv wl) (hM : InM κ m z n hz ln sg b0 b1 sv wr)  : Pr κ l yX4_worstBend cX4_worstBend 5 yX5_worstBend cX5_worstBend 5 a q m [] wl wr := by
  obtain ⟨hv, hn, hh0, hln, hsg, hv0, hv1⟩ := id hi
  obtain ⟨zb, zf, zc, zp, zh, z4, z5, z6⟩ := id hv
  exact ⟨_, _, _, _, _, _, _, _, _, e4_worstBend hC hv, e5_worstBend hM hv, hi⟩
set_option maxHeartbeats 1000000 in
theorem p_put {κ : Kp} {l : Launch} {a q m z : Nat → Nat} {n : Nat} {hz : Nat → Nat → Nat} {ln : Nat} {sg : Nat → Nat} {b0 b1 : Bool} {sv : Nat → Nat → Nat} {wl wr : va_W} (hi : Iv z n hz ln sg b0 b1 sv) (hC : InC κ a q z n hz ln sg b0 b1 sv wl) (hM : InM κ m z n hz ln sg b0 b1 sv wr) (w : Nat) (hw : w < 2 ^ 64) : Pr κ l yX4_put cX4_put 3 yX5_put cX5_put 8 a q m [.long (lN w)] wl wr := by
  obtain ⟨hv, hn, hh0, hln, hsg, hv0, hv1⟩ := id hi
  obtain ⟨zb, zf, zc, zp, zh, z4, z5, z6⟩ := id hv
  exact ⟨_, _, _, _, _, _, _, _, _, e4_put hC w hln hw, e5_put hM w hln hw, ⟨hv, hn, hh0, pul_le hln w, pus_lt hsg ln w, hv0, hv1⟩⟩
set_option maxHeartbeats 1000000 in
theorem p_wipe {κ : Kp} {l : Launch} {a q m z : Nat → Nat} {n : Nat} {hz : Nat → Nat → Nat} {ln : Nat} {sg : Nat → Nat} {b0 b1 : Bool} {sv : Nat → Nat → Nat} {wl wr : va_W} (hi : Iv z n hz ln sg b0 b1 sv) (hC : InC κ a q z n hz ln sg b0 b1 sv wl) (hM : InM κ m z n hz ln sg b0 b1 sv wr)  : Pr κ l yX4_wipe cX4_wipe 2 yX5_wipe cX5_wipe 2 a q m [] wl wr := by
  obtain ⟨hv, hn, hh0, hln, hsg, hv0, hv1⟩ := id hi
  obtain ⟨zb, zf, zc, zp, zh, z4, z5, z6⟩ := id hv
  exact ⟨_, _, _, _, _, _, _, _, _, e4_wipe hC , e5_wipe hM , ⟨hv, hn, hh0, Nat.zero_le _, hsg, hv0, hv1⟩⟩
set_option maxHeartbeats 1000000 in
theorem p_fault {κ : Kp} {l : Launch} {a q m z : Nat → Nat} {n : Nat} {hz : Nat → Nat → Nat} {ln : Nat} {sg : Nat → Nat} {b0 b1 : Bool} {sv : Nat → Nat → Nat} {wl wr : va_W} (hi : Iv z n hz ln sg b0 b1 sv) (hC : InC κ a q z n hz ln sg b0 b1 sv wl) (hM : InM κ m z n hz ln sg b0 b1 sv wr)  : Pr κ l yX4_fault cX4_fault 1 yX5_fault cX5_fault 1 a q m [] wl wr := by
  obtain ⟨hv, hn, hh0, hln, hsg, hv0, hv1⟩ := id hi
  obtain ⟨zb, zf, zc, zp, zh, z4, z5, z6⟩ := id hv
  exact ⟨_, _, _, _, _, _, _, _, _, e4_fault hC hln hsg, e5_fault hM hln hsg, hi⟩
set_option maxHeartbeats 1000000 in
theorem p_undo {κ : Kp} {l : Launch} {a q m z : Nat → Nat} {n : Nat} {hz : Nat → Nat → Nat} {ln : Nat} {sg : Nat → Nat} {b0 b1 : Bool} {sv : Nat → Nat → Nat} {wl wr : va_W} (hi : Iv z n hz ln sg b0 b1 sv) (hC : InC κ a q z n hz ln sg b0 b1 sv wl) (hM : InM κ m z n hz ln sg b0 b1 sv wr)  : Pr κ l yX4_undo cX4_undo 1 yX5_undo cX5_undo 2 a q m [] wl wr := by
  obtain ⟨hv, hn, hh0, hln, hsg, hv0, hv1⟩ := id hi
  obtain ⟨zb, zf, zc, zp, zh, z4, z5, z6⟩ := id hv
  exact ⟨_, _, _, _, _, _, _, _, _, e4_undo hC hn hh0, e5_undo hM hn, ⟨zv_uz hv hh0, (show n - 1 ≤ 4 by omega), fun k hk => hh0 k (Nat.lt_of_lt_of_le hk (Nat.sub_le n 1)), hln, hsg, hv0, hv1⟩⟩
set_option maxHeartbeats 1000000 in
theorem p_save {κ : Kp} {l : Launch} {a q m z : Nat → Nat} {n : Nat} {hz : Nat → Nat → Nat} {ln : Nat} {sg : Nat → Nat} {b0 b1 : Bool} {sv : Nat → Nat → Nat} {wl wr : va_W} (hi : Iv z n hz ln sg b0 b1 sv) (hC : InC κ a q z n hz ln sg b0 b1 sv wl) (hM : InM κ m z n hz ln sg b0 b1 sv wr) (x : Int32) : Pr κ l yX4_save cX4_save 2 yX5_save cX5_save 3 a q m [.int x] wl wr := by
  obtain ⟨hv, hn, hh0, hln, hsg, hv0, hv1⟩ := id hi
  obtain ⟨zb, zf, zc, zp, zh, z4, z5, z6⟩ := id hv
  rcases ag_cs 2 (by decide) x with ⟨j, hj2, rfl, -⟩ | ⟨hx1, -⟩
  · rcases (show j = 0 ∨ j = 1 by omega) with rfl | rfl
    · cases b0
      · exact ⟨_, _, _, _, _, _, _, _, _, e4_save0_new hC hv, e5_save0 hM , ⟨hv, hn, hh0, hln, hsg, (fun _ => by rw [va_up_self]; exact hv), (fun h => by rw [va_up_ne _ _ (by decide)]; exact hv1 h)⟩⟩
      · exact ⟨_, _, _, _, _, _, _, _, _, e4_save0_old hC hv, e5_save0 hM , ⟨hv, hn, hh0, hln, hsg, (fun _ => by rw [va_up_self]; exact hv), (fun h => by rw [va_up_ne _ _ (by decide)]; exact hv1 h)⟩⟩
    · cases b1
      · exact ⟨_, _, _, _, _, _, _, _, _, e4_save1_new hC hv, e5_save1 hM , ⟨hv, hn, hh0, hln, hsg, (fun h => by rw [va_up_ne _ _ (by decide)]; exact hv0 h), (fun _ => by rw [va_up_self]; exact hv)⟩⟩
      · exact ⟨_, _, _, _, _, _, _, _, _, e4_save1_old hC hv, e5_save1 hM , ⟨hv, hn, hh0, hln, hsg, (fun h => by rw [va_up_ne _ _ (by decide)]; exact hv0 h), (fun _ => by rw [va_up_self]; exact hv)⟩⟩
  · exact ⟨_, _, _, _, _, _, _, _, _, e4_save_er hC x hx1, e5_save_er hM x hx1, hi⟩
set_option maxHeartbeats 1000000 in
theorem p_restore {κ : Kp} {l : Launch} {a q m z : Nat → Nat} {n : Nat} {hz : Nat → Nat → Nat} {ln : Nat} {sg : Nat → Nat} {b0 b1 : Bool} {sv : Nat → Nat → Nat} {wl wr : va_W} (hi : Iv z n hz ln sg b0 b1 sv) (hC : InC κ a q z n hz ln sg b0 b1 sv wl) (hM : InM κ m z n hz ln sg b0 b1 sv wr) (x : Int32) : Pr κ l yX4_restore cX4_restore 3 yX5_restore cX5_restore 3 a q m [.int x] wl wr := by
  obtain ⟨hv, hn, hh0, hln, hsg, hv0, hv1⟩ := id hi
  obtain ⟨zb, zf, zc, zp, zh, z4, z5, z6⟩ := id hv
  rcases ag_cs 2 (by decide) x with ⟨j, hj2, rfl, -⟩ | ⟨hx1, -⟩
  · rcases (show j = 0 ∨ j = 1 by omega) with rfl | rfl
    · cases b0
      · exact ⟨_, _, _, _, _, _, _, _, _, e4_restore0_no hC , e5_restore0_no hM , hi⟩
      · exact ⟨_, _, _, _, _, _, _, _, _, e4_restore0_ok hC hv hn (hv0 rfl), e5_restore0_ok hM hn, (hi.ch (hv0 rfl))⟩
    · cases b1
      · exact ⟨_, _, _, _, _, _, _, _, _, e4_restore1_no hC , e5_restore1_no hM , hi⟩
      · exact ⟨_, _, _, _, _, _, _, _, _, e4_restore1_ok hC hv hn (hv1 rfl), e5_restore1_ok hM hn, (hi.ch (hv1 rfl))⟩
  · exact ⟨_, _, _, _, _, _, _, _, _, e4_restore_er hC x hx1, e5_restore_er hM x hx1, hi⟩
