set_option maxHeartbeats 1000000 in
set_option maxRecDepth 100000 in
theorem e5_set_ok0 {κ : Kp} {l : Launch} {m z : Nat → Nat} {n : Nat} {hz : Nat → Nat → Nat} {ln : Nat} {sg : Nat → Nat} {b0 : Bool} {b1 : Bool} {sv : Nat → Nat → Nat} {wr : va_W} (hw0 : InM κ m z n hz ln sg b0 b1 sv wr) (v : Nat) (hv : Zv z) (hn : n ≤ 4) (hlo : 0 ≤ v) (hhi : v ≤ 51) : Sx κ l yX5_set cX5_set 4 (m 0) [.int (nI 0), .int (nI v)] (z 324) wr (InM κ m (va_up z 324 v) (rn n) (rh n hz z) ln sg b0 b1 sv) := by
  obtain ⟨gg, ss, ya, ra, pa, h1, h2, h3, rfl⟩ := hw0
  refine ⟨_, _, _, _, _, _, _, c_X5_set_ok0 κ l m n ln z gg hz v hv hn h1 hlo hhi, jn_ix (wr := [(m 2, aI κ 333 ya), (m 4, aI κ 666 ss), (m 5, aZ κ 2 (sb b0 b1)), (m 6, aI κ 60 sg), (m 7, aI κ 52 ra), (m 8, aI κ 52 pa)]) [0, 1, 3] [2, 4, 5, 6, 7, 8] rfl rfl rfl rfl (by decide), ⟨Nat.le_of_ble_eq_true rfl, Nat.le_of_ble_eq_true rfl⟩, ⟨Nat.le_of_ble_eq_true rfl, Nat.le_of_ble_eq_true rfl⟩, fun vv uu hp => ?_⟩
  obtain ⟨rr, rfl, g2, hg2, rfl, rfl⟩ := hp
  exact ⟨rfl, _, _, rfl, Re.lit (X' := wMx κ m (va_up z 324 v) (rn n) ln sg b0 b1 g2 ss ya ra pa) [6, 7, 0, 8, 1, 2, 3, 4, 5] rfl rfl, g2, ss, ya, ra, pa, hg2, h2, h3, rfl⟩
set_option maxHeartbeats 1000000 in
set_option maxRecDepth 100000 in
theorem e5_set_ok1 {κ : Kp} {l : Launch} {m z : Nat → Nat} {n : Nat} {hz : Nat → Nat → Nat} {ln : Nat} {sg : Nat → Nat} {b0 : Bool} {b1 : Bool} {sv : Nat → Nat → Nat} {wr : va_W} (hw0 : InM κ m z n hz ln sg b0 b1 sv wr) (v : Nat) (hv : Zv z) (hn : n ≤ 4) (hlo : 1 ≤ v) (hhi : v ≤ 9) : Sx κ l yX5_set cX5_set 4 (m 0) [.int (nI 1), .int (nI v)] (z 325) wr (InM κ m (va_up z 325 v) (rn n) (rh n hz z) ln sg b0 b1 sv) := by
  obtain ⟨gg, ss, ya, ra, pa, h1, h2, h3, rfl⟩ := hw0
  refine ⟨_, _, _, _, _, _, _, c_X5_set_ok1 κ l m n ln z gg hz v hv hn h1 hlo hhi, jn_ix (wr := [(m 2, aI κ 333 ya), (m 4, aI κ 666 ss), (m 5, aZ κ 2 (sb b0 b1)), (m 6, aI κ 60 sg), (m 7, aI κ 52 ra), (m 8, aI κ 52 pa)]) [0, 1, 3] [2, 4, 5, 6, 7, 8] rfl rfl rfl rfl (by decide), ⟨Nat.le_of_ble_eq_true rfl, Nat.le_of_ble_eq_true rfl⟩, ⟨Nat.le_of_ble_eq_true rfl, Nat.le_of_ble_eq_true rfl⟩, fun vv uu hp => ?_⟩
  obtain ⟨rr, rfl, g2, hg2, rfl, rfl⟩ := hp
  exact ⟨rfl, _, _, rfl, Re.lit (X' := wMx κ m (va_up z 325 v) (rn n) ln sg b0 b1 g2 ss ya ra pa) [6, 7, 0, 8, 1, 2, 3, 4, 5] rfl rfl, g2, ss, ya, ra, pa, hg2, h2, h3, rfl⟩
set_option maxHeartbeats 1000000 in
set_option maxRecDepth 100000 in
theorem e5_set_er1 {κ : Kp} {l : Launch} {m z : Nat → Nat} {n : Nat} {hz : Nat → Nat → Nat} {ln : Nat} {sg : Nat → Nat} {b0 : Bool} {b1 : Bool} {sv : Nat → Nat → Nat} {wr : va_W} (hw0 : InM κ m z n hz ln sg b0 b1 sv wr) (x : Int32) (y : Int32) (hx1 : x < 0 ∨ nI 2 ≤ x) : Sx κ l yX5_set cX5_set 4 (m 0) [.int x, .int y] (4294967294) wr (InM κ m z n hz ln sg b0 b1 sv) := by
  obtain ⟨gg, ss, ya, ra, pa, h1, h2, h3, rfl⟩ := hw0
  refine ⟨_, _, _, _, _, _, _, c_X5_set_er1 κ l m n ln x y hx1, jn_ix (wr := [(m 1, aI κ 333 z), (m 2, aI κ 333 ya), (m 3, aI κ 1332 gg), (m 4, aI κ 666 ss), (m 5, aZ κ 2 (sb b0 b1)), (m 6, aI κ 60 sg), (m 7, aI κ 52 ra), (m 8, aI κ 52 pa)]) [0] [1, 2, 3, 4, 5, 6, 7, 8] rfl rfl rfl rfl (by decide), ⟨Nat.le_of_ble_eq_true rfl, Nat.le_of_ble_eq_true rfl⟩, ⟨Nat.le_of_ble_eq_true rfl, Nat.le_of_ble_eq_true rfl⟩, fun vv uu hp => ?_⟩
  obtain ⟨rr, rfl, rfl, rfl⟩ := hp
  exact ⟨rfl, _, _, rfl, Re.lit (X' := wMx κ m z n ln sg b0 b1 gg ss ya ra pa) [8, 0, 1, 2, 3, 4, 5, 6, 7] rfl rfl, gg, ss, ya, ra, pa, h1, h2, h3, rfl⟩
set_option maxHeartbeats 1000000 in
set_option maxRecDepth 100000 in
theorem e5_set_er2 {κ : Kp} {l : Launch} {m z : Nat → Nat} {n : Nat} {hz : Nat → Nat → Nat} {ln : Nat} {sg : Nat → Nat} {b0 : Bool} {b1 : Bool} {sv : Nat → Nat → Nat} {wr : va_W} (hw0 : InM κ m z n hz ln sg b0 b1 sv wr) (x : Int32) (hx1 : x < 0 ∨ nI 52 ≤ x) : Sx κ l yX5_set cX5_set 4 (m 0) [.int (nI 0), .int x] (4294967294) wr (InM κ m z n hz ln sg b0 b1 sv) := by
  obtain ⟨gg, ss, ya, ra, pa, h1, h2, h3, rfl⟩ := hw0
  refine ⟨_, _, _, _, _, _, _, c_X5_set_er2 κ l m n ln x hx1, jn_ix (wr := [(m 1, aI κ 333 z), (m 2, aI κ 333 ya), (m 3, aI κ 1332 gg), (m 4, aI κ 666 ss), (m 5, aZ κ 2 (sb b0 b1)), (m 6, aI κ 60 sg), (m 7, aI κ 52 ra), (m 8, aI κ 52 pa)]) [0] [1, 2, 3, 4, 5, 6, 7, 8] rfl rfl rfl rfl (by decide), ⟨Nat.le_of_ble_eq_true rfl, Nat.le_of_ble_eq_true rfl⟩, ⟨Nat.le_of_ble_eq_true rfl, Nat.le_of_ble_eq_true rfl⟩, fun vv uu hp => ?_⟩
  obtain ⟨rr, rfl, rfl, rfl⟩ := hp
  exact ⟨rfl, _, _, rfl, Re.lit (X' := wMx κ m z n ln sg b0 b1 gg ss ya ra pa) [8, 0, 1, 2, 3, 4, 5, 6, 7] rfl rfl, gg, ss, ya, ra, pa, h1, h2, h3, rfl⟩
set_option maxHeartbeats 1000000 in
set_option maxRecDepth 100000 in
theorem e5_set_er3 {κ : Kp} {l : Launch} {m z : Nat → Nat} {n : Nat} {hz : Nat → Nat → Nat} {ln : Nat} {sg : Nat → Nat} {b0 : Bool} {b1 : Bool} {sv : Nat → Nat → Nat} {wr : va_W} (hw0 : InM κ m z n hz ln sg b0 b1 sv wr) (x : Int32) (hx1 : x < 0 ∨ nI 52 ≤ x) : Sx κ l yX5_set cX5_set 4 (m 0) [.int (nI 1), .int x] (4294967294) wr (InM κ m z n hz ln sg b0 b1 sv) := by
  obtain ⟨gg, ss, ya, ra, pa, h1, h2, h3, rfl⟩ := hw0
  refine ⟨_, _, _, _, _, _, _, c_X5_set_er3 κ l m n ln x hx1, jn_ix (wr := [(m 1, aI κ 333 z), (m 2, aI κ 333 ya), (m 3, aI κ 1332 gg), (m 4, aI κ 666 ss), (m 5, aZ κ 2 (sb b0 b1)), (m 6, aI κ 60 sg), (m 7, aI κ 52 ra), (m 8, aI κ 52 pa)]) [0] [1, 2, 3, 4, 5, 6, 7, 8] rfl rfl rfl rfl (by decide), ⟨Nat.le_of_ble_eq_true rfl, Nat.le_of_ble_eq_true rfl⟩, ⟨Nat.le_of_ble_eq_true rfl, Nat.le_of_ble_eq_true rfl⟩, fun vv uu hp => ?_⟩
  obtain ⟨rr, rfl, rfl, rfl⟩ := hp
  exact ⟨rfl, _, _, rfl, Re.lit (X' := wMx κ m z n ln sg b0 b1 gg ss ya ra pa) [8, 0, 1, 2, 3, 4, 5, 6, 7] rfl rfl, gg, ss, ya, ra, pa, h1, h2, h3, rfl⟩
set_option maxHeartbeats 1000000 in
set_option maxRecDepth 100000 in
theorem e5_set_er4 {κ : Kp} {l : Launch} {m z : Nat → Nat} {n : Nat} {hz : Nat → Nat → Nat} {ln : Nat} {sg : Nat → Nat} {b0 : Bool} {b1 : Bool} {sv : Nat → Nat → Nat} {wr : va_W} (hw0 : InM κ m z n hz ln sg b0 b1 sv wr) (v : Nat) (hvv : v = 0 ∨ 10 ≤ v) (hv5 : v < 52) : Sx κ l yX5_set cX5_set 4 (m 0) [.int (nI 1), .int (nI v)] (4294967294) wr (InM κ m z n hz ln sg b0 b1 sv) := by
  obtain ⟨gg, ss, ya, ra, pa, h1, h2, h3, rfl⟩ := hw0
  refine ⟨_, _, _, _, _, _, _, c_X5_set_er4 κ l m n ln v hvv hv5, jn_ix (wr := [(m 1, aI κ 333 z), (m 2, aI κ 333 ya), (m 3, aI κ 1332 gg), (m 4, aI κ 666 ss), (m 5, aZ κ 2 (sb b0 b1)), (m 6, aI κ 60 sg), (m 7, aI κ 52 ra), (m 8, aI κ 52 pa)]) [0] [1, 2, 3, 4, 5, 6, 7, 8] rfl rfl rfl rfl (by decide), ⟨Nat.le_of_ble_eq_true rfl, Nat.le_of_ble_eq_true rfl⟩, ⟨Nat.le_of_ble_eq_true rfl, Nat.le_of_ble_eq_true rfl⟩, fun vv uu hp => ?_⟩
  obtain ⟨rr, rfl, rfl, rfl⟩ := hp
  exact ⟨rfl, _, _, rfl, Re.lit (X' := wMx κ m z n ln sg b0 b1 gg ss ya ra pa) [8, 0, 1, 2, 3, 4, 5, 6, 7] rfl rfl, gg, ss, ya, ra, pa, h1, h2, h3, rfl⟩
set_option maxHeartbeats 1000000 in
set_option maxRecDepth 100000 in
theorem e5_seed_ok {κ : Kp} {l : Launch} {m z : Nat → Nat} {n : Nat} {hz : Nat → Nat → Nat} {ln : Nat} {sg : Nat → Nat} {b0 : Bool} {b1 : Bool} {sv : Nat → Nat → Nat} {wr : va_W} (hw0 : InM κ m z n hz ln sg b0 b1 sv wr) (j : Nat) (hv : Zv z) (hn : n ≤ 4) (hj : j < 2 ^ 31) : Sx κ l yX5_seed cX5_seed 3 (m 0) [.int (nI j)] (z 326) wr (InM κ m (va_up z 326 j) (rn n) (rh n hz z) ln sg b0 b1 sv) := by
  obtain ⟨gg, ss, ya, ra, pa, h1, h2, h3, rfl⟩ := hw0
  refine ⟨_, _, _, _, _, _, _, c_X5_seed_ok κ l m n ln z gg hz j hv hn h1 hj, jn_ix (wr := [(m 2, aI κ 333 ya), (m 4, aI κ 666 ss), (m 5, aZ κ 2 (sb b0 b1)), (m 6, aI κ 60 sg), (m 7, aI κ 52 ra), (m 8, aI κ 52 pa)]) [0, 1, 3] [2, 4, 5, 6, 7, 8] rfl rfl rfl rfl (by decide), ⟨Nat.le_of_ble_eq_true rfl, Nat.le_of_ble_eq_true rfl⟩, ⟨Nat.le_of_ble_eq_true rfl, Nat.le_of_ble_eq_true rfl⟩, fun vv uu hp => ?_⟩
  obtain ⟨rr, rfl, g2, hg2, rfl, rfl⟩ := hp
  exact ⟨rfl, _, _, rfl, Re.lit (X' := wMx κ m (va_up z 326 j) (rn n) ln sg b0 b1 g2 ss ya ra pa) [6, 7, 0, 8, 1, 2, 3, 4, 5] rfl rfl, g2, ss, ya, ra, pa, hg2, h2, h3, rfl⟩
set_option maxHeartbeats 1000000 in
set_option maxRecDepth 100000 in
theorem e5_seed_er {κ : Kp} {l : Launch} {m z : Nat → Nat} {n : Nat} {hz : Nat → Nat → Nat} {ln : Nat} {sg : Nat → Nat} {b0 : Bool} {b1 : Bool} {sv : Nat → Nat → Nat} {wr : va_W} (hw0 : InM κ m z n hz ln sg b0 b1 sv wr) (x : Int32) (hx1 : x < 0) : Sx κ l yX5_seed cX5_seed 3 (m 0) [.int x] (4294967294) wr (InM κ m z n hz ln sg b0 b1 sv) := by
  obtain ⟨gg, ss, ya, ra, pa, h1, h2, h3, rfl⟩ := hw0
  refine ⟨_, _, _, _, _, _, _, c_X5_seed_er κ l m n ln x hx1, jn_ix (wr := [(m 1, aI κ 333 z), (m 2, aI κ 333 ya), (m 3, aI κ 1332 gg), (m 4, aI κ 666 ss), (m 5, aZ κ 2 (sb b0 b1)), (m 6, aI κ 60 sg), (m 7, aI κ 52 ra), (m 8, aI κ 52 pa)]) [0] [1, 2, 3, 4, 5, 6, 7, 8] rfl rfl rfl rfl (by decide), ⟨Nat.le_of_ble_eq_true rfl, Nat.le_of_ble_eq_true rfl⟩, ⟨Nat.le_of_ble_eq_true rfl, Nat.le_of_ble_eq_true rfl⟩, fun vv uu hp => ?_⟩
  obtain ⟨rr, rfl, rfl, rfl⟩ := hp
  exact ⟨rfl, _, _, rfl, Re.lit (X' := wMx κ m z n ln sg b0 b1 gg ss ya ra pa) [8, 0, 1, 2, 3, 4, 5, 6, 7] rfl rfl, gg, ss, ya, ra, pa, h1, h2, h3, rfl⟩
set_option maxHeartbeats 1000000 in
set_option maxRecDepth 100000 in
theorem e5_bend_ok {κ : Kp} {l : Launch} {m z : Nat → Nat} {n : Nat} {hz : Nat → Nat → Nat} {ln : Nat} {sg : Nat → Nat} {b0 : Bool} {b1 : Bool} {sv : Nat → Nat → Nat} {wr : va_W} (hw0 : InM κ m z n hz ln sg b0 b1 sv wr) (c : Nat) (hv : Zv z) (hn : n ≤ 4) (hcc : c < 52) : Sx κ l yX5_bend cX5_bend 2 (m 0) [.int (nI c)] (nbt (flp z c)) wr (InM κ m (flp z c) (rn n) (rh n hz z) ln sg b0 b1 sv) := by
  obtain ⟨gg, ss, ya, ra, pa, h1, h2, h3, rfl⟩ := hw0
  refine ⟨_, _, _, _, _, _, _, c_X5_bend_ok κ l m n ln z gg hz c hv hn h1 hcc, jn_ix (wr := [(m 2, aI κ 333 ya), (m 4, aI κ 666 ss), (m 5, aZ κ 2 (sb b0 b1)), (m 6, aI κ 60 sg), (m 7, aI κ 52 ra), (m 8, aI κ 52 pa)]) [0, 1, 3] [2, 4, 5, 6, 7, 8] rfl rfl rfl rfl (by decide), ⟨Nat.le_of_ble_eq_true rfl, Nat.le_of_ble_eq_true rfl⟩, ⟨Nat.le_of_ble_eq_true rfl, Nat.le_of_ble_eq_true rfl⟩, fun vv uu hp => ?_⟩
  obtain ⟨rr, rfl, g2, hg2, rfl, rfl⟩ := hp
  exact ⟨rfl, _, _, rfl, Re.lit (X' := wMx κ m (flp z c) (rn n) ln sg b0 b1 g2 ss ya ra pa) [6, 7, 0, 8, 1, 2, 3, 4, 5] rfl rfl, g2, ss, ya, ra, pa, hg2, h2, h3, rfl⟩
set_option maxHeartbeats 1000000 in
set_option maxRecDepth 100000 in
theorem e5_bend_er {κ : Kp} {l : Launch} {m z : Nat → Nat} {n : Nat} {hz : Nat → Nat → Nat} {ln : Nat} {sg : Nat → Nat} {b0 : Bool} {b1 : Bool} {sv : Nat → Nat → Nat} {wr : va_W} (hw0 : InM κ m z n hz ln sg b0 b1 sv wr) (x : Int32) (hx1 : x < 0 ∨ nI 52 ≤ x) : Sx κ l yX5_bend cX5_bend 2 (m 0) [.int x] (4294967295) wr (InM κ m z n hz ln sg b0 b1 sv) := by
  obtain ⟨gg, ss, ya, ra, pa, h1, h2, h3, rfl⟩ := hw0
  refine ⟨_, _, _, _, _, _, _, c_X5_bend_er κ l m n ln x hx1, jn_ix (wr := [(m 1, aI κ 333 z), (m 2, aI κ 333 ya), (m 3, aI κ 1332 gg), (m 4, aI κ 666 ss), (m 5, aZ κ 2 (sb b0 b1)), (m 6, aI κ 60 sg), (m 7, aI κ 52 ra), (m 8, aI κ 52 pa)]) [0] [1, 2, 3, 4, 5, 6, 7, 8] rfl rfl rfl rfl (by decide), ⟨Nat.le_of_ble_eq_true rfl, Nat.le_of_ble_eq_true rfl⟩, ⟨Nat.le_of_ble_eq_true rfl, Nat.le_of_ble_eq_true rfl⟩, fun vv uu hp => ?_⟩
  obtain ⟨rr, rfl, rfl, rfl⟩ := hp
  exact ⟨rfl, _, _, rfl, Re.lit (X' := wMx κ m z n ln sg b0 b1 gg ss ya ra pa) [8, 0, 1, 2, 3, 4, 5, 6, 7] rfl rfl, gg, ss, ya, ra, pa, h1, h2, h3, rfl⟩
set_option maxHeartbeats 1000000 in
set_option maxRecDepth 100000 in
theorem e5_read_ok {κ : Kp} {l : Launch} {m z : Nat → Nat} {n : Nat} {hz : Nat → Nat → Nat} {ln : Nat} {sg : Nat → Nat} {b0 : Bool} {b1 : Bool} {sv : Nat → Nat → Nat} {wr : va_W} (hw0 : InM κ m z n hz ln sg b0 b1 sv wr)  (hv : Zv z) (hn : n ≤ 4) (hln : ln ≤ 60) (hsg : ∀ k, k < 60 → sg k < 128) (hfn : ff sg ln = 4294967290) : Sx κ l yX5_read cX5_read 3 (m 0) [] (nbt (rdn z sg ((ln + 1) / 3))) wr (InM κ m (rdn z sg ((ln + 1) / 3)) (rn n) (rh n hz z) 0 sg b0 b1 sv) := by
  obtain ⟨gg, ss, ya, ra, pa, h1, h2, h3, rfl⟩ := hw0
  refine ⟨_, _, _, _, _, _, _, c_X5_read_ok κ l m n ln z gg hz sg hv hn h1 hln hsg hfn, jn_ix (wr := [(m 2, aI κ 333 ya), (m 4, aI κ 666 ss), (m 5, aZ κ 2 (sb b0 b1)), (m 7, aI κ 52 ra), (m 8, aI κ 52 pa)]) [0, 1, 3, 6] [2, 4, 5, 7, 8] rfl rfl rfl rfl (by decide), ⟨Nat.le_of_ble_eq_true rfl, Nat.le_of_ble_eq_true rfl⟩, ⟨Nat.le_of_ble_eq_true rfl, Nat.le_of_ble_eq_true rfl⟩, fun vv uu hp => ?_⟩
  obtain ⟨rr, rfl, g2, hg2, rfl, rfl⟩ := hp
  exact ⟨rfl, _, _, rfl, Re.lit (X' := wMx κ m (rdn z sg ((ln + 1) / 3)) (rn n) 0 sg b0 b1 g2 ss ya ra pa) [5, 6, 0, 7, 1, 2, 8, 3, 4] rfl rfl, g2, ss, ya, ra, pa, hg2, h2, h3, rfl⟩
set_option maxHeartbeats 1000000 in
set_option maxRecDepth 100000 in
theorem e5_read_er {κ : Kp} {l : Launch} {m z : Nat → Nat} {n : Nat} {hz : Nat → Nat → Nat} {ln : Nat} {sg : Nat → Nat} {b0 : Bool} {b1 : Bool} {sv : Nat → Nat → Nat} {wr : va_W} (hw0 : InM κ m z n hz ln sg b0 b1 sv wr)  (hln : ln ≤ 60) (hsg : ∀ k, k < 60 → sg k < 128) (hfn : ff sg ln ≠ 4294967290) : Sx κ l yX5_read cX5_read 3 (m 0) [] (4294967293) wr (InM κ m z n hz ln sg b0 b1 sv) := by
  obtain ⟨gg, ss, ya, ra, pa, h1, h2, h3, rfl⟩ := hw0
  refine ⟨_, _, _, _, _, _, _, c_X5_read_er κ l m n ln sg hln hsg hfn, jn_ix (wr := [(m 1, aI κ 333 z), (m 2, aI κ 333 ya), (m 3, aI κ 1332 gg), (m 4, aI κ 666 ss), (m 5, aZ κ 2 (sb b0 b1)), (m 7, aI κ 52 ra), (m 8, aI κ 52 pa)]) [0, 6] [1, 2, 3, 4, 5, 7, 8] rfl rfl rfl rfl (by decide), ⟨Nat.le_of_ble_eq_true rfl, Nat.le_of_ble_eq_true rfl⟩, ⟨Nat.le_of_ble_eq_true rfl, Nat.le_of_ble_eq_true rfl⟩, fun vv uu hp => ?_⟩
  obtain ⟨rr, rfl, rfl, rfl⟩ := hp
  exact ⟨rfl, _, _, rfl, Re.lit (X' := wMx κ m z n ln sg b0 b1 gg ss ya ra pa) [7, 0, 1, 2, 3, 4, 8, 5, 6] rfl rfl, gg, ss, ya, ra, pa, h1, h2, h3, rfl⟩
set_option maxHeartbeats 1000000 in
set_option maxRecDepth 100000 in
theorem e5_shuffle {κ : Kp} {l : Launch} {m z : Nat → Nat} {n : Nat} {hz : Nat → Nat → Nat} {ln : Nat} {sg : Nat → Nat} {b0 : Bool} {b1 : Bool} {sv : Nat → Nat → Nat} {wr : va_W} (hw0 : InM κ m z n hz ln sg b0 b1 sv wr)  (hv : Zv z) (hn : n ≤ 4) : Sx κ l yX5_shuffle cX5_shuffle 2 (m 0) [] (shk z) wr (InM κ m (shz z) (rn n) (rh n hz z) ln sg b0 b1 sv) := by
  obtain ⟨gg, ss, ya, ra, pa, h1, h2, h3, rfl⟩ := hw0
  refine ⟨_, _, _, _, _, _, _, c_X5_shuffle κ l m n ln z gg hz ya ra pa hv hn h1, jn_ix (wr := [(m 4, aI κ 666 ss), (m 5, aZ κ 2 (sb b0 b1)), (m 6, aI κ 60 sg)]) [0, 1, 3, 2, 7, 8] [4, 5, 6] rfl rfl rfl rfl (by decide), ⟨Nat.le_of_ble_eq_true rfl, Nat.le_of_ble_eq_true rfl⟩, ⟨Nat.le_of_ble_eq_true rfl, Nat.le_of_ble_eq_true rfl⟩, fun vv uu hp => ?_⟩
  obtain ⟨rr, rfl, g2, r2, p2, hg2, rfl, rfl⟩ := hp
  exact ⟨rfl, _, _, rfl, Re.lit (X' := wMx κ m (shz z) (rn n) ln sg b0 b1 g2 ss z r2 p2) [3, 4, 6, 5, 0, 1, 2, 7, 8] rfl rfl, g2, ss, z, r2, p2, hg2, h2, h3, rfl⟩
set_option maxHeartbeats 1000000 in
set_option maxRecDepth 100000 in
theorem e5_cut_ok {κ : Kp} {l : Launch} {m z : Nat → Nat} {n : Nat} {hz : Nat → Nat → Nat} {ln : Nat} {sg : Nat → Nat} {b0 : Bool} {b1 : Bool} {sv : Nat → Nat → Nat} {wr : va_W} (hw0 : InM κ m z n hz ln sg b0 b1 sv wr) (c : Nat) (hv : Zv z) (hn : n ≤ 4) (hc1 : 1 ≤ c) (hc5 : c < 52) : Sx κ l yX5_cut cX5_cut 3 (m 0) [.int (nI c)] (z c) wr (InM κ m (cuz z c) (rn n) (rh n hz z) ln sg b0 b1 sv) := by
  obtain ⟨gg, ss, ya, ra, pa, h1, h2, h3, rfl⟩ := hw0
  refine ⟨_, _, _, _, _, _, _, c_X5_cut_ok κ l m n ln z gg hz c ya hv hn h1 hc1 hc5, jn_ix (wr := [(m 4, aI κ 666 ss), (m 5, aZ κ 2 (sb b0 b1)), (m 6, aI κ 60 sg), (m 7, aI κ 52 ra), (m 8, aI κ 52 pa)]) [0, 1, 3, 2] [4, 5, 6, 7, 8] rfl rfl rfl rfl (by decide), ⟨Nat.le_of_ble_eq_true rfl, Nat.le_of_ble_eq_true rfl⟩, ⟨Nat.le_of_ble_eq_true rfl, Nat.le_of_ble_eq_true rfl⟩, fun vv uu hp => ?_⟩
  obtain ⟨rr, rfl, g2, hg2, rfl, rfl⟩ := hp
  exact ⟨rfl, _, _, rfl, Re.lit (X' := wMx κ m (cuz z c) (rn n) ln sg b0 b1 g2 ss z ra pa) [5, 6, 8, 7, 0, 1, 2, 3, 4] rfl rfl, g2, ss, z, ra, pa, hg2, h2, h3, rfl⟩
set_option maxHeartbeats 1000000 in
set_option maxRecDepth 100000 in
theorem e5_cut_er1 {κ : Kp} {l : Launch} {m z : Nat → Nat} {n : Nat} {hz : Nat → Nat → Nat} {ln : Nat} {sg : Nat → Nat} {b0 : Bool} {b1 : Bool} {sv : Nat → Nat → Nat} {wr : va_W} (hw0 : InM κ m z n hz ln sg b0 b1 sv wr)   : Sx κ l yX5_cut cX5_cut 3 (m 0) [.int (nI 0)] (4294967294) wr (InM κ m z n hz ln sg b0 b1 sv) := by
  obtain ⟨gg, ss, ya, ra, pa, h1, h2, h3, rfl⟩ := hw0
  refine ⟨_, _, _, _, _, _, _, c_X5_cut_er1 κ l m n ln , jn_ix (wr := [(m 1, aI κ 333 z), (m 2, aI κ 333 ya), (m 3, aI κ 1332 gg), (m 4, aI κ 666 ss), (m 5, aZ κ 2 (sb b0 b1)), (m 6, aI κ 60 sg), (m 7, aI κ 52 ra), (m 8, aI κ 52 pa)]) [0] [1, 2, 3, 4, 5, 6, 7, 8] rfl rfl rfl rfl (by decide), ⟨Nat.le_of_ble_eq_true rfl, Nat.le_of_ble_eq_true rfl⟩, ⟨Nat.le_of_ble_eq_true rfl, Nat.le_of_ble_eq_true rfl⟩, fun vv uu hp => ?_⟩
  obtain ⟨rr, rfl, rfl, rfl⟩ := hp
  exact ⟨rfl, _, _, rfl, Re.lit (X' := wMx κ m z n ln sg b0 b1 gg ss ya ra pa) [8, 0, 1, 2, 3, 4, 5, 6, 7] rfl rfl, gg, ss, ya, ra, pa, h1, h2, h3, rfl⟩
set_option maxHeartbeats 1000000 in
set_option maxRecDepth 100000 in
theorem e5_cut_er2 {κ : Kp} {l : Launch} {m z : Nat → Nat} {n : Nat} {hz : Nat → Nat → Nat} {ln : Nat} {sg : Nat → Nat} {b0 : Bool} {b1 : Bool} {sv : Nat → Nat → Nat} {wr : va_W} (hw0 : InM κ m z n hz ln sg b0 b1 sv wr) (x : Int32) (hx1 : x < 0 ∨ nI 52 ≤ x) : Sx κ l yX5_cut cX5_cut 3 (m 0) [.int x] (4294967294) wr (InM κ m z n hz ln sg b0 b1 sv) := by
  obtain ⟨gg, ss, ya, ra, pa, h1, h2, h3, rfl⟩ := hw0
  refine ⟨_, _, _, _, _, _, _, c_X5_cut_er2 κ l m n ln x hx1, jn_ix (wr := [(m 1, aI κ 333 z), (m 2, aI κ 333 ya), (m 3, aI κ 1332 gg), (m 4, aI κ 666 ss), (m 5, aZ κ 2 (sb b0 b1)), (m 6, aI κ 60 sg), (m 7, aI κ 52 ra), (m 8, aI κ 52 pa)]) [0] [1, 2, 3, 4, 5, 6, 7, 8] rfl rfl rfl rfl (by decide), ⟨Nat.le_of_ble_eq_true rfl, Nat.le_of_ble_eq_true rfl⟩, ⟨Nat.le_of_ble_eq_true rfl, Nat.le_of_ble_eq_true rfl⟩, fun vv uu hp => ?_⟩
  obtain ⟨rr, rfl, rfl, rfl⟩ := hp
  exact ⟨rfl, _, _, rfl, Re.lit (X' := wMx κ m z n ln sg b0 b1 gg ss ya ra pa) [8, 0, 1, 2, 3, 4, 5, 6, 7] rfl rfl, gg, ss, ya, ra, pa, h1, h2, h3, rfl⟩
set_option maxHeartbeats 1000000 in
set_option maxRecDepth 100000 in
theorem e5_sort {κ : Kp} {l : Launch} {m z : Nat → Nat} {n : Nat} {hz : Nat → Nat → Nat} {ln : Nat} {sg : Nat → Nat} {b0 : Bool} {b1 : Bool} {sv : Nat → Nat → Nat} {wr : va_W} (hw0 : InM κ m z n hz ln sg b0 b1 sv wr)  (hv : Zv z) (hn : n ≤ 4) : Sx κ l yX5_sort cX5_sort 3 (m 0) [] (a_sort z) wr (InM κ m (soz z) (rn n) (rh n hz z) ln sg b0 b1 sv) := by
  obtain ⟨gg, ss, ya, ra, pa, h1, h2, h3, rfl⟩ := hw0
  refine ⟨_, _, _, _, _, _, _, c_X5_sort κ l m n ln z gg hz hv hn h1, jn_ix (wr := [(m 2, aI κ 333 ya), (m 4, aI κ 666 ss), (m 5, aZ κ 2 (sb b0 b1)), (m 6, aI κ 60 sg), (m 7, aI κ 52 ra), (m 8, aI κ 52 pa)]) [0, 1, 3] [2, 4, 5, 6, 7, 8] rfl rfl rfl rfl (by decide), ⟨Nat.le_of_ble_eq_true rfl, Nat.le_of_ble_eq_true rfl⟩, ⟨Nat.le_of_ble_eq_true rfl, Nat.le_of_ble_eq_true rfl⟩, fun vv uu hp => ?_⟩
  obtain ⟨rr, rfl, g2, hg2, rfl, rfl⟩ := hp
  exact ⟨rfl, _, _, rfl, Re.lit (X' := wMx κ m (soz z) (rn n) ln sg b0 b1 g2 ss ya ra pa) [6, 7, 0, 8, 1, 2, 3, 4, 5] rfl rfl, g2, ss, ya, ra, pa, hg2, h2, h3, rfl⟩
set_option maxHeartbeats 1000000 in
set_option maxRecDepth 100000 in
theorem e5_deal_ok {κ : Kp} {l : Launch} {m z : Nat → Nat} {n : Nat} {hz : Nat → Nat → Nat} {ln : Nat} {sg : Nat → Nat} {b0 : Bool} {b1 : Bool} {sv : Nat → Nat → Nat} {wr : va_W} (hw0 : InM κ m z n hz ln sg b0 b1 sv wr) (b : Nat) (hv : Zv z) (hn : n ≤ 4) (hb : b < 4) (hs0 : z (316 + b) = 0) (hc1 : z 327 = 1) : Sx κ l yX5_deal cX5_deal 3 (m 0) [.int (nI b)] (pt (hd (dez z b) b) 0) wr (InM κ m (dez z b) (rn n) (rh n hz z) ln sg b0 b1 sv) := by
  obtain ⟨gg, ss, ya, ra, pa, h1, h2, h3, rfl⟩ := hw0
  refine ⟨_, _, _, _, _, _, _, c_X5_deal_ok κ l m n ln z gg hz b hv hn h1 hb hs0 hc1, jn_ix (wr := [(m 2, aI κ 333 ya), (m 4, aI κ 666 ss), (m 5, aZ κ 2 (sb b0 b1)), (m 6, aI κ 60 sg), (m 7, aI κ 52 ra), (m 8, aI κ 52 pa)]) [0, 1, 3] [2, 4, 5, 6, 7, 8] rfl rfl rfl rfl (by decide), ⟨Nat.le_of_ble_eq_true rfl, Nat.le_of_ble_eq_true rfl⟩, ⟨Nat.le_of_ble_eq_true rfl, Nat.le_of_ble_eq_true rfl⟩, fun vv uu hp => ?_⟩
  obtain ⟨rr, rfl, g2, hg2, rfl, rfl⟩ := hp
  exact ⟨rfl, _, _, rfl, Re.lit (X' := wMx κ m (dez z b) (rn n) ln sg b0 b1 g2 ss ya ra pa) [6, 7, 0, 8, 1, 2, 3, 4, 5] rfl rfl, g2, ss, ya, ra, pa, hg2, h2, h3, rfl⟩
set_option maxHeartbeats 1000000 in
set_option maxRecDepth 100000 in
theorem e5_deal_no {κ : Kp} {l : Launch} {m z : Nat → Nat} {n : Nat} {hz : Nat → Nat → Nat} {ln : Nat} {sg : Nat → Nat} {b0 : Bool} {b1 : Bool} {sv : Nat → Nat → Nat} {wr : va_W} (hw0 : InM κ m z n hz ln sg b0 b1 sv wr) (b : Nat) (hb : b < 4) (hno : z (316 + b) = 1 ∨ z 327 = 0) (hf : z (316 + b) ≤ 1) : Sx κ l yX5_deal cX5_deal 3 (m 0) [.int (nI b)] (4294967291) wr (InM κ m z n hz ln sg b0 b1 sv) := by
  obtain ⟨gg, ss, ya, ra, pa, h1, h2, h3, rfl⟩ := hw0
  refine ⟨_, _, _, _, _, _, _, c_X5_deal_no κ l m n ln z b hb hno hf, jn_ix (wr := [(m 2, aI κ 333 ya), (m 3, aI κ 1332 gg), (m 4, aI κ 666 ss), (m 5, aZ κ 2 (sb b0 b1)), (m 6, aI κ 60 sg), (m 7, aI κ 52 ra), (m 8, aI κ 52 pa)]) [0, 1] [2, 3, 4, 5, 6, 7, 8] rfl rfl rfl rfl (by decide), ⟨Nat.le_of_ble_eq_true rfl, Nat.le_of_ble_eq_true rfl⟩, ⟨Nat.le_of_ble_eq_true rfl, Nat.le_of_ble_eq_true rfl⟩, fun vv uu hp => ?_⟩
  obtain ⟨rr, rfl, rfl, rfl⟩ := hp
  exact ⟨rfl, _, _, rfl, Re.lit (X' := wMx κ m z n ln sg b0 b1 gg ss ya ra pa) [7, 8, 0, 1, 2, 3, 4, 5, 6] rfl rfl, gg, ss, ya, ra, pa, h1, h2, h3, rfl⟩
set_option maxHeartbeats 1000000 in
set_option maxRecDepth 100000 in
theorem e5_deal_er {κ : Kp} {l : Launch} {m z : Nat → Nat} {n : Nat} {hz : Nat → Nat → Nat} {ln : Nat} {sg : Nat → Nat} {b0 : Bool} {b1 : Bool} {sv : Nat → Nat → Nat} {wr : va_W} (hw0 : InM κ m z n hz ln sg b0 b1 sv wr) (x : Int32) (hx1 : x < 0 ∨ nI 4 ≤ x) : Sx κ l yX5_deal cX5_deal 3 (m 0) [.int x] (4294967295) wr (InM κ m z n hz ln sg b0 b1 sv) := by
  obtain ⟨gg, ss, ya, ra, pa, h1, h2, h3, rfl⟩ := hw0
  refine ⟨_, _, _, _, _, _, _, c_X5_deal_er κ l m n ln x hx1, jn_ix (wr := [(m 1, aI κ 333 z), (m 2, aI κ 333 ya), (m 3, aI κ 1332 gg), (m 4, aI κ 666 ss), (m 5, aZ κ 2 (sb b0 b1)), (m 6, aI κ 60 sg), (m 7, aI κ 52 ra), (m 8, aI κ 52 pa)]) [0] [1, 2, 3, 4, 5, 6, 7, 8] rfl rfl rfl rfl (by decide), ⟨Nat.le_of_ble_eq_true rfl, Nat.le_of_ble_eq_true rfl⟩, ⟨Nat.le_of_ble_eq_true rfl, Nat.le_of_ble_eq_true rfl⟩, fun vv uu hp => ?_⟩
  obtain ⟨rr, rfl, rfl, rfl⟩ := hp
  exact ⟨rfl, _, _, rfl, Re.lit (X' := wMx κ m z n ln sg b0 b1 gg ss ya ra pa) [8, 0, 1, 2, 3, 4, 5, 6, 7] rfl rfl, gg, ss, ya, ra, pa, h1, h2, h3, rfl⟩
set_option maxHeartbeats 1000000 in
set_option maxRecDepth 100000 in
theorem e5_seal_ok {κ : Kp} {l : Launch} {m z : Nat → Nat} {n : Nat} {hz : Nat → Nat → Nat} {ln : Nat} {sg : Nat → Nat} {b0 : Bool} {b1 : Bool} {sv : Nat → Nat → Nat} {wr : va_W} (hw0 : InM κ m z n hz ln sg b0 b1 sv wr) (b : Nat) (hv : Zv z) (hn : n ≤ 4) (hb : b < 4) (hh1 : z (312 + b) = 1) (hs0 : z (316 + b) = 0) : Sx κ l yX5_seal cX5_seal 2 (m 0) [.int (nI b)] (sm (fun k => sez z b (316 + k)) 4) wr (InM κ m (sez z b) (rn n) (rh n hz z) ln sg b0 b1 sv) := by
  obtain ⟨gg, ss, ya, ra, pa, h1, h2, h3, rfl⟩ := hw0
  refine ⟨_, _, _, _, _, _, _, c_X5_seal_ok κ l m n ln z gg hz b hv hn h1 hb hh1 hs0, jn_ix (wr := [(m 2, aI κ 333 ya), (m 4, aI κ 666 ss), (m 5, aZ κ 2 (sb b0 b1)), (m 6, aI κ 60 sg), (m 7, aI κ 52 ra), (m 8, aI κ 52 pa)]) [0, 1, 3] [2, 4, 5, 6, 7, 8] rfl rfl rfl rfl (by decide), ⟨Nat.le_of_ble_eq_true rfl, Nat.le_of_ble_eq_true rfl⟩, ⟨Nat.le_of_ble_eq_true rfl, Nat.le_of_ble_eq_true rfl⟩, fun vv uu hp => ?_⟩
  obtain ⟨rr, rfl, g2, hg2, rfl, rfl⟩ := hp
  exact ⟨rfl, _, _, rfl, Re.lit (X' := wMx κ m (sez z b) (rn n) ln sg b0 b1 g2 ss ya ra pa) [6, 7, 0, 8, 1, 2, 3, 4, 5] rfl rfl, g2, ss, ya, ra, pa, hg2, h2, h3, rfl⟩
set_option maxHeartbeats 1000000 in
set_option maxRecDepth 100000 in
theorem e5_seal_no {κ : Kp} {l : Launch} {m z : Nat → Nat} {n : Nat} {hz : Nat → Nat → Nat} {ln : Nat} {sg : Nat → Nat} {b0 : Bool} {b1 : Bool} {sv : Nat → Nat → Nat} {wr : va_W} (hw0 : InM κ m z n hz ln sg b0 b1 sv wr) (b : Nat) (hb : b < 4) (hno : z (312 + b) = 0 ∨ z (316 + b) = 1) (hf : z (316 + b) ≤ 1) (hg : z (312 + b) ≤ 1) : Sx κ l yX5_seal cX5_seal 2 (m 0) [.int (nI b)] (4294967291) wr (InM κ m z n hz ln sg b0 b1 sv) := by
  obtain ⟨gg, ss, ya, ra, pa, h1, h2, h3, rfl⟩ := hw0
  refine ⟨_, _, _, _, _, _, _, c_X5_seal_no κ l m n ln z b hb hno hf hg, jn_ix (wr := [(m 2, aI κ 333 ya), (m 3, aI κ 1332 gg), (m 4, aI κ 666 ss), (m 5, aZ κ 2 (sb b0 b1)), (m 6, aI κ 60 sg), (m 7, aI κ 52 ra), (m 8, aI κ 52 pa)]) [0, 1] [2, 3, 4, 5, 6, 7, 8] rfl rfl rfl rfl (by decide), ⟨Nat.le_of_ble_eq_true rfl, Nat.le_of_ble_eq_true rfl⟩, ⟨Nat.le_of_ble_eq_true rfl, Nat.le_of_ble_eq_true rfl⟩, fun vv uu hp => ?_⟩
  obtain ⟨rr, rfl, rfl, rfl⟩ := hp
  exact ⟨rfl, _, _, rfl, Re.lit (X' := wMx κ m z n ln sg b0 b1 gg ss ya ra pa) [7, 8, 0, 1, 2, 3, 4, 5, 6] rfl rfl, gg, ss, ya, ra, pa, h1, h2, h3, rfl⟩
set_option maxHeartbeats 1000000 in
set_option maxRecDepth 100000 in
theorem e5_seal_er {κ : Kp} {l : Launch} {m z : Nat → Nat} {n : Nat} {hz : Nat → Nat → Nat} {ln : Nat} {sg : Nat → Nat} {b0 : Bool} {b1 : Bool} {sv : Nat → Nat → Nat} {wr : va_W} (hw0 : InM κ m z n hz ln sg b0 b1 sv wr) (x : Int32) (hx1 : x < 0 ∨ nI 4 ≤ x) : Sx κ l yX5_seal cX5_seal 2 (m 0) [.int x] (4294967295) wr (InM κ m z n hz ln sg b0 b1 sv) := by
  obtain ⟨gg, ss, ya, ra, pa, h1, h2, h3, rfl⟩ := hw0
  refine ⟨_, _, _, _, _, _, _, c_X5_seal_er κ l m n ln x hx1, jn_ix (wr := [(m 1, aI κ 333 z), (m 2, aI κ 333 ya), (m 3, aI κ 1332 gg), (m 4, aI κ 666 ss), (m 5, aZ κ 2 (sb b0 b1)), (m 6, aI κ 60 sg), (m 7, aI κ 52 ra), (m 8, aI κ 52 pa)]) [0] [1, 2, 3, 4, 5, 6, 7, 8] rfl rfl rfl rfl (by decide), ⟨Nat.le_of_ble_eq_true rfl, Nat.le_of_ble_eq_true rfl⟩, ⟨Nat.le_of_ble_eq_true rfl, Nat.le_of_ble_eq_true rfl⟩, fun vv uu hp => ?_⟩
  obtain ⟨rr, rfl, rfl, rfl⟩ := hp
  exact ⟨rfl, _, _, rfl, Re.lit (X' := wMx κ m z n ln sg b0 b1 gg ss ya ra pa) [8, 0, 1, 2, 3, 4, 5, 6, 7] rfl rfl, gg, ss, ya, ra, pa, h1, h2, h3, rfl⟩
set_option maxHeartbeats 1000000 in
set_option maxRecDepth 100000 in
theorem e5_open_ok {κ : Kp} {l : Launch} {m z : Nat → Nat} {n : Nat} {hz : Nat → Nat → Nat} {ln : Nat} {sg : Nat → Nat} {b0 : Bool} {b1 : Bool} {sv : Nat → Nat → Nat} {wr : va_W} (hw0 : InM κ m z n hz ln sg b0 b1 sv wr) (b : Nat) (hv : Zv z) (hn : n ≤ 4) (hb : b < 4) (hs1 : z (316 + b) = 1) : Sx κ l yX5_open cX5_open 2 (m 0) [.int (nI b)] (z (320 + b) + 1) wr (InM κ m (opz z b) (rn n) (rh n hz z) ln sg b0 b1 sv) := by
  obtain ⟨gg, ss, ya, ra, pa, h1, h2, h3, rfl⟩ := hw0
  refine ⟨_, _, _, _, _, _, _, c_X5_open_ok κ l m n ln z gg hz b hv hn h1 hb hs1, jn_ix (wr := [(m 2, aI κ 333 ya), (m 4, aI κ 666 ss), (m 5, aZ κ 2 (sb b0 b1)), (m 6, aI κ 60 sg), (m 7, aI κ 52 ra), (m 8, aI κ 52 pa)]) [0, 1, 3] [2, 4, 5, 6, 7, 8] rfl rfl rfl rfl (by decide), ⟨Nat.le_of_ble_eq_true rfl, Nat.le_of_ble_eq_true rfl⟩, ⟨Nat.le_of_ble_eq_true rfl, Nat.le_of_ble_eq_true rfl⟩, fun vv uu hp => ?_⟩
  obtain ⟨rr, rfl, g2, hg2, rfl, rfl⟩ := hp
  exact ⟨rfl, _, _, rfl, Re.lit (X' := wMx κ m (opz z b) (rn n) ln sg b0 b1 g2 ss ya ra pa) [6, 7, 0, 8, 1, 2, 3, 4, 5] rfl rfl, g2, ss, ya, ra, pa, hg2, h2, h3, rfl⟩
set_option maxHeartbeats 1000000 in
set_option maxRecDepth 100000 in
theorem e5_open_no {κ : Kp} {l : Launch} {m z : Nat → Nat} {n : Nat} {hz : Nat → Nat → Nat} {ln : Nat} {sg : Nat → Nat} {b0 : Bool} {b1 : Bool} {sv : Nat → Nat → Nat} {wr : va_W} (hw0 : InM κ m z n hz ln sg b0 b1 sv wr) (b : Nat) (hb : b < 4) (hs0 : z (316 + b) = 0) : Sx κ l yX5_open cX5_open 2 (m 0) [.int (nI b)] (4294967291) wr (InM κ m z n hz ln sg b0 b1 sv) := by
  obtain ⟨gg, ss, ya, ra, pa, h1, h2, h3, rfl⟩ := hw0
  refine ⟨_, _, _, _, _, _, _, c_X5_open_no κ l m n ln z b hb hs0, jn_ix (wr := [(m 2, aI κ 333 ya), (m 3, aI κ 1332 gg), (m 4, aI κ 666 ss), (m 5, aZ κ 2 (sb b0 b1)), (m 6, aI κ 60 sg), (m 7, aI κ 52 ra), (m 8, aI κ 52 pa)]) [0, 1] [2, 3, 4, 5, 6, 7, 8] rfl rfl rfl rfl (by decide), ⟨Nat.le_of_ble_eq_true rfl, Nat.le_of_ble_eq_true rfl⟩, ⟨Nat.le_of_ble_eq_true rfl, Nat.le_of_ble_eq_true rfl⟩, fun vv uu hp => ?_⟩
  obtain ⟨rr, rfl, rfl, rfl⟩ := hp
  exact ⟨rfl, _, _, rfl, Re.lit (X' := wMx κ m z n ln sg b0 b1 gg ss ya ra pa) [7, 8, 0, 1, 2, 3, 4, 5, 6] rfl rfl, gg, ss, ya, ra, pa, h1, h2, h3, rfl⟩
set_option maxHeartbeats 1000000 in
set_option maxRecDepth 100000 in
theorem e5_open_er {κ : Kp} {l : Launch} {m z : Nat → Nat} {n : Nat} {hz : Nat → Nat → Nat} {ln : Nat} {sg : Nat → Nat} {b0 : Bool} {b1 : Bool} {sv : Nat → Nat → Nat} {wr : va_W} (hw0 : InM κ m z n hz ln sg b0 b1 sv wr) (x : Int32) (hx1 : x < 0 ∨ nI 4 ≤ x) : Sx κ l yX5_open cX5_open 2 (m 0) [.int x] (4294967295) wr (InM κ m z n hz ln sg b0 b1 sv) := by
  obtain ⟨gg, ss, ya, ra, pa, h1, h2, h3, rfl⟩ := hw0
  refine ⟨_, _, _, _, _, _, _, c_X5_open_er κ l m n ln x hx1, jn_ix (wr := [(m 1, aI κ 333 z), (m 2, aI κ 333 ya), (m 3, aI κ 1332 gg), (m 4, aI κ 666 ss), (m 5, aZ κ 2 (sb b0 b1)), (m 6, aI κ 60 sg), (m 7, aI κ 52 ra), (m 8, aI κ 52 pa)]) [0] [1, 2, 3, 4, 5, 6, 7, 8] rfl rfl rfl rfl (by decide), ⟨Nat.le_of_ble_eq_true rfl, Nat.le_of_ble_eq_true rfl⟩, ⟨Nat.le_of_ble_eq_true rfl, Nat.le_of_ble_eq_true rfl⟩, fun vv uu hp => ?_⟩
  obtain ⟨rr, rfl, rfl, rfl⟩ := hp
  exact ⟨rfl, _, _, rfl, Re.lit (X' := wMx κ m z n ln sg b0 b1 gg ss ya ra pa) [8, 0, 1, 2, 3, 4, 5, 6, 7] rfl rfl, gg, ss, ya, ra, pa, h1, h2, h3, rfl⟩
set_option maxHeartbeats 1000000 in
set_option maxRecDepth 100000 in
theorem e5_card_ok {κ : Kp} {l : Launch} {m z : Nat → Nat} {n : Nat} {hz : Nat → Nat → Nat} {ln : Nat} {sg : Nat → Nat} {b0 : Bool} {b1 : Bool} {sv : Nat → Nat → Nat} {wr : va_W} (hw0 : InM κ m z n hz ln sg b0 b1 sv wr) (j : Nat) (hj : j < 52) : Sx κ l yX5_card cX5_card 2 (m 0) [.int (nI j)] (z j) wr (InM κ m z n hz ln sg b0 b1 sv) := by
  obtain ⟨gg, ss, ya, ra, pa, h1, h2, h3, rfl⟩ := hw0
  refine ⟨_, _, _, _, _, _, _, c_X5_card_ok κ l m n ln z j hj, jn_ix (wr := [(m 2, aI κ 333 ya), (m 3, aI κ 1332 gg), (m 4, aI κ 666 ss), (m 5, aZ κ 2 (sb b0 b1)), (m 6, aI κ 60 sg), (m 7, aI κ 52 ra), (m 8, aI κ 52 pa)]) [0, 1] [2, 3, 4, 5, 6, 7, 8] rfl rfl rfl rfl (by decide), ⟨Nat.le_of_ble_eq_true rfl, Nat.le_of_ble_eq_true rfl⟩, ⟨Nat.le_of_ble_eq_true rfl, Nat.le_of_ble_eq_true rfl⟩, fun vv uu hp => ?_⟩
  obtain ⟨rr, rfl, rfl, rfl⟩ := hp
  exact ⟨rfl, _, _, rfl, Re.lit (X' := wMx κ m z n ln sg b0 b1 gg ss ya ra pa) [7, 8, 0, 1, 2, 3, 4, 5, 6] rfl rfl, gg, ss, ya, ra, pa, h1, h2, h3, rfl⟩
set_option maxHeartbeats 1000000 in
set_option maxRecDepth 100000 in
theorem e5_card_er {κ : Kp} {l : Launch} {m z : Nat → Nat} {n : Nat} {hz : Nat → Nat → Nat} {ln : Nat} {sg : Nat → Nat} {b0 : Bool} {b1 : Bool} {sv : Nat → Nat → Nat} {wr : va_W} (hw0 : InM κ m z n hz ln sg b0 b1 sv wr) (x : Int32) (hx1 : x < 0 ∨ nI 52 ≤ x) : Sx κ l yX5_card cX5_card 2 (m 0) [.int x] (4294967295) wr (InM κ m z n hz ln sg b0 b1 sv) := by
  obtain ⟨gg, ss, ya, ra, pa, h1, h2, h3, rfl⟩ := hw0
  refine ⟨_, _, _, _, _, _, _, c_X5_card_er κ l m n ln x hx1, jn_ix (wr := [(m 1, aI κ 333 z), (m 2, aI κ 333 ya), (m 3, aI κ 1332 gg), (m 4, aI κ 666 ss), (m 5, aZ κ 2 (sb b0 b1)), (m 6, aI κ 60 sg), (m 7, aI κ 52 ra), (m 8, aI κ 52 pa)]) [0] [1, 2, 3, 4, 5, 6, 7, 8] rfl rfl rfl rfl (by decide), ⟨Nat.le_of_ble_eq_true rfl, Nat.le_of_ble_eq_true rfl⟩, ⟨Nat.le_of_ble_eq_true rfl, Nat.le_of_ble_eq_true rfl⟩, fun vv uu hp => ?_⟩
  obtain ⟨rr, rfl, rfl, rfl⟩ := hp
  exact ⟨rfl, _, _, rfl, Re.lit (X' := wMx κ m z n ln sg b0 b1 gg ss ya ra pa) [8, 0, 1, 2, 3, 4, 5, 6, 7] rfl rfl, gg, ss, ya, ra, pa, h1, h2, h3, rfl⟩
set_option maxHeartbeats 1000000 in
set_option maxRecDepth 100000 in
theorem e5_placeOf_ok {κ : Kp} {l : Launch} {m z : Nat → Nat} {n : Nat} {hz : Nat → Nat → Nat} {ln : Nat} {sg : Nat → Nat} {b0 : Bool} {b1 : Bool} {sv : Nat → Nat → Nat} {wr : va_W} (hw0 : InM κ m z n hz ln sg b0 b1 sv wr) (c : Nat) (hv : Zv z) (hcc : c < 52) : Sx κ l yX5_placeOf cX5_placeOf 4 (m 0) [.int (nI c)] (inv z c) wr (InM κ m z n hz ln sg b0 b1 sv) := by
  obtain ⟨gg, ss, ya, ra, pa, h1, h2, h3, rfl⟩ := hw0
  refine ⟨_, _, _, _, _, _, _, c_X5_placeOf_ok κ l m n ln z c hv hcc, jn_ix (wr := [(m 2, aI κ 333 ya), (m 3, aI κ 1332 gg), (m 4, aI κ 666 ss), (m 5, aZ κ 2 (sb b0 b1)), (m 6, aI κ 60 sg), (m 7, aI κ 52 ra), (m 8, aI κ 52 pa)]) [0, 1] [2, 3, 4, 5, 6, 7, 8] rfl rfl rfl rfl (by decide), ⟨Nat.le_of_ble_eq_true rfl, Nat.le_of_ble_eq_true rfl⟩, ⟨Nat.le_of_ble_eq_true rfl, Nat.le_of_ble_eq_true rfl⟩, fun vv uu hp => ?_⟩
  obtain ⟨rr, rfl, rfl, rfl⟩ := hp
  exact ⟨rfl, _, _, rfl, Re.lit (X' := wMx κ m z n ln sg b0 b1 gg ss ya ra pa) [7, 8, 0, 1, 2, 3, 4, 5, 6] rfl rfl, gg, ss, ya, ra, pa, h1, h2, h3, rfl⟩
set_option maxHeartbeats 1000000 in
set_option maxRecDepth 100000 in
theorem e5_placeOf_er {κ : Kp} {l : Launch} {m z : Nat → Nat} {n : Nat} {hz : Nat → Nat → Nat} {ln : Nat} {sg : Nat → Nat} {b0 : Bool} {b1 : Bool} {sv : Nat → Nat → Nat} {wr : va_W} (hw0 : InM κ m z n hz ln sg b0 b1 sv wr) (x : Int32) (hv : Zv z) (hx1 : x < 0 ∨ nI 52 ≤ x) : Sx κ l yX5_placeOf cX5_placeOf 4 (m 0) [.int x] (4294967295) wr (InM κ m z n hz ln sg b0 b1 sv) := by
  obtain ⟨gg, ss, ya, ra, pa, h1, h2, h3, rfl⟩ := hw0
  refine ⟨_, _, _, _, _, _, _, c_X5_placeOf_er κ l m n ln z x hv hx1, jn_ix (wr := [(m 2, aI κ 333 ya), (m 3, aI κ 1332 gg), (m 4, aI κ 666 ss), (m 5, aZ κ 2 (sb b0 b1)), (m 6, aI κ 60 sg), (m 7, aI κ 52 ra), (m 8, aI κ 52 pa)]) [0, 1] [2, 3, 4, 5, 6, 7, 8] rfl rfl rfl rfl (by decide), ⟨Nat.le_of_ble_eq_true rfl, Nat.le_of_ble_eq_true rfl⟩, ⟨Nat.le_of_ble_eq_true rfl, Nat.le_of_ble_eq_true rfl⟩, fun vv uu hp => ?_⟩
  obtain ⟨rr, rfl, rfl, rfl⟩ := hp
  exact ⟨rfl, _, _, rfl, Re.lit (X' := wMx κ m z n ln sg b0 b1 gg ss ya ra pa) [7, 8, 0, 1, 2, 3, 4, 5, 6] rfl rfl, gg, ss, ya, ra, pa, h1, h2, h3, rfl⟩
set_option maxHeartbeats 1000000 in
set_option maxRecDepth 100000 in
theorem e5_holder_ok {κ : Kp} {l : Launch} {m z : Nat → Nat} {n : Nat} {hz : Nat → Nat → Nat} {ln : Nat} {sg : Nat → Nat} {b0 : Bool} {b1 : Bool} {sv : Nat → Nat → Nat} {wr : va_W} (hw0 : InM κ m z n hz ln sg b0 b1 sv wr) (b : Nat) (c : Nat) (hb : b < 4) (hcc : c < 52) (hha : z (312 + b) = 1) : Sx κ l yX5_holder cX5_holder 3 (m 0) [.int (nI b), .int (nI c)] (hd z b c) wr (InM κ m z n hz ln sg b0 b1 sv) := by
  obtain ⟨gg, ss, ya, ra, pa, h1, h2, h3, rfl⟩ := hw0
  refine ⟨_, _, _, _, _, _, _, c_X5_holder_ok κ l m n ln z b c hb hcc hha, jn_ix (wr := [(m 2, aI κ 333 ya), (m 3, aI κ 1332 gg), (m 4, aI κ 666 ss), (m 5, aZ κ 2 (sb b0 b1)), (m 6, aI κ 60 sg), (m 7, aI κ 52 ra), (m 8, aI κ 52 pa)]) [0, 1] [2, 3, 4, 5, 6, 7, 8] rfl rfl rfl rfl (by decide), ⟨Nat.le_of_ble_eq_true rfl, Nat.le_of_ble_eq_true rfl⟩, ⟨Nat.le_of_ble_eq_true rfl, Nat.le_of_ble_eq_true rfl⟩, fun vv uu hp => ?_⟩
  obtain ⟨rr, rfl, rfl, rfl⟩ := hp
  exact ⟨rfl, _, _, rfl, Re.lit (X' := wMx κ m z n ln sg b0 b1 gg ss ya ra pa) [7, 8, 0, 1, 2, 3, 4, 5, 6] rfl rfl, gg, ss, ya, ra, pa, h1, h2, h3, rfl⟩
set_option maxHeartbeats 1000000 in
set_option maxRecDepth 100000 in
theorem e5_holder_no {κ : Kp} {l : Launch} {m z : Nat → Nat} {n : Nat} {hz : Nat → Nat → Nat} {ln : Nat} {sg : Nat → Nat} {b0 : Bool} {b1 : Bool} {sv : Nat → Nat → Nat} {wr : va_W} (hw0 : InM κ m z n hz ln sg b0 b1 sv wr) (b : Nat) (c : Nat) (hb : b < 4) (hcc : c < 52) (hha : z (312 + b) = 0) : Sx κ l yX5_holder cX5_holder 3 (m 0) [.int (nI b), .int (nI c)] (4294967290) wr (InM κ m z n hz ln sg b0 b1 sv) := by
  obtain ⟨gg, ss, ya, ra, pa, h1, h2, h3, rfl⟩ := hw0
  refine ⟨_, _, _, _, _, _, _, c_X5_holder_no κ l m n ln z b c hb hcc hha, jn_ix (wr := [(m 2, aI κ 333 ya), (m 3, aI κ 1332 gg), (m 4, aI κ 666 ss), (m 5, aZ κ 2 (sb b0 b1)), (m 6, aI κ 60 sg), (m 7, aI κ 52 ra), (m 8, aI κ 52 pa)]) [0, 1] [2, 3, 4, 5, 6, 7, 8] rfl rfl rfl rfl (by decide), ⟨Nat.le_of_ble_eq_true rfl, Nat.le_of_ble_eq_true rfl⟩, ⟨Nat.le_of_ble_eq_true rfl, Nat.le_of_ble_eq_true rfl⟩, fun vv uu hp => ?_⟩
  obtain ⟨rr, rfl, rfl, rfl⟩ := hp
  exact ⟨rfl, _, _, rfl, Re.lit (X' := wMx κ m z n ln sg b0 b1 gg ss ya ra pa) [7, 8, 0, 1, 2, 3, 4, 5, 6] rfl rfl, gg, ss, ya, ra, pa, h1, h2, h3, rfl⟩
set_option maxHeartbeats 1000000 in
set_option maxRecDepth 100000 in
theorem e5_holder_er1 {κ : Kp} {l : Launch} {m z : Nat → Nat} {n : Nat} {hz : Nat → Nat → Nat} {ln : Nat} {sg : Nat → Nat} {b0 : Bool} {b1 : Bool} {sv : Nat → Nat → Nat} {wr : va_W} (hw0 : InM κ m z n hz ln sg b0 b1 sv wr) (x : Int32) (y : Int32) (hx1 : x < 0 ∨ nI 4 ≤ x) : Sx κ l yX5_holder cX5_holder 3 (m 0) [.int x, .int y] (4294967295) wr (InM κ m z n hz ln sg b0 b1 sv) := by
  obtain ⟨gg, ss, ya, ra, pa, h1, h2, h3, rfl⟩ := hw0
  refine ⟨_, _, _, _, _, _, _, c_X5_holder_er1 κ l m n ln x y hx1, jn_ix (wr := [(m 1, aI κ 333 z), (m 2, aI κ 333 ya), (m 3, aI κ 1332 gg), (m 4, aI κ 666 ss), (m 5, aZ κ 2 (sb b0 b1)), (m 6, aI κ 60 sg), (m 7, aI κ 52 ra), (m 8, aI κ 52 pa)]) [0] [1, 2, 3, 4, 5, 6, 7, 8] rfl rfl rfl rfl (by decide), ⟨Nat.le_of_ble_eq_true rfl, Nat.le_of_ble_eq_true rfl⟩, ⟨Nat.le_of_ble_eq_true rfl, Nat.le_of_ble_eq_true rfl⟩, fun vv uu hp => ?_⟩
  obtain ⟨rr, rfl, rfl, rfl⟩ := hp
  exact ⟨rfl, _, _, rfl, Re.lit (X' := wMx κ m z n ln sg b0 b1 gg ss ya ra pa) [8, 0, 1, 2, 3, 4, 5, 6, 7] rfl rfl, gg, ss, ya, ra, pa, h1, h2, h3, rfl⟩
set_option maxHeartbeats 1000000 in
set_option maxRecDepth 100000 in
theorem e5_holder_er2 {κ : Kp} {l : Launch} {m z : Nat → Nat} {n : Nat} {hz : Nat → Nat → Nat} {ln : Nat} {sg : Nat → Nat} {b0 : Bool} {b1 : Bool} {sv : Nat → Nat → Nat} {wr : va_W} (hw0 : InM κ m z n hz ln sg b0 b1 sv wr) (b : Nat) (y : Int32) (hb : b < 4) (hx2 : y < 0 ∨ nI 52 ≤ y) : Sx κ l yX5_holder cX5_holder 3 (m 0) [.int (nI b), .int y] (4294967295) wr (InM κ m z n hz ln sg b0 b1 sv) := by
  obtain ⟨gg, ss, ya, ra, pa, h1, h2, h3, rfl⟩ := hw0
  refine ⟨_, _, _, _, _, _, _, c_X5_holder_er2 κ l m n ln b y hb hx2, jn_ix (wr := [(m 1, aI κ 333 z), (m 2, aI κ 333 ya), (m 3, aI κ 1332 gg), (m 4, aI κ 666 ss), (m 5, aZ κ 2 (sb b0 b1)), (m 6, aI κ 60 sg), (m 7, aI κ 52 ra), (m 8, aI κ 52 pa)]) [0] [1, 2, 3, 4, 5, 6, 7, 8] rfl rfl rfl rfl (by decide), ⟨Nat.le_of_ble_eq_true rfl, Nat.le_of_ble_eq_true rfl⟩, ⟨Nat.le_of_ble_eq_true rfl, Nat.le_of_ble_eq_true rfl⟩, fun vv uu hp => ?_⟩
  obtain ⟨rr, rfl, rfl, rfl⟩ := hp
  exact ⟨rfl, _, _, rfl, Re.lit (X' := wMx κ m z n ln sg b0 b1 gg ss ya ra pa) [8, 0, 1, 2, 3, 4, 5, 6, 7] rfl rfl, gg, ss, ya, ra, pa, h1, h2, h3, rfl⟩
set_option maxHeartbeats 1000000 in
set_option maxRecDepth 100000 in
theorem e5_hand_ok {κ : Kp} {l : Launch} {m z : Nat → Nat} {n : Nat} {hz : Nat → Nat → Nat} {ln : Nat} {sg : Nat → Nat} {b0 : Bool} {b1 : Bool} {sv : Nat → Nat → Nat} {wr : va_W} (hw0 : InM κ m z n hz ln sg b0 b1 sv wr) (b : Nat) (h : Nat) (w : Nat) (hv : Zv z) (hb : b < 4) (hh4 : h < 4) (hw7 : w < 7) (hha : z (312 + b) = 1) : Sx κ l yX5_hand cX5_hand 4 (m 0) [.int (nI b), .int (nI h), .int (nI w)] (a_hand z b h w) wr (InM κ m z n hz ln sg b0 b1 sv) := by
  obtain ⟨gg, ss, ya, ra, pa, h1, h2, h3, rfl⟩ := hw0
  refine ⟨_, _, _, _, _, _, _, c_X5_hand_ok κ l m n ln z b h w hv hb hh4 hw7 hha, jn_ix (wr := [(m 2, aI κ 333 ya), (m 3, aI κ 1332 gg), (m 4, aI κ 666 ss), (m 5, aZ κ 2 (sb b0 b1)), (m 6, aI κ 60 sg), (m 7, aI κ 52 ra), (m 8, aI κ 52 pa)]) [0, 1] [2, 3, 4, 5, 6, 7, 8] rfl rfl rfl rfl (by decide), ⟨Nat.le_of_ble_eq_true rfl, Nat.le_of_ble_eq_true rfl⟩, ⟨Nat.le_of_ble_eq_true rfl, Nat.le_of_ble_eq_true rfl⟩, fun vv uu hp => ?_⟩
  obtain ⟨rr, rfl, rfl, rfl⟩ := hp
  exact ⟨rfl, _, _, rfl, Re.lit (X' := wMx κ m z n ln sg b0 b1 gg ss ya ra pa) [7, 8, 0, 1, 2, 3, 4, 5, 6] rfl rfl, gg, ss, ya, ra, pa, h1, h2, h3, rfl⟩
set_option maxHeartbeats 1000000 in
set_option maxRecDepth 100000 in
theorem e5_hand_no {κ : Kp} {l : Launch} {m z : Nat → Nat} {n : Nat} {hz : Nat → Nat → Nat} {ln : Nat} {sg : Nat → Nat} {b0 : Bool} {b1 : Bool} {sv : Nat → Nat → Nat} {wr : va_W} (hw0 : InM κ m z n hz ln sg b0 b1 sv wr) (b : Nat) (h : Nat) (w : Nat) (hb : b < 4) (hh4 : h < 4) (hw7 : w < 7) (hha : z (312 + b) = 0) : Sx κ l yX5_hand cX5_hand 4 (m 0) [.int (nI b), .int (nI h), .int (nI w)] (4294967290) wr (InM κ m z n hz ln sg b0 b1 sv) := by
  obtain ⟨gg, ss, ya, ra, pa, h1, h2, h3, rfl⟩ := hw0
  refine ⟨_, _, _, _, _, _, _, c_X5_hand_no κ l m n ln z b h w hb hh4 hw7 hha, jn_ix (wr := [(m 2, aI κ 333 ya), (m 3, aI κ 1332 gg), (m 4, aI κ 666 ss), (m 5, aZ κ 2 (sb b0 b1)), (m 6, aI κ 60 sg), (m 7, aI κ 52 ra), (m 8, aI κ 52 pa)]) [0, 1] [2, 3, 4, 5, 6, 7, 8] rfl rfl rfl rfl (by decide), ⟨Nat.le_of_ble_eq_true rfl, Nat.le_of_ble_eq_true rfl⟩, ⟨Nat.le_of_ble_eq_true rfl, Nat.le_of_ble_eq_true rfl⟩, fun vv uu hp => ?_⟩
  obtain ⟨rr, rfl, rfl, rfl⟩ := hp
  exact ⟨rfl, _, _, rfl, Re.lit (X' := wMx κ m z n ln sg b0 b1 gg ss ya ra pa) [7, 8, 0, 1, 2, 3, 4, 5, 6] rfl rfl, gg, ss, ya, ra, pa, h1, h2, h3, rfl⟩
set_option maxHeartbeats 1000000 in
set_option maxRecDepth 100000 in
theorem e5_hand_er1 {κ : Kp} {l : Launch} {m z : Nat → Nat} {n : Nat} {hz : Nat → Nat → Nat} {ln : Nat} {sg : Nat → Nat} {b0 : Bool} {b1 : Bool} {sv : Nat → Nat → Nat} {wr : va_W} (hw0 : InM κ m z n hz ln sg b0 b1 sv wr) (x : Int32) (y : Int32) (v : Int32) (hx1 : x < 0 ∨ nI 4 ≤ x) : Sx κ l yX5_hand cX5_hand 4 (m 0) [.int x, .int y, .int v] (4294967295) wr (InM κ m z n hz ln sg b0 b1 sv) := by
  obtain ⟨gg, ss, ya, ra, pa, h1, h2, h3, rfl⟩ := hw0
  refine ⟨_, _, _, _, _, _, _, c_X5_hand_er1 κ l m n ln x y v hx1, jn_ix (wr := [(m 1, aI κ 333 z), (m 2, aI κ 333 ya), (m 3, aI κ 1332 gg), (m 4, aI κ 666 ss), (m 5, aZ κ 2 (sb b0 b1)), (m 6, aI κ 60 sg), (m 7, aI κ 52 ra), (m 8, aI κ 52 pa)]) [0] [1, 2, 3, 4, 5, 6, 7, 8] rfl rfl rfl rfl (by decide), ⟨Nat.le_of_ble_eq_true rfl, Nat.le_of_ble_eq_true rfl⟩, ⟨Nat.le_of_ble_eq_true rfl, Nat.le_of_ble_eq_true rfl⟩, fun vv uu hp => ?_⟩
  obtain ⟨rr, rfl, rfl, rfl⟩ := hp
  exact ⟨rfl, _, _, rfl, Re.lit (X' := wMx κ m z n ln sg b0 b1 gg ss ya ra pa) [8, 0, 1, 2, 3, 4, 5, 6, 7] rfl rfl, gg, ss, ya, ra, pa, h1, h2, h3, rfl⟩
set_option maxHeartbeats 1000000 in
set_option maxRecDepth 100000 in
theorem e5_hand_er2 {κ : Kp} {l : Launch} {m z : Nat → Nat} {n : Nat} {hz : Nat → Nat → Nat} {ln : Nat} {sg : Nat → Nat} {b0 : Bool} {b1 : Bool} {sv : Nat → Nat → Nat} {wr : va_W} (hw0 : InM κ m z n hz ln sg b0 b1 sv wr) (b : Nat) (y : Int32) (v : Int32) (hb : b < 4) (hx2 : y < 0 ∨ nI 4 ≤ y) : Sx κ l yX5_hand cX5_hand 4 (m 0) [.int (nI b), .int y, .int v] (4294967295) wr (InM κ m z n hz ln sg b0 b1 sv) := by
  obtain ⟨gg, ss, ya, ra, pa, h1, h2, h3, rfl⟩ := hw0
  refine ⟨_, _, _, _, _, _, _, c_X5_hand_er2 κ l m n ln b y v hb hx2, jn_ix (wr := [(m 1, aI κ 333 z), (m 2, aI κ 333 ya), (m 3, aI κ 1332 gg), (m 4, aI κ 666 ss), (m 5, aZ κ 2 (sb b0 b1)), (m 6, aI κ 60 sg), (m 7, aI κ 52 ra), (m 8, aI κ 52 pa)]) [0] [1, 2, 3, 4, 5, 6, 7, 8] rfl rfl rfl rfl (by decide), ⟨Nat.le_of_ble_eq_true rfl, Nat.le_of_ble_eq_true rfl⟩, ⟨Nat.le_of_ble_eq_true rfl, Nat.le_of_ble_eq_true rfl⟩, fun vv uu hp => ?_⟩
  obtain ⟨rr, rfl, rfl, rfl⟩ := hp
  exact ⟨rfl, _, _, rfl, Re.lit (X' := wMx κ m z n ln sg b0 b1 gg ss ya ra pa) [8, 0, 1, 2, 3, 4, 5, 6, 7] rfl rfl, gg, ss, ya, ra, pa, h1, h2, h3, rfl⟩
set_option maxHeartbeats 1000000 in
set_option maxRecDepth 100000 in
theorem e5_hand_er3 {κ : Kp} {l : Launch} {m z : Nat → Nat} {n : Nat} {hz : Nat → Nat → Nat} {ln : Nat} {sg : Nat → Nat} {b0 : Bool} {b1 : Bool} {sv : Nat → Nat → Nat} {wr : va_W} (hw0 : InM κ m z n hz ln sg b0 b1 sv wr) (b : Nat) (h : Nat) (x : Int32) (hb : b < 4) (hh4 : h < 4) (hx1 : x < 0 ∨ nI 7 ≤ x) : Sx κ l yX5_hand cX5_hand 4 (m 0) [.int (nI b), .int (nI h), .int x] (4294967294) wr (InM κ m z n hz ln sg b0 b1 sv) := by
  obtain ⟨gg, ss, ya, ra, pa, h1, h2, h3, rfl⟩ := hw0
  refine ⟨_, _, _, _, _, _, _, c_X5_hand_er3 κ l m n ln b h x hb hh4 hx1, jn_ix (wr := [(m 1, aI κ 333 z), (m 2, aI κ 333 ya), (m 3, aI κ 1332 gg), (m 4, aI κ 666 ss), (m 5, aZ κ 2 (sb b0 b1)), (m 6, aI κ 60 sg), (m 7, aI κ 52 ra), (m 8, aI κ 52 pa)]) [0] [1, 2, 3, 4, 5, 6, 7, 8] rfl rfl rfl rfl (by decide), ⟨Nat.le_of_ble_eq_true rfl, Nat.le_of_ble_eq_true rfl⟩, ⟨Nat.le_of_ble_eq_true rfl, Nat.le_of_ble_eq_true rfl⟩, fun vv uu hp => ?_⟩
  obtain ⟨rr, rfl, rfl, rfl⟩ := hp
  exact ⟨rfl, _, _, rfl, Re.lit (X' := wMx κ m z n ln sg b0 b1 gg ss ya ra pa) [8, 0, 1, 2, 3, 4, 5, 6, 7] rfl rfl, gg, ss, ya, ra, pa, h1, h2, h3, rfl⟩
set_option maxHeartbeats 1000000 in
set_option maxRecDepth 100000 in
theorem e5_board_er1 {κ : Kp} {l : Launch} {m z : Nat → Nat} {n : Nat} {hz : Nat → Nat → Nat} {ln : Nat} {sg : Nat → Nat} {b0 : Bool} {b1 : Bool} {sv : Nat → Nat → Nat} {wr : va_W} (hw0 : InM κ m z n hz ln sg b0 b1 sv wr) (x : Int32) (y : Int32) (hx1 : x < 0 ∨ nI 4 ≤ x) : Sx κ l yX5_board cX5_board 3 (m 0) [.int x, .int y] (4294967295) wr (InM κ m z n hz ln sg b0 b1 sv) := by
  obtain ⟨gg, ss, ya, ra, pa, h1, h2, h3, rfl⟩ := hw0
  refine ⟨_, _, _, _, _, _, _, c_X5_board_er1 κ l m n ln x y hx1, jn_ix (wr := [(m 1, aI κ 333 z), (m 2, aI κ 333 ya), (m 3, aI κ 1332 gg), (m 4, aI κ 666 ss), (m 5, aZ κ 2 (sb b0 b1)), (m 6, aI κ 60 sg), (m 7, aI κ 52 ra), (m 8, aI κ 52 pa)]) [0] [1, 2, 3, 4, 5, 6, 7, 8] rfl rfl rfl rfl (by decide), ⟨Nat.le_of_ble_eq_true rfl, Nat.le_of_ble_eq_true rfl⟩, ⟨Nat.le_of_ble_eq_true rfl, Nat.le_of_ble_eq_true rfl⟩, fun vv uu hp => ?_⟩
  obtain ⟨rr, rfl, rfl, rfl⟩ := hp
  exact ⟨rfl, _, _, rfl, Re.lit (X' := wMx κ m z n ln sg b0 b1 gg ss ya ra pa) [8, 0, 1, 2, 3, 4, 5, 6, 7] rfl rfl, gg, ss, ya, ra, pa, h1, h2, h3, rfl⟩
set_option maxHeartbeats 1000000 in
set_option maxRecDepth 100000 in
theorem e5_board_er2 {κ : Kp} {l : Launch} {m z : Nat → Nat} {n : Nat} {hz : Nat → Nat → Nat} {ln : Nat} {sg : Nat → Nat} {b0 : Bool} {b1 : Bool} {sv : Nat → Nat → Nat} {wr : va_W} (hw0 : InM κ m z n hz ln sg b0 b1 sv wr) (b : Nat) (x : Int32) (hb : b < 4) (hx1 : x < 0 ∨ nI 5 ≤ x) : Sx κ l yX5_board cX5_board 3 (m 0) [.int (nI b), .int x] (4294967294) wr (InM κ m z n hz ln sg b0 b1 sv) := by
  obtain ⟨gg, ss, ya, ra, pa, h1, h2, h3, rfl⟩ := hw0
  refine ⟨_, _, _, _, _, _, _, c_X5_board_er2 κ l m n ln b x hb hx1, jn_ix (wr := [(m 1, aI κ 333 z), (m 2, aI κ 333 ya), (m 3, aI κ 1332 gg), (m 4, aI κ 666 ss), (m 5, aZ κ 2 (sb b0 b1)), (m 6, aI κ 60 sg), (m 7, aI κ 52 ra), (m 8, aI κ 52 pa)]) [0] [1, 2, 3, 4, 5, 6, 7, 8] rfl rfl rfl rfl (by decide), ⟨Nat.le_of_ble_eq_true rfl, Nat.le_of_ble_eq_true rfl⟩, ⟨Nat.le_of_ble_eq_true rfl, Nat.le_of_ble_eq_true rfl⟩, fun vv uu hp => ?_⟩
  obtain ⟨rr, rfl, rfl, rfl⟩ := hp
  exact ⟨rfl, _, _, rfl, Re.lit (X' := wMx κ m z n ln sg b0 b1 gg ss ya ra pa) [8, 0, 1, 2, 3, 4, 5, 6, 7] rfl rfl, gg, ss, ya, ra, pa, h1, h2, h3, rfl⟩
set_option maxHeartbeats 1000000 in
set_option maxRecDepth 100000 in
theorem e5_count_ok {κ : Kp} {l : Launch} {m z : Nat → Nat} {n : Nat} {hz : Nat → Nat → Nat} {ln : Nat} {sg : Nat → Nat} {b0 : Bool} {b1 : Bool} {sv : Nat → Nat → Nat} {wr : va_W} (hw0 : InM κ m z n hz ln sg b0 b1 sv wr) (w : Nat) (hv : Zv z) (hw14 : w < 14) : Sx κ l yX5_count cX5_count 2 (m 0) [.int (nI w)] (a_count z n ln w) wr (InM κ m z n hz ln sg b0 b1 sv) := by
  obtain ⟨gg, ss, ya, ra, pa, h1, h2, h3, rfl⟩ := hw0
  refine ⟨_, _, _, _, _, _, _, c_X5_count_ok κ l m n ln z w hv hw14, jn_ix (wr := [(m 2, aI κ 333 ya), (m 3, aI κ 1332 gg), (m 4, aI κ 666 ss), (m 5, aZ κ 2 (sb b0 b1)), (m 6, aI κ 60 sg), (m 7, aI κ 52 ra), (m 8, aI κ 52 pa)]) [0, 1] [2, 3, 4, 5, 6, 7, 8] rfl rfl rfl rfl (by decide), ⟨Nat.le_of_ble_eq_true rfl, Nat.le_of_ble_eq_true rfl⟩, ⟨Nat.le_of_ble_eq_true rfl, Nat.le_of_ble_eq_true rfl⟩, fun vv uu hp => ?_⟩
  obtain ⟨rr, rfl, rfl, rfl⟩ := hp
  exact ⟨rfl, _, _, rfl, Re.lit (X' := wMx κ m z n ln sg b0 b1 gg ss ya ra pa) [7, 8, 0, 1, 2, 3, 4, 5, 6] rfl rfl, gg, ss, ya, ra, pa, h1, h2, h3, rfl⟩
set_option maxHeartbeats 1000000 in
set_option maxRecDepth 100000 in
theorem e5_count_er {κ : Kp} {l : Launch} {m z : Nat → Nat} {n : Nat} {hz : Nat → Nat → Nat} {ln : Nat} {sg : Nat → Nat} {b0 : Bool} {b1 : Bool} {sv : Nat → Nat → Nat} {wr : va_W} (hw0 : InM κ m z n hz ln sg b0 b1 sv wr) (x : Int32) (hx1 : x < 0 ∨ nI 14 ≤ x) : Sx κ l yX5_count cX5_count 2 (m 0) [.int x] (4294967294) wr (InM κ m z n hz ln sg b0 b1 sv) := by
  obtain ⟨gg, ss, ya, ra, pa, h1, h2, h3, rfl⟩ := hw0
  refine ⟨_, _, _, _, _, _, _, c_X5_count_er κ l m n ln x hx1, jn_ix (wr := [(m 1, aI κ 333 z), (m 2, aI κ 333 ya), (m 3, aI κ 1332 gg), (m 4, aI κ 666 ss), (m 5, aZ κ 2 (sb b0 b1)), (m 6, aI κ 60 sg), (m 7, aI κ 52 ra), (m 8, aI κ 52 pa)]) [0] [1, 2, 3, 4, 5, 6, 7, 8] rfl rfl rfl rfl (by decide), ⟨Nat.le_of_ble_eq_true rfl, Nat.le_of_ble_eq_true rfl⟩, ⟨Nat.le_of_ble_eq_true rfl, Nat.le_of_ble_eq_true rfl⟩, fun vv uu hp => ?_⟩
  obtain ⟨rr, rfl, rfl, rfl⟩ := hp
  exact ⟨rfl, _, _, rfl, Re.lit (X' := wMx κ m z n ln sg b0 b1 gg ss ya ra pa) [8, 0, 1, 2, 3, 4, 5, 6, 7] rfl rfl, gg, ss, ya, ra, pa, h1, h2, h3, rfl⟩
set_option maxHeartbeats 1000000 in
set_option maxRecDepth 100000 in
theorem e5_alike_ok {κ : Kp} {l : Launch} {m z : Nat → Nat} {n : Nat} {hz : Nat → Nat → Nat} {ln : Nat} {sg : Nat → Nat} {b0 : Bool} {b1 : Bool} {sv : Nat → Nat → Nat} {wr : va_W} (hw0 : InM κ m z n hz ln sg b0 b1 sv wr) (b : Nat) (c : Nat) (hv : Zv z) (hb : b < 4) (hc4 : c < 4) (hha : z (312 + b) = 1) (hhc : z (312 + c) = 1) : Sx κ l yX5_alike cX5_alike 5 (m 0) [.int (nI b), .int (nI c)] (al (hd z b) (hd z c)) wr (InM κ m z n hz ln sg b0 b1 sv) := by
  obtain ⟨gg, ss, ya, ra, pa, h1, h2, h3, rfl⟩ := hw0
  refine ⟨_, _, _, _, _, _, _, c_X5_alike_ok κ l m n ln z b c hv hb hc4 hha hhc, jn_ix (wr := [(m 2, aI κ 333 ya), (m 3, aI κ 1332 gg), (m 4, aI κ 666 ss), (m 5, aZ κ 2 (sb b0 b1)), (m 6, aI κ 60 sg), (m 7, aI κ 52 ra), (m 8, aI κ 52 pa)]) [0, 1] [2, 3, 4, 5, 6, 7, 8] rfl rfl rfl rfl (by decide), ⟨Nat.le_of_ble_eq_true rfl, Nat.le_of_ble_eq_true rfl⟩, ⟨Nat.le_of_ble_eq_true rfl, Nat.le_of_ble_eq_true rfl⟩, fun vv uu hp => ?_⟩
  obtain ⟨rr, rfl, rfl, rfl⟩ := hp
  exact ⟨rfl, _, _, rfl, Re.lit (X' := wMx κ m z n ln sg b0 b1 gg ss ya ra pa) [7, 8, 0, 1, 2, 3, 4, 5, 6] rfl rfl, gg, ss, ya, ra, pa, h1, h2, h3, rfl⟩
set_option maxHeartbeats 1000000 in
set_option maxRecDepth 100000 in
theorem e5_alike_no {κ : Kp} {l : Launch} {m z : Nat → Nat} {n : Nat} {hz : Nat → Nat → Nat} {ln : Nat} {sg : Nat → Nat} {b0 : Bool} {b1 : Bool} {sv : Nat → Nat → Nat} {wr : va_W} (hw0 : InM κ m z n hz ln sg b0 b1 sv wr) (b : Nat) (c : Nat) (hb : b < 4) (hc4 : c < 4) (hno : z (312 + b) = 0 ∨ z (312 + c) = 0) (hf : ∀ k, k < 8 → z (312 + k) ≤ 1) : Sx κ l yX5_alike cX5_alike 5 (m 0) [.int (nI b), .int (nI c)] (4294967290) wr (InM κ m z n hz ln sg b0 b1 sv) := by
  obtain ⟨gg, ss, ya, ra, pa, h1, h2, h3, rfl⟩ := hw0
  refine ⟨_, _, _, _, _, _, _, c_X5_alike_no κ l m n ln z b c hb hc4 hno hf, jn_ix (wr := [(m 2, aI κ 333 ya), (m 3, aI κ 1332 gg), (m 4, aI κ 666 ss), (m 5, aZ κ 2 (sb b0 b1)), (m 6, aI κ 60 sg), (m 7, aI κ 52 ra), (m 8, aI κ 52 pa)]) [0, 1] [2, 3, 4, 5, 6, 7, 8] rfl rfl rfl rfl (by decide), ⟨Nat.le_of_ble_eq_true rfl, Nat.le_of_ble_eq_true rfl⟩, ⟨Nat.le_of_ble_eq_true rfl, Nat.le_of_ble_eq_true rfl⟩, fun vv uu hp => ?_⟩
  obtain ⟨rr, rfl, rfl, rfl⟩ := hp
  exact ⟨rfl, _, _, rfl, Re.lit (X' := wMx κ m z n ln sg b0 b1 gg ss ya ra pa) [7, 8, 0, 1, 2, 3, 4, 5, 6] rfl rfl, gg, ss, ya, ra, pa, h1, h2, h3, rfl⟩
set_option maxHeartbeats 1000000 in
set_option maxRecDepth 100000 in
theorem e5_alike_er1 {κ : Kp} {l : Launch} {m z : Nat → Nat} {n : Nat} {hz : Nat → Nat → Nat} {ln : Nat} {sg : Nat → Nat} {b0 : Bool} {b1 : Bool} {sv : Nat → Nat → Nat} {wr : va_W} (hw0 : InM κ m z n hz ln sg b0 b1 sv wr) (x : Int32) (y : Int32) (hx1 : x < 0 ∨ nI 4 ≤ x) : Sx κ l yX5_alike cX5_alike 5 (m 0) [.int x, .int y] (4294967295) wr (InM κ m z n hz ln sg b0 b1 sv) := by
  obtain ⟨gg, ss, ya, ra, pa, h1, h2, h3, rfl⟩ := hw0
  refine ⟨_, _, _, _, _, _, _, c_X5_alike_er1 κ l m n ln x y hx1, jn_ix (wr := [(m 1, aI κ 333 z), (m 2, aI κ 333 ya), (m 3, aI κ 1332 gg), (m 4, aI κ 666 ss), (m 5, aZ κ 2 (sb b0 b1)), (m 6, aI κ 60 sg), (m 7, aI κ 52 ra), (m 8, aI κ 52 pa)]) [0] [1, 2, 3, 4, 5, 6, 7, 8] rfl rfl rfl rfl (by decide), ⟨Nat.le_of_ble_eq_true rfl, Nat.le_of_ble_eq_true rfl⟩, ⟨Nat.le_of_ble_eq_true rfl, Nat.le_of_ble_eq_true rfl⟩, fun vv uu hp => ?_⟩
  obtain ⟨rr, rfl, rfl, rfl⟩ := hp
  exact ⟨rfl, _, _, rfl, Re.lit (X' := wMx κ m z n ln sg b0 b1 gg ss ya ra pa) [8, 0, 1, 2, 3, 4, 5, 6, 7] rfl rfl, gg, ss, ya, ra, pa, h1, h2, h3, rfl⟩
set_option maxHeartbeats 1000000 in
set_option maxRecDepth 100000 in
theorem e5_alike_er3 {κ : Kp} {l : Launch} {m z : Nat → Nat} {n : Nat} {hz : Nat → Nat → Nat} {ln : Nat} {sg : Nat → Nat} {b0 : Bool} {b1 : Bool} {sv : Nat → Nat → Nat} {wr : va_W} (hw0 : InM κ m z n hz ln sg b0 b1 sv wr) (b : Nat) (y : Int32) (hb : b < 4) (hx2 : y < 0 ∨ nI 4 ≤ y) : Sx κ l yX5_alike cX5_alike 5 (m 0) [.int (nI b), .int y] (4294967295) wr (InM κ m z n hz ln sg b0 b1 sv) := by
  obtain ⟨gg, ss, ya, ra, pa, h1, h2, h3, rfl⟩ := hw0
  refine ⟨_, _, _, _, _, _, _, c_X5_alike_er3 κ l m n ln b y hb hx2, jn_ix (wr := [(m 1, aI κ 333 z), (m 2, aI κ 333 ya), (m 3, aI κ 1332 gg), (m 4, aI κ 666 ss), (m 5, aZ κ 2 (sb b0 b1)), (m 6, aI κ 60 sg), (m 7, aI κ 52 ra), (m 8, aI κ 52 pa)]) [0] [1, 2, 3, 4, 5, 6, 7, 8] rfl rfl rfl rfl (by decide), ⟨Nat.le_of_ble_eq_true rfl, Nat.le_of_ble_eq_true rfl⟩, ⟨Nat.le_of_ble_eq_true rfl, Nat.le_of_ble_eq_true rfl⟩, fun vv uu hp => ?_⟩
  obtain ⟨rr, rfl, rfl, rfl⟩ := hp
  exact ⟨rfl, _, _, rfl, Re.lit (X' := wMx κ m z n ln sg b0 b1 gg ss ya ra pa) [8, 0, 1, 2, 3, 4, 5, 6, 7] rfl rfl, gg, ss, ya, ra, pa, h1, h2, h3, rfl⟩
set_option maxHeartbeats 1000000 in
set_option maxRecDepth 100000 in
theorem e5_ifRiffled_ok0 {κ : Kp} {l : Launch} {m z : Nat → Nat} {n : Nat} {hz : Nat → Nat → Nat} {ln : Nat} {sg : Nat → Nat} {b0 : Bool} {b1 : Bool} {sv : Nat → Nat → Nat} {wr : va_W} (hw0 : InM κ m z n hz ln sg b0 b1 sv wr) (r : Nat) (hv : Zv z) (hr1 : 1 ≤ r) (hr2 : r ≤ 20) : Sx κ l yX5_ifRiffled cX5_ifRiffled 3 (m 0) [.int (nI r), .int (nI 0)] (kp z (ri z r).2) wr (InM κ m z n hz ln sg b0 b1 sv) := by
  obtain ⟨gg, ss, ya, ra, pa, h1, h2, h3, rfl⟩ := hw0
  refine ⟨_, _, _, _, _, _, _, c_X5_ifRiffled_ok0 κ l m n ln z ya ra pa r hv hr1 hr2, jn_ix (wr := [(m 3, aI κ 1332 gg), (m 4, aI κ 666 ss), (m 5, aZ κ 2 (sb b0 b1)), (m 6, aI κ 60 sg)]) [0, 1, 2, 7, 8] [3, 4, 5, 6] rfl rfl rfl rfl (by decide), ⟨Nat.le_of_ble_eq_true rfl, Nat.le_of_ble_eq_true rfl⟩, ⟨Nat.le_of_ble_eq_true rfl, Nat.le_of_ble_eq_true rfl⟩, fun vv uu hp => ?_⟩
  obtain ⟨rr, rfl, r2, p2, rfl, rfl⟩ := hp
  exact ⟨rfl, _, _, rfl, Re.lit (X' := wMx κ m z n ln sg b0 b1 gg ss z r2 p2) [4, 5, 6, 0, 1, 2, 3, 7, 8] rfl rfl, gg, ss, z, r2, p2, h1, h2, h3, rfl⟩
set_option maxHeartbeats 1000000 in
set_option maxRecDepth 100000 in
theorem e5_ifRiffled_ok1 {κ : Kp} {l : Launch} {m z : Nat → Nat} {n : Nat} {hz : Nat → Nat → Nat} {ln : Nat} {sg : Nat → Nat} {b0 : Bool} {b1 : Bool} {sv : Nat → Nat → Nat} {wr : va_W} (hw0 : InM κ m z n hz ln sg b0 b1 sv wr) (r : Nat) (hv : Zv z) (hr1 : 1 ≤ r) (hr2 : r ≤ 20) : Sx κ l yX5_ifRiffled cX5_ifRiffled 3 (m 0) [.int (nI r), .int (nI 1)] (kp z (ri z r).2) wr (InM κ m z n hz ln sg b0 b1 sv) := by
  obtain ⟨gg, ss, ya, ra, pa, h1, h2, h3, rfl⟩ := hw0
  refine ⟨_, _, _, _, _, _, _, c_X5_ifRiffled_ok1 κ l m n ln z ya ra pa r hv hr1 hr2, jn_ix (wr := [(m 3, aI κ 1332 gg), (m 4, aI κ 666 ss), (m 5, aZ κ 2 (sb b0 b1)), (m 6, aI κ 60 sg)]) [0, 1, 2, 7, 8] [3, 4, 5, 6] rfl rfl rfl rfl (by decide), ⟨Nat.le_of_ble_eq_true rfl, Nat.le_of_ble_eq_true rfl⟩, ⟨Nat.le_of_ble_eq_true rfl, Nat.le_of_ble_eq_true rfl⟩, fun vv uu hp => ?_⟩
  obtain ⟨rr, rfl, r2, p2, rfl, rfl⟩ := hp
  exact ⟨rfl, _, _, rfl, Re.lit (X' := wMx κ m z n ln sg b0 b1 gg ss z r2 p2) [4, 5, 6, 0, 1, 2, 3, 7, 8] rfl rfl, gg, ss, z, r2, p2, h1, h2, h3, rfl⟩
set_option maxHeartbeats 1000000 in
set_option maxRecDepth 100000 in
theorem e5_ifRiffled_er1 {κ : Kp} {l : Launch} {m z : Nat → Nat} {n : Nat} {hz : Nat → Nat → Nat} {ln : Nat} {sg : Nat → Nat} {b0 : Bool} {b1 : Bool} {sv : Nat → Nat → Nat} {wr : va_W} (hw0 : InM κ m z n hz ln sg b0 b1 sv wr) (x : Int32) (y : Int32) (hx1 : x < 0 ∨ nI 21 ≤ x) : Sx κ l yX5_ifRiffled cX5_ifRiffled 3 (m 0) [.int x, .int y] (4294967294) wr (InM κ m z n hz ln sg b0 b1 sv) := by
  obtain ⟨gg, ss, ya, ra, pa, h1, h2, h3, rfl⟩ := hw0
  refine ⟨_, _, _, _, _, _, _, c_X5_ifRiffled_er1 κ l m n ln x y hx1, jn_ix (wr := [(m 1, aI κ 333 z), (m 2, aI κ 333 ya), (m 3, aI κ 1332 gg), (m 4, aI κ 666 ss), (m 5, aZ κ 2 (sb b0 b1)), (m 6, aI κ 60 sg), (m 7, aI κ 52 ra), (m 8, aI κ 52 pa)]) [0] [1, 2, 3, 4, 5, 6, 7, 8] rfl rfl rfl rfl (by decide), ⟨Nat.le_of_ble_eq_true rfl, Nat.le_of_ble_eq_true rfl⟩, ⟨Nat.le_of_ble_eq_true rfl, Nat.le_of_ble_eq_true rfl⟩, fun vv uu hp => ?_⟩
  obtain ⟨rr, rfl, rfl, rfl⟩ := hp
  exact ⟨rfl, _, _, rfl, Re.lit (X' := wMx κ m z n ln sg b0 b1 gg ss ya ra pa) [8, 0, 1, 2, 3, 4, 5, 6, 7] rfl rfl, gg, ss, ya, ra, pa, h1, h2, h3, rfl⟩
set_option maxHeartbeats 1000000 in
set_option maxRecDepth 100000 in
theorem e5_ifRiffled_er2 {κ : Kp} {l : Launch} {m z : Nat → Nat} {n : Nat} {hz : Nat → Nat → Nat} {ln : Nat} {sg : Nat → Nat} {b0 : Bool} {b1 : Bool} {sv : Nat → Nat → Nat} {wr : va_W} (hw0 : InM κ m z n hz ln sg b0 b1 sv wr) (y : Int32)  : Sx κ l yX5_ifRiffled cX5_ifRiffled 3 (m 0) [.int (nI 0), .int y] (4294967294) wr (InM κ m z n hz ln sg b0 b1 sv) := by
  obtain ⟨gg, ss, ya, ra, pa, h1, h2, h3, rfl⟩ := hw0
  refine ⟨_, _, _, _, _, _, _, c_X5_ifRiffled_er2 κ l m n ln y , jn_ix (wr := [(m 1, aI κ 333 z), (m 2, aI κ 333 ya), (m 3, aI κ 1332 gg), (m 4, aI κ 666 ss), (m 5, aZ κ 2 (sb b0 b1)), (m 6, aI κ 60 sg), (m 7, aI κ 52 ra), (m 8, aI κ 52 pa)]) [0] [1, 2, 3, 4, 5, 6, 7, 8] rfl rfl rfl rfl (by decide), ⟨Nat.le_of_ble_eq_true rfl, Nat.le_of_ble_eq_true rfl⟩, ⟨Nat.le_of_ble_eq_true rfl, Nat.le_of_ble_eq_true rfl⟩, fun vv uu hp => ?_⟩
  obtain ⟨rr, rfl, rfl, rfl⟩ := hp
  exact ⟨rfl, _, _, rfl, Re.lit (X' := wMx κ m z n ln sg b0 b1 gg ss ya ra pa) [8, 0, 1, 2, 3, 4, 5, 6, 7] rfl rfl, gg, ss, ya, ra, pa, h1, h2, h3, rfl⟩
set_option maxHeartbeats 1000000 in
set_option maxRecDepth 100000 in
theorem e5_ifRiffled_er3 {κ : Kp} {l : Launch} {m z : Nat → Nat} {n : Nat} {hz : Nat → Nat → Nat} {ln : Nat} {sg : Nat → Nat} {b0 : Bool} {b1 : Bool} {sv : Nat → Nat → Nat} {wr : va_W} (hw0 : InM κ m z n hz ln sg b0 b1 sv wr) (r : Nat) (y : Int32) (hr1 : 1 ≤ r) (hr2 : r ≤ 20) (hx2 : y < 0 ∨ nI 2 ≤ y) : Sx κ l yX5_ifRiffled cX5_ifRiffled 3 (m 0) [.int (nI r), .int y] (4294967294) wr (InM κ m z n hz ln sg b0 b1 sv) := by
  obtain ⟨gg, ss, ya, ra, pa, h1, h2, h3, rfl⟩ := hw0
  refine ⟨_, _, _, _, _, _, _, c_X5_ifRiffled_er3 κ l m n ln r y hr1 hr2 hx2, jn_ix (wr := [(m 1, aI κ 333 z), (m 2, aI κ 333 ya), (m 3, aI κ 1332 gg), (m 4, aI κ 666 ss), (m 5, aZ κ 2 (sb b0 b1)), (m 6, aI κ 60 sg), (m 7, aI κ 52 ra), (m 8, aI κ 52 pa)]) [0] [1, 2, 3, 4, 5, 6, 7, 8] rfl rfl rfl rfl (by decide), ⟨Nat.le_of_ble_eq_true rfl, Nat.le_of_ble_eq_true rfl⟩, ⟨Nat.le_of_ble_eq_true rfl, Nat.le_of_ble_eq_true rfl⟩, fun vv uu hp => ?_⟩
  obtain ⟨rr, rfl, rfl, rfl⟩ := hp
  exact ⟨rfl, _, _, rfl, Re.lit (X' := wMx κ m z n ln sg b0 b1 gg ss ya ra pa) [8, 0, 1, 2, 3, 4, 5, 6, 7] rfl rfl, gg, ss, ya, ra, pa, h1, h2, h3, rfl⟩
set_option maxHeartbeats 1000000 in
set_option maxRecDepth 100000 in
theorem e5_needed {κ : Kp} {l : Launch} {m z : Nat → Nat} {n : Nat} {hz : Nat → Nat → Nat} {ln : Nat} {sg : Nat → Nat} {b0 : Bool} {b1 : Bool} {sv : Nat → Nat → Nat} {wr : va_W} (hw0 : InM κ m z n hz ln sg b0 b1 sv wr)  (hv : Zv z) : Sx κ l yX5_needed cX5_needed 2 (m 0) [] (nds z 20 1) wr (InM κ m z n hz ln sg b0 b1 sv) := by
  obtain ⟨gg, ss, ya, ra, pa, h1, h2, h3, rfl⟩ := hw0
  refine ⟨_, _, _, _, _, _, _, c_X5_needed κ l m n ln z ya ra pa hv, jn_ix (wr := [(m 3, aI κ 1332 gg), (m 4, aI κ 666 ss), (m 5, aZ κ 2 (sb b0 b1)), (m 6, aI κ 60 sg)]) [0, 1, 2, 7, 8] [3, 4, 5, 6] rfl rfl rfl rfl (by decide), ⟨Nat.le_of_ble_eq_true rfl, Nat.le_of_ble_eq_true rfl⟩, ⟨Nat.le_of_ble_eq_true rfl, Nat.le_of_ble_eq_true rfl⟩, fun vv uu hp => ?_⟩
  obtain ⟨rr, rfl, y2, r2, p2, rfl, rfl⟩ := hp
  exact ⟨rfl, _, _, rfl, Re.lit (X' := wMx κ m z n ln sg b0 b1 gg ss y2 r2 p2) [4, 5, 6, 0, 1, 2, 3, 7, 8] rfl rfl, gg, ss, y2, r2, p2, h1, h2, h3, rfl⟩
set_option maxHeartbeats 1000000 in
set_option maxRecDepth 100000 in
theorem e5_worstBend {κ : Kp} {l : Launch} {m z : Nat → Nat} {n : Nat} {hz : Nat → Nat → Nat} {ln : Nat} {sg : Nat → Nat} {b0 : Bool} {b1 : Bool} {sv : Nat → Nat → Nat} {wr : va_W} (hw0 : InM κ m z n hz ln sg b0 b1 sv wr)  (hv : Zv z) : Sx κ l yX5_worstBend cX5_worstBend 5 (m 0) [] ((wbs z 52).1) wr (InM κ m z n hz ln sg b0 b1 sv) := by
  obtain ⟨gg, ss, ya, ra, pa, h1, h2, h3, rfl⟩ := hw0
  refine ⟨_, _, _, _, _, _, _, c_X5_worstBend κ l m n ln z ya ra pa hv, jn_ix (wr := [(m 3, aI κ 1332 gg), (m 4, aI κ 666 ss), (m 5, aZ κ 2 (sb b0 b1)), (m 6, aI κ 60 sg)]) [0, 1, 2, 7, 8] [3, 4, 5, 6] rfl rfl rfl rfl (by decide), ⟨Nat.le_of_ble_eq_true rfl, Nat.le_of_ble_eq_true rfl⟩, ⟨Nat.le_of_ble_eq_true rfl, Nat.le_of_ble_eq_true rfl⟩, fun vv uu hp => ?_⟩
  obtain ⟨rr, rfl, y2, r2, p2, rfl, rfl⟩ := hp
  exact ⟨rfl, _, _, rfl, Re.lit (X' := wMx κ m z n ln sg b0 b1 gg ss y2 r2 p2) [4, 5, 6, 0, 1, 2, 3, 7, 8] rfl rfl, gg, ss, y2, r2, p2, h1, h2, h3, rfl⟩
set_option maxHeartbeats 1000000 in
set_option maxRecDepth 100000 in
theorem e5_put {κ : Kp} {l : Launch} {m z : Nat → Nat} {n : Nat} {hz : Nat → Nat → Nat} {ln : Nat} {sg : Nat → Nat} {b0 : Bool} {b1 : Bool} {sv : Nat → Nat → Nat} {wr : va_W} (hw0 : InM κ m z n hz ln sg b0 b1 sv wr) (w : Nat) (hln : ln ≤ 60) (hw : w < 2 ^ 64) : Sx κ l yX5_put cX5_put 8 (m 0) [.long (lN w)] (pur ln w) wr (InM κ m z n hz (pul ln w) (pus sg ln w) b0 b1 sv) := by
  obtain ⟨gg, ss, ya, ra, pa, h1, h2, h3, rfl⟩ := hw0
  refine ⟨_, _, _, _, _, _, _, c_X5_put κ l m n ln w sg hln hw, jn_ix (wr := [(m 1, aI κ 333 z), (m 2, aI κ 333 ya), (m 3, aI κ 1332 gg), (m 4, aI κ 666 ss), (m 5, aZ κ 2 (sb b0 b1)), (m 7, aI κ 52 ra), (m 8, aI κ 52 pa)]) [0, 6] [1, 2, 3, 4, 5, 7, 8] rfl rfl rfl rfl (by decide), ⟨Nat.le_of_ble_eq_true rfl, Nat.le_of_ble_eq_true rfl⟩, ⟨Nat.le_of_ble_eq_true rfl, Nat.le_of_ble_eq_true rfl⟩, fun vv uu hp => ?_⟩
  obtain ⟨rr, rfl, rfl, rfl⟩ := hp
  exact ⟨rfl, _, _, rfl, Re.lit (X' := wMx κ m z n (pul ln w) (pus sg ln w) b0 b1 gg ss ya ra pa) [7, 0, 1, 2, 3, 4, 8, 5, 6] rfl rfl, gg, ss, ya, ra, pa, h1, h2, h3, rfl⟩
set_option maxHeartbeats 1000000 in
set_option maxRecDepth 100000 in
theorem e5_wipe {κ : Kp} {l : Launch} {m z : Nat → Nat} {n : Nat} {hz : Nat → Nat → Nat} {ln : Nat} {sg : Nat → Nat} {b0 : Bool} {b1 : Bool} {sv : Nat → Nat → Nat} {wr : va_W} (hw0 : InM κ m z n hz ln sg b0 b1 sv wr)   : Sx κ l yX5_wipe cX5_wipe 2 (m 0) [] (ln) wr (InM κ m z n hz 0 sg b0 b1 sv) := by
  obtain ⟨gg, ss, ya, ra, pa, h1, h2, h3, rfl⟩ := hw0
  refine ⟨_, _, _, _, _, _, _, c_X5_wipe κ l m n ln , jn_ix (wr := [(m 1, aI κ 333 z), (m 2, aI κ 333 ya), (m 3, aI κ 1332 gg), (m 4, aI κ 666 ss), (m 5, aZ κ 2 (sb b0 b1)), (m 6, aI κ 60 sg), (m 7, aI κ 52 ra), (m 8, aI κ 52 pa)]) [0] [1, 2, 3, 4, 5, 6, 7, 8] rfl rfl rfl rfl (by decide), ⟨Nat.le_of_ble_eq_true rfl, Nat.le_of_ble_eq_true rfl⟩, ⟨Nat.le_of_ble_eq_true rfl, Nat.le_of_ble_eq_true rfl⟩, fun vv uu hp => ?_⟩
  obtain ⟨rr, rfl, rfl, rfl⟩ := hp
  exact ⟨rfl, _, _, rfl, Re.lit (X' := wMx κ m z n 0 sg b0 b1 gg ss ya ra pa) [8, 0, 1, 2, 3, 4, 5, 6, 7] rfl rfl, gg, ss, ya, ra, pa, h1, h2, h3, rfl⟩
set_option maxHeartbeats 1000000 in
set_option maxRecDepth 100000 in
theorem e5_fault {κ : Kp} {l : Launch} {m z : Nat → Nat} {n : Nat} {hz : Nat → Nat → Nat} {ln : Nat} {sg : Nat → Nat} {b0 : Bool} {b1 : Bool} {sv : Nat → Nat → Nat} {wr : va_W} (hw0 : InM κ m z n hz ln sg b0 b1 sv wr)  (hln : ln ≤ 60) (hsg : ∀ k, k < 60 → sg k < 128) : Sx κ l yX5_fault cX5_fault 1 (m 0) [] (ff sg ln) wr (InM κ m z n hz ln sg b0 b1 sv) := by
  obtain ⟨gg, ss, ya, ra, pa, h1, h2, h3, rfl⟩ := hw0
  refine ⟨_, _, _, _, _, _, _, c_X5_fault κ l m n ln sg hln hsg, jn_ix (wr := [(m 1, aI κ 333 z), (m 2, aI κ 333 ya), (m 3, aI κ 1332 gg), (m 4, aI κ 666 ss), (m 5, aZ κ 2 (sb b0 b1)), (m 7, aI κ 52 ra), (m 8, aI κ 52 pa)]) [0, 6] [1, 2, 3, 4, 5, 7, 8] rfl rfl rfl rfl (by decide), ⟨Nat.le_of_ble_eq_true rfl, Nat.le_of_ble_eq_true rfl⟩, ⟨Nat.le_of_ble_eq_true rfl, Nat.le_of_ble_eq_true rfl⟩, fun vv uu hp => ?_⟩
  obtain ⟨rr, rfl, rfl, rfl⟩ := hp
  exact ⟨rfl, _, _, rfl, Re.lit (X' := wMx κ m z n ln sg b0 b1 gg ss ya ra pa) [7, 0, 1, 2, 3, 4, 8, 5, 6] rfl rfl, gg, ss, ya, ra, pa, h1, h2, h3, rfl⟩
set_option maxHeartbeats 1000000 in
set_option maxRecDepth 100000 in
theorem e5_undo {κ : Kp} {l : Launch} {m z : Nat → Nat} {n : Nat} {hz : Nat → Nat → Nat} {ln : Nat} {sg : Nat → Nat} {b0 : Bool} {b1 : Bool} {sv : Nat → Nat → Nat} {wr : va_W} (hw0 : InM κ m z n hz ln sg b0 b1 sv wr)  (hn : n ≤ 4) : Sx κ l yX5_undo cX5_undo 2 (m 0) [] (a_undo n) wr (InM κ m (u_z n hz z) (u_n n) hz ln sg b0 b1 sv) := by
  obtain ⟨gg, ss, ya, ra, pa, h1, h2, h3, rfl⟩ := hw0
  refine ⟨_, _, _, _, _, _, _, c_X5_undo κ l m n ln z gg hz hn h1, jn_ix (wr := [(m 2, aI κ 333 ya), (m 4, aI κ 666 ss), (m 5, aZ κ 2 (sb b0 b1)), (m 6, aI κ 60 sg), (m 7, aI κ 52 ra), (m 8, aI κ 52 pa)]) [0, 1, 3] [2, 4, 5, 6, 7, 8] rfl rfl rfl rfl (by decide), ⟨Nat.le_of_ble_eq_true rfl, Nat.le_of_ble_eq_true rfl⟩, ⟨Nat.le_of_ble_eq_true rfl, Nat.le_of_ble_eq_true rfl⟩, fun vv uu hp => ?_⟩
  obtain ⟨rr, rfl, rfl, rfl⟩ := hp
  exact ⟨rfl, _, _, rfl, Re.lit (X' := wMx κ m (u_z n hz z) (u_n n) ln sg b0 b1 gg ss ya ra pa) [6, 7, 0, 8, 1, 2, 3, 4, 5] rfl rfl, gg, ss, ya, ra, pa, (hb_u h1), h2, h3, rfl⟩
set_option maxHeartbeats 1000000 in
set_option maxRecDepth 100000 in
theorem e5_save_er {κ : Kp} {l : Launch} {m z : Nat → Nat} {n : Nat} {hz : Nat → Nat → Nat} {ln : Nat} {sg : Nat → Nat} {b0 : Bool} {b1 : Bool} {sv : Nat → Nat → Nat} {wr : va_W} (hw0 : InM κ m z n hz ln sg b0 b1 sv wr) (x : Int32) (hx1 : x < 0 ∨ nI 2 ≤ x) : Sx κ l yX5_save cX5_save 3 (m 0) [.int x] (4294967294) wr (InM κ m z n hz ln sg b0 b1 sv) := by
  obtain ⟨gg, ss, ya, ra, pa, h1, h2, h3, rfl⟩ := hw0
  refine ⟨_, _, _, _, _, _, _, c_X5_save_er κ l m n ln x hx1, jn_ix (wr := [(m 1, aI κ 333 z), (m 2, aI κ 333 ya), (m 3, aI κ 1332 gg), (m 4, aI κ 666 ss), (m 5, aZ κ 2 (sb b0 b1)), (m 6, aI κ 60 sg), (m 7, aI κ 52 ra), (m 8, aI κ 52 pa)]) [0] [1, 2, 3, 4, 5, 6, 7, 8] rfl rfl rfl rfl (by decide), ⟨Nat.le_of_ble_eq_true rfl, Nat.le_of_ble_eq_true rfl⟩, ⟨Nat.le_of_ble_eq_true rfl, Nat.le_of_ble_eq_true rfl⟩, fun vv uu hp => ?_⟩
  obtain ⟨rr, rfl, rfl, rfl⟩ := hp
  exact ⟨rfl, _, _, rfl, Re.lit (X' := wMx κ m z n ln sg b0 b1 gg ss ya ra pa) [8, 0, 1, 2, 3, 4, 5, 6, 7] rfl rfl, gg, ss, ya, ra, pa, h1, h2, h3, rfl⟩
set_option maxHeartbeats 1000000 in
set_option maxRecDepth 100000 in
theorem e5_restore_er {κ : Kp} {l : Launch} {m z : Nat → Nat} {n : Nat} {hz : Nat → Nat → Nat} {ln : Nat} {sg : Nat → Nat} {b0 : Bool} {b1 : Bool} {sv : Nat → Nat → Nat} {wr : va_W} (hw0 : InM κ m z n hz ln sg b0 b1 sv wr) (x : Int32) (hx1 : x < 0 ∨ nI 2 ≤ x) : Sx κ l yX5_restore cX5_restore 3 (m 0) [.int x] (4294967294) wr (InM κ m z n hz ln sg b0 b1 sv) := by
  obtain ⟨gg, ss, ya, ra, pa, h1, h2, h3, rfl⟩ := hw0
  refine ⟨_, _, _, _, _, _, _, c_X5_restore_er κ l m n ln x hx1, jn_ix (wr := [(m 1, aI κ 333 z), (m 2, aI κ 333 ya), (m 3, aI κ 1332 gg), (m 4, aI κ 666 ss), (m 5, aZ κ 2 (sb b0 b1)), (m 6, aI κ 60 sg), (m 7, aI κ 52 ra), (m 8, aI κ 52 pa)]) [0] [1, 2, 3, 4, 5, 6, 7, 8] rfl rfl rfl rfl (by decide), ⟨Nat.le_of_ble_eq_true rfl, Nat.le_of_ble_eq_true rfl⟩, ⟨Nat.le_of_ble_eq_true rfl, Nat.le_of_ble_eq_true rfl⟩, fun vv uu hp => ?_⟩
  obtain ⟨rr, rfl, rfl, rfl⟩ := hp
  exact ⟨rfl, _, _, rfl, Re.lit (X' := wMx κ m z n ln sg b0 b1 gg ss ya ra pa) [8, 0, 1, 2, 3, 4, 5, 6, 7] rfl rfl, gg, ss, ya, ra, pa, h1, h2, h3, rfl⟩
set_option maxHeartbeats 1000000 in
set_option maxRecDepth 100000 in
theorem e5_board_ok0 {κ : Kp} {l : Launch} {m z : Nat → Nat} {n : Nat} {hz : Nat → Nat → Nat} {ln : Nat} {sg : Nat → Nat} {b0 : Bool} {b1 : Bool} {sv : Nat → Nat → Nat} {wr : va_W} (hw0 : InM κ m z n hz ln sg b0 b1 sv wr) (b : Nat) (w : Nat) (hv : Zv z) (hb : b < 4) (hw5 : w < 5) (hha : z (312 + b) = 0) : Sx κ l yX5_board cX5_board 3 (m 0) [.int (nI b), .int (nI w)] (a_board z b w) wr (InM κ m z n hz ln sg b0 b1 sv) := by
  obtain ⟨gg, ss, ya, ra, pa, h1, h2, h3, rfl⟩ := hw0
  refine ⟨_, _, _, _, _, _, _, c_X5_board_ok0 κ l m n ln z b w hv hb hw5 hha, jn_ix (wr := [(m 2, aI κ 333 ya), (m 3, aI κ 1332 gg), (m 4, aI κ 666 ss), (m 5, aZ κ 2 (sb b0 b1)), (m 6, aI κ 60 sg), (m 7, aI κ 52 ra), (m 8, aI κ 52 pa)]) [0, 1] [2, 3, 4, 5, 6, 7, 8] rfl rfl rfl rfl (by decide), ⟨Nat.le_of_ble_eq_true rfl, Nat.le_of_ble_eq_true rfl⟩, ⟨Nat.le_of_ble_eq_true rfl, Nat.le_of_ble_eq_true rfl⟩, fun vv uu hp => ?_⟩
  obtain ⟨rr, rfl, rfl, rfl⟩ := hp
  exact ⟨rfl, _, _, rfl, Re.lit (X' := wMx κ m z n ln sg b0 b1 gg ss ya ra pa) [7, 8, 0, 1, 2, 3, 4, 5, 6] rfl rfl, gg, ss, ya, ra, pa, h1, h2, h3, rfl⟩
set_option maxHeartbeats 1000000 in
set_option maxRecDepth 100000 in
theorem e5_board_ok1 {κ : Kp} {l : Launch} {m z : Nat → Nat} {n : Nat} {hz : Nat → Nat → Nat} {ln : Nat} {sg : Nat → Nat} {b0 : Bool} {b1 : Bool} {sv : Nat → Nat → Nat} {wr : va_W} (hw0 : InM κ m z n hz ln sg b0 b1 sv wr) (b : Nat) (w : Nat) (hv : Zv z) (hb : b < 4) (hw5 : w < 5) (hha : z (312 + b) = 1) : Sx κ l yX5_board cX5_board 3 (m 0) [.int (nI b), .int (nI w)] (a_board z b w) wr (InM κ m z n hz ln sg b0 b1 sv) := by
  obtain ⟨gg, ss, ya, ra, pa, h1, h2, h3, rfl⟩ := hw0
  refine ⟨_, _, _, _, _, _, _, c_X5_board_ok1 κ l m n ln z b w hv hb hw5 hha, jn_ix (wr := [(m 2, aI κ 333 ya), (m 3, aI κ 1332 gg), (m 4, aI κ 666 ss), (m 5, aZ κ 2 (sb b0 b1)), (m 6, aI κ 60 sg), (m 7, aI κ 52 ra), (m 8, aI κ 52 pa)]) [0, 1] [2, 3, 4, 5, 6, 7, 8] rfl rfl rfl rfl (by decide), ⟨Nat.le_of_ble_eq_true rfl, Nat.le_of_ble_eq_true rfl⟩, ⟨Nat.le_of_ble_eq_true rfl, Nat.le_of_ble_eq_true rfl⟩, fun vv uu hp => ?_⟩
  obtain ⟨rr, rfl, rfl, rfl⟩ := hp
  exact ⟨rfl, _, _, rfl, Re.lit (X' := wMx κ m z n ln sg b0 b1 gg ss ya ra pa) [7, 8, 0, 1, 2, 3, 4, 5, 6] rfl rfl, gg, ss, ya, ra, pa, h1, h2, h3, rfl⟩
set_option maxHeartbeats 1000000 in
set_option maxRecDepth 100000 in
theorem e5_save0 {κ : Kp} {l : Launch} {m z : Nat → Nat} {n : Nat} {hz : Nat → Nat → Nat} {ln : Nat} {sg : Nat → Nat} {b0 : Bool} {b1 : Bool} {sv : Nat → Nat → Nat} {wr : va_W} (hw0 : InM κ m z n hz ln sg b0 b1 sv wr)   : Sx κ l yX5_save cX5_save 3 (m 0) [.int (nI 0)] (nbd z) wr (InM κ m z n hz ln sg true b1 (va_up sv 0 z)) := by
  obtain ⟨gg, ss, ya, ra, pa, h1, h2, h3, rfl⟩ := hw0
  refine ⟨_, _, _, _, _, _, _, c_X5_save0 κ l m n ln z ss b1 b0 , jn_ix (wr := [(m 2, aI κ 333 ya), (m 3, aI κ 1332 gg), (m 6, aI κ 60 sg), (m 7, aI κ 52 ra), (m 8, aI κ 52 pa)]) [0, 1, 4, 5] [2, 3, 6, 7, 8] rfl rfl rfl rfl (by decide), ⟨Nat.le_of_ble_eq_true rfl, Nat.le_of_ble_eq_true rfl⟩, ⟨Nat.le_of_ble_eq_true rfl, Nat.le_of_ble_eq_true rfl⟩, fun vv uu hp => ?_⟩
  obtain ⟨rr, rfl, s2, hs1, hs2, rfl, rfl⟩ := hp
  exact ⟨rfl, _, _, rfl, Re.lit (X' := wMx κ m z n ln sg true b1 gg s2 ya ra pa) [5, 6, 0, 1, 7, 8, 2, 3, 4] rfl rfl, gg, s2, ya, ra, pa, h1, (fun _ => hs1), (fun hb k hk => (hs2 _ (by omega)).trans (h3 hb k hk)), rfl⟩
set_option maxHeartbeats 1000000 in
set_option maxRecDepth 100000 in
theorem e5_restore0_ok {κ : Kp} {l : Launch} {m z : Nat → Nat} {n : Nat} {hz : Nat → Nat → Nat} {ln : Nat} {sg : Nat → Nat} {b1 : Bool} {sv : Nat → Nat → Nat} {wr : va_W} (hw0 : InM κ m z n hz ln sg true b1 sv wr)  (hn : n ≤ 4) : Sx κ l yX5_restore cX5_restore 3 (m 0) [.int (nI 0)] (nbd (sv 0)) wr (InM κ m (sv 0) (rn n) (rh n hz z) ln sg true b1 sv) := by
  obtain ⟨gg, ss, ya, ra, pa, h1, h2, h3, rfl⟩ := hw0
  refine ⟨_, _, _, _, _, _, _, c_X5_restore0_ok κ l m n ln z gg hz ss b1 (sv 0) hn h1 (h2 rfl), jn_ix (wr := [(m 2, aI κ 333 ya), (m 6, aI κ 60 sg), (m 7, aI κ 52 ra), (m 8, aI κ 52 pa)]) [0, 1, 3, 4, 5] [2, 6, 7, 8] rfl rfl rfl rfl (by decide), ⟨Nat.le_of_ble_eq_true rfl, Nat.le_of_ble_eq_true rfl⟩, ⟨Nat.le_of_ble_eq_true rfl, Nat.le_of_ble_eq_true rfl⟩, fun vv uu hp => ?_⟩
  obtain ⟨rr, rfl, g2, hg2, rfl, rfl⟩ := hp
  exact ⟨rfl, _, _, rfl, Re.lit (X' := wMx κ m (sv 0) (rn n) ln sg true b1 g2 ss ya ra pa) [4, 5, 0, 6, 7, 8, 1, 2, 3] rfl rfl, g2, ss, ya, ra, pa, hg2, h2, h3, rfl⟩
set_option maxHeartbeats 1000000 in
set_option maxRecDepth 100000 in
theorem e5_restore0_no {κ : Kp} {l : Launch} {m z : Nat → Nat} {n : Nat} {hz : Nat → Nat → Nat} {ln : Nat} {sg : Nat → Nat} {b1 : Bool} {sv : Nat → Nat → Nat} {wr : va_W} (hw0 : InM κ m z n hz ln sg false b1 sv wr)   : Sx κ l yX5_restore cX5_restore 3 (m 0) [.int (nI 0)] (4294967291) wr (InM κ m z n hz ln sg false b1 sv) := by
  obtain ⟨gg, ss, ya, ra, pa, h1, h2, h3, rfl⟩ := hw0
  refine ⟨_, _, _, _, _, _, _, c_X5_restore0_no κ l m n ln b1 , jn_ix (wr := [(m 1, aI κ 333 z), (m 2, aI κ 333 ya), (m 3, aI κ 1332 gg), (m 4, aI κ 666 ss), (m 6, aI κ 60 sg), (m 7, aI κ 52 ra), (m 8, aI κ 52 pa)]) [0, 5] [1, 2, 3, 4, 6, 7, 8] rfl rfl rfl rfl (by decide), ⟨Nat.le_of_ble_eq_true rfl, Nat.le_of_ble_eq_true rfl⟩, ⟨Nat.le_of_ble_eq_true rfl, Nat.le_of_ble_eq_true rfl⟩, fun vv uu hp => ?_⟩
  obtain ⟨rr, rfl, rfl, rfl⟩ := hp
  exact ⟨rfl, _, _, rfl, Re.lit (X' := wMx κ m z n ln sg false b1 gg ss ya ra pa) [7, 0, 1, 2, 3, 8, 4, 5, 6] rfl rfl, gg, ss, ya, ra, pa, h1, h2, h3, rfl⟩
set_option maxHeartbeats 1000000 in
set_option maxRecDepth 100000 in
theorem e5_save1 {κ : Kp} {l : Launch} {m z : Nat → Nat} {n : Nat} {hz : Nat → Nat → Nat} {ln : Nat} {sg : Nat → Nat} {b0 : Bool} {b1 : Bool} {sv : Nat → Nat → Nat} {wr : va_W} (hw0 : InM κ m z n hz ln sg b0 b1 sv wr)   : Sx κ l yX5_save cX5_save 3 (m 0) [.int (nI 1)] (nbd z) wr (InM κ m z n hz ln sg b0 true (va_up sv 1 z)) := by
  obtain ⟨gg, ss, ya, ra, pa, h1, h2, h3, rfl⟩ := hw0
  refine ⟨_, _, _, _, _, _, _, c_X5_save1 κ l m n ln z ss b0 b1 , jn_ix (wr := [(m 2, aI κ 333 ya), (m 3, aI κ 1332 gg), (m 6, aI κ 60 sg), (m 7, aI κ 52 ra), (m 8, aI κ 52 pa)]) [0, 1, 4, 5] [2, 3, 6, 7, 8] rfl rfl rfl rfl (by decide), ⟨Nat.le_of_ble_eq_true rfl, Nat.le_of_ble_eq_true rfl⟩, ⟨Nat.le_of_ble_eq_true rfl, Nat.le_of_ble_eq_true rfl⟩, fun vv uu hp => ?_⟩
  obtain ⟨rr, rfl, s2, hs1, hs2, rfl, rfl⟩ := hp
  exact ⟨rfl, _, _, rfl, Re.lit (X' := wMx κ m z n ln sg b0 true gg s2 ya ra pa) [5, 6, 0, 1, 7, 8, 2, 3, 4] rfl rfl, gg, s2, ya, ra, pa, h1, (fun hb k hk => (hs2 _ (by omega)).trans (h2 hb k hk)), (fun _ => hs1), rfl⟩
set_option maxHeartbeats 1000000 in
set_option maxRecDepth 100000 in
theorem e5_restore1_ok {κ : Kp} {l : Launch} {m z : Nat → Nat} {n : Nat} {hz : Nat → Nat → Nat} {ln : Nat} {sg : Nat → Nat} {b0 : Bool} {sv : Nat → Nat → Nat} {wr : va_W} (hw0 : InM κ m z n hz ln sg b0 true sv wr)  (hn : n ≤ 4) : Sx κ l yX5_restore cX5_restore 3 (m 0) [.int (nI 1)] (nbd (sv 1)) wr (InM κ m (sv 1) (rn n) (rh n hz z) ln sg b0 true sv) := by
  obtain ⟨gg, ss, ya, ra, pa, h1, h2, h3, rfl⟩ := hw0
  refine ⟨_, _, _, _, _, _, _, c_X5_restore1_ok κ l m n ln z gg hz ss b0 (sv 1) hn h1 (h3 rfl), jn_ix (wr := [(m 2, aI κ 333 ya), (m 6, aI κ 60 sg), (m 7, aI κ 52 ra), (m 8, aI κ 52 pa)]) [0, 1, 3, 4, 5] [2, 6, 7, 8] rfl rfl rfl rfl (by decide), ⟨Nat.le_of_ble_eq_true rfl, Nat.le_of_ble_eq_true rfl⟩, ⟨Nat.le_of_ble_eq_true rfl, Nat.le_of_ble_eq_true rfl⟩, fun vv uu hp => ?_⟩
  obtain ⟨rr, rfl, g2, hg2, rfl, rfl⟩ := hp
  exact ⟨rfl, _, _, rfl, Re.lit (X' := wMx κ m (sv 1) (rn n) ln sg b0 true g2 ss ya ra pa) [4, 5, 0, 6, 7, 8, 1, 2, 3] rfl rfl, g2, ss, ya, ra, pa, hg2, h2, h3, rfl⟩
set_option maxHeartbeats 1000000 in
set_option maxRecDepth 100000 in
theorem e5_restore1_no {κ : Kp} {l : Launch} {m z : Nat → Nat} {n : Nat} {hz : Nat → Nat → Nat} {ln : Nat} {sg : Nat → Nat} {b0 : Bool} {sv : Nat → Nat → Nat} {wr : va_W} (hw0 : InM κ m z n hz ln sg b0 false sv wr)   : Sx κ l yX5_restore cX5_restore 3 (m 0) [.int (nI 1)] (4294967291) wr (InM κ m z n hz ln sg b0 false sv) := by
  obtain ⟨gg, ss, ya, ra, pa, h1, h2, h3, rfl⟩ := hw0
  refine ⟨_, _, _, _, _, _, _, c_X5_restore1_no κ l m n ln b0 , jn_ix (wr := [(m 1, aI κ 333 z), (m 2, aI κ 333 ya), (m 3, aI κ 1332 gg), (m 4, aI κ 666 ss), (m 6, aI κ 60 sg), (m 7, aI κ 52 ra), (m 8, aI κ 52 pa)]) [0, 5] [1, 2, 3, 4, 6, 7, 8] rfl rfl rfl rfl (by decide), ⟨Nat.le_of_ble_eq_true rfl, Nat.le_of_ble_eq_true rfl⟩, ⟨Nat.le_of_ble_eq_true rfl, Nat.le_of_ble_eq_true rfl⟩, fun vv uu hp => ?_⟩
  obtain ⟨rr, rfl, rfl, rfl⟩ := hp
  exact ⟨rfl, _, _, rfl, Re.lit (X' := wMx κ m z n ln sg b0 false gg ss ya ra pa) [7, 0, 1, 2, 3, 8, 4, 5, 6] rfl rfl, gg, ss, ya, ra, pa, h1, h2, h3, rfl⟩
