/-! THE CLASS AS THE LAW SEES IT: an object of z; n changes can be undone; history, pad, slots are hidden -/
def Oc (κ : Kp) (a q z : Nat → Nat) (n : Nat) (w : va_W) : Prop := ∃ (hz : Nat → Nat → Nat) (ln : Nat) (sg : Nat → Nat) (sv : Nat → Nat → Nat), Zv z ∧ n ≤ 4 ∧ (∀ k, k < n → Zv (hz k)) ∧ InC κ a q z n hz ln sg false false sv w
theorem Oc.zv {κ : Kp} {a q z : Nat → Nat} {n : Nat} {w : va_W} (h : Oc κ a q z n w) : Zv z := by
  obtain ⟨hz, ln, sg, sv, hv, -⟩ := h
  exact hv
theorem Oc.rc {κ : Kp} {a q z : Nat → Nat} {n : Nat} {w : va_W} (h : Oc κ a q z n w) : ∃ fs : List Value, (a 0, (.inr (4, fs) : va_E)) ∈ w := by
  obtain ⟨hz, ln, sg, sv, hv, hn, hh, hI⟩ := h
  exact hI.rc
theorem Sx.ans {κ : Kp} {l : Launch} {y : MethodName} {bytes : ByteArray} {maxL b ans ans2 : Nat} {As : List Value} {w : va_W} {N : va_W → Prop} (h : Sx κ l y bytes maxL b As ans w N) (e : ans = ans2) : Sx κ l y bytes maxL b As ans2 w N := e ▸ h
theorem s_set_ok0 {κ : Kp} {l : Launch} {a q z : Nat → Nat} {n : Nat} {w0 : va_W} (hw : Oc κ a q z n w0) (v : Nat) (hlo : 0 ≤ v) (hhi : v ≤ 51) : Sx κ l yX4_set cX4_set 4 (a 0) [.int (nI 0), .int (nI v)] (z 324) w0 (Oc κ a q (va_up z 324 v) (rn n)) := by
  obtain ⟨hz, ln, sg, sv, hv, hn, hh0, hI⟩ := hw
  exact (e4_set_ok0 hI v hv hn hlo hhi).imp (fun w2 h2 => ⟨rh n hz z, ln, sg, sv, zv_up hv (by omega), rn_le hn, zv_rh hn hv hh0, h2⟩)
theorem s_set_ok1 {κ : Kp} {l : Launch} {a q z : Nat → Nat} {n : Nat} {w0 : va_W} (hw : Oc κ a q z n w0) (v : Nat) (hlo : 1 ≤ v) (hhi : v ≤ 9) : Sx κ l yX4_set cX4_set 4 (a 0) [.int (nI 1), .int (nI v)] (z 325) w0 (Oc κ a q (va_up z 325 v) (rn n)) := by
  obtain ⟨hz, ln, sg, sv, hv, hn, hh0, hI⟩ := hw
  exact (e4_set_ok1 hI v hv hn hlo hhi).imp (fun w2 h2 => ⟨rh n hz z, ln, sg, sv, zv_up hv (by omega), rn_le hn, zv_rh hn hv hh0, h2⟩)
theorem s_set_er1 {κ : Kp} {l : Launch} {a q z : Nat → Nat} {n : Nat} {w0 : va_W} (hw : Oc κ a q z n w0) (x : Int32) (y : Int32) (hx1 : x < 0 ∨ nI 2 ≤ x) : Sx κ l yX4_set cX4_set 4 (a 0) [.int x, .int y] (4294967294) w0 (Oc κ a q z n) := by
  obtain ⟨hz, ln, sg, sv, hv, hn, hh0, hI⟩ := hw
  exact (e4_set_er1 hI x y hx1).imp (fun w2 h2 => ⟨hz, ln, sg, sv, hv, hn, hh0, h2⟩)
theorem s_set_er2 {κ : Kp} {l : Launch} {a q z : Nat → Nat} {n : Nat} {w0 : va_W} (hw : Oc κ a q z n w0) (x : Int32) (hx1 : x < 0 ∨ nI 52 ≤ x) : Sx κ l yX4_set cX4_set 4 (a 0) [.int (nI 0), .int x] (4294967294) w0 (Oc κ a q z n) := by
  obtain ⟨hz, ln, sg, sv, hv, hn, hh0, hI⟩ := hw
  exact (e4_set_er2 hI x hx1).imp (fun w2 h2 => ⟨hz, ln, sg, sv, hv, hn, hh0, h2⟩)
theorem s_set_er3 {κ : Kp} {l : Launch} {a q z : Nat → Nat} {n : Nat} {w0 : va_W} (hw : Oc κ a q z n w0) (x : Int32) (hx1 : x < 0 ∨ nI 52 ≤ x) : Sx κ l yX4_set cX4_set 4 (a 0) [.int (nI 1), .int x] (4294967294) w0 (Oc κ a q z n) := by
  obtain ⟨hz, ln, sg, sv, hv, hn, hh0, hI⟩ := hw
  exact (e4_set_er3 hI x hx1).imp (fun w2 h2 => ⟨hz, ln, sg, sv, hv, hn, hh0, h2⟩)
theorem s_set_er4 {κ : Kp} {l : Launch} {a q z : Nat → Nat} {n : Nat} {w0 : va_W} (hw : Oc κ a q z n w0) (v : Nat) (hvv : v = 0 ∨ 10 ≤ v) (hv5 : v < 52) : Sx κ l yX4_set cX4_set 4 (a 0) [.int (nI 1), .int (nI v)] (4294967294) w0 (Oc κ a q z n) := by
  obtain ⟨hz, ln, sg, sv, hv, hn, hh0, hI⟩ := hw
  exact (e4_set_er4 hI v hvv hv5).imp (fun w2 h2 => ⟨hz, ln, sg, sv, hv, hn, hh0, h2⟩)
theorem s_seed_ok {κ : Kp} {l : Launch} {a q z : Nat → Nat} {n : Nat} {w0 : va_W} (hw : Oc κ a q z n w0) (j : Nat) (hj : j < 2 ^ 31) : Sx κ l yX4_seed cX4_seed 3 (a 0) [.int (nI j)] (z 326) w0 (Oc κ a q (va_up z 326 j) (rn n)) := by
  obtain ⟨hz, ln, sg, sv, hv, hn, hh0, hI⟩ := hw
  exact (e4_seed_ok hI j hv hn hj).imp (fun w2 h2 => ⟨rh n hz z, ln, sg, sv, zv_up hv (by omega), rn_le hn, zv_rh hn hv hh0, h2⟩)
theorem s_seed_er {κ : Kp} {l : Launch} {a q z : Nat → Nat} {n : Nat} {w0 : va_W} (hw : Oc κ a q z n w0) (x : Int32) (hx1 : x < 0) : Sx κ l yX4_seed cX4_seed 3 (a 0) [.int x] (4294967294) w0 (Oc κ a q z n) := by
  obtain ⟨hz, ln, sg, sv, hv, hn, hh0, hI⟩ := hw
  exact (e4_seed_er hI x hx1).imp (fun w2 h2 => ⟨hz, ln, sg, sv, hv, hn, hh0, h2⟩)
theorem s_bend_ok {κ : Kp} {l : Launch} {a q z : Nat → Nat} {n : Nat} {w0 : va_W} (hw : Oc κ a q z n w0) (c : Nat) (hcc : c < 52) : Sx κ l yX4_bend cX4_bend 2 (a 0) [.int (nI c)] (nbt (flp z c)) w0 (Oc κ a q (flp z c) (rn n)) := by
  obtain ⟨hz, ln, sg, sv, hv, hn, hh0, hI⟩ := hw
  exact (e4_bend_ok hI c hv hn hcc).imp (fun w2 h2 => ⟨rh n hz z, ln, sg, sv, zv_flp hv hcc, rn_le hn, zv_rh hn hv hh0, h2⟩)
theorem s_bend_er {κ : Kp} {l : Launch} {a q z : Nat → Nat} {n : Nat} {w0 : va_W} (hw : Oc κ a q z n w0) (x : Int32) (hx1 : x < 0 ∨ nI 52 ≤ x) : Sx κ l yX4_bend cX4_bend 2 (a 0) [.int x] (4294967295) w0 (Oc κ a q z n) := by
  obtain ⟨hz, ln, sg, sv, hv, hn, hh0, hI⟩ := hw
  exact (e4_bend_er hI x hx1).imp (fun w2 h2 => ⟨hz, ln, sg, sv, hv, hn, hh0, h2⟩)
theorem s_shuffle {κ : Kp} {l : Launch} {a q z : Nat → Nat} {n : Nat} {w0 : va_W} (hw : Oc κ a q z n w0)   : Sx κ l yX4_shuffle cX4_shuffle 2 (a 0) [] (shk z) w0 (Oc κ a q (shz z) (rn n)) := by
  obtain ⟨hz, ln, sg, sv, hv, hn, hh0, hI⟩ := hw
  exact (e4_shuffle hI  hv hn).imp (fun w2 h2 => ⟨rh n hz z, ln, sg, sv, zv_shz hv, rn_le hn, zv_rh hn hv hh0, h2⟩)
theorem s_cut_ok {κ : Kp} {l : Launch} {a q z : Nat → Nat} {n : Nat} {w0 : va_W} (hw : Oc κ a q z n w0) (c : Nat) (hc1 : 1 ≤ c) (hc5 : c < 52) : Sx κ l yX4_cut cX4_cut 2 (a 0) [.int (nI c)] (z c) w0 (Oc κ a q (cuz z c) (rn n)) := by
  obtain ⟨hz, ln, sg, sv, hv, hn, hh0, hI⟩ := hw
  exact (e4_cut_ok hI c hv hn hc1 hc5).imp (fun w2 h2 => ⟨rh n hz z, ln, sg, sv, zv_cuz hv c, rn_le hn, zv_rh hn hv hh0, h2⟩)
theorem s_cut_er1 {κ : Kp} {l : Launch} {a q z : Nat → Nat} {n : Nat} {w0 : va_W} (hw : Oc κ a q z n w0)   : Sx κ l yX4_cut cX4_cut 2 (a 0) [.int (nI 0)] (4294967294) w0 (Oc κ a q z n) := by
  obtain ⟨hz, ln, sg, sv, hv, hn, hh0, hI⟩ := hw
  exact (e4_cut_er1 hI  ).imp (fun w2 h2 => ⟨hz, ln, sg, sv, hv, hn, hh0, h2⟩)
theorem s_cut_er2 {κ : Kp} {l : Launch} {a q z : Nat → Nat} {n : Nat} {w0 : va_W} (hw : Oc κ a q z n w0) (x : Int32) (hx1 : x < 0 ∨ nI 52 ≤ x) : Sx κ l yX4_cut cX4_cut 2 (a 0) [.int x] (4294967294) w0 (Oc κ a q z n) := by
  obtain ⟨hz, ln, sg, sv, hv, hn, hh0, hI⟩ := hw
  exact (e4_cut_er2 hI x hx1).imp (fun w2 h2 => ⟨hz, ln, sg, sv, hv, hn, hh0, h2⟩)
theorem s_sort {κ : Kp} {l : Launch} {a q z : Nat → Nat} {n : Nat} {w0 : va_W} (hw : Oc κ a q z n w0)   : Sx κ l yX4_sort cX4_sort 1 (a 0) [] (a_sort z) w0 (Oc κ a q (soz z) (rn n)) := by
  obtain ⟨hz, ln, sg, sv, hv, hn, hh0, hI⟩ := hw
  exact (e4_sort hI  hv hn).imp (fun w2 h2 => ⟨rh n hz z, ln, sg, sv, zv_soz hv, rn_le hn, zv_rh hn hv hh0, h2⟩)
theorem s_deal_ok {κ : Kp} {l : Launch} {a q z : Nat → Nat} {n : Nat} {w0 : va_W} (hw : Oc κ a q z n w0) (b : Nat) (hb : b < 4) (hs0 : z (316 + b) = 0) (hc1 : z 327 = 1) : Sx κ l yX4_deal cX4_deal 3 (a 0) [.int (nI b)] (pt (hd (dez z b) b) 0) w0 (Oc κ a q (dez z b) (rn n)) := by
  obtain ⟨hz, ln, sg, sv, hv, hn, hh0, hI⟩ := hw
  exact (e4_deal_ok hI b hv hn hb hs0 hc1).imp (fun w2 h2 => ⟨rh n hz z, ln, sg, sv, zv_dez hv hb, rn_le hn, zv_rh hn hv hh0, h2⟩)
theorem s_deal_no {κ : Kp} {l : Launch} {a q z : Nat → Nat} {n : Nat} {w0 : va_W} (hw : Oc κ a q z n w0) (b : Nat) (hb : b < 4) (hno : z (316 + b) = 1 ∨ z 327 = 0) (hf : z (316 + b) ≤ 1) : Sx κ l yX4_deal cX4_deal 3 (a 0) [.int (nI b)] (4294967291) w0 (Oc κ a q z n) := by
  obtain ⟨hz, ln, sg, sv, hv, hn, hh0, hI⟩ := hw
  exact (e4_deal_no hI b hb hno hf).imp (fun w2 h2 => ⟨hz, ln, sg, sv, hv, hn, hh0, h2⟩)
theorem s_deal_er {κ : Kp} {l : Launch} {a q z : Nat → Nat} {n : Nat} {w0 : va_W} (hw : Oc κ a q z n w0) (x : Int32) (hx1 : x < 0 ∨ nI 4 ≤ x) : Sx κ l yX4_deal cX4_deal 3 (a 0) [.int x] (4294967295) w0 (Oc κ a q z n) := by
  obtain ⟨hz, ln, sg, sv, hv, hn, hh0, hI⟩ := hw
  exact (e4_deal_er hI x hx1).imp (fun w2 h2 => ⟨hz, ln, sg, sv, hv, hn, hh0, h2⟩)
theorem s_seal_ok {κ : Kp} {l : Launch} {a q z : Nat → Nat} {n : Nat} {w0 : va_W} (hw : Oc κ a q z n w0) (b : Nat) (hb : b < 4) (hh1 : z (312 + b) = 1) (hs0 : z (316 + b) = 0) : Sx κ l yX4_seal cX4_seal 3 (a 0) [.int (nI b)] (sm (fun k => sez z b (316 + k)) 4) w0 (Oc κ a q (sez z b) (rn n)) := by
  obtain ⟨hz, ln, sg, sv, hv, hn, hh0, hI⟩ := hw
  exact (e4_seal_ok hI b hv hn hb hh1 hs0).imp (fun w2 h2 => ⟨rh n hz z, ln, sg, sv, zv_sez hv hb, rn_le hn, zv_rh hn hv hh0, h2⟩)
theorem s_seal_no {κ : Kp} {l : Launch} {a q z : Nat → Nat} {n : Nat} {w0 : va_W} (hw : Oc κ a q z n w0) (b : Nat) (hb : b < 4) (hno : z (312 + b) = 0 ∨ z (316 + b) = 1) (hf : z (316 + b) ≤ 1) (hg : z (312 + b) ≤ 1) : Sx κ l yX4_seal cX4_seal 3 (a 0) [.int (nI b)] (4294967291) w0 (Oc κ a q z n) := by
  obtain ⟨hz, ln, sg, sv, hv, hn, hh0, hI⟩ := hw
  exact (e4_seal_no hI b hb hno hf hg).imp (fun w2 h2 => ⟨hz, ln, sg, sv, hv, hn, hh0, h2⟩)
theorem s_seal_er {κ : Kp} {l : Launch} {a q z : Nat → Nat} {n : Nat} {w0 : va_W} (hw : Oc κ a q z n w0) (x : Int32) (hx1 : x < 0 ∨ nI 4 ≤ x) : Sx κ l yX4_seal cX4_seal 3 (a 0) [.int x] (4294967295) w0 (Oc κ a q z n) := by
  obtain ⟨hz, ln, sg, sv, hv, hn, hh0, hI⟩ := hw
  exact (e4_seal_er hI x hx1).imp (fun w2 h2 => ⟨hz, ln, sg, sv, hv, hn, hh0, h2⟩)
theorem s_open_ok {κ : Kp} {l : Launch} {a q z : Nat → Nat} {n : Nat} {w0 : va_W} (hw : Oc κ a q z n w0) (b : Nat) (hb : b < 4) (hs1 : z (316 + b) = 1) : Sx κ l yX4_open cX4_open 3 (a 0) [.int (nI b)] (z (320 + b) + 1) w0 (Oc κ a q (opz z b) (rn n)) := by
  obtain ⟨hz, ln, sg, sv, hv, hn, hh0, hI⟩ := hw
  exact (e4_open_ok hI b hv hn hb hs1).imp (fun w2 h2 => ⟨rh n hz z, ln, sg, sv, zv_opz hv hb, rn_le hn, zv_rh hn hv hh0, h2⟩)
theorem s_open_no {κ : Kp} {l : Launch} {a q z : Nat → Nat} {n : Nat} {w0 : va_W} (hw : Oc κ a q z n w0) (b : Nat) (hb : b < 4) (hs0 : z (316 + b) = 0) : Sx κ l yX4_open cX4_open 3 (a 0) [.int (nI b)] (4294967291) w0 (Oc κ a q z n) := by
  obtain ⟨hz, ln, sg, sv, hv, hn, hh0, hI⟩ := hw
  exact (e4_open_no hI b hb hs0).imp (fun w2 h2 => ⟨hz, ln, sg, sv, hv, hn, hh0, h2⟩)
theorem s_open_er {κ : Kp} {l : Launch} {a q z : Nat → Nat} {n : Nat} {w0 : va_W} (hw : Oc κ a q z n w0) (x : Int32) (hx1 : x < 0 ∨ nI 4 ≤ x) : Sx κ l yX4_open cX4_open 3 (a 0) [.int x] (4294967295) w0 (Oc κ a q z n) := by
  obtain ⟨hz, ln, sg, sv, hv, hn, hh0, hI⟩ := hw
  exact (e4_open_er hI x hx1).imp (fun w2 h2 => ⟨hz, ln, sg, sv, hv, hn, hh0, h2⟩)
theorem s_card_ok {κ : Kp} {l : Launch} {a q z : Nat → Nat} {n : Nat} {w0 : va_W} (hw : Oc κ a q z n w0) (j : Nat) (hj : j < 52) : Sx κ l yX4_card cX4_card 2 (a 0) [.int (nI j)] (z j) w0 (Oc κ a q z n) := by
  obtain ⟨hz, ln, sg, sv, hv, hn, hh0, hI⟩ := hw
  exact (e4_card_ok hI j hv hj).imp (fun w2 h2 => ⟨hz, ln, sg, sv, hv, hn, hh0, h2⟩)
theorem s_card_er {κ : Kp} {l : Launch} {a q z : Nat → Nat} {n : Nat} {w0 : va_W} (hw : Oc κ a q z n w0) (x : Int32) (hx1 : x < 0 ∨ nI 52 ≤ x) : Sx κ l yX4_card cX4_card 2 (a 0) [.int x] (4294967295) w0 (Oc κ a q z n) := by
  obtain ⟨hz, ln, sg, sv, hv, hn, hh0, hI⟩ := hw
  exact (e4_card_er hI x hx1).imp (fun w2 h2 => ⟨hz, ln, sg, sv, hv, hn, hh0, h2⟩)
theorem s_placeOf_ok {κ : Kp} {l : Launch} {a q z : Nat → Nat} {n : Nat} {w0 : va_W} (hw : Oc κ a q z n w0) (c : Nat) (hcc : c < 52) : Sx κ l yX4_placeOf cX4_placeOf 3 (a 0) [.int (nI c)] (inv z c) w0 (Oc κ a q z n) := by
  obtain ⟨hz, ln, sg, sv, hv, hn, hh0, hI⟩ := hw
  exact (e4_placeOf_ok hI c hv hcc).imp (fun w2 h2 => ⟨hz, ln, sg, sv, hv, hn, hh0, h2⟩)
theorem s_placeOf_er {κ : Kp} {l : Launch} {a q z : Nat → Nat} {n : Nat} {w0 : va_W} (hw : Oc κ a q z n w0) (x : Int32) (hx1 : x < 0 ∨ nI 52 ≤ x) : Sx κ l yX4_placeOf cX4_placeOf 3 (a 0) [.int x] (4294967295) w0 (Oc κ a q z n) := by
  obtain ⟨hz, ln, sg, sv, hv, hn, hh0, hI⟩ := hw
  exact (e4_placeOf_er hI x hv hx1).imp (fun w2 h2 => ⟨hz, ln, sg, sv, hv, hn, hh0, h2⟩)
theorem s_holder_ok {κ : Kp} {l : Launch} {a q z : Nat → Nat} {n : Nat} {w0 : va_W} (hw : Oc κ a q z n w0) (b : Nat) (c : Nat) (hb : b < 4) (hcc : c < 52) (hha : z (312 + b) = 1) : Sx κ l yX4_holder cX4_holder 4 (a 0) [.int (nI b), .int (nI c)] (hd z b c) w0 (Oc κ a q z n) := by
  obtain ⟨hz, ln, sg, sv, hv, hn, hh0, hI⟩ := hw
  exact (e4_holder_ok hI b c hv hb hcc hha).imp (fun w2 h2 => ⟨hz, ln, sg, sv, hv, hn, hh0, h2⟩)
theorem s_holder_no {κ : Kp} {l : Launch} {a q z : Nat → Nat} {n : Nat} {w0 : va_W} (hw : Oc κ a q z n w0) (b : Nat) (c : Nat) (hb : b < 4) (hcc : c < 52) (hha : z (312 + b) = 0) : Sx κ l yX4_holder cX4_holder 4 (a 0) [.int (nI b), .int (nI c)] (4294967290) w0 (Oc κ a q z n) := by
  obtain ⟨hz, ln, sg, sv, hv, hn, hh0, hI⟩ := hw
  exact (e4_holder_no hI b c hv hb hcc hha).imp (fun w2 h2 => ⟨hz, ln, sg, sv, hv, hn, hh0, h2⟩)
theorem s_holder_er1 {κ : Kp} {l : Launch} {a q z : Nat → Nat} {n : Nat} {w0 : va_W} (hw : Oc κ a q z n w0) (x : Int32) (y : Int32) (hx1 : x < 0 ∨ nI 4 ≤ x) : Sx κ l yX4_holder cX4_holder 4 (a 0) [.int x, .int y] (4294967295) w0 (Oc κ a q z n) := by
  obtain ⟨hz, ln, sg, sv, hv, hn, hh0, hI⟩ := hw
  exact (e4_holder_er1 hI x y hx1).imp (fun w2 h2 => ⟨hz, ln, sg, sv, hv, hn, hh0, h2⟩)
theorem s_holder_er2 {κ : Kp} {l : Launch} {a q z : Nat → Nat} {n : Nat} {w0 : va_W} (hw : Oc κ a q z n w0) (b : Nat) (y : Int32) (hb : b < 4) (hx2 : y < 0 ∨ nI 52 ≤ y) : Sx κ l yX4_holder cX4_holder 4 (a 0) [.int (nI b), .int y] (4294967295) w0 (Oc κ a q z n) := by
  obtain ⟨hz, ln, sg, sv, hv, hn, hh0, hI⟩ := hw
  exact (e4_holder_er2 hI b y hb hx2).imp (fun w2 h2 => ⟨hz, ln, sg, sv, hv, hn, hh0, h2⟩)
theorem s_hand_ok {κ : Kp} {l : Launch} {a q z : Nat → Nat} {n : Nat} {w0 : va_W} (hw : Oc κ a q z n w0) (b : Nat) (h : Nat) (w : Nat) (hb : b < 4) (hh4 : h < 4) (hw7 : w < 7) (hha : z (312 + b) = 1) : Sx κ l yX4_hand cX4_hand 5 (a 0) [.int (nI b), .int (nI h), .int (nI w)] (a_hand z b h w) w0 (Oc κ a q z n) := by
  obtain ⟨hz, ln, sg, sv, hv, hn, hh0, hI⟩ := hw
  exact (e4_hand_ok hI b h w hv hb hh4 hw7 hha).imp (fun w2 h2 => ⟨hz, ln, sg, sv, hv, hn, hh0, h2⟩)
theorem s_hand_no {κ : Kp} {l : Launch} {a q z : Nat → Nat} {n : Nat} {w0 : va_W} (hw : Oc κ a q z n w0) (b : Nat) (h : Nat) (w : Nat) (hb : b < 4) (hh4 : h < 4) (hw7 : w < 7) (hha : z (312 + b) = 0) : Sx κ l yX4_hand cX4_hand 5 (a 0) [.int (nI b), .int (nI h), .int (nI w)] (4294967290) w0 (Oc κ a q z n) := by
  obtain ⟨hz, ln, sg, sv, hv, hn, hh0, hI⟩ := hw
  exact (e4_hand_no hI b h w hv hb hh4 hw7 hha).imp (fun w2 h2 => ⟨hz, ln, sg, sv, hv, hn, hh0, h2⟩)
theorem s_hand_er1 {κ : Kp} {l : Launch} {a q z : Nat → Nat} {n : Nat} {w0 : va_W} (hw : Oc κ a q z n w0) (x : Int32) (y : Int32) (v : Int32) (hx1 : x < 0 ∨ nI 4 ≤ x) : Sx κ l yX4_hand cX4_hand 5 (a 0) [.int x, .int y, .int v] (4294967295) w0 (Oc κ a q z n) := by
  obtain ⟨hz, ln, sg, sv, hv, hn, hh0, hI⟩ := hw
  exact (e4_hand_er1 hI x y v hx1).imp (fun w2 h2 => ⟨hz, ln, sg, sv, hv, hn, hh0, h2⟩)
theorem s_hand_er2 {κ : Kp} {l : Launch} {a q z : Nat → Nat} {n : Nat} {w0 : va_W} (hw : Oc κ a q z n w0) (b : Nat) (y : Int32) (v : Int32) (hb : b < 4) (hx2 : y < 0 ∨ nI 4 ≤ y) : Sx κ l yX4_hand cX4_hand 5 (a 0) [.int (nI b), .int y, .int v] (4294967295) w0 (Oc κ a q z n) := by
  obtain ⟨hz, ln, sg, sv, hv, hn, hh0, hI⟩ := hw
  exact (e4_hand_er2 hI b y v hb hx2).imp (fun w2 h2 => ⟨hz, ln, sg, sv, hv, hn, hh0, h2⟩)
theorem s_hand_er3 {κ : Kp} {l : Launch} {a q z : Nat → Nat} {n : Nat} {w0 : va_W} (hw : Oc κ a q z n w0) (b : Nat) (h : Nat) (x : Int32) (hb : b < 4) (hh4 : h < 4) (hx1 : x < 0 ∨ nI 7 ≤ x) : Sx κ l yX4_hand cX4_hand 5 (a 0) [.int (nI b), .int (nI h), .int x] (4294967294) w0 (Oc κ a q z n) := by
  obtain ⟨hz, ln, sg, sv, hv, hn, hh0, hI⟩ := hw
  exact (e4_hand_er3 hI b h x hb hh4 hx1).imp (fun w2 h2 => ⟨hz, ln, sg, sv, hv, hn, hh0, h2⟩)
theorem s_board_ok {κ : Kp} {l : Launch} {a q z : Nat → Nat} {n : Nat} {w0 : va_W} (hw : Oc κ a q z n w0) (b : Nat) (w : Nat) (hb : b < 4) (hw5 : w < 5) : Sx κ l yX4_board cX4_board 4 (a 0) [.int (nI b), .int (nI w)] (a_board z b w) w0 (Oc κ a q z n) := by
  obtain ⟨hz, ln, sg, sv, hv, hn, hh0, hI⟩ := hw
  exact (e4_board_ok hI b w hv hb hw5).imp (fun w2 h2 => ⟨hz, ln, sg, sv, hv, hn, hh0, h2⟩)
theorem s_board_er1 {κ : Kp} {l : Launch} {a q z : Nat → Nat} {n : Nat} {w0 : va_W} (hw : Oc κ a q z n w0) (x : Int32) (y : Int32) (hx1 : x < 0 ∨ nI 4 ≤ x) : Sx κ l yX4_board cX4_board 4 (a 0) [.int x, .int y] (4294967295) w0 (Oc κ a q z n) := by
  obtain ⟨hz, ln, sg, sv, hv, hn, hh0, hI⟩ := hw
  exact (e4_board_er1 hI x y hx1).imp (fun w2 h2 => ⟨hz, ln, sg, sv, hv, hn, hh0, h2⟩)
theorem s_board_er2 {κ : Kp} {l : Launch} {a q z : Nat → Nat} {n : Nat} {w0 : va_W} (hw : Oc κ a q z n w0) (b : Nat) (x : Int32) (hb : b < 4) (hx1 : x < 0 ∨ nI 5 ≤ x) : Sx κ l yX4_board cX4_board 4 (a 0) [.int (nI b), .int x] (4294967294) w0 (Oc κ a q z n) := by
  obtain ⟨hz, ln, sg, sv, hv, hn, hh0, hI⟩ := hw
  exact (e4_board_er2 hI b x hb hx1).imp (fun w2 h2 => ⟨hz, ln, sg, sv, hv, hn, hh0, h2⟩)
theorem s_count_ok {κ : Kp} {l : Launch} {a q z : Nat → Nat} {n : Nat} {w0 : va_W} (hw : Oc κ a q z n w0) (w : Nat) (hw12 : w < 12) : Sx κ l yX4_count cX4_count 2 (a 0) [.int (nI w)] (ct z w) w0 (Oc κ a q z n) := by
  obtain ⟨hz, ln, sg, sv, hv, hn, hh0, hI⟩ := hw
  exact ((e4_count_ok (l := l) hI w hv (by omega)).ans (ct_c z n ln hw12)).imp (fun w2 h2 => ⟨hz, ln, sg, sv, hv, hn, hh0, h2⟩)
theorem s_count_er {κ : Kp} {l : Launch} {a q z : Nat → Nat} {n : Nat} {w0 : va_W} (hw : Oc κ a q z n w0) (x : Int32) (hx1 : x < 0 ∨ nI 14 ≤ x) : Sx κ l yX4_count cX4_count 2 (a 0) [.int x] (4294967294) w0 (Oc κ a q z n) := by
  obtain ⟨hz, ln, sg, sv, hv, hn, hh0, hI⟩ := hw
  exact (e4_count_er hI x hx1).imp (fun w2 h2 => ⟨hz, ln, sg, sv, hv, hn, hh0, h2⟩)
theorem s_alike_ok {κ : Kp} {l : Launch} {a q z : Nat → Nat} {n : Nat} {w0 : va_W} (hw : Oc κ a q z n w0) (b : Nat) (c : Nat) (hb : b < 4) (hc4 : c < 4) (hha : z (312 + b) = 1) (hhc : z (312 + c) = 1) : Sx κ l yX4_alike cX4_alike 5 (a 0) [.int (nI b), .int (nI c)] (al (hd z b) (hd z c)) w0 (Oc κ a q z n) := by
  obtain ⟨hz, ln, sg, sv, hv, hn, hh0, hI⟩ := hw
  exact (e4_alike_ok hI b c hv hb hc4 hha hhc).imp (fun w2 h2 => ⟨hz, ln, sg, sv, hv, hn, hh0, h2⟩)
theorem s_alike_no {κ : Kp} {l : Launch} {a q z : Nat → Nat} {n : Nat} {w0 : va_W} (hw : Oc κ a q z n w0) (b : Nat) (c : Nat) (hb : b < 4) (hc4 : c < 4) (hno : z (312 + b) = 0 ∨ z (312 + c) = 0) (hf : ∀ k, k < 8 → z (312 + k) ≤ 1) : Sx κ l yX4_alike cX4_alike 5 (a 0) [.int (nI b), .int (nI c)] (4294967290) w0 (Oc κ a q z n) := by
  obtain ⟨hz, ln, sg, sv, hv, hn, hh0, hI⟩ := hw
  exact (e4_alike_no hI b c hb hc4 hno hf).imp (fun w2 h2 => ⟨hz, ln, sg, sv, hv, hn, hh0, h2⟩)
theorem s_alike_er1 {κ : Kp} {l : Launch} {a q z : Nat → Nat} {n : Nat} {w0 : va_W} (hw : Oc κ a q z n w0) (x : Int32) (y : Int32) (hx1 : x < 0 ∨ nI 4 ≤ x) (hx2 : y < 0 ∨ nI 4 ≤ y) : Sx κ l yX4_alike cX4_alike 5 (a 0) [.int x, .int y] (4294967295) w0 (Oc κ a q z n) := by
  obtain ⟨hz, ln, sg, sv, hv, hn, hh0, hI⟩ := hw
  exact (e4_alike_er1 hI x y hx1 hx2).imp (fun w2 h2 => ⟨hz, ln, sg, sv, hv, hn, hh0, h2⟩)
theorem s_alike_er2 {κ : Kp} {l : Launch} {a q z : Nat → Nat} {n : Nat} {w0 : va_W} (hw : Oc κ a q z n w0) (x : Int32) (c : Nat) (hx1 : x < 0 ∨ nI 4 ≤ x) (hc4 : c < 4) : Sx κ l yX4_alike cX4_alike 5 (a 0) [.int x, .int (nI c)] (4294967295) w0 (Oc κ a q z n) := by
  obtain ⟨hz, ln, sg, sv, hv, hn, hh0, hI⟩ := hw
  exact (e4_alike_er2 hI x c hx1 hc4).imp (fun w2 h2 => ⟨hz, ln, sg, sv, hv, hn, hh0, h2⟩)
theorem s_alike_er3 {κ : Kp} {l : Launch} {a q z : Nat → Nat} {n : Nat} {w0 : va_W} (hw : Oc κ a q z n w0) (b : Nat) (y : Int32) (hb : b < 4) (hx2 : y < 0 ∨ nI 4 ≤ y) : Sx κ l yX4_alike cX4_alike 5 (a 0) [.int (nI b), .int y] (4294967295) w0 (Oc κ a q z n) := by
  obtain ⟨hz, ln, sg, sv, hv, hn, hh0, hI⟩ := hw
  exact (e4_alike_er3 hI b y hb hx2).imp (fun w2 h2 => ⟨hz, ln, sg, sv, hv, hn, hh0, h2⟩)
theorem s_ifRiffled_ok0 {κ : Kp} {l : Launch} {a q z : Nat → Nat} {n : Nat} {w0 : va_W} (hw : Oc κ a q z n w0) (r : Nat) (hr1 : 1 ≤ r) (hr2 : r ≤ 20) : Sx κ l yX4_ifRiffled cX4_ifRiffled 3 (a 0) [.int (nI r), .int (nI 0)] (kp z (ri z r).2) w0 (Oc κ a q z n) := by
  obtain ⟨hz, ln, sg, sv, hv, hn, hh0, hI⟩ := hw
  exact (e4_ifRiffled_ok0 hI r hv hr1 hr2).imp (fun w2 h2 => ⟨hz, ln, sg, sv, hv, hn, hh0, h2⟩)
theorem s_ifRiffled_ok1 {κ : Kp} {l : Launch} {a q z : Nat → Nat} {n : Nat} {w0 : va_W} (hw : Oc κ a q z n w0) (r : Nat) (hr1 : 1 ≤ r) (hr2 : r ≤ 20) : Sx κ l yX4_ifRiffled cX4_ifRiffled 3 (a 0) [.int (nI r), .int (nI 1)] (kp z (ri z r).2) w0 (Oc κ a q z n) := by
  obtain ⟨hz, ln, sg, sv, hv, hn, hh0, hI⟩ := hw
  exact (e4_ifRiffled_ok1 hI r hv hr1 hr2).imp (fun w2 h2 => ⟨hz, ln, sg, sv, hv, hn, hh0, h2⟩)
theorem s_ifRiffled_er1 {κ : Kp} {l : Launch} {a q z : Nat → Nat} {n : Nat} {w0 : va_W} (hw : Oc κ a q z n w0) (x : Int32) (y : Int32) (hx1 : x < 0 ∨ nI 21 ≤ x) : Sx κ l yX4_ifRiffled cX4_ifRiffled 3 (a 0) [.int x, .int y] (4294967294) w0 (Oc κ a q z n) := by
  obtain ⟨hz, ln, sg, sv, hv, hn, hh0, hI⟩ := hw
  exact (e4_ifRiffled_er1 hI x y hx1).imp (fun w2 h2 => ⟨hz, ln, sg, sv, hv, hn, hh0, h2⟩)
theorem s_ifRiffled_er2 {κ : Kp} {l : Launch} {a q z : Nat → Nat} {n : Nat} {w0 : va_W} (hw : Oc κ a q z n w0) (y : Int32)  : Sx κ l yX4_ifRiffled cX4_ifRiffled 3 (a 0) [.int (nI 0), .int y] (4294967294) w0 (Oc κ a q z n) := by
  obtain ⟨hz, ln, sg, sv, hv, hn, hh0, hI⟩ := hw
  exact (e4_ifRiffled_er2 hI y ).imp (fun w2 h2 => ⟨hz, ln, sg, sv, hv, hn, hh0, h2⟩)
theorem s_ifRiffled_er3 {κ : Kp} {l : Launch} {a q z : Nat → Nat} {n : Nat} {w0 : va_W} (hw : Oc κ a q z n w0) (r : Nat) (y : Int32) (hr1 : 1 ≤ r) (hr2 : r ≤ 20) (hx2 : y < 0 ∨ nI 2 ≤ y) : Sx κ l yX4_ifRiffled cX4_ifRiffled 3 (a 0) [.int (nI r), .int y] (4294967294) w0 (Oc κ a q z n) := by
  obtain ⟨hz, ln, sg, sv, hv, hn, hh0, hI⟩ := hw
  exact (e4_ifRiffled_er3 hI r y hr1 hr2 hx2).imp (fun w2 h2 => ⟨hz, ln, sg, sv, hv, hn, hh0, h2⟩)
theorem s_needed {κ : Kp} {l : Launch} {a q z : Nat → Nat} {n : Nat} {w0 : va_W} (hw : Oc κ a q z n w0)   : Sx κ l yX4_needed cX4_needed 2 (a 0) [] (nds z 20 1) w0 (Oc κ a q z n) := by
  obtain ⟨hz, ln, sg, sv, hv, hn, hh0, hI⟩ := hw
  exact (e4_needed hI  hv).imp (fun w2 h2 => ⟨hz, ln, sg, sv, hv, hn, hh0, h2⟩)
theorem s_worstBend {κ : Kp} {l : Launch} {a q z : Nat → Nat} {n : Nat} {w0 : va_W} (hw : Oc κ a q z n w0)   : Sx κ l yX4_worstBend cX4_worstBend 5 (a 0) [] ((wbs z 52).1) w0 (Oc κ a q z n) := by
  obtain ⟨hz, ln, sg, sv, hv, hn, hh0, hI⟩ := hw
  exact (e4_worstBend hI  hv).imp (fun w2 h2 => ⟨hz, ln, sg, sv, hv, hn, hh0, h2⟩)
theorem s_undo0 {κ : Kp} {l : Launch} {a q z : Nat → Nat} {w0 : va_W} (hw : Oc κ a q z 0 w0) : Sx κ l yX4_undo cX4_undo 1 (a 0) [] 4294967291 w0 (Oc κ a q z 0) := by
  obtain ⟨hz, ln, sg, sv, hv, hn, hh0, hI⟩ := hw
  exact (e4_undo (l := l) hI hn hh0).imp (fun w2 h2 => ⟨hz, ln, sg, sv, hv, hn, hh0, h2⟩)
theorem s_restore0 {κ : Kp} {l : Launch} {a q z : Nat → Nat} {n : Nat} {w0 : va_W} (hw : Oc κ a q z n w0) : Sx κ l yX4_restore cX4_restore 3 (a 0) [.int (nI 0)] 4294967291 w0 (Oc κ a q z n) := by
  obtain ⟨hz, ln, sg, sv, hv, hn, hh0, hI⟩ := hw
  exact (e4_restore0_no (l := l) hI).imp (fun w2 h2 => ⟨hz, ln, sg, sv, hv, hn, hh0, h2⟩)
