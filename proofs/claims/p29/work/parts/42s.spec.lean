theorem sl13 (h : Nat → Nat) (d : Nat) {s : Nat} (hs : s < 4) : sl h d s = sm (fun r => if h (13 * s + r) = d then 1 else 0) 13 := by
  unfold sl
  have e : 52 = (13 * s + 13) + (39 - 13 * s) := by omega
  rw [e, sm_add, sm_add]
  have e1 : sm (fun k => if h k = d ∧ k / 13 = s then 1 else 0) (13 * s) = 0 := by
    rw [sm_cong (g := fun _ => 0) (fun k hk => if_neg (fun z => by have := z.2; omega)), sm_zero]
  have e2 : sm (fun k => (fun k => if h k = d ∧ k / 13 = s then 1 else 0) (13 * s + 13 + k)) (39 - 13 * s) = 0 := by
    rw [sm_cong (g := fun _ => 0) (fun k hk => if_neg (fun z => by have := z.2; omega)), sm_zero]
  rw [e1, e2, Nat.zero_add, Nat.add_zero]
  refine sm_cong (fun k hk => ?_)
  by_cases q : h (13 * s + k) = d
  · rw [if_pos q, if_pos ⟨q, by omega⟩]
  · rw [if_neg q, if_neg (fun z => q z.1)]
theorem lst_s (f : Nat → Nat) (n : Nat) : lst f (n + 1) = if f n = 1 then n else lst f n := rfl
theorem or_0 (a : Nat) : nI a ||| nI 0 = nI a := by
  show Int32.ofBitVec _ = _
  apply Int32.toBitVec_inj.mp
  show (nI a).toBitVec ||| (nI 0).toBitVec = _
  have : (nI 0).toBitVec = 0#32 := by decide
  rw [this, BitVec.or_zero]
theorem hd_lt {z : Nat → Nat} (hh : ∀ k, k < 208 → z (104 + k) < 4) {b : Nat} (hb : b < 4) (k : Nat) (hk : k < 52) : hd z b k < 4 := by
  unfold hd
  rw [Nat.add_assoc]
  exact hh _ (by omega)
theorem dez_hd {z : Nat → Nat} {b : Nat} (k : Nat) (hk : k < 52) : hd (dez z b) b k < 4 := by
  unfold hd dez
  rw [if_pos (by omega)]
  exact Nat.mod_lt _ (by decide)
