theorem plr_0 : ∀ n k, plr n 0 k = k
  | 0, _ => rfl
  | _ + 1, _ => if_pos rfl
theorem wk_lt {w k : Nat} (hw : w < 2 ^ 64) (hk : k ≤ 8) (h : 0 < w / 256 ^ k) : k < 8 := by
  rcases Nat.lt_or_ge k 8 with q | q
  · exact q
  · have e : k = 8 := by omega
    subst e
    rw [Nat.div_eq_of_lt (show w < 256 ^ 8 from hw)] at h
    exact absurd h (Nat.lt_irrefl 0)
theorem ash {w j : Nat} (hw : w < 2 ^ 64) (hj : j < 8) : (lN w >>> ((nI (8 * j)).toInt64 &&& 63)) &&& lN 255 = lN (w / 256 ^ j % 256) := by
  rw [wb_c (8 * j) (by omega)]
  apply wb_inj
  rw [Int64.toBitVec_and, Int64.toBitVec_shiftRight, wb_tb, wb_tb, wb_tb, wb_tb, wb_sm (8 * j) (by omega)]
  apply BitVec.eq_of_getLsbD_eq
  intro i hi
  have e1 : (BitVec.ofNat 64 (8 * j)).toNat = 8 * j := by rw [BitVec.toNat_ofNat, Nat.mod_eq_of_lt (by omega)]
  have e2 : (255 : Nat) = 2 ^ 8 - 1 := by decide
  have e3 : w / 256 ^ j % 256 = (w >>> (8 * j)) % 2 ^ 8 := by rw [Nat.shiftRight_eq_div_pow, pow256]
  rw [BitVec.getLsbD_and, BitVec.sshiftRight', e1, BitVec.getLsbD_sshiftRight, BitVec.getLsbD_ofNat, BitVec.getLsbD_ofNat, BitVec.getLsbD_ofNat, e3, e2, Nat.testBit_mod_two_pow, Nat.testBit_two_pow_sub_one, Nat.testBit_shiftRight]
  by_cases h : i < 8
  · simp [h, hi, show 8 * j + i < 64 by omega]
  · simp [h]
