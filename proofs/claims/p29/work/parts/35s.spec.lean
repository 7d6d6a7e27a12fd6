theorem shz_326 (z : Nat → Nat) : shz z 326 = (rit (bz z) z (z 326) (z 325)).1 := by
  unfold shz
  rw [if_neg (by decide), if_pos rfl]
  rfl
theorem shz_327 (z : Nat → Nat) : shz z 327 = if kp z (rit (bz z) z (z 326) (z 325)).2 ≤ z 324 then 1 else 0 := by
  unfold shz
  rw [if_neg (by decide), if_neg (by decide), if_pos rfl]
  rfl
theorem shz_328 (z : Nat → Nat) : shz z 328 = kp z (rit (bz z) z (z 326) (z 325)).2 := by
  unfold shz
  rw [if_neg (by decide), if_neg (by decide), if_neg (by decide), if_pos rfl]
  rfl
theorem shz_329 (z : Nat → Nat) : shz z 329 = z 329 + 1 := by
  unfold shz
  rw [if_neg (by decide), if_neg (by decide), if_neg (by decide), if_neg (by decide), if_pos rfl]
theorem shz_330 (z : Nat → Nat) : shz z 330 = z 330 + if kp z (rit (bz z) z (z 326) (z 325)).2 ≤ z 324 then 1 else 0 := by
  unfold shz
  rw [if_neg (by decide), if_neg (by decide), if_neg (by decide), if_neg (by decide), if_neg (by decide), if_pos rfl]
  rfl
theorem shz_o (z : Nat → Nat) {k : Nat} (h : 52 ≤ k ∧ (k < 326 ∨ 330 < k)) : shz z k = z k := by
  unfold shz
  rw [if_neg (by omega), if_neg (by omega), if_neg (by omega), if_neg (by omega), if_neg (by omega), if_neg (by omega)]
theorem shz_p (z : Nat → Nat) {k : Nat} (h : k < 52) : shz z k = (rit (bz z) z (z 326) (z 325)).2 k := by
  unfold shz
  rw [if_pos h]
  rfl
