theorem rit_x (b p : Nat → Nat) (x n : Nat) : (rit b p x (n + 1)).1 = rfx b (rit b p x n).2 (rit b p x n).1 := by rw [rit_s]
theorem rit_p (b p : Nat → Nat) (x n : Nat) : (rit b p x (n + 1)).2 = rfp b (rit b p x n).2 (rit b p x n).1 := by rw [rit_s]
theorem ri_x (z : Nat → Nat) (i : Nat) : (ri z (i + 1)).1 = rfx (fun k => z (52 + k)) (ri z i).2 (ri z i).1 := rit_x (bz z) z (z 326) i
theorem ri_p (z : Nat → Nat) (i : Nat) : (ri z (i + 1)).2 = rfp (fun k => z (52 + k)) (ri z i).2 (ri z i).1 := rit_p (bz z) z (z 326) i
theorem pr_n {f : Nat → Nat} {k s c : Nat} (h : 0 < k) (hp : s = sm f (k - 1)) (hc : f (k - 1) = c) : s + c = sm f (k + 1 - 1) := by
  rw [pr_s f h, ← hp, hc]
