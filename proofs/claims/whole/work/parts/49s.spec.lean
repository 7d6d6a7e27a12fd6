theorem pul_le {ln : Nat} (h : ln ≤ 60) (w : Nat) : pul ln w ≤ 60 := by unfold pul; (repeat' split) <;> omega
theorem pus_lt {sg : Nat → Nat} (h : ∀ k, k < 60 → sg k < 128) (ln w : Nat) : ∀ k, k < 60 → pus sg ln w k < 128 := fun k hk => by
  unfold pus
  have h0 := h k hk
  split
  · exact h0
  · split
    · exact h0
    · unfold ppt
      split
      · have := pln_by (w := w) (j := pln w - 1 - (k - ln)) (by omega)
        omega
      · exact h0
theorem hb_u {n : Nat} {g : Nat → Nat} {h : Nat → Nat → Nat} (hg : HB n g h) : HB (u_n n) g h := fun k hk => hg k (by unfold u_n at hk; omega)
