theorem shz_of {z : Nat → Nat} {K c : Nat} (hK : K = shk z) (hc : c = shc z) (k : Nat) : va_up (va_up (va_up (va_up (rfn z (bz z) z (z 326) (z 325)) 328 K) 327 c) 329 (z 329 + 1)) 330 (z 330 + c) k = shz z k := by
  subst hK; subst hc
  unfold va_up shz
  by_cases h : k < 52
  · rw [if_neg (by omega), if_neg (by omega), if_neg (by omega), if_neg (by omega), if_pos h, rfn_p _ _ _ _ _ h]; exact rfl
  · by_cases h2 : k = 326
    · subst h2
      rw [if_neg (by decide), if_neg (by decide), if_neg (by decide), if_neg (by decide), if_neg (by decide), if_pos rfl, rfn_x]; exact rfl
    · rw [if_neg h, if_neg h2]
      by_cases h3 : k = 327
      · subst h3; rfl
      · by_cases h4 : k = 328
        · subst h4; rfl
        · by_cases h5 : k = 329
          · subst h5; rfl
          · by_cases h6 : k = 330
            · subst h6; rfl
            · rw [if_neg h6, if_neg h5, if_neg h3, if_neg h4, if_neg h3, if_neg h4, if_neg h5, if_neg h6, rfn_o _ _ _ _ _ h h2]
theorem up52 (z : Nat → Nat) (c k : Nat) : va_up z (52 + c) 0 (52 + k) = va_up (bz z) c 0 k := by
  unfold va_up bz
  by_cases h : k = c
  · rw [if_pos h, if_pos (by omega)]
  · rw [if_neg h, if_neg (by omega)]
theorem in_n9 {m l : Nat} {x : Int32} (h : x < 0 ∨ nI 52 ≤ x) (hl : l ≤ m := by decide) (hm : m ≤ 51 := by decide) : x < nI l ∨ nI m < x := by
  rcases in_n1 (l := l) (m := 51) h (by omega) with h | h
  · exact Or.inl h
  · exact Or.inr (Int32.lt_of_le_of_lt ((nI_leI (by omega) (by decide)).mpr (by omega)) h)
theorem dez_of {z y : Nat → Nat} {b : Nat} (hb : b < 4) (hp : Perm z) (h1 : ∀ k, k < 52 → y (104 + 52 * b + z k) = k % 4) (h2 : ∀ k, (k < 104 + 52 * b ∨ 156 + 52 * b ≤ k) → y k = z k) (k : Nat) : va_up (va_up (va_up (va_up y (312 + b) 1) (320 + b) 0) 327 0) 331 (z 331 + 1) k = dez z b k := by
  unfold va_up dez
  by_cases h : 104 + 52 * b ≤ k ∧ k < 156 + 52 * b
  · rw [if_neg (by omega), if_neg (by omega), if_neg (by omega), if_neg (by omega), if_pos h]
    obtain ⟨e1, e2⟩ := p_inv hp (c := k - (104 + 52 * b)) (by omega)
    have := h1 _ e2
    rw [e1, show 104 + 52 * b + (k - (104 + 52 * b)) = k from by omega] at this
    exact this
  · rw [if_neg h]
    have h3 := h2 k (by omega)
    (repeat' split) <;> first | rfl | (exfalso; omega) | exact h3
theorem raw_le : ∀ a, a < 8 → nI a - nI 8 ≤ 0 := by decide +kernel
