/-! what a turn leaves: the law's rows behind it -/
section TL
variable {z : Nat → Nat} {b : Nat}
theorem dez_f (hb : b < 4) (j : Nat) (h1 : 312 ≤ j) (h2 : j < 324) : dez z b j = if j = 312 + b then 1 else if j = 320 + b then 0 else z j := by
  unfold dez
  rw [if_neg (by omega)]
  (repeat' split) <;> first | rfl | (exfalso; omega)
theorem t_by {k : Nat} (hk : k < 12) : ∃ j, j < 4 ∧ (k = 3 * j ∨ k = 3 * j + 1 ∨ k = 3 * j + 2) := ⟨k / 3, by omega, by omega⟩
theorem t_of {f y : Nat → Nat} (h0 : ∀ j, j < 4 → f (3 * j) = y (312 + j)) (h1 : ∀ j, j < 4 → f (3 * j + 1) = y (316 + j)) (h2 : ∀ j, j < 4 → f (3 * j + 2) = y (320 + j)) (k : Nat) (hk : k < 12) : f k = tt y k := by
  obtain ⟨j, hj, rfl | rfl | rfl⟩ := t_by hk
  · rw [tt_0]; exact h0 j hj
  · rw [tt_1]; exact h1 j hj
  · rw [tt_2]; exact h2 j hj
theorem t_dez (hb : b < 4) (k : Nat) (hk : k < 12) : va_up (va_up (tt z) (3 * b) 1) ((3 * b) + 2) 0 k = tt (dez z b) k := by
  refine t_of (f := va_up (va_up (tt z) (3 * b) 1) ((3 * b) + 2) 0) (fun j hj => ?_) (fun j hj => ?_) (fun j hj => ?_) k hk
  · rw [va_up_ne _ _ (by omega), dez_f hb _ (by omega) (by omega)]
    by_cases e : j = b
    · subst e; rw [va_up_self, if_pos rfl]
    · rw [va_up_ne _ _ (by omega), tt_0, if_neg (by omega), if_neg (by omega)]
  · rw [va_up_ne _ _ (by omega), va_up_ne _ _ (by omega), tt_1, dez_f hb _ (by omega) (by omega), if_neg (by omega), if_neg (by omega)]
  · rw [dez_f hb _ (by omega) (by omega), if_neg (by omega)]
    by_cases e : j = b
    · subst e; rw [va_up_self, if_pos rfl]
    · rw [va_up_ne _ _ (by omega), va_up_ne _ _ (by omega), tt_2, if_neg (by omega)]
theorem t_sez (hb : b < 4) (k : Nat) (hk : k < 12) : va_up (tt z) ((3 * b) + 1) 1 k = tt (sez z b) k := by
  refine t_of (f := va_up (tt z) ((3 * b) + 1) 1) (fun j hj => ?_) (fun j hj => ?_) (fun j hj => ?_) k hk <;> unfold sez
  · rw [va_up_ne _ _ (by omega), va_up_ne _ _ (by omega), tt_0]
  · by_cases e : j = b
    · subst e; rw [va_up_self, va_up_self]
    · rw [va_up_ne _ _ (by omega), va_up_ne _ _ (by omega), tt_1]
  · rw [va_up_ne _ _ (by omega), va_up_ne _ _ (by omega), tt_2]
theorem opz_f (hb : b < 4) (j : Nat) (h1 : 312 ≤ j) (h2 : j < 324) : opz z b j = if j = 316 + b then 0 else if j = 320 + b then z (320 + b) + 1 else z j := by
  unfold opz
  by_cases e1 : j = 316 + b
  · rw [if_pos e1, if_pos e1]
  · rw [if_neg e1, if_neg e1]
    by_cases e2 : j = 320 + b
    · rw [if_pos e2, if_pos e2]
    · rw [if_neg e2, if_neg e2, if_neg (by omega)]
theorem t_opz (hb : b < 4) (k : Nat) (hk : k < 12) : va_up (va_up (tt z) ((3 * b) + 1) 0) ((3 * b) + 2) (z (320 + b) + 1) k = tt (opz z b) k := by
  refine t_of (f := va_up (va_up (tt z) ((3 * b) + 1) 0) ((3 * b) + 2) (z (320 + b) + 1)) (fun j hj => ?_) (fun j hj => ?_) (fun j hj => ?_) k hk
  · rw [va_up_ne _ _ (by omega), va_up_ne _ _ (by omega), tt_0, opz_f hb _ (by omega) (by omega), if_neg (by omega), if_neg (by omega)]
  · rw [va_up_ne _ _ (by omega), opz_f hb _ (by omega) (by omega)]
    by_cases e : j = b
    · subst e; rw [va_up_self, if_pos rfl]
    · rw [va_up_ne _ _ (by omega), tt_1, if_neg (by omega), if_neg (by omega)]
  · rw [opz_f hb _ (by omega) (by omega), if_neg (by omega)]
    by_cases e : j = b
    · subst e; rw [va_up_self, if_pos rfl]
    · rw [va_up_ne _ _ (by omega), va_up_ne _ _ (by omega), tt_2, if_neg (by omega)]
theorem g_dez (hb : b < 4) (k : Nat) (hk : k < 9) : va_up (va_up (fun k => z (324 + k)) 3 0) 7 (z 331 + 1) k = dez z b (324 + k) := by
  unfold dez va_up
  (repeat' split) <;> first | rfl | (exfalso; omega)
theorem g_opz (hb : b < 4) (k : Nat) (hk : k < 9) : va_up (fun k => z (324 + k)) 8 (z 332 + 1) k = opz z b (324 + k) := by
  unfold opz va_up
  (repeat' split) <;> first | rfl | (exfalso; omega)
theorem o_dez (hb : b < 4) {k : Nat} (h : k < 104 ∨ (k < 312 ∧ (k < 104 + 52 * b ∨ 156 + 52 * b ≤ k))) : dez z b k = z k := by
  unfold dez
  (repeat' split) <;> first | rfl | (exfalso; omega)
theorem o_opz (hb : b < 4) {k : Nat} (h : k < 312) : opz z b k = z k := by
  unfold opz
  (repeat' split) <;> first | rfl | (exfalso; omega)
theorem s_sez (hb : b < 4) (j : Nat) (hj : j < 4) : va_up (tt z) ((3 * b) + 1) 1 (3 * j + 1) = sez z b (316 + j) := by
  rw [t_sez hb _ (by omega)]
  exact tt_1 _ _
theorem g_shz {v : Nat} (hcz : shc z = v) (k : Nat) (hk : k < 9) : va_up (va_up (va_up (va_up (va_up (fun k => z (324 + k)) 2 (ri z (z 325)).1) 4 (shk z)) 3 v) 5 (z 329 + 1)) 6 (z 330 + v) k = shz z (324 + k) := by
  match k, hk with
  | 0, _ => show z 324 = shz z 324; exact (shz_o z (by decide)).symm
  | 1, _ => show z 325 = shz z 325; exact (shz_o z (by decide)).symm
  | 2, _ => show (ri z (z 325)).1 = shz z 326; exact (shz_326 z).symm
  | 3, _ => show v = shz z 327; rw [shz_327]; exact hcz.symm
  | 4, _ => show shk z = shz z 328; exact (shz_328 z).symm
  | 5, _ => show z 329 + 1 = shz z 329; exact (shz_329 z).symm
  | 6, _ => show z 330 + v = shz z 330; rw [shz_330]; exact congrArg (fun t => z 330 + t) hcz.symm
  | 7, _ => show z 331 = shz z 331; exact (shz_o z (by decide)).symm
  | 8, _ => show z 332 = shz z 332; exact (shz_o z (by decide)).symm
end TL
