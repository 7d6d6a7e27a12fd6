/-! WHAT HOLDS OF z IS KEPT -/
theorem perm_cong {p q : Nat → Nat} (h : ∀ k, k < 52 → q k = p k) (hp : Perm p) : Perm q := ⟨fun k hk => by rw [h k hk]; exact hp.1 k hk, fun i j hi hj e => by rw [h i hi, h j hj] at e; exact hp.2 i j hi hj e⟩
theorem zv_up {z : Nat → Nat} {i v : Nat} (hv : Zv z) (hi : i = 324 ∧ v ≤ 51 ∨ i = 325 ∧ 1 ≤ v ∧ v ≤ 9 ∨ i = 326 ∧ v < 2 ^ 31 ∨ 328 ≤ i ∨ i = 327 ∧ v ≤ 1 ∨ 52 ≤ i ∧ i < 104 ∧ v ≤ 1 ∨ 312 ≤ i ∧ i < 320 ∧ v ≤ 1 ∨ 320 ≤ i ∧ i < 324) : Zv (va_up z i v) := by
  obtain ⟨h1, h2, h3, h4, h5, h6, h7, h8⟩ := hv
  refine ⟨fun k hk => ?_, fun k hk => ?_, ?_, perm_cong (fun k hk => va_up_ne _ _ (by omega)) h4, fun k hk => ?_, ?_, ?_, ?_⟩ <;> unfold va_up
  · have := h1 k hk; split <;> omega
  · have := h2 k hk; split <;> omega
  · split <;> omega
  · have := h5 k hk; split <;> omega
  · split <;> omega
  · split <;> omega
  · split <;> omega
theorem zv_flp {z : Nat → Nat} {c : Nat} (hv : Zv z) (hc : c < 52) : Zv (flp z c) := zv_up hv (by have := hv.1 c hc; omega)
theorem zv_shz {z : Nat → Nat} (hv : Zv z) : Zv (shz z) := by
  obtain ⟨h1, h2, h3, h4, h5, h6, h7, h8⟩ := hv
  have hin := rit_in (b := bz z) h4 h8 (z 325)
  refine ⟨fun k hk => ?_, fun k hk => ?_, ?_, perm_cong (fun k hk => shz_p z hk) hin.2, fun k hk => ?_, ?_, ?_, ?_⟩
  · rw [shz_o z (by omega)]; exact h1 k hk
  · rw [shz_o z (by omega)]; exact h2 k hk
  · rw [shz_327]; split <;> omega
  · rw [shz_o z (by omega)]; exact h5 k hk
  · rw [shz_o z (by decide)]; exact h6
  · rw [shz_o z (by decide)]; exact h7
  · rw [shz_326]; exact hin.1
theorem zv_cuz {z : Nat → Nat} (hv : Zv z) (c : Nat) : Zv (cuz z c) := by
  obtain ⟨h1, h2, h3, h4, h5, h6, h7, h8⟩ := hv
  have o : ∀ k, ¬ k < 52 → cuz z c k = z k := fun k hk => if_neg hk
  refine ⟨fun k hk => ?_, fun k hk => ?_, ?_, ?_, fun k hk => ?_, ?_, ?_, ?_⟩
  · rw [o _ (by omega)]; exact h1 k hk
  · rw [o _ (by omega)]; exact h2 k hk
  · rw [o _ (by decide)]; exact h3
  · have p : ∀ k, k < 52 → cuz z c k = z ((k + c) % 52) := fun k hk => if_pos hk
    refine ⟨fun k hk => ?_, fun i j hi hj e => ?_⟩
    · rw [p k hk]; exact h4.1 _ (by omega)
    · rw [p i hi, p j hj] at e
      have := h4.2 _ _ (by omega) (by omega) e
      omega
  · rw [o _ (by omega)]; exact h5 k hk
  · rw [o _ (by decide)]; exact h6
  · rw [o _ (by decide)]; exact h7
  · rw [o _ (by decide)]; exact h8
theorem zv_soz {z : Nat → Nat} (hv : Zv z) : Zv (soz z) := by
  obtain ⟨h1, h2, h3, h4, h5, h6, h7, h8⟩ := hv
  refine ⟨fun k hk => ?_, fun k hk => ?_, ?_, perm_cong (p := fun k => k) (fun k hk => if_pos hk) ⟨fun k hk => hk, fun i j _ _ e => e⟩, fun k hk => ?_, ?_, ?_, ?_⟩ <;> unfold soz
  · rw [if_neg (by omega), if_neg (by omega)]; exact h1 k hk
  · rw [if_neg (by omega), if_neg (by omega)]; exact h2 k hk
  · rw [if_neg (by decide), if_pos rfl]; decide
  · rw [if_neg (by omega), if_neg (by omega)]; exact h5 k hk
  · rw [if_neg (by decide), if_neg (by decide)]; exact h6
  · rw [if_neg (by decide), if_neg (by decide)]; exact h7
  · rw [if_neg (by decide), if_neg (by decide)]; exact h8
theorem zv_dez {z : Nat → Nat} (hv : Zv z) {b : Nat} (hb : b < 4) : Zv (dez z b) := by
  obtain ⟨h1, h2, h3, h4, h5, h6, h7, h8⟩ := hv
  have o : ∀ k, ¬ (104 + 52 * b ≤ k ∧ k < 156 + 52 * b) → k ≠ 312 + b → k ≠ 320 + b → k ≠ 327 → k ≠ 331 → dez z b k = z k := fun k a1 a2 a3 a4 a5 => by unfold dez; rw [if_neg a1, if_neg a2, if_neg a3, if_neg a4, if_neg a5]
  refine ⟨fun k hk => ?_, fun k hk => ?_, ?_, perm_cong (fun k hk => o k (by omega) (by omega) (by omega) (by omega) (by omega)) h4, fun k hk => ?_, ?_, ?_, ?_⟩
  · rw [o _ (by omega) (by omega) (by omega) (by omega) (by omega)]; exact h1 k hk
  · by_cases e : k = b
    · subst e; unfold dez; rw [if_neg (by omega), if_pos rfl]; exact Nat.le_refl 1
    · rw [o _ (by omega) (by omega) (by omega) (by omega) (by omega)]; exact h2 k hk
  · unfold dez; rw [if_neg (by omega), if_neg (by omega), if_neg (by omega), if_pos rfl]; exact Nat.zero_le 1
  · by_cases e : 104 + 52 * b ≤ 104 + k ∧ 104 + k < 156 + 52 * b
    · unfold dez; rw [if_pos e]; exact Nat.mod_lt _ (by decide)
    · rw [o _ e (by omega) (by omega) (by omega) (by omega)]; exact h5 k hk
  · rw [o _ (by omega) (by omega) (by omega) (by omega) (by omega)]; exact h6
  · rw [o _ (by omega) (by omega) (by omega) (by omega) (by omega)]; exact h7
  · rw [o _ (by omega) (by omega) (by omega) (by omega) (by omega)]; exact h8
theorem zv_sez {z : Nat → Nat} (hv : Zv z) {b : Nat} (hb : b < 4) : Zv (sez z b) := zv_up hv (by omega)
theorem zv_opz {z : Nat → Nat} (hv : Zv z) {b : Nat} (hb : b < 4) : Zv (opz z b) := by
  have e : opz z b = va_up (va_up (va_up z 332 (z 332 + 1)) (320 + b) (z (320 + b) + 1)) (316 + b) 0 := by
    funext k; unfold opz va_up; (repeat' split) <;> first | rfl | (exfalso; omega)
  rw [e]
  exact zv_up (zv_up (zv_up hv (by omega)) (by omega)) (by omega)
theorem zv_zi : Zv zi := by
  refine ⟨fun k hk => ?_, fun k hk => ?_, by decide, ⟨fun k hk => ?_, fun i j hi hj e => ?_⟩, fun k hk => ?_, by decide, by decide, by decide⟩
  · unfold zi; (repeat' split) <;> omega
  · unfold zi; (repeat' split) <;> omega
  · unfold zi; rw [if_pos hk]; exact hk
  · unfold zi at e; rw [if_pos hi, if_pos hj] at e; exact e
  · unfold zi; (repeat' split) <;> omega
theorem zv_uz {n : Nat} {h : Nat → Nat → Nat} {z : Nat → Nat} (hv : Zv z) (hh : ∀ k, k < n → Zv (h k)) : Zv (u_z n h z) := by
  unfold u_z
  by_cases e : n = 0
  · rw [if_pos e]; exact hv
  · rw [if_neg e]; exact hh _ (by omega)
theorem zv_rh {n : Nat} {h : Nat → Nat → Nat} {z : Nat → Nat} (hn : n ≤ 4) (hv : Zv z) (hh : ∀ k, k < n → Zv (h k)) : ∀ k, k < rn n → Zv (rh n h z k) := by
  intro k hk
  unfold rn at hk
  unfold rh
  by_cases e : n = 4
  · rw [if_pos e] at hk ⊢
    by_cases e2 : k = 3
    · rw [if_pos e2]; exact hv
    · rw [if_neg e2]; exact hh _ (by omega)
  · rw [if_neg e] at hk ⊢
    unfold va_up
    by_cases e2 : k = n
    · rw [if_pos e2]; exact hv
    · rw [if_neg e2]; exact hh _ (by omega)
theorem rn_le {n : Nat} (hn : n ≤ 4) : rn n ≤ 4 := by unfold rn; split <;> omega
