/-! THE WORDS OF THE PROOF: what both sides compute, on natural numbers -/
theorem nar_z {x : Nat} (h : x ≤ 1) : narrow .boolean (.int (nI x)) = .int (nI x) := by
  rcases Nat.le_one_iff_eq_zero_or_eq_one.mp h with rfl | rfl <;> rfl
theorem fit_z {x : Nat} (h : x ≤ 1) : fits .boolean (.int (nI x)) = true := by
  rcases Nat.le_one_iff_eq_zero_or_eq_one.mp h with rfl | rfl <;> rfl
theorem df_X0 : ∀ j, j < 4 → defaultValue (tyX0 j) = vp_V [.null, .int (nI 0), .int (nI 0), .int (nI 0)] j := fun j hj => match j, hj with
  | 0, _ => rfl | 1, _ => rfl | 2, _ => rfl | 3, _ => rfl
theorem df_X1 : ∀ j, j < 2 → defaultValue (tyX1 j) = vp_V [.null, .int (nI 0)] j := fun j hj => match j, hj with
  | 0, _ => rfl | 1, _ => rfl
theorem df_X2 : ∀ j, j < 11 → defaultValue (tyX2 j) = vp_V [.null, .null, .null, .null, .int (nI 0), .int (nI 0), .int (nI 0), .int (nI 0), .int (nI 0), .int (nI 0), .int (nI 0)] j := fun j hj => match j, hj with
  | 0, _ => rfl | 1, _ => rfl | 2, _ => rfl | 3, _ => rfl | 4, _ => rfl | 5, _ => rfl | 6, _ => rfl | 7, _ => rfl | 8, _ => rfl | 9, _ => rfl | 10, _ => rfl
theorem df_X3 : ∀ j, j < 6 → defaultValue (tyX3 j) = vp_V [.null, .null, .null, .null, .null, .int (nI 0)] j := fun j hj => match j, hj with
  | 0, _ => rfl | 1, _ => rfl | 2, _ => rfl | 3, _ => rfl | 4, _ => rfl | 5, _ => rfl
theorem df_X4 : ∀ j, j < 7 → defaultValue (tyX4 j) = vp_V [.null, .null, .null, .null, .int (nI 0), .null, .null] j := fun j hj => match j, hj with
  | 0, _ => rfl | 1, _ => rfl | 2, _ => rfl | 3, _ => rfl | 4, _ => rfl | 5, _ => rfl | 6, _ => rfl
section GSW
variable {κ : Kp} {Γ : Gm} {A : Nat → Prop} {nL cells slots : Nat} {Q : State → Prop} {ws : va_W} {pc : Nat} {lv : List (Nat × Value)} {st : List Value} {cc : ByteArray} {own nm : String} {ret : Option FieldType} {Rm : Room}
theorem g_tsIn {dflt lo hi off : Int} {offs : Array Int} {len tgt : Nat} {x : Int32} (hc : Cx κ Γ A cc nL own nm ret Rm) (hd : decode cc pc = .ok (.tableswitch dflt lo hi offs, len)) (h1 : ¬ x.toInt < lo) (h2 : ¬ hi < x.toInt) (ho : offs[(x.toInt - lo).toNat]? = some off) (ht : (pc : Int) + off = (tgt : Int)) (k : G κ Γ A nL cells slots Q ws tgt lv st) : G κ Γ A nL cells slots Q ws pc lv (.int x :: st) := fun H locs ls hP hD hS hl => lv_tableIn hc.1 hc.2.1 hd h1 h2 ho ht (k H locs ls hP hD hS hl)
theorem g_tsOut {dflt lo hi : Int} {offs : Array Int} {len tgt : Nat} {x : Int32} (hc : Cx κ Γ A cc nL own nm ret Rm) (hd : decode cc pc = .ok (.tableswitch dflt lo hi offs, len)) (h : x.toInt < lo ∨ hi < x.toInt) (ht : (pc : Int) + dflt = (tgt : Int)) (k : G κ Γ A nL cells slots Q ws tgt lv st) : G κ Γ A nL cells slots Q ws pc lv (.int x :: st) := fun H locs ls hP hD hS hl => lv_tableOut hc.1 hc.2.1 hd h ht (k H locs ls hP hD hS hl)
theorem g_lks {dflt off : Int} {ps : Array (Int × Int)} {len tgt : Nat} {x : Int32} (hc : Cx κ Γ A cc nL own nm ret Rm) (hd : decode cc pc = .ok (.lookupswitch dflt ps, len)) (hp : (ps.toList.zip (ps.toList.drop 1)).all (fun (a, next) => a.1 < next.1) = true) (ho : Op.lookupswitch.offset ps.toList dflt x.toInt = off) (ht : (pc : Int) + off = (tgt : Int)) (k : G κ Γ A nL cells slots Q ws tgt lv st) : G κ Γ A nL cells slots Q ws pc lv (.int x :: st) := fun H locs ls hP hD hS hl => lv_lookup hc.1 hc.2.1 hd hp ho ht (k H locs ls hP hD hS hl)
end GSW
/-- sums -/
def sm (f : Nat → Nat) : Nat → Nat
  | 0 => 0
  | n + 1 => sm f n + f n
theorem sm_s (f : Nat → Nat) (n : Nat) : sm f (n + 1) = sm f n + f n := rfl
theorem sm_le1 {f : Nat → Nat} : ∀ {n : Nat}, (∀ k, k < n → f k ≤ 1) → sm f n ≤ n
  | 0, _ => Nat.le_refl 0
  | n + 1, h => by
    have h1 := sm_le1 (n := n) (fun k hk => h k (Nat.lt_succ_of_lt hk))
    have h2 := h n (Nat.lt_succ_self n)
    rw [sm_s]; omega
theorem sm_leC {f : Nat → Nat} (c : Nat) : ∀ {n : Nat}, (∀ k, k < n → f k ≤ c) → sm f n ≤ n * c
  | 0, _ => by simp [sm]
  | n + 1, h => by
    have h1 := sm_leC c (n := n) (fun k hk => h k (Nat.lt_succ_of_lt hk))
    have h2 := h n (Nat.lt_succ_self n)
    rw [sm_s, Nat.succ_mul]; omega
theorem sm_cong {f g : Nat → Nat} : ∀ {n : Nat}, (∀ k, k < n → f k = g k) → sm f n = sm g n
  | 0, _ => rfl
  | n + 1, h => by rw [sm_s, sm_s, sm_cong (n := n) (fun k hk => h k (Nat.lt_succ_of_lt hk)), h n (Nat.lt_succ_self n)]
theorem sm_mem {f : Nat → Nat} {k : Nat} : ∀ {n : Nat}, k < n → f k ≤ sm f n
  | 0, h => absurd h (Nat.not_lt_zero _)
  | n + 1, h => by
    rw [sm_s]
    rcases Nat.lt_succ_iff_lt_or_eq.mp h with h | rfl
    · have := sm_mem (f := f) h; omega
    · omega
theorem sm_add (f : Nat → Nat) (m : Nat) : ∀ n, sm f (m + n) = sm f m + sm (fun k => f (m + k)) n
  | 0 => rfl
  | n + 1 => by rw [← Nat.add_assoc, sm_s, sm_add f m n, sm_s]; omega
theorem sm_plus (f g : Nat → Nat) : ∀ n, sm (fun k => f k + g k) n = sm f n + sm g n
  | 0 => rfl
  | n + 1 => by rw [sm_s, sm_s, sm_s, sm_plus f g n]; omega
theorem sm_zero : ∀ n, sm (fun _ => 0) n = 0
  | 0 => rfl
  | n + 1 => by rw [sm_s, sm_zero n]
theorem sm_swap (f : Nat → Nat → Nat) (m : Nat) : ∀ n, sm (fun i => sm (fun j => f i j) m) n = sm (fun j => sm (fun i => f i j) n) m
  | 0 => by show 0 = sm (fun _ => 0) m; rw [sm_zero]
  | n + 1 => by
    rw [sm_s, sm_swap f m n, ← sm_plus]
    rfl
/-- the last place with 1, or NONE -/
def lst (f : Nat → Nat) : Nat → Nat
  | 0 => 4294967290
  | n + 1 => if f n = 1 then n else lst f n
/-- the best place, of several the lowest -/
def bst (f : Nat → Nat) : Nat → Nat
  | 0 => 0
  | n + 1 => if f (bst f n) < f (n + 1) then n + 1 else bst f n
theorem bst_le (f : Nat → Nat) : ∀ n, bst f n ≤ n
  | 0 => Nat.le_refl 0
  | n + 1 => by
    have := bst_le f n
    unfold bst; split <;> omega
/-- the place of a card -/
def fnd (p : Nat → Nat) (c : Nat) : Nat → Nat
  | 0 => 52
  | n + 1 => if p n = c then n else fnd p c n
def inv (p : Nat → Nat) (c : Nat) : Nat := fnd p c 52
def Perm (p : Nat → Nat) : Prop := (∀ k, k < 52 → p k < 52) ∧ ∀ i j, i < 52 → j < 52 → p i = p j → i = j
theorem fnd_in {p : Nat → Nat} {k : Nat} (hi : ∀ i j, i < 52 → j < 52 → p i = p j → i = j) : ∀ {n : Nat}, n ≤ 52 → k < n → fnd p (p k) n = k
  | 0, _, h => absurd h (Nat.not_lt_zero _)
  | n + 1, hn, h => by
    unfold fnd
    split
    · rename_i h2
      exact hi n k (by omega) (by omega) h2
    · rename_i h2
      rcases Nat.lt_succ_iff_lt_or_eq.mp h with h | rfl
      · exact fnd_in hi (by omega) h
      · exact absurd rfl h2
theorem inv_p {p : Nat → Nat} (hp : Perm p) {k : Nat} (hk : k < 52) : inv p (p k) = k := fnd_in hp.2 (Nat.le_refl 52) hk
theorem fb_holes : ∀ (m n : Nat) (f : Nat → Nat), (∀ i, i < n → f i < m) → (∀ i j, i < j → j < n → f i ≠ f j) → n ≤ m
  | 0, n, f, h1, h2 => by
    rcases Nat.eq_zero_or_pos n with h | h
    · omega
    · exact absurd (h1 0 h) (Nat.not_lt_zero _)
  | m + 1, n, f, h1, h2 => by
    by_cases hx : ∃ i, i < n ∧ f i = m
    · obtain ⟨i, hi, hfi⟩ := hx
      have := fb_holes m (n - 1) (fun k => if k < i then f k else f (k + 1)) (fun k hk => by
        try dsimp only
        split
        · rename_i hki
          have a := h1 k (by omega); have b := h2 k i hki hi; omega
        · rename_i hki
          have a := h1 (k + 1) (by omega); have b := h2 i (k + 1) (by omega) (by omega); omega) (fun a b hab hb => by
        try dsimp only
        split <;> split
        · exact h2 a b hab (by omega)
        · exact h2 a (b + 1) (by omega) (by omega)
        · omega
        · exact h2 (a + 1) (b + 1) (by omega) (by omega))
      omega
    · have := fb_holes m n f (fun i hi => by
        have a := h1 i hi
        rcases Nat.lt_succ_iff_lt_or_eq.mp a with q | q
        · exact q
        · exact absurd ⟨i, hi, q⟩ hx) h2
      omega
theorem Perm.onto {p : Nat → Nat} (hp : Perm p) {c : Nat} (hc : c < 52) : ∃ k, k < 52 ∧ p k = c := by
  refine Classical.byContradiction (fun hx => ?_)
  have := fb_holes 52 53 (fun i => if i < 52 then p i else c) (fun i hi => by
    try dsimp only
    split
    · rename_i h; exact hp.1 i h
    · exact hc) (fun i j hij hj => by
    try dsimp only
    split
    · rename_i h1
      split
      · rename_i h2
        intro h; have := hp.2 i j h1 h2 h; omega
      · intro h; exact hx ⟨i, h1, h⟩
    · omega)
  omega
theorem p_inv {p : Nat → Nat} (hp : Perm p) {c : Nat} (hc : c < 52) : p (inv p c) = c ∧ inv p c < 52 := by
  obtain ⟨k, hk, rfl⟩ := hp.onto hc
  rw [inv_p hp hk]
  exact ⟨rfl, hk⟩
theorem fnd_le (p : Nat → Nat) (c : Nat) : ∀ n, fnd p c n ≤ 52 ∨ fnd p c n < n
  | 0 => Or.inl (Nat.le_refl 52)
  | n + 1 => by
    unfold fnd
    split
    · exact Or.inr (Nat.lt_succ_self n)
    · rcases fnd_le p c n with h | h
      · exact Or.inl h
      · exact Or.inr (by omega)
theorem inv_le (p : Nat → Nat) (c : Nat) : inv p c ≤ 52 := by
  rcases fnd_le p c 52 with h | h
  · exact h
  · exact Nat.le_of_lt h
/-- hands -/
def sl (h : Nat → Nat) (d s : Nat) : Nat := sm (fun k => if h k = d ∧ k / 13 = s then 1 else 0) 52
def pt (h : Nat → Nat) (d : Nat) : Nat := sm (fun k => if h k = d then k % 13 - 8 else 0) 52
def bl (h : Nat → Nat) (d : Nat) : Nat := if sm (fun s => if sl h d s < 2 then 1 else 0) 4 = 0 ∧ sm (fun s => if sl h d s = 2 then 1 else 0) 4 ≤ 1 then 1 else 0
def hs (h : Nat → Nat) (d : Nat) : Nat := lst (fun r => if h (39 + r) = d then 1 else 0) 13
def bh (h : Nat → Nat) : Nat := bst (pt h) 3
def bm (h : Nat → Nat) : Nat := sm (fun d => if bl h d = 1 then 2 ^ d else 0) 4
def al (f g : Nat → Nat) : Nat := if sm (fun k => if f k = g k then 0 else 1) 52 = 0 then 1 else 0
theorem sl_le (h : Nat → Nat) (d s : Nat) : sl h d s ≤ 52 := sm_le1 (fun k _ => by split <;> omega)
theorem pt_le (h : Nat → Nat) (d : Nat) : pt h d ≤ 208 := sm_leC (n := 52) 4 (fun k _ => by split <;> omega)
theorem bl_le (h : Nat → Nat) (d : Nat) : bl h d ≤ 1 := by unfold bl; split <;> omega
theorem al_le (f g : Nat → Nat) : al f g ≤ 1 := by unfold al; split <;> omega
theorem max_r : ∀ r, r < 13 → (if nI 0 < nI r - nI 8 then nI r - nI 8 else nI 0) = nI (r - 8) := by decide +kernel
theorem shl_1 : ∀ h, h < 4 → nI 1 <<< (nI h &&& 31) = nI (2 ^ h) := by decide +kernel
theorem or_sum {a k : Nat} (h : a < 2 ^ k) : nI a ||| nI (2 ^ k) = nI (a + 2 ^ k) := by
  have e : a ||| 2 ^ k = a + 2 ^ k := by
    have := Nat.two_pow_add_eq_or_of_lt h 1
    rw [Nat.mul_one] at this
    rw [Nat.or_comm, ← this, Nat.add_comm]
  unfold nI
  rw [← e]
  apply Int32.toBitVec_inj.mp
  simp [Int32.toBitVec_or]
