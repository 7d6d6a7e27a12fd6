/-! THE MODEL'S WORDS -/
theorem in_y {lo hi v : Nat} (h1 : lo ≤ v) (h2 : v ≤ hi) (h3 : hi < 2 ^ 31 := by decide) : nI lo ≤ nI v ∧ nI v ≤ nI hi := ⟨(nI_leI (by omega) (by omega)).mpr h1, (nI_leI (by omega) (by omega)).mpr h2⟩
theorem in_n1 {l m : Nat} {x : Int32} (h : x < 0 ∨ nI (m + 1) ≤ x) (hl : l ≤ m := by decide) (hm : m + 1 < 2 ^ 31 := by decide) : x < nI l ∨ nI m < x := by
  rcases h with h | h
  · left
    by_cases e : l = 0
    · subst e; exact h
    · exact Int32.lt_of_lt_of_le h (show nI 0 ≤ nI l from (nI_leI (by decide) (by omega)).mpr (Nat.zero_le l))
  · right
    exact Int32.lt_of_lt_of_le (Int32.not_le.mp (fun z => by have := (nI_leI (by omega) (by omega)).mp z; omega)) h
theorem in_nn {lo hi v : Nat} (h : v < lo ∨ hi < v) (h1 : lo < 2 ^ 31 := by decide) (h2 : hi < 2 ^ 31 := by decide) (h3 : v < 2 ^ 31 := by decide) : nI v < nI lo ∨ nI hi < nI v := by
  rcases h with h | h
  · exact Or.inl (Int32.not_le.mp (fun z => by have := (nI_leI (by omega) (by omega)).mp z; omega))
  · exact Or.inr (Int32.not_le.mp (fun z => by have := (nI_leI (by omega) (by omega)).mp z; omega))
/-- what the model keeps of its history -/
def HB (n : Nat) (g : Nat → Nat) (h : Nat → Nat → Nat) : Prop := ∀ k, k < n → ∀ i, i < 333 → g (333 * k + i) = h k i
theorem hb_lt {n : Nat} {g g2 z : Nat → Nat} {h : Nat → Nat → Nat} (hn : n < 4) (hg : HB n g h) (h1 : ∀ k, k < 333 → g2 (333 * n + k) = z k) (h2 : ∀ k, k < 333 * n → g2 k = g k) : HB (rn n) g2 (rh n h z) := by
  unfold rn rh
  rw [if_neg (by omega), if_neg (by omega)]
  intro k hk i hi
  by_cases e : k = n
  · subst e; rw [h1 i hi]; unfold va_up; rw [if_pos rfl]
  · rw [h2 _ (by omega), hg k (by omega) i hi]; unfold va_up; rw [if_neg e]
theorem hb_4 {g g2 z : Nat → Nat} {h : Nat → Nat → Nat} (hg : HB 4 g h) (h1 : ∀ k, k < 333 → g2 (999 + k) = z k) (h2 : ∀ k, k < 999 → g2 k = g (333 + k)) : HB (rn 4) g2 (rh 4 h z) := by
  unfold rn rh
  rw [if_pos rfl, if_pos rfl]
  intro k hk i hi
  by_cases e : k = 3
  · subst e; dsimp only; rw [if_pos rfl]; exact h1 i hi
  · dsimp only; rw [if_neg e, h2 _ (by omega), ← hg (k + 1) (by omega) i hi]; congr 1; omega
def sb (b0 b1 : Bool) : Nat → Nat := fun k => if k = 0 then b0.toNat else b1.toNat
theorem drw (z : Nat → Nat) (X : Nat) : va_up (va_up z 326 X) 326 (nx (va_up z 326 X 326)) = va_up z 326 (nx X) := by
  funext k
  unfold va_up
  by_cases e : k = 326
  · rw [if_pos e, if_pos e, if_pos rfl]
  · rw [if_neg e, if_neg e, if_neg e]
/-- z behind a riffle, behind k riffles -/
def rfg (z b p : Nat → Nat) : Nat → Nat := fun j => if j < 52 then rfp b p (z 326) j else if j = 326 then rfx b p (z 326) else z j
def rfn (z b p : Nat → Nat) (x k : Nat) : Nat → Nat := fun j => if j < 52 then (rit b p x k).2 j else if j = 326 then (rit b p x k).1 else z j
theorem rz_of {z b p g : Nat → Nat} {X : Nat} (ex : X = rfx b p (z 326)) (hg : ∀ k, k < 52 → g k = rfp b p (z 326) k) (k : Nat) : (if k < 52 then g k else va_up z 326 X k) = rfg z b p k := by
  unfold rfg
  by_cases h : k < 52
  · rw [if_pos h, if_pos h]; exact hg k h
  · rw [if_neg h, if_neg h, ← ex]; unfold va_up; exact rfl
theorem rfn_x (z b p : Nat → Nat) (x k : Nat) : rfn z b p x k 326 = (rit b p x k).1 := by
  unfold rfn
  rw [if_neg (by decide), if_pos rfl]
theorem rfn_p (z b p : Nat → Nat) (x k : Nat) {j : Nat} (h : j < 52) : rfn z b p x k j = (rit b p x k).2 j := by
  unfold rfn
  rw [if_pos h]
theorem rfn_o (z b p : Nat → Nat) (x k : Nat) {j : Nat} (h : ¬ j < 52) (h2 : ¬ j = 326) : rfn z b p x k j = z j := by
  unfold rfn
  rw [if_neg h, if_neg h2]
theorem rfn_s (z b p : Nat → Nat) (x k j : Nat) : rfg (rfn z b p x k) b (rit b p x k).2 j = rfn z b p x (k + 1) j := by
  unfold rfg
  rw [rfn_x]
  by_cases h : j < 52
  · rw [if_pos h, rfn_p _ _ _ _ _ h, rit_s]
  · rw [if_neg h]
    by_cases h2 : j = 326
    · subst h2; rw [if_pos rfl, rfn_x, rit_s]
    · rw [if_neg h2, rfn_o _ _ _ _ _ h h2, rfn_o _ _ _ _ _ h h2]
theorem rfn_0 {z p : Nat → Nat} {x : Nat} (b : Nat → Nat) (hp : ∀ k, k < 52 → z k = p k) (hx : z 326 = x) (j : Nat) : z j = rfn z b p x 0 j := by
  by_cases h : j < 52
  · rw [rfn_p _ _ _ _ _ h, hp j h]; exact rfl
  · by_cases h2 : j = 326
    · subst h2; rw [rfn_x, hx]; exact rfl
    · rw [rfn_o _ _ _ _ _ h h2]
