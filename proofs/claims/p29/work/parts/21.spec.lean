/-! riffles -/
def nx (x : Nat) : Nat := (x * 1103515245 + 12345) % 2147483648
def dv (x b : Nat) : Nat := x / 65536 % b
theorem nx_lt (x : Nat) : nx x < 2 ^ 31 := by unfold nx; omega
theorem dv_lt (x : Nat) {b : Nat} (h : 0 < b) : dv x b < b := Nat.mod_lt _ h
/-- one card of a riffle: x, places in both packets, from which the last card came, whether it sticks -/
def rst (p b : Nat → Nat) (sp : Nat) (s : Nat × Nat × Nat × Nat × Nat) : Nat × Nat × Nat × Nat × Nat :=
  if 52 ≤ s.2.2.1 then (s.1, s.2.1 + 1, s.2.2.1, 1, b (p s.2.1))
  else if sp ≤ s.2.1 then (s.1, s.2.1, s.2.2.1 + 1, 0, b (p s.2.2.1))
  else if s.2.2.2.2 = 0 then (if dv (nx s.1) (sp - s.2.1 + 52 - s.2.2.1) < sp - s.2.1 then (nx s.1, s.2.1 + 1, s.2.2.1, 1, b (p s.2.1)) else (nx s.1, s.2.1, s.2.2.1 + 1, 0, b (p s.2.2.1)))
  else if s.2.2.2.1 = 1 then (s.1, s.2.1 + 1, s.2.2.1, 1, b (p s.2.1)) else (s.1, s.2.1, s.2.2.1 + 1, 0, b (p s.2.2.1))
def rsn (p b : Nat → Nat) (sp x0 : Nat) : Nat → Nat × Nat × Nat × Nat × Nat
  | 0 => (x0, 0, sp, 0, 0)
  | i + 1 => rst p b sp (rsn p b sp x0 i)
def rix (p b : Nat → Nat) (sp x0 i : Nat) : Nat := if (rsn p b sp x0 (i + 1)).2.2.2.1 = 1 then (rsn p b sp x0 i).2.1 else (rsn p b sp x0 i).2.2.1
def rcd (p b : Nat → Nat) (sp x0 i : Nat) : Nat := p (rix p b sp x0 i)
def spl (x : Nat) : Nat := 24 + dv (nx x) 5
theorem spl_in (x : Nat) : 24 ≤ spl x ∧ spl x ≤ 28 := by
  have := dv_lt (nx x) (b := 5) (by decide)
  unfold spl; omega
/-- a riffle: x behind it, the pack behind it -/
def rfX (p b : Nat → Nat) (sp x0 n : Nat) : Nat := (rsn p b sp x0 n).1
def rfx (b p : Nat → Nat) (x : Nat) : Nat := rfX p b (spl x) (nx x) 52
def rfp (b p : Nat → Nat) (x : Nat) : Nat → Nat := rcd p b (spl x) (nx x)
def rit (b p : Nat → Nat) (x : Nat) : Nat → Nat × (Nat → Nat)
  | 0 => (x, p)
  | n + 1 => (rfx b (rit b p x n).2 (rit b p x n).1, rfp b (rit b p x n).2 (rit b p x n).1)
theorem rst_rel (p b : Nat → Nat) {sp : Nat} (s : Nat × Nat × Nat × Nat × Nat) (hx : s.1 < 2 ^ 31) (h1 : s.2.1 ≤ sp) (h2 : sp ≤ s.2.2.1) (h3 : s.2.2.1 ≤ 52) (h4 : s.2.1 + s.2.2.1 < sp + 52) :
    (rst p b sp s).1 < 2 ^ 31 ∧ (((rst p b sp s).2.2.2.1 = 1 ∧ (rst p b sp s).2.1 = s.2.1 + 1 ∧ (rst p b sp s).2.2.1 = s.2.2.1 ∧ s.2.1 < sp ∧ (rst p b sp s).2.2.2.2 = b (p s.2.1)) ∨ ((rst p b sp s).2.2.2.1 = 0 ∧ (rst p b sp s).2.1 = s.2.1 ∧ (rst p b sp s).2.2.1 = s.2.2.1 + 1 ∧ s.2.2.1 < 52 ∧ (rst p b sp s).2.2.2.2 = b (p s.2.2.1))) := by
  obtain ⟨x, u, l, f, t⟩ := s
  dsimp only at *
  have := nx_lt x
  unfold rst
  dsimp only
  split
  · exact ⟨hx, Or.inl ⟨rfl, rfl, rfl, by omega, rfl⟩⟩
  · split
    · exact ⟨hx, Or.inr ⟨rfl, rfl, rfl, by omega, rfl⟩⟩
    · split
      · split
        · exact ⟨this, Or.inl ⟨rfl, rfl, rfl, by omega, rfl⟩⟩
        · exact ⟨this, Or.inr ⟨rfl, rfl, rfl, by omega, rfl⟩⟩
      · split
        · exact ⟨hx, Or.inl ⟨rfl, rfl, rfl, by omega, rfl⟩⟩
        · exact ⟨hx, Or.inr ⟨rfl, rfl, rfl, by omega, rfl⟩⟩
theorem rsn_in (p b : Nat → Nat) {sp x0 : Nat} (hx : x0 < 2 ^ 31) (hsp : sp ≤ 52) : ∀ i, i ≤ 52 → (rsn p b sp x0 i).1 < 2 ^ 31 ∧ (rsn p b sp x0 i).2.1 ≤ sp ∧ sp ≤ (rsn p b sp x0 i).2.2.1 ∧ (rsn p b sp x0 i).2.2.1 ≤ 52 ∧ (rsn p b sp x0 i).2.1 + (rsn p b sp x0 i).2.2.1 = sp + i
  | 0, _ => ⟨hx, Nat.zero_le _, Nat.le_refl _, hsp, by show 0 + sp = sp + 0; omega⟩
  | i + 1, hi => by
    obtain ⟨h0, h1, h2, h3, h4⟩ := rsn_in p b hx hsp i (by omega)
    obtain ⟨g0, g⟩ := rst_rel p b (rsn p b sp x0 i) h0 h1 h2 h3 (by omega)
    show (rst p b sp (rsn p b sp x0 i)).1 < 2 ^ 31 ∧ (rst p b sp (rsn p b sp x0 i)).2.1 ≤ sp ∧ sp ≤ (rst p b sp (rsn p b sp x0 i)).2.2.1 ∧ (rst p b sp (rsn p b sp x0 i)).2.2.1 ≤ 52 ∧ (rst p b sp (rsn p b sp x0 i)).2.1 + (rst p b sp (rsn p b sp x0 i)).2.2.1 = sp + (i + 1)
    rcases g with ⟨-, a, c, d, -⟩ | ⟨-, a, c, d, -⟩ <;> refine ⟨g0, ?_, ?_, ?_, ?_⟩ <;> omega
theorem rsn_st (p b : Nat → Nat) {sp x0 : Nat} (hx : x0 < 2 ^ 31) (hsp : sp ≤ 52) {i : Nat} (hi : i < 52) :
    ((rsn p b sp x0 (i + 1)).2.2.2.1 = 1 ∧ (rsn p b sp x0 (i + 1)).2.1 = (rsn p b sp x0 i).2.1 + 1 ∧ (rsn p b sp x0 (i + 1)).2.2.1 = (rsn p b sp x0 i).2.2.1 ∧ (rsn p b sp x0 i).2.1 < sp) ∨ ((rsn p b sp x0 (i + 1)).2.2.2.1 = 0 ∧ (rsn p b sp x0 (i + 1)).2.1 = (rsn p b sp x0 i).2.1 ∧ (rsn p b sp x0 (i + 1)).2.2.1 = (rsn p b sp x0 i).2.2.1 + 1 ∧ (rsn p b sp x0 i).2.2.1 < 52) := by
  obtain ⟨h0, h1, h2, h3, h4⟩ := rsn_in p b hx hsp i (by omega)
  obtain ⟨-, g⟩ := rst_rel p b (rsn p b sp x0 i) h0 h1 h2 h3 (by omega)
  show ((rst p b sp (rsn p b sp x0 i)).2.2.2.1 = 1 ∧ (rst p b sp (rsn p b sp x0 i)).2.1 = _ ∧ (rst p b sp (rsn p b sp x0 i)).2.2.1 = _ ∧ _) ∨ ((rst p b sp (rsn p b sp x0 i)).2.2.2.1 = 0 ∧ (rst p b sp (rsn p b sp x0 i)).2.1 = _ ∧ (rst p b sp (rsn p b sp x0 i)).2.2.1 = _ ∧ _)
  rcases g with ⟨a, c, d, e, -⟩ | ⟨a, c, d, e, -⟩
  · exact Or.inl ⟨a, c, d, e⟩
  · exact Or.inr ⟨a, c, d, e⟩
theorem rsn_mono (p b : Nat → Nat) {sp x0 : Nat} (hx : x0 < 2 ^ 31) (hsp : sp ≤ 52) {i : Nat} : ∀ {d : Nat}, i + d ≤ 52 → (rsn p b sp x0 i).2.1 ≤ (rsn p b sp x0 (i + d)).2.1 ∧ (rsn p b sp x0 i).2.2.1 ≤ (rsn p b sp x0 (i + d)).2.2.1
  | 0, _ => ⟨Nat.le_refl _, Nat.le_refl _⟩
  | d + 1, h => by
    have ih := rsn_mono p b hx hsp (i := i) (d := d) (by omega)
    have g := rsn_st p b hx hsp (i := i + d) (by omega)
    show _ ≤ (rsn p b sp x0 (i + d + 1)).2.1 ∧ _ ≤ (rsn p b sp x0 (i + d + 1)).2.2.1
    rcases g with ⟨-, a, c, -⟩ | ⟨-, a, c, -⟩ <;> constructor <;> omega
theorem rix_lt (p b : Nat → Nat) {sp x0 : Nat} (hx : x0 < 2 ^ 31) (hsp : sp ≤ 52) {i : Nat} (hi : i < 52) : rix p b sp x0 i < 52 := by
  obtain ⟨h0, h1, h2, h3, h4⟩ := rsn_in p b hx hsp i (by omega)
  unfold rix
  rcases rsn_st p b hx hsp hi with ⟨a, -, -, d⟩ | ⟨a, -, -, d⟩
  · rw [if_pos a]; omega
  · rw [if_neg (by omega)]; exact d
theorem rix_inj (p b : Nat → Nat) {sp x0 : Nat} (hx : x0 < 2 ^ 31) (hsp : sp ≤ 52) {i j : Nat} (hij : i < j) (hj : j < 52) : rix p b sp x0 i ≠ rix p b sp x0 j := by
  obtain ⟨d, rfl⟩ : ∃ d, j = i + 1 + d := ⟨j - i - 1, by omega⟩
  obtain ⟨m1, m2⟩ := rsn_mono p b hx hsp (i := i + 1) (d := d) (by omega)
  obtain ⟨-, i1, i2, i3, -⟩ := rsn_in p b hx hsp i (by omega)
  obtain ⟨-, j1, j2, j3, -⟩ := rsn_in p b hx hsp (i + 1 + d) (by omega)
  unfold rix
  rcases rsn_st p b hx hsp (i := i) (by omega) with ⟨a, a1, a2, a3⟩ | ⟨a, a1, a2, a3⟩ <;> rcases rsn_st p b hx hsp (i := i + 1 + d) (by omega) with ⟨c, c1, c2, c3⟩ | ⟨c, c1, c2, c3⟩
  · rw [if_pos a, if_pos c]; omega
  · rw [if_pos a, if_neg (by omega)]; omega
  · rw [if_neg (by omega), if_pos c]; omega
  · rw [if_neg (by omega), if_neg (by omega)]; omega
theorem rcd_perm {p b : Nat → Nat} {sp x0 : Nat} (hp : Perm p) (hx : x0 < 2 ^ 31) (hsp : sp ≤ 52) : Perm (rcd p b sp x0) := by
  refine ⟨fun k hk => hp.1 _ (rix_lt p b hx hsp hk), fun i j hi hj h => ?_⟩
  have e := hp.2 _ _ (rix_lt p b hx hsp hi) (rix_lt p b hx hsp hj) h
  rcases Nat.lt_trichotomy i j with q | q | q
  · exact absurd e (rix_inj p b hx hsp q hj)
  · exact q
  · exact absurd e.symm (rix_inj p b hx hsp q hi)
theorem rfp_perm {b p : Nat → Nat} (hp : Perm p) (x : Nat) : Perm (rfp b p x) := rcd_perm hp (nx_lt x) (by have := spl_in x; omega)
theorem rsn_x (p b : Nat → Nat) {sp x0 : Nat} (hx : x0 < 2 ^ 31) (hsp : sp ≤ 52) {i : Nat} (hi : i ≤ 52) : (rsn p b sp x0 i).1 < 2 ^ 31 := (rsn_in p b hx hsp i hi).1
theorem spl_52 (x : Nat) : spl x ≤ 52 := by have := spl_in x; omega
theorem rfX_lt (p b : Nat → Nat) {sp x0 : Nat} (hx : x0 < 2 ^ 31) (hsp : sp ≤ 52) {n : Nat} (hn : n ≤ 52) : rfX p b sp x0 n < 2 ^ 31 := rsn_x p b hx hsp hn
theorem rfX_of {p b : Nat → Nat} {sp x0 n x u l f t : Nat} (h : rsn p b sp x0 n = (x, u, l, f, t)) : x = rfX p b sp x0 n := by unfold rfX; rw [h]
theorem rfx_lt (b p : Nat → Nat) (x : Nat) : rfx b p x < 2 ^ 31 := rfX_lt p b (nx_lt x) (spl_52 x) (Nat.le_refl 52)
theorem rfx_of {p b : Nat → Nat} {x0 n x u l f t : Nat} (hn : n = 52) (h : rsn p b (spl x0) (nx x0) n = (x, u, l, f, t)) : x = rfx b p x0 := by
  have e := rfX_of h
  rw [e, hn]
  rfl
theorem rit_s (b p : Nat → Nat) (x n : Nat) : rit b p x (n + 1) = (rfx b (rit b p x n).2 (rit b p x n).1, rfp b (rit b p x n).2 (rit b p x n).1) := rfl
theorem rit_in {b p : Nat → Nat} {x : Nat} (hp : Perm p) (hx : x < 2 ^ 31) (n : Nat) : (rit b p x n).1 < 2 ^ 31 ∧ Perm (rit b p x n).2 := by
  induction n with
  | zero => exact ⟨hx, hp⟩
  | succ n ih =>
    rw [rit_s]
    generalize rit b p x n = r at ih
    constructor
    · dsimp only
      exact rfx_lt b r.2 r.1
    · dsimp only
      exact rfp_perm ih.2 r.1
/-- kept pairs -/
def kp (a p : Nat → Nat) : Nat := sm (fun k => if inv p (a (k + 1)) = inv p (a k) + 1 then 1 else 0) 51
theorem kp_le (a p : Nat → Nat) : kp a p ≤ 51 := sm_le1 (fun k _ => by split <;> omega)
/-- told in the other way, the same -/
theorem kp_swap {a p : Nat → Nat} (ha : Perm a) (hp : Perm p) : kp a p = kp p a := by
  have key : ∀ {a p : Nat → Nat}, Perm a → Perm p → kp a p = sm (fun k => sm (fun j => if p j = a k ∧ p (j + 1) = a (k + 1) then 1 else 0) 51) 51 := by
    intro a p ha hp
    refine sm_cong (fun k hk => ?_)
    have a1 := ha.1 k (by omega)
    have a2 := ha.1 (k + 1) (by omega)
    obtain ⟨e1, l1⟩ := p_inv hp a1
    obtain ⟨e2, l2⟩ := p_inv hp a2
    have one : ∀ n, n ≤ 51 → sm (fun j => if p j = a k ∧ p (j + 1) = a (k + 1) then 1 else 0) n = if inv p (a (k + 1)) = inv p (a k) + 1 ∧ inv p (a k) < n then 1 else 0 := by
      intro n
      induction n with
      | zero => intro _; rw [if_neg (fun z => absurd z.2 (Nat.not_lt_zero _))]; rfl
      | succ n ih =>
        intro hn
        rw [sm_s, ih (by omega)]
        by_cases hj : p n = a k ∧ p (n + 1) = a (k + 1)
        · have q1 : inv p (a k) = n := by rw [← hj.1, inv_p hp (by omega)]
          have q2 : inv p (a (k + 1)) = n + 1 := by rw [← hj.2, inv_p hp (by omega)]
          rw [if_pos hj, if_neg (by omega), if_pos (by omega)]
        · rw [if_neg hj]
          have q : ¬ (inv p (a (k + 1)) = inv p (a k) + 1 ∧ inv p (a k) = n) := by
            rintro ⟨z1, z2⟩
            refine hj ⟨?_, ?_⟩
            · rw [← z2, e1]
            · rw [← z2, ← z1, e2]
          by_cases h2 : inv p (a (k + 1)) = inv p (a k) + 1 ∧ inv p (a k) < n
          · rw [if_pos h2, if_pos (by omega)]
          · rw [if_neg h2, if_neg (by omega)]
    rw [one 51 (Nat.le_refl 51)]
    by_cases h : inv p (a (k + 1)) = inv p (a k) + 1
    · rw [if_pos h, if_pos ⟨h, by omega⟩]
    · rw [if_neg h, if_neg (fun z => h z.1)]
  rw [key ha hp, key hp ha, sm_swap]
  refine sm_cong (fun j _ => sm_cong (fun k _ => ?_))
  by_cases h : p j = a k ∧ p (j + 1) = a (k + 1)
  · rw [if_pos h, if_pos ⟨h.1.symm, h.2.symm⟩]
  · rw [if_neg h, if_neg (fun z => h ⟨z.1.symm, z.2.symm⟩)]
