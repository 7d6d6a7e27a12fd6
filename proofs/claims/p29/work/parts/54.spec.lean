/-! THE LAW'S OWN NUMBERS -/
theorem q_and (a b : Nat) : nI a &&& nI b = nI (a &&& b) := by
  apply Int32.toBitVec_inj.1
  show BitVec.ofNat 32 a &&& BitVec.ofNat 32 b = BitVec.ofNat 32 (a &&& b)
  apply BitVec.eq_of_getLsbD_eq
  intro i hi
  simp [hi]
theorem q_andL (a b : Nat) : lN a &&& lN b = lN (a &&& b) := by
  apply Int64.toBitVec_inj.1
  show BitVec.ofNat 64 a &&& BitVec.ofNat 64 b = BitVec.ofNat 64 (a &&& b)
  apply BitVec.eq_of_getLsbD_eq
  intro i hi
  simp [hi]
theorem q_mask (n k : Nat) : nI n &&& nI (2 ^ k - 1) = nI (n % 2 ^ k) := by rw [q_and, Nat.and_two_pow_sub_one_eq_mod]
theorem q_maskL (n k : Nat) : lN n &&& lN (2 ^ k - 1) = lN (n % 2 ^ k) := by rw [q_andL, Nat.and_two_pow_sub_one_eq_mod]
theorem and_3 (n : Nat) : nI n &&& nI 3 = nI (n % 4) := q_mask n 2
theorem and_1 (n : Nat) : nI n &&& nI 1 = nI (n % 2) := q_mask n 1
theorem land_31 (n : Nat) : lN n &&& lN 2147483647 = lN (n % 2147483648) := q_maskL n 31
theorem land_nx (x : Nat) : lN (x * 1103515245 + 12345) &&& lN 2147483647 = lN (nx x) := by
  unfold nx
  exact land_31 _
theorem shr16 {n : Nat} (h : n < 2 ^ 31) : nI n >>> (nI 16 &&& 31) = nI (n / 65536) := pk_shrN h _ 16 (by decide)
/-- the low 31 bits of a raw int -/
def lw (x : Int32) : Nat := (x &&& nI 2147483647).toBitVec.toNat
theorem lw_lt (x : Int32) : lw x < 2 ^ 31 := by
  show (x.toBitVec &&& (nI 2147483647).toBitVec).toNat < 2 ^ 31
  rw [BitVec.toNat_and]
  exact Nat.lt_of_le_of_lt Nat.and_le_right (by decide)
theorem lw_e (x : Int32) : x &&& nI 2147483647 = nI (lw x) := by
  apply Int32.toBitVec_inj.mp
  show _ = BitVec.ofNat 32 (lw x)
  unfold lw
  simp
theorem and1_of (x : Int32) : ∃ w : Nat, w < 2 ∧ x &&& nI 1 = nI w := by
  refine ⟨(x &&& nI 1).toBitVec.toNat, ?_, ?_⟩
  · show (x.toBitVec &&& (nI 1).toBitVec).toNat < 2
    rw [BitVec.toNat_and]
    exact Nat.lt_of_le_of_lt Nat.and_le_right (by decide)
  · apply Int32.toBitVec_inj.mp
    show _ = BitVec.ofNat 32 _
    simp
theorem up_up {f : Nat → Nat} {i a b : Nat} (k : Nat) : va_up (va_up f i a) i b k = va_up f i b k := by
  unfold va_up
  by_cases h : k = i
  · rw [if_pos h, if_pos h]
  · rw [if_neg h, if_neg h, if_neg h]
theorem up_id (f : Nat → Nat) (i : Nat) (k : Nat) : va_up f i (f i) k = f k := by
  unfold va_up
  by_cases h : k = i
  · rw [if_pos h, h]
  · rw [if_neg h]
/-! THE LAW'S RIFFLE: what is left of both packets is u, l -/
def Rq (p b : Nat → Nat) (sp x0 i u l : Nat) : Prop := (rsn p b sp x0 i).2.1 = sp - u ∧ (rsn p b sp x0 i).2.2.1 = 52 - l ∧ u ≤ sp ∧ l ≤ 52 - sp ∧ i + u + l = 52 ∧ sp ≤ 28
def Rt (p b : Nat → Nat) (sp x0 i X u l : Nat) : Prop := (rsn p b sp x0 i).1 = X ∧ (u = 0 ∨ l = 0 ∨ (rsn p b sp x0 i).2.2.2.2 = 0)
def Rn (p b : Nat → Nat) (sp x0 i X u l f : Nat) : Prop := (f = 1 ∧ 0 < u ∧ rsn p b sp x0 (i + 1) = (X, sp - u + 1, 52 - l, 1, b (p (sp - u)))) ∨ (f = 0 ∧ 0 < l ∧ rsn p b sp x0 (i + 1) = (X, sp - u, 52 - l + 1, 0, b (p (52 - l))))
section RF
variable {p b : Nat → Nat} {sp x0 i X u l : Nat}
theorem rq_0 (x : Nat) : Rq p b (spl x) (nx x) 0 (spl x) (52 - spl x) := by
  have := spl_in x
  refine ⟨?_, ?_, Nat.le_refl _, Nat.le_refl _, by omega, by omega⟩
  · show 0 = spl x - spl x; omega
  · show spl x = 52 - (52 - spl x); omega
theorem rt_0 (x : Nat) {u l : Nat} : Rt p b (spl x) (nx x) 0 (nx x) u l := ⟨rfl, Or.inr (Or.inr rfl)⟩
theorem rn_f (hu : i + u + l = 52 ∧ u ≤ sp ∧ l ≤ 52 - sp ∧ sp ≤ 28) (h1 : (rsn p b sp x0 i).2.1 = sp - u) (h2 : (rsn p b sp x0 i).2.2.1 = 52 - l) {x' : Nat} (h : 0 < u ∧ (rst p b sp (rsn p b sp x0 i)) = (x', (rsn p b sp x0 i).2.1 + 1, (rsn p b sp x0 i).2.2.1, 1, b (p (rsn p b sp x0 i).2.1))) : Rn p b sp x0 i x' u l 1 := by
  refine Or.inl ⟨rfl, h.1, ?_⟩
  show rst p b sp (rsn p b sp x0 i) = _
  rw [h.2, h1, h2]
theorem rn_g (hu : i + u + l = 52 ∧ u ≤ sp ∧ l ≤ 52 - sp ∧ sp ≤ 28) (h1 : (rsn p b sp x0 i).2.1 = sp - u) (h2 : (rsn p b sp x0 i).2.2.1 = 52 - l) {x' : Nat} (h : 0 < l ∧ (rst p b sp (rsn p b sp x0 i)) = (x', (rsn p b sp x0 i).2.1, (rsn p b sp x0 i).2.2.1 + 1, 0, b (p (rsn p b sp x0 i).2.2.1))) : Rn p b sp x0 i x' u l 0 := by
  refine Or.inr ⟨rfl, h.1, ?_⟩
  show rst p b sp (rsn p b sp x0 i) = _
  rw [h.2, h1, h2]
theorem rd_1 (hq : Rq p b sp x0 i u l) (ht : Rt p b sp x0 i X u l) (h0 : 0 < u) (h1 : 0 < l) (hd : dv (nx X) (u + l) < u) : Rn p b sp x0 i (nx X) u l 1 := by
  obtain ⟨q1, q2, q3, q4, q5, q6⟩ := hq
  obtain ⟨t1, t2⟩ := ht
  have t3 : (rsn p b sp x0 i).2.2.2.2 = 0 := by omega
  refine rn_f ⟨q5, q3, q4, q6⟩ q1 q2 ⟨h0, ?_⟩
  unfold rst
  rw [if_neg (by omega), if_neg (by omega), if_pos t3, t1]
  rw [if_pos (by rw [show sp - (rsn p b sp x0 i).2.1 + 52 - (rsn p b sp x0 i).2.2.1 = u + l from by omega]; omega)]
theorem rd_0 (hq : Rq p b sp x0 i u l) (ht : Rt p b sp x0 i X u l) (h0 : 0 < u) (h1 : 0 < l) (hd : u ≤ dv (nx X) (u + l)) : Rn p b sp x0 i (nx X) u l 0 := by
  obtain ⟨q1, q2, q3, q4, q5, q6⟩ := hq
  obtain ⟨t1, t2⟩ := ht
  have t3 : (rsn p b sp x0 i).2.2.2.2 = 0 := by omega
  refine rn_g ⟨q5, q3, q4, q6⟩ q1 q2 ⟨h1, ?_⟩
  unfold rst
  rw [if_neg (by omega), if_neg (by omega), if_pos t3, t1]
  rw [if_neg (by rw [show sp - (rsn p b sp x0 i).2.1 + 52 - (rsn p b sp x0 i).2.2.1 = u + l from by omega]; omega)]
/-- the packet above is used up to its end; the one beneath -/
theorem re_1 (hq : Rq p b sp x0 i u 0) (ht : (rsn p b sp x0 i).1 = X) (h0 : 0 < u) : Rn p b sp x0 i X u 0 1 := by
  obtain ⟨q1, q2, q3, q4, q5, q6⟩ := hq
  refine rn_f ⟨q5, q3, q4, q6⟩ q1 q2 ⟨h0, ?_⟩
  unfold rst
  rw [if_pos (by omega), ht]
theorem re_0 (hq : Rq p b sp x0 i 0 l) (ht : (rsn p b sp x0 i).1 = X) (h0 : 0 < l) : Rn p b sp x0 i X 0 l 0 := by
  obtain ⟨q1, q2, q3, q4, q5, q6⟩ := hq
  refine rn_g ⟨q5, q3, q4, q6⟩ q1 q2 ⟨h0, ?_⟩
  unfold rst
  rw [if_neg (by omega), if_pos (by omega), ht]
/-- a card is taken -/
theorem ra_1 (hq : Rq p b sp x0 i u l) (hn : Rn p b sp x0 i X u l 1) : (Rq p b sp x0 (i + 1) (u - 1) l ∧ (rsn p b sp x0 (i + 1)).1 = X ∧ (rsn p b sp x0 (i + 1)).2.2.2.2 = b (p (sp - u)) ∧ (rsn p b sp x0 (i + 1)).2.2.2.1 = 1) ∧ 0 < u ∧ rcd p b sp x0 i = p (sp - u) := by
  obtain ⟨q1, q2, q3, q4, q5, q6⟩ := hq
  obtain ⟨-, h0, h⟩ := hn.resolve_right (fun z => absurd z.1 (by decide))
  refine ⟨⟨⟨?_, ?_, by omega, q4, by omega, q6⟩, ?_, ?_, ?_⟩, h0, ?_⟩
  · rw [h]; show sp - u + 1 = sp - (u - 1); omega
  · rw [h]
  · rw [h]
  · rw [h]
  · rw [h]
  · unfold rcd rix
    rw [h, if_pos rfl, q1]
theorem ra_0 (hq : Rq p b sp x0 i u l) (hn : Rn p b sp x0 i X u l 0) : (Rq p b sp x0 (i + 1) u (l - 1) ∧ (rsn p b sp x0 (i + 1)).1 = X ∧ (rsn p b sp x0 (i + 1)).2.2.2.2 = b (p (52 - l)) ∧ (rsn p b sp x0 (i + 1)).2.2.2.1 = 0) ∧ 0 < l ∧ rcd p b sp x0 i = p (52 - l) := by
  obtain ⟨q1, q2, q3, q4, q5, q6⟩ := hq
  obtain ⟨-, h0, h⟩ := hn.resolve_left (fun z => absurd z.1 (by decide))
  refine ⟨⟨⟨?_, ?_, q3, by omega, by omega, q6⟩, ?_, ?_, ?_⟩, h0, ?_⟩
  · rw [h]
  · rw [h]; show 52 - l + 1 = 52 - (l - 1); omega
  · rw [h]
  · rw [h]
  · rw [h]
  · unfold rcd rix
    rw [h, if_neg (show ¬ (0 : Nat) = 1 from by decide), q2]
/-- the next one sticks -/
theorem rk_1 (hq : Rq p b sp x0 i u l) (hx : (rsn p b sp x0 i).1 = X) (h0 : 0 < u) (hb : (rsn p b sp x0 i).2.2.2.2 = 1) (hf : (rsn p b sp x0 i).2.2.2.1 = 1) : Rn p b sp x0 i X u l 1 := by
  obtain ⟨q1, q2, q3, q4, q5, q6⟩ := hq
  refine rn_f ⟨q5, q3, q4, q6⟩ q1 q2 ⟨h0, ?_⟩
  unfold rst
  by_cases h : 52 ≤ (rsn p b sp x0 i).2.2.1
  · rw [if_pos h, hx]
  · rw [if_neg h, if_neg (by omega), if_neg (by omega), if_pos hf, hx]
theorem rk_0 (hq : Rq p b sp x0 i u l) (hx : (rsn p b sp x0 i).1 = X) (h0 : 0 < l) (hb : (rsn p b sp x0 i).2.2.2.2 = 1) (hf : (rsn p b sp x0 i).2.2.2.1 = 0) : Rn p b sp x0 i X u l 0 := by
  obtain ⟨q1, q2, q3, q4, q5, q6⟩ := hq
  refine rn_g ⟨q5, q3, q4, q6⟩ q1 q2 ⟨h0, ?_⟩
  unfold rst
  by_cases h : sp ≤ (rsn p b sp x0 i).2.1
  · rw [if_neg (by omega), if_pos h, hx]
  · rw [if_neg (by omega), if_neg h, if_neg (by omega), if_neg (by omega), hx]
theorem rx_lt (hx : x0 < 2 ^ 31) (hq : Rq p b sp x0 i u l) (h : (rsn p b sp x0 i).1 = X) : X < 2 ^ 31 := by
  obtain ⟨q1, q2, q3, q4, q5, q6⟩ := hq
  rw [← h]
  exact rsn_x p b hx (by omega) (by omega)
end RF
theorem rfX_at (p b : Nat → Nat) (sp x0 n : Nat) : (rsn p b sp x0 n).1 = rfX p b sp x0 n := rfl
theorem rfx_e {p b : Nat → Nat} {x0 i X : Nat} (hi : i = 52) (h : (rsn p b (spl x0) (nx x0) i).1 = X) : X = rfx b p x0 := by
  rw [← h, rfX_at, hi]
  rfl
/-- a bend that is left out: as if there were none -/
def Bb (b bb : Nat → Nat) (fx : Int32) : Prop := ∀ c, c < 52 → bb c = if b c = 1 ∧ ¬ nI c = fx then 1 else 0
theorem Bb.no {b bb : Nat → Nat} {fx : Int32} (h : Bb b bb fx) {c : Nat} (hc : c < 52) (hn : b c ≠ 1 ∨ nI c = fx) : bb c = 0 := by
  rw [h c hc, if_neg (fun z => hn.elim (fun q => q z.1) (fun q => z.2 q))]
theorem Bb.yes {b bb : Nat → Nat} {fx : Int32} (h : Bb b bb fx) {c : Nat} (hc : c < 52) (h1 : b c = 1) (h2 : ¬ nI c = fx) : bb c = 1 := by
  rw [h c hc, if_pos ⟨h1, h2⟩]
theorem bb_no {b : Nat → Nat} (hb : ∀ k, k < 52 → b k ≤ 1) : Bb b b (nI 4294967295) := by
  intro c hc
  have h := hb c hc
  have hn : ¬ nI c = nI 4294967295 := fun e => by
    have q := nI_pos (n := c) (by omega)
    rw [e] at q
    exact absurd (by decide) q
  by_cases h1 : b c = 1
  · rw [if_pos ⟨h1, hn⟩]; exact h1
  · rw [if_neg (fun z => h1 z.1)]; omega
theorem bb_at {b : Nat → Nat} (hb : ∀ k, k < 52 → b k ≤ 1) {k : Nat} (hk : k < 52) : Bb b (va_up b k 0) (nI k) := by
  intro c hc
  have h := hb c hc
  unfold va_up
  by_cases e : c = k
  · rw [if_pos e, if_neg (fun z => z.2 (by rw [e]))]
  · rw [if_neg e]
    have hn : ¬ nI c = nI k := fun q => e ((nI_eq (by omega) (by omega)).mp q)
    by_cases h1 : b c = 1
    · rw [if_pos ⟨h1, hn⟩]; exact h1
    · rw [if_neg (fun z => h1 z.1)]; omega
/-! kept pairs, as the law counts them -/
theorem kq_1 {q : Nat → Nat} (hq : Perm q) {c m : Nat} (hm : m + 1 < 52) (h : q (m + 1) = c) : inv q c = m + 1 := by
  rw [← h]; exact inv_p hq hm
theorem kq_0 {q : Nat → Nat} (hq : Perm q) {c m : Nat} (hc : c < 52) (h : 51 ≤ m ∨ q (m + 1) ≠ c) : ¬ inv q c = m + 1 := by
  obtain ⟨e1, e2⟩ := p_inv hq hc
  intro e
  rcases h with h | h
  · omega
  · exact h (by rw [← e]; exact e1)
theorem kq_n {q : Nat → Nat} (hq : Perm q) {c m : Nat} (hc : c < 52) (h : m ≤ inv q c) (hn : q m ≠ c) : m + 1 ≤ inv q c ∧ m < 51 := by
  obtain ⟨e1, e2⟩ := p_inv hq hc
  have : m ≠ inv q c := fun e => hn (by rw [e]; exact e1)
  omega
theorem kq_e {q : Nat → Nat} (hq : Perm q) {c m : Nat} (hm : m < 52) (h : q m = c) : inv q c = m := by
  rw [← h]; exact inv_p hq hm
/-! hands -/
theorem sub1_e : ∀ a, a < 52 → ∀ b, b < 52 → (nI a - nI b = nI 1 ↔ a = b + 1) := by decide +kernel
theorem bit4 : ∀ a, a < 2 → ∀ b, b < 2 → ∀ c, c < 2 → ∀ e, e < 2 → ∀ d, d < 4 → (nI (a + 2 * b + 4 * c + 8 * e) >>> (nI d &&& 31)) &&& nI 1 = nI (if d = 0 then a else if d = 1 then b else if d = 2 then c else e) := by decide +kernel
theorem bm_e (h : Nat → Nat) : bm h = bl h 0 + 2 * bl h 1 + 4 * bl h 2 + 8 * bl h 3 := by
  have e : ∀ d, (if bl h d = 1 then 2 ^ d else 0) = 2 ^ d * bl h d := fun d => by
    have := bl_le h d
    by_cases q : bl h d = 1
    · rw [if_pos q, q, Nat.mul_one]
    · rw [if_neg q, show bl h d = 0 by omega, Nat.mul_zero]
  unfold bm
  simp only [sm, e]
  omega
theorem bm_bit (h : Nat → Nat) {d : Nat} (hd : d < 4) : (nI (bm h) >>> (nI d &&& 31)) &&& nI 1 = nI (bl h d) := by
  have h0 := bl_le h 0
  have h1 := bl_le h 1
  have h2 := bl_le h 2
  have h3 := bl_le h 3
  rw [bm_e, bit4 _ (by omega) _ (by omega) _ (by omega) _ (by omega) d hd]
  rcases (show d = 0 ∨ d = 1 ∨ d = 2 ∨ d = 3 by omega) with rfl | rfl | rfl | rfl <;> rfl
theorem bst_st (f : Nat → Nat) {i b : Nat} (hb : b = bst f (i - 1)) : (f b < f i → i = bst f (i + 1 - 1)) ∧ (f i ≤ f b → b = bst f (i + 1 - 1)) := by
  cases i with
  | zero =>
    have e : b = 0 := hb
    subst e
    exact ⟨fun h => absurd h (Nat.lt_irrefl _), fun _ => rfl⟩
  | succ n =>
    have e : b = bst f n := hb
    constructor
    · intro h
      show n + 1 = if f (bst f n) < f (n + 1) then n + 1 else bst f n
      rw [← e, if_pos h]
    · intro h
      show b = if f (bst f n) < f (n + 1) then n + 1 else bst f n
      rw [← e, if_neg (Nat.not_lt.mpr h)]
theorem al_self (f : Nat → Nat) : al f f = 1 := by
  unfold al
  rw [sm_cong (g := fun _ => 0) (fun k _ => if_pos rfl), sm_zero, if_pos rfl]
theorem pr_s (f : Nat → Nat) {k : Nat} (h : 0 < k) : sm f (k + 1 - 1) = sm f (k - 1) + f (k - 1) := by
  obtain ⟨j, rfl⟩ : ∃ j, k = j + 1 := ⟨k - 1, by omega⟩
  rfl
/-! what the law keeps of the boards -/
def tt (z : Nat → Nat) : Nat → Nat := fun k => if k % 3 = 0 then z (312 + k / 3) else if k % 3 = 1 then z (316 + k / 3) else z (320 + k / 3)
theorem tt_0 (z : Nat → Nat) (b : Nat) : tt z (3 * b) = z (312 + b) := by
  unfold tt
  rw [if_pos (by omega), show 3 * b / 3 = b by omega]
theorem tt_1 (z : Nat → Nat) (b : Nat) : tt z (3 * b + 1) = z (316 + b) := by
  unfold tt
  rw [if_neg (by omega), if_pos (by omega), show (3 * b + 1) / 3 = b by omega]
theorem tt_2 (z : Nat → Nat) (b : Nat) : tt z (3 * b + 2) = z (320 + b) := by
  unfold tt
  rw [if_neg (by omega), if_neg (by omega), show (3 * b + 2) / 3 = b by omega]
theorem tt_c {z y : Nat → Nat} (h : ∀ k, 312 ≤ k → k < 324 → y k = z k) (k : Nat) (hk : k < 12) : tt z k = tt y k := by
  unfold tt
  rw [h _ (by omega) (by omega), h _ (by omega) (by omega), h _ (by omega) (by omega)]
theorem ct_c (z : Nat → Nat) (n ln : Nat) {w : Nat} (h : w < 12) : a_count z n ln w = a_count z 0 0 w := by
  match w, h with
  | 0, _ => rfl
  | 1, _ => rfl
  | 2, _ => rfl
  | 3, _ => rfl
  | 4, _ => rfl
  | 5, _ => rfl
  | 6, _ => rfl
  | 7, _ => rfl
  | 8, _ => rfl
  | 9, _ => rfl
  | 10, _ => rfl
  | 11, _ => rfl
abbrev ct (z : Nat → Nat) (w : Nat) : Nat := a_count z 0 0 w
theorem sm4 (f : Nat → Nat) : sm f 4 = ((f 0 + f 1) + f 2) + f 3 := by
  have e : sm f 4 = 0 + f 0 + f 1 + f 2 + f 3 := rfl
  omega
theorem ct_10 (z : Nat → Nat) : ct z 10 = ((z 316 + z 317) + z 318) + z 319 := by
  show sm (fun k => z (316 + k)) 4 = _
  exact sm4 (fun k => z (316 + k))
theorem ct_k (z : Nat → Nat) : ∀ k, k < 6 → ct z (4 + k) = z (324 + (3 + k)) := fun k hk => match k, hk with
  | 0, _ => rfl | 1, _ => rfl | 2, _ => rfl | 3, _ => rfl | 4, _ => rfl | 5, _ => rfl
theorem ah_s (z : Nat → Nat) {b h s : Nat} (hb : b < 4) (hh : h < 4) (hs : s < 4) (h1 : z (312 + b) = 1) : a_hand z b h s = sl (hd z b) h s := by
  unfold a_hand
  rw [if_neg (by omega), if_neg (by omega), if_neg (by omega), if_neg (by omega), if_neg (by omega), if_neg (by omega)]
theorem ah_4 (z : Nat → Nat) {b h : Nat} (hb : b < 4) (hh : h < 4) (h1 : z (312 + b) = 1) : a_hand z b h 4 = pt (hd z b) h := by
  unfold a_hand
  rw [if_neg (by omega), if_neg (by omega), if_neg (by omega), if_pos rfl]
theorem ah_5 (z : Nat → Nat) {b h : Nat} (hb : b < 4) (hh : h < 4) (h1 : z (312 + b) = 1) : a_hand z b h 5 = bl (hd z b) h := by
  unfold a_hand
  rw [if_neg (by omega), if_neg (by omega), if_neg (by omega), if_neg (by omega), if_pos rfl]
theorem ah_6 (z : Nat → Nat) {b h : Nat} (hb : b < 4) (hh : h < 4) (h1 : z (312 + b) = 1) : a_hand z b h 6 = hs (hd z b) h := by
  unfold a_hand
  rw [if_neg (by omega), if_neg (by omega), if_neg (by omega), if_neg (by omega), if_neg (by omega), if_pos rfl]
theorem ab_0 (z : Nat → Nat) {b : Nat} (hb : b < 4) : a_board z b 0 = z (312 + b) := by
  unfold a_board
  rw [if_neg (by omega), if_pos rfl]
theorem ab_1 (z : Nat → Nat) {b : Nat} (hb : b < 4) : a_board z b 1 = z (316 + b) := by
  unfold a_board
  rw [if_neg (by omega), if_neg (by omega), if_pos rfl]
theorem ab_2 (z : Nat → Nat) {b : Nat} (hb : b < 4) : a_board z b 2 = z (320 + b) := by
  unfold a_board
  rw [if_neg (by omega), if_neg (by omega), if_neg (by omega), if_pos rfl]
theorem ab_3 (z : Nat → Nat) {b : Nat} (hb : b < 4) : a_board z b 3 = if z (312 + b) = 0 then 4294967290 else bh (hd z b) := by
  unfold a_board
  rw [if_neg (by omega), if_neg (by omega), if_neg (by omega), if_neg (by omega), if_pos rfl]
theorem ab_4 (z : Nat → Nat) {b : Nat} (hb : b < 4) : a_board z b 4 = if z (312 + b) = 0 then 0 else bm (hd z b) := by
  unfold a_board
  rw [if_neg (by omega), if_neg (by omega), if_neg (by omega), if_neg (by omega), if_neg (by omega), if_pos rfl]
theorem nds_s (z : Nat → Nat) {i : Nat} (h1 : 0 < i) (h2 : i ≤ 20) : nds z (20 - (i - 1)) (i - 1 + 1) = if kp z (ri z i).2 ≤ z 324 then i else nds z (20 - i) (i + 1) := by
  rw [show 20 - (i - 1) = (20 - i) + 1 by omega, show i - 1 + 1 = i by omega]
  rfl
theorem wbs_s (z : Nat → Nat) (n : Nat) : wbs z (n + 1) = if z (52 + n) = 1 ∧ wbk z n < (wbs z n).2 then (n, wbk z n) else wbs z n := rfl
theorem wbk_le (z : Nat → Nat) (c : Nat) : wbk z c ≤ 51 := kp_le _ _
