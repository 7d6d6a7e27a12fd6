/-! THE MACHINE: a raw argument as a number (m: out of range); what each call answers, what z is behind it -/
def ag (m : Nat) (x : Int32) : Nat := if x < 0 then m else if m ≤ x.toNatClampNeg then m else x.toNatClampNeg
theorem ag_cs (m : Nat) (hm : m < 2 ^ 31) (x : Int32) : (∃ j : Nat, j < m ∧ x = nI j ∧ ag m x = j) ∨ ((x < 0 ∨ nI m ≤ x) ∧ ag m x = m) := by
  rcases pk_ix x hm with h | h | ⟨j, hj, rfl⟩
  · exact Or.inr ⟨Or.inl h, if_pos h⟩
  · refine Or.inr ⟨Or.inr h, ?_⟩
    unfold ag
    split
    · rfl
    · rename_i h0
      obtain ⟨k, hk, rfl⟩ := nI_of h0
      rw [nI_clamp hk, if_pos ((nI_leI hm hk).mp h)]
  · refine Or.inl ⟨j, hj, rfl, ?_⟩
    unfold ag
    rw [if_neg (nI_pos (by omega)), nI_clamp (by omega), if_neg (by omega)]
theorem ag_sd (x : Int32) : (∃ j : Nat, j < 2 ^ 31 ∧ x = nI j ∧ ag 2147483648 x = j) ∨ (x < 0 ∧ ag 2147483648 x = 2147483648) := by
  by_cases h : x < 0
  · exact Or.inr ⟨h, if_pos h⟩
  · obtain ⟨j, hj, rfl⟩ := nI_of h
    refine Or.inl ⟨j, hj, rfl, ?_⟩
    unfold ag
    rw [if_neg h, nI_clamp hj, if_neg (by omega)]
theorem ag_le (m : Nat) (x : Int32) : ag m x ≤ m := by
  unfold ag
  (repeat' split) <;> omega
def bz (z : Nat → Nat) : Nat → Nat := fun k => z (52 + k)
def hd (z : Nat → Nat) (b : Nat) : Nat → Nat := fun k => z (104 + 52 * b + k)
def ri (z : Nat → Nat) (n : Nat) : Nat × (Nat → Nat) := rit (bz z) z (z 326) n
/-- what holds of z at all times -/
def Zv (z : Nat → Nat) : Prop := (∀ k, k < 52 → z (52 + k) ≤ 1) ∧ (∀ k, k < 8 → z (312 + k) ≤ 1) ∧ z 327 ≤ 1 ∧ Perm z ∧ (∀ k, k < 208 → z (104 + k) < 4) ∧ z 324 ≤ 51 ∧ (1 ≤ z 325 ∧ z 325 ≤ 9) ∧ z 326 < 2 ^ 31
/-- the history: how many, which -/
def rn (n : Nat) : Nat := if n = 4 then 4 else n + 1
def rh (n : Nat) (h : Nat → Nat → Nat) (z : Nat → Nat) : Nat → Nat → Nat := if n = 4 then fun k => if k = 3 then z else h (k + 1) else va_up h n z
-- set
def o_set (i v : Nat) : Prop := (i = 0 ∧ v < 52) ∨ (i = 1 ∧ 1 ≤ v ∧ v ≤ 9)
-- read
def flp (z : Nat → Nat) (c : Nat) : Nat → Nat := va_up z (52 + c) (1 - z (52 + c))
-- shuffle
def shk (z : Nat → Nat) : Nat := kp z (ri z (z 325)).2
def shc (z : Nat → Nat) : Nat := if shk z ≤ z 324 then 1 else 0
def shz (z : Nat → Nat) : Nat → Nat := fun j => if j < 52 then (ri z (z 325)).2 j else if j = 326 then (ri z (z 325)).1 else if j = 327 then shc z else if j = 328 then shk z else if j = 329 then z 329 + 1 else if j = 330 then z 330 + shc z else z j
-- cut, sort
def cuz (z : Nat → Nat) (c : Nat) : Nat → Nat := fun k => if k < 52 then z ((k + c) % 52) else z k
def soz (z : Nat → Nat) : Nat → Nat := fun k => if k < 52 then k else if k = 327 then 0 else z k
-- boards
def dez (z : Nat → Nat) (b : Nat) : Nat → Nat := fun k => if 104 + 52 * b ≤ k ∧ k < 156 + 52 * b then inv z (k - (104 + 52 * b)) % 4 else if k = 312 + b then 1 else if k = 320 + b then 0 else if k = 327 then 0 else if k = 331 then z 331 + 1 else z k
def sez (z : Nat → Nat) (b : Nat) : Nat → Nat := va_up z (316 + b) 1
def opz (z : Nat → Nat) (b : Nat) : Nat → Nat := fun k => if k = 316 + b then 0 else if k = 320 + b then z (320 + b) + 1 else if k = 332 then z 332 + 1 else z k
-- what would be
def nds (z : Nat → Nat) : Nat → Nat → Nat
  | 0, _ => 4294967290
  | n + 1, k => if kp z (ri z k).2 ≤ z 324 then k else nds z n (k + 1)
def wbk (z : Nat → Nat) (c : Nat) : Nat := kp z (rit (va_up (bz z) c 0) z (z 326) (z 325)).2
def wbs (z : Nat → Nat) : Nat → Nat × Nat
  | 0 => (4294967290, 52)
  | n + 1 => if z (52 + n) = 1 ∧ wbk z n < (wbs z n).2 then (n, wbk z n) else wbs z n
-- the answers
def a_set (z : Nat → Nat) (i v : Nat) : Nat := if (i = 0 ∧ v < 52) ∨ (i = 1 ∧ 1 ≤ v ∧ v ≤ 9) then z (324 + i) else 4294967294
def a_seed (z : Nat → Nat) (j : Nat) : Nat := if j < 2147483648 then z 326 else 4294967294
def nbt (z : Nat → Nat) : Nat := sm (fun k => z (52 + k)) 52
def a_bend (z : Nat → Nat) (c : Nat) : Nat := if c < 52 then nbt (flp z c) else 4294967295
def a_cut (z : Nat → Nat) (c : Nat) : Nat := if 1 ≤ c ∧ c < 52 then z c else 4294967294
def a_sort (z : Nat → Nat) : Nat := sm (fun k => if z k = k then 0 else 1) 52
def a_deal (z : Nat → Nat) (b : Nat) : Nat := if b = 4 then 4294967295 else if z (316 + b) = 1 ∨ z 327 = 0 then 4294967291 else pt (hd (dez z b) b) 0
def a_seal (z : Nat → Nat) (b : Nat) : Nat := if b = 4 then 4294967295 else if z (312 + b) = 0 ∨ z (316 + b) = 1 then 4294967291 else sm (fun k => sez z b (316 + k)) 4
def a_open (z : Nat → Nat) (b : Nat) : Nat := if b = 4 then 4294967295 else if z (316 + b) = 0 then 4294967291 else z (320 + b) + 1
def a_card (z : Nat → Nat) (j : Nat) : Nat := if j < 52 then z j else 4294967295
def a_place (z : Nat → Nat) (c : Nat) : Nat := if c < 52 then inv z c else 4294967295
def a_holder (z : Nat → Nat) (b c : Nat) : Nat := if b = 4 ∨ c = 52 then 4294967295 else if z (312 + b) = 0 then 4294967290 else hd z b c
def a_hand (z : Nat → Nat) (b h w : Nat) : Nat := if b = 4 ∨ h = 4 then 4294967295 else if w = 7 then 4294967294 else if z (312 + b) = 0 then 4294967290 else if w = 4 then pt (hd z b) h else if w = 5 then bl (hd z b) h else if w = 6 then hs (hd z b) h else sl (hd z b) h w
def a_board (z : Nat → Nat) (b w : Nat) : Nat := if b = 4 then 4294967295 else if w = 0 then z (312 + b) else if w = 1 then z (316 + b) else if w = 2 then z (320 + b) else if w = 3 then (if z (312 + b) = 0 then 4294967290 else bh (hd z b)) else if w = 4 then (if z (312 + b) = 0 then 0 else bm (hd z b)) else 4294967294
def a_count (z : Nat → Nat) (n ln w : Nat) : Nat := if w = 0 then z 324 else if w = 1 then z 325 else if w = 2 then z 326 else if w = 3 then nbt z else if w = 4 then z 327 else if w = 5 then z 328 else if w = 6 then z 329 else if w = 7 then z 330 else if w = 8 then z 331 else if w = 9 then z 332 else if w = 10 then sm (fun k => z (316 + k)) 4 else if w = 11 then sm (fun k => if z (k + 1) = z k + 1 then 1 else 0) 51 else if w = 12 then ln else if w = 13 then n else 4294967294
def a_alike (z : Nat → Nat) (b c : Nat) : Nat := if b = 4 ∨ c = 4 then 4294967295 else if z (312 + b) = 0 ∨ z (312 + c) = 0 then 4294967290 else al (hd z b) (hd z c)
def a_if (z : Nat → Nat) (r w : Nat) : Nat := if 1 ≤ r ∧ r < 21 ∧ w < 2 then kp z (ri z r).2 else 4294967294
def a_undo (n : Nat) : Nat := if n = 0 then 4294967291 else n - 1
def u_n (n : Nat) : Nat := n - 1
def u_z (n : Nat) (h : Nat → Nat → Nat) (z : Nat → Nat) : Nat → Nat := if n = 0 then z else h (n - 1)
def nbd (z : Nat → Nat) : Nat := sm (fun k => z (312 + k)) 4
def a_save (z : Nat → Nat) (j : Nat) : Nat := if j < 2 then nbd z else 4294967294
/-- the tables of the history, of the slots -/
def hw (κ : Kp) (qh h : Nat → Nat → Nat) : va_W := tab κ (qh 0) (h 0) ++ (tab κ (qh 1) (h 1) ++ (tab κ (qh 2) (h 2) ++ tab κ (qh 3) (h 3)))
def sf (qs : Nat → Nat → Nat) (b0 b1 : Bool) : Nat → Option Nat := fun k => if k = 0 then (match b0 with | true => some (qs 0 0) | false => none) else (match b1 with | true => some (qs 1 0) | false => none)
def sw (κ : Kp) (qs s : Nat → Nat → Nat) (b0 b1 : Bool) : va_W := (match b0 with | true => tab κ (qs 0) (s 0) | false => []) ++ (match b1 with | true => tab κ (qs 1) (s 1) | false => [])
theorem arg_ne {i m : Nat} (h : i < m) {x : Int32} (hx : x < 0 ∨ nI m ≤ x) (e : nI i = x) {A : Prop} (hm : m < 2 ^ 31 := by decide) : A := by
  subst e
  rcases hx with q | q
  · exact absurd q (nI_pos (by omega))
  · have := (nI_leI hm (by omega)).mp q
    omega
theorem arg_le6 {a : Nat} (ha : a + 1 < 2 ^ 31) {x : Int32} (h : x ≤ nI a) (h2 : nI (a + 1) ≤ x) : False := by
  have q := Int32.le_trans h2 h
  have := (nI_leI ha (by omega)).mp q
  omega
theorem arg_out {a : Nat} (ha : a + 1 < 2 ^ 31) {x : Int32} (hx : x < 0 ∨ nI (a + 1) ≤ x) : x.toInt < 0 ∨ (a : Int) < x.toInt := by
  rcases hx with q | q
  · exact Or.inl (Int32.lt_iff_toInt_lt.mp q)
  · right
    have h := Int32.le_iff_toInt_le.mp q
    rw [nI_toInt ha] at h
    omega
theorem lt_n01 {x : Int32} (h : x < 0) : x < nI 1 := Int32.lt_trans h (by decide)
theorem arg_leN {a m : Nat} (ha : a < m) (hm : m < 2 ^ 31) {x : Int32} (h : x ≤ nI a) (h2 : nI m ≤ x) : False := by
  have q := Int32.le_trans h2 h
  have := (nI_leI hm (by omega)).mp q
  omega
theorem flp_b {z : Nat → Nat} (h : ∀ k, k < 52 → z (52 + k) ≤ 1) (c : Nat) : ∀ k, k < 52 → flp z c (52 + k) ≤ 1 := fun k hk => by
  unfold flp va_up
  split
  · omega
  · exact h k hk
theorem up0_b {b : Nat → Nat} (hb : ∀ k, k < 52 → b k ≤ 1) (c : Nat) : ∀ k, k < 52 → va_up b c 0 k ≤ 1 := fun k hk => by
  unfold va_up
  split
  · omega
  · exact hb k hk
theorem ne_n6 {f : Nat} (h : f < 2 ^ 31) : ¬ nI f = -6 := fun e => by
  have q := nI_pos h
  rw [e] at q
  exact absurd (by decide) q
