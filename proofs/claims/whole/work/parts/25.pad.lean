/-! characters given as a number -/
theorem pow256 (k : Nat) : 2 ^ (8 * k) = 256 ^ k := by rw [Nat.pow_mul]
theorem lsh {w k : Nat} (hw : w < 2 ^ 64) (hk : k < 8) : ((lN w).toUInt64 >>> ((nI (8 * k)).toInt64.toUInt64 &&& Int64.toUInt64 63)).toInt64 = lN (w / 256 ^ k) := by
  rw [wb_shr hw (by omega), pow256]
theorem div_lt64 {w : Nat} (hw : w < 2 ^ 64) (k : Nat) : w / 256 ^ k < 2 ^ 64 := Nat.lt_of_le_of_lt (Nat.div_le_self _ _) hw
theorem land255 {n : Nat} (hn : n < 2 ^ 64) : lN n &&& lN 255 = lN (n % 256) := wb_mask (n := n) (k := 8) hn (by decide)
theorem char_small : ∀ n, n < 256 → ((nI n).toUInt32 % 65536).toInt32 = nI n := by decide +kernel
theorem lcmp_lt {a b : Nat} (ha : a < 2 ^ 31) (hb : b < 2 ^ 31) (h : a < b) : lg_cmp (lN a) (lN b) = -1 := by
  unfold lg_cmp
  rw [if_neg (fun z => by have := (lN_lt hb ha).mp z; omega), if_neg (fun z => by have := (lN_eq ha hb).mp z; omega)]
theorem lcmp_eq (a : Nat) : lg_cmp (lN a) (lN a) = 0 := by
  unfold lg_cmp
  rw [if_neg (Int64.lt_irrefl), if_pos rfl]
theorem lcmp_gt {a b : Nat} (ha : a < 2 ^ 31) (hb : b < 2 ^ 31) (h : b < a) : lg_cmp (lN a) (lN b) = 1 := by
  unfold lg_cmp
  exact if_pos ((lN_lt hb ha).mpr h)
theorem lcmp_0 {a : Nat} (ha : a < 2 ^ 64) (h : 0 < a) : lg_cmp (lN a) (lN 0) = 1 ∨ lg_cmp (lN a) (lN 0) = -1 := by
  have h3 : ¬ lN a = lN 0 := fun z => by
    have e := congrArg (fun q : Int64 => q.toBitVec.toNat) z
    simp only [wb_tn ha, wb_tn (show 0 < 2 ^ 64 by decide)] at e
    omega
  unfold lg_cmp
  by_cases h1 : lN a > lN 0
  · left; exact if_pos h1
  · right; rw [if_neg h1, if_neg h3]
def pub (ln w : Nat) : Bool := pln w == 0 || decide (60 < ln + pln w)
/-- put: what it answers, the pad's length and signs behind it -/
def pur (ln w : Nat) : Nat := if pln w = 0 then 4294967294 else if 60 < ln + pln w then 4294967292 else ln + pln w
def pul (ln w : Nat) : Nat := if pln w = 0 then ln else if 60 < ln + pln w then ln else ln + pln w
def pus (sg : Nat → Nat) (ln w : Nat) : Nat → Nat := if pln w = 0 then sg else if 60 < ln + pln w then sg else ppt sg ln w (pln w)
