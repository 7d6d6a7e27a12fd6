/-! texts: what both sides read out of the pad -/
def sgN : List (List Nat) := [[99, 100, 104, 115], [50, 51, 52, 53, 54, 55, 56, 57, 116, 106, 113, 107, 97]]
def sgf (si j : Nat) : Nat := (sgN.getD si []).getD j 0
def sgl (si : Nat) : Nat := sgL.getD si 0
theorem sgf_e : ∀ si, si < 2 → ∀ j, j < sgl si → (sgB.getD si []).getD j 0 = nI (sgf si j) := by decide
theorem sgf_lt : ∀ si, si < 2 → ∀ j, j < sgl si → sgf si j < 128 := by decide
theorem sgl_le : ∀ si, si < 2 → 1 ≤ sgl si ∧ sgl si ≤ 13 := by decide
/-- the first place from i on -/
def ixr (f : Nat → Nat) (c : Nat) : Nat → Nat → Nat
  | 0, _ => 4294967295
  | n + 1, i => if f i = c then i else ixr f c n (i + 1)
def ixs (si c : Nat) : Nat := ixr (sgf si) c (sgl si) 0
def su (c : Nat) : Nat := if c = 99 then 0 else if c = 100 then 1 else if c = 104 then 2 else if c = 115 then 3 else 4294967295
def rk (c : Nat) : Nat := if 50 ≤ c ∧ c ≤ 57 then c - 50 else if c = 116 then 8 else if c = 106 then 9 else if c = 113 then 10 else if c = 107 then 11 else if c = 97 then 12 else 4294967295
theorem ixs_0 : ∀ c, c < 128 → ixs 0 c = su c := by decide +kernel
theorem ixs_1 : ∀ c, c < 128 → ixs 1 c = rk c := by decide +kernel
theorem su_or (c : Nat) : su c ≤ 3 ∨ su c = 4294967295 := by unfold su; (repeat' split) <;> omega
theorem rk_or (c : Nat) : rk c ≤ 12 ∨ rk c = 4294967295 := by unfold rk; (repeat' split) <;> omega
/-- can the character stand at its place -/
def cst (sg : Nat → Nat) (i : Nat) : Nat := if i % 3 = 0 then (if su (sg i) ≤ 3 then 1 else 0) else if i % 3 = 1 then (if rk (sg i) ≤ 12 then 1 else 0) else (if sg i = 44 then 1 else 0)
theorem cst_le (sg : Nat → Nat) (i : Nat) : cst sg i ≤ 1 := by unfold cst; (repeat' split) <;> omega
def ffr (sg : Nat → Nat) (ln : Nat) : Nat → Nat → Nat
  | 0, _ => if ln % 3 = 2 then 4294967290 else ln
  | n + 1, i => if cst sg i = 0 then i else ffr sg ln n (i + 1)
/-- the fault -/
def ff (sg : Nat → Nat) (ln : Nat) : Nat := ffr sg ln ln 0
theorem ffr_or (sg : Nat → Nat) (ln : Nat) : ∀ n i, n + i = ln → ffr sg ln n i ≤ ln ∨ (ffr sg ln n i = 4294967290 ∧ ln % 3 = 2 ∧ ∀ k, i ≤ k → k < ln → cst sg k = 1)
  | 0, i, h => by
    unfold ffr
    split
    · rename_i h2
      exact Or.inr ⟨rfl, h2, fun k h3 h4 => by omega⟩
    · exact Or.inl (Nat.le_refl _)
  | n + 1, i, h => by
    unfold ffr
    split
    · exact Or.inl (by omega)
    · rename_i h2
      rcases ffr_or sg ln n (i + 1) (by omega) with h3 | ⟨h3, h4, h5⟩
      · exact Or.inl h3
      · refine Or.inr ⟨h3, h4, fun k h6 h7 => ?_⟩
        by_cases hk : k = i
        · subst hk
          have := cst_le sg k
          omega
        · exact h5 k (by omega) h7
theorem ff_or (sg : Nat → Nat) (ln : Nat) : ff sg ln ≤ ln ∨ (ff sg ln = 4294967290 ∧ ln % 3 = 2 ∧ ∀ k, k < ln → cst sg k = 1) := by
  rcases ffr_or sg ln ln 0 rfl with h | ⟨h, h2, h3⟩
  · exact Or.inl h
  · exact Or.inr ⟨h, h2, fun k hk => h3 k (Nat.zero_le k) hk⟩
theorem cst_0 {sg : Nat → Nat} {i : Nat} (h : cst sg i = 1) (h3 : i % 3 = 0) : su (sg i) ≤ 3 := by
  unfold cst at h
  rw [if_pos h3] at h
  by_cases q : su (sg i) ≤ 3
  · exact q
  · rw [if_neg q] at h; omega
theorem cst_1 {sg : Nat → Nat} {i : Nat} (h : cst sg i = 1) (h3 : i % 3 = 1) : rk (sg i) ≤ 12 := by
  unfold cst at h
  rw [if_neg (by omega), if_pos h3] at h
  by_cases q : rk (sg i) ≤ 12
  · exact q
  · rw [if_neg q] at h; omega
/-- characters given as a number: how many, 0 if they are refused -/
def plr : Nat → Nat → Nat → Nat
  | 0, _, k => k
  | n + 1, w, k => if w = 0 then k else if w % 256 < 33 ∨ 126 < w % 256 then 0 else plr n (w / 256) (k + 1)
def pln (w : Nat) : Nat := plr 8 w 0
def pby (w j : Nat) : Nat := w / 256 ^ j % 256
theorem plr_le : ∀ n w k, plr n w k ≤ n + k
  | 0, w, k => by unfold plr; omega
  | n + 1, w, k => by
    unfold plr
    have := plr_le n (w / 256) (k + 1)
    repeat' split
    all_goals omega
theorem pln_le (w : Nat) : pln w ≤ 8 := plr_le 8 w 0
theorem plr_by : ∀ n w k, plr n w k ≠ 0 → ∀ j, k + j < plr n w k → 33 ≤ pby w j ∧ pby w j ≤ 126
  | 0, w, k, h, j, hj => by unfold plr at hj; omega
  | n + 1, w, k, h, j, hj => by
    unfold plr at h hj
    split at hj
    · omega
    · split at hj
      · omega
      · rename_i h1 h2
        rw [if_neg h1, if_neg h2] at h
        cases j with
        | zero => unfold pby; rw [Nat.pow_zero, Nat.div_one]; omega
        | succ j =>
          have := plr_by n (w / 256) (k + 1) h j (by omega)
          unfold pby at *
          rw [Nat.div_div_eq_div_mul] at this
          rw [Nat.pow_succ, Nat.mul_comm]
          exact this
theorem pln_by {w j : Nat} (hj : j < pln w) : 33 ≤ pby w j ∧ pby w j ≤ 126 := plr_by 8 w 0 (by unfold pln at hj; omega) j (by unfold pln at hj; omega)
/-- the pad behind a put of m characters -/
def ppt (sg : Nat → Nat) (ln w m : Nat) : Nat → Nat := fun k => if ln ≤ k ∧ k < ln + m then pby w (m - 1 - (k - ln)) else sg k
section STR
variable {κ : Kp} {Γ : Gm} {A : Nat → Prop} {nL cells slots cells' slots' : Nat} {Q : State → Prop} {ws ws' : va_W} {pc n : Nat} {lv : List (Nat × Value)} {st : List Value} {cc : ByteArray} {own nm : String} {ret : Option FieldType} {Rm : Room}
theorem g_strc {i si : Nat} (hc : Cx κ Γ A cc nL own nm ret Rm) (hsi : si < 2) (hw : Cond.fieldLink own i "java/lang/String" "coder" "B" ∈ WL) (hd : decode cc pc = .ok (.getfield i, 3)) (hn : pc + 3 = n) (kk : G κ Γ A nL cells slots Q ws n lv (.int (nI 0) :: st)) : G κ Γ A nL cells slots Q ws pc lv (.ref (κ.2.2 (3 + si)) :: st) := by
  subst hn
  intro H locs ls hP hD hS hl
  exact vk_getf hc.1 hc.2.1 (hc.en.2.2.2.2.1 si hsi).2.1 hS hc.2.2.2.1 (hc.2.2.2.2.1 _ hw) (fun _ q => q) hd (kk H locs ls hP hD hS hl)
theorem g_strv {i si : Nat} (hc : Cx κ Γ A cc nL own nm ret Rm) (hsi : si < 2) (hw : Cond.fieldLink own i "java/lang/String" "value" "[B" ∈ WL) (hd : decode cc pc = .ok (.getfield i, 3)) (hn : pc + 3 = n) (kk : G κ Γ A nL cells slots Q ws n lv (.ref (κ.2.2 (5 + si)) :: st)) : G κ Γ A nL cells slots Q ws pc lv (.ref (κ.2.2 (3 + si)) :: st) := by
  subst hn
  intro H locs ls hP hD hS hl
  exact vk_getf hc.1 hc.2.1 (hc.en.2.2.2.2.1 si hsi).2.2.1 hS hc.2.2.2.1 (hc.2.2.2.2.1 _ hw) (fun _ q => q) hd (kk H locs ls hP hD hS hl)
theorem g_strl {si : Nat} (hc : Cx κ Γ A cc nL own nm ret Rm) (hsi : si < 2) (hd : decode cc pc = .ok (.arraylength, 1)) (hn : pc + 1 = n) (kk : G κ Γ A nL cells slots Q ws n lv (.int (nI (sgl si)) :: st)) : G κ Γ A nL cells slots Q ws pc lv (.ref (κ.2.2 (5 + si)) :: st) := by
  subst hn
  intro H locs ls hP hD hS hl
  exact va_tlen hc.1 hc.2.1 (hc.en.2.2.2.2.1 si hsi).2.2.2 hS rfl hd (kk H locs ls hP hD hS hl)
theorem g_strb {si j : Nat} (hc : Cx κ Γ A cc nL own nm ret Rm) (hsi : si < 2) (hj : j < sgl si) (hd : decode cc pc = .ok (.baload, 1)) (hn : pc + 1 = n) (kk : G κ Γ A nL cells slots Q ws n lv (.int (nI (sgf si j)) :: st)) : G κ Γ A nL cells slots Q ws pc lv (.int (nI j) :: .ref (κ.2.2 (5 + si)) :: st) := by
  subst hn
  intro H locs ls hP hD hS hl
  have hl13 := (sgl_le si hsi).2
  refine va_tb hc.1 hc.2.1 (hc.en.2.2.2.2.1 si hsi).2.2.2 hS (vp_in_nI hj (by have h9 : sgL.getD si 0 ≤ 13 := hl13; omega)) (v := .int (nI (sgf si j))) ?_ hd (kk H locs ls hP hD hS hl)
  rw [nI_clamp (by omega)]
  show Value.int _ = _
  rw [sgf_e si hsi j hj]
variable {y : MethodName} {bytes : ByteArray} {maxL fr lo mc ms idx si nA : Nat} {r : Option FieldType} {As rest : List Value} {wc : va_W} {J : va_W → va_W → Prop} {post : Option Value → va_W → Prop}
theorem g_callT (hc : Cx κ Γ A cc nL own nm ret Rm) (hsi : si < 2) (hM : CT κ (gl Γ) y bytes maxL r fr lo mc ms (.ref (κ.2.2 (3 + si)) :: As) wc post) (hy : KV y bytes maxL r nA) (hl : Cond.methodLink own idx y ∈ WL) (hst : As.reverse ++ .ref (κ.2.2 (3 + si)) :: rest = st) (hnA : As.length = nA) (hj : Jn ws wc J) (hcl : y.cls = "java/lang/String") (hroom : (fr + 1 ≤ Rm.frames ∧ 8 + (maxL + 11) + lo ≤ Rm.locals) ∧ cells + mc ≤ Rm.cells ∧ slots + ms ≤ Rm.slots) (hrest : (rest.map fun v => v.category).sum ≤ 8) (h1 : cells + mc = cells') (h2 : slots + ms = slots') (hd : decode cc pc = .ok (.invokevirtual idx, 3)) (hn : pc + 3 = n) (kk : ∀ (v : Option Value) (w : va_W), post v w → ∃ w', J w w' ∧ G κ Γ A nL cells' slots' Q w' n lv (v.toList ++ rest)) : G κ Γ A nL cells slots Q ws pc lv st := by
  subst hn; subst hst; subst h1; subst h2
  intro H locs ls hP hD hS hl2
  have hts := hc.2.2.2.2.1
  have hRm : gR Γ = Rm := hc.2.2.2.2.2.2.2.2.2.2.2.1
  obtain ⟨hF, hpre⟩ := g_pre (av := .ref (κ.2.2 (3 + si)) :: As) hc hP hD hS hj
  refine g_after (va_runV ⟨hc.1, hc.2.1, hc.2.2.1, hc.2.2.2.1, hts⟩ (hM H.size) (cwV (C := y.cls) nA hts (WL_goodIn (fun w hw => ?_)) rfl rfl rfl ⟨rfl, hy.2.2.2.2⟩ (by rw [hRm]; exact hroom.1)) ⟨PreB.blind, by rw [hcl]; exact vk_recv (adK := fun i => κ.2.2 (3 + i)) (i := si) hc.en.2.2.2.2 hsi hS, hpre⟩ rfl hnA hl2.1 rfl (lv_room hrest) hd (by rw [hRm]; exact hroom.2)) hS hF (fun v w H1 locs1 hp hP1 hD1 hk hS1 => ?_)
  · rcases List.mem_append.mp hw with h | h
    · simp only [List.mem_cons, List.not_mem_nil, or_false] at h
      rcases h with rfl | rfl | rfl | rfl
      · exact hl
      · exact hy.1
      · exact hy.2.1
      · exact hy.2.2.1
    · exact WL_cons hy.2.2.2.1 w h
  · obtain ⟨w', hJ, g⟩ := kk v w hp
    obtain ⟨hP2, hD2⟩ := hj.2.2.2 A _ _ w w' H H1 hP hD hk hF hP1 hD1 hJ
    exact g H1 locs1 ls hP2 hD2 hS1 hl2
end STR
/-! ===== lN n to 2^64: shifts, and, or, masks, one bit ===== -/
theorem wb_tb (n : Nat) : (lN n).toBitVec = BitVec.ofNat 64 n := rfl
theorem wb_inj {a b : Int64} (h : a.toBitVec = b.toBitVec) : a = b := Int64.toBitVec_inj.mp h
theorem wb_tn {n : Nat} (h : n < 2 ^ 64) : (lN n).toBitVec.toNat = n := by rw [wb_tb, BitVec.toNat_ofNat, Nat.mod_eq_of_lt h]
theorem wb_of (x : Int64) : ∃ n, n < 2 ^ 64 ∧ x = lN n := ⟨x.toBitVec.toNat, x.toBitVec.isLt, wb_inj (by rw [wb_tb]; simp)⟩
theorem wb_of32 (x : Int32) : ∃ n, n < 2 ^ 32 ∧ x = nI n := ⟨x.toBitVec.toNat, x.toBitVec.isLt, Int32.toBitVec_inj.mp (by show _ = BitVec.ofNat 32 _; simp)⟩
theorem wb_c : ∀ k, k < 64 → ((nI k).toInt64 &&& 63) = lN k := by decide +kernel
theorem wb_cu : ∀ k, k < 64 → ((nI k).toInt64.toUInt64 &&& Int64.toUInt64 63) = UInt64.ofNat k := by decide +kernel
theorem wb_sm : ∀ k, k < 64 → (BitVec.ofNat 64 k).smod 64 = BitVec.ofNat 64 k := by decide +kernel
theorem wb_pw {a b : Nat} (h : a ≤ b) : 2 ^ b = 2 ^ a * 2 ^ (b - a) := by rw [← Nat.pow_add]; congr 1; omega
theorem wb_lt2 {a b : Nat} (h : a < b) : 2 ^ a < 2 ^ b := Nat.pow_lt_pow_right (by decide) h
theorem wb_mod (n : Nat) : lN n = lN (n % 2 ^ 64) := wb_inj (by rw [wb_tb, wb_tb]; apply BitVec.eq_of_toNat_eq; rw [BitVec.toNat_ofNat, BitVec.toNat_ofNat, Nat.mod_mod])
theorem wb_shr {n k : Nat} (hn : n < 2 ^ 64) (hk : k < 64) : ((lN n).toUInt64 >>> ((nI k).toInt64.toUInt64 &&& Int64.toUInt64 63)).toInt64 = lN (n / 2 ^ k) := by
  rw [wb_cu k hk]
  apply wb_inj
  apply BitVec.eq_of_toNat_eq
  show ((lN n).toUInt64 >>> UInt64.ofNat k).toNat = (BitVec.ofNat 64 _).toNat
  have h1 : (UInt64.ofNat k).toNat = k := by
    show (BitVec.ofNat 64 k).toNat = k
    rw [BitVec.toNat_ofNat, Nat.mod_eq_of_lt (by omega)]
  have h2 : (lN n).toUInt64.toNat = n := wb_tn hn
  rw [UInt64.toNat_shiftRight, h1, h2, Nat.mod_eq_of_lt hk, Nat.shiftRight_eq_div_pow, BitVec.toNat_ofNat, Nat.mod_eq_of_lt (Nat.lt_of_le_of_lt (Nat.div_le_self _ _) hn)]
theorem wb_shl (n : Nat) {k : Nat} (hk : k < 64) : lN n <<< ((nI k).toInt64 &&& 63) = lN (n * 2 ^ k) := by
  rw [wb_c k hk]
  apply wb_inj
  rw [Int64.toBitVec_shiftLeft, wb_tb, wb_tb, wb_tb, wb_sm k hk]
  apply BitVec.eq_of_toNat_eq
  rw [BitVec.shiftLeft_eq', BitVec.toNat_shiftLeft, BitVec.toNat_ofNat, BitVec.toNat_ofNat, BitVec.toNat_ofNat, Nat.mod_eq_of_lt (show k < 2 ^ 64 by omega), Nat.shiftLeft_eq, Nat.mul_mod, Nat.mod_mod, ← Nat.mul_mod]
theorem wb_and {a b : Nat} (ha : a < 2 ^ 64) (hb : b < 2 ^ 64) : lN a &&& lN b = lN (a &&& b) := by
  apply wb_inj
  rw [Int64.toBitVec_and, wb_tb, wb_tb, wb_tb]
  apply BitVec.eq_of_toNat_eq
  rw [BitVec.toNat_and, BitVec.toNat_ofNat, BitVec.toNat_ofNat, BitVec.toNat_ofNat, Nat.mod_eq_of_lt ha, Nat.mod_eq_of_lt hb, Nat.mod_eq_of_lt (Nat.and_lt_two_pow _ hb)]
theorem wb_or {a b : Nat} (ha : a < 2 ^ 64) (hb : b < 2 ^ 64) : lN a ||| lN b = lN (a ||| b) := by
  apply wb_inj
  rw [Int64.toBitVec_or, wb_tb, wb_tb, wb_tb]
  apply BitVec.eq_of_toNat_eq
  rw [BitVec.toNat_or, BitVec.toNat_ofNat, BitVec.toNat_ofNat, BitVec.toNat_ofNat, Nat.mod_eq_of_lt ha, Nat.mod_eq_of_lt hb, Nat.mod_eq_of_lt (Nat.or_lt_two_pow ha hb)]
theorem wb_mask {n k : Nat} (hn : n < 2 ^ 64) (hk : k < 64) : lN n &&& lN (2 ^ k - 1) = lN (n % 2 ^ k) := by
  rw [wb_and hn (by have := wb_lt2 hk; omega), Nat.and_two_pow_sub_one_eq_mod]
theorem wb_a1 {n : Nat} (hn : n < 2 ^ 64) : lN n &&& 1 = lN (n % 2) := wb_mask (k := 1) hn (by decide)
theorem wb_bit {n k : Nat} (hn : n < 2 ^ 64) (hk : k < 64) : ((lN n).toUInt64 >>> ((nI k).toInt64.toUInt64 &&& Int64.toUInt64 63)).toInt64 &&& 1 = lN (n / 2 ^ k % 2) := by
  rw [wb_shr hn hk, wb_a1 (Nat.lt_of_le_of_lt (Nat.div_le_self _ _) hn)]
theorem wb_xor {q k : Nat} (hk : k < 63) (h : 2 ^ k ≤ q) (h2 : q < 2 ^ (k + 1)) : lN q ^^^ lN (2 ^ k) = lN (q - 2 ^ k) := by
  obtain ⟨r, rfl⟩ : ∃ r, q = 2 ^ k + r := ⟨q - 2 ^ k, by omega⟩
  have hr : r < 2 ^ k := by rw [Nat.pow_succ] at h2; omega
  have hx : (2 ^ k + r) ^^^ 2 ^ k = r := by
    apply Nat.eq_of_testBit_eq
    intro i
    rw [Nat.testBit_xor, Nat.testBit_two_pow]
    rcases Nat.lt_trichotomy i k with h | h | h
    · rw [Nat.testBit_two_pow_add_gt h]
      simp [show ¬ k = i by omega]
    · subst h
      rw [Nat.testBit_two_pow_add_eq]
      simp
    · have a1 : 2 ^ (k + 1) ≤ 2 ^ i := Nat.pow_le_pow_right (by decide) h
      rw [Nat.testBit_lt_two_pow (show 2 ^ k + r < 2 ^ i by omega), Nat.testBit_lt_two_pow (show r < 2 ^ i by omega)]
      simp [show ¬ k = i by omega]
  have b1 := wb_lt2 (show k + 1 < 64 by omega)
  have b2 := wb_lt2 (show k < 64 by omega)
  apply wb_inj
  rw [Int64.toBitVec_xor, wb_tb, wb_tb, wb_tb]
  apply BitVec.eq_of_toNat_eq
  rw [BitVec.toNat_xor, BitVec.toNat_ofNat, BitVec.toNat_ofNat, BitVec.toNat_ofNat, Nat.mod_eq_of_lt (by omega : 2 ^ k + r < 2 ^ 64), Nat.mod_eq_of_lt b2, hx, Nat.add_sub_cancel_left, Nat.mod_eq_of_lt (by omega)]
theorem byte_small : ∀ n, n < 128 → (nI n).toInt8.toInt32 = nI n := by decide +kernel
