theorem pul_le {ln : Nat} (h : ln ≤ 60) (w : Nat) : pul ln w ≤ 60 := by unfold pul; (repeat' split) <;> omega
theorem pus_lt {sg : Nat → Nat} (h : ∀ k, k < 60 → sg k < 128) (ln w : Nat) : ∀ k, k < 60 → pus sg ln w k < 128 := fun k hk => by
  unfold pus
  have h0 := h k hk
  split
  · exact h0
  · split
    · exact h0
    · unfold ppt
      split
      · have := pln_by (w := w) (j := pln w - 1 - (k - ln)) (by omega)
        omega
      · exact h0
theorem hb_u {n : Nat} {g : Nat → Nat} {h : Nat → Nat → Nat} (hg : HB n g h) : HB (u_n n) g h := fun k hk => hg k (by unfold u_n at hk; omega)
theorem and31 (x : Int32) : ∃ k : Nat, k < 32 ∧ x &&& nI 31 = nI k := by
  refine ⟨(x &&& nI 31).toBitVec.toNat, ?_, ?_⟩
  · show (x.toBitVec &&& (nI 31).toBitVec).toNat < 32
    rw [BitVec.toNat_and]
    exact Nat.lt_of_le_of_lt Nat.and_le_right (by decide)
  · apply Int32.toBitVec_inj.mp
    show _ = BitVec.ofNat 32 _
    simp
section GLW
variable {κ : Kp} {Γ : Gm} {A : Nat → Prop} {nL cells slots : Nat} {Q : State → Prop} {ws : va_W} {pc n : Nat} {lv : List (Nat × Value)} {st : List Value} {cc : ByteArray} {own nm : String} {ret : Option FieldType} {Rm : Room}
/-- the script: nobody writes it -/
theorem g_xld {b L j : Nat} {xs : Nat → Int32} {v : Int32} (hc : Cx κ Γ A cc nL own nm ret Rm) (hX : va_X b L xs (gS Γ) (gS Γ).heap) (hbl : b < (gS Γ).heap.size) (hbA : ¬ A b) (hj : j < L) (hL : L < 2 ^ 31) (hv : xs j = v) (hd : decode cc pc = .ok (.iaload, 1)) (hn : pc + 1 = n) (kk : G κ Γ A nL cells slots Q ws n lv (.int v :: st)) : G κ Γ A nL cells slots Q ws pc lv (.int (nI j) :: .ref b :: st) := by
  subst hn; subst hv
  intro H locs ls hP hD hS hl
  refine va_sld hc.1 hc.2.1 hX hbl hbA hS (vp_in_nI hj hL) hd ?_
  rw [nI_clamp (Nat.lt_trans hj hL)]
  exact kk H locs ls hP hD hS hl
theorem g_xlen {b L : Nat} {xs : Nat → Int32} (hc : Cx κ Γ A cc nL own nm ret Rm) (hX : va_X b L xs (gS Γ) (gS Γ).heap) (hbl : b < (gS Γ).heap.size) (hbA : ¬ A b) (hd : decode cc pc = .ok (.arraylength, 1)) (hn : pc + 1 = n) (kk : G κ Γ A nL cells slots Q ws n lv (.int (nI L) :: st)) : G κ Γ A nL cells slots Q ws pc lv (.ref b :: st) := by
  subst hn
  intro H locs ls hP hD hS hl
  exact va_slen hc.1 hc.2.1 hX hbl hbA hS hd (kk H locs ls hP hD hS hl)
end GLW
