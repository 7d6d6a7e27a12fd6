/-! WHAT THE START GIVES: classes, array classes, statics, texts -/
theorem hW_of {b : Nat} {s : State} (hts : ∀ w ∈ lw_tbl, w.before #[Value.ref b] s = true) : ∀ w ∈ WL, w.before #[Value.ref b] s = true := fun w h => hts w (List.mem_filter.mp h).1
theorem arrP_of {args : Array Value} {s : State} {ty : FieldType} (h : (Cond.arrayClass ty).before args s = true) : ∃ c : ClassId, ArrOfT s c ty ∧ s.vm.findClass ("[" ++ ty.toString) = some c := by
  obtain ⟨c, k, comp, h1, h2, h3⟩ := Cond.arrayClass_spec h
  exact ⟨c, fun n z => ⟨fun k h => (by cases h), k, h2, comp, h3⟩, h1⟩
theorem arrO_of {args : Array Value} {s : State} {C : String} (h : (Cond.arrayOver (.object C)).before args s = true) : ∃ c : ClassId, ArrOfT s c (.object C) ∧ va_RA s c (.object C) := by
  obtain ⟨comp, c, k, f1, f2, f3, f4, f5⟩ := Cond.arrayOver_spec h
  exact ⟨c, fun n z => ⟨fun k h => (by cases h), k, f3, comp, f4⟩, k, comp, f3, f4, f1, f5⟩
def NV (c : Cond) : Prop := c ∈ flatC (Jvm.Cond.and given_1 narrow_1)
def stt (n : String) : Term := .static "SealedDeals" n "[I"
theorem sta_of {args : Array Value} {s : State} {A : Nat → Prop} {n : String} {x y : Int32} (h1 : (Cond.arrayOf (stt n) .int).before args s = true) (h2 : (Cond.eq (.length (stt n)) (.int 2)).before args s = true) (h3 : (Cond.eq (.elem (stt n) (.int 0)) (.int x)).before args s = true) (h4 : (Cond.eq (.elem (stt n) (.int 1)) (.int y)).before args s = true) (hl : (Cond.laysStatic "SealedDeals" n "[I").before args s = true) (hini : (Cond.initialized "SealedDeals").before args s = true) (hA : ∀ a : Nat, a < s.heap.size → ¬ A a) : ∃ t : Nat, va_Z "SealedDeals" n "[I" (.ref t) A s s.heap ∧ va_T .int t 2 (fun j => .int (if j = 0 then x else y)) A s s.heap := by
  obtain ⟨t, ht, hT⟩ := va_Tof (tm := stt n) (ty := .int) (N := 2) (f := fun j => .int (if j = 0 then x else y)) (A := A) (by decide) h1 (va_eqt h2) (fun j hj => by
    rcases (show j = 0 ∨ j = 1 by omega) with rfl | rfl
    · exact va_eqt h3
    · exact va_eqt h4) hA
  exact ⟨t, va_Zof hl hini ht hA, hT⟩
theorem nv_F : NV (Cond.arrayOf (stt "FIRST_VALUE") .int) ∧ NV (Cond.eq (.length (stt "FIRST_VALUE")) (.int 2)) ∧ NV (Cond.eq (.elem (stt "FIRST_VALUE") (.int 0)) (.int 8)) ∧ NV (Cond.eq (.elem (stt "FIRST_VALUE") (.int 1)) (.int 3)) := by
  unfold NV
  refine ⟨?_, ?_, ?_, ?_⟩ <;> decide +kernel
theorem nv_L2 : NV (Cond.arrayOf (stt "LOWEST_VALUE") .int) ∧ NV (Cond.eq (.length (stt "LOWEST_VALUE")) (.int 2)) ∧ NV (Cond.eq (.elem (stt "LOWEST_VALUE") (.int 0)) (.int 0)) ∧ NV (Cond.eq (.elem (stt "LOWEST_VALUE") (.int 1)) (.int 1)) := by
  unfold NV
  refine ⟨?_, ?_, ?_, ?_⟩ <;> decide +kernel
theorem nv_H : NV (Cond.arrayOf (stt "HIGHEST_VALUE") .int) ∧ NV (Cond.eq (.length (stt "HIGHEST_VALUE")) (.int 2)) ∧ NV (Cond.eq (.elem (stt "HIGHEST_VALUE") (.int 0)) (.int 51)) ∧ NV (Cond.eq (.elem (stt "HIGHEST_VALUE") (.int 1)) (.int 9)) := by
  unfold NV
  refine ⟨?_, ?_, ?_, ?_⟩ <;> decide +kernel
theorem nI_tb (x : Int32) : nI x.toBitVec.toNat = x := by
  apply Int32.toBitVec_inj.mp
  show BitVec.ofNat 32 x.toBitVec.toNat = _
  simp
def ad5 (t0 t1 t2 b L : Nat) (xs : Nat → Int32) : Nat → Nat := fun k => if k < 5 then ([t0, t1, t2, b, L] : List Nat).getD k 0 else (xs (k - 5)).toBitVec.toNat
theorem ad5_x (t0 t1 t2 b L : Nat) (xs : Nat → Int32) (j : Nat) : nI (ad5 t0 t1 t2 b L xs (5 + j)) = xs j := by
  unfold ad5
  rw [if_neg (by omega), Nat.add_sub_cancel_left]
  exact nI_tb _
theorem scr_of {b L : Nat} {xs : Nat → Int32} {f : Nat → Int32} {s : State} (hX : va_X b L xs s s.heap) (hbl : b < s.heap.size) (hf : ∀ j, f j = xs j) : va_T .int b L (fun j => .int (f j)) (fun q : Nat => s.heap.size ≤ q) s s.heap := by
  obtain ⟨scr, h1, h2, h3, h4, h5⟩ := hX
  refine ⟨scr, h1, h2, h3, Nat.le_of_eq h4.symm, ?_, fun j hj => ?_, Nat.not_le.mpr hbl⟩
  · rw [h4]
  · rw [h5 j hj]
    exact congrArg (fun t => some (Value.int t)) (hf j).symm
set_option maxHeartbeats 1000000 in
theorem env_of {b L : Nat} {xs : Nat → Int32} {s : State} (hX : va_X b L xs s s.heap) (hbl : b < s.heap.size) (hL : L ≤ 260) (hts : ∀ w ∈ lw_tbl, w.before #[Value.ref b] s = true) (hgv : (Jvm.Cond.and given_1 narrow_1).before #[Value.ref b] s = true) : ∃ κ : Kp, va_K κ.1 vwCl (kty κ) s ∧ En κ (fun q : Nat => s.heap.size ≤ q) s s.heap ∧ EnR κ s ∧ κ.2.2 3 = b := by
  have hW := hW_of hts
  have hs : ∀ c : Cond, NV c → c.before #[Value.ref b] s = true := flat_of_before _ hgv
  have hA : ∀ a : Nat, a < s.heap.size → ¬ (fun q : Nat => s.heap.size ≤ q) a := fun a h => Nat.not_le.mpr h
  obtain ⟨c0, i0, k0⟩ := u_known (C := RX0) (T := TX0) (N := 4) hW inX0 (hW _ k_is_RX0)
  obtain ⟨c1, i1, k1⟩ := u_known (C := RX1) (T := TX1) (N := 2) hW inX1 (hW _ k_is_RX1)
  obtain ⟨c2, i2, k2⟩ := u_known (C := RX2) (T := TX2) (N := 11) hW inX2 (hW _ k_is_RX2)
  obtain ⟨c3, i3, k3⟩ := u_known (C := RX3) (T := TX3) (N := 6) hW inX3 (hW _ k_is_RX3)
  obtain ⟨c4, i4, k4⟩ := u_known (C := RX4) (T := TX4) (N := 7) hW inX4 (hW _ k_is_RX4)
  obtain ⟨aI0, pI, qI⟩ := arrP_of (hW _ k_ac_int)
  obtain ⟨aZ0, pZ, qZ⟩ := arrP_of (hW _ k_ac_boolean)
  obtain ⟨aC0, pC, qC⟩ := arrP_of (hW _ k_ac_char)
  have hoB : (Cond.arrayOver (.object RX0)).before #[Value.ref b] s = true := hts _ (List.mem_of_getElem? (i := 28) (by decide +kernel))
  have hoT : (Cond.arrayOver (.object RX2)).before #[Value.ref b] s = true := hts _ (List.mem_of_getElem? (i := 143) (by decide +kernel))
  obtain ⟨aB0, pB, qB⟩ := arrO_of hoB
  obtain ⟨aT0, pT, qT⟩ := arrO_of hoT
  have hini : (Cond.initialized "SealedDeals").before #[Value.ref b] s = true := hW _ k_in_RX4
  obtain ⟨t0, z0, y0⟩ := sta_of (hs _ nv_F.1) (hs _ nv_F.2.1) (hs _ nv_F.2.2.1) (hs _ nv_F.2.2.2) (hts _ (List.mem_of_getElem? (i := 26) (by decide +kernel))) hini hA
  obtain ⟨t1, z1, y1⟩ := sta_of (hs _ nv_L2.1) (hs _ nv_L2.2.1) (hs _ nv_L2.2.2.1) (hs _ nv_L2.2.2.2) (hts _ (List.mem_of_getElem? (i := 423) (by decide +kernel))) hini hA
  obtain ⟨t2, z2, y2⟩ := sta_of (hs _ nv_H.1) (hs _ nv_H.2.1) (hs _ nv_H.2.2.1) (hs _ nv_H.2.2.2) (hts _ (List.mem_of_getElem? (i := 425) (by decide +kernel))) hini hA
  have hT := scr_of hX hbl (fun j => ad5_x t0 t1 t2 b L xs j)
  refine ⟨((fun k => match k with | 0 => c0 | 1 => c1 | 2 => c2 | 3 => c3 | _ => c4, fun k => match k with | 0 => i0 | 1 => i1 | 2 => i2 | 3 => i3 | _ => i4), fun k => match k with | 0 => aI0 | 1 => aZ0 | 2 => aC0 | 3 => aB0 | _ => aT0, ad5 t0 t1 t2 b L xs), ⟨fun c q hq => ?_, fun k q hq => ?_⟩, ⟨⟨z0, y0⟩, ⟨z1, y1⟩, ⟨z2, y2⟩, hT, hL⟩, ⟨trivial, trivial, va_AO.of hoB, va_AO.of hoT, va_Nw.of rfl (hts _ k_fn_RX2_15)⟩, rfl⟩
  · match c, hq with
    | 0, hq => cases hq; exact k0
    | 1, hq => cases hq; exact k1
    | 2, hq => cases hq; exact k2
    | 3, hq => cases hq; exact k3
    | 4, hq => cases hq; exact k4
    | c + 5, hq => simp [vwCl] at hq
  · match k, hq with
    | 0, hq => cases hq; exact ⟨pI, qI⟩
    | 1, hq => cases hq; exact ⟨pZ, qZ⟩
    | 2, hq => cases hq; exact ⟨pC, qC⟩
    | 3, hq => cases hq; exact ⟨pB, qB⟩
    | 4, hq => cases hq; exact ⟨pT, qT⟩
    | k + 5, hq => simp [kty] at hq
