/-! WORLDS IN ANOTHER ORDER; WHAT A CALL DOES, TOLD WITHOUT ITS CONTRACT'S CELLS -/
def Re (w w2 : va_W) : Prop := (∀ (D : va_G) (cl : List vw_C) (H : Heap), va_P D cl w H → va_P D cl w2 H) ∧ ∀ A : Nat → Prop, va_D A w → va_D A w2
theorem Re.refl (w : va_W) : Re w w := ⟨fun _ _ _ h => h, fun _ h => h⟩
theorem Re.trans {w1 w2 w3 : va_W} (h1 : Re w1 w2) (h2 : Re w2 w3) : Re w1 w3 := ⟨fun D cl H h => h2.1 D cl H (h1.1 D cl H h), fun A h => h2.2 A (h1.2 A h)⟩
theorem Re.of_eq {w w2 : va_W} (h : w = w2) : Re w w2 := h ▸ Re.refl w
theorem Re.part {X X' pl : va_W} (is : List Nat) (hn : va_nd is = true) (hs : is.map (fun i => X[i]?) = X'.map some) : Re (X ++ pl) (X' ++ pl) := ⟨fun _ _ _ h => h.part is hs, fun _ h => h.part is hn hs⟩
theorem Re.lit {X X' : va_W} (is : List Nat) (hn : va_nd is = true) (hs : is.map (fun i => X[i]?) = X'.map some) : Re X X' := ⟨fun _ _ _ h => h.sub is (fm_of hs), fun _ h => h.sub is hn hs⟩
theorem Re.comm (X Y : va_W) : Re (X ++ Y) (Y ++ X) := ⟨fun _ _ _ h => h.right.app h.left, fun _ h => h.right.app h.left (fun _ _ _ _ hi hj e => h.cross hj hi e.symm)⟩
theorem Re.appL {X X' : va_W} (h : Re X X') (Y : va_W) : Re (X ++ Y) (X' ++ Y) := by
  refine ⟨fun D cl H hP => (h.1 D cl H hP.left).app hP.right, fun A hD => ?_⟩
  have h1 : va_D (fun q => ∀ (j : Nat) (p : Nat × va_E), Y[j]? = some p → q ≠ p.1) X := hD.left.weaken (fun k q hk _ j p hj e => hD.cross hk hj e)
  have h2 := h.2 _ h1
  exact (h.2 A hD.left).app hD.right (fun i j p q hi hj e => h2.2 i p hi j q hj e)
theorem Re.appR {X X' : va_W} (Y : va_W) (h : Re X X') : Re (Y ++ X) (Y ++ X') := (Re.comm Y X).trans ((h.appL Y).trans (Re.comm X' Y))
/-- a slot's table to the cells, and back -/
theorem re_s0 (X P T S : va_W) : Re (X ++ (P ++ (T ++ S))) ((X ++ T) ++ (P ++ S)) := by
  refine (Re.appR X (X' := T ++ (P ++ S)) ?_).trans (Re.of_eq (List.append_assoc X T (P ++ S)).symm)
  rw [← List.append_assoc P T S, ← List.append_assoc T P S]
  exact (Re.comm P T).appL S
theorem re_b0 (X P T S : va_W) : Re ((X ++ T) ++ (P ++ S)) (X ++ (P ++ (T ++ S))) := by
  refine (Re.of_eq (List.append_assoc X T (P ++ S))).trans (Re.appR X ?_)
  rw [← List.append_assoc P T S, ← List.append_assoc T P S]
  exact (Re.comm T P).appL S
theorem re_s1 (X P S T : va_W) : Re (X ++ (P ++ (S ++ T))) ((X ++ T) ++ (P ++ S)) := by
  refine (Re.appR X (X' := T ++ (P ++ S)) ?_).trans (Re.of_eq (List.append_assoc X T (P ++ S)).symm)
  rw [← List.append_assoc P S T]
  exact Re.comm (P ++ S) T
theorem re_b1 (X P S T : va_W) : Re ((X ++ T) ++ (P ++ S)) (X ++ (P ++ (S ++ T))) := by
  refine (Re.of_eq (List.append_assoc X T (P ++ S))).trans (Re.appR X ?_)
  rw [← List.append_assoc P S T]
  exact Re.comm T (P ++ S)
theorem Jn.re {w w2 wc : va_W} {J : va_W → va_W → Prop} (h : Re w w2) (hj : Jn w2 wc J) : Jn w wc J :=
  ⟨fun D cl H hP => hj.1 D cl H (h.1 D cl H hP), fun A hD => hj.2.1 A (h.2 A hD), fun A H0 H locs hD hS hA => hj.2.2.1 A H0 H locs (h.2 A hD) hS hA,
   fun A D cl u u2 H H1 hP hD hk hF hP1 hD1 e => hj.2.2.2 A D cl u u2 H H1 (h.1 D cl H hP) (h.2 A hD) hk hF hP1 hD1 e⟩
/-- what a call does: from the world w the method answers ans and leaves a world with N -/
def Sx (κ : Kp) (l : Launch) (y : MethodName) (bytes : ByteArray) (maxL : Nat) (b : Nat) (As : List Value) (ans : Nat) (w : va_W) (N : va_W → Prop) : Prop :=
  ∃ (fr lo mc ms : Nat) (wc : va_W) (post : Option Value → va_W → Prop) (J : va_W → va_W → Prop), CT κ l y bytes maxL (some .int) fr lo mc ms (.ref b :: As) wc post ∧ Jn w wc J ∧ (fr + 1 ≤ 5 ∧ 8 + (maxL + 11) + lo ≤ 134) ∧ (mc ≤ 0 ∧ ms ≤ 0) ∧
    ∀ (v : Option Value) (u : va_W), post v u → v = some (.int (nI ans)) ∧ ∃ w1 w2 : va_W, J u w1 ∧ Re w1 w2 ∧ N w2
section GEF
variable {κ : Kp} {Γ : Gm} {A : Nat → Prop} {nL cells slots : Nat} {Q : State → Prop} {w w2 wl wr : va_W} {pc n : Nat} {lv : List (Nat × Value)} {st rest As : List Value} {cc : ByteArray} {own nm : String} {ret : Option FieldType}
variable {y : MethodName} {bytes : ByteArray} {maxL idx b nA ans ci N0 : Nat} {Rm : Room} {T : u_T} {fs : List Value} {N : va_W → Prop}
theorem g_re2 (h : Re w w2) (kk : G κ Γ A nL cells slots Q w2 pc lv st) : G κ Γ A nL cells slots Q w pc lv st := fun H locs ls hP hD hS hl => kk H locs ls (h.1 _ _ H hP) (h.2 A hD) hS hl
theorem Sx.imp {κ : Kp} {l : Launch} {y : MethodName} {bytes : ByteArray} {maxL b ans : Nat} {As : List Value} {w : va_W} {N N2 : va_W → Prop} (h : Sx κ l y bytes maxL b As ans w N) (hi : ∀ w2, N w2 → N2 w2) : Sx κ l y bytes maxL b As ans w N2 := by
  obtain ⟨fr, lo, mc, ms, wc, post, J, hM, hj, hr, hm, hp⟩ := h
  refine ⟨fr, lo, mc, ms, wc, post, J, hM, hj, hr, hm, fun v u hv => ?_⟩
  obtain ⟨e, w1, w2, hJ, hR, hN⟩ := hp v u hv
  exact ⟨e, w1, w2, hJ, hR, hi w2 hN⟩
theorem g_cls (hc : Cx κ Γ A cc nL own nm ret Rm) (hE : Sx κ (gl Γ) y bytes maxL b As ans wr N) (hy : KV y bytes maxL (some .int) nA) (hl : Cond.methodLink own idx y ∈ WL) (hst : As.reverse ++ .ref b :: rest = st) (hnA : As.length = nA) (hq : ∃ fs : List Value, (b, (.inr (ci, fs) : va_E)) ∈ wr) (hcl : vwCl[ci]? = some (y.cls, T, N0)) (hroom : (5 ≤ Rm.frames ∧ 134 ≤ Rm.locals) ∧ cells ≤ Rm.cells ∧ slots ≤ Rm.slots) (hrest : (rest.map fun v => v.category).sum ≤ 8) (hd : decode cc pc = .ok (.invokevirtual idx, 3)) (hn : pc + 3 = n) (kk : ∀ w2 : va_W, N w2 → G κ Γ A nL cells slots Q (wl ++ w2) n lv (.int (nI ans) :: rest)) : G κ Γ A nL cells slots Q (wl ++ wr) pc lv st := by
  obtain ⟨fr, lo, mc, ms, wc, post, J, hM, hj, hr, hm, hp⟩ := hE
  obtain ⟨fs, hq⟩ := hq
  obtain ⟨k, hk⟩ := List.getElem?_of_mem hq
  refine g_callV (qr := wl.length + k) (fs := fs) hc hM hy hl hst hnA (Jn.trans jn_r hj) (by rw [List.getElem?_append_right (Nat.le_add_right _ _), Nat.add_sub_cancel_left]; exact hk) hcl ⟨⟨by omega, by omega⟩, by omega, by omega⟩ hrest rfl rfl hd hn (fun v u hv => ?_)
  obtain ⟨rfl, w1, w2, hJ, hR, hN⟩ := hp v u hv
  exact ⟨wl ++ w1, ⟨w1, hJ, rfl⟩, g_re2 (Re.appR wl hR) (g_wide (by omega) (by omega) (kk w2 hN))⟩
end GEF
