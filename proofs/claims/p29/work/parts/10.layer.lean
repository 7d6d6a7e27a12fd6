/-! THE LAYER: a judgement G whose world, locals and stack are plain lists; contracts CT; rows. -/
abbrev Kp : Type := va_G × (Nat → ClassId) × (Nat → Nat)
abbrev Gm : Type := Program × Launch × Env × Room × State × MethodId × Array Value × List Frame × Method × Code
abbrev gp (Γ : Gm) : Program := Γ.1
abbrev gl (Γ : Gm) : Launch := Γ.2.1
abbrev ge (Γ : Gm) : Env := Γ.2.2.1
abbrev gR (Γ : Gm) : Room := Γ.2.2.2.1
abbrev gS (Γ : Gm) : State := Γ.2.2.2.2.1
abbrev gm (Γ : Gm) : MethodId := Γ.2.2.2.2.2.1
abbrev ga (Γ : Gm) : Array Value := Γ.2.2.2.2.2.2.1
abbrev gb (Γ : Gm) : List Frame := Γ.2.2.2.2.2.2.2.1
abbrev gM (Γ : Gm) : Method := Γ.2.2.2.2.2.2.2.2.1
abbrev gc (Γ : Gm) : Code := Γ.2.2.2.2.2.2.2.2.2
def kty (κ : Kp) : List (ClassId × FieldType) := [(κ.2.1 0, .int), (κ.2.1 1, .boolean), (κ.2.1 2, .char), (κ.2.1 3, .object RX0), (κ.2.1 4, .object RX2)]
/-- cells: int, boolean, char arrays of Nat values; arrays of references -/
abbrev aI (κ : Kp) (n : Nat) (g : Nat → Nat) : va_E := .inl (κ.2.1 0, n, .inl (fun k => nI (g k)))
abbrev aZ (κ : Kp) (n : Nat) (g : Nat → Nat) : va_E := .inl (κ.2.1 1, n, .inl (fun k => nI (g k)))
abbrev aC (κ : Kp) (n : Nat) (g : Nat → Nat) : va_E := .inl (κ.2.1 2, n, .inl (fun k => nI (g k)))
abbrev aB (κ : Kp) (n : Nat) (g : Nat → Option Nat) : va_E := .inl (κ.2.1 3, n, .inr (.inr (.inr (.inr g))))
abbrev aT (κ : Kp) (n : Nat) (g : Nat → Option Nat) : va_E := .inl (κ.2.1 4, n, .inr (.inr (.inr (.inr g))))
/-- what nobody writes: three static arrays, the script (its address, its length, its ints are κ.2.2 3, 4, 5 and on) -/
def En (κ : Kp) (A : Nat → Prop) (U : State) (H : Heap) : Prop :=
  (va_Z "SealedDeals" "FIRST_VALUE" "[I" (.ref (κ.2.2 0)) A U H ∧ va_T .int (κ.2.2 0) 2 (fun j => .int (if j = 0 then 8 else 3)) A U H) ∧
  (va_Z "SealedDeals" "LOWEST_VALUE" "[I" (.ref (κ.2.2 1)) A U H ∧ va_T .int (κ.2.2 1) 2 (fun j => .int (if j = 0 then 0 else 1)) A U H) ∧
  (va_Z "SealedDeals" "HIGHEST_VALUE" "[I" (.ref (κ.2.2 2)) A U H ∧ va_T .int (κ.2.2 2) 2 (fun j => .int (if j = 0 then 51 else 9)) A U H) ∧
  va_T .int (κ.2.2 3) (κ.2.2 4) (fun j => .int (nI (κ.2.2 (5 + j)))) A U H ∧ κ.2.2 4 ≤ 260
def EnR (_ : Kp) (U : State) : Prop := True ∧ True ∧ va_AO RX0 U ∧ va_AO RX2 U ∧ va_Nw (.fieldLinkNest RX2 15 "SealedDeals" "FIRST_VALUE" "[I" "SealedDeals") U
theorem En.to {κ : Kp} {A A1 : Nat → Prop} {s U : State} {H : Heap} {locs : List Loc} (h : En κ A s s.heap) (hS : va_S A s.heap H locs) (hU : U.heap = H) (hm : s.vm.Alike U.vm) (hA : ∀ q, A1 q → A q) : En κ A1 U U.heap := by
  subst hU
  obtain ⟨⟨z0, t0⟩, ⟨z1, t1⟩, ⟨z2, t2⟩, k, c⟩ := h
  have q := hS.2.1
  exact ⟨⟨((z0.kept q).moved hm).narrow hA, ((t0.kept q).moved hm).narrow hA⟩, ⟨((z1.kept q).moved hm).narrow hA, ((t1.kept q).moved hm).narrow hA⟩, ⟨((z2.kept q).moved hm).narrow hA, ((t2.kept q).moved hm).narrow hA⟩, ((k.kept q).moved hm).narrow hA, c⟩
theorem En.same {κ : Kp} {A : Nat → Prop} {U V : State} {H : Heap} (h : En κ A U H) (hm : U.vm.Alike V.vm) : En κ A V H := by
  obtain ⟨⟨z0, t0⟩, ⟨z1, t1⟩, ⟨z2, t2⟩, k, c⟩ := h
  exact ⟨⟨z0.moved hm, t0.moved hm⟩, ⟨z1.moved hm, t1.moved hm⟩, ⟨z2.moved hm, t2.moved hm⟩, k.moved hm, c⟩
theorem EnR.to {κ : Kp} {s U : State} (h : EnR κ s) (hW : s.WarmedH U.vm) : EnR κ U := ⟨trivial, trivial, h.2.2.1.moved hW.alike, h.2.2.2.1.moved hW.alike, h.2.2.2.2.warmF hW⟩
theorem EnR.same {κ : Kp} {u U : State} (h : EnR κ u) (hv : U.vm = u.vm) : EnR κ U := ⟨trivial, trivial, h.2.2.1.moved (by rw [hv]; exact Vm.Alike.refl _), h.2.2.2.1.moved (by rw [hv]; exact Vm.Alike.refl _), h.2.2.2.2.same rfl hv.symm⟩
def PreB (κ : Kp) (wc : va_W) (sz : Nat) (U : State) : Prop := U.heap.size = sz ∧ va_P κ.1 vwCl wc U.heap ∧ va_K κ.1 vwCl (kty κ) U ∧ va_D (fun _ => True) wc ∧ En κ (va_A wc sz) U U.heap ∧ EnR κ U
theorem PreB.blind {κ : Kp} {av : List Value} {wc : va_W} {sz : Nat} : FrameBlind (va_Pc av (PreB κ wc sz)) := by
  intro a U g mk h
  obtain ⟨h0, h1, h2, h3, h4, h5, h6⟩ := h
  exact ⟨h0, h1, h2, va_K.moved (u := U) (U := U.calling g mk a) (Vm.Alike.refl U.vm) h3, h4, En.same (U := U) (V := U.calling g mk a) h5 (Vm.Alike.refl U.vm), EnR.same (u := U) (U := U.calling g mk a) h6 rfl⟩
def Qg (κ : Kp) (post : Option Value → va_W → Prop) (wc : va_W) (sz : Nat) : Array Value → State → Outcome → State → Prop := fun _ st oc t => (∃ (v : Option Value) (w : va_W), oc = .returned v ∧ post v w ∧ va_P κ.1 vwCl w t.heap ∧ va_D (va_A wc sz) w) ∧ va_F (va_A wc sz) st t
/-- a contract: from a world wc (and nothing else), with the arguments av, the method returns v and leaves a world w with 'post v w' -/
def CT (κ : Kp) (l : Launch) (y : MethodName) (cc : ByteArray) (maxL : Nat) (ret : Option FieldType) (fr lo mc ms : Nat) (av : List Value) (wc : va_W) (post : Option Value → va_W → Prop) : Prop :=
  ∀ sz : Nat, Met l y (Cond.code y cc maxL ret :: WL) { frames := fr, cells := mc, slots := ms, locals := lo } (va_Pc av (PreB κ wc sz)) (Qg κ post wc sz) mc ms (va_A wc sz)
def Cx (κ : Kp) (Γ : Gm) (A : Nat → Prop) (cc : ByteArray) (nL : Nat) (own nm : String) (ret : Option FieldType) (Rm : Room) : Prop :=
  (gp Γ).tables.exec = Jvm.exec ∧ (gc Γ).code = cc ∧ (gc Γ).maxLocals = nL ∧ (gS Γ).vm.findClass own = some (gm Γ).cls ∧ (∀ w ∈ WL, w.before (ga Γ) (gS Γ) = true) ∧ va_K κ.1 vwCl (kty κ) (gS Γ) ∧ (∀ q, (gS Γ).heap.size ≤ q → A q) ∧ En κ A (gS Γ) (gS Γ).heap ∧ EnR κ (gS Γ) ∧ (gM Γ).locks = false ∧ (gM Γ).sig.returnType = ret ∧ gR Γ = Rm ∧ (gM Γ).name = nm
def G (κ : Kp) (Γ : Gm) (A : Nat → Prop) (nL cells slots : Nat) (Q : State → Prop) (ws : va_W) (pc : Nat) (lv : List (Nat × Value)) (st : List Value) : Prop :=
  ∀ (H : Heap) (locs : List Loc) (ls : Array Slot), va_P κ.1 vwCl ws H → va_D A ws → va_S A (gS Γ).heap H locs → lv_has ls nL lv → W (gp Γ) (gl Γ) (ge Γ) (gR Γ) (gS Γ) (gm Γ) (ga Γ) (gb Γ) (gM Γ) (gc Γ) H locs cells slots Q (F0 (gm Γ) pc ls st)
def RQ (κ : Kp) (Γ : Gm) (post : Option Value → va_W → Prop) (wc : va_W) (mc ms : Nat) : State → Prop := MQ (gb Γ) (Qg κ post wc (gS Γ).heap.size) (ga Γ) (gS Γ) mc ms (va_A wc (gS Γ).heap.size)
theorem CT.of {κ : Kp} {l : Launch} {y : MethodName} {cc : ByteArray} {maxL : Nat} {ret : Option FieldType} {fr lo mc ms : Nat} {av : List Value} {wc : va_W} {post : Option Value → va_W → Prop} (hy : plainFor y = true) (hav : (lg_sl av).length ≤ maxL)
    (body : ∀ Γ : Gm, gl Γ = l → Cx κ Γ (va_A wc (gS Γ).heap.size) cc maxL y.cls y.name ret { frames := fr, cells := mc, slots := ms, locals := lo } → G κ Γ (va_A wc (gS Γ).heap.size) maxL 0 0 (RQ κ Γ post wc mc ms) wc 0 (lv_args 0 av) []) : CT κ l y cc maxL ret fr lo mc ms av wc post := by
  intro sz
  refine va_MetF (cc := cc) (maxL := maxL) (ret := ret) hy rfl ?_
  intro p e s m args below meth c s₁ B hml hv
  obtain ⟨rfl, hsz, hP, hK, hD0, hE, hR⟩ := hv
  subst hsz
  have hts := atoms_spec (ws := Cond.code y cc maxL ret :: WL) B.pre
  have h := body (p, l, e, { frames := fr, cells := mc, slots := ms, locals := lo }, s, m, av.toArray, below, meth, c) rfl ⟨B.exec, B.bytes, hml, findClass_of_methodNamed B.named, fun w hw => hts w (List.mem_cons_of_mem _ hw), hK, fun q h => Or.inr h, hE, hR, B.notSynchronized, B.returns, rfl, (name_of_methodNamed B.named B.method).1⟩
  have hl := lv_entry av (n := maxL) hav
  rw [lg_entry_eq]
  exact h s.heap [] _ hP hD0.self va_S.rf hl

section GR
variable {κ : Kp} {Γ : Gm} {A : Nat → Prop} {nL cells slots : Nat} {Q : State → Prop} {ws : va_W} {pc n : Nat} {lv : List (Nat × Value)} {st : List Value} {cc : ByteArray} {own nm : String} {ret : Option FieldType} {Rm : Room}
/-! plain rows -/
theorem g_ws {ws' : va_W} (h : ws = ws') (k : G κ Γ A nL cells slots Q ws' pc lv st) : G κ Γ A nL cells slots Q ws pc lv st := h ▸ k
theorem g_lv {lv' : List (Nat × Value)} (h : lv = lv') (k : G κ Γ A nL cells slots Q ws pc lv' st) : G κ Γ A nL cells slots Q ws pc lv st := h ▸ k
theorem g_st {st' : List Value} (h : st = st') (k : G κ Γ A nL cells slots Q ws pc lv st') : G κ Γ A nL cells slots Q ws pc lv st := h ▸ k
theorem g_top {x y : Int32} (h : x = y) (k : G κ Γ A nL cells slots Q ws pc lv (.int y :: st)) : G κ Γ A nL cells slots Q ws pc lv (.int x :: st) := h ▸ k
theorem g_topl {x y : Int64} (h : x = y) (k : G κ Γ A nL cells slots Q ws pc lv (.long y :: st)) : G κ Γ A nL cells slots Q ws pc lv (.long x :: st) := h ▸ k
theorem g_sub {ws' : va_W} (is : List Nat) (hn : va_nd is = true) (hs : is.map (fun i => ws[i]?) = ws'.map some) (k : G κ Γ A nL cells slots Q ws' pc lv st) : G κ Γ A nL cells slots Q ws pc lv st := by
  intro H locs ls hP hD hS hl
  refine k H locs ls (hP.sub is ?_) (hD.sub is hn hs) hS hl
  have h2 : (is.map (fun i => ws[i]?)).filterMap id = (ws'.map some).filterMap id := by rw [hs]
  simpa [List.filterMap_map, Function.comp_def] using h2
theorem g_lsub {lv' : List (Nat × Value)} (ks : List Nat) (h : lv_pick lv ks = lv') (k : G κ Γ A nL cells slots Q ws pc lv' st) : G κ Γ A nL cells slots Q ws pc lv st := fun H locs ls hP hD hS hl => k H locs ls hP hD hS (lv_sub hl ks h)
theorem g_wide {k m : Nat} (h1 : cells ≤ k) (h2 : slots ≤ m) (kk : G κ Γ A nL k m Q ws pc lv st) : G κ Γ A nL cells slots Q ws pc lv st := fun H locs ls hP hD hS hl => W.widen h1 h2 (kk H locs ls hP hD hS hl)

theorem g_iload_n {i : Nat} {x : Int32} {q : Fin 4} (hc : Cx κ Γ A cc nL own nm ret Rm) (k : Nat) (hk : lv[k]? = some (i, .int x)) (hi : (q : Nat) = i) (hd : decode cc pc = .ok (.iload_n q, 1)) (hn : pc + 1 = n) (kk : G κ Γ A nL cells slots Q ws n lv (.int x :: st)) : G κ Γ A nL cells slots Q ws pc lv st := by
  subst hn
  intro H locs ls hP hD hS hl
  exact lv_iload_n hc.1 hc.2.1 hd hi (lv_at hl k hk) (kk H locs ls hP hD hS hl)
theorem g_iload {i : Nat} {x : Int32} (hc : Cx κ Γ A cc nL own nm ret Rm) (k : Nat) (hk : lv[k]? = some (i, .int x)) (hd : decode cc pc = .ok (.iload i, 2)) (hn : pc + 2 = n) (kk : G κ Γ A nL cells slots Q ws n lv (.int x :: st)) : G κ Γ A nL cells slots Q ws pc lv st := by
  subst hn
  intro H locs ls hP hD hS hl
  exact lv_iload hc.1 hc.2.1 hd (lv_at hl k hk) (kk H locs ls hP hD hS hl)
theorem g_lload_n {i : Nat} {x : Int64} {q : Fin 4} (hc : Cx κ Γ A cc nL own nm ret Rm) (k : Nat) (hk : lv[k]? = some (i, .long x)) (hi : (q : Nat) = i) (hd : decode cc pc = .ok (.lload_n q, 1)) (hn : pc + 1 = n) (kk : G κ Γ A nL cells slots Q ws n lv (.long x :: st)) : G κ Γ A nL cells slots Q ws pc lv st := by
  subst hn
  intro H locs ls hP hD hS hl
  exact lv_lload_n hc.1 hc.2.1 hd hi (lv_at hl k hk) (kk H locs ls hP hD hS hl)
theorem g_lload {i : Nat} {x : Int64} (hc : Cx κ Γ A cc nL own nm ret Rm) (k : Nat) (hk : lv[k]? = some (i, .long x)) (hd : decode cc pc = .ok (.lload i, 2)) (hn : pc + 2 = n) (kk : G κ Γ A nL cells slots Q ws n lv (.long x :: st)) : G κ Γ A nL cells slots Q ws pc lv st := by
  subst hn
  intro H locs ls hP hD hS hl
  exact lv_lload hc.1 hc.2.1 hd (lv_at hl k hk) (kk H locs ls hP hD hS hl)
theorem g_aload_n {i : Nat} {x : Nat} {q : Fin 4} (hc : Cx κ Γ A cc nL own nm ret Rm) (k : Nat) (hk : lv[k]? = some (i, .ref x)) (hi : (q : Nat) = i) (hd : decode cc pc = .ok (.aload_n q, 1)) (hn : pc + 1 = n) (kk : G κ Γ A nL cells slots Q ws n lv (.ref x :: st)) : G κ Γ A nL cells slots Q ws pc lv st := by
  subst hn
  intro H locs ls hP hD hS hl
  exact lv_aload_n hc.1 hc.2.1 hd hi (lv_at hl k hk) (kk H locs ls hP hD hS hl)
theorem g_aload {i : Nat} {x : Nat} (hc : Cx κ Γ A cc nL own nm ret Rm) (k : Nat) (hk : lv[k]? = some (i, .ref x)) (hd : decode cc pc = .ok (.aload i, 2)) (hn : pc + 2 = n) (kk : G κ Γ A nL cells slots Q ws n lv (.ref x :: st)) : G κ Γ A nL cells slots Q ws pc lv st := by
  subst hn
  intro H locs ls hP hD hS hl
  exact lv_aload hc.1 hc.2.1 hd (lv_at hl k hk) (kk H locs ls hP hD hS hl)
theorem g_istore_n {i : Nat} {q : Fin 4} {x : Int32} {lv1 lv2 : List (Nat × Value)} (hc : Cx κ Γ A cc nL own nm ret Rm) (hi : (q : Nat) = i) (hb : i < nL) (ks : List Nat) (hl1 : (i, Value.int x) :: lv.filter (fun q => !(q.1 == i) && !(q.1 + 1 == i && q.2.category == 2)) = lv1) (hl2 : lv_pick lv1 ks = lv2) (hd : decode cc pc = .ok (.istore_n q, 1)) (hn : pc + 1 = n) (kk : G κ Γ A nL cells slots Q ws n lv2 st) : G κ Γ A nL cells slots Q ws pc lv (.int x :: st) := by
  subst hn
  intro H locs ls hP hD hS hl
  exact lv_istore_n hc.1 hc.2.1 hd hi hl hb hl1 (fun ls' hl' => kk H locs ls' hP hD hS (lv_sub hl' ks hl2))
theorem g_istore {i : Nat} {x : Int32} {lv1 lv2 : List (Nat × Value)} (hc : Cx κ Γ A cc nL own nm ret Rm) (hb : i < nL) (ks : List Nat) (hl1 : (i, Value.int x) :: lv.filter (fun q => !(q.1 == i) && !(q.1 + 1 == i && q.2.category == 2)) = lv1) (hl2 : lv_pick lv1 ks = lv2) (hd : decode cc pc = .ok (.istore i, 2)) (hn : pc + 2 = n) (kk : G κ Γ A nL cells slots Q ws n lv2 st) : G κ Γ A nL cells slots Q ws pc lv (.int x :: st) := by
  subst hn
  intro H locs ls hP hD hS hl
  exact lv_istore hc.1 hc.2.1 hd hl hb hl1 (fun ls' hl' => kk H locs ls' hP hD hS (lv_sub hl' ks hl2))
theorem g_lstore_n {i : Nat} {q : Fin 4} {x : Int64} {lv1 lv2 : List (Nat × Value)} (hc : Cx κ Γ A cc nL own nm ret Rm) (hi : (q : Nat) = i) (hb : i + 1 < nL) (ks : List Nat) (hl1 : (i, Value.long x) :: lv.filter (fun q => !(q.1 == i) && (!(q.1 == i + 1) && !(q.1 + 1 == i && q.2.category == 2))) = lv1) (hl2 : lv_pick lv1 ks = lv2) (hd : decode cc pc = .ok (.lstore_n q, 1)) (hn : pc + 1 = n) (kk : G κ Γ A nL cells slots Q ws n lv2 st) : G κ Γ A nL cells slots Q ws pc lv (.long x :: st) := by
  subst hn
  intro H locs ls hP hD hS hl
  exact lv_lstore_n hc.1 hc.2.1 hd hi hl hb hl1 (fun ls' hl' => kk H locs ls' hP hD hS (lv_sub hl' ks hl2))
theorem g_lstore {i : Nat} {x : Int64} {lv1 lv2 : List (Nat × Value)} (hc : Cx κ Γ A cc nL own nm ret Rm) (hb : i + 1 < nL) (ks : List Nat) (hl1 : (i, Value.long x) :: lv.filter (fun q => !(q.1 == i) && (!(q.1 == i + 1) && !(q.1 + 1 == i && q.2.category == 2))) = lv1) (hl2 : lv_pick lv1 ks = lv2) (hd : decode cc pc = .ok (.lstore i, 2)) (hn : pc + 2 = n) (kk : G κ Γ A nL cells slots Q ws n lv2 st) : G κ Γ A nL cells slots Q ws pc lv (.long x :: st) := by
  subst hn
  intro H locs ls hP hD hS hl
  exact lv_lstore hc.1 hc.2.1 hd hl hb hl1 (fun ls' hl' => kk H locs ls' hP hD hS (lv_sub hl' ks hl2))
theorem g_astore_n {i : Nat} {q : Fin 4} {x : Nat} {lv1 lv2 : List (Nat × Value)} (hc : Cx κ Γ A cc nL own nm ret Rm) (hi : (q : Nat) = i) (hb : i < nL) (ks : List Nat) (hl1 : (i, Value.ref x) :: lv.filter (fun q => !(q.1 == i) && !(q.1 + 1 == i && q.2.category == 2)) = lv1) (hl2 : lv_pick lv1 ks = lv2) (hd : decode cc pc = .ok (.astore_n q, 1)) (hn : pc + 1 = n) (kk : G κ Γ A nL cells slots Q ws n lv2 st) : G κ Γ A nL cells slots Q ws pc lv (.ref x :: st) := by
  subst hn
  intro H locs ls hP hD hS hl
  exact lv_astore_n hc.1 hc.2.1 hd hi hl hb hl1 (fun ls' hl' => kk H locs ls' hP hD hS (lv_sub hl' ks hl2))
theorem g_astore {i : Nat} {x : Nat} {lv1 lv2 : List (Nat × Value)} (hc : Cx κ Γ A cc nL own nm ret Rm) (hb : i < nL) (ks : List Nat) (hl1 : (i, Value.ref x) :: lv.filter (fun q => !(q.1 == i) && !(q.1 + 1 == i && q.2.category == 2)) = lv1) (hl2 : lv_pick lv1 ks = lv2) (hd : decode cc pc = .ok (.astore i, 2)) (hn : pc + 2 = n) (kk : G κ Γ A nL cells slots Q ws n lv2 st) : G κ Γ A nL cells slots Q ws pc lv (.ref x :: st) := by
  subst hn
  intro H locs ls hP hD hS hl
  exact lv_astore hc.1 hc.2.1 hd hl hb hl1 (fun ls' hl' => kk H locs ls' hP hD hS (lv_sub hl' ks hl2))
theorem g_iinc {i : Nat} {z : Int} {x v : Int32} {lv1 lv2 : List (Nat × Value)} (hc : Cx κ Γ A cc nL own nm ret Rm) (k : Nat) (hk : lv[k]? = some (i, .int x)) (hv : x + Int32.ofInt z = v) (hb : i < nL) (ks : List Nat) (hl1 : (i, Value.int v) :: lv.filter (fun q => !(q.1 == i) && !(q.1 + 1 == i && q.2.category == 2)) = lv1) (hl2 : lv_pick lv1 ks = lv2) (hd : decode cc pc = .ok (.iinc i z, 3)) (hn : pc + 3 = n) (kk : G κ Γ A nL cells slots Q ws n lv2 st) : G κ Γ A nL cells slots Q ws pc lv st := by
  subst hn
  intro H locs ls hP hD hS hl
  exact lv_iinc hc.1 hc.2.1 hd hl hk hv hb hl1 (fun ls' hl' => kk H locs ls' hP hD hS (lv_sub hl' ks hl2))
theorem g_iconst {z : Int} {v : Int32} (hc : Cx κ Γ A cc nL own nm ret Rm) (hv : Int32.ofInt z = v) (hd : decode cc pc = .ok (.iconst z, 1)) (hn : pc + 1 = n) (kk : G κ Γ A nL cells slots Q ws n lv (.int v :: st)) : G κ Γ A nL cells slots Q ws pc lv st := by
  subst hn
  intro H locs ls hP hD hS hl
  exact lv_iconst hc.1 hc.2.1 hd hv (kk H locs ls hP hD hS hl)
theorem g_bipush {z : Int} {v : Int32} (hc : Cx κ Γ A cc nL own nm ret Rm) (hv : (Int8.ofInt z).toInt32 = v) (hd : decode cc pc = .ok (.bipush z, 2)) (hn : pc + 2 = n) (kk : G κ Γ A nL cells slots Q ws n lv (.int v :: st)) : G κ Γ A nL cells slots Q ws pc lv st := by
  subst hn
  intro H locs ls hP hD hS hl
  exact lv_bipush hc.1 hc.2.1 hd hv (kk H locs ls hP hD hS hl)
theorem g_sipush {z : Int} {v : Int32} (hc : Cx κ Γ A cc nL own nm ret Rm) (hv : (Int16.ofInt z).toInt32 = v) (hd : decode cc pc = .ok (.sipush z, 3)) (hn : pc + 3 = n) (kk : G κ Γ A nL cells slots Q ws n lv (.int v :: st)) : G κ Γ A nL cells slots Q ws pc lv st := by
  subst hn
  intro H locs ls hP hD hS hl
  exact lv_sipush hc.1 hc.2.1 hd hv (kk H locs ls hP hD hS hl)
theorem g_lconst {z : Fin 2} {v : Int64} (hc : Cx κ Γ A cc nL own nm ret Rm) (hv : Int64.ofNat (z : Nat) = v) (hd : decode cc pc = .ok (.lconst z, 1)) (hn : pc + 1 = n) (kk : G κ Γ A nL cells slots Q ws n lv (.long v :: st)) : G κ Γ A nL cells slots Q ws pc lv st := by
  subst hn
  intro H locs ls hP hD hS hl
  exact lv_lconst hc.1 hc.2.1 hd hv (kk H locs ls hP hD hS hl)
theorem g_ldc {i : Nat} {v v2 : Int32} (hc : Cx κ Γ A cc nL own nm ret Rm) (hw : Cond.constant own i v ∈ WL) (hv : v = v2) (hd : decode cc pc = .ok (.ldc i, 2)) (hn : pc + 2 = n) (kk : G κ Γ A nL cells slots Q ws n lv (.int v2 :: st)) : G κ Γ A nL cells slots Q ws pc lv st := by
  subst hn; subst hv
  intro H locs ls hP hD hS hl
  exact lv_ldc hc.1 hc.2.1 hc.2.2.2.1 (hc.2.2.2.2.1 _ hw) hd (kk H locs ls hP hD hS hl)
theorem g_ldc2 {i : Nat} {v v2 : Int64} (hc : Cx κ Γ A cc nL own nm ret Rm) (hw : Cond.constantLong own i v ∈ WL) (hv : v = v2) (hd : decode cc pc = .ok (.ldc2_w i, 3)) (hn : pc + 3 = n) (kk : G κ Γ A nL cells slots Q ws n lv (.long v2 :: st)) : G κ Γ A nL cells slots Q ws pc lv st := by
  subst hn; subst hv
  intro H locs ls hP hD hS hl
  exact lv_ldc2 hc.1 hc.2.1 hc.2.2.2.1 (hc.2.2.2.2.1 _ hw) hd (kk H locs ls hP hD hS hl)
theorem g_iadd {x y v : Int32} (hc : Cx κ Γ A cc nL own nm ret Rm) (hv : x + y = v) (hd : decode cc pc = .ok (.iadd, 1)) (hn : pc + 1 = n) (kk : G κ Γ A nL cells slots Q ws n lv (.int v :: st)) : G κ Γ A nL cells slots Q ws pc lv (.int y :: .int x :: st) := by
  subst hn; subst hv
  intro H locs ls hP hD hS hl
  exact lv_iadd hc.1 hc.2.1 hd (kk H locs ls hP hD hS hl)
theorem g_isub {x y v : Int32} (hc : Cx κ Γ A cc nL own nm ret Rm) (hv : x - y = v) (hd : decode cc pc = .ok (.isub, 1)) (hn : pc + 1 = n) (kk : G κ Γ A nL cells slots Q ws n lv (.int v :: st)) : G κ Γ A nL cells slots Q ws pc lv (.int y :: .int x :: st) := by
  subst hn; subst hv
  intro H locs ls hP hD hS hl
  exact lv_isub hc.1 hc.2.1 hd (kk H locs ls hP hD hS hl)
theorem g_imul {x y v : Int32} (hc : Cx κ Γ A cc nL own nm ret Rm) (hv : x * y = v) (hd : decode cc pc = .ok (.imul, 1)) (hn : pc + 1 = n) (kk : G κ Γ A nL cells slots Q ws n lv (.int v :: st)) : G κ Γ A nL cells slots Q ws pc lv (.int y :: .int x :: st) := by
  subst hn; subst hv
  intro H locs ls hP hD hS hl
  exact lv_imul hc.1 hc.2.1 hd (kk H locs ls hP hD hS hl)
theorem g_iand {x y v : Int32} (hc : Cx κ Γ A cc nL own nm ret Rm) (hv : x &&& y = v) (hd : decode cc pc = .ok (.iand, 1)) (hn : pc + 1 = n) (kk : G κ Γ A nL cells slots Q ws n lv (.int v :: st)) : G κ Γ A nL cells slots Q ws pc lv (.int y :: .int x :: st) := by
  subst hn; subst hv
  intro H locs ls hP hD hS hl
  exact lv_iand hc.1 hc.2.1 hd (kk H locs ls hP hD hS hl)
theorem g_ior {x y v : Int32} (hc : Cx κ Γ A cc nL own nm ret Rm) (hv : x ||| y = v) (hd : decode cc pc = .ok (.ior, 1)) (hn : pc + 1 = n) (kk : G κ Γ A nL cells slots Q ws n lv (.int v :: st)) : G κ Γ A nL cells slots Q ws pc lv (.int y :: .int x :: st) := by
  subst hn; subst hv
  intro H locs ls hP hD hS hl
  exact lv_ior hc.1 hc.2.1 hd (kk H locs ls hP hD hS hl)
theorem g_ishl {x y v : Int32} (hc : Cx κ Γ A cc nL own nm ret Rm) (hv : x <<< (y &&& 31) = v) (hd : decode cc pc = .ok (.ishl, 1)) (hn : pc + 1 = n) (kk : G κ Γ A nL cells slots Q ws n lv (.int v :: st)) : G κ Γ A nL cells slots Q ws pc lv (.int y :: .int x :: st) := by
  subst hn; subst hv
  intro H locs ls hP hD hS hl
  exact lv_ishl hc.1 hc.2.1 hd (kk H locs ls hP hD hS hl)
theorem g_ishr {x y v : Int32} (hc : Cx κ Γ A cc nL own nm ret Rm) (hv : x >>> (y &&& 31) = v) (hd : decode cc pc = .ok (.ishr, 1)) (hn : pc + 1 = n) (kk : G κ Γ A nL cells slots Q ws n lv (.int v :: st)) : G κ Γ A nL cells slots Q ws pc lv (.int y :: .int x :: st) := by
  subst hn; subst hv
  intro H locs ls hP hD hS hl
  exact lv_ishr hc.1 hc.2.1 hd (kk H locs ls hP hD hS hl)
theorem g_idiv {x y v : Int32} (hc : Cx κ Γ A cc nL own nm ret Rm) (hne : ¬ y = 0) (hv : x / y = v) (hd : decode cc pc = .ok (.idiv, 1)) (hn : pc + 1 = n) (kk : G κ Γ A nL cells slots Q ws n lv (.int v :: st)) : G κ Γ A nL cells slots Q ws pc lv (.int y :: .int x :: st) := by
  subst hn; subst hv
  intro H locs ls hP hD hS hl
  exact lv_idiv hc.1 hc.2.1 hd hne (kk H locs ls hP hD hS hl)
theorem g_irem {x y v : Int32} (hc : Cx κ Γ A cc nL own nm ret Rm) (hne : ¬ y = 0) (hv : x - x / y * y = v) (hd : decode cc pc = .ok (.irem, 1)) (hn : pc + 1 = n) (kk : G κ Γ A nL cells slots Q ws n lv (.int v :: st)) : G κ Γ A nL cells slots Q ws pc lv (.int y :: .int x :: st) := by
  subst hn; subst hv
  intro H locs ls hP hD hS hl
  exact lv_irem hc.1 hc.2.1 hd hne (kk H locs ls hP hD hS hl)
theorem g_ladd {x y v : Int64} (hc : Cx κ Γ A cc nL own nm ret Rm) (hv : x + y = v) (hd : decode cc pc = .ok (.ladd, 1)) (hn : pc + 1 = n) (kk : G κ Γ A nL cells slots Q ws n lv (.long v :: st)) : G κ Γ A nL cells slots Q ws pc lv (.long y :: .long x :: st) := by
  subst hn; subst hv
  intro H locs ls hP hD hS hl
  exact lv_ladd hc.1 hc.2.1 hd (kk H locs ls hP hD hS hl)
theorem g_lmul {x y v : Int64} (hc : Cx κ Γ A cc nL own nm ret Rm) (hv : x * y = v) (hd : decode cc pc = .ok (.lmul, 1)) (hn : pc + 1 = n) (kk : G κ Γ A nL cells slots Q ws n lv (.long v :: st)) : G κ Γ A nL cells slots Q ws pc lv (.long y :: .long x :: st) := by
  subst hn; subst hv
  intro H locs ls hP hD hS hl
  exact lv_lmul hc.1 hc.2.1 hd (kk H locs ls hP hD hS hl)
theorem g_land {x y v : Int64} (hc : Cx κ Γ A cc nL own nm ret Rm) (hv : x &&& y = v) (hd : decode cc pc = .ok (.land, 1)) (hn : pc + 1 = n) (kk : G κ Γ A nL cells slots Q ws n lv (.long v :: st)) : G κ Γ A nL cells slots Q ws pc lv (.long y :: .long x :: st) := by
  subst hn; subst hv
  intro H locs ls hP hD hS hl
  exact lv_land hc.1 hc.2.1 hd (kk H locs ls hP hD hS hl)
theorem g_lor {x y v : Int64} (hc : Cx κ Γ A cc nL own nm ret Rm) (hv : x ||| y = v) (hd : decode cc pc = .ok (.lor, 1)) (hn : pc + 1 = n) (kk : G κ Γ A nL cells slots Q ws n lv (.long v :: st)) : G κ Γ A nL cells slots Q ws pc lv (.long y :: .long x :: st) := by
  subst hn; subst hv
  intro H locs ls hP hD hS hl
  exact lv_lor hc.1 hc.2.1 hd (kk H locs ls hP hD hS hl)
theorem g_lrem {x y v : Int64} (hc : Cx κ Γ A cc nL own nm ret Rm) (hne : ¬ y = 0) (hv : x - x / y * y = v) (hd : decode cc pc = .ok (.lrem, 1)) (hn : pc + 1 = n) (kk : G κ Γ A nL cells slots Q ws n lv (.long v :: st)) : G κ Γ A nL cells slots Q ws pc lv (.long y :: .long x :: st) := by
  subst hn; subst hv
  intro H locs ls hP hD hS hl
  exact lv_lrem hc.1 hc.2.1 hd hne (kk H locs ls hP hD hS hl)
theorem g_i2l {x : Int32} {v : Int64} (hc : Cx κ Γ A cc nL own nm ret Rm) (hv : x.toInt64 = v) (hd : decode cc pc = .ok (.i2l, 1)) (hn : pc + 1 = n) (kk : G κ Γ A nL cells slots Q ws n lv (.long v :: st)) : G κ Γ A nL cells slots Q ws pc lv (.int x :: st) := by
  subst hn
  intro H locs ls hP hD hS hl
  exact lv_i2l hc.1 hc.2.1 hd hv (kk H locs ls hP hD hS hl)
theorem g_l2i {x : Int64} {v : Int32} (hc : Cx κ Γ A cc nL own nm ret Rm) (hv : x.toInt32 = v) (hd : decode cc pc = .ok (.l2i, 1)) (hn : pc + 1 = n) (kk : G κ Γ A nL cells slots Q ws n lv (.int v :: st)) : G κ Γ A nL cells slots Q ws pc lv (.long x :: st) := by
  subst hn
  intro H locs ls hP hD hS hl
  exact lv_l2i hc.1 hc.2.1 hd hv (kk H locs ls hP hD hS hl)
theorem g_i2c {x : Int32} {v : Int32} (hc : Cx κ Γ A cc nL own nm ret Rm) (hv : (x.toUInt32 % 65536).toInt32 = v) (hd : decode cc pc = .ok (.i2c, 1)) (hn : pc + 1 = n) (kk : G κ Γ A nL cells slots Q ws n lv (.int v :: st)) : G κ Γ A nL cells slots Q ws pc lv (.int x :: st) := by
  subst hn
  intro H locs ls hP hD hS hl
  exact lv_i2c hc.1 hc.2.1 hd hv (kk H locs ls hP hD hS hl)
theorem g_i2b {x : Int32} {v : Int32} (hc : Cx κ Γ A cc nL own nm ret Rm) (hv : x.toInt8.toInt32 = v) (hd : decode cc pc = .ok (.i2b, 1)) (hn : pc + 1 = n) (kk : G κ Γ A nL cells slots Q ws n lv (.int v :: st)) : G κ Γ A nL cells slots Q ws pc lv (.int x :: st) := by
  subst hn
  intro H locs ls hP hD hS hl
  exact lv_i2b hc.1 hc.2.1 hd hv (kk H locs ls hP hD hS hl)
theorem g_lushr {x v : Int64} {y : Int32} (hc : Cx κ Γ A cc nL own nm ret Rm) (hv : (x.toUInt64 >>> (y.toInt64.toUInt64 &&& Int64.toUInt64 63)).toInt64 = v) (hd : decode cc pc = .ok (.lushr, 1)) (hn : pc + 1 = n) (kk : G κ Γ A nL cells slots Q ws n lv (.long v :: st)) : G κ Γ A nL cells slots Q ws pc lv (.int y :: .long x :: st) := by
  subst hn
  intro H locs ls hP hD hS hl
  exact lv_lushr hc.1 hc.2.1 hd hv (kk H locs ls hP hD hS hl)
theorem g_lshl {x v : Int64} {y : Int32} (hc : Cx κ Γ A cc nL own nm ret Rm) (hv : x <<< (y.toInt64 &&& 63) = v) (hd : decode cc pc = .ok (.lshl, 1)) (hn : pc + 1 = n) (kk : G κ Γ A nL cells slots Q ws n lv (.long v :: st)) : G κ Γ A nL cells slots Q ws pc lv (.int y :: .long x :: st) := by
  subst hn
  intro H locs ls hP hD hS hl
  exact lv_lshl hc.1 hc.2.1 hd hv (kk H locs ls hP hD hS hl)
theorem g_lshr {x v : Int64} {y : Int32} (hc : Cx κ Γ A cc nL own nm ret Rm) (hv : x >>> (y.toInt64 &&& 63) = v) (hd : decode cc pc = .ok (.lshr, 1)) (hn : pc + 1 = n) (kk : G κ Γ A nL cells slots Q ws n lv (.long v :: st)) : G κ Γ A nL cells slots Q ws pc lv (.int y :: .long x :: st) := by
  subst hn
  intro H locs ls hP hD hS hl
  exact lv_lshr hc.1 hc.2.1 hd hv (kk H locs ls hP hD hS hl)
theorem g_lcmp {x y : Int64} {v : Int32} (hc : Cx κ Γ A cc nL own nm ret Rm) (hv : lg_cmp x y = v) (hd : decode cc pc = .ok (.lcmp, 1)) (hn : pc + 1 = n) (kk : G κ Γ A nL cells slots Q ws n lv (.int v :: st)) : G κ Γ A nL cells slots Q ws pc lv (.long y :: .long x :: st) := by
  subst hn; subst hv
  intro H locs ls hP hD hS hl
  exact W.lcmp hc.1 hc.2.1 hd (kk H locs ls hP hD hS hl)
theorem g_dup {v : Value} (hc : Cx κ Γ A cc nL own nm ret Rm) (hv : v.category = 1) (hd : decode cc pc = .ok (.dup, 1)) (hn : pc + 1 = n) (kk : G κ Γ A nL cells slots Q ws n lv (v :: v :: st)) : G κ Γ A nL cells slots Q ws pc lv (v :: st) := by
  subst hn
  intro H locs ls hP hD hS hl
  exact lv_dup hc.1 hc.2.1 hd hv (kk H locs ls hP hD hS hl)
theorem g_dup2 {v w : Value} (hc : Cx κ Γ A cc nL own nm ret Rm) (hv : v.category = 1) (hw : w.category = 1) (hd : decode cc pc = .ok (.dup2, 1)) (hn : pc + 1 = n) (kk : G κ Γ A nL cells slots Q ws n lv (v :: w :: v :: w :: st)) : G κ Γ A nL cells slots Q ws pc lv (v :: w :: st) := by
  subst hn
  intro H locs ls hP hD hS hl
  exact lv_dup2_11 hc.1 hc.2.1 hd hv hw (kk H locs ls hP hD hS hl)
theorem g_goto {off : Int} (hc : Cx κ Γ A cc nL own nm ret Rm) (hd : decode cc pc = .ok (.goto off, 3)) (ht : (pc : Int) + off = (n : Int)) (kk : G κ Γ A nL cells slots Q ws n lv st) : G κ Γ A nL cells slots Q ws pc lv st := by
  intro H locs ls hP hD hS hl
  exact lv_goto hc.1 hc.2.1 hd ht (kk H locs ls hP hD hS hl)
end GR
