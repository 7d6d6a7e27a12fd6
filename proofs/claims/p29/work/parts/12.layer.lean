section GR3
variable {κ : Kp} {Γ : Gm} {nL cells slots mc ms : Nat} {ws wc : va_W} {pc n : Nat} {lv : List (Nat × Value)} {cc : ByteArray} {own nm : String} {ret : Option FieldType} {Rm : Room} {post : Option Value → va_W → Prop}
theorem g_iret {v : Int32} (hc : Cx κ Γ (va_A wc (gS Γ).heap.size) cc nL own nm ret Rm) (hr : ret = some .int) (h1 : cells ≤ mc) (h2 : slots ≤ ms) (hd : decode cc pc = .ok (.ireturn, 1)) (hp : post (some (.int v)) ws) : G κ Γ (va_A wc (gS Γ).heap.size) nL cells slots (RQ κ Γ post wc mc ms) ws pc lv [.int v] := by
  intro H locs ls hP hD hS hl
  refine W.widen h1 h2 ?_
  exact W.iret (v := v) hc.1 hc.2.1 (hc.2.2.2.2.2.2.2.2.2.2.1.trans hr) (fun t ht hW => ⟨⟨some (.int v), ws, rfl, hp, by rw [ht]; exact hP, hD⟩, hS.F ht⟩) hS.2.2 hd hc.2.2.2.2.2.2.2.2.2.1
theorem g_zret {v : Int32} {ty : FieldType} (hc : Cx κ Γ (va_A wc (gS Γ).heap.size) cc nL own nm ret Rm) (hr : ret = some ty) (hnar : narrow ty (.int v) = .int v) (h1 : cells ≤ mc) (h2 : slots ≤ ms) (hd : decode cc pc = .ok (.ireturn, 1)) (hp : post (some (.int v)) ws) : G κ Γ (va_A wc (gS Γ).heap.size) nL cells slots (RQ κ Γ post wc mc ms) ws pc lv [.int v] := by
  intro H locs ls hP hD hS hl
  refine W.widen h1 h2 ?_
  exact W.zret (v := v) hc.1 hc.2.1 (hc.2.2.2.2.2.2.2.2.2.2.1.trans hr) hnar (fun t ht hW => ⟨⟨some (.int v), ws, rfl, hp, by rw [ht]; exact hP, hD⟩, hS.F ht⟩) hS.2.2 hd hc.2.2.2.2.2.2.2.2.2.1
theorem g_vret (hc : Cx κ Γ (va_A wc (gS Γ).heap.size) cc nL own nm ret Rm) (hr : ret = none) (h1 : cells ≤ mc) (h2 : slots ≤ ms) (hd : decode cc pc = .ok (.return_, 1)) (hp : post none ws) : G κ Γ (va_A wc (gS Γ).heap.size) nL cells slots (RQ κ Γ post wc mc ms) ws pc lv [] := by
  intro H locs ls hP hD hS hl
  refine W.widen h1 h2 ?_
  exact W.vret hc.1 hc.2.1 (hc.2.2.2.2.2.2.2.2.2.2.1.trans hr) (fun t ht hW => ⟨⟨none, ws, rfl, hp, by rw [ht]; exact hP, hD⟩, hS.F ht⟩) hS.2.2 hd hc.2.2.2.2.2.2.2.2.2.1
theorem g_aret {v : Value} {rt : FieldType} (hc : Cx κ Γ (va_A wc (gS Γ).heap.size) cc nL own nm ret Rm) (hr : ret = some rt) (hrt : (∃ n, rt = .object n) ∨ ∃ t, rt = .array t) (hv : v = .null ∨ ∃ a, v = .ref a) (h1 : cells ≤ mc) (h2 : slots ≤ ms) (hd : decode cc pc = .ok (.areturn, 1)) (hp : post (some v) ws) : G κ Γ (va_A wc (gS Γ).heap.size) nL cells slots (RQ κ Γ post wc mc ms) ws pc lv [v] := by
  intro H locs ls hP hD hS hl
  refine W.widen h1 h2 ?_
  exact W.aret (v := v) hc.1 hc.2.1 (hc.2.2.2.2.2.2.2.2.2.2.1.trans hr) hrt hv (fun t ht hW => ⟨⟨some v, ws, rfl, hp, by rw [ht]; exact hP, hD⟩, hS.F ht⟩) hS.2.2 hd hc.2.2.2.2.2.2.2.2.2.1
end GR3
/-- what a callee needs of the words -/
def KV (y : MethodName) (b : ByteArray) (mL : Nat) (r : Option FieldType) (nA : Nat) : Prop := Cond.instanceMethod y ∈ WL ∧ Cond.selects y.cls y y ∈ WL ∧ Cond.initialized y.cls ∈ WL ∧ Cond.code y b mL r ∈ WL ∧ y.cls ≠ "java/lang/invoke/MethodHandle" ∧ y.cls ≠ "java/lang/invoke/VarHandle" ∧ (parseMethodDescriptor y.desc).map (fun d => d.parameters.length) = some nA
def KS (y : MethodName) (b : ByteArray) (mL : Nat) (r : Option FieldType) (nA : Nat) : Prop := Cond.static y ∈ WL ∧ Cond.initialized y.cls ∈ WL ∧ Cond.code y b mL r ∈ WL ∧ y.cls ≠ "java/lang/invoke/MethodHandle" ∧ y.cls ≠ "java/lang/invoke/VarHandle" ∧ (parseMethodDescriptor y.desc).map (fun d => d.parameters.length) = some nA
def KI (y : MethodName) (b : ByteArray) (mL : Nat) (nA : Nat) : Prop := Cond.instanceMethod y ∈ WL ∧ Cond.initialized y.cls ∈ WL ∧ Cond.code y b mL none ∈ WL ∧ y.name = "<init>" ∧ y.cls ≠ "java/lang/invoke/MethodHandle" ∧ y.cls ≠ "java/lang/invoke/VarHandle" ∧ (parseMethodDescriptor y.desc).map (fun d => d.parameters.length) = some nA
theorem WL_good {w : Cond} (h : w ∈ WL) : (w.onTables && w.keeps) = true ∨ ∃ ty, w = .arrayClass ty := good_of_word (List.mem_filter.mp h).2
theorem WL_goodIn {ws : List Cond} (h : ∀ w ∈ ws, w ∈ WL) : GoodIn WL ws := fun w hw => ⟨h w hw, WL_good (h w hw)⟩
theorem WL_cons {c : Cond} (h : c ∈ WL) : ∀ w ∈ c :: WL, w ∈ WL := fun w hw => (List.mem_cons.mp hw).elim (fun e => e ▸ h) id
section GC
variable {κ : Kp} {Γ : Gm} {A : Nat → Prop} {nL cells slots cells' slots' : Nat} {Q : State → Prop} {ws ws' : va_W} {pc n : Nat} {lv : List (Nat × Value)} {st : List Value} {cc : ByteArray} {own nm : String} {ret : Option FieldType} {Rm : Room}
variable {y : MethodName} {bytes : ByteArray} {maxL fr lo mc ms idx b nA : Nat} {r : Option FieldType} {av As rest : List Value} {wc : va_W} {J : va_W → va_W → Prop} {post : Option Value → va_W → Prop}
theorem g_after {p : Program} {l : Launch} {e : Env} {R : Room} {s : State} {m : MethodId} {args : Array Value} {below : List Frame} {meth : Method} {c : Code} {H : Heap} {locs : List Loc} {ls : Array Slot} {st0 : List Value} {a : Array Value} (hr : va_Run p l e R s m args below meth c H locs cells slots mc ms (F0 m pc ls st0) rest (Qg κ post wc H.size a) (va_A wc H.size)) (hS : va_S A s.heap H locs) (hf : ∀ q, va_A wc H.size q → A q)
    (kk : ∀ (v : Option Value) (w : va_W) (H1 : Heap) (locs1 : List Loc), post v w → va_P κ.1 vwCl w H1 → va_D (va_A wc H.size) w → (∀ q : Nat, q < H.size → ¬ va_A wc H.size q → H1[q]? = H[q]?) → va_S A s.heap H1 locs1 → W p l e R s m args below meth c H1 locs1 (cells + mc) (slots + ms) Q (F0 m (pc + 3) ls (v.toList ++ rest))) : W p l e R s m args below meth c H locs cells slots Q (F0 m pc ls st0) := by
  intro T hT X
  obtain ⟨v, st₀, t, T', L, h0, X', hL, e1, e2, ⟨⟨v2, w, hv, hp, hP1, hD1⟩, hz, hk⟩, st⟩ := hr T hT X
  cases hv
  rw [h0] at hz hk
  obtain ⟨t2, a1, b1⟩ := kk v w T'.heap (locs ++ L) hp (by rw [e1]; exact hP1) hD1 (fun q h1 h2 => by rw [e1]; exact hk q h1 h2)
    ⟨Nat.le_trans hS.1 (by rw [e1]; exact hz), fun q h1 h2 => by rw [e1, hk q (Nat.lt_of_lt_of_le h1 hS.1) (fun z => h2 (hf q z))]; exact hS.2.1 q h1 h2, fun q hq => by
      rcases List.mem_append.mp hq with h | h
      · exact hS.2.2 q h
      · exact hf _ (hL q h)⟩ T' rfl X'
  exact ⟨t2, st t2 a1, b1⟩
/-- how a callee's world lies in the caller's, and what becomes of the caller's world -/
def Jn (ws wc : va_W) (J : va_W → va_W → Prop) : Prop :=
  (∀ (D : va_G) (cl : List vw_C) (H : Heap), va_P D cl ws H → va_P D cl wc H) ∧ (∀ A : Nat → Prop, va_D A ws → va_D A wc) ∧
  (∀ (A : Nat → Prop) (H0 H : Heap) (locs : List Loc), va_D A ws → va_S A H0 H locs → (∀ q, H0.size ≤ q → A q) → ∀ q, va_A wc H.size q → A q) ∧
  (∀ (A : Nat → Prop) (D : va_G) (cl : List vw_C) (w w' : va_W) (H H1 : Heap), va_P D cl ws H → va_D A ws → (∀ q : Nat, q < H.size → ¬ va_A wc H.size q → H1[q]? = H[q]?) → (∀ q, va_A wc H.size q → A q) → va_P D cl w H1 → va_D (va_A wc H.size) w → J w w' → va_P D cl w' H1 ∧ va_D A w')
theorem fm_of {ws wc : va_W} {is : List Nat} (h : is.map (fun i => ws[i]?) = wc.map some) : is.filterMap (fun i => ws[i]?) = wc := by
  have h2 : (is.map (fun i => ws[i]?)).filterMap id = (wc.map some).filterMap id := by rw [h]
  simpa [List.filterMap_map, Function.comp_def] using h2
theorem jn_ix {ws wc wr : va_W} (isC isR : List Nat) (hC : isC.map (fun i => ws[i]?) = wc.map some) (hR : isR.map (fun i => ws[i]?) = wr.map some) (hnC : va_nd isC = true) (hnR : va_nd isR = true) (hdis : ∀ i ∈ isR, i ∉ isC) : Jn ws wc (fun w w' => w' = wr ++ w) :=
  ⟨fun _ _ _ h => h.sub isC (fm_of hC), fun _ h => h.sub isC hnC hC, fun _ _ _ _ hD hS hA => va_free hD hS hA isC hC, fun _ _ _ _ _ _ _ hP hD hk hF hP1 hD1 e => by
    subst e
    exact va_join hP hD isC isR hC hR hnR hdis hk hF hP1 hD1⟩
theorem va_P.left {D : va_G} {cl : List vw_C} {X Y : va_W} {H : Heap} (h : va_P D cl (X ++ Y) H) : va_P D cl X H := fun k q hk => h k q (by rw [List.getElem?_append_left (List.getElem?_eq_some_iff.mp hk).1]; exact hk)
theorem va_P.right {D : va_G} {cl : List vw_C} {X Y : va_W} {H : Heap} (h : va_P D cl (X ++ Y) H) : va_P D cl Y H := fun k q hk => h (X.length + k) q (by rw [List.getElem?_append_right (Nat.le_add_right _ _), Nat.add_sub_cancel_left]; exact hk)
theorem va_D.left {A : Nat → Prop} {X Y : va_W} (h : va_D A (X ++ Y)) : va_D A X :=
  ⟨fun i j p q hi hj e => h.1 i j p q (by rw [List.getElem?_append_left (List.getElem?_eq_some_iff.mp hi).1]; exact hi) (by rw [List.getElem?_append_left (List.getElem?_eq_some_iff.mp hj).1]; exact hj) e, fun k q hk => h.2 k q (by rw [List.getElem?_append_left (List.getElem?_eq_some_iff.mp hk).1]; exact hk)⟩
theorem va_D.right {A : Nat → Prop} {X Y : va_W} (h : va_D A (X ++ Y)) : va_D A Y := by
  have key : ∀ (k : Nat) (q : Nat × va_E), Y[k]? = some q → (X ++ Y)[X.length + k]? = some q := fun k q hk => by rw [List.getElem?_append_right (Nat.le_add_right _ _), Nat.add_sub_cancel_left]; exact hk
  refine ⟨fun i j p q hi hj e => ?_, fun k q hk => h.2 _ q (key k q hk)⟩
  have := h.1 _ _ p q (key i p hi) (key j q hj) e
  omega
theorem va_D.cross {A : Nat → Prop} {X Y : va_W} (h : va_D A (X ++ Y)) {i j : Nat} {p q : Nat × va_E} (hi : X[i]? = some p) (hj : Y[j]? = some q) : p.1 ≠ q.1 := by
  intro e
  have l := (List.getElem?_eq_some_iff.mp hi).1
  have := h.1 i (X.length + j) p q (by rw [List.getElem?_append_left l]; exact hi) (by rw [List.getElem?_append_right (Nat.le_add_right _ _), Nat.add_sub_cancel_left]; exact hj) e
  omega
theorem jn_q {X cx wr pl : va_W} (isC isR : List Nat) (hC : isC.map (fun i => X[i]?) = cx.map some) (hR : isR.map (fun i => X[i]?) = wr.map some) (hnC : va_nd isC = true) (hnR : va_nd isR = true) (hdis : ∀ i ∈ isR, i ∉ isC) : Jn (X ++ pl) cx (fun w w' => w' = (wr ++ w) ++ pl) :=
  ⟨fun _ _ _ h => h.left.sub isC (fm_of hC), fun _ h => h.left.sub isC hnC hC, fun _ _ _ _ hD hS hA => va_free hD.left hS hA isC hC, fun _ _ _ _ _ _ _ hP hD hk hF hP1 hD1 e => by
    subst e
    exact va_joinQ hP hD isC isR hC hR hnR hdis hk hF hP1 hD1⟩
theorem jn_p {X cx wr pl : va_W} (isC isR : List Nat) (hC : isC.map (fun i => X[i]?) = cx.map some) (hR : isR.map (fun i => X[i]?) = wr.map some) (hnC : va_nd isC = true) (hnR : va_nd isR = true) (hdis : ∀ i ∈ isR, i ∉ isC) : Jn (X ++ pl) (cx ++ pl) (fun w w' => ∃ rx pl1, w = rx ++ pl1 ∧ w' = (wr ++ rx) ++ pl1) :=
  ⟨fun _ _ _ h => h.part isC hC, fun _ h => h.part isC hnC hC, fun _ _ _ _ hD hS hA => va_freeP hD hS hA isC hC, fun _ _ _ _ _ _ _ hP hD hk hF hP1 hD1 e => by
    obtain ⟨rx, pl1, rfl, rfl⟩ := e
    exact va_joinP hP hD isC isR hC hR hnR hdis hk hF hP1 hD1⟩
theorem jn_l {wc wr : va_W} : Jn (wc ++ wr) wc (fun w w' => w' = w ++ wr) := by
  refine ⟨fun _ _ _ h => h.left, fun _ h => h.left, fun A H0 H locs hD hS hA q h => ?_, fun A D cl w w' H H1 hP hD hk hF hP1 hD1 e => ?_⟩
  · rcases h with ⟨k, e, h⟩ | h
    · exact hD.left.2 k (q, e) h
    · exact hA q (Nat.le_trans hS.1 h)
  · subst e
    have ap : ∀ (k : Nat) (q : Nat × va_E), wr[k]? = some q → q.1 < H.size ∧ ¬ va_A wc H.size q.1 := fun k q hq => by
      have hl := (hP.right k q hq).lt
      refine ⟨hl, fun h => ?_⟩
      rcases h with ⟨k2, e, h⟩ | h
      · exact hD.cross h hq rfl
      · omega
    exact ⟨va_P.app hP1 (fun k q hq => (hP.right k q hq).kept (hk q.1 (ap k q hq).1 (ap k q hq).2)), va_D.app (hD1.weaken (fun k q _ h => hF q.1 h)) hD.right (fun i j p q hi hj e => (ap j q hj).2 (e ▸ hD1.2 i p hi))⟩
theorem jn_r {wl wc : va_W} : Jn (wl ++ wc) wc (fun w w' => w' = wl ++ w) := by
  refine ⟨fun _ _ _ h => h.right, fun _ h => h.right, fun A H0 H locs hD hS hA q h => ?_, fun A D cl w w' H H1 hP hD hk hF hP1 hD1 e => ?_⟩
  · rcases h with ⟨k, e, h⟩ | h
    · exact hD.right.2 k (q, e) h
    · exact hA q (Nat.le_trans hS.1 h)
  · subst e
    have ap : ∀ (k : Nat) (q : Nat × va_E), wl[k]? = some q → q.1 < H.size ∧ ¬ va_A wc H.size q.1 := fun k q hq => by
      have hl := (hP.left k q hq).lt
      refine ⟨hl, fun h => ?_⟩
      rcases h with ⟨k2, e, h⟩ | h
      · exact hD.cross hq h rfl
      · omega
    exact ⟨va_P.app (fun k q hq => (hP.left k q hq).kept (hk q.1 (ap k q hq).1 (ap k q hq).2)) hP1, va_D.app hD.left (hD1.weaken (fun k q _ h => hF q.1 h)) (fun i j p q hi hj e => (ap i p hi).2 (e ▸ hD1.2 j q hj))⟩
/-- the callee's start, out of the caller's world -/
theorem g_pre (hc : Cx κ Γ A cc nL own nm ret Rm) {H : Heap} {locs : List Loc} (hP : va_P κ.1 vwCl ws H) (hD : va_D A ws) (hS : va_S A (gS Γ).heap H locs) (hj : Jn ws wc J) : (∀ q, va_A wc H.size q → A q) ∧ ∀ U : State, U.heap = H → (gS Γ).WarmedH U.vm → va_Pc av (PreB κ wc H.size) av.toArray U := by
  have hF := hj.2.2.1 A _ H locs hD hS hc.2.2.2.2.2.2.1
  refine ⟨hF, fun U hU hW => ⟨rfl, by rw [hU], ?_, va_K.moved hW.alike hc.2.2.2.2.2.1, (hj.2.1 A hD).weaken (fun _ _ _ _ => trivial), ?_, EnR.to hc.2.2.2.2.2.2.2.2.1 hW⟩⟩
  · rw [hU]
    exact hj.1 _ _ H hP
  · rw [hU]
    have := En.to (U := U) (A1 := va_A wc H.size) hc.2.2.2.2.2.2.2.1 hS hU hW.alike hF
    rwa [hU] at this
theorem g_callV {ci qr : Nat} {fs : List Value} {T : u_T} {N : Nat} (hc : Cx κ Γ A cc nL own nm ret Rm) (hM : CT κ (gl Γ) y bytes maxL r fr lo mc ms (.ref b :: As) wc post) (hy : KV y bytes maxL r nA) (hl : Cond.methodLink own idx y ∈ WL) (hst : As.reverse ++ .ref b :: rest = st) (hnA : As.length = nA) (hj : Jn ws wc J) (hq : ws[qr]? = some (b, .inr (ci, fs))) (hcl : vwCl[ci]? = some (y.cls, T, N)) (hroom : (fr + 1 ≤ Rm.frames ∧ 8 + (maxL + 11) + lo ≤ Rm.locals) ∧ cells + mc ≤ Rm.cells ∧ slots + ms ≤ Rm.slots) (hrest : (rest.map fun v => v.category).sum ≤ 8) (h1 : cells + mc = cells') (h2 : slots + ms = slots') (hd : decode cc pc = .ok (.invokevirtual idx, 3)) (hn : pc + 3 = n) (kk : ∀ (v : Option Value) (w : va_W), post v w → ∃ w', J w w' ∧ G κ Γ A nL cells' slots' Q w' n lv (v.toList ++ rest)) : G κ Γ A nL cells slots Q ws pc lv st := by
  subst hn; subst hst; subst h1; subst h2
  intro H locs ls hP hD hS hl2
  have hts := hc.2.2.2.2.1
  have hRm : gR Γ = Rm := hc.2.2.2.2.2.2.2.2.2.2.2.1
  obtain ⟨hF, hpre⟩ := g_pre (av := .ref b :: As) hc hP hD hS hj
  refine g_after (va_runV ⟨hc.1, hc.2.1, hc.2.2.1, hc.2.2.2.1, hts⟩ (hM H.size) (cwV (C := y.cls) nA hts (WL_goodIn (fun w hw => ?_)) rfl rfl rfl ⟨rfl, hy.2.2.2.2⟩ (by rw [hRm]; exact hroom.1)) ⟨PreB.blind, va_recv hc.2.2.2.2.2.1 hP hcl hq, hpre⟩ rfl hnA hl2.1 rfl (lv_room hrest) hd (by rw [hRm]; exact hroom.2)) hS hF (fun v w H1 locs1 hp hP1 hD1 hk hS1 => ?_)
  · rcases List.mem_append.mp hw with h | h
    · simp only [List.mem_cons, List.not_mem_nil, or_false] at h
      rcases h with rfl | rfl | rfl | rfl
      · exact hl
      · exact hy.1
      · exact hy.2.1
      · exact hy.2.2.1
    · exact WL_cons hy.2.2.2.1 w h
  · obtain ⟨w', hJ, g⟩ := kk v w hp
    obtain ⟨hP2, hD2⟩ := hj.2.2.2 A _ _ w w' H H1 hP hD hk hF hP1 hD1 hJ
    exact g H1 locs1 ls hP2 hD2 hS1 hl2
theorem g_callS (hc : Cx κ Γ A cc nL own nm ret Rm) (hM : CT κ (gl Γ) y bytes maxL r fr lo mc ms As wc post) (hy : KS y bytes maxL r nA) (hl : Cond.methodLink own idx y ∈ WL) (hst : As.reverse ++ rest = st) (hnA : As.length = nA) (hj : Jn ws wc J) (hroom : (fr + 1 ≤ Rm.frames ∧ 8 + (maxL + 11) + lo ≤ Rm.locals) ∧ cells + mc ≤ Rm.cells ∧ slots + ms ≤ Rm.slots) (hrest : (rest.map fun v => v.category).sum ≤ 8) (h1 : cells + mc = cells') (h2 : slots + ms = slots') (hd : decode cc pc = .ok (.invokestatic idx, 3)) (hn : pc + 3 = n) (kk : ∀ (v : Option Value) (w : va_W), post v w → ∃ w', J w w' ∧ G κ Γ A nL cells' slots' Q w' n lv (v.toList ++ rest)) : G κ Γ A nL cells slots Q ws pc lv st := by
  subst hn; subst hst; subst h1; subst h2
  intro H locs ls hP hD hS hl2
  have hts := hc.2.2.2.2.1
  have hRm : gR Γ = Rm := hc.2.2.2.2.2.2.2.2.2.2.2.1
  obtain ⟨hF, hpre⟩ := g_pre (av := As) hc hP hD hS hj
  refine g_after (va_runS ⟨hc.1, hc.2.1, hc.2.2.1, hc.2.2.2.1, hts⟩ (hM H.size) (va_cwS nA hts (WL_goodIn (fun w hw => ?_)) rfl rfl rfl ⟨hy.2.2.2.1, hy.2.2.2.2.1, hy.2.2.2.2.2⟩ (by rw [hRm]; exact hroom.1)) ⟨PreB.blind, hpre⟩ rfl hnA hl2.1 rfl (lv_room hrest) hd (by rw [hRm]; exact hroom.2)) hS hF (fun v w H1 locs1 hp hP1 hD1 hk hS1 => ?_)
  · rcases List.mem_append.mp hw with h | h
    · simp only [List.mem_cons, List.not_mem_nil, or_false] at h
      rcases h with rfl | rfl | rfl
      · exact hl
      · exact hy.1
      · exact hy.2.1
    · exact WL_cons hy.2.2.1 w h
  · obtain ⟨w', hJ, g⟩ := kk v w hp
    obtain ⟨hP2, hD2⟩ := hj.2.2.2 A _ _ w w' H H1 hP hD hk hF hP1 hD1 hJ
    exact g H1 locs1 ls hP2 hD2 hS1 hl2
theorem g_callI (hc : Cx κ Γ A cc nL own nm ret Rm) (hM : CT κ (gl Γ) y bytes maxL none fr lo mc ms (.ref b :: As) wc post) (hy : KI y bytes maxL nA) (hl : Cond.methodLink own idx y ∈ WL) (hst : As.reverse ++ .ref b :: rest = st) (hnA : As.length = nA) (hj : Jn ws wc J) (hroom : (fr + 1 ≤ Rm.frames ∧ 8 + (maxL + 11) + lo ≤ Rm.locals) ∧ cells + mc ≤ Rm.cells ∧ slots + ms ≤ Rm.slots) (hrest : (rest.map fun v => v.category).sum ≤ 8) (h1 : cells + mc = cells') (h2 : slots + ms = slots') (hd : decode cc pc = .ok (.invokespecial idx, 3)) (hn : pc + 3 = n) (kk : ∀ (v : Option Value) (w : va_W), post v w → ∃ w', J w w' ∧ G κ Γ A nL cells' slots' Q w' n lv (v.toList ++ rest)) : G κ Γ A nL cells slots Q ws pc lv st := by
  subst hn; subst hst; subst h1; subst h2
  intro H locs ls hP hD hS hl2
  have hts := hc.2.2.2.2.1
  have hRm : gR Γ = Rm := hc.2.2.2.2.2.2.2.2.2.2.2.1
  obtain ⟨hF, hpre⟩ := g_pre (av := .ref b :: As) hc hP hD hS hj
  refine g_after (va_runI (As := As) (b := b) ⟨hc.1, hc.2.1, hc.2.2.1, hc.2.2.2.1, hts⟩ (hM H.size) (cwI nA hts (WL_goodIn (WL_cons hy.2.2.1)) rfl rfl rfl (hts _ hy.2.1) (hts _ hl) (hts _ hy.1) hy.2.2.2.1 ⟨hy.2.2.2.2.1, hy.2.2.2.2.2.1, hy.2.2.2.2.2.2⟩ (by rw [hRm]; exact hroom.1)) ⟨PreB.blind, hpre⟩ rfl hnA hl2.1 rfl (lv_room hrest) hd (by rw [hRm]; exact hroom.2)) hS hF (fun v w H1 locs1 hp hP1 hD1 hk hS1 => ?_)
  obtain ⟨w', hJ, g⟩ := kk v w hp
  obtain ⟨hP2, hD2⟩ := hj.2.2.2 A _ _ w w' H H1 hP hD hk hF hP1 hD1 hJ
  exact g H1 locs1 ls hP2 hD2 hS1 hl2
/-- Object.<init> -/
theorem g_objInit {i a : Nat} (hc : Cx κ Γ A cc nL own nm ret Rm) (hl : Cond.methodLink own i objectInit ∈ WL) (hroom : 1 ≤ Rm.frames ∧ 12 + (rest.map fun v => v.category).sum ≤ Rm.locals) (hd : decode cc pc = .ok (.invokespecial i, 3)) (hn : pc + 3 = n) (kk : G κ Γ A nL cells slots Q ws n lv rest) : G κ Γ A nL cells slots Q ws pc lv (.ref a :: rest) := by
  subst hn
  intro H locs ls hP hD hS hl2
  have hts := hc.2.2.2.2.1
  have hRm : gR Γ = Rm := hc.2.2.2.2.2.2.2.2.2.2.2.1
  refine W.objInit hc.1 hc.2.1 hc.2.2.2.1 (hts _ hl) (hts _ k_im_objectInit) (hts _ k_co_objectInit) rfl (hl2.1.trans hc.2.2.1.symm) rfl hd (by rw [hRm]; exact hroom.1) (by rw [hRm]; show 2 * 0 + _ + 12 ≤ _; have := hroom.2; omega) ?_
  exact kk H locs ls hP hD hS hl2
theorem g_subq {X X' pl : va_W} (is : List Nat) (hn : va_nd is = true) (hs : is.map (fun i => X[i]?) = X'.map some) (kk : G κ Γ A nL cells slots Q (X' ++ pl) pc lv st) : G κ Γ A nL cells slots Q (X ++ pl) pc lv st := fun H locs ls hP hD hS hl => kk H locs ls (hP.part is hs) (hD.part is hn hs) hS hl
/-- new objects and arrays -/
theorem g_new {C : String} {T : u_T} {N ci i : Nat} {fs : List Value} {ty0 : Nat → FieldType} (hc : Cx κ Γ A cc nL own nm ret Rm) (hcl : vwCl[ci]? = some (C, T, N)) (hin : ∀ w ∈ u_ws C T N, w ∈ WL) (hty : ∀ k, k < N → parseFieldDescriptor (T k).2.2.1 = some (ty0 k)) (hw : Cond.classLink own i C ∈ WL) (hi : Cond.instantiable C N ∈ WL) (hini : Cond.initialized C ∈ WL) (hfs : ∀ j, j < N → defaultValue (ty0 j) = vp_V fs j) (hroom : cells + 1 ≤ Rm.cells ∧ slots + N ≤ Rm.slots) (h1 : cells + 1 = cells') (h2 : slots + N = slots') (hd : decode cc pc = .ok (.new i, 3)) (hn : pc + 3 = n) (kk : ∀ q : Nat, G κ Γ A nL cells' slots' Q (ws ++ [(q, .inr (ci, fs))]) n lv (.ref q :: st)) : G κ Γ A nL cells slots Q ws pc lv st := by
  subst hn; subst h1; subst h2
  intro H locs ls hP hD hS hl2
  have hts := hc.2.2.2.2.1
  have hRm : gR Γ = Rm := hc.2.2.2.2.2.2.2.2.2.2.2.1
  exact va_new hc.1 hc.2.1 hts hin ty0 hty hc.2.2.2.1 (hts _ hw) (hts _ hi) (hts _ hini) hc.2.2.2.2.2.1 hP hD hS hc.2.2.2.2.2.2.1 hcl hfs (by rw [hRm]; exact hroom.1) (by rw [hRm]; exact hroom.2) hd (fun q H1 hP1 hD1 hS1 => kk q H1 locs ls hP1 hD1 hS1 hl2)

theorem n_newI {m : Nat} (hc : Cx κ Γ A cc nL own nm ret Rm) (hw : Cond.arrayClass .int ∈ WL) (hm : m < 2 ^ 20) (hroom : cells + 1 ≤ Rm.cells ∧ slots + m ≤ Rm.slots) (h1 : cells + 1 = cells') (h2 : slots + m = slots') (hd : decode cc pc = .ok (.newarray .int, 2)) (hn : pc + 2 = n) (kk : ∀ q : Nat, G κ Γ A nL cells' slots' Q (ws ++ [(q, aI κ m (fun _ => 0))]) n lv (.ref q :: st)) : G κ Γ A nL cells slots Q ws pc lv (.int (nI m) :: st) := by
  subst hn; subst h1; subst h2
  intro H locs ls hP hD hS hl2
  have hts := hc.2.2.2.2.1
  have hRm : gR Γ = Rm := hc.2.2.2.2.2.2.2.2.2.2.2.1
  have hK := hc.2.2.2.2.2.1
  refine va_newa (atype := .int) (ty := .int) (N' := m) (a0 := (m, .inl (fun _ => nI 0))) hc.1 hc.2.1 (hts _ hw) rfl hK hP hD hS hc.2.2.2.2.2.2.1 (fun cA => rfl) (nI_pos (by omega)) (nI_clamp (by omega)) (by simp only [componentBytes]; omega) (by rw [hRm]; exact hroom.1) (by rw [hRm]; exact hroom.2) hd (fun q cA H1 hK1 hP1 hD1 hS1 => ?_)
  have e1 : (gS Γ).vm.findClass ("[" ++ (FieldType.toString .int)) = some cA := (hK1.2 5 _ rfl).2
  have e2 : (gS Γ).vm.findClass ("[" ++ (FieldType.toString .int)) = some (κ.2.1 0) := (hK.2 0 _ rfl).2
  obtain rfl : cA = κ.2.1 0 := Option.some.inj (e1.symm.trans e2)
  exact kk q H1 locs ls hP1 hD1 hS1 hl2
theorem n_newZ {m : Nat} (hc : Cx κ Γ A cc nL own nm ret Rm) (hw : Cond.arrayClass .boolean ∈ WL) (hm : m < 2 ^ 20) (hroom : cells + 1 ≤ Rm.cells ∧ slots + m ≤ Rm.slots) (h1 : cells + 1 = cells') (h2 : slots + m = slots') (hd : decode cc pc = .ok (.newarray .boolean, 2)) (hn : pc + 2 = n) (kk : ∀ q : Nat, G κ Γ A nL cells' slots' Q (ws ++ [(q, aZ κ m (fun _ => 0))]) n lv (.ref q :: st)) : G κ Γ A nL cells slots Q ws pc lv (.int (nI m) :: st) := by
  subst hn; subst h1; subst h2
  intro H locs ls hP hD hS hl2
  have hts := hc.2.2.2.2.1
  have hRm : gR Γ = Rm := hc.2.2.2.2.2.2.2.2.2.2.2.1
  have hK := hc.2.2.2.2.2.1
  refine va_newa (atype := .boolean) (ty := .boolean) (N' := m) (a0 := (m, .inl (fun _ => nI 0))) hc.1 hc.2.1 (hts _ hw) rfl hK hP hD hS hc.2.2.2.2.2.2.1 (fun cA => rfl) (nI_pos (by omega)) (nI_clamp (by omega)) (by simp only [componentBytes]; omega) (by rw [hRm]; exact hroom.1) (by rw [hRm]; exact hroom.2) hd (fun q cA H1 hK1 hP1 hD1 hS1 => ?_)
  have e1 : (gS Γ).vm.findClass ("[" ++ (FieldType.toString .boolean)) = some cA := (hK1.2 5 _ rfl).2
  have e2 : (gS Γ).vm.findClass ("[" ++ (FieldType.toString .boolean)) = some (κ.2.1 1) := (hK.2 1 _ rfl).2
  obtain rfl : cA = κ.2.1 1 := Option.some.inj (e1.symm.trans e2)
  exact kk q H1 locs ls hP1 hD1 hS1 hl2
theorem n_newC {m : Nat} (hc : Cx κ Γ A cc nL own nm ret Rm) (hw : Cond.arrayClass .char ∈ WL) (hm : m < 2 ^ 20) (hroom : cells + 1 ≤ Rm.cells ∧ slots + m ≤ Rm.slots) (h1 : cells + 1 = cells') (h2 : slots + m = slots') (hd : decode cc pc = .ok (.newarray .char, 2)) (hn : pc + 2 = n) (kk : ∀ q : Nat, G κ Γ A nL cells' slots' Q (ws ++ [(q, aC κ m (fun _ => 0))]) n lv (.ref q :: st)) : G κ Γ A nL cells slots Q ws pc lv (.int (nI m) :: st) := by
  subst hn; subst h1; subst h2
  intro H locs ls hP hD hS hl2
  have hts := hc.2.2.2.2.1
  have hRm : gR Γ = Rm := hc.2.2.2.2.2.2.2.2.2.2.2.1
  have hK := hc.2.2.2.2.2.1
  refine va_newa (atype := .char) (ty := .char) (N' := m) (a0 := (m, .inl (fun _ => nI 0))) hc.1 hc.2.1 (hts _ hw) rfl hK hP hD hS hc.2.2.2.2.2.2.1 (fun cA => rfl) (nI_pos (by omega)) (nI_clamp (by omega)) (by simp only [componentBytes]; omega) (by rw [hRm]; exact hroom.1) (by rw [hRm]; exact hroom.2) hd (fun q cA H1 hK1 hP1 hD1 hS1 => ?_)
  have e1 : (gS Γ).vm.findClass ("[" ++ (FieldType.toString .char)) = some cA := (hK1.2 5 _ rfl).2
  have e2 : (gS Γ).vm.findClass ("[" ++ (FieldType.toString .char)) = some (κ.2.1 2) := (hK.2 2 _ rfl).2
  obtain rfl : cA = κ.2.1 2 := Option.some.inj (e1.symm.trans e2)
  exact kk q H1 locs ls hP1 hD1 hS1 hl2
theorem n_newB {m i : Nat} (hc : Cx κ Γ A cc nL own nm ret Rm) (hw : Cond.classLink own i RX0 ∈ WL) (hm : m < 2 ^ 20) (hroom : cells + 1 ≤ Rm.cells ∧ slots + m ≤ Rm.slots) (h1 : cells + 1 = cells') (h2 : slots + m = slots') (hd : decode cc pc = .ok (.anewarray i, 3)) (hn : pc + 3 = n) (kk : ∀ q : Nat, G κ Γ A nL cells' slots' Q (ws ++ [(q, aB κ m (fun _ => none))]) n lv (.ref q :: st)) : G κ Γ A nL cells slots Q ws pc lv (.int (nI m) :: st) := by
  subst hn; subst h1; subst h2
  intro H locs ls hP hD hS hl2
  have hts := hc.2.2.2.2.1
  have hRm : gR Γ = Rm := hc.2.2.2.2.2.2.2.2.2.2.2.1
  have hK := hc.2.2.2.2.2.1
  refine va_newq (N' := m) hc.1 hc.2.1 hc.2.2.2.1 (hts _ hw) hc.2.2.2.2.2.2.2.2.1.2.2.1 hK hP hD hS hc.2.2.2.2.2.2.1 (nI_pos (by omega)) (nI_clamp (by omega)) (by omega) (by rw [hRm]; exact hroom.1) (by rw [hRm]; exact hroom.2) hd (fun q cA H1 hK1 hP1 hD1 hS1 => ?_)
  obtain ⟨_, _, _, _, _, e1⟩ := (hK1.2 5 _ rfl).2
  obtain ⟨_, _, _, _, _, e2⟩ := (hK.2 3 _ rfl).2
  obtain rfl : cA = κ.2.1 3 := Option.some.inj (e1.symm.trans e2)
  exact kk q H1 locs ls hP1 hD1 hS1 hl2
theorem n_newT {m i : Nat} (hc : Cx κ Γ A cc nL own nm ret Rm) (hw : Cond.classLink own i RX2 ∈ WL) (hm : m < 2 ^ 20) (hroom : cells + 1 ≤ Rm.cells ∧ slots + m ≤ Rm.slots) (h1 : cells + 1 = cells') (h2 : slots + m = slots') (hd : decode cc pc = .ok (.anewarray i, 3)) (hn : pc + 3 = n) (kk : ∀ q : Nat, G κ Γ A nL cells' slots' Q (ws ++ [(q, aT κ m (fun _ => none))]) n lv (.ref q :: st)) : G κ Γ A nL cells slots Q ws pc lv (.int (nI m) :: st) := by
  subst hn; subst h1; subst h2
  intro H locs ls hP hD hS hl2
  have hts := hc.2.2.2.2.1
  have hRm : gR Γ = Rm := hc.2.2.2.2.2.2.2.2.2.2.2.1
  have hK := hc.2.2.2.2.2.1
  refine va_newq (N' := m) hc.1 hc.2.1 hc.2.2.2.1 (hts _ hw) hc.2.2.2.2.2.2.2.2.1.2.2.2.1 hK hP hD hS hc.2.2.2.2.2.2.1 (nI_pos (by omega)) (nI_clamp (by omega)) (by omega) (by rw [hRm]; exact hroom.1) (by rw [hRm]; exact hroom.2) hd (fun q cA H1 hK1 hP1 hD1 hS1 => ?_)
  obtain ⟨_, _, _, _, _, e1⟩ := (hK1.2 5 _ rfl).2
  obtain ⟨_, _, _, _, _, e2⟩ := (hK.2 4 _ rfl).2
  obtain rfl : cA = κ.2.1 4 := Option.some.inj (e1.symm.trans e2)
  exact kk q H1 locs ls hP1 hD1 hS1 hl2
end GC
