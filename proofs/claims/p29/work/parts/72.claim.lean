/-! THE CLAIM OUT OF ONE WALK OF THE LAW'S BODY. Your part is whole_start (and what it stands on); all else here is the same for every law, but numbers. -/
def R_law : String := "SealedDealsLaw"
def lw_P (b : Addr) (xs : List Int32) (args : Array Value) (s : State) : Prop := args = #[.ref b] ∧ s.IntsAt b xs ∧ xs.length ≤ 260 ∧ (Jvm.Cond.and given_1 narrow_1).before args s = true
def lw_Q (_ : Array Value) (s : State) (o : Outcome) (t : State) : Prop := o = .returned (some (.int 1)) ∧ Framed s o t [] 600000 7302250
def lw_Z (below : List Frame) (a : Array Value) (s : State) : State → Prop := fun t => ∃ o, t.status = .running ∧ Ended t below o ∧ lw_Q a s o t
/-- the law's own end, with 1 on the stack, nothing written that was there before, its room as the claim has it -/
theorem lw_ret {p : Program} {l : Launch} {e : Env} {s : State} {m : MethodId} {below : List Frame} {meth : Method} {c : Code} {b : Nat} (hx : p.tables.exec = Jvm.exec) (hb : c.code = code) (hr : meth.sig.returnType = ret) (hlocks : meth.locks = false) {pc : Nat} {H : Heap} {ls : Array Slot} (hdg : decode code pc = .ok (.ireturn, 1)) : W p l e room_1 s m #[Value.ref b] below meth c H [] 600000 7302250 (lw_Z below #[Value.ref b] s) (F0 m pc ls [.int 1]) := by
  intro T hT X
  obtain ⟨fs, hret, hrun, hended, hW, hframe⟩ := X.leave (v := some (.int 1)) (hlocks := hlocks) (fun h => by rw [hr] at h; cases h)
  have hmeth' : T.vm.method? m = some meth := X.method'
  refine ⟨T.setFrames fs, ?_, .returned (some (.int 1)), hrun, hended, rfl, ⟨_, rfl⟩, hW, hframe⟩
  jvm_step X.here [X.here.top, hx, hb, hdg, hmeth', hr, ret, narrow_b1]
  (try refine ⟨rfl, ?_⟩); (try refine ⟨rfl, ?_⟩)
  first | (intro acts; rw [hret _ acts rfl rfl rfl]) | rw [hret _ _ rfl rfl rfl]
  exact Steps.refl _
/-- what holds at the law's entry: the machine, the code, the tables' words (any of lw_tbl by 'hts w (by decide +kernel)'), the script of L ints xs at the cell b, what the Statement gives of the start (any of its parts by flat_of_before) -/
def lw_At (p : Program) (s : State) (m : MethodId) (meth : Method) (c : Code) (b L : Nat) (xs : Nat → Int32) : Prop :=
  p.tables.exec = Jvm.exec ∧ c.code = code ∧ meth.sig.returnType = ret ∧ c.maxLocals = 16 ∧ s.vm.findClass R_law = some m.cls ∧ (∀ w ∈ lw_tbl, w.before #[Value.ref b] s = true) ∧ va_X b L xs s s.heap ∧ b < s.heap.size ∧ meth.locks = false ∧ (Jvm.Cond.and given_1 narrow_1).before #[Value.ref b] s = true
theorem inC_0 (κ : Kp) (a q : Nat → Nat) (qh : Nat → Nat → Nat) : InC κ a q zi 0 (fun _ => zi) 0 (fun _ => 0) false false (fun _ => zi) (wCx κ a q zi 0 0 (fun _ => 0) qh (fun _ _ => 0) false false 0 (fun _ => 0) (fun _ => 0) (fun _ => 0) (fun _ => 0) (fun _ => 0) (fun _ => 0) ++ hw κ qh (fun _ => zi)) := by
  refine ⟨qh, fun _ _ => 0, 0, fun _ => 0, fun _ => 0, fun _ => 0, fun _ => 0, fun _ => 0, fun _ => 0, ?_⟩
  rw [show sw κ (fun _ _ => 0) (fun _ => zi) false false = [] from rfl, List.append_nil]
theorem zi_g (k : Nat) (hk : k < 9) : va_up (va_up (va_up (va_up (fun _ => 0) 0 8) 1 3) 2 1) 4 4294967290 k = zi (324 + k) := by
  match k, hk with
  | 0, _ => rfl
  | 1, _ => rfl
  | 2, _ => rfl
  | 3, _ => rfl
  | 4, _ => rfl
  | 5, _ => rfl
  | 6, _ => rfl
  | 7, _ => rfl
  | 8, _ => rfl
theorem zi_0 {k : Nat} (h : 52 ≤ k) (h2 : k < 324) : zi k = 0 := by
  unfold zi
  (repeat' split) <;> first | rfl | (exfalso; omega)
theorem zi_t (k : Nat) (hk : k < 12) : 0 = tt zi k := by
  unfold tt
  rw [zi_0 (by omega) (by omega), zi_0 (by omega) (by omega), zi_0 (by omega) (by omega)]
  (repeat' split) <;> rfl
section LAW0
variable {κ : Kp} {Γ : Gm} {nm : String} {A : Nat → Prop} {cells slots : Nat} {Q : State → Prop} {a q : Nat → Nat} {w : va_W}
set_option maxHeartbeats 1000000 in
set_option maxRecDepth 100000 in
theorem l_begin (hc : Cx κ Γ A cL_law 16 RL nm ret room_1) (hw : Oc κ a q zi 0 w) (fin : ∀ (cells slots : Nat) (lv : List (Nat × Value)) (w : va_W), cells ≤ 600000 → slots ≤ 7302250 → G κ Γ A 16 cells slots Q w 551 lv [.int (nI 1)]) : G κ Γ A 16 100 5000 Q ([] ++ w) 7 [(0, .ref (κ.2.2 3))] [.ref (a 0)] := by
  refine g_astore_n (lv2 := [(0, .ref (κ.2.2 3)), (1, .ref (a 0))]) hc rfl (by decide) [1, 0] rfl rfl dL_law_7 (n := 8) rfl ?_
  refine g_bipush (v := nI 52) hc (by decide) dL_law_8 (n := 10) rfl ?_
  refine n_newI hc k_ac_int (by decide) ⟨by decide, by decide⟩ (cells' := 101) (slots' := 5052) rfl rfl dL_law_10 (n := 12) rfl (fun q_1 => ?_)
  refine g_re2 (w2 := ([(q_1, aI κ 52 (fun _ => 0))] ++ w)) (re_nw [] w (q_1, aI κ 52 (fun _ => 0))) ?_
  refine g_astore_n (lv2 := [(0, .ref (κ.2.2 3)), (1, .ref (a 0)), (2, .ref q_1)]) hc rfl (by decide) [1, 2, 0] rfl rfl dL_law_12 (n := 13) rfl ?_
  refine g_bipush (v := nI 52) hc (by decide) dL_law_13 (n := 15) rfl ?_
  refine n_newI hc k_ac_int (by decide) ⟨by decide, by decide⟩ (cells' := 102) (slots' := 5104) rfl rfl dL_law_15 (n := 17) rfl (fun q_2 => ?_)
  refine g_re2 (w2 := ([(q_1, aI κ 52 (fun _ => 0)), (q_2, aI κ 52 (fun _ => 0))] ++ w)) (re_nw [(q_1, aI κ 52 (fun _ => 0))] w (q_2, aI κ 52 (fun _ => 0))) ?_
  refine g_astore_n (lv2 := [(0, .ref (κ.2.2 3)), (1, .ref (a 0)), (2, .ref q_1), (3, .ref q_2)]) hc rfl (by decide) [1, 2, 3, 0] rfl rfl dL_law_17 (n := 18) rfl ?_
  refine g_bipush (v := nI 9) hc (by decide) dL_law_18 (n := 20) rfl ?_
  refine n_newI hc k_ac_int (by decide) ⟨by decide, by decide⟩ (cells' := 103) (slots' := 5113) rfl rfl dL_law_20 (n := 22) rfl (fun q_3 => ?_)
  refine g_re2 (w2 := ([(q_1, aI κ 52 (fun _ => 0)), (q_2, aI κ 52 (fun _ => 0)), (q_3, aI κ 9 (fun _ => 0))] ++ w)) (re_nw [(q_1, aI κ 52 (fun _ => 0)), (q_2, aI κ 52 (fun _ => 0))] w (q_3, aI κ 9 (fun _ => 0))) ?_
  refine g_astore (lv2 := [(0, .ref (κ.2.2 3)), (1, .ref (a 0)), (2, .ref q_1), (3, .ref q_2), (4, .ref q_3)]) hc (by decide) [1, 2, 3, 4, 0] rfl rfl dL_law_22 (n := 24) rfl ?_
  refine g_bipush (v := nI 12) hc (by decide) dL_law_24 (n := 26) rfl ?_
  refine n_newI hc k_ac_int (by decide) ⟨by decide, by decide⟩ (cells' := 104) (slots' := 5125) rfl rfl dL_law_26 (n := 28) rfl (fun q_4 => ?_)
  refine g_re2 (w2 := ([(q_1, aI κ 52 (fun _ => 0)), (q_2, aI κ 52 (fun _ => 0)), (q_3, aI κ 9 (fun _ => 0)), (q_4, aI κ 12 (fun _ => 0))] ++ w)) (re_nw [(q_1, aI κ 52 (fun _ => 0)), (q_2, aI κ 52 (fun _ => 0)), (q_3, aI κ 9 (fun _ => 0))] w (q_4, aI κ 12 (fun _ => 0))) ?_
  refine g_astore (lv2 := [(0, .ref (κ.2.2 3)), (1, .ref (a 0)), (2, .ref q_1), (3, .ref q_2), (4, .ref q_3), (5, .ref q_4)]) hc (by decide) [1, 2, 3, 4, 5, 0] rfl rfl dL_law_28 (n := 30) rfl ?_
  refine g_bipush (v := nI 52) hc (by decide) dL_law_30 (n := 32) rfl ?_
  refine n_newI hc k_ac_int (by decide) ⟨by decide, by decide⟩ (cells' := 105) (slots' := 5177) rfl rfl dL_law_32 (n := 34) rfl (fun q_5 => ?_)
  refine g_re2 (w2 := ([(q_1, aI κ 52 (fun _ => 0)), (q_2, aI κ 52 (fun _ => 0)), (q_3, aI κ 9 (fun _ => 0)), (q_4, aI κ 12 (fun _ => 0)), (q_5, aI κ 52 (fun _ => 0))] ++ w)) (re_nw [(q_1, aI κ 52 (fun _ => 0)), (q_2, aI κ 52 (fun _ => 0)), (q_3, aI κ 9 (fun _ => 0)), (q_4, aI κ 12 (fun _ => 0))] w (q_5, aI κ 52 (fun _ => 0))) ?_
  refine g_astore (lv2 := [(0, .ref (κ.2.2 3)), (1, .ref (a 0)), (2, .ref q_1), (3, .ref q_2), (4, .ref q_3), (5, .ref q_4), (6, .ref q_5)]) hc (by decide) [1, 2, 3, 4, 5, 6, 0] rfl rfl dL_law_34 (n := 36) rfl ?_
  refine g_bipush (v := nI 52) hc (by decide) dL_law_36 (n := 38) rfl ?_
  refine n_newI hc k_ac_int (by decide) ⟨by decide, by decide⟩ (cells' := 106) (slots' := 5229) rfl rfl dL_law_38 (n := 40) rfl (fun q_6 => ?_)
  refine g_re2 (w2 := ([(q_1, aI κ 52 (fun _ => 0)), (q_2, aI κ 52 (fun _ => 0)), (q_3, aI κ 9 (fun _ => 0)), (q_4, aI κ 12 (fun _ => 0)), (q_5, aI κ 52 (fun _ => 0)), (q_6, aI κ 52 (fun _ => 0))] ++ w)) (re_nw [(q_1, aI κ 52 (fun _ => 0)), (q_2, aI κ 52 (fun _ => 0)), (q_3, aI κ 9 (fun _ => 0)), (q_4, aI κ 12 (fun _ => 0)), (q_5, aI κ 52 (fun _ => 0))] w (q_6, aI κ 52 (fun _ => 0))) ?_
  refine g_astore (lv2 := [(0, .ref (κ.2.2 3)), (1, .ref (a 0)), (2, .ref q_1), (3, .ref q_2), (4, .ref q_3), (5, .ref q_4), (6, .ref q_5), (7, .ref q_6)]) hc (by decide) [1, 2, 3, 4, 5, 6, 7, 0] rfl rfl dL_law_40 (n := 42) rfl ?_
  refine g_bipush (v := nI 52) hc (by decide) dL_law_42 (n := 44) rfl ?_
  refine n_newI hc k_ac_int (by decide) ⟨by decide, by decide⟩ (cells' := 107) (slots' := 5281) rfl rfl dL_law_44 (n := 46) rfl (fun q_7 => ?_)
  refine g_re2 (w2 := ([(q_1, aI κ 52 (fun _ => 0)), (q_2, aI κ 52 (fun _ => 0)), (q_3, aI κ 9 (fun _ => 0)), (q_4, aI κ 12 (fun _ => 0)), (q_5, aI κ 52 (fun _ => 0)), (q_6, aI κ 52 (fun _ => 0)), (q_7, aI κ 52 (fun _ => 0))] ++ w)) (re_nw [(q_1, aI κ 52 (fun _ => 0)), (q_2, aI κ 52 (fun _ => 0)), (q_3, aI κ 9 (fun _ => 0)), (q_4, aI κ 12 (fun _ => 0)), (q_5, aI κ 52 (fun _ => 0)), (q_6, aI κ 52 (fun _ => 0))] w (q_7, aI κ 52 (fun _ => 0))) ?_
  refine g_astore (lv2 := [(0, .ref (κ.2.2 3)), (1, .ref (a 0)), (2, .ref q_1), (3, .ref q_2), (4, .ref q_3), (5, .ref q_4), (6, .ref q_5), (7, .ref q_6), (8, .ref q_7)]) hc (by decide) [1, 2, 3, 4, 5, 6, 7, 8, 0] rfl rfl dL_law_46 (n := 48) rfl ?_
  refine g_bipush (v := nI 52) hc (by decide) dL_law_48 (n := 50) rfl ?_
  refine n_newI hc k_ac_int (by decide) ⟨by decide, by decide⟩ (cells' := 108) (slots' := 5333) rfl rfl dL_law_50 (n := 52) rfl (fun q_8 => ?_)
  refine g_re2 (w2 := ([(q_1, aI κ 52 (fun _ => 0)), (q_2, aI κ 52 (fun _ => 0)), (q_3, aI κ 9 (fun _ => 0)), (q_4, aI κ 12 (fun _ => 0)), (q_5, aI κ 52 (fun _ => 0)), (q_6, aI κ 52 (fun _ => 0)), (q_7, aI κ 52 (fun _ => 0)), (q_8, aI κ 52 (fun _ => 0))] ++ w)) (re_nw [(q_1, aI κ 52 (fun _ => 0)), (q_2, aI κ 52 (fun _ => 0)), (q_3, aI κ 9 (fun _ => 0)), (q_4, aI κ 12 (fun _ => 0)), (q_5, aI κ 52 (fun _ => 0)), (q_6, aI κ 52 (fun _ => 0)), (q_7, aI κ 52 (fun _ => 0))] w (q_8, aI κ 52 (fun _ => 0))) ?_
  refine g_astore (lv2 := [(0, .ref (κ.2.2 3)), (1, .ref (a 0)), (2, .ref q_1), (3, .ref q_2), (4, .ref q_3), (5, .ref q_4), (6, .ref q_5), (7, .ref q_6), (8, .ref q_7), (9, .ref q_8)]) hc (by decide) [1, 2, 3, 4, 5, 6, 7, 8, 9, 0] rfl rfl dL_law_52 (n := 54) rfl ?_
  refine g_iconst (v := nI 0) hc (by decide) dL_law_54 (n := 55) rfl ?_
  refine g_istore (lv2 := [(0, .ref (κ.2.2 3)), (1, .ref (a 0)), (2, .ref q_1), (3, .ref q_2), (4, .ref q_3), (5, .ref q_4), (6, .ref q_5), (7, .ref q_6), (8, .ref q_7), (9, .ref q_8), (10, .int (nI 0))]) hc (by decide) [1, 2, 3, 4, 5, 6, 7, 8, 9, 10, 0] rfl rfl dL_law_55 (n := 57) rfl ?_
  have L_9 : ∀ (fuel : Nat) (k : Nat) (pp : Nat → Nat), (k ≤ 52) → (∀ j, j < k → pp j = j) → 52 - k < fuel → G κ Γ A 16 108 5333 Q ([(q_1, aI κ 52 pp), (q_2, aI κ 52 (fun _ => 0)), (q_3, aI κ 9 (fun _ => 0)), (q_4, aI κ 12 (fun _ => 0)), (q_5, aI κ 52 (fun _ => 0)), (q_6, aI κ 52 (fun _ => 0)), (q_7, aI κ 52 (fun _ => 0)), (q_8, aI κ 52 (fun _ => 0))] ++ w) 57 [(0, .ref (κ.2.2 3)), (1, .ref (a 0)), (2, .ref q_1), (3, .ref q_2), (4, .ref q_3), (5, .ref q_4), (6, .ref q_5), (7, .ref q_6), (8, .ref q_7), (9, .ref q_8), (10, .int (nI k))] [] := by
    intro fuel
    induction fuel with
    | zero => intro k pp hk hg h; exact absurd h (Nat.not_lt_zero _)
    | succ fuel ih_10 =>
      intro k pp hk hg hn_11
      refine g_iload hc 10 rfl dL_law_57 (n := 59) rfl ?_
      refine g_bipush (v := nI 52) hc (by decide) dL_law_59 (n := 61) rfl ?_
      refine n_icmp_ge hc (by omega) (by omega) dL_law_61 (tgt := 76) (by decide) (n := 64) rfl (fun c_12 => ?_) (fun c_12 => ?_)
      · skip
        refine g_aload hc 4 rfl dL_law_76 (n := 78) rfl ?_
        refine g_iconst (v := nI 0) hc (by decide) dL_law_78 (n := 79) rfl ?_
        refine g_bipush (v := nI 8) hc (by decide) dL_law_79 (n := 81) rfl ?_
        refine n_iast (ws' := ([(q_1, aI κ 52 pp), (q_2, aI κ 52 (fun _ => 0)), (q_3, aI κ 9 (va_up (fun _ => 0) 0 8)), (q_4, aI κ 12 (fun _ => 0)), (q_5, aI κ 52 (fun _ => 0)), (q_6, aI κ 52 (fun _ => 0)), (q_7, aI κ 52 (fun _ => 0)), (q_8, aI κ 52 (fun _ => 0))] ++ w)) hc 2 rfl (by omega) (by decide) rfl dL_law_81 (n := 82) rfl ?_
        refine g_aload hc 4 rfl dL_law_82 (n := 84) rfl ?_
        refine g_iconst (v := nI 1) hc (by decide) dL_law_84 (n := 85) rfl ?_
        refine g_iconst (v := nI 3) hc (by decide) dL_law_85 (n := 86) rfl ?_
        refine n_iast (ws' := ([(q_1, aI κ 52 pp), (q_2, aI κ 52 (fun _ => 0)), (q_3, aI κ 9 (va_up (va_up (fun _ => 0) 0 8) 1 3)), (q_4, aI κ 12 (fun _ => 0)), (q_5, aI κ 52 (fun _ => 0)), (q_6, aI κ 52 (fun _ => 0)), (q_7, aI κ 52 (fun _ => 0)), (q_8, aI κ 52 (fun _ => 0))] ++ w)) hc 2 rfl (by omega) (by decide) rfl dL_law_86 (n := 87) rfl ?_
        refine g_aload hc 4 rfl dL_law_87 (n := 89) rfl ?_
        refine g_iconst (v := nI 2) hc (by decide) dL_law_89 (n := 90) rfl ?_
        refine g_iconst (v := nI 1) hc (by decide) dL_law_90 (n := 91) rfl ?_
        refine n_iast (ws' := ([(q_1, aI κ 52 pp), (q_2, aI κ 52 (fun _ => 0)), (q_3, aI κ 9 (va_up (va_up (va_up (fun _ => 0) 0 8) 1 3) 2 1)), (q_4, aI κ 12 (fun _ => 0)), (q_5, aI κ 52 (fun _ => 0)), (q_6, aI κ 52 (fun _ => 0)), (q_7, aI κ 52 (fun _ => 0)), (q_8, aI κ 52 (fun _ => 0))] ++ w)) hc 2 rfl (by omega) (by decide) rfl dL_law_91 (n := 92) rfl ?_
        refine g_aload hc 4 rfl dL_law_92 (n := 94) rfl ?_
        refine g_iconst (v := nI 4) hc (by decide) dL_law_94 (n := 95) rfl ?_
        refine g_bipush (v := nI 4294967290) hc (by decide) dL_law_95 (n := 97) rfl ?_
        refine n_iast (ws' := ([(q_1, aI κ 52 pp), (q_2, aI κ 52 (fun _ => 0)), (q_3, aI κ 9 (va_up (va_up (va_up (va_up (fun _ => 0) 0 8) 1 3) 2 1) 4 4294967290)), (q_4, aI κ 12 (fun _ => 0)), (q_5, aI κ 52 (fun _ => 0)), (q_6, aI κ 52 (fun _ => 0)), (q_7, aI κ 52 (fun _ => 0)), (q_8, aI κ 52 (fun _ => 0))] ++ w)) hc 2 rfl (by omega) (by decide) rfl dL_law_97 (n := 98) rfl ?_
        refine g_arr (ws' := ([(q_1, aI κ 52 zi), (q_2, aI κ 52 (fun _ => 0)), (q_3, aI κ 9 (va_up (va_up (va_up (va_up (fun _ => 0) 0 8) 1 3) 2 1) 4 4294967290)), (q_4, aI κ 12 (fun _ => 0)), (q_5, aI κ 52 (fun _ => 0)), (q_6, aI κ 52 (fun _ => 0)), (q_7, aI κ 52 (fun _ => 0)), (q_8, aI κ 52 (fun _ => 0))] ++ w)) (f := pp) (g := zi) 0 rfl (fun j hj => (hg j (by omega)).trans (if_pos hj).symm) rfl ?_
        refine g_arr (ws' := ([(q_1, aI κ 52 zi), (q_2, aI κ 52 (fun k => zi (52 + k))), (q_3, aI κ 9 (va_up (va_up (va_up (va_up (fun _ => 0) 0 8) 1 3) 2 1) 4 4294967290)), (q_4, aI κ 12 (fun _ => 0)), (q_5, aI κ 52 (fun _ => 0)), (q_6, aI κ 52 (fun _ => 0)), (q_7, aI κ 52 (fun _ => 0)), (q_8, aI κ 52 (fun _ => 0))] ++ w)) (f := fun _ => 0) (g := fun k => zi (52 + k)) 1 rfl (fun k hk => (zi_0 (by omega) (by omega)).symm) rfl ?_
        refine g_arr (ws' := ([(q_1, aI κ 52 zi), (q_2, aI κ 52 (fun k => zi (52 + k))), (q_3, aI κ 9 (fun k => zi (324 + k))), (q_4, aI κ 12 (fun _ => 0)), (q_5, aI κ 52 (fun _ => 0)), (q_6, aI κ 52 (fun _ => 0)), (q_7, aI κ 52 (fun _ => 0)), (q_8, aI κ 52 (fun _ => 0))] ++ w)) (f := va_up (va_up (va_up (va_up (fun _ => 0) 0 8) 1 3) 2 1) 4 4294967290) (g := fun k => zi (324 + k)) 2 rfl (fun k hk => zi_g k hk) rfl ?_
        refine g_arr (ws' := ([(q_1, aI κ 52 zi), (q_2, aI κ 52 (fun k => zi (52 + k))), (q_3, aI κ 9 (fun k => zi (324 + k))), (q_4, aI κ 12 (tt zi)), (q_5, aI κ 52 (fun _ => 0)), (q_6, aI κ 52 (fun _ => 0)), (q_7, aI κ 52 (fun _ => 0)), (q_8, aI κ 52 (fun _ => 0))] ++ w)) (f := fun _ => 0) (g := tt zi) 3 rfl (fun k hk => zi_t k hk) rfl ?_
        refine g_arr (ws' := ([(q_1, aI κ 52 zi), (q_2, aI κ 52 (fun k => zi (52 + k))), (q_3, aI κ 9 (fun k => zi (324 + k))), (q_4, aI κ 12 (tt zi)), (q_5, aI κ 52 (hd zi 0)), (q_6, aI κ 52 (fun _ => 0)), (q_7, aI κ 52 (fun _ => 0)), (q_8, aI κ 52 (fun _ => 0))] ++ w)) (f := fun _ => 0) (g := hd zi 0) 4 rfl (fun k hk => (zi_0 (show 52 ≤ 104 + 52 * 0 + k by omega) (show 104 + 52 * 0 + k < 324 by omega)).symm) rfl ?_
        refine g_arr (ws' := ([(q_1, aI κ 52 zi), (q_2, aI κ 52 (fun k => zi (52 + k))), (q_3, aI κ 9 (fun k => zi (324 + k))), (q_4, aI κ 12 (tt zi)), (q_5, aI κ 52 (hd zi 0)), (q_6, aI κ 52 (hd zi 1)), (q_7, aI κ 52 (fun _ => 0)), (q_8, aI κ 52 (fun _ => 0))] ++ w)) (f := fun _ => 0) (g := hd zi 1) 5 rfl (fun k hk => (zi_0 (show 52 ≤ 104 + 52 * 1 + k by omega) (show 104 + 52 * 1 + k < 324 by omega)).symm) rfl ?_
        refine g_arr (ws' := ([(q_1, aI κ 52 zi), (q_2, aI κ 52 (fun k => zi (52 + k))), (q_3, aI κ 9 (fun k => zi (324 + k))), (q_4, aI κ 12 (tt zi)), (q_5, aI κ 52 (hd zi 0)), (q_6, aI κ 52 (hd zi 1)), (q_7, aI κ 52 (hd zi 2)), (q_8, aI κ 52 (fun _ => 0))] ++ w)) (f := fun _ => 0) (g := hd zi 2) 6 rfl (fun k hk => (zi_0 (show 52 ≤ 104 + 52 * 2 + k by omega) (show 104 + 52 * 2 + k < 324 by omega)).symm) rfl ?_
        refine g_arr (ws' := ([(q_1, aI κ 52 zi), (q_2, aI κ 52 (fun k => zi (52 + k))), (q_3, aI κ 9 (fun k => zi (324 + k))), (q_4, aI κ 12 (tt zi)), (q_5, aI κ 52 (hd zi 0)), (q_6, aI κ 52 (hd zi 1)), (q_7, aI κ 52 (hd zi 2)), (q_8, aI κ 52 (hd zi 3))] ++ w)) (f := fun _ => 0) (g := hd zi 3) 7 rfl (fun k hk => (zi_0 (show 52 ≤ 104 + 52 * 3 + k by omega) (show 104 + 52 * 3 + k < 324 by omega)).symm) rfl ?_
        obtain ⟨e, he⟩ : ∃ e : Nat → Nat, e = (fun k => ([q_1, q_2, q_3, q_4, q_5, q_6, q_7, q_8] : List Nat).getD k 0) := ⟨_, rfl⟩
        have he0 : q_1 = e 0 := by rw [he]; first | done | rfl
        have he1 : q_2 = e 1 := by rw [he]; first | done | rfl
        have he2 : q_3 = e 2 := by rw [he]; first | done | rfl
        have he3 : q_4 = e 3 := by rw [he]; first | done | rfl
        have he4 : q_5 = e 4 := by rw [he]; first | done | rfl
        have he5 : q_6 = e 5 := by rw [he]; first | done | rfl
        have he6 : q_7 = e 6 := by rw [he]; first | done | rfl
        have he7 : q_8 = e 7 := by rw [he]; first | done | rfl
        clear he
        subst he0 he1 he2 he3 he4 he5 he6 he7
        refine g_aload_n hc 1 rfl rfl dL_law_98 (n := 99) rfl ?_
        refine g_aload_n hc 2 rfl rfl dL_law_99 (n := 100) rfl ?_
        refine g_aload_n hc 3 rfl rfl dL_law_100 (n := 101) rfl ?_
        refine g_aload hc 4 rfl dL_law_101 (n := 103) rfl ?_
        refine g_aload hc 5 rfl dL_law_103 (n := 105) rfl ?_
        refine g_callS (rest := []) (As := [.ref (a 0), .ref (e 0), .ref (e 1), .ref (e 2), .ref (e 3)]) (cells' := 108) (slots' := 5333) hc (c_L_isSo κ _ a q zi 0 w (e 0) (e 1) (e 2) (e 3) hw) q_L_isSo k_ml_RL_111 rfl rfl (jn_p (wr := [(e 4, aI κ 52 (hd zi 0)), (e 5, aI κ 52 (hd zi 1)), (e 6, aI κ 52 (hd zi 2)), (e 7, aI κ 52 (hd zi 3))]) [0, 1, 2, 3] [4, 5, 6, 7] rfl rfl rfl rfl (by decide)) ⟨⟨by decide, by decide⟩, (by decide), (by decide)⟩ (Nat.le_of_ble_eq_true rfl) rfl rfl dL_law_105 (n := 108) rfl (fun vv ww hp => ?_)
        obtain ⟨rr, rfl, w2_13, hw2_14, rfl, rfl⟩ := hp
        refine ⟨_, ⟨_, _, rfl, rfl⟩, ?_⟩
        refine g_ws (ws' := ([(e 4, aI κ 52 (hd zi 0)), (e 5, aI κ 52 (hd zi 1)), (e 6, aI κ 52 (hd zi 2)), (e 7, aI κ 52 (hd zi 3)), (e 0, aI κ 52 zi), (e 1, aI κ 52 (fun k => zi (52 + k))), (e 2, aI κ 9 (fun k => zi (324 + k))), (e 3, aI κ 12 (tt zi))] ++ w2_13)) rfl ?_
        refine g_st (st' := [.int (nI 1)]) rfl ?_
        refine n_if_eq hc (by omega) dL_law_108 (tgt := 154) (by decide) (n := 111) rfl (fun c_15 => by (exfalso; revert c_15; first | omega | decide)) (fun c_15 => ?_)
        refine g_aload_n hc 1 rfl rfl dL_law_111 (n := 112) rfl ?_
        refine g_iconst (v := nI 2) hc (by decide) dL_law_112 (n := 113) rfl ?_
        refine g_aload hc 5 rfl dL_law_113 (n := 115) rfl ?_
        refine g_aload hc 8 rfl dL_law_115 (n := 117) rfl ?_
        refine g_callS (rest := []) (As := [.ref (a 0), .int (nI 2), .ref (e 3), .ref (e 6)]) (cells' := 108) (slots' := 5333) hc (c_L_isBoard κ _ a q zi 0 w2_13 (e 3) (e 6) 2 hw2_14 (by decide)) q_L_isBoard k_ml_RL_115 rfl rfl (jn_p (wr := [(e 4, aI κ 52 (hd zi 0)), (e 5, aI κ 52 (hd zi 1)), (e 7, aI κ 52 (hd zi 3)), (e 0, aI κ 52 zi), (e 1, aI κ 52 (fun k => zi (52 + k))), (e 2, aI κ 9 (fun k => zi (324 + k)))]) [7, 2] [0, 1, 3, 4, 5, 6] rfl rfl rfl rfl (by decide)) ⟨⟨by decide, by decide⟩, (by decide), (by decide)⟩ (Nat.le_of_ble_eq_true rfl) rfl rfl dL_law_117 (n := 120) rfl (fun vv ww hp => ?_)
        obtain ⟨rr, rfl, w2_16, hw2_17, rfl, rfl⟩ := hp
        refine ⟨_, ⟨_, _, rfl, rfl⟩, ?_⟩
        refine g_ws (ws' := ([(e 4, aI κ 52 (hd zi 0)), (e 5, aI κ 52 (hd zi 1)), (e 7, aI κ 52 (hd zi 3)), (e 0, aI κ 52 zi), (e 1, aI κ 52 (fun k => zi (52 + k))), (e 2, aI κ 9 (fun k => zi (324 + k))), (e 3, aI κ 12 (tt zi)), (e 6, aI κ 52 (hd zi 2))] ++ w2_16)) rfl ?_
        refine g_st (st' := [.int (nI 1)]) rfl ?_
        refine n_if_eq hc (by omega) dL_law_120 (tgt := 154) (by decide) (n := 123) rfl (fun c_18 => by (exfalso; revert c_18; first | omega | decide)) (fun c_18 => ?_)
        refine g_aload_n hc 1 rfl rfl dL_law_123 (n := 124) rfl ?_
        refine g_iconst (v := nI 2) hc (by decide) dL_law_124 (n := 125) rfl ?_
        refine g_aload_n hc 2 rfl rfl dL_law_125 (n := 126) rfl ?_
        refine g_aload_n hc 3 rfl rfl dL_law_126 (n := 127) rfl ?_
        refine g_aload hc 4 rfl dL_law_127 (n := 129) rfl ?_
        refine g_callS (rest := []) (As := [.ref (a 0), .int (nI 2), .ref (e 0), .ref (e 1), .ref (e 2)]) (cells' := 111) (slots' := 5446) hc (c_L_isAhead κ _ a q zi 0 w2_16 (e 0) (e 1) (e 2) (nI 2) hw2_17) q_L_isAhead k_ml_RL_119 rfl rfl (jn_p (wr := [(e 4, aI κ 52 (hd zi 0)), (e 5, aI κ 52 (hd zi 1)), (e 7, aI κ 52 (hd zi 3)), (e 3, aI κ 12 (tt zi)), (e 6, aI κ 52 (hd zi 2))]) [3, 4, 5] [0, 1, 2, 6, 7] rfl rfl rfl rfl (by decide)) ⟨⟨by decide, by decide⟩, (by decide), (by decide)⟩ (Nat.le_of_ble_eq_true rfl) rfl rfl dL_law_129 (n := 132) rfl (fun vv ww hp => ?_)
        obtain ⟨rr, rfl, w2_19, hw2_20, rfl, rfl⟩ := hp
        refine ⟨_, ⟨_, _, rfl, rfl⟩, ?_⟩
        refine g_ws (ws' := ([(e 4, aI κ 52 (hd zi 0)), (e 5, aI κ 52 (hd zi 1)), (e 7, aI κ 52 (hd zi 3)), (e 3, aI κ 12 (tt zi)), (e 6, aI κ 52 (hd zi 2)), (e 0, aI κ 52 zi), (e 1, aI κ 52 (fun k => zi (52 + k))), (e 2, aI κ 9 (fun k => zi (324 + k)))] ++ w2_19)) rfl ?_
        refine g_st (st' := [.int (nI 1)]) rfl ?_
        refine n_if_eq hc (by omega) dL_law_132 (tgt := 154) (by decide) (n := 135) rfl (fun c_21 => by (exfalso; revert c_21; first | omega | decide)) (fun c_21 => ?_)
        refine g_aload_n hc 1 rfl rfl dL_law_135 (n := 136) rfl ?_
        refine g_cls (As := []) (rest := []) hc (s_undo0 hw2_20  ) q_X4_undo k_ml_RL_123 rfl rfl (Oc.rc hw2_20) vw_4 ⟨⟨Nat.le_of_ble_eq_true rfl, Nat.le_of_ble_eq_true rfl⟩, Nat.le_of_ble_eq_true rfl, Nat.le_of_ble_eq_true rfl⟩ (Nat.le_of_ble_eq_true rfl) dL_law_136 (n := 139) rfl (fun w_22 hw_23 => ?_)
        refine g_bipush (v := nI 4294967291) hc (by decide) dL_law_139 (n := 141) rfl ?_
        refine g_icmp_ne hc dL_law_141 (tgt := 154) (by decide) (n := 144) rfl (fun e => absurd rfl e) (fun _ => ?_)
        refine g_aload_n hc 1 rfl rfl dL_law_144 (n := 145) rfl ?_
        refine g_iconst (v := nI 0) hc (by decide) dL_law_145 (n := 146) rfl ?_
        refine g_cls (As := [.int (nI 0)]) (rest := []) hc (s_restore0 hw_23  ) q_X4_restore k_ml_RL_126 rfl rfl (Oc.rc hw_23) vw_4 ⟨⟨Nat.le_of_ble_eq_true rfl, Nat.le_of_ble_eq_true rfl⟩, Nat.le_of_ble_eq_true rfl, Nat.le_of_ble_eq_true rfl⟩ (Nat.le_of_ble_eq_true rfl) dL_law_146 (n := 149) rfl (fun w_24 hw_25 => ?_)
        refine g_bipush (v := nI 4294967291) hc (by decide) dL_law_149 (n := 151) rfl ?_
        refine g_icmp_eq hc dL_law_151 (tgt := 156) (by decide) (n := 154) rfl (fun _ => ?_) (fun e => absurd rfl e)
        refine g_iconst (v := nI 0) hc (by decide) dL_law_156 (n := 157) rfl ?_
        refine g_istore (lv2 := [(0, .ref (κ.2.2 3)), (1, .ref (a 0)), (2, .ref (e 0)), (3, .ref (e 1)), (4, .ref (e 2)), (5, .ref (e 3)), (6, .ref (e 4)), (7, .ref (e 5)), (8, .ref (e 6)), (9, .ref (e 7)), (10, .int (nI 0))]) hc (by decide) [1, 2, 3, 4, 5, 6, 7, 8, 9, 10, 0] rfl rfl dL_law_157 (n := 159) rfl ?_
        refine g_subq (X' := [(e 0, aI κ 52 zi), (e 1, aI κ 52 (fun k => zi (52 + k))), (e 2, aI κ 9 (fun k => zi (324 + k))), (e 3, aI κ 12 (tt zi)), (e 4, aI κ 52 (hd zi 0)), (e 5, aI κ 52 (hd zi 1)), (e 6, aI κ 52 (hd zi 2)), (e 7, aI κ 52 (hd zi 3))]) [5, 6, 7, 3, 0, 1, 4, 2] rfl rfl ?_
        refine g_wide (k := 500 + 20 * 0) (m := 9000 + 1000 * 0) (by decide) (by decide) ?_
        exact l_loop (e := e) hc (by decide) (by decide) fin 51 0 (by decide) (by decide) zi 0 w_24 hw_25
      · skip
        refine g_aload_n hc 2 rfl rfl dL_law_64 (n := 65) rfl ?_
        refine g_iload hc 10 rfl dL_law_65 (n := 67) rfl ?_
        refine g_iload hc 10 rfl dL_law_67 (n := 69) rfl ?_
        refine n_iast (ws' := ([(q_1, aI κ 52 (va_up pp k k)), (q_2, aI κ 52 (fun _ => 0)), (q_3, aI κ 9 (fun _ => 0)), (q_4, aI κ 12 (fun _ => 0)), (q_5, aI κ 52 (fun _ => 0)), (q_6, aI κ 52 (fun _ => 0)), (q_7, aI κ 52 (fun _ => 0)), (q_8, aI κ 52 (fun _ => 0))] ++ w)) hc 0 rfl (by omega) (by decide) rfl dL_law_69 (n := 70) rfl ?_
        refine n_iinc (v := k + 1) (zk := 1) (lv2 := [(0, .ref (κ.2.2 3)), (1, .ref (a 0)), (2, .ref q_1), (3, .ref q_2), (4, .ref q_3), (5, .ref q_4), (6, .ref q_5), (7, .ref q_6), (8, .ref q_7), (9, .ref q_8), (10, .int (nI (k + 1)))]) hc 10 rfl (by decide) rfl (by decide) [1, 2, 3, 4, 5, 6, 7, 8, 9, 10, 0] rfl rfl dL_law_70 (n := 73) rfl ?_
        refine g_goto (n := 57) hc dL_law_73 (by decide) ?_
        exact ih_10 (k + 1) (va_up pp k k) (by omega) (fun j hj => (Nat.lt_succ_iff_lt_or_eq.mp hj).elim (fun q => (va_up_ne _ _ (by omega)).trans (hg j q)) (fun q => by subst q; exact va_up_self _ _ _)) (by omega)
  exact L_9 _ 0 (fun _ => 0) (by omega) (fun j hj => absurd hj (Nat.not_lt_zero _)) (Nat.lt_succ_self _)
end LAW0
set_option maxHeartbeats 4000000 in
set_option maxRecDepth 100000 in
theorem whole_start {p : Program} {e : Env} {s : State} {m : MethodId} {below : List Frame} {meth : Method} {c : Code} (l : Launch) (hflags : l.flags = flags0) {b L : Nat} {xs : Nat → Int32} (hL : L ≤ 260) (C0 : lw_At p s m meth c b L xs) : W p l e room_1 s m #[Value.ref b] below meth c s.heap [] 0 0 (lw_Z below #[Value.ref b] s) (entryFrame m ([Value.ref b] : List Value).toArray 16) := by
  obtain ⟨hx, hb, hr, hml, hown, hts, hX, hbl, hlocks, hgv⟩ := id C0
  obtain ⟨κ, hK, hE, hR, rfl⟩ := env_of hX hbl hL hts hgv
  have hc : Cx κ (p, l, e, room_1, s, m, #[Value.ref (κ.2.2 3)], below, meth, c) (fun q : Nat => s.heap.size ≤ q) cL_law 16 RL meth.name ret room_1 := ⟨hx, hb, hml, hown, hW_of hts, hK, fun _ h => h, hE, hR, hlocks, hr, rfl, rfl⟩
  have hS : va_S (fun q : Nat => s.heap.size ≤ q) s.heap s.heap [] := va_S.rf
  have hP : va_P κ.1 vwCl [] s.heap := fun k q h => by simp at h
  have hD : va_D (fun q : Nat => s.heap.size ≤ q) [] := ⟨fun i j p q h => by simp at h, fun k q h => by simp at h⟩
  have hl := lv_entry ([.ref (κ.2.2 3)]) (n := 16) (Nat.le_of_ble_eq_true rfl)
  rw [lg_entry_eq]
  generalize (lg_sl ([.ref (κ.2.2 3)]) ++ List.replicate (16 - (lg_sl ([.ref (κ.2.2 3)])).length) Slot.unset).toArray = ls at hl ⊢
  have hl : lv_has ls 16 [(0, .ref (κ.2.2 3))] := hl
  have hg : G κ (p, l, e, room_1, s, m, #[Value.ref (κ.2.2 3)], below, meth, c) (fun q : Nat => s.heap.size ≤ q) 16 0 0 (lw_Z below #[Value.ref (κ.2.2 3)] s) [] 0 [(0, .ref (κ.2.2 3))] [] := by
    refine g_new (fs := [.null, .null, .null, .null, .int (nI 0), .null, .null]) hc vw_4 inX4 tyX4_ok k_cl_RL_34 k_is_RX4 k_in_RX4 (df_X4) ⟨by decide, by decide⟩ (cells' := 1) (slots' := 7) rfl rfl dL_law_0 (n := 3) rfl (fun d0 => ?_)
    refine g_ws (ws' := [(d0, .inr (4, [.null, .null, .null, .null, .int (nI 0), .null, .null]))]) rfl ?_
    refine g_dup hc rfl dL_law_3 (n := 4) rfl ?_
    refine g_callI (rest := [.ref d0]) (As := []) (cells' := 77) (slots' := 2118) hc (c_X4_init κ _ d0) q_X4_init k_ml_RL_110 rfl rfl (jn_ix (wr := []) [0] [] rfl rfl rfl rfl (by decide)) ⟨⟨by decide, by decide⟩, by decide, by decide⟩ (Nat.le_of_ble_eq_true rfl) rfl rfl dL_law_4 (n := 7) rfl (fun vv ww hp => ?_)
    obtain ⟨rfl, a, q, qh, ha0, rfl⟩ := hp
    subst ha0
    refine ⟨_, rfl, ?_⟩
    refine g_ws (ws' := [] ++ (wCx κ a q zi 0 0 (fun _ => 0) qh (fun _ _ => 0) false false 0 (fun _ => 0) (fun _ => 0) (fun _ => 0) (fun _ => 0) (fun _ => 0) (fun _ => 0) ++ hw κ qh (fun _ => zi))) rfl ?_
    have hO : Oc κ a q zi 0 (wCx κ a q zi 0 0 (fun _ => 0) qh (fun _ _ => 0) false false 0 (fun _ => 0) (fun _ => 0) (fun _ => 0) (fun _ => 0) (fun _ => 0) (fun _ => 0) ++ hw κ qh (fun _ => zi)) := ⟨fun _ => zi, 0, fun _ => 0, fun _ => zi, zv_zi, by decide, fun k hk => absurd hk (Nat.not_lt_zero k), inC_0 κ a q qh⟩
    generalize wCx κ a q zi 0 0 (fun _ => 0) qh (fun _ _ => 0) false false 0 (fun _ => 0) (fun _ => 0) (fun _ => 0) (fun _ => 0) (fun _ => 0) (fun _ => 0) ++ hw κ qh (fun _ => zi) = w at hO ⊢
    refine g_st (st' := [.ref (a 0)]) rfl ?_
    refine g_wide (k := 100) (m := 5000) (by decide) (by decide) ?_
    refine l_begin hc hO (fun cells slots lv w h1 h2 => ?_)
    intro H locs ls hP hD hS hl
    refine va_forget hS.2.2 ?_
    refine W.widen h1 h2 ?_
    exact lw_ret hx hb hr hlocks dL_law_551
  exact hg s.heap [] ls hP hD hS hl
set_option maxHeartbeats 4000000 in
theorem lw_walk (l : Launch) (hflags : l.flags = flags0) (b : Addr) (xs : List Int32) : MetFree l x (headSpec (Jvm.Cond.code x code maxLocals ret :: tables_1) room_1) (lw_P b xs) (fun _ _ _ _ _ => True) lw_Q := by
  refine MetFree.of_bodyS (code := code) (maxLocals := maxLocals) (ret := ret) (by decide) ?_ ?_
  · intro args s m h hn
    obtain ⟨meth, c, h1, h2, h3, h4, h5, h6, -, -⟩ := Cond.code_spec hn (atoms_spec (ws := Jvm.Cond.code x code maxLocals ret :: tables_1) h _ List.mem_cons_self)
    exact ⟨meth, c, h1, h2, h3, h4, h5, h6⟩
  · intro p e s m args below meth c s₁ B hml0 hP _
    obtain ⟨rfl, hx, hbd, hgv⟩ := hP
    obtain ⟨scr, harrAt, hlist, hof, hsmall⟩ := hx
    obtain ⟨hcb, hkn, -, -⟩ := State.arrayAt?_spec harrAt
    have hown : s.vm.findClass R_law = some m.cls := findClass_of_methodNamed B.named
    have hts0 : ∀ c ∈ (Jvm.Cond.code x code maxLocals ret :: tables_1), c.before #[Value.ref b] s = true := atoms_spec (ws := Jvm.Cond.code x code maxLocals ret :: tables_1) B.pre
    have hts : ∀ w ∈ lw_tbl, w.before #[Value.ref b] s = true := k2_hts_sels lw_privs (fun w hw => hts0 w (List.mem_cons_of_mem _ hw)) lw_privs_ok
    have hml : c.maxLocals = 16 := B.maxLocals_eq (hts0 _ List.mem_cons_self)
    have X₀ : Stand p l e room_1 s m #[Value.ref b] below meth c s₁ [] 0 0 := Stand.of_body B
    have hh0 : s₁.heap = s.heap := by rw [B.state]; rfl
    have hsz : scr.slots.size = xs.length := by rw [← Array.length_toList, hlist, List.length_map]
    have hval : ∀ j : Nat, j < xs.length → scr.slots[j]? = some (.int (xs.getD j 0)) := fun j hj => by
      rw [← Array.getElem?_toList, hlist]
      simp [hj]
    have hbl : b < s.heap.size := (Array.getElem?_eq_some_iff.mp hcb).1
    have hX : va_X b xs.length (fun j => xs.getD j 0) s s.heap := ⟨scr, hcb, hof, hkn, hsz, hval⟩
    have K : W p l e room_1 s m #[Value.ref b] below meth c s₁.heap [] 0 0 (lw_Z below #[Value.ref b] s) (entryFrame m ([Value.ref b] : List Value).toArray 16) := by
      rw [hh0]
      exact whole_start l hflags hbd ⟨B.exec, B.bytes, B.returns, hml, hown, hts, hX, hbl, B.notSynchronized, hgv⟩
    obtain ⟨t, a1, o, b1, b2, b3⟩ := K s₁ rfl X₀
    exact ⟨t, o, a1, b1, b2, b3⟩
theorem lw_pre_spec {args : Array Value} {s : State} (h : (Jvm.Cond.and given_1 narrow_1).before args s = true) (hr : rest_1_c.before args s = true) : ∃ (b : Addr) (xs : List Int32), lw_P b xs args s := by
  have hs := flat_of_before _ h
  have hq := flat_of_before _ hr
  have hc : (Cond.count 1).before args s = true := hs _ (by decide +kernel)
  have harr : (Cond.arrayOf (.arg 0) .int).before args s = true := hs _ (by decide +kernel)
  have hle : (Cond.le (.length (.arg 0)) (.int 260)).before args s = true := hs _ (by decide +kernel)
  have hlen : (Cond.isInt (.length (.arg 0))).before args s = true := hq _ (by decide +kernel)
  have hall : (Cond.all (.arg 0) (.isInt (.elem (.arg 0) (.index 0)))).before args s = true := hq _ (by decide +kernel)
  obtain ⟨b, xs, hb, hx⟩ := State.ints_of_pre rfl harr hlen hall
  have hsm : xs.length < 2 ^ 31 := hx.choose_spec.2.2.2
  have hev : (Term.length (.arg 0)).eval args s none [] s = some (.int xs.length.toInt32) := hx.length_eval hb
  have hv := Cond.le_ints hev (show (Term.int 260).eval args s none [] s = some (.int 260) from rfl)
  have hd : xs.length.toInt32 ≤ 260 := by
    simpa [Cond.before, Cond.holds, hv] using hle
  have hN : xs.length ≤ 260 := (Int32.ofNat_le_ofNat hsm (by decide)).mp (show Int32.ofNat xs.length ≤ Int32.ofNat 260 from hd)
  exact ⟨b, xs, Cond.one_arg hc (show args[0]? = some (.ref b) from hb), hx, hN, h⟩
theorem lw_comes (l : Launch) (hflags : l.flags = flags0) : Comes l x (Jvm.Cond.code x code maxLocals ret :: tables_1) room_1 (fun tb e args s => Calls_1 tb e args s ∧ rest_1 tb e args s ∧ Pre_1 tb e args s)
    (fun _ _ args s o t => lw_Q args s o t) := by
  intro p e ha hc hk s m args below hf hfit hheap happ hpre
  obtain ⟨b, xs, hP⟩ := lw_pre_spec hpre.2.2 hpre.2.1
  obtain ⟨k, o, h1, h2, h3, hQ⟩ := lw_walk l hflags b xs p e ha hc hk s m args below hf ((Spec.applies_iff_loose hf).mp happ).1 hP trivial
  exact ⟨k, o, h1, h2, h3, hQ⟩
theorem lw_frame {s t : State} {o : Outcome} {args : Array Value} (h : Framed s o t [] 600000 7302250) :
    Framed s o t (fieldLocs frame_1_writes args s ++ arrayLocs frame_1_arrays args s ++ staticLocs frame_1_statics s) 600000 7302250 := h
theorem lw_limb (L : Cond) (hL : ∀ (args : Array Value) (s t : State), L.after args s (.returned (some (.int 1))) t = true) :
    ArmFor flags0 classFile x code maxLocals ret World_1 tables_1 room_1 Calls_1 rest_1 Pre_1
      (fun tb e a s o t => postC L tb e a s o t ∧ Framed s o t (fieldLocs frame_1_writes a s ++ arrayLocs frame_1_arrays a s ++ staticLocs frame_1_statics s) 600000 7302250) := by
  intro l hflags _ _ p e ha hc hk s m args below hf hfit hheap happ hpre
  obtain ⟨k, o, h1, h2, h3, rfl, hF⟩ := lw_comes l hflags p e ha hc hk s m args below hf hfit hheap happ hpre
  exact ⟨k, _, h1, h2, h3, hL args s _, lw_frame hF⟩
theorem i_vc : Claimed_1_1 ∧ Claimed_1_2 := ⟨lw_limb limb_1_1 (fun args s t => by simp [limb_1_1, Cond.after, Cond.holds, Cond.value]), lw_limb limb_1_2 (fun args s t => Cond.after_iff.mpr (by
  first | (rw [show limb_1_2 = Cond.eq .result (.int 1) from rfl, Cond.eq_ints (x := 1) (y := 1) rfl rfl]; simp; done) | (simp [limb_1_2, Cond.value, Term.eval]; done)))⟩
