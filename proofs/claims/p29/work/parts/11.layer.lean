section GB
variable {κ : Kp} {Γ : Gm} {A : Nat → Prop} {nL cells slots : Nat} {Q : State → Prop} {ws ws' : va_W} {pc n : Nat} {lv : List (Nat × Value)} {st : List Value} {cc : ByteArray} {own nm : String} {ret : Option FieldType} {Rm : Room}
theorem g_if_eq {x : Int32} {off : Int} {tgt : Nat} (hc : Cx κ Γ A cc nL own nm ret Rm) (hd : decode cc pc = .ok (.ifCond .eq off, 3)) (ht : (pc : Int) + off = (tgt : Int)) (hn : pc + 3 = n) (kt : x = 0 → G κ Γ A nL cells slots Q ws tgt lv st) (kf : ¬ x = 0 → G κ Γ A nL cells slots Q ws n lv st) : G κ Γ A nL cells slots Q ws pc lv (.int x :: st) := by
  subst hn
  intro H locs ls hP hD hS hl
  exact lv_if_eq hc.1 hc.2.1 hd ht (fun q => kt q H locs ls hP hD hS hl) (fun q => kf q H locs ls hP hD hS hl)
theorem g_icmp_eq {x y : Int32} {off : Int} {tgt : Nat} (hc : Cx κ Γ A cc nL own nm ret Rm) (hd : decode cc pc = .ok (.if_icmp .eq off, 3)) (ht : (pc : Int) + off = (tgt : Int)) (hn : pc + 3 = n) (kt : x = y → G κ Γ A nL cells slots Q ws tgt lv st) (kf : ¬ x = y → G κ Γ A nL cells slots Q ws n lv st) : G κ Γ A nL cells slots Q ws pc lv (.int y :: .int x :: st) := by
  subst hn
  intro H locs ls hP hD hS hl
  exact lv_icmp_eq hc.1 hc.2.1 hd ht (fun q => kt q H locs ls hP hD hS hl) (fun q => kf q H locs ls hP hD hS hl)
theorem g_if_ne {x : Int32} {off : Int} {tgt : Nat} (hc : Cx κ Γ A cc nL own nm ret Rm) (hd : decode cc pc = .ok (.ifCond .ne off, 3)) (ht : (pc : Int) + off = (tgt : Int)) (hn : pc + 3 = n) (kt : ¬ x = 0 → G κ Γ A nL cells slots Q ws tgt lv st) (kf : x = 0 → G κ Γ A nL cells slots Q ws n lv st) : G κ Γ A nL cells slots Q ws pc lv (.int x :: st) := by
  subst hn
  intro H locs ls hP hD hS hl
  exact lv_if_ne hc.1 hc.2.1 hd ht (fun q => kt q H locs ls hP hD hS hl) (fun q => kf q H locs ls hP hD hS hl)
theorem g_icmp_ne {x y : Int32} {off : Int} {tgt : Nat} (hc : Cx κ Γ A cc nL own nm ret Rm) (hd : decode cc pc = .ok (.if_icmp .ne off, 3)) (ht : (pc : Int) + off = (tgt : Int)) (hn : pc + 3 = n) (kt : ¬ x = y → G κ Γ A nL cells slots Q ws tgt lv st) (kf : x = y → G κ Γ A nL cells slots Q ws n lv st) : G κ Γ A nL cells slots Q ws pc lv (.int y :: .int x :: st) := by
  subst hn
  intro H locs ls hP hD hS hl
  exact lv_icmp_ne hc.1 hc.2.1 hd ht (fun q => kt q H locs ls hP hD hS hl) (fun q => kf q H locs ls hP hD hS hl)
theorem g_if_lt {x : Int32} {off : Int} {tgt : Nat} (hc : Cx κ Γ A cc nL own nm ret Rm) (hd : decode cc pc = .ok (.ifCond .lt off, 3)) (ht : (pc : Int) + off = (tgt : Int)) (hn : pc + 3 = n) (kt : x < 0 → G κ Γ A nL cells slots Q ws tgt lv st) (kf : ¬ x < 0 → G κ Γ A nL cells slots Q ws n lv st) : G κ Γ A nL cells slots Q ws pc lv (.int x :: st) := by
  subst hn
  intro H locs ls hP hD hS hl
  exact lv_if_lt hc.1 hc.2.1 hd ht (fun q => kt q H locs ls hP hD hS hl) (fun q => kf q H locs ls hP hD hS hl)
theorem g_icmp_lt {x y : Int32} {off : Int} {tgt : Nat} (hc : Cx κ Γ A cc nL own nm ret Rm) (hd : decode cc pc = .ok (.if_icmp .lt off, 3)) (ht : (pc : Int) + off = (tgt : Int)) (hn : pc + 3 = n) (kt : x < y → G κ Γ A nL cells slots Q ws tgt lv st) (kf : ¬ x < y → G κ Γ A nL cells slots Q ws n lv st) : G κ Γ A nL cells slots Q ws pc lv (.int y :: .int x :: st) := by
  subst hn
  intro H locs ls hP hD hS hl
  exact lv_icmp_lt hc.1 hc.2.1 hd ht (fun q => kt q H locs ls hP hD hS hl) (fun q => kf q H locs ls hP hD hS hl)
theorem g_if_ge {x : Int32} {off : Int} {tgt : Nat} (hc : Cx κ Γ A cc nL own nm ret Rm) (hd : decode cc pc = .ok (.ifCond .ge off, 3)) (ht : (pc : Int) + off = (tgt : Int)) (hn : pc + 3 = n) (kt : 0 ≤ x → G κ Γ A nL cells slots Q ws tgt lv st) (kf : ¬ 0 ≤ x → G κ Γ A nL cells slots Q ws n lv st) : G κ Γ A nL cells slots Q ws pc lv (.int x :: st) := by
  subst hn
  intro H locs ls hP hD hS hl
  exact lv_if_ge hc.1 hc.2.1 hd ht (fun q => kt q H locs ls hP hD hS hl) (fun q => kf q H locs ls hP hD hS hl)
theorem g_icmp_ge {x y : Int32} {off : Int} {tgt : Nat} (hc : Cx κ Γ A cc nL own nm ret Rm) (hd : decode cc pc = .ok (.if_icmp .ge off, 3)) (ht : (pc : Int) + off = (tgt : Int)) (hn : pc + 3 = n) (kt : y ≤ x → G κ Γ A nL cells slots Q ws tgt lv st) (kf : ¬ y ≤ x → G κ Γ A nL cells slots Q ws n lv st) : G κ Γ A nL cells slots Q ws pc lv (.int y :: .int x :: st) := by
  subst hn
  intro H locs ls hP hD hS hl
  exact lv_icmp_ge hc.1 hc.2.1 hd ht (fun q => kt q H locs ls hP hD hS hl) (fun q => kf q H locs ls hP hD hS hl)
theorem g_if_gt {x : Int32} {off : Int} {tgt : Nat} (hc : Cx κ Γ A cc nL own nm ret Rm) (hd : decode cc pc = .ok (.ifCond .gt off, 3)) (ht : (pc : Int) + off = (tgt : Int)) (hn : pc + 3 = n) (kt : 0 < x → G κ Γ A nL cells slots Q ws tgt lv st) (kf : ¬ 0 < x → G κ Γ A nL cells slots Q ws n lv st) : G κ Γ A nL cells slots Q ws pc lv (.int x :: st) := by
  subst hn
  intro H locs ls hP hD hS hl
  exact lv_if_gt hc.1 hc.2.1 hd ht (fun q => kt q H locs ls hP hD hS hl) (fun q => kf q H locs ls hP hD hS hl)
theorem g_icmp_gt {x y : Int32} {off : Int} {tgt : Nat} (hc : Cx κ Γ A cc nL own nm ret Rm) (hd : decode cc pc = .ok (.if_icmp .gt off, 3)) (ht : (pc : Int) + off = (tgt : Int)) (hn : pc + 3 = n) (kt : y < x → G κ Γ A nL cells slots Q ws tgt lv st) (kf : ¬ y < x → G κ Γ A nL cells slots Q ws n lv st) : G κ Γ A nL cells slots Q ws pc lv (.int y :: .int x :: st) := by
  subst hn
  intro H locs ls hP hD hS hl
  exact lv_icmp_gt hc.1 hc.2.1 hd ht (fun q => kt q H locs ls hP hD hS hl) (fun q => kf q H locs ls hP hD hS hl)
theorem g_if_le {x : Int32} {off : Int} {tgt : Nat} (hc : Cx κ Γ A cc nL own nm ret Rm) (hd : decode cc pc = .ok (.ifCond .le off, 3)) (ht : (pc : Int) + off = (tgt : Int)) (hn : pc + 3 = n) (kt : x ≤ 0 → G κ Γ A nL cells slots Q ws tgt lv st) (kf : ¬ x ≤ 0 → G κ Γ A nL cells slots Q ws n lv st) : G κ Γ A nL cells slots Q ws pc lv (.int x :: st) := by
  subst hn
  intro H locs ls hP hD hS hl
  exact lv_if_le hc.1 hc.2.1 hd ht (fun q => kt q H locs ls hP hD hS hl) (fun q => kf q H locs ls hP hD hS hl)
theorem g_icmp_le {x y : Int32} {off : Int} {tgt : Nat} (hc : Cx κ Γ A cc nL own nm ret Rm) (hd : decode cc pc = .ok (.if_icmp .le off, 3)) (ht : (pc : Int) + off = (tgt : Int)) (hn : pc + 3 = n) (kt : x ≤ y → G κ Γ A nL cells slots Q ws tgt lv st) (kf : ¬ x ≤ y → G κ Γ A nL cells slots Q ws n lv st) : G κ Γ A nL cells slots Q ws pc lv (.int y :: .int x :: st) := by
  subst hn
  intro H locs ls hP hD hS hl
  exact lv_icmp_le hc.1 hc.2.1 hd ht (fun q => kt q H locs ls hP hD hS hl) (fun q => kf q H locs ls hP hD hS hl)
theorem n_icmp_eq {a b : Nat} {off : Int} {tgt : Nat} (hc : Cx κ Γ A cc nL own nm ret Rm) (ha : a < 2 ^ 31) (hb : b < 2 ^ 31) (hd : decode cc pc = .ok (.if_icmp .eq off, 3)) (ht : (pc : Int) + off = (tgt : Int)) (hn : pc + 3 = n) (kt : a = b → G κ Γ A nL cells slots Q ws tgt lv st) (kf : a ≠ b → G κ Γ A nL cells slots Q ws n lv st) : G κ Γ A nL cells slots Q ws pc lv (.int (nI b) :: .int (nI a) :: st) := g_icmp_eq hc hd ht hn (fun q => kt ((nI_eq ha hb).mp q)) (fun q => kf (fun z => q ((nI_eq ha hb).mpr z)))
theorem n_icmp_ne {a b : Nat} {off : Int} {tgt : Nat} (hc : Cx κ Γ A cc nL own nm ret Rm) (ha : a < 2 ^ 31) (hb : b < 2 ^ 31) (hd : decode cc pc = .ok (.if_icmp .ne off, 3)) (ht : (pc : Int) + off = (tgt : Int)) (hn : pc + 3 = n) (kt : a ≠ b → G κ Γ A nL cells slots Q ws tgt lv st) (kf : a = b → G κ Γ A nL cells slots Q ws n lv st) : G κ Γ A nL cells slots Q ws pc lv (.int (nI b) :: .int (nI a) :: st) := g_icmp_ne hc hd ht hn (fun q => kt (fun z => q ((nI_eq ha hb).mpr z))) (fun q => kf ((nI_eq ha hb).mp q))
theorem n_icmp_lt {a b : Nat} {off : Int} {tgt : Nat} (hc : Cx κ Γ A cc nL own nm ret Rm) (ha : a < 2 ^ 31) (hb : b < 2 ^ 31) (hd : decode cc pc = .ok (.if_icmp .lt off, 3)) (ht : (pc : Int) + off = (tgt : Int)) (hn : pc + 3 = n) (kt : a < b → G κ Γ A nL cells slots Q ws tgt lv st) (kf : b ≤ a → G κ Γ A nL cells slots Q ws n lv st) : G κ Γ A nL cells slots Q ws pc lv (.int (nI b) :: .int (nI a) :: st) := g_icmp_lt hc hd ht hn (fun q => kt ((nI_ltI ha hb).mp q)) (fun q => kf (Nat.le_of_not_lt (fun z => q ((nI_ltI ha hb).mpr z))))
theorem n_icmp_ge {a b : Nat} {off : Int} {tgt : Nat} (hc : Cx κ Γ A cc nL own nm ret Rm) (ha : a < 2 ^ 31) (hb : b < 2 ^ 31) (hd : decode cc pc = .ok (.if_icmp .ge off, 3)) (ht : (pc : Int) + off = (tgt : Int)) (hn : pc + 3 = n) (kt : b ≤ a → G κ Γ A nL cells slots Q ws tgt lv st) (kf : a < b → G κ Γ A nL cells slots Q ws n lv st) : G κ Γ A nL cells slots Q ws pc lv (.int (nI b) :: .int (nI a) :: st) := g_icmp_ge hc hd ht hn (fun q => kt ((nI_leI hb ha).mp q)) (fun q => kf (Nat.lt_of_not_le (fun z => q ((nI_leI hb ha).mpr z))))
theorem n_icmp_gt {a b : Nat} {off : Int} {tgt : Nat} (hc : Cx κ Γ A cc nL own nm ret Rm) (ha : a < 2 ^ 31) (hb : b < 2 ^ 31) (hd : decode cc pc = .ok (.if_icmp .gt off, 3)) (ht : (pc : Int) + off = (tgt : Int)) (hn : pc + 3 = n) (kt : b < a → G κ Γ A nL cells slots Q ws tgt lv st) (kf : a ≤ b → G κ Γ A nL cells slots Q ws n lv st) : G κ Γ A nL cells slots Q ws pc lv (.int (nI b) :: .int (nI a) :: st) := g_icmp_gt hc hd ht hn (fun q => kt ((nI_ltI hb ha).mp q)) (fun q => kf (Nat.le_of_not_lt (fun z => q ((nI_ltI hb ha).mpr z))))
theorem n_icmp_le {a b : Nat} {off : Int} {tgt : Nat} (hc : Cx κ Γ A cc nL own nm ret Rm) (ha : a < 2 ^ 31) (hb : b < 2 ^ 31) (hd : decode cc pc = .ok (.if_icmp .le off, 3)) (ht : (pc : Int) + off = (tgt : Int)) (hn : pc + 3 = n) (kt : a ≤ b → G κ Γ A nL cells slots Q ws tgt lv st) (kf : b < a → G κ Γ A nL cells slots Q ws n lv st) : G κ Γ A nL cells slots Q ws pc lv (.int (nI b) :: .int (nI a) :: st) := g_icmp_le hc hd ht hn (fun q => kt ((nI_leI ha hb).mp q)) (fun q => kf (Nat.lt_of_not_le (fun z => q ((nI_leI ha hb).mpr z))))
theorem n_if_eq {a : Nat} {off : Int} {tgt : Nat} (hc : Cx κ Γ A cc nL own nm ret Rm) (ha : a < 2 ^ 31) (hd : decode cc pc = .ok (.ifCond .eq off, 3)) (ht : (pc : Int) + off = (tgt : Int)) (hn : pc + 3 = n) (kt : a = 0 → G κ Γ A nL cells slots Q ws tgt lv st) (kf : a ≠ 0 → G κ Γ A nL cells slots Q ws n lv st) : G κ Γ A nL cells slots Q ws pc lv (.int (nI a) :: st) := g_if_eq hc hd ht hn (fun q => kt ((nI_eq ha (b := 0) (by decide)).mp q)) (fun q => kf (fun z => q ((nI_eq ha (b := 0) (by decide)).mpr z)))
theorem n_if_ne {a : Nat} {off : Int} {tgt : Nat} (hc : Cx κ Γ A cc nL own nm ret Rm) (ha : a < 2 ^ 31) (hd : decode cc pc = .ok (.ifCond .ne off, 3)) (ht : (pc : Int) + off = (tgt : Int)) (hn : pc + 3 = n) (kt : a ≠ 0 → G κ Γ A nL cells slots Q ws tgt lv st) (kf : a = 0 → G κ Γ A nL cells slots Q ws n lv st) : G κ Γ A nL cells slots Q ws pc lv (.int (nI a) :: st) := g_if_ne hc hd ht hn (fun q => kt (fun z => q ((nI_eq ha (b := 0) (by decide)).mpr z))) (fun q => kf ((nI_eq ha (b := 0) (by decide)).mp q))
theorem n_if_gt {a : Nat} {off : Int} {tgt : Nat} (hc : Cx κ Γ A cc nL own nm ret Rm) (ha : a < 2 ^ 31) (hd : decode cc pc = .ok (.ifCond .gt off, 3)) (ht : (pc : Int) + off = (tgt : Int)) (hn : pc + 3 = n) (kt : 0 < a → G κ Γ A nL cells slots Q ws tgt lv st) (kf : a = 0 → G κ Γ A nL cells slots Q ws n lv st) : G κ Γ A nL cells slots Q ws pc lv (.int (nI a) :: st) := g_if_gt hc hd ht hn (fun q => kt ((nI_ltI (a := 0) (by decide) ha).mp q)) (fun q => kf (Nat.eq_zero_of_not_pos (fun z => q ((nI_ltI (a := 0) (by decide) ha).mpr z))))
theorem n_if_le {a : Nat} {off : Int} {tgt : Nat} (hc : Cx κ Γ A cc nL own nm ret Rm) (ha : a < 2 ^ 31) (hd : decode cc pc = .ok (.ifCond .le off, 3)) (ht : (pc : Int) + off = (tgt : Int)) (hn : pc + 3 = n) (kt : a = 0 → G κ Γ A nL cells slots Q ws tgt lv st) (kf : 0 < a → G κ Γ A nL cells slots Q ws n lv st) : G κ Γ A nL cells slots Q ws pc lv (.int (nI a) :: st) := g_if_le hc hd ht hn (fun q => kt (Nat.le_zero.mp ((nI_leI ha (b := 0) (by decide)).mp q))) (fun q => kf (Nat.pos_of_ne_zero (fun z => q ((nI_leI ha (b := 0) (by decide)).mpr (Nat.le_zero.mpr z)))))
theorem n_if_lt {a : Nat} {off : Int} {tgt : Nat} (hc : Cx κ Γ A cc nL own nm ret Rm) (ha : a < 2 ^ 31) (hd : decode cc pc = .ok (.ifCond .lt off, 3)) (ht : (pc : Int) + off = (tgt : Int)) (hn : pc + 3 = n) (kf : G κ Γ A nL cells slots Q ws n lv st) : G κ Γ A nL cells slots Q ws pc lv (.int (nI a) :: st) := g_if_lt hc hd ht hn (fun q => absurd q (nI_pos ha)) (fun _ => kf)
theorem n_if_ge {a : Nat} {off : Int} {tgt : Nat} (hc : Cx κ Γ A cc nL own nm ret Rm) (ha : a < 2 ^ 31) (hd : decode cc pc = .ok (.ifCond .ge off, 3)) (ht : (pc : Int) + off = (tgt : Int)) (kt : G κ Γ A nL cells slots Q ws tgt lv st) : G κ Γ A nL cells slots Q ws pc lv (.int (nI a) :: st) := g_if_ge hc hd ht rfl (fun _ => kt) (fun q => absurd (nI_pos' ha) q)
theorem n_iadd {a b v : Nat} (hc : Cx κ Γ A cc nL own nm ret Rm)  (hv : a + b = v) (hd : decode cc pc = .ok (.iadd, 1)) (hn : pc + 1 = n) (kk : G κ Γ A nL cells slots Q ws n lv (.int (nI v) :: st)) : G κ Γ A nL cells slots Q ws pc lv (.int (nI b) :: .int (nI a) :: st) := by
  subst hv
  exact g_iadd hc (nI_add a b) hd hn kk
theorem n_isub {a b v : Nat} (hc : Cx κ Γ A cc nL own nm ret Rm) (hb : b ≤ a) (hv : a - b = v) (hd : decode cc pc = .ok (.isub, 1)) (hn : pc + 1 = n) (kk : G κ Γ A nL cells slots Q ws n lv (.int (nI v) :: st)) : G κ Γ A nL cells slots Q ws pc lv (.int (nI b) :: .int (nI a) :: st) := by
  subst hv
  exact g_isub hc (pk_sub hb) hd hn kk
theorem n_imul {a b v : Nat} (hc : Cx κ Γ A cc nL own nm ret Rm)  (hv : a * b = v) (hd : decode cc pc = .ok (.imul, 1)) (hn : pc + 1 = n) (kk : G κ Γ A nL cells slots Q ws n lv (.int (nI v) :: st)) : G κ Γ A nL cells slots Q ws pc lv (.int (nI b) :: .int (nI a) :: st) := by
  subst hv
  exact g_imul hc (pk_mul a b) hd hn kk
theorem n_irem {a b v : Nat} (hc : Cx κ Γ A cc nL own nm ret Rm) (ha : a < 2 ^ 31) (h0 : 0 < b) (hb : b < 2 ^ 31) (hv : a % b = v) (hd : decode cc pc = .ok (.irem, 1)) (hn : pc + 1 = n) (kk : G κ Γ A nL cells slots Q ws n lv (.int (nI v) :: st)) : G κ Γ A nL cells slots Q ws pc lv (.int (nI b) :: .int (nI a) :: st) := by
  subst hv
  exact g_irem hc (nI_ne0 h0 hb) (pk_rem ha h0 hb) hd hn kk
theorem n_idiv {a b v : Nat} (hc : Cx κ Γ A cc nL own nm ret Rm) (ha : a < 2 ^ 31) (h0 : 0 < b) (hb : b < 2 ^ 31) (hv : a / b = v) (hd : decode cc pc = .ok (.idiv, 1)) (hn : pc + 1 = n) (kk : G κ Γ A nL cells slots Q ws n lv (.int (nI v) :: st)) : G κ Γ A nL cells slots Q ws pc lv (.int (nI b) :: .int (nI a) :: st) := by
  subst hv
  exact g_idiv hc (nI_ne0 h0 hb) (pk_div ha h0 hb) hd hn kk
theorem n_ladd {a b v : Nat} (hc : Cx κ Γ A cc nL own nm ret Rm)  (hv : a + b = v) (hd : decode cc pc = .ok (.ladd, 1)) (hn : pc + 1 = n) (kk : G κ Γ A nL cells slots Q ws n lv (.long (lN v) :: st)) : G κ Γ A nL cells slots Q ws pc lv (.long (lN b) :: .long (lN a) :: st) := by
  subst hv
  exact g_ladd hc (lN_add a b) hd hn kk
theorem n_lmul {a b v : Nat} (hc : Cx κ Γ A cc nL own nm ret Rm)  (hv : a * b = v) (hd : decode cc pc = .ok (.lmul, 1)) (hn : pc + 1 = n) (kk : G κ Γ A nL cells slots Q ws n lv (.long (lN v) :: st)) : G κ Γ A nL cells slots Q ws pc lv (.long (lN b) :: .long (lN a) :: st) := by
  subst hv
  exact g_lmul hc (lN_mul a b) hd hn kk
theorem n_lne0 {b : Nat} (h0 : 0 < b) (hb : b < 2 ^ 63) : ¬ lN b = 0 := fun h => by
  have := (pk_lEQ hb (b := 0) (by decide)).mp h
  omega
theorem n_lrem {a b v : Nat} (hc : Cx κ Γ A cc nL own nm ret Rm) (ha : a < 2 ^ 63) (h0 : 0 < b) (hb : b < 2 ^ 63) (hv : a % b = v) (hd : decode cc pc = .ok (.lrem, 1)) (hn : pc + 1 = n) (kk : G κ Γ A nL cells slots Q ws n lv (.long (lN v) :: st)) : G κ Γ A nL cells slots Q ws pc lv (.long (lN b) :: .long (lN a) :: st) := by
  subst hv
  exact g_lrem hc (n_lne0 h0 hb) (pk_lRem ha h0 hb) hd hn kk
theorem n_i2l {a : Nat} (hc : Cx κ Γ A cc nL own nm ret Rm) (ha : a < 2 ^ 31) (hd : decode cc pc = .ok (.i2l, 1)) (hn : pc + 1 = n) (kk : G κ Γ A nL cells slots Q ws n lv (.long (lN a) :: st)) : G κ Γ A nL cells slots Q ws pc lv (.int (nI a) :: st) := g_i2l hc (nI_l ha) hd hn kk
theorem n_l2i {a : Nat} (hc : Cx κ Γ A cc nL own nm ret Rm) (hd : decode cc pc = .ok (.l2i, 1)) (hn : pc + 1 = n) (kk : G κ Γ A nL cells slots Q ws n lv (.int (nI a) :: st)) : G κ Γ A nL cells slots Q ws pc lv (.long (lN a) :: st) := g_l2i hc (lN_i a) hd hn kk
theorem n_iinc {i a v zk : Nat} {z : Int} {lv1 lv2 : List (Nat × Value)} (hc : Cx κ Γ A cc nL own nm ret Rm) (k : Nat) (hk : lv[k]? = some (i, .int (nI a))) (hz : Int32.ofInt z = nI zk) (hv : a + zk = v) (hb : i < nL) (ks : List Nat) (hl1 : (i, Value.int (nI v)) :: lv.filter (fun q => !(q.1 == i) && !(q.1 + 1 == i && q.2.category == 2)) = lv1) (hl2 : lv_pick lv1 ks = lv2) (hd : decode cc pc = .ok (.iinc i z, 3)) (hn : pc + 3 = n) (kk : G κ Γ A nL cells slots Q ws n lv2 st) : G κ Γ A nL cells slots Q ws pc lv st := by
  subst hv
  exact g_iinc hc k hk (by rw [hz]; exact nI_add a zk) hb ks hl1 hl2 hd hn kk
theorem n_idec {i a v : Nat} {z : Int} {lv1 lv2 : List (Nat × Value)} (hc : Cx κ Γ A cc nL own nm ret Rm) (k : Nat) (hk : lv[k]? = some (i, .int (nI a))) (hz : Int32.ofInt z = -1) (hv : v + 1 = a) (hb : i < nL) (ks : List Nat) (hl1 : (i, Value.int (nI v)) :: lv.filter (fun q => !(q.1 == i) && !(q.1 + 1 == i && q.2.category == 2)) = lv1) (hl2 : lv_pick lv1 ks = lv2) (hd : decode cc pc = .ok (.iinc i z, 3)) (hn : pc + 3 = n) (kk : G κ Γ A nL cells slots Q ws n lv2 st) : G κ Γ A nL cells slots Q ws pc lv st := by
  subst hv
  exact g_iinc hc k hk (by rw [hz]; exact pk_m1 v) hb ks hl1 hl2 hd hn kk
theorem g_getf {C ref : String} {T : u_T} {N ci i a : Nat} {fs : List Value} {v : Value} (hc : Cx κ Γ A cc nL own nm ret Rm) (q0 : Nat) (he : ws[q0]? = some (a, .inr (ci, fs))) (hcl : vwCl[ci]? = some (C, T, N)) (hin : ∀ w ∈ u_ws C T N, w ∈ WL) (k : Nat) (hk : k < N) (hw : Cond.fieldLink own i ref (T k).2.1 (T k).2.2.1 ∈ WL) (hr : (T k).1 = ref) (hv : fs[k]? = some v) (hd : decode cc pc = .ok (.getfield i, 3)) (hn : pc + 3 = n) (kk : G κ Γ A nL cells slots Q ws n lv (v :: st)) : G κ Γ A nL cells slots Q ws pc lv (.ref a :: st) := by
  subst hn; subst hr
  intro H locs ls hP hD hS hl
  exact va_get hc.1 hc.2.1 hc.2.2.2.2.1 hin hc.2.2.2.1 hc.2.2.2.2.2.1 hP q0 he hcl k hk (hc.2.2.2.2.1 _ hw) (fun _ q => q) hv hd (kk H locs ls hP hD hS hl)
theorem g_putf {C ref : String} {T : u_T} {N ci i a : Nat} {fs : List Value} {v : Value} {ty0 : Nat → FieldType} (hc : Cx κ Γ A cc nL own nm ret Rm) (q0 : Nat) (he : ws[q0]? = some (a, .inr (ci, fs))) (hcl : vwCl[ci]? = some (C, T, N)) (hin : ∀ w ∈ u_ws C T N, w ∈ WL) (hty : ∀ k, k < N → parseFieldDescriptor (T k).2.2.1 = some (ty0 k)) (hnn : ∀ a, a < N → ∀ b, b < N → a ≠ b → (T a).2.1 ≠ (T b).2.1) (k : Nat) (hk : k < N) (hw : Cond.fieldLink own i ref (T k).2.1 (T k).2.2.1 ∈ WL) (hr : (T k).1 = ref) (hfin : (T k).2.2.2 = false) (hnar : narrow (ty0 k) v = v) (hfit : fits (ty0 k) v = true) (hlen : k < fs.length) (hset : ws.set q0 (a, .inr (ci, fs.set k v)) = ws') (hd : decode cc pc = .ok (.putfield i, 3)) (hn : pc + 3 = n) (kk : G κ Γ A nL cells slots Q ws' n lv st) : G κ Γ A nL cells slots Q ws pc lv (v :: .ref a :: st) := by
  subst hn; subst hr; subst hset
  intro H locs ls hP hD hS hl
  exact va_put hc.1 hc.2.1 hc.2.2.2.2.1 hin ty0 hty hnn hc.2.2.2.1 hc.2.2.2.2.2.1 hP hD hS q0 he hcl k hk (hc.2.2.2.2.1 _ hw) (fun _ q => q) hfin (hty k hk) hnar hfit hlen hd (fun H1 locs1 hP1 hD1 hS1 => kk H1 locs1 ls hP1 hD1 hS1 hl)
theorem g_putF {C ref : String} {T : u_T} {N ci i a : Nat} {fs : List Value} {v : Value} {ty0 : Nat → FieldType} (hc : Cx κ Γ A cc nL own nm ret Rm) (q0 : Nat) (he : ws[q0]? = some (a, .inr (ci, fs))) (hcl : vwCl[ci]? = some (C, T, N)) (hin : ∀ w ∈ u_ws C T N, w ∈ WL) (hty : ∀ k, k < N → parseFieldDescriptor (T k).2.2.1 = some (ty0 k)) (hnn : ∀ a, a < N → ∀ b, b < N → a ≠ b → (T a).2.1 ≠ (T b).2.1) (k : Nat) (hk : k < N) (hw : Cond.fieldLink own i ref (T k).2.1 (T k).2.2.1 ∈ WL) (hr : (T k).1 = ref) (hfin : (T k).2.2.2 = true) (hnm : nm = "<init>") (hdecl : (T k).1 = own) (hnar : narrow (ty0 k) v = v) (hfit : fits (ty0 k) v = true) (hlen : k < fs.length) (hset : ws.set q0 (a, .inr (ci, fs.set k v)) = ws') (hd : decode cc pc = .ok (.putfield i, 3)) (hn : pc + 3 = n) (kk : G κ Γ A nL cells slots Q ws' n lv st) : G κ Γ A nL cells slots Q ws pc lv (v :: .ref a :: st) := by
  subst hn; subst hr; subst hset
  intro H locs ls hP hD hS hl
  exact va_putF hc.1 hc.2.1 hc.2.2.2.2.1 hin ty0 hty hnn hc.2.2.2.1 hc.2.2.2.2.2.1 hP hD hS q0 he hcl k hk (hc.2.2.2.2.1 _ hw) (fun _ q => q) hfin (hc.2.2.2.2.2.2.2.2.2.2.2.2.trans hnm) hdecl (hty k hk) hnar hfit hlen hd (fun H1 locs1 hP1 hD1 hS1 => kk H1 locs1 ls hP1 hD1 hS1 hl)
theorem n_up (g : Nat → Nat) (k x : Nat) : upd (fun j => nI (g j)) k (nI x) = fun j => nI (va_up g k x j) := by
  funext j
  by_cases h : j = k
  · subst h; rw [va_up_self, pk_us]
  · rw [va_up_ne _ _ h, pk_un h]
theorem n_iald {a m k v : Nat} {g : Nat → Nat} (hc : Cx κ Γ A cc nL own nm ret Rm) (q0 : Nat) (he : ws[q0]? = some (a, aI κ m g)) (hk : k < m) (hm : m < 2 ^ 31) (hv : g k = v) (hd : decode cc pc = .ok (.iaload, 1)) (hn : pc + 1 = n) (kk : G κ Γ A nL cells slots Q ws n lv (.int (nI v) :: st)) : G κ Γ A nL cells slots Q ws pc lv (.int (nI k) :: .ref a :: st) := by
  subst hn; subst hv
  intro H locs ls hP hD hS hl
  refine va_iald hc.1 hc.2.1 hc.2.2.2.2.2.1 hP q0 0 he rfl (vp_in_nI hk hm) hd ?_
  show W _ _ _ _ _ _ _ _ _ _ _ _ _ _ _ (F0 _ _ _ (.int (nI (g (nI k).toNatClampNeg)) :: st))
  rw [nI_clamp (Nat.lt_trans hk hm)]
  exact kk H locs ls hP hD hS hl
theorem n_iast {a m k x : Nat} {g : Nat → Nat} (hc : Cx κ Γ A cc nL own nm ret Rm) (q0 : Nat) (he : ws[q0]? = some (a, aI κ m g)) (hk : k < m) (hm : m < 2 ^ 31) (hset : ws.set q0 (a, aI κ m (va_up g k x)) = ws') (hd : decode cc pc = .ok (.iastore, 1)) (hn : pc + 1 = n) (kk : G κ Γ A nL cells slots Q ws' n lv st) : G κ Γ A nL cells slots Q ws pc lv (.int (nI x) :: .int (nI k) :: .ref a :: st) := by
  subst hn; subst hset
  intro H locs ls hP hD hS hl
  refine va_iast hc.1 hc.2.1 hc.2.2.2.2.2.1 hP hD hS q0 0 he rfl (vp_in_nI hk hm) hd (fun H1 locs1 hP1 hD1 hS1 => ?_)
  rw [nI_clamp (Nat.lt_trans hk hm)] at hP1 hD1
  rw [n_up] at hP1 hD1
  exact kk H1 locs1 ls hP1 hD1 hS1 hl
theorem n_zald {a m k v : Nat} {g : Nat → Nat} (hc : Cx κ Γ A cc nL own nm ret Rm) (q0 : Nat) (he : ws[q0]? = some (a, aZ κ m g)) (hk : k < m) (hm : m < 2 ^ 31) (hv : g k = v) (hd : decode cc pc = .ok (.baload, 1)) (hn : pc + 1 = n) (kk : G κ Γ A nL cells slots Q ws n lv (.int (nI v) :: st)) : G κ Γ A nL cells slots Q ws pc lv (.int (nI k) :: .ref a :: st) := by
  subst hn; subst hv
  intro H locs ls hP hD hS hl
  refine va_zald hc.1 hc.2.1 hc.2.2.2.2.2.1 hP q0 1 he rfl (vp_in_nI hk hm) hd ?_
  show W _ _ _ _ _ _ _ _ _ _ _ _ _ _ _ (F0 _ _ _ (.int (nI (g (nI k).toNatClampNeg)) :: st))
  rw [nI_clamp (Nat.lt_trans hk hm)]
  exact kk H locs ls hP hD hS hl
theorem n_zast {a m k x : Nat} {g : Nat → Nat} (hc : Cx κ Γ A cc nL own nm ret Rm) (q0 : Nat) (he : ws[q0]? = some (a, aZ κ m g)) (hk : k < m) (hm : m < 2 ^ 31) (hx : x ≤ 1) (hset : ws.set q0 (a, aZ κ m (va_up g k x)) = ws') (hd : decode cc pc = .ok (.bastore, 1)) (hn : pc + 1 = n) (kk : G κ Γ A nL cells slots Q ws' n lv st) : G κ Γ A nL cells slots Q ws pc lv (.int (nI x) :: .int (nI k) :: .ref a :: st) := by
  subst hn; subst hset
  intro H locs ls hP hD hS hl
  refine va_zast hc.1 hc.2.1 hc.2.2.2.2.2.1 hP hD hS q0 1 he rfl (vp_in_nI hk hm) hd (fun H1 locs1 hP1 hD1 hS1 => ?_)
  rw [nI_clamp (Nat.lt_trans hk hm)] at hP1 hD1
  have e : vp_nar .boolean (nI x) = nI x := by
    rcases Nat.le_one_iff_eq_zero_or_eq_one.mp hx with rfl | rfl <;> rfl
  rw [e] at hP1 hD1
  rw [n_up] at hP1 hD1
  exact kk H1 locs1 ls hP1 hD1 hS1 hl
theorem n_cald {a m k v : Nat} {g : Nat → Nat} (hc : Cx κ Γ A cc nL own nm ret Rm) (q0 : Nat) (he : ws[q0]? = some (a, aC κ m g)) (hk : k < m) (hm : m < 2 ^ 31) (hv : g k = v) (hd : decode cc pc = .ok (.caload, 1)) (hn : pc + 1 = n) (kk : G κ Γ A nL cells slots Q ws n lv (.int (nI v) :: st)) : G κ Γ A nL cells slots Q ws pc lv (.int (nI k) :: .ref a :: st) := by
  subst hn; subst hv
  intro H locs ls hP hD hS hl
  refine va_cald hc.1 hc.2.1 hc.2.2.2.2.2.1 hP q0 2 he rfl (vp_in_nI hk hm) hd ?_
  show W _ _ _ _ _ _ _ _ _ _ _ _ _ _ _ (F0 _ _ _ (.int (nI (g (nI k).toNatClampNeg)) :: st))
  rw [nI_clamp (Nat.lt_trans hk hm)]
  exact kk H locs ls hP hD hS hl
theorem n_cast {a m k x : Nat} {g : Nat → Nat} (hc : Cx κ Γ A cc nL own nm ret Rm) (q0 : Nat) (he : ws[q0]? = some (a, aC κ m g)) (hk : k < m) (hm : m < 2 ^ 31) (hx : x < 65536) (hset : ws.set q0 (a, aC κ m (va_up g k x)) = ws') (hd : decode cc pc = .ok (.castore, 1)) (hn : pc + 1 = n) (kk : G κ Γ A nL cells slots Q ws' n lv st) : G κ Γ A nL cells slots Q ws pc lv (.int (nI x) :: .int (nI k) :: .ref a :: st) := by
  subst hn; subst hset
  intro H locs ls hP hD hS hl
  refine va_cast hc.1 hc.2.1 hc.2.2.2.2.2.1 hP hD hS q0 2 he rfl (vp_in_nI hk hm) hd (fun H1 locs1 hP1 hD1 hS1 => ?_)
  rw [nI_clamp (Nat.lt_trans hk hm)] at hP1 hD1
  have e : vp_nar .char (nI x) = nI x := by
    unfold vp_nar
    rw [(pk_charN hx).1]
  rw [e] at hP1 hD1
  rw [n_up] at hP1 hD1
  exact kk H1 locs1 ls hP1 hD1 hS1 hl
theorem n_aldB {a m k b : Nat} {f : Nat → Option Nat} (hc : Cx κ Γ A cc nL own nm ret Rm) (q0 : Nat) (he : ws[q0]? = some (a, aB κ m f)) (hk : k < m) (hm : m < 2 ^ 31) (hv : f k = some b) (hd : decode cc pc = .ok (.aaload, 1)) (hn : pc + 1 = n) (kk : G κ Γ A nL cells slots Q ws n lv (.ref b :: st)) : G κ Γ A nL cells slots Q ws pc lv (.int (nI k) :: .ref a :: st) := by
  subst hn
  intro H locs ls hP hD hS hl
  refine va_aldq hc.1 hc.2.1 hc.2.2.2.2.2.1 hP q0 3 he rfl (vp_in_nI hk hm) hd ?_
  rw [nI_clamp (Nat.lt_trans hk hm), hv]
  exact kk H locs ls hP hD hS hl
theorem n_aldBN {a m k : Nat} {f : Nat → Option Nat} (hc : Cx κ Γ A cc nL own nm ret Rm) (q0 : Nat) (he : ws[q0]? = some (a, aB κ m f)) (hk : k < m) (hm : m < 2 ^ 31) (hv : f k = none) (hd : decode cc pc = .ok (.aaload, 1)) (hn : pc + 1 = n) (kk : G κ Γ A nL cells slots Q ws n lv (.null :: st)) : G κ Γ A nL cells slots Q ws pc lv (.int (nI k) :: .ref a :: st) := by
  subst hn
  intro H locs ls hP hD hS hl
  refine va_aldq hc.1 hc.2.1 hc.2.2.2.2.2.1 hP q0 3 he rfl (vp_in_nI hk hm) hd ?_
  rw [nI_clamp (Nat.lt_trans hk hm), hv]
  exact kk H locs ls hP hD hS hl
theorem n_astB {a m k v ci : Nat} {vs : List Value} {T : u_T} {N : Nat} {f : Nat → Option Nat} (hc : Cx κ Γ A cc nL own nm ret Rm) (q0 qk : Nat) (he : ws[q0]? = some (a, aB κ m f)) (hv : ws[qk]? = some (v, .inr (ci, vs))) (hcl : vwCl[ci]? = some (RX0, T, N)) (hk : k < m) (hm : m < 2 ^ 31) (hset : ws.set q0 (a, aB κ m (va_up f k (some v))) = ws') (hd : decode cc pc = .ok (.aastore, 1)) (hn : pc + 1 = n) (kk : G κ Γ A nL cells slots Q ws' n lv st) : G κ Γ A nL cells slots Q ws pc lv (.ref v :: .int (nI k) :: .ref a :: st) := by
  subst hn; subst hset
  intro H locs ls hP hD hS hl
  refine va_astq hc.1 hc.2.1 hc.2.2.2.2.2.1 hP hD hS q0 3 qk ci he rfl hv hcl (vp_in_nI hk hm) hd (fun H1 locs1 hP1 hD1 hS1 => ?_)
  rw [nI_clamp (Nat.lt_trans hk hm)] at hP1 hD1
  exact kk H1 locs1 ls hP1 hD1 hS1 hl
theorem n_aldT {a m k b : Nat} {f : Nat → Option Nat} (hc : Cx κ Γ A cc nL own nm ret Rm) (q0 : Nat) (he : ws[q0]? = some (a, aT κ m f)) (hk : k < m) (hm : m < 2 ^ 31) (hv : f k = some b) (hd : decode cc pc = .ok (.aaload, 1)) (hn : pc + 1 = n) (kk : G κ Γ A nL cells slots Q ws n lv (.ref b :: st)) : G κ Γ A nL cells slots Q ws pc lv (.int (nI k) :: .ref a :: st) := by
  subst hn
  intro H locs ls hP hD hS hl
  refine va_aldq hc.1 hc.2.1 hc.2.2.2.2.2.1 hP q0 4 he rfl (vp_in_nI hk hm) hd ?_
  rw [nI_clamp (Nat.lt_trans hk hm), hv]
  exact kk H locs ls hP hD hS hl
theorem n_aldTN {a m k : Nat} {f : Nat → Option Nat} (hc : Cx κ Γ A cc nL own nm ret Rm) (q0 : Nat) (he : ws[q0]? = some (a, aT κ m f)) (hk : k < m) (hm : m < 2 ^ 31) (hv : f k = none) (hd : decode cc pc = .ok (.aaload, 1)) (hn : pc + 1 = n) (kk : G κ Γ A nL cells slots Q ws n lv (.null :: st)) : G κ Γ A nL cells slots Q ws pc lv (.int (nI k) :: .ref a :: st) := by
  subst hn
  intro H locs ls hP hD hS hl
  refine va_aldq hc.1 hc.2.1 hc.2.2.2.2.2.1 hP q0 4 he rfl (vp_in_nI hk hm) hd ?_
  rw [nI_clamp (Nat.lt_trans hk hm), hv]
  exact kk H locs ls hP hD hS hl
theorem n_astT {a m k v ci : Nat} {vs : List Value} {T : u_T} {N : Nat} {f : Nat → Option Nat} (hc : Cx κ Γ A cc nL own nm ret Rm) (q0 qk : Nat) (he : ws[q0]? = some (a, aT κ m f)) (hv : ws[qk]? = some (v, .inr (ci, vs))) (hcl : vwCl[ci]? = some (RX2, T, N)) (hk : k < m) (hm : m < 2 ^ 31) (hset : ws.set q0 (a, aT κ m (va_up f k (some v))) = ws') (hd : decode cc pc = .ok (.aastore, 1)) (hn : pc + 1 = n) (kk : G κ Γ A nL cells slots Q ws' n lv st) : G κ Γ A nL cells slots Q ws pc lv (.ref v :: .int (nI k) :: .ref a :: st) := by
  subst hn; subst hset
  intro H locs ls hP hD hS hl
  refine va_astq hc.1 hc.2.1 hc.2.2.2.2.2.1 hP hD hS q0 4 qk ci he rfl hv hcl (vp_in_nI hk hm) hd (fun H1 locs1 hP1 hD1 hS1 => ?_)
  rw [nI_clamp (Nat.lt_trans hk hm)] at hP1 hD1
  exact kk H1 locs1 ls hP1 hD1 hS1 hl
theorem n_alen {a m : Nat} {cA : ClassId} {x : (Nat → Int32) ⊕ (Nat → Int64) ⊕ (Nat → UInt32) ⊕ (Nat → UInt64) ⊕ (Nat → Option Nat)} (hc : Cx κ Γ A cc nL own nm ret Rm) (q0 t0 : Nat) {ty : FieldType} (he : ws[q0]? = some (a, .inl (cA, m, x))) (ht : (kty κ)[t0]? = some (cA, ty)) (hd : decode cc pc = .ok (.arraylength, 1)) (hn : pc + 1 = n) (kk : G κ Γ A nL cells slots Q ws n lv (.int (nI m) :: st)) : G κ Γ A nL cells slots Q ws pc lv (.ref a :: st) := by
  subst hn
  intro H locs ls hP hD hS hl
  exact va_alen hc.1 hc.2.1 hc.2.2.2.2.2.1 hP q0 t0 he ht rfl hd (kk H locs ls hP hD hS hl)
theorem g_ifnonnull {x : Nat} {off : Int} {tgt : Nat} (hc : Cx κ Γ A cc nL own nm ret Rm) (hd : decode cc pc = .ok (.ifnonnull off, 3)) (ht : (pc : Int) + off = (tgt : Int)) (kk : G κ Γ A nL cells slots Q ws tgt lv st) : G κ Γ A nL cells slots Q ws pc lv (.ref x :: st) := fun H locs ls hP hD hS hl => lv_ifnonnull hc.1 hc.2.1 hd ht (kk H locs ls hP hD hS hl)
theorem g_ifnonnullN {off : Int} (hc : Cx κ Γ A cc nL own nm ret Rm) (hd : decode cc pc = .ok (.ifnonnull off, 3)) (hn : pc + 3 = n) (kk : G κ Γ A nL cells slots Q ws n lv st) : G κ Γ A nL cells slots Q ws pc lv (.null :: st) := by
  subst hn
  exact fun H locs ls hP hD hS hl => lv_ifnonnullN hc.1 hc.2.1 hd (kk H locs ls hP hD hS hl)
theorem g_ifnull {x : Nat} {off : Int} (hc : Cx κ Γ A cc nL own nm ret Rm) (hd : decode cc pc = .ok (.ifnull off, 3)) (hn : pc + 3 = n) (kk : G κ Γ A nL cells slots Q ws n lv st) : G κ Γ A nL cells slots Q ws pc lv (.ref x :: st) := by
  subst hn
  exact fun H locs ls hP hD hS hl => lv_ifnull hc.1 hc.2.1 hd (kk H locs ls hP hD hS hl)
theorem g_ifnullN {off : Int} {tgt : Nat} (hc : Cx κ Γ A cc nL own nm ret Rm) (hd : decode cc pc = .ok (.ifnull off, 3)) (ht : (pc : Int) + off = (tgt : Int)) (kk : G κ Γ A nL cells slots Q ws tgt lv st) : G κ Γ A nL cells slots Q ws pc lv (.null :: st) := fun H locs ls hP hD hS hl => lv_ifnullN hc.1 hc.2.1 hd ht (kk H locs ls hP hD hS hl)
theorem g_null (hc : Cx κ Γ A cc nL own nm ret Rm) (hd : decode cc pc = .ok (.aconst_null, 1)) (hn : pc + 1 = n) (kk : G κ Γ A nL cells slots Q ws n lv (.null :: st)) : G κ Γ A nL cells slots Q ws pc lv st := by
  subst hn
  exact fun H locs ls hP hD hS hl => lv_null hc.1 hc.2.1 hd (kk H locs ls hP hD hS hl)
theorem n_arrV (cA : ClassId) (m : Nat) (f g : Nat → Value) (h : ∀ k, k < m → f k = g k) : arrV cA m f = arrV cA m g := by
  unfold arrV
  congr 1
  apply Array.ext
  · simp
  · intro i h1 h2
    simp only [Array.size_ofFn] at h1
    simp [h i h1]
theorem g_re {a : Nat} {e e' : va_E} (q0 : Nat) (he : ws[q0]? = some (a, e)) (hk : ∀ H : Heap, va_at κ.1 vwCl (a, e) H → va_at κ.1 vwCl (a, e') H) (hset : ws.set q0 (a, e') = ws') (kk : G κ Γ A nL cells slots Q ws' pc lv st) : G κ Γ A nL cells slots Q ws pc lv st := by
  subst hset
  intro H locs ls hP hD hS hl
  exact kk H locs ls (va_P.set hP hD he (hk H (hP q0 _ he)) (fun _ _ => rfl)) (hD.set he) hS hl
theorem g_arr {a m : Nat} {cA : ClassId} {f g : Nat → Nat} (q0 : Nat) (he : ws[q0]? = some (a, .inl (cA, m, .inl (fun k => nI (f k))))) (h : ∀ k, k < m → f k = g k) (hset : ws.set q0 (a, .inl (cA, m, .inl (fun k => nI (g k)))) = ws') (kk : G κ Γ A nL cells slots Q ws' pc lv st) : G κ Γ A nL cells slots Q ws pc lv st := by
  refine g_re q0 he (fun H hh => ?_) hset kk
  show H[a]? = some (arrV cA m (fun j => .int (nI (g j))))
  rw [← n_arrV cA m (fun j => .int (nI (f j))) (fun j => .int (nI (g j))) (fun k hk => by rw [h k hk])]
  exact hh
theorem g_arrq {a m : Nat} {cA : ClassId} {f g : Nat → Option Nat} (q0 : Nat) (he : ws[q0]? = some (a, .inl (cA, m, .inr (.inr (.inr (.inr f)))))) (h : ∀ k, k < m → f k = g k) (hset : ws.set q0 (a, .inl (cA, m, .inr (.inr (.inr (.inr g))))) = ws') (kk : G κ Γ A nL cells slots Q ws' pc lv st) : G κ Γ A nL cells slots Q ws pc lv st := by
  refine g_re q0 he (fun H hh => ?_) hset kk
  show H[a]? = some (arrV cA m (fun j => va_rf (g j)))
  rw [← n_arrV cA m (fun j => va_rf (f j)) (fun j => va_rf (g j)) (fun k hk => by rw [h k hk])]
  exact hh
theorem n_cpy (f g : Nat → Nat) (sp dp m : Nat) : va_cpy (fun j => nI (f j)) (fun j => nI (g j)) sp dp m = fun j => nI (va_cpy f g sp dp m j) := by
  funext j
  unfold va_cpy
  split <;> rfl
theorem n_copy {a0 a n0 n1 sp dp m i : Nat} {cA : ClassId} {f g : Nat → Nat} {ty : FieldType} (hc : Cx κ Γ A cc nL own nm ret Rm) (q0 q1 t : Nat) (he0 : ws[q0]? = some (a0, .inl (cA, n0, .inl (fun k => nI (f k))))) (he1 : ws[q1]? = some (a, .inl (cA, n1, .inl (fun k => nI (g k))))) (ht : (kty κ)[t]? = some (cA, ty)) (hprim : refKind ty = false) (hsp : sp + m ≤ n0) (hdp : dp + m ≤ n1) (hn0 : n0 < 2 ^ 31) (hn1 : n1 < 2 ^ 31) (hfit : ∀ i, i < m → fits ty (.int (nI (f (sp + i)))) = true) (hl : Cond.methodLink own i arraycopyName ∈ WL) (hroom : 1 ≤ Rm.frames ∧ (st.map fun v => v.category).sum + (nativeFrameWords "java/lang/System" "arraycopy" 5 + 11) ≤ Rm.locals) (hset : ws.set q1 (a, .inl (cA, n1, .inl (fun k => nI (va_cpy f g sp dp m k)))) = ws') (hd : decode cc pc = .ok (.invokestatic i, 3)) (hn : pc + 3 = n) (kk : G κ Γ A nL cells slots Q ws' n lv st) : G κ Γ A nL cells slots Q ws pc lv (.int (nI m) :: .int (nI dp) :: .ref a :: .int (nI sp) :: .ref a0 :: st) := by
  subst hn; subst hset
  intro H locs ls hP hD hS hl2
  have hts := hc.2.2.2.2.1
  have e1 : (nI sp).toNatClampNeg = sp := nI_clamp (by omega)
  have e2 : (nI dp).toNatClampNeg = dp := nI_clamp (by omega)
  have e3 : (nI m).toNatClampNeg = m := nI_clamp (by omega)
  have hRm : gR Γ = Rm := hc.2.2.2.2.2.2.2.2.2.2.2.1
  refine va_copyi hc.1 hc.2.1 (hc.2.2.1.trans hl2.1.symm) hc.2.2.2.1 (hts _ hl) (hts _ k_na_arraycopyName) (hts _ k_st_arraycopyName) (hts _ k_in_RJ10) hc.2.2.2.2.2.1 hP hD hS q0 q1 t t he0 he1 ht ht hprim (nI_pos (by omega)) (nI_pos (by omega)) (nI_pos (by omega)) (by rw [e1, e3]; exact hsp) (by rw [e2, e3]; exact hdp) (by rw [e1, e3]; exact hfit) (by rw [hRm]; exact hroom.1) (by rw [hRm]; exact hroom.2) hd (fun H1 locs1 hP1 hD1 hS1 => ?_)
  rw [e1, e2, e3, n_cpy] at hP1 hD1
  exact kk H1 locs1 ls hP1 hD1 hS1 hl2
end GB
