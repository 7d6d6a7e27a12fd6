section GTL
variable {κ : Kp} {Γ : Gm} {A : Nat → Prop} {nL cells slots : Nat} {Q : State → Prop} {ws : va_W} {pc n : Nat} {lv : List (Nat × Value)} {st : List Value} {cc : ByteArray} {own nm : String} {ret : Option FieldType} {Rm : Room}
theorem g_tlen {t N : Nat} {f : Nat → Value} (hc : Cx κ Γ A cc nL own nm ret Rm) (hT : va_T .int t N f A (gS Γ) (gS Γ).heap) (hd : decode cc pc = .ok (.arraylength, 1)) (hn : pc + 1 = n) (kk : G κ Γ A nL cells slots Q ws n lv (.int (nI N) :: st)) : G κ Γ A nL cells slots Q ws pc lv (.ref t :: st) := by
  subst hn
  intro H locs ls hP hD hS hl
  exact va_tlen hc.1 hc.2.1 hT hS rfl hd (kk H locs ls hP hD hS hl)
end GTL
theorem re_nw (X w : va_W) (c : Nat × va_E) : Re ((X ++ w) ++ [c]) ((X ++ [c]) ++ w) := by
  refine (Re.of_eq (List.append_assoc X w [c])).trans ((Re.appR X (Re.comm w [c])).trans (Re.of_eq (List.append_assoc X [c] w).symm))
/-- an int of the script, whatever it is -/
def cl (κ : Kp) (k : Nat) : Int32 := if k < κ.2.2 4 then nI (κ.2.2 (5 + k)) else nI (3516065817 * (k + 1))
