/-- how a part lies in a part of a world -/
theorem Jn.trans {ws w1 wc : va_W} {J1 J2 : va_W → va_W → Prop} (h1 : Jn ws w1 J1) (h2 : Jn w1 wc J2) : Jn ws wc (fun w w3 => ∃ w2, J2 w w2 ∧ J1 w2 w3) := by
  refine ⟨fun D cl H h => h2.1 D cl H (h1.1 D cl H h), fun A h => h2.2.1 A (h1.2.1 A h), fun A H0 H locs hD hS hA q hq => h2.2.2.1 A H0 H locs (h1.2.1 A hD) hS hA q hq, fun A D cl w w3 H H1 hP hD hk hF hP1 hD1 e => ?_⟩
  obtain ⟨w2, e2, e1⟩ := e
  have hDA := h1.2.1 A hD
  have hDw : va_D (va_A w1 H.size) w1 := hDA.weaken (fun k q hk _ => Or.inl ⟨k, q.2, hk⟩)
  have hDc := h2.2.1 _ hDw
  have hsub : ∀ q, va_A wc H.size q → va_A w1 H.size q := fun q h => by
    rcases h with ⟨k, e, h⟩ | h
    · exact hDc.2 k (q, e) h
    · exact Or.inr h
  have r := h2.2.2.2 (va_A w1 H.size) D cl w w2 H H1 (h1.1 D cl H hP) hDw hk hsub hP1 hD1 e2
  refine h1.2.2.2 A D cl w2 w3 H H1 hP hD (fun q hq hn => hk q hq (fun z => hn (hsub q z))) (fun q h => ?_) r.1 r.2 e1
  rcases h with ⟨k, e, h⟩ | h
  · exact hDA.2 k (q, e) h
  · exact hF q (Or.inr h)
/-- the history behind the cells, the slots behind both -/
theorem jn_ps {X cx wr pl sx : va_W} (isC isR : List Nat) (hC : isC.map (fun i => X[i]?) = cx.map some) (hR : isR.map (fun i => X[i]?) = wr.map some) (hnC : va_nd isC = true) (hnR : va_nd isR = true) (hdis : ∀ i ∈ isR, i ∉ isC) : Jn ((X ++ pl) ++ sx) (cx ++ pl) (fun w w3 => ∃ w2, (∃ rx pl1, w = rx ++ pl1 ∧ w2 = (wr ++ rx) ++ pl1) ∧ w3 = w2 ++ sx) := Jn.trans jn_l (jn_p isC isR hC hR hnC hnR hdis)
theorem jn_qs {X cx wr pl sx : va_W} (isC isR : List Nat) (hC : isC.map (fun i => X[i]?) = cx.map some) (hR : isR.map (fun i => X[i]?) = wr.map some) (hnC : va_nd isC = true) (hnR : va_nd isR = true) (hdis : ∀ i ∈ isR, i ∉ isC) : Jn ((X ++ pl) ++ sx) cx (fun w w3 => ∃ w2, w2 = (wr ++ w) ++ pl ∧ w3 = w2 ++ sx) := Jn.trans jn_l (jn_q isC isR hC hR hnC hnR hdis)
theorem Jn.imp {ws wc : va_W} {J J2 : va_W → va_W → Prop} (h : Jn ws wc J) (hi : ∀ w w2, J2 w w2 → J w w2) : Jn ws wc J2 := ⟨h.1, h.2.1, h.2.2.1, fun A D cl w w2 H H1 hP hD hk hF hP1 hD1 e => h.2.2.2 A D cl w w2 H H1 hP hD hk hF hP1 hD1 (hi w w2 e)⟩
/-- the same, the two rests told as one -/
theorem jn_pt {X cx wr pl sx : va_W} (isC isR : List Nat) (hC : isC.map (fun i => X[i]?) = cx.map some) (hR : isR.map (fun i => X[i]?) = wr.map some) (hnC : va_nd isC = true) (hnR : va_nd isR = true) (hdis : ∀ i ∈ isR, i ∉ isC) : Jn (X ++ (pl ++ sx)) (cx ++ pl) (fun w w3 => ∃ rx pl1, w = rx ++ pl1 ∧ w3 = (wr ++ rx) ++ (pl1 ++ sx)) := by
  rw [← List.append_assoc]
  refine (jn_ps isC isR hC hR hnC hnR hdis).imp (fun w w3 h => ?_)
  obtain ⟨rx, pl1, rfl, rfl⟩ := h
  exact ⟨_, ⟨rx, pl1, rfl, rfl⟩, (List.append_assoc _ _ _).symm⟩
