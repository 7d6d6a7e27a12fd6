/-! THE LAW: each of its calls; the loop -/
def wide (xs : Nat → Int32) (i : Nat) : Int64 := ((xs (i + 1)).toInt64 <<< ((nI 32).toInt64 &&& 63)) ||| ((xs (i + 2)).toInt64 &&& 4294967295)
def KK (κ : Kp) (Γ : Gm) (A : Nat → Prop) (Q : State → Prop) (b : Nat) (a q m : Nat → Nat) (cells slots i : Nat) : Prop := ∀ (z : Nat → Nat) (n : Nat) (hz : Nat → Nat → Nat) (ln : Nat) (sg : Nat → Nat) (b0 b1 : Bool) (sv : Nat → Nat → Nat) (wl wr : va_W), Iv z n hz ln sg b0 b1 sv → InC κ a q z n hz ln sg b0 b1 sv wl → InM κ m z n hz ln sg b0 b1 sv wr → G κ Γ A 4 cells slots Q (wl ++ wr) 770 [(0, .ref b), (1, .ref (a 0)), (2, .ref (m 0)), (3, .int (nI i))] []
section LAW
variable {κ : Kp} {Γ : Gm} {nm : String} {A : Nat → Prop} {cells slots i b L : Nat} {Q : State → Prop} {xs : Nat → Int32} {a q m z : Nat → Nat} {n : Nat} {hz : Nat → Nat → Nat} {ln : Nat} {sg : Nat → Nat} {b0 b1 : Bool} {sv : Nat → Nat → Nat} {wl wr : va_W}
set_option maxHeartbeats 1000000 in
theorem l_set (hc : Cx κ Γ A cL_law 4 RL nm ret room_1) (hX : va_X b L xs (gS Γ) (gS Γ).heap) (hbl : b < (gS Γ).heap.size) (hbA : ¬ A b) (hL : L ≤ 2048) (hil : i + 4 ≤ L) (hcell : cells + 40 ≤ 600000) (hslot : slots + 800 ≤ 7302250) (hi : Iv z n hz ln sg b0 b1 sv) (hC : InC κ a q z n hz ln sg b0 b1 sv wl) (hM : InM κ m z n hz ln sg b0 b1 sv wr) (kk : KK κ Γ A Q b a q m (cells + 40) (slots + 800) i) : G κ Γ A 4 cells slots Q (wl ++ wr) 152 [(0, .ref b), (1, .ref (a 0)), (2, .ref (m 0)), (3, .int (nI i))] [] := by
  refine g_aload_n hc 1 rfl rfl dL_law_152 (n := 153) rfl ?_
  refine g_aload_n hc 0 rfl rfl dL_law_153 (n := 154) rfl ?_
  refine g_iload_n hc 3 rfl rfl dL_law_154 (n := 155) rfl ?_
  refine g_iconst (v := nI 1) hc (by decide) dL_law_155 (n := 156) rfl ?_
  refine n_iadd (v := i + 1) hc rfl dL_law_156 (n := 157) rfl ?_
  refine g_xld (v := xs (i + 1)) hc hX hbl hbA (by omega) (by omega) rfl dL_law_157 (n := 158) rfl ?_
  refine g_aload_n hc 0 rfl rfl dL_law_158 (n := 159) rfl ?_
  refine g_iload_n hc 3 rfl rfl dL_law_159 (n := 160) rfl ?_
  refine g_iconst (v := nI 2) hc (by decide) dL_law_160 (n := 161) rfl ?_
  refine n_iadd (v := i + 2) hc rfl dL_law_161 (n := 162) rfl ?_
  refine g_xld (v := xs (i + 2)) hc hX hbl hbA (by omega) (by omega) rfl dL_law_162 (n := 163) rfl ?_
  obtain ⟨ans, z2, n2, hz2, ln2, sg2, b02, b12, sv2, hS4, hS5, hi2⟩ := p_set (l := gl Γ) hi hC hM (xs (i + 1)) (xs (i + 2))
  refine g_efL (As := [.int (xs (i + 1)), .int (xs (i + 2))]) (rest := []) hc hS4 q_X4_set k_ml_RL_13 rfl rfl (InC.rc hC) vw_4 (by omega) (by omega) (Nat.le_of_ble_eq_true rfl) dL_law_163 (n := 166) rfl (fun wl2 hC2 => ?_)
  refine g_aload_n hc 2 rfl rfl dL_law_166 (n := 167) rfl ?_
  refine g_aload_n hc 0 rfl rfl dL_law_167 (n := 168) rfl ?_
  refine g_iload_n hc 3 rfl rfl dL_law_168 (n := 169) rfl ?_
  refine g_iconst (v := nI 1) hc (by decide) dL_law_169 (n := 170) rfl ?_
  refine n_iadd (v := i + 1) hc rfl dL_law_170 (n := 171) rfl ?_
  refine g_xld (v := xs (i + 1)) hc hX hbl hbA (by omega) (by omega) rfl dL_law_171 (n := 172) rfl ?_
  refine g_aload_n hc 0 rfl rfl dL_law_172 (n := 173) rfl ?_
  refine g_iload_n hc 3 rfl rfl dL_law_173 (n := 174) rfl ?_
  refine g_iconst (v := nI 2) hc (by decide) dL_law_174 (n := 175) rfl ?_
  refine n_iadd (v := i + 2) hc rfl dL_law_175 (n := 176) rfl ?_
  refine g_xld (v := xs (i + 2)) hc hX hbl hbA (by omega) (by omega) rfl dL_law_176 (n := 177) rfl ?_
  refine g_efR (As := [.int (xs (i + 1)), .int (xs (i + 2))]) (rest := [.int (nI ans)]) hc hS5 q_X5_set k_ml_RL_17 rfl rfl (InM.rc hM) vw_5 (by omega) (by omega) (Nat.le_of_ble_eq_true rfl) dL_law_177 (n := 180) rfl (fun wr2 hM2 => ?_)
  refine g_icmp_eq hc dL_law_180 (tgt := 770) (by decide) (n := 183) rfl (fun _ => ?_) (fun e => absurd rfl e)
  exact kk z2 n2 hz2 ln2 sg2 b02 b12 sv2 wl2 wr2 hi2 hC2 hM2
set_option maxHeartbeats 1000000 in
theorem l_seed (hc : Cx κ Γ A cL_law 4 RL nm ret room_1) (hX : va_X b L xs (gS Γ) (gS Γ).heap) (hbl : b < (gS Γ).heap.size) (hbA : ¬ A b) (hL : L ≤ 2048) (hil : i + 4 ≤ L) (hcell : cells + 40 ≤ 600000) (hslot : slots + 800 ≤ 7302250) (hi : Iv z n hz ln sg b0 b1 sv) (hC : InC κ a q z n hz ln sg b0 b1 sv wl) (hM : InM κ m z n hz ln sg b0 b1 sv wr) (kk : KK κ Γ A Q b a q m (cells + 40) (slots + 800) i) : G κ Γ A 4 cells slots Q (wl ++ wr) 185 [(0, .ref b), (1, .ref (a 0)), (2, .ref (m 0)), (3, .int (nI i))] [] := by
  refine g_aload_n hc 1 rfl rfl dL_law_185 (n := 186) rfl ?_
  refine g_aload_n hc 0 rfl rfl dL_law_186 (n := 187) rfl ?_
  refine g_iload_n hc 3 rfl rfl dL_law_187 (n := 188) rfl ?_
  refine g_iconst (v := nI 1) hc (by decide) dL_law_188 (n := 189) rfl ?_
  refine n_iadd (v := i + 1) hc rfl dL_law_189 (n := 190) rfl ?_
  refine g_xld (v := xs (i + 1)) hc hX hbl hbA (by omega) (by omega) rfl dL_law_190 (n := 191) rfl ?_
  obtain ⟨ans, z2, n2, hz2, ln2, sg2, b02, b12, sv2, hS4, hS5, hi2⟩ := p_seed (l := gl Γ) hi hC hM (xs (i + 1))
  refine g_efL (As := [.int (xs (i + 1))]) (rest := []) hc hS4 q_X4_seed k_ml_RL_18 rfl rfl (InC.rc hC) vw_4 (by omega) (by omega) (Nat.le_of_ble_eq_true rfl) dL_law_191 (n := 194) rfl (fun wl2 hC2 => ?_)
  refine g_aload_n hc 2 rfl rfl dL_law_194 (n := 195) rfl ?_
  refine g_aload_n hc 0 rfl rfl dL_law_195 (n := 196) rfl ?_
  refine g_iload_n hc 3 rfl rfl dL_law_196 (n := 197) rfl ?_
  refine g_iconst (v := nI 1) hc (by decide) dL_law_197 (n := 198) rfl ?_
  refine n_iadd (v := i + 1) hc rfl dL_law_198 (n := 199) rfl ?_
  refine g_xld (v := xs (i + 1)) hc hX hbl hbA (by omega) (by omega) rfl dL_law_199 (n := 200) rfl ?_
  refine g_efR (As := [.int (xs (i + 1))]) (rest := [.int (nI ans)]) hc hS5 q_X5_seed k_ml_RL_22 rfl rfl (InM.rc hM) vw_5 (by omega) (by omega) (Nat.le_of_ble_eq_true rfl) dL_law_200 (n := 203) rfl (fun wr2 hM2 => ?_)
  refine g_icmp_eq hc dL_law_203 (tgt := 770) (by decide) (n := 206) rfl (fun _ => ?_) (fun e => absurd rfl e)
  exact kk z2 n2 hz2 ln2 sg2 b02 b12 sv2 wl2 wr2 hi2 hC2 hM2
set_option maxHeartbeats 1000000 in
theorem l_bend (hc : Cx κ Γ A cL_law 4 RL nm ret room_1) (hX : va_X b L xs (gS Γ) (gS Γ).heap) (hbl : b < (gS Γ).heap.size) (hbA : ¬ A b) (hL : L ≤ 2048) (hil : i + 4 ≤ L) (hcell : cells + 40 ≤ 600000) (hslot : slots + 800 ≤ 7302250) (hi : Iv z n hz ln sg b0 b1 sv) (hC : InC κ a q z n hz ln sg b0 b1 sv wl) (hM : InM κ m z n hz ln sg b0 b1 sv wr) (kk : KK κ Γ A Q b a q m (cells + 40) (slots + 800) i) : G κ Γ A 4 cells slots Q (wl ++ wr) 208 [(0, .ref b), (1, .ref (a 0)), (2, .ref (m 0)), (3, .int (nI i))] [] := by
  refine g_aload_n hc 1 rfl rfl dL_law_208 (n := 209) rfl ?_
  refine g_aload_n hc 0 rfl rfl dL_law_209 (n := 210) rfl ?_
  refine g_iload_n hc 3 rfl rfl dL_law_210 (n := 211) rfl ?_
  refine g_iconst (v := nI 1) hc (by decide) dL_law_211 (n := 212) rfl ?_
  refine n_iadd (v := i + 1) hc rfl dL_law_212 (n := 213) rfl ?_
  refine g_xld (v := xs (i + 1)) hc hX hbl hbA (by omega) (by omega) rfl dL_law_213 (n := 214) rfl ?_
  obtain ⟨ans, z2, n2, hz2, ln2, sg2, b02, b12, sv2, hS4, hS5, hi2⟩ := p_bend (l := gl Γ) hi hC hM (xs (i + 1))
  refine g_efL (As := [.int (xs (i + 1))]) (rest := []) hc hS4 q_X4_bend k_ml_RL_23 rfl rfl (InC.rc hC) vw_4 (by omega) (by omega) (Nat.le_of_ble_eq_true rfl) dL_law_214 (n := 217) rfl (fun wl2 hC2 => ?_)
  refine g_aload_n hc 2 rfl rfl dL_law_217 (n := 218) rfl ?_
  refine g_aload_n hc 0 rfl rfl dL_law_218 (n := 219) rfl ?_
  refine g_iload_n hc 3 rfl rfl dL_law_219 (n := 220) rfl ?_
  refine g_iconst (v := nI 1) hc (by decide) dL_law_220 (n := 221) rfl ?_
  refine n_iadd (v := i + 1) hc rfl dL_law_221 (n := 222) rfl ?_
  refine g_xld (v := xs (i + 1)) hc hX hbl hbA (by omega) (by omega) rfl dL_law_222 (n := 223) rfl ?_
  refine g_efR (As := [.int (xs (i + 1))]) (rest := [.int (nI ans)]) hc hS5 q_X5_bend k_ml_RL_26 rfl rfl (InM.rc hM) vw_5 (by omega) (by omega) (Nat.le_of_ble_eq_true rfl) dL_law_223 (n := 226) rfl (fun wr2 hM2 => ?_)
  refine g_icmp_eq hc dL_law_226 (tgt := 770) (by decide) (n := 229) rfl (fun _ => ?_) (fun e => absurd rfl e)
  exact kk z2 n2 hz2 ln2 sg2 b02 b12 sv2 wl2 wr2 hi2 hC2 hM2
set_option maxHeartbeats 1000000 in
theorem l_read (hc : Cx κ Γ A cL_law 4 RL nm ret room_1) (hX : va_X b L xs (gS Γ) (gS Γ).heap) (hbl : b < (gS Γ).heap.size) (hbA : ¬ A b) (hL : L ≤ 2048) (hil : i + 4 ≤ L) (hcell : cells + 40 ≤ 600000) (hslot : slots + 800 ≤ 7302250) (hi : Iv z n hz ln sg b0 b1 sv) (hC : InC κ a q z n hz ln sg b0 b1 sv wl) (hM : InM κ m z n hz ln sg b0 b1 sv wr) (kk : KK κ Γ A Q b a q m (cells + 40) (slots + 800) i) : G κ Γ A 4 cells slots Q (wl ++ wr) 231 [(0, .ref b), (1, .ref (a 0)), (2, .ref (m 0)), (3, .int (nI i))] [] := by
  refine g_aload_n hc 1 rfl rfl dL_law_231 (n := 232) rfl ?_
  obtain ⟨ans, z2, n2, hz2, ln2, sg2, b02, b12, sv2, hS4, hS5, hi2⟩ := p_read (l := gl Γ) hi hC hM 
  refine g_efL (As := []) (rest := []) hc hS4 q_X4_read k_ml_RL_27 rfl rfl (InC.rc hC) vw_4 (by omega) (by omega) (Nat.le_of_ble_eq_true rfl) dL_law_232 (n := 235) rfl (fun wl2 hC2 => ?_)
  refine g_aload_n hc 2 rfl rfl dL_law_235 (n := 236) rfl ?_
  refine g_efR (As := []) (rest := [.int (nI ans)]) hc hS5 q_X5_read k_ml_RL_31 rfl rfl (InM.rc hM) vw_5 (by omega) (by omega) (Nat.le_of_ble_eq_true rfl) dL_law_236 (n := 239) rfl (fun wr2 hM2 => ?_)
  refine g_icmp_eq hc dL_law_239 (tgt := 770) (by decide) (n := 242) rfl (fun _ => ?_) (fun e => absurd rfl e)
  exact kk z2 n2 hz2 ln2 sg2 b02 b12 sv2 wl2 wr2 hi2 hC2 hM2
set_option maxHeartbeats 1000000 in
theorem l_shuffle (hc : Cx κ Γ A cL_law 4 RL nm ret room_1) (hX : va_X b L xs (gS Γ) (gS Γ).heap) (hbl : b < (gS Γ).heap.size) (hbA : ¬ A b) (hL : L ≤ 2048) (hil : i + 4 ≤ L) (hcell : cells + 40 ≤ 600000) (hslot : slots + 800 ≤ 7302250) (hi : Iv z n hz ln sg b0 b1 sv) (hC : InC κ a q z n hz ln sg b0 b1 sv wl) (hM : InM κ m z n hz ln sg b0 b1 sv wr) (kk : KK κ Γ A Q b a q m (cells + 40) (slots + 800) i) : G κ Γ A 4 cells slots Q (wl ++ wr) 244 [(0, .ref b), (1, .ref (a 0)), (2, .ref (m 0)), (3, .int (nI i))] [] := by
  refine g_aload_n hc 1 rfl rfl dL_law_244 (n := 245) rfl ?_
  obtain ⟨ans, z2, n2, hz2, ln2, sg2, b02, b12, sv2, hS4, hS5, hi2⟩ := p_shuffle (l := gl Γ) hi hC hM 
  refine g_efL (As := []) (rest := []) hc hS4 q_X4_shuffle k_ml_RL_32 rfl rfl (InC.rc hC) vw_4 (by omega) (by omega) (Nat.le_of_ble_eq_true rfl) dL_law_245 (n := 248) rfl (fun wl2 hC2 => ?_)
  refine g_aload_n hc 2 rfl rfl dL_law_248 (n := 249) rfl ?_
  refine g_efR (As := []) (rest := [.int (nI ans)]) hc hS5 q_X5_shuffle k_ml_RL_35 rfl rfl (InM.rc hM) vw_5 (by omega) (by omega) (Nat.le_of_ble_eq_true rfl) dL_law_249 (n := 252) rfl (fun wr2 hM2 => ?_)
  refine g_icmp_eq hc dL_law_252 (tgt := 770) (by decide) (n := 255) rfl (fun _ => ?_) (fun e => absurd rfl e)
  exact kk z2 n2 hz2 ln2 sg2 b02 b12 sv2 wl2 wr2 hi2 hC2 hM2
set_option maxHeartbeats 1000000 in
theorem l_cut (hc : Cx κ Γ A cL_law 4 RL nm ret room_1) (hX : va_X b L xs (gS Γ) (gS Γ).heap) (hbl : b < (gS Γ).heap.size) (hbA : ¬ A b) (hL : L ≤ 2048) (hil : i + 4 ≤ L) (hcell : cells + 40 ≤ 600000) (hslot : slots + 800 ≤ 7302250) (hi : Iv z n hz ln sg b0 b1 sv) (hC : InC κ a q z n hz ln sg b0 b1 sv wl) (hM : InM κ m z n hz ln sg b0 b1 sv wr) (kk : KK κ Γ A Q b a q m (cells + 40) (slots + 800) i) : G κ Γ A 4 cells slots Q (wl ++ wr) 257 [(0, .ref b), (1, .ref (a 0)), (2, .ref (m 0)), (3, .int (nI i))] [] := by
  refine g_aload_n hc 1 rfl rfl dL_law_257 (n := 258) rfl ?_
  refine g_aload_n hc 0 rfl rfl dL_law_258 (n := 259) rfl ?_
  refine g_iload_n hc 3 rfl rfl dL_law_259 (n := 260) rfl ?_
  refine g_iconst (v := nI 1) hc (by decide) dL_law_260 (n := 261) rfl ?_
  refine n_iadd (v := i + 1) hc rfl dL_law_261 (n := 262) rfl ?_
  refine g_xld (v := xs (i + 1)) hc hX hbl hbA (by omega) (by omega) rfl dL_law_262 (n := 263) rfl ?_
  obtain ⟨ans, z2, n2, hz2, ln2, sg2, b02, b12, sv2, hS4, hS5, hi2⟩ := p_cut (l := gl Γ) hi hC hM (xs (i + 1))
  refine g_efL (As := [.int (xs (i + 1))]) (rest := []) hc hS4 q_X4_cut k_ml_RL_36 rfl rfl (InC.rc hC) vw_4 (by omega) (by omega) (Nat.le_of_ble_eq_true rfl) dL_law_263 (n := 266) rfl (fun wl2 hC2 => ?_)
  refine g_aload_n hc 2 rfl rfl dL_law_266 (n := 267) rfl ?_
  refine g_aload_n hc 0 rfl rfl dL_law_267 (n := 268) rfl ?_
  refine g_iload_n hc 3 rfl rfl dL_law_268 (n := 269) rfl ?_
  refine g_iconst (v := nI 1) hc (by decide) dL_law_269 (n := 270) rfl ?_
  refine n_iadd (v := i + 1) hc rfl dL_law_270 (n := 271) rfl ?_
  refine g_xld (v := xs (i + 1)) hc hX hbl hbA (by omega) (by omega) rfl dL_law_271 (n := 272) rfl ?_
  refine g_efR (As := [.int (xs (i + 1))]) (rest := [.int (nI ans)]) hc hS5 q_X5_cut k_ml_RL_39 rfl rfl (InM.rc hM) vw_5 (by omega) (by omega) (Nat.le_of_ble_eq_true rfl) dL_law_272 (n := 275) rfl (fun wr2 hM2 => ?_)
  refine g_icmp_eq hc dL_law_275 (tgt := 770) (by decide) (n := 278) rfl (fun _ => ?_) (fun e => absurd rfl e)
  exact kk z2 n2 hz2 ln2 sg2 b02 b12 sv2 wl2 wr2 hi2 hC2 hM2
set_option maxHeartbeats 1000000 in
theorem l_sort (hc : Cx κ Γ A cL_law 4 RL nm ret room_1) (hX : va_X b L xs (gS Γ) (gS Γ).heap) (hbl : b < (gS Γ).heap.size) (hbA : ¬ A b) (hL : L ≤ 2048) (hil : i + 4 ≤ L) (hcell : cells + 40 ≤ 600000) (hslot : slots + 800 ≤ 7302250) (hi : Iv z n hz ln sg b0 b1 sv) (hC : InC κ a q z n hz ln sg b0 b1 sv wl) (hM : InM κ m z n hz ln sg b0 b1 sv wr) (kk : KK κ Γ A Q b a q m (cells + 40) (slots + 800) i) : G κ Γ A 4 cells slots Q (wl ++ wr) 280 [(0, .ref b), (1, .ref (a 0)), (2, .ref (m 0)), (3, .int (nI i))] [] := by
  refine g_aload_n hc 1 rfl rfl dL_law_280 (n := 281) rfl ?_
  obtain ⟨ans, z2, n2, hz2, ln2, sg2, b02, b12, sv2, hS4, hS5, hi2⟩ := p_sort (l := gl Γ) hi hC hM 
  refine g_efL (As := []) (rest := []) hc hS4 q_X4_sort k_ml_RL_40 rfl rfl (InC.rc hC) vw_4 (by omega) (by omega) (Nat.le_of_ble_eq_true rfl) dL_law_281 (n := 284) rfl (fun wl2 hC2 => ?_)
  refine g_aload_n hc 2 rfl rfl dL_law_284 (n := 285) rfl ?_
  refine g_efR (As := []) (rest := [.int (nI ans)]) hc hS5 q_X5_sort k_ml_RL_43 rfl rfl (InM.rc hM) vw_5 (by omega) (by omega) (Nat.le_of_ble_eq_true rfl) dL_law_285 (n := 288) rfl (fun wr2 hM2 => ?_)
  refine g_icmp_eq hc dL_law_288 (tgt := 770) (by decide) (n := 291) rfl (fun _ => ?_) (fun e => absurd rfl e)
  exact kk z2 n2 hz2 ln2 sg2 b02 b12 sv2 wl2 wr2 hi2 hC2 hM2
set_option maxHeartbeats 1000000 in
theorem l_deal (hc : Cx κ Γ A cL_law 4 RL nm ret room_1) (hX : va_X b L xs (gS Γ) (gS Γ).heap) (hbl : b < (gS Γ).heap.size) (hbA : ¬ A b) (hL : L ≤ 2048) (hil : i + 4 ≤ L) (hcell : cells + 40 ≤ 600000) (hslot : slots + 800 ≤ 7302250) (hi : Iv z n hz ln sg b0 b1 sv) (hC : InC κ a q z n hz ln sg b0 b1 sv wl) (hM : InM κ m z n hz ln sg b0 b1 sv wr) (kk : KK κ Γ A Q b a q m (cells + 40) (slots + 800) i) : G κ Γ A 4 cells slots Q (wl ++ wr) 293 [(0, .ref b), (1, .ref (a 0)), (2, .ref (m 0)), (3, .int (nI i))] [] := by
  refine g_aload_n hc 1 rfl rfl dL_law_293 (n := 294) rfl ?_
  refine g_aload_n hc 0 rfl rfl dL_law_294 (n := 295) rfl ?_
  refine g_iload_n hc 3 rfl rfl dL_law_295 (n := 296) rfl ?_
  refine g_iconst (v := nI 1) hc (by decide) dL_law_296 (n := 297) rfl ?_
  refine n_iadd (v := i + 1) hc rfl dL_law_297 (n := 298) rfl ?_
  refine g_xld (v := xs (i + 1)) hc hX hbl hbA (by omega) (by omega) rfl dL_law_298 (n := 299) rfl ?_
  obtain ⟨ans, z2, n2, hz2, ln2, sg2, b02, b12, sv2, hS4, hS5, hi2⟩ := p_deal (l := gl Γ) hi hC hM (xs (i + 1))
  refine g_efL (As := [.int (xs (i + 1))]) (rest := []) hc hS4 q_X4_deal k_ml_RL_44 rfl rfl (InC.rc hC) vw_4 (by omega) (by omega) (Nat.le_of_ble_eq_true rfl) dL_law_299 (n := 302) rfl (fun wl2 hC2 => ?_)
  refine g_aload_n hc 2 rfl rfl dL_law_302 (n := 303) rfl ?_
  refine g_aload_n hc 0 rfl rfl dL_law_303 (n := 304) rfl ?_
  refine g_iload_n hc 3 rfl rfl dL_law_304 (n := 305) rfl ?_
  refine g_iconst (v := nI 1) hc (by decide) dL_law_305 (n := 306) rfl ?_
  refine n_iadd (v := i + 1) hc rfl dL_law_306 (n := 307) rfl ?_
  refine g_xld (v := xs (i + 1)) hc hX hbl hbA (by omega) (by omega) rfl dL_law_307 (n := 308) rfl ?_
  refine g_efR (As := [.int (xs (i + 1))]) (rest := [.int (nI ans)]) hc hS5 q_X5_deal k_ml_RL_47 rfl rfl (InM.rc hM) vw_5 (by omega) (by omega) (Nat.le_of_ble_eq_true rfl) dL_law_308 (n := 311) rfl (fun wr2 hM2 => ?_)
  refine g_icmp_eq hc dL_law_311 (tgt := 770) (by decide) (n := 314) rfl (fun _ => ?_) (fun e => absurd rfl e)
  exact kk z2 n2 hz2 ln2 sg2 b02 b12 sv2 wl2 wr2 hi2 hC2 hM2
set_option maxHeartbeats 1000000 in
theorem l_seal (hc : Cx κ Γ A cL_law 4 RL nm ret room_1) (hX : va_X b L xs (gS Γ) (gS Γ).heap) (hbl : b < (gS Γ).heap.size) (hbA : ¬ A b) (hL : L ≤ 2048) (hil : i + 4 ≤ L) (hcell : cells + 40 ≤ 600000) (hslot : slots + 800 ≤ 7302250) (hi : Iv z n hz ln sg b0 b1 sv) (hC : InC κ a q z n hz ln sg b0 b1 sv wl) (hM : InM κ m z n hz ln sg b0 b1 sv wr) (kk : KK κ Γ A Q b a q m (cells + 40) (slots + 800) i) : G κ Γ A 4 cells slots Q (wl ++ wr) 316 [(0, .ref b), (1, .ref (a 0)), (2, .ref (m 0)), (3, .int (nI i))] [] := by
  refine g_aload_n hc 1 rfl rfl dL_law_316 (n := 317) rfl ?_
  refine g_aload_n hc 0 rfl rfl dL_law_317 (n := 318) rfl ?_
  refine g_iload_n hc 3 rfl rfl dL_law_318 (n := 319) rfl ?_
  refine g_iconst (v := nI 1) hc (by decide) dL_law_319 (n := 320) rfl ?_
  refine n_iadd (v := i + 1) hc rfl dL_law_320 (n := 321) rfl ?_
  refine g_xld (v := xs (i + 1)) hc hX hbl hbA (by omega) (by omega) rfl dL_law_321 (n := 322) rfl ?_
  obtain ⟨ans, z2, n2, hz2, ln2, sg2, b02, b12, sv2, hS4, hS5, hi2⟩ := p_seal (l := gl Γ) hi hC hM (xs (i + 1))
  refine g_efL (As := [.int (xs (i + 1))]) (rest := []) hc hS4 q_X4_seal k_ml_RL_48 rfl rfl (InC.rc hC) vw_4 (by omega) (by omega) (Nat.le_of_ble_eq_true rfl) dL_law_322 (n := 325) rfl (fun wl2 hC2 => ?_)
  refine g_aload_n hc 2 rfl rfl dL_law_325 (n := 326) rfl ?_
  refine g_aload_n hc 0 rfl rfl dL_law_326 (n := 327) rfl ?_
  refine g_iload_n hc 3 rfl rfl dL_law_327 (n := 328) rfl ?_
  refine g_iconst (v := nI 1) hc (by decide) dL_law_328 (n := 329) rfl ?_
  refine n_iadd (v := i + 1) hc rfl dL_law_329 (n := 330) rfl ?_
  refine g_xld (v := xs (i + 1)) hc hX hbl hbA (by omega) (by omega) rfl dL_law_330 (n := 331) rfl ?_
  refine g_efR (As := [.int (xs (i + 1))]) (rest := [.int (nI ans)]) hc hS5 q_X5_seal k_ml_RL_51 rfl rfl (InM.rc hM) vw_5 (by omega) (by omega) (Nat.le_of_ble_eq_true rfl) dL_law_331 (n := 334) rfl (fun wr2 hM2 => ?_)
  refine g_icmp_eq hc dL_law_334 (tgt := 770) (by decide) (n := 337) rfl (fun _ => ?_) (fun e => absurd rfl e)
  exact kk z2 n2 hz2 ln2 sg2 b02 b12 sv2 wl2 wr2 hi2 hC2 hM2
set_option maxHeartbeats 1000000 in
theorem l_open (hc : Cx κ Γ A cL_law 4 RL nm ret room_1) (hX : va_X b L xs (gS Γ) (gS Γ).heap) (hbl : b < (gS Γ).heap.size) (hbA : ¬ A b) (hL : L ≤ 2048) (hil : i + 4 ≤ L) (hcell : cells + 40 ≤ 600000) (hslot : slots + 800 ≤ 7302250) (hi : Iv z n hz ln sg b0 b1 sv) (hC : InC κ a q z n hz ln sg b0 b1 sv wl) (hM : InM κ m z n hz ln sg b0 b1 sv wr) (kk : KK κ Γ A Q b a q m (cells + 40) (slots + 800) i) : G κ Γ A 4 cells slots Q (wl ++ wr) 339 [(0, .ref b), (1, .ref (a 0)), (2, .ref (m 0)), (3, .int (nI i))] [] := by
  refine g_aload_n hc 1 rfl rfl dL_law_339 (n := 340) rfl ?_
  refine g_aload_n hc 0 rfl rfl dL_law_340 (n := 341) rfl ?_
  refine g_iload_n hc 3 rfl rfl dL_law_341 (n := 342) rfl ?_
  refine g_iconst (v := nI 1) hc (by decide) dL_law_342 (n := 343) rfl ?_
  refine n_iadd (v := i + 1) hc rfl dL_law_343 (n := 344) rfl ?_
  refine g_xld (v := xs (i + 1)) hc hX hbl hbA (by omega) (by omega) rfl dL_law_344 (n := 345) rfl ?_
  obtain ⟨ans, z2, n2, hz2, ln2, sg2, b02, b12, sv2, hS4, hS5, hi2⟩ := p_open (l := gl Γ) hi hC hM (xs (i + 1))
  refine g_efL (As := [.int (xs (i + 1))]) (rest := []) hc hS4 q_X4_open k_ml_RL_52 rfl rfl (InC.rc hC) vw_4 (by omega) (by omega) (Nat.le_of_ble_eq_true rfl) dL_law_345 (n := 348) rfl (fun wl2 hC2 => ?_)
  refine g_aload_n hc 2 rfl rfl dL_law_348 (n := 349) rfl ?_
  refine g_aload_n hc 0 rfl rfl dL_law_349 (n := 350) rfl ?_
  refine g_iload_n hc 3 rfl rfl dL_law_350 (n := 351) rfl ?_
  refine g_iconst (v := nI 1) hc (by decide) dL_law_351 (n := 352) rfl ?_
  refine n_iadd (v := i + 1) hc rfl dL_law_352 (n := 353) rfl ?_
  refine g_xld (v := xs (i + 1)) hc hX hbl hbA (by omega) (by omega) rfl dL_law_353 (n := 354) rfl ?_
  refine g_efR (As := [.int (xs (i + 1))]) (rest := [.int (nI ans)]) hc hS5 q_X5_open k_ml_RL_55 rfl rfl (InM.rc hM) vw_5 (by omega) (by omega) (Nat.le_of_ble_eq_true rfl) dL_law_354 (n := 357) rfl (fun wr2 hM2 => ?_)
  refine g_icmp_eq hc dL_law_357 (tgt := 770) (by decide) (n := 360) rfl (fun _ => ?_) (fun e => absurd rfl e)
  exact kk z2 n2 hz2 ln2 sg2 b02 b12 sv2 wl2 wr2 hi2 hC2 hM2
set_option maxHeartbeats 1000000 in
theorem l_card (hc : Cx κ Γ A cL_law 4 RL nm ret room_1) (hX : va_X b L xs (gS Γ) (gS Γ).heap) (hbl : b < (gS Γ).heap.size) (hbA : ¬ A b) (hL : L ≤ 2048) (hil : i + 4 ≤ L) (hcell : cells + 40 ≤ 600000) (hslot : slots + 800 ≤ 7302250) (hi : Iv z n hz ln sg b0 b1 sv) (hC : InC κ a q z n hz ln sg b0 b1 sv wl) (hM : InM κ m z n hz ln sg b0 b1 sv wr) (kk : KK κ Γ A Q b a q m (cells + 40) (slots + 800) i) : G κ Γ A 4 cells slots Q (wl ++ wr) 362 [(0, .ref b), (1, .ref (a 0)), (2, .ref (m 0)), (3, .int (nI i))] [] := by
  refine g_aload_n hc 1 rfl rfl dL_law_362 (n := 363) rfl ?_
  refine g_aload_n hc 0 rfl rfl dL_law_363 (n := 364) rfl ?_
  refine g_iload_n hc 3 rfl rfl dL_law_364 (n := 365) rfl ?_
  refine g_iconst (v := nI 1) hc (by decide) dL_law_365 (n := 366) rfl ?_
  refine n_iadd (v := i + 1) hc rfl dL_law_366 (n := 367) rfl ?_
  refine g_xld (v := xs (i + 1)) hc hX hbl hbA (by omega) (by omega) rfl dL_law_367 (n := 368) rfl ?_
  obtain ⟨ans, z2, n2, hz2, ln2, sg2, b02, b12, sv2, hS4, hS5, hi2⟩ := p_card (l := gl Γ) hi hC hM (xs (i + 1))
  refine g_efL (As := [.int (xs (i + 1))]) (rest := []) hc hS4 q_X4_card k_ml_RL_56 rfl rfl (InC.rc hC) vw_4 (by omega) (by omega) (Nat.le_of_ble_eq_true rfl) dL_law_368 (n := 371) rfl (fun wl2 hC2 => ?_)
  refine g_aload_n hc 2 rfl rfl dL_law_371 (n := 372) rfl ?_
  refine g_aload_n hc 0 rfl rfl dL_law_372 (n := 373) rfl ?_
  refine g_iload_n hc 3 rfl rfl dL_law_373 (n := 374) rfl ?_
  refine g_iconst (v := nI 1) hc (by decide) dL_law_374 (n := 375) rfl ?_
  refine n_iadd (v := i + 1) hc rfl dL_law_375 (n := 376) rfl ?_
  refine g_xld (v := xs (i + 1)) hc hX hbl hbA (by omega) (by omega) rfl dL_law_376 (n := 377) rfl ?_
  refine g_efR (As := [.int (xs (i + 1))]) (rest := [.int (nI ans)]) hc hS5 q_X5_card k_ml_RL_59 rfl rfl (InM.rc hM) vw_5 (by omega) (by omega) (Nat.le_of_ble_eq_true rfl) dL_law_377 (n := 380) rfl (fun wr2 hM2 => ?_)
  refine g_icmp_eq hc dL_law_380 (tgt := 770) (by decide) (n := 383) rfl (fun _ => ?_) (fun e => absurd rfl e)
  exact kk z2 n2 hz2 ln2 sg2 b02 b12 sv2 wl2 wr2 hi2 hC2 hM2
set_option maxHeartbeats 1000000 in
theorem l_placeOf (hc : Cx κ Γ A cL_law 4 RL nm ret room_1) (hX : va_X b L xs (gS Γ) (gS Γ).heap) (hbl : b < (gS Γ).heap.size) (hbA : ¬ A b) (hL : L ≤ 2048) (hil : i + 4 ≤ L) (hcell : cells + 40 ≤ 600000) (hslot : slots + 800 ≤ 7302250) (hi : Iv z n hz ln sg b0 b1 sv) (hC : InC κ a q z n hz ln sg b0 b1 sv wl) (hM : InM κ m z n hz ln sg b0 b1 sv wr) (kk : KK κ Γ A Q b a q m (cells + 40) (slots + 800) i) : G κ Γ A 4 cells slots Q (wl ++ wr) 385 [(0, .ref b), (1, .ref (a 0)), (2, .ref (m 0)), (3, .int (nI i))] [] := by
  refine g_aload_n hc 1 rfl rfl dL_law_385 (n := 386) rfl ?_
  refine g_aload_n hc 0 rfl rfl dL_law_386 (n := 387) rfl ?_
  refine g_iload_n hc 3 rfl rfl dL_law_387 (n := 388) rfl ?_
  refine g_iconst (v := nI 1) hc (by decide) dL_law_388 (n := 389) rfl ?_
  refine n_iadd (v := i + 1) hc rfl dL_law_389 (n := 390) rfl ?_
  refine g_xld (v := xs (i + 1)) hc hX hbl hbA (by omega) (by omega) rfl dL_law_390 (n := 391) rfl ?_
  obtain ⟨ans, z2, n2, hz2, ln2, sg2, b02, b12, sv2, hS4, hS5, hi2⟩ := p_placeOf (l := gl Γ) hi hC hM (xs (i + 1))
  refine g_efL (As := [.int (xs (i + 1))]) (rest := []) hc hS4 q_X4_placeOf k_ml_RL_60 rfl rfl (InC.rc hC) vw_4 (by omega) (by omega) (Nat.le_of_ble_eq_true rfl) dL_law_391 (n := 394) rfl (fun wl2 hC2 => ?_)
  refine g_aload_n hc 2 rfl rfl dL_law_394 (n := 395) rfl ?_
  refine g_aload_n hc 0 rfl rfl dL_law_395 (n := 396) rfl ?_
  refine g_iload_n hc 3 rfl rfl dL_law_396 (n := 397) rfl ?_
  refine g_iconst (v := nI 1) hc (by decide) dL_law_397 (n := 398) rfl ?_
  refine n_iadd (v := i + 1) hc rfl dL_law_398 (n := 399) rfl ?_
  refine g_xld (v := xs (i + 1)) hc hX hbl hbA (by omega) (by omega) rfl dL_law_399 (n := 400) rfl ?_
  refine g_efR (As := [.int (xs (i + 1))]) (rest := [.int (nI ans)]) hc hS5 q_X5_placeOf k_ml_RL_63 rfl rfl (InM.rc hM) vw_5 (by omega) (by omega) (Nat.le_of_ble_eq_true rfl) dL_law_400 (n := 403) rfl (fun wr2 hM2 => ?_)
  refine g_icmp_eq hc dL_law_403 (tgt := 770) (by decide) (n := 406) rfl (fun _ => ?_) (fun e => absurd rfl e)
  exact kk z2 n2 hz2 ln2 sg2 b02 b12 sv2 wl2 wr2 hi2 hC2 hM2
set_option maxHeartbeats 1000000 in
theorem l_holder (hc : Cx κ Γ A cL_law 4 RL nm ret room_1) (hX : va_X b L xs (gS Γ) (gS Γ).heap) (hbl : b < (gS Γ).heap.size) (hbA : ¬ A b) (hL : L ≤ 2048) (hil : i + 4 ≤ L) (hcell : cells + 40 ≤ 600000) (hslot : slots + 800 ≤ 7302250) (hi : Iv z n hz ln sg b0 b1 sv) (hC : InC κ a q z n hz ln sg b0 b1 sv wl) (hM : InM κ m z n hz ln sg b0 b1 sv wr) (kk : KK κ Γ A Q b a q m (cells + 40) (slots + 800) i) : G κ Γ A 4 cells slots Q (wl ++ wr) 408 [(0, .ref b), (1, .ref (a 0)), (2, .ref (m 0)), (3, .int (nI i))] [] := by
  refine g_aload_n hc 1 rfl rfl dL_law_408 (n := 409) rfl ?_
  refine g_aload_n hc 0 rfl rfl dL_law_409 (n := 410) rfl ?_
  refine g_iload_n hc 3 rfl rfl dL_law_410 (n := 411) rfl ?_
  refine g_iconst (v := nI 1) hc (by decide) dL_law_411 (n := 412) rfl ?_
  refine n_iadd (v := i + 1) hc rfl dL_law_412 (n := 413) rfl ?_
  refine g_xld (v := xs (i + 1)) hc hX hbl hbA (by omega) (by omega) rfl dL_law_413 (n := 414) rfl ?_
  refine g_aload_n hc 0 rfl rfl dL_law_414 (n := 415) rfl ?_
  refine g_iload_n hc 3 rfl rfl dL_law_415 (n := 416) rfl ?_
  refine g_iconst (v := nI 2) hc (by decide) dL_law_416 (n := 417) rfl ?_
  refine n_iadd (v := i + 2) hc rfl dL_law_417 (n := 418) rfl ?_
  refine g_xld (v := xs (i + 2)) hc hX hbl hbA (by omega) (by omega) rfl dL_law_418 (n := 419) rfl ?_
  obtain ⟨ans, z2, n2, hz2, ln2, sg2, b02, b12, sv2, hS4, hS5, hi2⟩ := p_holder (l := gl Γ) hi hC hM (xs (i + 1)) (xs (i + 2))
  refine g_efL (As := [.int (xs (i + 1)), .int (xs (i + 2))]) (rest := []) hc hS4 q_X4_holder k_ml_RL_64 rfl rfl (InC.rc hC) vw_4 (by omega) (by omega) (Nat.le_of_ble_eq_true rfl) dL_law_419 (n := 422) rfl (fun wl2 hC2 => ?_)
  refine g_aload_n hc 2 rfl rfl dL_law_422 (n := 423) rfl ?_
  refine g_aload_n hc 0 rfl rfl dL_law_423 (n := 424) rfl ?_
  refine g_iload_n hc 3 rfl rfl dL_law_424 (n := 425) rfl ?_
  refine g_iconst (v := nI 1) hc (by decide) dL_law_425 (n := 426) rfl ?_
  refine n_iadd (v := i + 1) hc rfl dL_law_426 (n := 427) rfl ?_
  refine g_xld (v := xs (i + 1)) hc hX hbl hbA (by omega) (by omega) rfl dL_law_427 (n := 428) rfl ?_
  refine g_aload_n hc 0 rfl rfl dL_law_428 (n := 429) rfl ?_
  refine g_iload_n hc 3 rfl rfl dL_law_429 (n := 430) rfl ?_
  refine g_iconst (v := nI 2) hc (by decide) dL_law_430 (n := 431) rfl ?_
  refine n_iadd (v := i + 2) hc rfl dL_law_431 (n := 432) rfl ?_
  refine g_xld (v := xs (i + 2)) hc hX hbl hbA (by omega) (by omega) rfl dL_law_432 (n := 433) rfl ?_
  refine g_efR (As := [.int (xs (i + 1)), .int (xs (i + 2))]) (rest := [.int (nI ans)]) hc hS5 q_X5_holder k_ml_RL_67 rfl rfl (InM.rc hM) vw_5 (by omega) (by omega) (Nat.le_of_ble_eq_true rfl) dL_law_433 (n := 436) rfl (fun wr2 hM2 => ?_)
  refine g_icmp_eq hc dL_law_436 (tgt := 770) (by decide) (n := 439) rfl (fun _ => ?_) (fun e => absurd rfl e)
  exact kk z2 n2 hz2 ln2 sg2 b02 b12 sv2 wl2 wr2 hi2 hC2 hM2
set_option maxHeartbeats 1000000 in
theorem l_hand (hc : Cx κ Γ A cL_law 4 RL nm ret room_1) (hX : va_X b L xs (gS Γ) (gS Γ).heap) (hbl : b < (gS Γ).heap.size) (hbA : ¬ A b) (hL : L ≤ 2048) (hil : i + 4 ≤ L) (hcell : cells + 40 ≤ 600000) (hslot : slots + 800 ≤ 7302250) (hi : Iv z n hz ln sg b0 b1 sv) (hC : InC κ a q z n hz ln sg b0 b1 sv wl) (hM : InM κ m z n hz ln sg b0 b1 sv wr) (kk : KK κ Γ A Q b a q m (cells + 40) (slots + 800) i) : G κ Γ A 4 cells slots Q (wl ++ wr) 441 [(0, .ref b), (1, .ref (a 0)), (2, .ref (m 0)), (3, .int (nI i))] [] := by
  refine g_aload_n hc 1 rfl rfl dL_law_441 (n := 442) rfl ?_
  refine g_aload_n hc 0 rfl rfl dL_law_442 (n := 443) rfl ?_
  refine g_iload_n hc 3 rfl rfl dL_law_443 (n := 444) rfl ?_
  refine g_iconst (v := nI 1) hc (by decide) dL_law_444 (n := 445) rfl ?_
  refine n_iadd (v := i + 1) hc rfl dL_law_445 (n := 446) rfl ?_
  refine g_xld (v := xs (i + 1)) hc hX hbl hbA (by omega) (by omega) rfl dL_law_446 (n := 447) rfl ?_
  refine g_aload_n hc 0 rfl rfl dL_law_447 (n := 448) rfl ?_
  refine g_iload_n hc 3 rfl rfl dL_law_448 (n := 449) rfl ?_
  refine g_iconst (v := nI 2) hc (by decide) dL_law_449 (n := 450) rfl ?_
  refine n_iadd (v := i + 2) hc rfl dL_law_450 (n := 451) rfl ?_
  refine g_xld (v := xs (i + 2)) hc hX hbl hbA (by omega) (by omega) rfl dL_law_451 (n := 452) rfl ?_
  refine g_aload_n hc 0 rfl rfl dL_law_452 (n := 453) rfl ?_
  refine g_iload_n hc 3 rfl rfl dL_law_453 (n := 454) rfl ?_
  refine g_iconst (v := nI 3) hc (by decide) dL_law_454 (n := 455) rfl ?_
  refine n_iadd (v := i + 3) hc rfl dL_law_455 (n := 456) rfl ?_
  refine g_xld (v := xs (i + 3)) hc hX hbl hbA (by omega) (by omega) rfl dL_law_456 (n := 457) rfl ?_
  obtain ⟨ans, z2, n2, hz2, ln2, sg2, b02, b12, sv2, hS4, hS5, hi2⟩ := p_hand (l := gl Γ) hi hC hM (xs (i + 1)) (xs (i + 2)) (xs (i + 3))
  refine g_efL (As := [.int (xs (i + 1)), .int (xs (i + 2)), .int (xs (i + 3))]) (rest := []) hc hS4 q_X4_hand k_ml_RL_68 rfl rfl (InC.rc hC) vw_4 (by omega) (by omega) (Nat.le_of_ble_eq_true rfl) dL_law_457 (n := 460) rfl (fun wl2 hC2 => ?_)
  refine g_aload_n hc 2 rfl rfl dL_law_460 (n := 461) rfl ?_
  refine g_aload_n hc 0 rfl rfl dL_law_461 (n := 462) rfl ?_
  refine g_iload_n hc 3 rfl rfl dL_law_462 (n := 463) rfl ?_
  refine g_iconst (v := nI 1) hc (by decide) dL_law_463 (n := 464) rfl ?_
  refine n_iadd (v := i + 1) hc rfl dL_law_464 (n := 465) rfl ?_
  refine g_xld (v := xs (i + 1)) hc hX hbl hbA (by omega) (by omega) rfl dL_law_465 (n := 466) rfl ?_
  refine g_aload_n hc 0 rfl rfl dL_law_466 (n := 467) rfl ?_
  refine g_iload_n hc 3 rfl rfl dL_law_467 (n := 468) rfl ?_
  refine g_iconst (v := nI 2) hc (by decide) dL_law_468 (n := 469) rfl ?_
  refine n_iadd (v := i + 2) hc rfl dL_law_469 (n := 470) rfl ?_
  refine g_xld (v := xs (i + 2)) hc hX hbl hbA (by omega) (by omega) rfl dL_law_470 (n := 471) rfl ?_
  refine g_aload_n hc 0 rfl rfl dL_law_471 (n := 472) rfl ?_
  refine g_iload_n hc 3 rfl rfl dL_law_472 (n := 473) rfl ?_
  refine g_iconst (v := nI 3) hc (by decide) dL_law_473 (n := 474) rfl ?_
  refine n_iadd (v := i + 3) hc rfl dL_law_474 (n := 475) rfl ?_
  refine g_xld (v := xs (i + 3)) hc hX hbl hbA (by omega) (by omega) rfl dL_law_475 (n := 476) rfl ?_
  refine g_efR (As := [.int (xs (i + 1)), .int (xs (i + 2)), .int (xs (i + 3))]) (rest := [.int (nI ans)]) hc hS5 q_X5_hand k_ml_RL_72 rfl rfl (InM.rc hM) vw_5 (by omega) (by omega) (Nat.le_of_ble_eq_true rfl) dL_law_476 (n := 479) rfl (fun wr2 hM2 => ?_)
  refine g_icmp_eq hc dL_law_479 (tgt := 770) (by decide) (n := 482) rfl (fun _ => ?_) (fun e => absurd rfl e)
  exact kk z2 n2 hz2 ln2 sg2 b02 b12 sv2 wl2 wr2 hi2 hC2 hM2
set_option maxHeartbeats 1000000 in
theorem l_board (hc : Cx κ Γ A cL_law 4 RL nm ret room_1) (hX : va_X b L xs (gS Γ) (gS Γ).heap) (hbl : b < (gS Γ).heap.size) (hbA : ¬ A b) (hL : L ≤ 2048) (hil : i + 4 ≤ L) (hcell : cells + 40 ≤ 600000) (hslot : slots + 800 ≤ 7302250) (hi : Iv z n hz ln sg b0 b1 sv) (hC : InC κ a q z n hz ln sg b0 b1 sv wl) (hM : InM κ m z n hz ln sg b0 b1 sv wr) (kk : KK κ Γ A Q b a q m (cells + 40) (slots + 800) i) : G κ Γ A 4 cells slots Q (wl ++ wr) 484 [(0, .ref b), (1, .ref (a 0)), (2, .ref (m 0)), (3, .int (nI i))] [] := by
  refine g_aload_n hc 1 rfl rfl dL_law_484 (n := 485) rfl ?_
  refine g_aload_n hc 0 rfl rfl dL_law_485 (n := 486) rfl ?_
  refine g_iload_n hc 3 rfl rfl dL_law_486 (n := 487) rfl ?_
  refine g_iconst (v := nI 1) hc (by decide) dL_law_487 (n := 488) rfl ?_
  refine n_iadd (v := i + 1) hc rfl dL_law_488 (n := 489) rfl ?_
  refine g_xld (v := xs (i + 1)) hc hX hbl hbA (by omega) (by omega) rfl dL_law_489 (n := 490) rfl ?_
  refine g_aload_n hc 0 rfl rfl dL_law_490 (n := 491) rfl ?_
  refine g_iload_n hc 3 rfl rfl dL_law_491 (n := 492) rfl ?_
  refine g_iconst (v := nI 2) hc (by decide) dL_law_492 (n := 493) rfl ?_
  refine n_iadd (v := i + 2) hc rfl dL_law_493 (n := 494) rfl ?_
  refine g_xld (v := xs (i + 2)) hc hX hbl hbA (by omega) (by omega) rfl dL_law_494 (n := 495) rfl ?_
  obtain ⟨ans, z2, n2, hz2, ln2, sg2, b02, b12, sv2, hS4, hS5, hi2⟩ := p_board (l := gl Γ) hi hC hM (xs (i + 1)) (xs (i + 2))
  refine g_efL (As := [.int (xs (i + 1)), .int (xs (i + 2))]) (rest := []) hc hS4 q_X4_board k_ml_RL_73 rfl rfl (InC.rc hC) vw_4 (by omega) (by omega) (Nat.le_of_ble_eq_true rfl) dL_law_495 (n := 498) rfl (fun wl2 hC2 => ?_)
  refine g_aload_n hc 2 rfl rfl dL_law_498 (n := 499) rfl ?_
  refine g_aload_n hc 0 rfl rfl dL_law_499 (n := 500) rfl ?_
  refine g_iload_n hc 3 rfl rfl dL_law_500 (n := 501) rfl ?_
  refine g_iconst (v := nI 1) hc (by decide) dL_law_501 (n := 502) rfl ?_
  refine n_iadd (v := i + 1) hc rfl dL_law_502 (n := 503) rfl ?_
  refine g_xld (v := xs (i + 1)) hc hX hbl hbA (by omega) (by omega) rfl dL_law_503 (n := 504) rfl ?_
  refine g_aload_n hc 0 rfl rfl dL_law_504 (n := 505) rfl ?_
  refine g_iload_n hc 3 rfl rfl dL_law_505 (n := 506) rfl ?_
  refine g_iconst (v := nI 2) hc (by decide) dL_law_506 (n := 507) rfl ?_
  refine n_iadd (v := i + 2) hc rfl dL_law_507 (n := 508) rfl ?_
  refine g_xld (v := xs (i + 2)) hc hX hbl hbA (by omega) (by omega) rfl dL_law_508 (n := 509) rfl ?_
  refine g_efR (As := [.int (xs (i + 1)), .int (xs (i + 2))]) (rest := [.int (nI ans)]) hc hS5 q_X5_board k_ml_RL_76 rfl rfl (InM.rc hM) vw_5 (by omega) (by omega) (Nat.le_of_ble_eq_true rfl) dL_law_509 (n := 512) rfl (fun wr2 hM2 => ?_)
  refine g_icmp_eq hc dL_law_512 (tgt := 770) (by decide) (n := 515) rfl (fun _ => ?_) (fun e => absurd rfl e)
  exact kk z2 n2 hz2 ln2 sg2 b02 b12 sv2 wl2 wr2 hi2 hC2 hM2
set_option maxHeartbeats 1000000 in
theorem l_count (hc : Cx κ Γ A cL_law 4 RL nm ret room_1) (hX : va_X b L xs (gS Γ) (gS Γ).heap) (hbl : b < (gS Γ).heap.size) (hbA : ¬ A b) (hL : L ≤ 2048) (hil : i + 4 ≤ L) (hcell : cells + 40 ≤ 600000) (hslot : slots + 800 ≤ 7302250) (hi : Iv z n hz ln sg b0 b1 sv) (hC : InC κ a q z n hz ln sg b0 b1 sv wl) (hM : InM κ m z n hz ln sg b0 b1 sv wr) (kk : KK κ Γ A Q b a q m (cells + 40) (slots + 800) i) : G κ Γ A 4 cells slots Q (wl ++ wr) 517 [(0, .ref b), (1, .ref (a 0)), (2, .ref (m 0)), (3, .int (nI i))] [] := by
  refine g_aload_n hc 1 rfl rfl dL_law_517 (n := 518) rfl ?_
  refine g_aload_n hc 0 rfl rfl dL_law_518 (n := 519) rfl ?_
  refine g_iload_n hc 3 rfl rfl dL_law_519 (n := 520) rfl ?_
  refine g_iconst (v := nI 1) hc (by decide) dL_law_520 (n := 521) rfl ?_
  refine n_iadd (v := i + 1) hc rfl dL_law_521 (n := 522) rfl ?_
  refine g_xld (v := xs (i + 1)) hc hX hbl hbA (by omega) (by omega) rfl dL_law_522 (n := 523) rfl ?_
  obtain ⟨ans, z2, n2, hz2, ln2, sg2, b02, b12, sv2, hS4, hS5, hi2⟩ := p_count (l := gl Γ) hi hC hM (xs (i + 1))
  refine g_efL (As := [.int (xs (i + 1))]) (rest := []) hc hS4 q_X4_count k_ml_RL_77 rfl rfl (InC.rc hC) vw_4 (by omega) (by omega) (Nat.le_of_ble_eq_true rfl) dL_law_523 (n := 526) rfl (fun wl2 hC2 => ?_)
  refine g_aload_n hc 2 rfl rfl dL_law_526 (n := 527) rfl ?_
  refine g_aload_n hc 0 rfl rfl dL_law_527 (n := 528) rfl ?_
  refine g_iload_n hc 3 rfl rfl dL_law_528 (n := 529) rfl ?_
  refine g_iconst (v := nI 1) hc (by decide) dL_law_529 (n := 530) rfl ?_
  refine n_iadd (v := i + 1) hc rfl dL_law_530 (n := 531) rfl ?_
  refine g_xld (v := xs (i + 1)) hc hX hbl hbA (by omega) (by omega) rfl dL_law_531 (n := 532) rfl ?_
  refine g_efR (As := [.int (xs (i + 1))]) (rest := [.int (nI ans)]) hc hS5 q_X5_count k_ml_RL_80 rfl rfl (InM.rc hM) vw_5 (by omega) (by omega) (Nat.le_of_ble_eq_true rfl) dL_law_532 (n := 535) rfl (fun wr2 hM2 => ?_)
  refine g_icmp_eq hc dL_law_535 (tgt := 770) (by decide) (n := 538) rfl (fun _ => ?_) (fun e => absurd rfl e)
  exact kk z2 n2 hz2 ln2 sg2 b02 b12 sv2 wl2 wr2 hi2 hC2 hM2
set_option maxHeartbeats 1000000 in
theorem l_alike (hc : Cx κ Γ A cL_law 4 RL nm ret room_1) (hX : va_X b L xs (gS Γ) (gS Γ).heap) (hbl : b < (gS Γ).heap.size) (hbA : ¬ A b) (hL : L ≤ 2048) (hil : i + 4 ≤ L) (hcell : cells + 40 ≤ 600000) (hslot : slots + 800 ≤ 7302250) (hi : Iv z n hz ln sg b0 b1 sv) (hC : InC κ a q z n hz ln sg b0 b1 sv wl) (hM : InM κ m z n hz ln sg b0 b1 sv wr) (kk : KK κ Γ A Q b a q m (cells + 40) (slots + 800) i) : G κ Γ A 4 cells slots Q (wl ++ wr) 540 [(0, .ref b), (1, .ref (a 0)), (2, .ref (m 0)), (3, .int (nI i))] [] := by
  refine g_aload_n hc 1 rfl rfl dL_law_540 (n := 541) rfl ?_
  refine g_aload_n hc 0 rfl rfl dL_law_541 (n := 542) rfl ?_
  refine g_iload_n hc 3 rfl rfl dL_law_542 (n := 543) rfl ?_
  refine g_iconst (v := nI 1) hc (by decide) dL_law_543 (n := 544) rfl ?_
  refine n_iadd (v := i + 1) hc rfl dL_law_544 (n := 545) rfl ?_
  refine g_xld (v := xs (i + 1)) hc hX hbl hbA (by omega) (by omega) rfl dL_law_545 (n := 546) rfl ?_
  refine g_aload_n hc 0 rfl rfl dL_law_546 (n := 547) rfl ?_
  refine g_iload_n hc 3 rfl rfl dL_law_547 (n := 548) rfl ?_
  refine g_iconst (v := nI 2) hc (by decide) dL_law_548 (n := 549) rfl ?_
  refine n_iadd (v := i + 2) hc rfl dL_law_549 (n := 550) rfl ?_
  refine g_xld (v := xs (i + 2)) hc hX hbl hbA (by omega) (by omega) rfl dL_law_550 (n := 551) rfl ?_
  obtain ⟨ans, z2, n2, hz2, ln2, sg2, b02, b12, sv2, hS4, hS5, hi2⟩ := p_alike (l := gl Γ) hi hC hM (xs (i + 1)) (xs (i + 2))
  refine g_efL (As := [.int (xs (i + 1)), .int (xs (i + 2))]) (rest := []) hc hS4 q_X4_alike k_ml_RL_81 rfl rfl (InC.rc hC) vw_4 (by omega) (by omega) (Nat.le_of_ble_eq_true rfl) dL_law_551 (n := 554) rfl (fun wl2 hC2 => ?_)
  refine g_aload_n hc 2 rfl rfl dL_law_554 (n := 555) rfl ?_
  refine g_aload_n hc 0 rfl rfl dL_law_555 (n := 556) rfl ?_
  refine g_iload_n hc 3 rfl rfl dL_law_556 (n := 557) rfl ?_
  refine g_iconst (v := nI 1) hc (by decide) dL_law_557 (n := 558) rfl ?_
  refine n_iadd (v := i + 1) hc rfl dL_law_558 (n := 559) rfl ?_
  refine g_xld (v := xs (i + 1)) hc hX hbl hbA (by omega) (by omega) rfl dL_law_559 (n := 560) rfl ?_
  refine g_aload_n hc 0 rfl rfl dL_law_560 (n := 561) rfl ?_
  refine g_iload_n hc 3 rfl rfl dL_law_561 (n := 562) rfl ?_
  refine g_iconst (v := nI 2) hc (by decide) dL_law_562 (n := 563) rfl ?_
  refine n_iadd (v := i + 2) hc rfl dL_law_563 (n := 564) rfl ?_
  refine g_xld (v := xs (i + 2)) hc hX hbl hbA (by omega) (by omega) rfl dL_law_564 (n := 565) rfl ?_
  refine g_efR (As := [.int (xs (i + 1)), .int (xs (i + 2))]) (rest := [.int (nI ans)]) hc hS5 q_X5_alike k_ml_RL_84 rfl rfl (InM.rc hM) vw_5 (by omega) (by omega) (Nat.le_of_ble_eq_true rfl) dL_law_565 (n := 568) rfl (fun wr2 hM2 => ?_)
  refine g_icmp_eq hc dL_law_568 (tgt := 770) (by decide) (n := 571) rfl (fun _ => ?_) (fun e => absurd rfl e)
  exact kk z2 n2 hz2 ln2 sg2 b02 b12 sv2 wl2 wr2 hi2 hC2 hM2
set_option maxHeartbeats 1000000 in
theorem l_ifRiffled (hc : Cx κ Γ A cL_law 4 RL nm ret room_1) (hX : va_X b L xs (gS Γ) (gS Γ).heap) (hbl : b < (gS Γ).heap.size) (hbA : ¬ A b) (hL : L ≤ 2048) (hil : i + 4 ≤ L) (hcell : cells + 40 ≤ 600000) (hslot : slots + 800 ≤ 7302250) (hi : Iv z n hz ln sg b0 b1 sv) (hC : InC κ a q z n hz ln sg b0 b1 sv wl) (hM : InM κ m z n hz ln sg b0 b1 sv wr) (kk : KK κ Γ A Q b a q m (cells + 40) (slots + 800) i) : G κ Γ A 4 cells slots Q (wl ++ wr) 573 [(0, .ref b), (1, .ref (a 0)), (2, .ref (m 0)), (3, .int (nI i))] [] := by
  refine g_aload_n hc 1 rfl rfl dL_law_573 (n := 574) rfl ?_
  refine g_aload_n hc 0 rfl rfl dL_law_574 (n := 575) rfl ?_
  refine g_iload_n hc 3 rfl rfl dL_law_575 (n := 576) rfl ?_
  refine g_iconst (v := nI 1) hc (by decide) dL_law_576 (n := 577) rfl ?_
  refine n_iadd (v := i + 1) hc rfl dL_law_577 (n := 578) rfl ?_
  refine g_xld (v := xs (i + 1)) hc hX hbl hbA (by omega) (by omega) rfl dL_law_578 (n := 579) rfl ?_
  refine g_aload_n hc 0 rfl rfl dL_law_579 (n := 580) rfl ?_
  refine g_iload_n hc 3 rfl rfl dL_law_580 (n := 581) rfl ?_
  refine g_iconst (v := nI 2) hc (by decide) dL_law_581 (n := 582) rfl ?_
  refine n_iadd (v := i + 2) hc rfl dL_law_582 (n := 583) rfl ?_
  refine g_xld (v := xs (i + 2)) hc hX hbl hbA (by omega) (by omega) rfl dL_law_583 (n := 584) rfl ?_
  obtain ⟨ans, z2, n2, hz2, ln2, sg2, b02, b12, sv2, hS4, hS5, hi2⟩ := p_ifRiffled (l := gl Γ) hi hC hM (xs (i + 1)) (xs (i + 2))
  refine g_efL (As := [.int (xs (i + 1)), .int (xs (i + 2))]) (rest := []) hc hS4 q_X4_ifRiffled k_ml_RL_85 rfl rfl (InC.rc hC) vw_4 (by omega) (by omega) (Nat.le_of_ble_eq_true rfl) dL_law_584 (n := 587) rfl (fun wl2 hC2 => ?_)
  refine g_aload_n hc 2 rfl rfl dL_law_587 (n := 588) rfl ?_
  refine g_aload_n hc 0 rfl rfl dL_law_588 (n := 589) rfl ?_
  refine g_iload_n hc 3 rfl rfl dL_law_589 (n := 590) rfl ?_
  refine g_iconst (v := nI 1) hc (by decide) dL_law_590 (n := 591) rfl ?_
  refine n_iadd (v := i + 1) hc rfl dL_law_591 (n := 592) rfl ?_
  refine g_xld (v := xs (i + 1)) hc hX hbl hbA (by omega) (by omega) rfl dL_law_592 (n := 593) rfl ?_
  refine g_aload_n hc 0 rfl rfl dL_law_593 (n := 594) rfl ?_
  refine g_iload_n hc 3 rfl rfl dL_law_594 (n := 595) rfl ?_
  refine g_iconst (v := nI 2) hc (by decide) dL_law_595 (n := 596) rfl ?_
  refine n_iadd (v := i + 2) hc rfl dL_law_596 (n := 597) rfl ?_
  refine g_xld (v := xs (i + 2)) hc hX hbl hbA (by omega) (by omega) rfl dL_law_597 (n := 598) rfl ?_
  refine g_efR (As := [.int (xs (i + 1)), .int (xs (i + 2))]) (rest := [.int (nI ans)]) hc hS5 q_X5_ifRiffled k_ml_RL_88 rfl rfl (InM.rc hM) vw_5 (by omega) (by omega) (Nat.le_of_ble_eq_true rfl) dL_law_598 (n := 601) rfl (fun wr2 hM2 => ?_)
  refine g_icmp_eq hc dL_law_601 (tgt := 770) (by decide) (n := 604) rfl (fun _ => ?_) (fun e => absurd rfl e)
  exact kk z2 n2 hz2 ln2 sg2 b02 b12 sv2 wl2 wr2 hi2 hC2 hM2
set_option maxHeartbeats 1000000 in
theorem l_needed (hc : Cx κ Γ A cL_law 4 RL nm ret room_1) (hX : va_X b L xs (gS Γ) (gS Γ).heap) (hbl : b < (gS Γ).heap.size) (hbA : ¬ A b) (hL : L ≤ 2048) (hil : i + 4 ≤ L) (hcell : cells + 40 ≤ 600000) (hslot : slots + 800 ≤ 7302250) (hi : Iv z n hz ln sg b0 b1 sv) (hC : InC κ a q z n hz ln sg b0 b1 sv wl) (hM : InM κ m z n hz ln sg b0 b1 sv wr) (kk : KK κ Γ A Q b a q m (cells + 40) (slots + 800) i) : G κ Γ A 4 cells slots Q (wl ++ wr) 606 [(0, .ref b), (1, .ref (a 0)), (2, .ref (m 0)), (3, .int (nI i))] [] := by
  refine g_aload_n hc 1 rfl rfl dL_law_606 (n := 607) rfl ?_
  obtain ⟨ans, z2, n2, hz2, ln2, sg2, b02, b12, sv2, hS4, hS5, hi2⟩ := p_needed (l := gl Γ) hi hC hM 
  refine g_efL (As := []) (rest := []) hc hS4 q_X4_needed k_ml_RL_89 rfl rfl (InC.rc hC) vw_4 (by omega) (by omega) (Nat.le_of_ble_eq_true rfl) dL_law_607 (n := 610) rfl (fun wl2 hC2 => ?_)
  refine g_aload_n hc 2 rfl rfl dL_law_610 (n := 611) rfl ?_
  refine g_efR (As := []) (rest := [.int (nI ans)]) hc hS5 q_X5_needed k_ml_RL_92 rfl rfl (InM.rc hM) vw_5 (by omega) (by omega) (Nat.le_of_ble_eq_true rfl) dL_law_611 (n := 614) rfl (fun wr2 hM2 => ?_)
  refine g_icmp_eq hc dL_law_614 (tgt := 770) (by decide) (n := 617) rfl (fun _ => ?_) (fun e => absurd rfl e)
  exact kk z2 n2 hz2 ln2 sg2 b02 b12 sv2 wl2 wr2 hi2 hC2 hM2
set_option maxHeartbeats 1000000 in
theorem l_worstBend (hc : Cx κ Γ A cL_law 4 RL nm ret room_1) (hX : va_X b L xs (gS Γ) (gS Γ).heap) (hbl : b < (gS Γ).heap.size) (hbA : ¬ A b) (hL : L ≤ 2048) (hil : i + 4 ≤ L) (hcell : cells + 40 ≤ 600000) (hslot : slots + 800 ≤ 7302250) (hi : Iv z n hz ln sg b0 b1 sv) (hC : InC κ a q z n hz ln sg b0 b1 sv wl) (hM : InM κ m z n hz ln sg b0 b1 sv wr) (kk : KK κ Γ A Q b a q m (cells + 40) (slots + 800) i) : G κ Γ A 4 cells slots Q (wl ++ wr) 619 [(0, .ref b), (1, .ref (a 0)), (2, .ref (m 0)), (3, .int (nI i))] [] := by
  refine g_aload_n hc 1 rfl rfl dL_law_619 (n := 620) rfl ?_
  obtain ⟨ans, z2, n2, hz2, ln2, sg2, b02, b12, sv2, hS4, hS5, hi2⟩ := p_worstBend (l := gl Γ) hi hC hM 
  refine g_efL (As := []) (rest := []) hc hS4 q_X4_worstBend k_ml_RL_93 rfl rfl (InC.rc hC) vw_4 (by omega) (by omega) (Nat.le_of_ble_eq_true rfl) dL_law_620 (n := 623) rfl (fun wl2 hC2 => ?_)
  refine g_aload_n hc 2 rfl rfl dL_law_623 (n := 624) rfl ?_
  refine g_efR (As := []) (rest := [.int (nI ans)]) hc hS5 q_X5_worstBend k_ml_RL_96 rfl rfl (InM.rc hM) vw_5 (by omega) (by omega) (Nat.le_of_ble_eq_true rfl) dL_law_624 (n := 627) rfl (fun wr2 hM2 => ?_)
  refine g_icmp_eq hc dL_law_627 (tgt := 770) (by decide) (n := 630) rfl (fun _ => ?_) (fun e => absurd rfl e)
  exact kk z2 n2 hz2 ln2 sg2 b02 b12 sv2 wl2 wr2 hi2 hC2 hM2
set_option maxHeartbeats 1000000 in
theorem l_put (hc : Cx κ Γ A cL_law 4 RL nm ret room_1) (hX : va_X b L xs (gS Γ) (gS Γ).heap) (hbl : b < (gS Γ).heap.size) (hbA : ¬ A b) (hL : L ≤ 2048) (hil : i + 4 ≤ L) (hcell : cells + 40 ≤ 600000) (hslot : slots + 800 ≤ 7302250) (hi : Iv z n hz ln sg b0 b1 sv) (hC : InC κ a q z n hz ln sg b0 b1 sv wl) (hM : InM κ m z n hz ln sg b0 b1 sv wr) (kk : KK κ Γ A Q b a q m (cells + 40) (slots + 800) i) : G κ Γ A 4 cells slots Q (wl ++ wr) 632 [(0, .ref b), (1, .ref (a 0)), (2, .ref (m 0)), (3, .int (nI i))] [] := by
  refine g_aload_n hc 1 rfl rfl dL_law_632 (n := 633) rfl ?_
  refine g_aload_n hc 0 rfl rfl dL_law_633 (n := 634) rfl ?_
  refine g_iload_n hc 3 rfl rfl dL_law_634 (n := 635) rfl ?_
  refine g_iconst (v := nI 1) hc (by decide) dL_law_635 (n := 636) rfl ?_
  refine n_iadd (v := i + 1) hc rfl dL_law_636 (n := 637) rfl ?_
  refine g_xld (v := xs (i + 1)) hc hX hbl hbA (by omega) (by omega) rfl dL_law_637 (n := 638) rfl ?_
  refine g_i2l hc rfl dL_law_638 (n := 639) rfl ?_
  refine g_bipush (v := nI 32) hc (by decide) dL_law_639 (n := 641) rfl ?_
  refine g_lshl hc rfl dL_law_641 (n := 642) rfl ?_
  refine g_aload_n hc 0 rfl rfl dL_law_642 (n := 643) rfl ?_
  refine g_iload_n hc 3 rfl rfl dL_law_643 (n := 644) rfl ?_
  refine g_iconst (v := nI 2) hc (by decide) dL_law_644 (n := 645) rfl ?_
  refine n_iadd (v := i + 2) hc rfl dL_law_645 (n := 646) rfl ?_
  refine g_xld (v := xs (i + 2)) hc hX hbl hbA (by omega) (by omega) rfl dL_law_646 (n := 647) rfl ?_
  refine g_i2l hc rfl dL_law_647 (n := 648) rfl ?_
  refine g_ldc2 hc k_kc_RL_97 rfl dL_law_648 (n := 651) rfl ?_
  refine g_land hc rfl dL_law_651 (n := 652) rfl ?_
  refine g_lor (v := wide xs i) hc rfl dL_law_652 (n := 653) rfl ?_
  obtain ⟨w, hw, ew⟩ := wb_of (wide xs i)
  refine g_topl ew ?_
  obtain ⟨ans, z2, n2, hz2, ln2, sg2, b02, b12, sv2, hS4, hS5, hi2⟩ := p_put (l := gl Γ) hi hC hM w hw
  refine g_efL (As := [.long (lN w)]) (rest := []) hc hS4 q_X4_put k_ml_RL_99 rfl rfl (InC.rc hC) vw_4 (by omega) (by omega) (Nat.le_of_ble_eq_true rfl) dL_law_653 (n := 656) rfl (fun wl2 hC2 => ?_)
  refine g_aload_n hc 2 rfl rfl dL_law_656 (n := 657) rfl ?_
  refine g_aload_n hc 0 rfl rfl dL_law_657 (n := 658) rfl ?_
  refine g_iload_n hc 3 rfl rfl dL_law_658 (n := 659) rfl ?_
  refine g_iconst (v := nI 1) hc (by decide) dL_law_659 (n := 660) rfl ?_
  refine n_iadd (v := i + 1) hc rfl dL_law_660 (n := 661) rfl ?_
  refine g_xld (v := xs (i + 1)) hc hX hbl hbA (by omega) (by omega) rfl dL_law_661 (n := 662) rfl ?_
  refine g_i2l hc rfl dL_law_662 (n := 663) rfl ?_
  refine g_bipush (v := nI 32) hc (by decide) dL_law_663 (n := 665) rfl ?_
  refine g_lshl hc rfl dL_law_665 (n := 666) rfl ?_
  refine g_aload_n hc 0 rfl rfl dL_law_666 (n := 667) rfl ?_
  refine g_iload_n hc 3 rfl rfl dL_law_667 (n := 668) rfl ?_
  refine g_iconst (v := nI 2) hc (by decide) dL_law_668 (n := 669) rfl ?_
  refine n_iadd (v := i + 2) hc rfl dL_law_669 (n := 670) rfl ?_
  refine g_xld (v := xs (i + 2)) hc hX hbl hbA (by omega) (by omega) rfl dL_law_670 (n := 671) rfl ?_
  refine g_i2l hc rfl dL_law_671 (n := 672) rfl ?_
  refine g_ldc2 hc k_kc_RL_97 rfl dL_law_672 (n := 675) rfl ?_
  refine g_land hc rfl dL_law_675 (n := 676) rfl ?_
  refine g_lor (v := wide xs i) hc rfl dL_law_676 (n := 677) rfl ?_
  refine g_topl ew ?_
  refine g_efR (As := [.long (lN w)]) (rest := [.int (nI ans)]) hc hS5 q_X5_put k_ml_RL_103 rfl rfl (InM.rc hM) vw_5 (by omega) (by omega) (Nat.le_of_ble_eq_true rfl) dL_law_677 (n := 680) rfl (fun wr2 hM2 => ?_)
  refine g_icmp_eq hc dL_law_680 (tgt := 770) (by decide) (n := 683) rfl (fun _ => ?_) (fun e => absurd rfl e)
  exact kk z2 n2 hz2 ln2 sg2 b02 b12 sv2 wl2 wr2 hi2 hC2 hM2
set_option maxHeartbeats 1000000 in
theorem l_wipe (hc : Cx κ Γ A cL_law 4 RL nm ret room_1) (hX : va_X b L xs (gS Γ) (gS Γ).heap) (hbl : b < (gS Γ).heap.size) (hbA : ¬ A b) (hL : L ≤ 2048) (hil : i + 4 ≤ L) (hcell : cells + 40 ≤ 600000) (hslot : slots + 800 ≤ 7302250) (hi : Iv z n hz ln sg b0 b1 sv) (hC : InC κ a q z n hz ln sg b0 b1 sv wl) (hM : InM κ m z n hz ln sg b0 b1 sv wr) (kk : KK κ Γ A Q b a q m (cells + 40) (slots + 800) i) : G κ Γ A 4 cells slots Q (wl ++ wr) 685 [(0, .ref b), (1, .ref (a 0)), (2, .ref (m 0)), (3, .int (nI i))] [] := by
  refine g_aload_n hc 1 rfl rfl dL_law_685 (n := 686) rfl ?_
  obtain ⟨ans, z2, n2, hz2, ln2, sg2, b02, b12, sv2, hS4, hS5, hi2⟩ := p_wipe (l := gl Γ) hi hC hM 
  refine g_efL (As := []) (rest := []) hc hS4 q_X4_wipe k_ml_RL_104 rfl rfl (InC.rc hC) vw_4 (by omega) (by omega) (Nat.le_of_ble_eq_true rfl) dL_law_686 (n := 689) rfl (fun wl2 hC2 => ?_)
  refine g_aload_n hc 2 rfl rfl dL_law_689 (n := 690) rfl ?_
  refine g_efR (As := []) (rest := [.int (nI ans)]) hc hS5 q_X5_wipe k_ml_RL_107 rfl rfl (InM.rc hM) vw_5 (by omega) (by omega) (Nat.le_of_ble_eq_true rfl) dL_law_690 (n := 693) rfl (fun wr2 hM2 => ?_)
  refine g_icmp_eq hc dL_law_693 (tgt := 770) (by decide) (n := 696) rfl (fun _ => ?_) (fun e => absurd rfl e)
  exact kk z2 n2 hz2 ln2 sg2 b02 b12 sv2 wl2 wr2 hi2 hC2 hM2
set_option maxHeartbeats 1000000 in
theorem l_fault (hc : Cx κ Γ A cL_law 4 RL nm ret room_1) (hX : va_X b L xs (gS Γ) (gS Γ).heap) (hbl : b < (gS Γ).heap.size) (hbA : ¬ A b) (hL : L ≤ 2048) (hil : i + 4 ≤ L) (hcell : cells + 40 ≤ 600000) (hslot : slots + 800 ≤ 7302250) (hi : Iv z n hz ln sg b0 b1 sv) (hC : InC κ a q z n hz ln sg b0 b1 sv wl) (hM : InM κ m z n hz ln sg b0 b1 sv wr) (kk : KK κ Γ A Q b a q m (cells + 40) (slots + 800) i) : G κ Γ A 4 cells slots Q (wl ++ wr) 698 [(0, .ref b), (1, .ref (a 0)), (2, .ref (m 0)), (3, .int (nI i))] [] := by
  refine g_aload_n hc 1 rfl rfl dL_law_698 (n := 699) rfl ?_
  obtain ⟨ans, z2, n2, hz2, ln2, sg2, b02, b12, sv2, hS4, hS5, hi2⟩ := p_fault (l := gl Γ) hi hC hM 
  refine g_efL (As := []) (rest := []) hc hS4 q_X4_fault k_ml_RL_108 rfl rfl (InC.rc hC) vw_4 (by omega) (by omega) (Nat.le_of_ble_eq_true rfl) dL_law_699 (n := 702) rfl (fun wl2 hC2 => ?_)
  refine g_aload_n hc 2 rfl rfl dL_law_702 (n := 703) rfl ?_
  refine g_efR (As := []) (rest := [.int (nI ans)]) hc hS5 q_X5_fault k_ml_RL_111 rfl rfl (InM.rc hM) vw_5 (by omega) (by omega) (Nat.le_of_ble_eq_true rfl) dL_law_703 (n := 706) rfl (fun wr2 hM2 => ?_)
  refine g_icmp_eq hc dL_law_706 (tgt := 770) (by decide) (n := 709) rfl (fun _ => ?_) (fun e => absurd rfl e)
  exact kk z2 n2 hz2 ln2 sg2 b02 b12 sv2 wl2 wr2 hi2 hC2 hM2
set_option maxHeartbeats 1000000 in
theorem l_undo (hc : Cx κ Γ A cL_law 4 RL nm ret room_1) (hX : va_X b L xs (gS Γ) (gS Γ).heap) (hbl : b < (gS Γ).heap.size) (hbA : ¬ A b) (hL : L ≤ 2048) (hil : i + 4 ≤ L) (hcell : cells + 40 ≤ 600000) (hslot : slots + 800 ≤ 7302250) (hi : Iv z n hz ln sg b0 b1 sv) (hC : InC κ a q z n hz ln sg b0 b1 sv wl) (hM : InM κ m z n hz ln sg b0 b1 sv wr) (kk : KK κ Γ A Q b a q m (cells + 40) (slots + 800) i) : G κ Γ A 4 cells slots Q (wl ++ wr) 711 [(0, .ref b), (1, .ref (a 0)), (2, .ref (m 0)), (3, .int (nI i))] [] := by
  refine g_aload_n hc 1 rfl rfl dL_law_711 (n := 712) rfl ?_
  obtain ⟨ans, z2, n2, hz2, ln2, sg2, b02, b12, sv2, hS4, hS5, hi2⟩ := p_undo (l := gl Γ) hi hC hM 
  refine g_efL (As := []) (rest := []) hc hS4 q_X4_undo k_ml_RL_112 rfl rfl (InC.rc hC) vw_4 (by omega) (by omega) (Nat.le_of_ble_eq_true rfl) dL_law_712 (n := 715) rfl (fun wl2 hC2 => ?_)
  refine g_aload_n hc 2 rfl rfl dL_law_715 (n := 716) rfl ?_
  refine g_efR (As := []) (rest := [.int (nI ans)]) hc hS5 q_X5_undo k_ml_RL_115 rfl rfl (InM.rc hM) vw_5 (by omega) (by omega) (Nat.le_of_ble_eq_true rfl) dL_law_716 (n := 719) rfl (fun wr2 hM2 => ?_)
  refine g_icmp_eq hc dL_law_719 (tgt := 770) (by decide) (n := 722) rfl (fun _ => ?_) (fun e => absurd rfl e)
  exact kk z2 n2 hz2 ln2 sg2 b02 b12 sv2 wl2 wr2 hi2 hC2 hM2
set_option maxHeartbeats 1000000 in
theorem l_save (hc : Cx κ Γ A cL_law 4 RL nm ret room_1) (hX : va_X b L xs (gS Γ) (gS Γ).heap) (hbl : b < (gS Γ).heap.size) (hbA : ¬ A b) (hL : L ≤ 2048) (hil : i + 4 ≤ L) (hcell : cells + 40 ≤ 600000) (hslot : slots + 800 ≤ 7302250) (hi : Iv z n hz ln sg b0 b1 sv) (hC : InC κ a q z n hz ln sg b0 b1 sv wl) (hM : InM κ m z n hz ln sg b0 b1 sv wr) (kk : KK κ Γ A Q b a q m (cells + 40) (slots + 800) i) : G κ Γ A 4 cells slots Q (wl ++ wr) 724 [(0, .ref b), (1, .ref (a 0)), (2, .ref (m 0)), (3, .int (nI i))] [] := by
  refine g_aload_n hc 1 rfl rfl dL_law_724 (n := 725) rfl ?_
  refine g_aload_n hc 0 rfl rfl dL_law_725 (n := 726) rfl ?_
  refine g_iload_n hc 3 rfl rfl dL_law_726 (n := 727) rfl ?_
  refine g_iconst (v := nI 1) hc (by decide) dL_law_727 (n := 728) rfl ?_
  refine n_iadd (v := i + 1) hc rfl dL_law_728 (n := 729) rfl ?_
  refine g_xld (v := xs (i + 1)) hc hX hbl hbA (by omega) (by omega) rfl dL_law_729 (n := 730) rfl ?_
  obtain ⟨ans, z2, n2, hz2, ln2, sg2, b02, b12, sv2, hS4, hS5, hi2⟩ := p_save (l := gl Γ) hi hC hM (xs (i + 1))
  refine g_efL (As := [.int (xs (i + 1))]) (rest := []) hc hS4 q_X4_save k_ml_RL_116 rfl rfl (InC.rc hC) vw_4 (by omega) (by omega) (Nat.le_of_ble_eq_true rfl) dL_law_730 (n := 733) rfl (fun wl2 hC2 => ?_)
  refine g_aload_n hc 2 rfl rfl dL_law_733 (n := 734) rfl ?_
  refine g_aload_n hc 0 rfl rfl dL_law_734 (n := 735) rfl ?_
  refine g_iload_n hc 3 rfl rfl dL_law_735 (n := 736) rfl ?_
  refine g_iconst (v := nI 1) hc (by decide) dL_law_736 (n := 737) rfl ?_
  refine n_iadd (v := i + 1) hc rfl dL_law_737 (n := 738) rfl ?_
  refine g_xld (v := xs (i + 1)) hc hX hbl hbA (by omega) (by omega) rfl dL_law_738 (n := 739) rfl ?_
  refine g_efR (As := [.int (xs (i + 1))]) (rest := [.int (nI ans)]) hc hS5 q_X5_save k_ml_RL_119 rfl rfl (InM.rc hM) vw_5 (by omega) (by omega) (Nat.le_of_ble_eq_true rfl) dL_law_739 (n := 742) rfl (fun wr2 hM2 => ?_)
  refine g_icmp_eq hc dL_law_742 (tgt := 770) (by decide) (n := 745) rfl (fun _ => ?_) (fun e => absurd rfl e)
  exact kk z2 n2 hz2 ln2 sg2 b02 b12 sv2 wl2 wr2 hi2 hC2 hM2
set_option maxHeartbeats 1000000 in
theorem l_restore (hc : Cx κ Γ A cL_law 4 RL nm ret room_1) (hX : va_X b L xs (gS Γ) (gS Γ).heap) (hbl : b < (gS Γ).heap.size) (hbA : ¬ A b) (hL : L ≤ 2048) (hil : i + 4 ≤ L) (hcell : cells + 40 ≤ 600000) (hslot : slots + 800 ≤ 7302250) (hi : Iv z n hz ln sg b0 b1 sv) (hC : InC κ a q z n hz ln sg b0 b1 sv wl) (hM : InM κ m z n hz ln sg b0 b1 sv wr) (kk : KK κ Γ A Q b a q m (cells + 40) (slots + 800) i) : G κ Γ A 4 cells slots Q (wl ++ wr) 747 [(0, .ref b), (1, .ref (a 0)), (2, .ref (m 0)), (3, .int (nI i))] [] := by
  refine g_aload_n hc 1 rfl rfl dL_law_747 (n := 748) rfl ?_
  refine g_aload_n hc 0 rfl rfl dL_law_748 (n := 749) rfl ?_
  refine g_iload_n hc 3 rfl rfl dL_law_749 (n := 750) rfl ?_
  refine g_iconst (v := nI 1) hc (by decide) dL_law_750 (n := 751) rfl ?_
  refine n_iadd (v := i + 1) hc rfl dL_law_751 (n := 752) rfl ?_
  refine g_xld (v := xs (i + 1)) hc hX hbl hbA (by omega) (by omega) rfl dL_law_752 (n := 753) rfl ?_
  obtain ⟨ans, z2, n2, hz2, ln2, sg2, b02, b12, sv2, hS4, hS5, hi2⟩ := p_restore (l := gl Γ) hi hC hM (xs (i + 1))
  refine g_efL (As := [.int (xs (i + 1))]) (rest := []) hc hS4 q_X4_restore k_ml_RL_120 rfl rfl (InC.rc hC) vw_4 (by omega) (by omega) (Nat.le_of_ble_eq_true rfl) dL_law_753 (n := 756) rfl (fun wl2 hC2 => ?_)
  refine g_aload_n hc 2 rfl rfl dL_law_756 (n := 757) rfl ?_
  refine g_aload_n hc 0 rfl rfl dL_law_757 (n := 758) rfl ?_
  refine g_iload_n hc 3 rfl rfl dL_law_758 (n := 759) rfl ?_
  refine g_iconst (v := nI 1) hc (by decide) dL_law_759 (n := 760) rfl ?_
  refine n_iadd (v := i + 1) hc rfl dL_law_760 (n := 761) rfl ?_
  refine g_xld (v := xs (i + 1)) hc hX hbl hbA (by omega) (by omega) rfl dL_law_761 (n := 762) rfl ?_
  refine g_efR (As := [.int (xs (i + 1))]) (rest := [.int (nI ans)]) hc hS5 q_X5_restore k_ml_RL_123 rfl rfl (InM.rc hM) vw_5 (by omega) (by omega) (Nat.le_of_ble_eq_true rfl) dL_law_762 (n := 765) rfl (fun wr2 hM2 => ?_)
  refine g_icmp_eq hc dL_law_765 (tgt := 770) (by decide) (n := 768) rfl (fun _ => ?_) (fun e => absurd rfl e)
  exact kk z2 n2 hz2 ln2 sg2 b02 b12 sv2 wl2 wr2 hi2 hC2 hM2
set_option maxHeartbeats 1000000 in
theorem l_turn (hc : Cx κ Γ A cL_law 4 RL nm ret room_1) (hX : va_X b L xs (gS Γ) (gS Γ).heap) (hbl : b < (gS Γ).heap.size) (hbA : ¬ A b) (hL : L ≤ 2048) (hil : i + 4 ≤ L) (hcell : cells + 40 ≤ 600000) (hslot : slots + 800 ≤ 7302250) (hi : Iv z n hz ln sg b0 b1 sv) (hC : InC κ a q z n hz ln sg b0 b1 sv wl) (hM : InM κ m z n hz ln sg b0 b1 sv wr) (kk : KK κ Γ A Q b a q m (cells + 40) (slots + 800) i) : G κ Γ A 4 cells slots Q (wl ++ wr) 26 [(0, .ref b), (1, .ref (a 0)), (2, .ref (m 0)), (3, .int (nI i))] [] := by
  refine g_aload_n hc 0 rfl rfl dL_law_26 (n := 27) rfl ?_
  refine g_iload_n hc 3 rfl rfl dL_law_27 (n := 28) rfl ?_
  refine g_xld (v := xs i) hc hX hbl hbA (by omega) (by omega) rfl dL_law_28 (n := 29) rfl ?_
  refine g_bipush (v := nI 31) hc (by decide) dL_law_29 (n := 31) rfl ?_
  obtain ⟨k, hk, ek⟩ := and31 (xs i)
  refine g_iand hc ek dL_law_31 (n := 32) rfl ?_
  match k, hk with
  | 0, _ => exact g_tsIn (off := 120) (tgt := 152) hc dL_law_32 (by decide) (by decide) (by decide) (by decide) (l_set hc hX hbl hbA hL hil hcell hslot hi hC hM kk)
  | 1, _ => exact g_tsIn (off := 153) (tgt := 185) hc dL_law_32 (by decide) (by decide) (by decide) (by decide) (l_seed hc hX hbl hbA hL hil hcell hslot hi hC hM kk)
  | 2, _ => exact g_tsIn (off := 176) (tgt := 208) hc dL_law_32 (by decide) (by decide) (by decide) (by decide) (l_bend hc hX hbl hbA hL hil hcell hslot hi hC hM kk)
  | 3, _ => exact g_tsIn (off := 199) (tgt := 231) hc dL_law_32 (by decide) (by decide) (by decide) (by decide) (l_read hc hX hbl hbA hL hil hcell hslot hi hC hM kk)
  | 4, _ => exact g_tsIn (off := 212) (tgt := 244) hc dL_law_32 (by decide) (by decide) (by decide) (by decide) (l_shuffle hc hX hbl hbA hL hil hcell hslot hi hC hM kk)
  | 5, _ => exact g_tsIn (off := 225) (tgt := 257) hc dL_law_32 (by decide) (by decide) (by decide) (by decide) (l_cut hc hX hbl hbA hL hil hcell hslot hi hC hM kk)
  | 6, _ => exact g_tsIn (off := 248) (tgt := 280) hc dL_law_32 (by decide) (by decide) (by decide) (by decide) (l_sort hc hX hbl hbA hL hil hcell hslot hi hC hM kk)
  | 7, _ => exact g_tsIn (off := 261) (tgt := 293) hc dL_law_32 (by decide) (by decide) (by decide) (by decide) (l_deal hc hX hbl hbA hL hil hcell hslot hi hC hM kk)
  | 8, _ => exact g_tsIn (off := 284) (tgt := 316) hc dL_law_32 (by decide) (by decide) (by decide) (by decide) (l_seal hc hX hbl hbA hL hil hcell hslot hi hC hM kk)
  | 9, _ => exact g_tsIn (off := 307) (tgt := 339) hc dL_law_32 (by decide) (by decide) (by decide) (by decide) (l_open hc hX hbl hbA hL hil hcell hslot hi hC hM kk)
  | 10, _ => exact g_tsIn (off := 330) (tgt := 362) hc dL_law_32 (by decide) (by decide) (by decide) (by decide) (l_card hc hX hbl hbA hL hil hcell hslot hi hC hM kk)
  | 11, _ => exact g_tsIn (off := 353) (tgt := 385) hc dL_law_32 (by decide) (by decide) (by decide) (by decide) (l_placeOf hc hX hbl hbA hL hil hcell hslot hi hC hM kk)
  | 12, _ => exact g_tsIn (off := 376) (tgt := 408) hc dL_law_32 (by decide) (by decide) (by decide) (by decide) (l_holder hc hX hbl hbA hL hil hcell hslot hi hC hM kk)
  | 13, _ => exact g_tsIn (off := 409) (tgt := 441) hc dL_law_32 (by decide) (by decide) (by decide) (by decide) (l_hand hc hX hbl hbA hL hil hcell hslot hi hC hM kk)
  | 14, _ => exact g_tsIn (off := 452) (tgt := 484) hc dL_law_32 (by decide) (by decide) (by decide) (by decide) (l_board hc hX hbl hbA hL hil hcell hslot hi hC hM kk)
  | 15, _ => exact g_tsIn (off := 485) (tgt := 517) hc dL_law_32 (by decide) (by decide) (by decide) (by decide) (l_count hc hX hbl hbA hL hil hcell hslot hi hC hM kk)
  | 16, _ => exact g_tsIn (off := 508) (tgt := 540) hc dL_law_32 (by decide) (by decide) (by decide) (by decide) (l_alike hc hX hbl hbA hL hil hcell hslot hi hC hM kk)
  | 17, _ => exact g_tsIn (off := 541) (tgt := 573) hc dL_law_32 (by decide) (by decide) (by decide) (by decide) (l_ifRiffled hc hX hbl hbA hL hil hcell hslot hi hC hM kk)
  | 18, _ => exact g_tsIn (off := 574) (tgt := 606) hc dL_law_32 (by decide) (by decide) (by decide) (by decide) (l_needed hc hX hbl hbA hL hil hcell hslot hi hC hM kk)
  | 19, _ => exact g_tsIn (off := 587) (tgt := 619) hc dL_law_32 (by decide) (by decide) (by decide) (by decide) (l_worstBend hc hX hbl hbA hL hil hcell hslot hi hC hM kk)
  | 20, _ => exact g_tsIn (off := 600) (tgt := 632) hc dL_law_32 (by decide) (by decide) (by decide) (by decide) (l_put hc hX hbl hbA hL hil hcell hslot hi hC hM kk)
  | 21, _ => exact g_tsIn (off := 653) (tgt := 685) hc dL_law_32 (by decide) (by decide) (by decide) (by decide) (l_wipe hc hX hbl hbA hL hil hcell hslot hi hC hM kk)
  | 22, _ => exact g_tsIn (off := 666) (tgt := 698) hc dL_law_32 (by decide) (by decide) (by decide) (by decide) (l_fault hc hX hbl hbA hL hil hcell hslot hi hC hM kk)
  | 23, _ => exact g_tsIn (off := 679) (tgt := 711) hc dL_law_32 (by decide) (by decide) (by decide) (by decide) (l_undo hc hX hbl hbA hL hil hcell hslot hi hC hM kk)
  | 24, _ => exact g_tsIn (off := 692) (tgt := 724) hc dL_law_32 (by decide) (by decide) (by decide) (by decide) (l_save hc hX hbl hbA hL hil hcell hslot hi hC hM kk)
  | 25, _ => exact g_tsIn (off := 715) (tgt := 747) hc dL_law_32 (by decide) (by decide) (by decide) (by decide) (l_restore hc hX hbl hbA hL hil hcell hslot hi hC hM kk)
  | 26, _ => exact g_tsOut (tgt := 770) hc dL_law_32 (by decide) (by decide) (g_wide (Nat.le_add_right _ _) (Nat.le_add_right _ _) (kk z n hz ln sg b0 b1 sv wl wr hi hC hM))
  | 27, _ => exact g_tsOut (tgt := 770) hc dL_law_32 (by decide) (by decide) (g_wide (Nat.le_add_right _ _) (Nat.le_add_right _ _) (kk z n hz ln sg b0 b1 sv wl wr hi hC hM))
  | 28, _ => exact g_tsOut (tgt := 770) hc dL_law_32 (by decide) (by decide) (g_wide (Nat.le_add_right _ _) (Nat.le_add_right _ _) (kk z n hz ln sg b0 b1 sv wl wr hi hC hM))
  | 29, _ => exact g_tsOut (tgt := 770) hc dL_law_32 (by decide) (by decide) (g_wide (Nat.le_add_right _ _) (Nat.le_add_right _ _) (kk z n hz ln sg b0 b1 sv wl wr hi hC hM))
  | 30, _ => exact g_tsOut (tgt := 770) hc dL_law_32 (by decide) (by decide) (g_wide (Nat.le_add_right _ _) (Nat.le_add_right _ _) (kk z n hz ln sg b0 b1 sv wl wr hi hC hM))
  | 31, _ => exact g_tsOut (tgt := 770) hc dL_law_32 (by decide) (by decide) (g_wide (Nat.le_add_right _ _) (Nat.le_add_right _ _) (kk z n hz ln sg b0 b1 sv wl wr hi hC hM))
  | k + 32, hk => exact absurd hk (by omega)
theorem l_neg {L i : Nat} (h : L < 4) (hi : i < 2 ^ 20) : nI L - nI 4 < nI i := by
  have h1 : nI L - nI 4 < nI 0 := by
    rcases (show L = 0 ∨ L = 1 ∨ L = 2 ∨ L = 3 by omega) with rfl | rfl | rfl | rfl <;> decide
  exact Int32.lt_of_lt_of_le h1 ((nI_leI (by omega) (by omega)).mpr (Nat.zero_le i))
/-- the head of the loop: i against length - 4 -/
theorem l_head (hc : Cx κ Γ A cL_law 4 RL nm ret room_1) (hX : va_X b L xs (gS Γ) (gS Γ).heap) (hbl : b < (gS Γ).heap.size) (hbA : ¬ A b) (hL : L ≤ 2048) (hil : i + 4 ≤ L) {w : va_W} (kk : G κ Γ A 4 cells slots Q w 26 [(0, .ref b), (1, .ref (a 0)), (2, .ref (m 0)), (3, .int (nI i))] []) : G κ Γ A 4 cells slots Q w 18 [(0, .ref b), (1, .ref (a 0)), (2, .ref (m 0)), (3, .int (nI i))] [] := by
  refine g_iload_n hc 3 rfl rfl dL_law_18 (n := 19) rfl ?_
  refine g_aload_n hc 0 rfl rfl dL_law_19 (n := 20) rfl ?_
  refine g_xlen hc hX hbl hbA dL_law_20 (n := 21) rfl ?_
  refine g_iconst (v := nI 4) hc (by decide) dL_law_21 (n := 22) rfl ?_
  refine n_isub (v := L - 4) hc (by omega) rfl dL_law_22 (n := 23) rfl ?_
  exact n_icmp_gt hc (by omega) (by omega) dL_law_23 (tgt := 776) (by decide) (n := 26) rfl (fun h => absurd h (by omega)) (fun _ => kk)
theorem l_end (hc : Cx κ Γ A cL_law 4 RL nm ret room_1) (hX : va_X b L xs (gS Γ) (gS Γ).heap) (hbl : b < (gS Γ).heap.size) (hbA : ¬ A b) (hL : L ≤ 2048) (hil : ¬ i + 4 ≤ L) {w : va_W} (fin : ∀ (cells slots i : Nat) (w : va_W), cells ≤ 600000 → slots ≤ 7302250 → G κ Γ A 4 cells slots Q w 776 [(0, .ref b), (1, .ref (a 0)), (2, .ref (m 0)), (3, .int (nI i))] []) (h1 : cells ≤ 600000) (h2 : slots ≤ 7302250) (h3 : i < 2 ^ 20 := by omega) : G κ Γ A 4 cells slots Q w 18 [(0, .ref b), (1, .ref (a 0)), (2, .ref (m 0)), (3, .int (nI i))] [] := by
  refine g_iload_n hc 3 rfl rfl dL_law_18 (n := 19) rfl ?_
  refine g_aload_n hc 0 rfl rfl dL_law_19 (n := 20) rfl ?_
  refine g_xlen hc hX hbl hbA dL_law_20 (n := 21) rfl ?_
  refine g_iconst (v := nI 4) hc (by decide) dL_law_21 (n := 22) rfl ?_
  by_cases h4 : 4 ≤ L
  · refine n_isub (v := L - 4) hc (by omega) rfl dL_law_22 (n := 23) rfl ?_
    exact n_icmp_gt hc (by omega) (by omega) dL_law_23 (tgt := 776) (by decide) (n := 26) rfl (fun _ => fin cells slots i w h1 h2) (fun h => absurd h (by omega))
  · refine g_isub hc rfl dL_law_22 (n := 23) rfl ?_
    refine g_icmp_gt hc dL_law_23 (tgt := 776) (by decide) (n := 26) rfl (fun _ => fin cells slots i w h1 h2) (fun h => absurd ?_ h)
    exact l_neg (by omega) (by omega)
set_option maxHeartbeats 1000000 in
theorem l_loop (hc : Cx κ Γ A cL_law 4 RL nm ret room_1) (hX : va_X b L xs (gS Γ) (gS Γ).heap) (hbl : b < (gS Γ).heap.size) (hbA : ¬ A b) (hL : L ≤ 2048) {C0 S0 : Nat} (hC0 : C0 ≤ 500000) (hS0 : S0 ≤ 6000000)
    (fin : ∀ (cells slots i : Nat) (w : va_W), cells ≤ 600000 → slots ≤ 7302250 → G κ Γ A 4 cells slots Q w 776 [(0, .ref b), (1, .ref (a 0)), (2, .ref (m 0)), (3, .int (nI i))] []) :
    ∀ (fuel t : Nat), L < 4 * t + fuel → ∀ (z : Nat → Nat) (n : Nat) (hz : Nat → Nat → Nat) (ln : Nat) (sg : Nat → Nat) (b0 b1 : Bool) (sv : Nat → Nat → Nat) (wl wr : va_W), 4 * t ≤ L + 3 → Iv z n hz ln sg b0 b1 sv → InC κ a q z n hz ln sg b0 b1 sv wl → InM κ m z n hz ln sg b0 b1 sv wr → G κ Γ A 4 (C0 + 40 * t) (S0 + 800 * t) Q (wl ++ wr) 18 [(0, .ref b), (1, .ref (a 0)), (2, .ref (m 0)), (3, .int (nI (4 * t)))] [] := by
  intro fuel
  induction fuel with
  | zero => intro t ht z n hz ln sg b0 b1 sv wl wr h4 hi hC hM; refine ?_; exact l_end hc hX hbl hbA hL (by omega) fin (by omega) (by omega)
  | succ fuel ih =>
    intro t ht z n hz ln sg b0 b1 sv wl wr h4 hi hC hM
    by_cases hq : 4 * t + 4 ≤ L
    · refine l_head hc hX hbl hbA hL hq ?_
      refine l_turn hc hX hbl hbA hL hq (by omega) (by omega) hi hC hM ?_
      intro z2 n2 hz2 ln2 sg2 b02 b12 sv2 wl2 wr2 hi2 hC2 hM2
      refine g_iinc (v := nI (4 * (t + 1))) (lv2 := [(0, .ref b), (1, .ref (a 0)), (2, .ref (m 0)), (3, .int (nI (4 * (t + 1))))]) hc 3 rfl (by rw [show 4 * (t + 1) = 4 * t + 4 from rfl]; exact nI_add (4 * t) 4) (by decide) [1, 2, 3, 0] rfl rfl dL_law_770 (n := 773) rfl ?_
      refine g_goto hc dL_law_773 (n := 18) (by decide) ?_
      have := ih (t + 1) (by omega) z2 n2 hz2 ln2 sg2 b02 b12 sv2 wl2 wr2 (by omega) hi2 hC2 hM2
      rwa [show C0 + 40 * (t + 1) = C0 + 40 * t + 40 from by omega, show S0 + 800 * (t + 1) = S0 + 800 * t + 800 from by omega] at this
    · exact l_end hc hX hbl hbA hL hq fin (by omega) (by omega)
end LAW
