theorem law_out {N cn : Nat} (hN : N < 2 ^ 20) (h : N < 4 * cn + 4) (h2 : 4 * cn ≤ N) : Int32.ofNat N - 4 < nI (4 * cn) := by
  show nI N - nI 4 < nI (4 * cn)
  rw [Int32.lt_iff_toInt_lt, Int32.toInt_sub, nI_toInt (by omega), nI_toInt (by omega), nI_toInt (by omega), Int.bmod_def]
  split <;> omega
theorem law_in {N cn : Nat} (hN : N < 2 ^ 20) (h : 4 * cn + 4 ≤ N) : ¬ Int32.ofNat N - 4 < nI (4 * cn) := by
  show ¬ nI N - nI 4 < nI (4 * cn)
  rw [nI_sub (by omega), Int32.lt_iff_toInt_lt, nI_toInt (by omega), nI_toInt (by omega)]
  omega
/-! ===== the law's walk ===== -/
theorem j_fit_room {d1 mc1 ms1 cells slots : Nat} (h : d1 ≤ 100) (h1 : cells + mc1 ≤ 603072) (h2 : slots + ms1 ≤ 7202922) : j_fit room_1 d1 mc1 ms1 cells slots :=
  ⟨fun maxL hm => by simp only [j_rm, room_1]; omega, h1, h2⟩
theorem lcmp_eq {v w : Int64} (h : v = w) : lg_cmp v w = 0 := by
  subst h
  unfold lg_cmp
  rw [if_neg (Int64.lt_irrefl), if_pos rfl]
section JLW
variable {p : Program} {l : Launch} {e : Env} {s : State} {m : MethodId} {below : List Frame} {meth : Method} {c : Code} {D : va_G} {tyc : Nat → ClassId} {sb : Nat} {xs : Nat → Int32} {ad0 : Nat → Nat}
/-- the law's judgement -/
abbrev LJ (p : Program) (l : Launch) (e : Env) (s : State) (m : MethodId) (below : List Frame) (meth : Method) (c : Code) (D : va_G) (tyc : Nat → ClassId) (sb : Nat) (ad0 : Nat → Nat) (pc : Nat) (L : List (Option Value)) (st : List Value) (h : MH) (cells slots : Nat) : Prop :=
  JJ p l e room_1 s m #[Value.ref sb] below meth c D tyc (fun q => s.heap.size ≤ q) 0 ad0 9 (lw_Z below #[Value.ref sb] s) pc L st h cells slots
/-- what is known in the law -/
def LX (p : Program) (l : Launch) (s : State) (m : MethodId) (meth : Method) (c : Code) (D : va_G) (tyc : Nat → ClassId) (sb N : Nat) (xs : Nat → Int32) : Prop :=
  j_X p l s m #[Value.ref sb] meth c D tyc (fun q => s.heap.size ≤ q) "LeagueTablesLaw" cL_law 9 ∧ meth.sig.returnType = ret ∧ va_X sb N xs s s.heap ∧ sb < s.heap.size ∧ ¬ (fun q => s.heap.size ≤ q) sb
theorem LJ_up {pc : Nat} {L : List (Option Value)} {st : List Value} {h : MH} {c1 c2 s1 s2 : Nat} (h1 : c1 ≤ c2) (h2 : s1 ≤ s2) (k : LJ p l e s m below meth c D tyc sb ad0 pc L st h c2 s2) : LJ p l e s m below meth c D tyc sb ad0 pc L st h c1 s1 := fun ad ls H locs I => W.widen h1 h2 (k ad ls H locs I)
theorem law_ret {N : Nat} (X : LX p l s m meth c D tyc sb N xs) {L : List (Option Value)} {h : MH} {cells slots : Nat} (hc : cells ≤ 603072) (hs : slots ≤ 7202922) : LJ p l e s m below meth c D tyc sb ad0 1300 L [] h cells slots := by
  obtain ⟨x, hr, -⟩ := X
  refine j_iconst (v := 1) x dL_law_1300 (by decide) ?_
  intro ad ls H locs I
  refine W.base ?_
  refine W.widen hc hs ?_
  refine va_forget (fun q hq => I.2.2.2.1.2.2 q hq) ?_
  exact lw_ret (Drawn.sameBut.refl s.drawn lw_cs) x.1 x.2.1 hr x.2.2.2.2.2.2.2.1 dL_law_1301
/-- the law goes on behind a call: what every case ends in -/
def LK (p : Program) (l : Launch) (e : Env) (s : State) (m : MethodId) (below : List Frame) (meth : Method) (c : Code) (D : va_G) (tyc : Nat → ClassId) (sb : Nat) (ad0 : Nat → Nat) (cn cells slots : Nat) : Prop :=
  ∀ (b : SBt) (Y : OUt) (M : MM) (q6 q7 q8 : Option Value), Inv b M → LJ p l e s m below meth c D tyc sb ad0 1294 [some (.retAddr sb), some (.ref 0), some (.ref 94), some (.ref 102), some (.ref 103), some (.int (nI (4 * cn))), q6, q7, q8] [] (HH b Y M) (cells + 40) (slots + 9000)
theorem law_case_0 {N : Nat} (X : LX p l s m meth c D tyc sb N xs) {cn : Nat} (hcn : 4 * cn + 4 ≤ N) (hN : N ≤ 2048) {b : SBt} {Y : OUt} {M : MM} (I : Inv b M) {q6 q7 q8 : Option Value} {cells slots : Nat} (hc : cells + 40 ≤ 603072) (hs : slots + 9000 ≤ 7202922) (KK : LK p l e s m below meth c D tyc sb ad0 cn cells slots) : LJ p l e s m below meth c D tyc sb ad0 208 [some (.retAddr sb), some (.ref 0), some (.ref 94), some (.ref 102), some (.ref 103), some (.int (nI (4 * cn))), q6, q7, q8] [] (HH b Y M) cells slots := by
  obtain ⟨x, hr, hX, hb1, hb2⟩ := id X
  have hb := I.hb
  obtain ⟨mc, ms, e1, e2, H⟩ := S_team (Y := Y) I (xs (4 * cn + 1))
  refine j_aload_n x dL_law_208 rfl ?_
  refine j_aload_nR x dL_law_209 rfl ?_
  refine j_iload x dL_law_210 rfl ?_
  refine j_iconst (v := 1) x dL_law_212 (by decide) ?_
  refine j_iadd x dL_law_213 ?_
  rw [show nI (4 * cn) + 1 = nI (4 * cn + 1) from nI_add (4 * cn) 1]
  refine j_sld (j := 4 * cn + 1) x hX hb1 hb2 dL_law_214 (vp_in_nI (by omega) (by omega)) (nI_clamp (by omega)) ?_
  refine j_aload_n x dL_law_215 rfl ?_
  refine j_callSH x dL_law_216 H m_L_team wmL_139 rfl (Nat.le_of_ble_eq_true rfl) (j_fit_room (by omega) (by omega) (by omega)) rfl (fun E k z => by obtain ⟨k2, b1, Y1, M1, h, -⟩ := z; cases h) (fun v h1 hq => ?_)
  obtain ⟨k2, b1, Y1, M1, e3, rfl, hbb, C⟩ := hq
  cases e3
  change JJ _ _ _ _ _ _ _ _ _ _ _ _ _ _ _ _ _ _ _ [.int k2] (HH b1 Y1 M1) _ _
  refine j_istore x dL_law_219 (by decide) rfl ?_
  refine j_aload_n x dL_law_221 rfl ?_
  refine j_aload_nR x dL_law_222 rfl ?_
  refine j_iload x dL_law_223 rfl ?_
  refine j_iconst (v := 1) x dL_law_225 (by decide) ?_
  refine j_iadd x dL_law_226 ?_
  rw [show nI (4 * cn) + 1 = nI (4 * cn + 1) from nI_add (4 * cn) 1]
  refine j_sld (j := 4 * cn + 1) x hX hb1 hb2 dL_law_227 (vp_in_nI (by omega) (by omega)) (nI_clamp (by omega)) ?_
  refine j_callV x dL_law_228 C m_X6_team wmL_144 jc_10 rfl (show 94 < b1.2.1 by omega) rfl rfl (Nat.le_of_ble_eq_true rfl) (j_fit_room (by omega) (by omega) (by omega)) rfl (fun E k z => by obtain ⟨v, M2, h, -⟩ := z; cases h) (fun v h1 hq => ?_)
  obtain ⟨v2, M2, e4, rfl, I2, hvk, hcmp⟩ := hq
  cases e4
  obtain ⟨w2, rfl⟩ := vK_int hvk (by decide) (by decide)
  change JJ _ _ _ _ _ _ _ _ _ _ _ _ _ _ _ _ _ _ _ [.int w2] (HH b1 Y1 M2) _ _
  refine j_istore x dL_law_231 (by decide) rfl ?_
  refine j_goto (tgt := 1294) x dL_law_233 (by decide) ?_
  exact LJ_up (by omega) (by omega) (KK b1 Y1 M2 _ _ _ I2)
theorem law_case_1 {N : Nat} (X : LX p l s m meth c D tyc sb N xs) {cn : Nat} (hcn : 4 * cn + 4 ≤ N) (hN : N ≤ 2048) {b : SBt} {Y : OUt} {M : MM} (I : Inv b M) {q6 q7 q8 : Option Value} {cells slots : Nat} (hc : cells + 40 ≤ 603072) (hs : slots + 9000 ≤ 7202922) (KK : LK p l e s m below meth c D tyc sb ad0 cn cells slots) : LJ p l e s m below meth c D tyc sb ad0 236 [some (.retAddr sb), some (.ref 0), some (.ref 94), some (.ref 102), some (.ref 103), some (.int (nI (4 * cn))), q6, q7, q8] [] (HH b Y M) cells slots := by
  obtain ⟨x, hr, hX, hb1, hb2⟩ := id X
  have hb := I.hb
  obtain ⟨mc, ms, e1, e2, H⟩ := S_ground (Y := Y) I (xs (4 * cn + 1)) (xs (4 * cn + 2))
  refine j_aload_n x dL_law_236 rfl ?_
  refine j_aload_nR x dL_law_237 rfl ?_
  refine j_iload x dL_law_238 rfl ?_
  refine j_iconst (v := 1) x dL_law_240 (by decide) ?_
  refine j_iadd x dL_law_241 ?_
  rw [show nI (4 * cn) + 1 = nI (4 * cn + 1) from nI_add (4 * cn) 1]
  refine j_sld (j := 4 * cn + 1) x hX hb1 hb2 dL_law_242 (vp_in_nI (by omega) (by omega)) (nI_clamp (by omega)) ?_
  refine j_aload_nR x dL_law_243 rfl ?_
  refine j_iload x dL_law_244 rfl ?_
  refine j_iconst (v := 2) x dL_law_246 (by decide) ?_
  refine j_iadd x dL_law_247 ?_
  rw [show nI (4 * cn) + 2 = nI (4 * cn + 2) from nI_add (4 * cn) 2]
  refine j_sld (j := 4 * cn + 2) x hX hb1 hb2 dL_law_248 (vp_in_nI (by omega) (by omega)) (nI_clamp (by omega)) ?_
  refine j_aload_n x dL_law_249 rfl ?_
  refine j_callSH x dL_law_250 H m_L_ground wmL_145 rfl (Nat.le_of_ble_eq_true rfl) (j_fit_room (by omega) (by omega) (by omega)) rfl (fun E k z => by obtain ⟨k2, b1, Y1, M1, h, -⟩ := z; cases h) (fun v h1 hq => ?_)
  obtain ⟨k2, b1, Y1, M1, e3, rfl, hbb, C⟩ := hq
  cases e3
  change JJ _ _ _ _ _ _ _ _ _ _ _ _ _ _ _ _ _ _ _ [.int k2] (HH b1 Y1 M1) _ _
  refine j_istore x dL_law_253 (by decide) rfl ?_
  refine j_aload_n x dL_law_255 rfl ?_
  refine j_aload_nR x dL_law_256 rfl ?_
  refine j_iload x dL_law_257 rfl ?_
  refine j_iconst (v := 1) x dL_law_259 (by decide) ?_
  refine j_iadd x dL_law_260 ?_
  rw [show nI (4 * cn) + 1 = nI (4 * cn + 1) from nI_add (4 * cn) 1]
  refine j_sld (j := 4 * cn + 1) x hX hb1 hb2 dL_law_261 (vp_in_nI (by omega) (by omega)) (nI_clamp (by omega)) ?_
  refine j_aload_nR x dL_law_262 rfl ?_
  refine j_iload x dL_law_263 rfl ?_
  refine j_iconst (v := 2) x dL_law_265 (by decide) ?_
  refine j_iadd x dL_law_266 ?_
  rw [show nI (4 * cn) + 2 = nI (4 * cn + 2) from nI_add (4 * cn) 2]
  refine j_sld (j := 4 * cn + 2) x hX hb1 hb2 dL_law_267 (vp_in_nI (by omega) (by omega)) (nI_clamp (by omega)) ?_
  refine j_callV x dL_law_268 C m_X6_ground wmL_148 jc_10 rfl (show 94 < b1.2.1 by omega) rfl rfl (Nat.le_of_ble_eq_true rfl) (j_fit_room (by omega) (by omega) (by omega)) rfl (fun E k z => by obtain ⟨v, M2, h, -⟩ := z; cases h) (fun v h1 hq => ?_)
  obtain ⟨v2, M2, e4, rfl, I2, hvk, hcmp⟩ := hq
  cases e4
  obtain ⟨w2, rfl⟩ := vK_int hvk (by decide) (by decide)
  change JJ _ _ _ _ _ _ _ _ _ _ _ _ _ _ _ _ _ _ _ [.int w2] (HH b1 Y1 M2) _ _
  refine j_istore x dL_law_271 (by decide) rfl ?_
  refine j_goto (tgt := 1294) x dL_law_273 (by decide) ?_
  exact LJ_up (by omega) (by omega) (KK b1 Y1 M2 _ _ _ I2)
theorem law_case_2 {N : Nat} (X : LX p l s m meth c D tyc sb N xs) {cn : Nat} (hcn : 4 * cn + 4 ≤ N) (hN : N ≤ 2048) {b : SBt} {Y : OUt} {M : MM} (I : Inv b M) {q6 q7 q8 : Option Value} {cells slots : Nat} (hc : cells + 40 ≤ 603072) (hs : slots + 9000 ≤ 7202922) (KK : LK p l e s m below meth c D tyc sb ad0 cn cells slots) : LJ p l e s m below meth c D tyc sb ad0 276 [some (.retAddr sb), some (.ref 0), some (.ref 94), some (.ref 102), some (.ref 103), some (.int (nI (4 * cn))), q6, q7, q8] [] (HH b Y M) cells slots := by
  obtain ⟨x, hr, hX, hb1, hb2⟩ := id X
  have hb := I.hb
  obtain ⟨mc, ms, e1, e2, H⟩ := S_draw (Y := Y) I 
  refine j_aload_n x dL_law_276 rfl ?_
  refine j_aload_n x dL_law_277 rfl ?_
  refine j_callSH x dL_law_278 H m_L_draw wmL_149 rfl (Nat.le_of_ble_eq_true rfl) (j_fit_room (by omega) (by omega) (by omega)) rfl (fun E k z => by obtain ⟨k2, b1, Y1, M1, h, -⟩ := z; cases h) (fun v h1 hq => ?_)
  obtain ⟨k2, b1, Y1, M1, e3, rfl, hbb, C⟩ := hq
  cases e3
  change JJ _ _ _ _ _ _ _ _ _ _ _ _ _ _ _ _ _ _ _ [.int k2] (HH b1 Y1 M1) _ _
  refine j_istore x dL_law_281 (by decide) rfl ?_
  refine j_aload_n x dL_law_283 rfl ?_
  refine j_callV x dL_law_284 C m_X6_draw wmL_152 jc_10 rfl (show 94 < b1.2.1 by omega) rfl rfl (Nat.le_of_ble_eq_true rfl) (j_fit_room (by omega) (by omega) (by omega)) rfl (fun E k z => by obtain ⟨v, M2, h, -⟩ := z; cases h) (fun v h1 hq => ?_)
  obtain ⟨v2, M2, e4, rfl, I2, hvk, hcmp⟩ := hq
  cases e4
  obtain ⟨w2, rfl⟩ := vK_int hvk (by decide) (by decide)
  change JJ _ _ _ _ _ _ _ _ _ _ _ _ _ _ _ _ _ _ _ [.int w2] (HH b1 Y1 M2) _ _
  refine j_istore x dL_law_287 (by decide) rfl ?_
  refine j_goto (tgt := 1294) x dL_law_289 (by decide) ?_
  exact LJ_up (by omega) (by omega) (KK b1 Y1 M2 _ _ _ I2)
theorem law_case_3 {N : Nat} (X : LX p l s m meth c D tyc sb N xs) {cn : Nat} (hcn : 4 * cn + 4 ≤ N) (hN : N ≤ 2048) {b : SBt} {Y : OUt} {M : MM} (I : Inv b M) {q6 q7 q8 : Option Value} {cells slots : Nat} (hc : cells + 40 ≤ 603072) (hs : slots + 9000 ≤ 7202922) (KK : LK p l e s m below meth c D tyc sb ad0 cn cells slots) : LJ p l e s m below meth c D tyc sb ad0 292 [some (.retAddr sb), some (.ref 0), some (.ref 94), some (.ref 102), some (.ref 103), some (.int (nI (4 * cn))), q6, q7, q8] [] (HH b Y M) cells slots := by
  obtain ⟨x, hr, hX, hb1, hb2⟩ := id X
  have hb := I.hb
  obtain ⟨mc, ms, e1, e2, H⟩ := S_give (Y := Y) I (xs (4 * cn + 1)) (xs (4 * cn + 2))
  refine j_aload_n x dL_law_292 rfl ?_
  refine j_aload_nR x dL_law_293 rfl ?_
  refine j_iload x dL_law_294 rfl ?_
  refine j_iconst (v := 1) x dL_law_296 (by decide) ?_
  refine j_iadd x dL_law_297 ?_
  rw [show nI (4 * cn) + 1 = nI (4 * cn + 1) from nI_add (4 * cn) 1]
  refine j_sld (j := 4 * cn + 1) x hX hb1 hb2 dL_law_298 (vp_in_nI (by omega) (by omega)) (nI_clamp (by omega)) ?_
  refine j_aload_nR x dL_law_299 rfl ?_
  refine j_iload x dL_law_300 rfl ?_
  refine j_iconst (v := 2) x dL_law_302 (by decide) ?_
  refine j_iadd x dL_law_303 ?_
  rw [show nI (4 * cn) + 2 = nI (4 * cn + 2) from nI_add (4 * cn) 2]
  refine j_sld (j := 4 * cn + 2) x hX hb1 hb2 dL_law_304 (vp_in_nI (by omega) (by omega)) (nI_clamp (by omega)) ?_
  refine j_aload_n x dL_law_305 rfl ?_
  refine j_callSH x dL_law_306 H m_L_give wmL_153 rfl (Nat.le_of_ble_eq_true rfl) (j_fit_room (by omega) (by omega) (by omega)) rfl (fun E k z => by obtain ⟨k2, b1, Y1, M1, h, -⟩ := z; cases h) (fun v h1 hq => ?_)
  obtain ⟨k2, b1, Y1, M1, e3, rfl, hbb, C⟩ := hq
  cases e3
  change JJ _ _ _ _ _ _ _ _ _ _ _ _ _ _ _ _ _ _ _ [.int k2] (HH b1 Y1 M1) _ _
  refine j_istore x dL_law_309 (by decide) rfl ?_
  refine j_aload_n x dL_law_311 rfl ?_
  refine j_aload_nR x dL_law_312 rfl ?_
  refine j_iload x dL_law_313 rfl ?_
  refine j_iconst (v := 1) x dL_law_315 (by decide) ?_
  refine j_iadd x dL_law_316 ?_
  rw [show nI (4 * cn) + 1 = nI (4 * cn + 1) from nI_add (4 * cn) 1]
  refine j_sld (j := 4 * cn + 1) x hX hb1 hb2 dL_law_317 (vp_in_nI (by omega) (by omega)) (nI_clamp (by omega)) ?_
  refine j_aload_nR x dL_law_318 rfl ?_
  refine j_iload x dL_law_319 rfl ?_
  refine j_iconst (v := 2) x dL_law_321 (by decide) ?_
  refine j_iadd x dL_law_322 ?_
  rw [show nI (4 * cn) + 2 = nI (4 * cn + 2) from nI_add (4 * cn) 2]
  refine j_sld (j := 4 * cn + 2) x hX hb1 hb2 dL_law_323 (vp_in_nI (by omega) (by omega)) (nI_clamp (by omega)) ?_
  refine j_callV x dL_law_324 C m_X6_give wmL_155 jc_10 rfl (show 94 < b1.2.1 by omega) rfl rfl (Nat.le_of_ble_eq_true rfl) (j_fit_room (by omega) (by omega) (by omega)) rfl (fun E k z => by obtain ⟨v, M2, h, -⟩ := z; cases h) (fun v h1 hq => ?_)
  obtain ⟨v2, M2, e4, rfl, I2, hvk, hcmp⟩ := hq
  cases e4
  obtain ⟨w2, rfl⟩ := vK_int hvk (by decide) (by decide)
  change JJ _ _ _ _ _ _ _ _ _ _ _ _ _ _ _ _ _ _ _ [.int w2] (HH b1 Y1 M2) _ _
  refine j_istore x dL_law_327 (by decide) rfl ?_
  refine j_goto (tgt := 1294) x dL_law_329 (by decide) ?_
  exact LJ_up (by omega) (by omega) (KK b1 Y1 M2 _ _ _ I2)
theorem law_case_4 {N : Nat} (X : LX p l s m meth c D tyc sb N xs) {cn : Nat} (hcn : 4 * cn + 4 ≤ N) (hN : N ≤ 2048) {b : SBt} {Y : OUt} {M : MM} (I : Inv b M) {q6 q7 q8 : Option Value} {cells slots : Nat} (hc : cells + 40 ≤ 603072) (hs : slots + 9000 ≤ 7202922) (KK : LK p l e s m below meth c D tyc sb ad0 cn cells slots) : LJ p l e s m below meth c D tyc sb ad0 332 [some (.retAddr sb), some (.ref 0), some (.ref 94), some (.ref 102), some (.ref 103), some (.int (nI (4 * cn))), q6, q7, q8] [] (HH b Y M) cells slots := by
  obtain ⟨x, hr, hX, hb1, hb2⟩ := id X
  have hb := I.hb
  obtain ⟨mc, ms, e1, e2, H⟩ := S_rules (Y := Y) I (xs (4 * cn + 1)) (xs (4 * cn + 2)) (xs (4 * cn + 3))
  refine j_aload_n x dL_law_332 rfl ?_
  refine j_aload_nR x dL_law_333 rfl ?_
  refine j_iload x dL_law_334 rfl ?_
  refine j_iconst (v := 1) x dL_law_336 (by decide) ?_
  refine j_iadd x dL_law_337 ?_
  rw [show nI (4 * cn) + 1 = nI (4 * cn + 1) from nI_add (4 * cn) 1]
  refine j_sld (j := 4 * cn + 1) x hX hb1 hb2 dL_law_338 (vp_in_nI (by omega) (by omega)) (nI_clamp (by omega)) ?_
  refine j_aload_nR x dL_law_339 rfl ?_
  refine j_iload x dL_law_340 rfl ?_
  refine j_iconst (v := 2) x dL_law_342 (by decide) ?_
  refine j_iadd x dL_law_343 ?_
  rw [show nI (4 * cn) + 2 = nI (4 * cn + 2) from nI_add (4 * cn) 2]
  refine j_sld (j := 4 * cn + 2) x hX hb1 hb2 dL_law_344 (vp_in_nI (by omega) (by omega)) (nI_clamp (by omega)) ?_
  refine j_aload_nR x dL_law_345 rfl ?_
  refine j_iload x dL_law_346 rfl ?_
  refine j_iconst (v := 3) x dL_law_348 (by decide) ?_
  refine j_iadd x dL_law_349 ?_
  rw [show nI (4 * cn) + 3 = nI (4 * cn + 3) from nI_add (4 * cn) 3]
  refine j_sld (j := 4 * cn + 3) x hX hb1 hb2 dL_law_350 (vp_in_nI (by omega) (by omega)) (nI_clamp (by omega)) ?_
  refine j_aload_n x dL_law_351 rfl ?_
  refine j_callSH x dL_law_352 H m_L_rules wmL_156 rfl (Nat.le_of_ble_eq_true rfl) (j_fit_room (by omega) (by omega) (by omega)) rfl (fun E k z => by obtain ⟨k2, b1, Y1, M1, h, -⟩ := z; cases h) (fun v h1 hq => ?_)
  obtain ⟨k2, b1, Y1, M1, e3, rfl, hbb, C⟩ := hq
  cases e3
  change JJ _ _ _ _ _ _ _ _ _ _ _ _ _ _ _ _ _ _ _ [.int k2] (HH b1 Y1 M1) _ _
  refine j_istore x dL_law_355 (by decide) rfl ?_
  refine j_aload_n x dL_law_357 rfl ?_
  refine j_aload_nR x dL_law_358 rfl ?_
  refine j_iload x dL_law_359 rfl ?_
  refine j_iconst (v := 1) x dL_law_361 (by decide) ?_
  refine j_iadd x dL_law_362 ?_
  rw [show nI (4 * cn) + 1 = nI (4 * cn + 1) from nI_add (4 * cn) 1]
  refine j_sld (j := 4 * cn + 1) x hX hb1 hb2 dL_law_363 (vp_in_nI (by omega) (by omega)) (nI_clamp (by omega)) ?_
  refine j_aload_nR x dL_law_364 rfl ?_
  refine j_iload x dL_law_365 rfl ?_
  refine j_iconst (v := 2) x dL_law_367 (by decide) ?_
  refine j_iadd x dL_law_368 ?_
  rw [show nI (4 * cn) + 2 = nI (4 * cn + 2) from nI_add (4 * cn) 2]
  refine j_sld (j := 4 * cn + 2) x hX hb1 hb2 dL_law_369 (vp_in_nI (by omega) (by omega)) (nI_clamp (by omega)) ?_
  refine j_aload_nR x dL_law_370 rfl ?_
  refine j_iload x dL_law_371 rfl ?_
  refine j_iconst (v := 3) x dL_law_373 (by decide) ?_
  refine j_iadd x dL_law_374 ?_
  rw [show nI (4 * cn) + 3 = nI (4 * cn + 3) from nI_add (4 * cn) 3]
  refine j_sld (j := 4 * cn + 3) x hX hb1 hb2 dL_law_375 (vp_in_nI (by omega) (by omega)) (nI_clamp (by omega)) ?_
  refine j_callV x dL_law_376 C m_X6_rules wmL_159 jc_10 rfl (show 94 < b1.2.1 by omega) rfl rfl (Nat.le_of_ble_eq_true rfl) (j_fit_room (by omega) (by omega) (by omega)) rfl (fun E k z => by obtain ⟨v, M2, h, -⟩ := z; cases h) (fun v h1 hq => ?_)
  obtain ⟨v2, M2, e4, rfl, I2, hvk, hcmp⟩ := hq
  cases e4
  obtain ⟨w2, rfl⟩ := vK_int hvk (by decide) (by decide)
  change JJ _ _ _ _ _ _ _ _ _ _ _ _ _ _ _ _ _ _ _ [.int w2] (HH b1 Y1 M2) _ _
  refine j_istore x dL_law_379 (by decide) rfl ?_
  refine j_goto (tgt := 1294) x dL_law_381 (by decide) ?_
  exact LJ_up (by omega) (by omega) (KK b1 Y1 M2 _ _ _ I2)
theorem law_case_5 {N : Nat} (X : LX p l s m meth c D tyc sb N xs) {cn : Nat} (hcn : 4 * cn + 4 ≤ N) (hN : N ≤ 2048) {b : SBt} {Y : OUt} {M : MM} (I : Inv b M) {q6 q7 q8 : Option Value} {cells slots : Nat} (hc : cells + 40 ≤ 603072) (hs : slots + 9000 ≤ 7202922) (KK : LK p l e s m below meth c D tyc sb ad0 cn cells slots) : LJ p l e s m below meth c D tyc sb ad0 384 [some (.retAddr sb), some (.ref 0), some (.ref 94), some (.ref 102), some (.ref 103), some (.int (nI (4 * cn))), q6, q7, q8] [] (HH b Y M) cells slots := by
  obtain ⟨x, hr, hX, hb1, hb2⟩ := id X
  have hb := I.hb
  obtain ⟨mc, ms, e1, e2, H⟩ := S_result (Y := Y) I (xs (4 * cn + 1)) (xs (4 * cn + 2)) (xs (4 * cn + 3))
  refine j_aload_n x dL_law_384 rfl ?_
  refine j_aload_nR x dL_law_385 rfl ?_
  refine j_iload x dL_law_386 rfl ?_
  refine j_iconst (v := 1) x dL_law_388 (by decide) ?_
  refine j_iadd x dL_law_389 ?_
  rw [show nI (4 * cn) + 1 = nI (4 * cn + 1) from nI_add (4 * cn) 1]
  refine j_sld (j := 4 * cn + 1) x hX hb1 hb2 dL_law_390 (vp_in_nI (by omega) (by omega)) (nI_clamp (by omega)) ?_
  refine j_aload_nR x dL_law_391 rfl ?_
  refine j_iload x dL_law_392 rfl ?_
  refine j_iconst (v := 2) x dL_law_394 (by decide) ?_
  refine j_iadd x dL_law_395 ?_
  rw [show nI (4 * cn) + 2 = nI (4 * cn + 2) from nI_add (4 * cn) 2]
  refine j_sld (j := 4 * cn + 2) x hX hb1 hb2 dL_law_396 (vp_in_nI (by omega) (by omega)) (nI_clamp (by omega)) ?_
  refine j_aload_nR x dL_law_397 rfl ?_
  refine j_iload x dL_law_398 rfl ?_
  refine j_iconst (v := 3) x dL_law_400 (by decide) ?_
  refine j_iadd x dL_law_401 ?_
  rw [show nI (4 * cn) + 3 = nI (4 * cn + 3) from nI_add (4 * cn) 3]
  refine j_sld (j := 4 * cn + 3) x hX hb1 hb2 dL_law_402 (vp_in_nI (by omega) (by omega)) (nI_clamp (by omega)) ?_
  refine j_aload_n x dL_law_403 rfl ?_
  refine j_callSH x dL_law_404 H m_L_result wmL_160 rfl (Nat.le_of_ble_eq_true rfl) (j_fit_room (by omega) (by omega) (by omega)) rfl (fun E k z => by obtain ⟨k2, b1, Y1, M1, h, -⟩ := z; cases h) (fun v h1 hq => ?_)
  obtain ⟨k2, b1, Y1, M1, e3, rfl, hbb, C⟩ := hq
  cases e3
  change JJ _ _ _ _ _ _ _ _ _ _ _ _ _ _ _ _ _ _ _ [.int k2] (HH b1 Y1 M1) _ _
  refine j_istore x dL_law_407 (by decide) rfl ?_
  refine j_aload_n x dL_law_409 rfl ?_
  refine j_aload_nR x dL_law_410 rfl ?_
  refine j_iload x dL_law_411 rfl ?_
  refine j_iconst (v := 1) x dL_law_413 (by decide) ?_
  refine j_iadd x dL_law_414 ?_
  rw [show nI (4 * cn) + 1 = nI (4 * cn + 1) from nI_add (4 * cn) 1]
  refine j_sld (j := 4 * cn + 1) x hX hb1 hb2 dL_law_415 (vp_in_nI (by omega) (by omega)) (nI_clamp (by omega)) ?_
  refine j_aload_nR x dL_law_416 rfl ?_
  refine j_iload x dL_law_417 rfl ?_
  refine j_iconst (v := 2) x dL_law_419 (by decide) ?_
  refine j_iadd x dL_law_420 ?_
  rw [show nI (4 * cn) + 2 = nI (4 * cn + 2) from nI_add (4 * cn) 2]
  refine j_sld (j := 4 * cn + 2) x hX hb1 hb2 dL_law_421 (vp_in_nI (by omega) (by omega)) (nI_clamp (by omega)) ?_
  refine j_aload_nR x dL_law_422 rfl ?_
  refine j_iload x dL_law_423 rfl ?_
  refine j_iconst (v := 3) x dL_law_425 (by decide) ?_
  refine j_iadd x dL_law_426 ?_
  rw [show nI (4 * cn) + 3 = nI (4 * cn + 3) from nI_add (4 * cn) 3]
  refine j_sld (j := 4 * cn + 3) x hX hb1 hb2 dL_law_427 (vp_in_nI (by omega) (by omega)) (nI_clamp (by omega)) ?_
  refine j_callV x dL_law_428 C m_X6_result wmL_162 jc_10 rfl (show 94 < b1.2.1 by omega) rfl rfl (Nat.le_of_ble_eq_true rfl) (j_fit_room (by omega) (by omega) (by omega)) rfl (fun E k z => by obtain ⟨v, M2, h, -⟩ := z; cases h) (fun v h1 hq => ?_)
  obtain ⟨v2, M2, e4, rfl, I2, hvk, hcmp⟩ := hq
  cases e4
  obtain ⟨w2, rfl⟩ := vK_int hvk (by decide) (by decide)
  change JJ _ _ _ _ _ _ _ _ _ _ _ _ _ _ _ _ _ _ _ [.int w2] (HH b1 Y1 M2) _ _
  refine j_istore x dL_law_431 (by decide) rfl ?_
  refine j_goto (tgt := 1294) x dL_law_433 (by decide) ?_
  exact LJ_up (by omega) (by omega) (KK b1 Y1 M2 _ _ _ I2)
theorem law_case_6 {N : Nat} (X : LX p l s m meth c D tyc sb N xs) {cn : Nat} (hcn : 4 * cn + 4 ≤ N) (hN : N ≤ 2048) {b : SBt} {Y : OUt} {M : MM} (I : Inv b M) {q6 q7 q8 : Option Value} {cells slots : Nat} (hc : cells + 40 ≤ 603072) (hs : slots + 9000 ≤ 7202922) (KK : LK p l e s m below meth c D tyc sb ad0 cn cells slots) : LJ p l e s m below meth c D tyc sb ad0 436 [some (.retAddr sb), some (.ref 0), some (.ref 94), some (.ref 102), some (.ref 103), some (.int (nI (4 * cn))), q6, q7, q8] [] (HH b Y M) cells slots := by
  obtain ⟨x, hr, hX, hb1, hb2⟩ := id X
  have hb := I.hb
  obtain ⟨mc, ms, e1, e2, H⟩ := S_back (Y := Y) I (xs (4 * cn + 1))
  refine j_aload_n x dL_law_436 rfl ?_
  refine j_aload_nR x dL_law_437 rfl ?_
  refine j_iload x dL_law_438 rfl ?_
  refine j_iconst (v := 1) x dL_law_440 (by decide) ?_
  refine j_iadd x dL_law_441 ?_
  rw [show nI (4 * cn) + 1 = nI (4 * cn + 1) from nI_add (4 * cn) 1]
  refine j_sld (j := 4 * cn + 1) x hX hb1 hb2 dL_law_442 (vp_in_nI (by omega) (by omega)) (nI_clamp (by omega)) ?_
  refine j_aload_n x dL_law_443 rfl ?_
  refine j_callSH x dL_law_444 H m_L_back wmL_163 rfl (Nat.le_of_ble_eq_true rfl) (j_fit_room (by omega) (by omega) (by omega)) rfl (fun E k z => by obtain ⟨k2, b1, Y1, M1, h, -⟩ := z; cases h) (fun v h1 hq => ?_)
  obtain ⟨k2, b1, Y1, M1, e3, rfl, hbb, C⟩ := hq
  cases e3
  change JJ _ _ _ _ _ _ _ _ _ _ _ _ _ _ _ _ _ _ _ [.int k2] (HH b1 Y1 M1) _ _
  refine j_istore x dL_law_447 (by decide) rfl ?_
  refine j_aload_n x dL_law_449 rfl ?_
  refine j_aload_nR x dL_law_450 rfl ?_
  refine j_iload x dL_law_451 rfl ?_
  refine j_iconst (v := 1) x dL_law_453 (by decide) ?_
  refine j_iadd x dL_law_454 ?_
  rw [show nI (4 * cn) + 1 = nI (4 * cn + 1) from nI_add (4 * cn) 1]
  refine j_sld (j := 4 * cn + 1) x hX hb1 hb2 dL_law_455 (vp_in_nI (by omega) (by omega)) (nI_clamp (by omega)) ?_
  refine j_callV x dL_law_456 C m_X6_back wmL_165 jc_10 rfl (show 94 < b1.2.1 by omega) rfl rfl (Nat.le_of_ble_eq_true rfl) (j_fit_room (by omega) (by omega) (by omega)) rfl (fun E k z => by obtain ⟨v, M2, h, -⟩ := z; cases h) (fun v h1 hq => ?_)
  obtain ⟨v2, M2, e4, rfl, I2, hvk, hcmp⟩ := hq
  cases e4
  obtain ⟨w2, rfl⟩ := vK_int hvk (by decide) (by decide)
  change JJ _ _ _ _ _ _ _ _ _ _ _ _ _ _ _ _ _ _ _ [.int w2] (HH b1 Y1 M2) _ _
  refine j_istore x dL_law_459 (by decide) rfl ?_
  refine j_goto (tgt := 1294) x dL_law_461 (by decide) ?_
  exact LJ_up (by omega) (by omega) (KK b1 Y1 M2 _ _ _ I2)
theorem law_case_7 {N : Nat} (X : LX p l s m meth c D tyc sb N xs) {cn : Nat} (hcn : 4 * cn + 4 ≤ N) (hN : N ≤ 2048) {b : SBt} {Y : OUt} {M : MM} (I : Inv b M) {q6 q7 q8 : Option Value} {cells slots : Nat} (hc : cells + 40 ≤ 603072) (hs : slots + 9000 ≤ 7202922) (KK : LK p l e s m below meth c D tyc sb ad0 cn cells slots) : LJ p l e s m below meth c D tyc sb ad0 464 [some (.retAddr sb), some (.ref 0), some (.ref 94), some (.ref 102), some (.ref 103), some (.int (nI (4 * cn))), q6, q7, q8] [] (HH b Y M) cells slots := by
  obtain ⟨x, hr, hX, hb1, hb2⟩ := id X
  have hb := I.hb
  obtain ⟨mc, ms, e1, e2, H⟩ := S_putOff (Y := Y) I (xs (4 * cn + 1)) (xs (4 * cn + 2))
  refine j_aload_n x dL_law_464 rfl ?_
  refine j_aload_nR x dL_law_465 rfl ?_
  refine j_iload x dL_law_466 rfl ?_
  refine j_iconst (v := 1) x dL_law_468 (by decide) ?_
  refine j_iadd x dL_law_469 ?_
  rw [show nI (4 * cn) + 1 = nI (4 * cn + 1) from nI_add (4 * cn) 1]
  refine j_sld (j := 4 * cn + 1) x hX hb1 hb2 dL_law_470 (vp_in_nI (by omega) (by omega)) (nI_clamp (by omega)) ?_
  refine j_aload_nR x dL_law_471 rfl ?_
  refine j_iload x dL_law_472 rfl ?_
  refine j_iconst (v := 2) x dL_law_474 (by decide) ?_
  refine j_iadd x dL_law_475 ?_
  rw [show nI (4 * cn) + 2 = nI (4 * cn + 2) from nI_add (4 * cn) 2]
  refine j_sld (j := 4 * cn + 2) x hX hb1 hb2 dL_law_476 (vp_in_nI (by omega) (by omega)) (nI_clamp (by omega)) ?_
  refine j_aload_n x dL_law_477 rfl ?_
  refine j_callSH x dL_law_478 H m_L_putOff wmL_166 rfl (Nat.le_of_ble_eq_true rfl) (j_fit_room (by omega) (by omega) (by omega)) rfl (fun E k z => by obtain ⟨k2, b1, Y1, M1, h, -⟩ := z; cases h) (fun v h1 hq => ?_)
  obtain ⟨k2, b1, Y1, M1, e3, rfl, hbb, C⟩ := hq
  cases e3
  change JJ _ _ _ _ _ _ _ _ _ _ _ _ _ _ _ _ _ _ _ [.int k2] (HH b1 Y1 M1) _ _
  refine j_istore x dL_law_481 (by decide) rfl ?_
  refine j_aload_n x dL_law_483 rfl ?_
  refine j_aload_nR x dL_law_484 rfl ?_
  refine j_iload x dL_law_485 rfl ?_
  refine j_iconst (v := 1) x dL_law_487 (by decide) ?_
  refine j_iadd x dL_law_488 ?_
  rw [show nI (4 * cn) + 1 = nI (4 * cn + 1) from nI_add (4 * cn) 1]
  refine j_sld (j := 4 * cn + 1) x hX hb1 hb2 dL_law_489 (vp_in_nI (by omega) (by omega)) (nI_clamp (by omega)) ?_
  refine j_aload_nR x dL_law_490 rfl ?_
  refine j_iload x dL_law_491 rfl ?_
  refine j_iconst (v := 2) x dL_law_493 (by decide) ?_
  refine j_iadd x dL_law_494 ?_
  rw [show nI (4 * cn) + 2 = nI (4 * cn + 2) from nI_add (4 * cn) 2]
  refine j_sld (j := 4 * cn + 2) x hX hb1 hb2 dL_law_495 (vp_in_nI (by omega) (by omega)) (nI_clamp (by omega)) ?_
  refine j_callV x dL_law_496 C m_X6_putOff wmL_168 jc_10 rfl (show 94 < b1.2.1 by omega) rfl rfl (Nat.le_of_ble_eq_true rfl) (j_fit_room (by omega) (by omega) (by omega)) rfl (fun E k z => by obtain ⟨v, M2, h, -⟩ := z; cases h) (fun v h1 hq => ?_)
  obtain ⟨v2, M2, e4, rfl, I2, hvk, hcmp⟩ := hq
  cases e4
  obtain ⟨w2, rfl⟩ := vK_int hvk (by decide) (by decide)
  change JJ _ _ _ _ _ _ _ _ _ _ _ _ _ _ _ _ _ _ _ [.int w2] (HH b1 Y1 M2) _ _
  refine j_istore x dL_law_499 (by decide) rfl ?_
  refine j_goto (tgt := 1294) x dL_law_501 (by decide) ?_
  exact LJ_up (by omega) (by omega) (KK b1 Y1 M2 _ _ _ I2)
theorem law_case_8 {N : Nat} (X : LX p l s m meth c D tyc sb N xs) {cn : Nat} (hcn : 4 * cn + 4 ≤ N) (hN : N ≤ 2048) {b : SBt} {Y : OUt} {M : MM} (I : Inv b M) {q6 q7 q8 : Option Value} {cells slots : Nat} (hc : cells + 40 ≤ 603072) (hs : slots + 9000 ≤ 7202922) (KK : LK p l e s m below meth c D tyc sb ad0 cn cells slots) : LJ p l e s m below meth c D tyc sb ad0 504 [some (.retAddr sb), some (.ref 0), some (.ref 94), some (.ref 102), some (.ref 103), some (.int (nI (4 * cn))), q6, q7, q8] [] (HH b Y M) cells slots := by
  obtain ⟨x, hr, hX, hb1, hb2⟩ := id X
  have hb := I.hb
  obtain ⟨mc, ms, e1, e2, H⟩ := S_next (Y := Y) I 
  refine j_aload_n x dL_law_504 rfl ?_
  refine j_aload_n x dL_law_505 rfl ?_
  refine j_callSH x dL_law_506 H m_L_next wmL_169 rfl (Nat.le_of_ble_eq_true rfl) (j_fit_room (by omega) (by omega) (by omega)) rfl (fun E k z => by obtain ⟨k2, b1, Y1, M1, h, -⟩ := z; cases h) (fun v h1 hq => ?_)
  obtain ⟨k2, b1, Y1, M1, e3, rfl, hbb, C⟩ := hq
  cases e3
  change JJ _ _ _ _ _ _ _ _ _ _ _ _ _ _ _ _ _ _ _ [.int k2] (HH b1 Y1 M1) _ _
  refine j_istore x dL_law_509 (by decide) rfl ?_
  refine j_aload_n x dL_law_511 rfl ?_
  refine j_callV x dL_law_512 C m_X6_next wmL_171 jc_10 rfl (show 94 < b1.2.1 by omega) rfl rfl (Nat.le_of_ble_eq_true rfl) (j_fit_room (by omega) (by omega) (by omega)) rfl (fun E k z => by obtain ⟨v, M2, h, -⟩ := z; cases h) (fun v h1 hq => ?_)
  obtain ⟨v2, M2, e4, rfl, I2, hvk, hcmp⟩ := hq
  cases e4
  obtain ⟨w2, rfl⟩ := vK_int hvk (by decide) (by decide)
  change JJ _ _ _ _ _ _ _ _ _ _ _ _ _ _ _ _ _ _ _ [.int w2] (HH b1 Y1 M2) _ _
  refine j_istore x dL_law_515 (by decide) rfl ?_
  refine j_goto (tgt := 1294) x dL_law_517 (by decide) ?_
  exact LJ_up (by omega) (by omega) (KK b1 Y1 M2 _ _ _ I2)
theorem law_case_9 {N : Nat} (X : LX p l s m meth c D tyc sb N xs) {cn : Nat} (hcn : 4 * cn + 4 ≤ N) (hN : N ≤ 2048) {b : SBt} {Y : OUt} {M : MM} (I : Inv b M) {q6 q7 q8 : Option Value} {cells slots : Nat} (hc : cells + 40 ≤ 603072) (hs : slots + 9000 ≤ 7202922) (KK : LK p l e s m below meth c D tyc sb ad0 cn cells slots) : LJ p l e s m below meth c D tyc sb ad0 520 [some (.retAddr sb), some (.ref 0), some (.ref 94), some (.ref 102), some (.ref 103), some (.int (nI (4 * cn))), q6, q7, q8] [] (HH b Y M) cells slots := by
  obtain ⟨x, hr, hX, hb1, hb2⟩ := id X
  have hb := I.hb
  obtain ⟨mc, ms, e1, e2, H⟩ := S_teamOf (Y := Y) I (xs (4 * cn + 1)) (xs (4 * cn + 2))
  refine j_aload_n x dL_law_520 rfl ?_
  refine j_aload_nR x dL_law_521 rfl ?_
  refine j_iload x dL_law_522 rfl ?_
  refine j_iconst (v := 1) x dL_law_524 (by decide) ?_
  refine j_iadd x dL_law_525 ?_
  rw [show nI (4 * cn) + 1 = nI (4 * cn + 1) from nI_add (4 * cn) 1]
  refine j_sld (j := 4 * cn + 1) x hX hb1 hb2 dL_law_526 (vp_in_nI (by omega) (by omega)) (nI_clamp (by omega)) ?_
  refine j_aload_nR x dL_law_527 rfl ?_
  refine j_iload x dL_law_528 rfl ?_
  refine j_iconst (v := 2) x dL_law_530 (by decide) ?_
  refine j_iadd x dL_law_531 ?_
  rw [show nI (4 * cn) + 2 = nI (4 * cn + 2) from nI_add (4 * cn) 2]
  refine j_sld (j := 4 * cn + 2) x hX hb1 hb2 dL_law_532 (vp_in_nI (by omega) (by omega)) (nI_clamp (by omega)) ?_
  refine j_aload_n x dL_law_533 rfl ?_
  refine j_callSH x dL_law_534 H m_L_teamOf wmL_172 rfl (Nat.le_of_ble_eq_true rfl) (j_fit_room (by omega) (by omega) (by omega)) rfl (fun E k z => by obtain ⟨k2, b1, Y1, M1, h, -⟩ := z; cases h) (fun v h1 hq => ?_)
  obtain ⟨k2, b1, Y1, M1, e3, rfl, hbb, C⟩ := hq
  cases e3
  change JJ _ _ _ _ _ _ _ _ _ _ _ _ _ _ _ _ _ _ _ [.int k2] (HH b1 Y1 M1) _ _
  refine j_istore x dL_law_537 (by decide) rfl ?_
  refine j_aload_n x dL_law_539 rfl ?_
  refine j_aload_nR x dL_law_540 rfl ?_
  refine j_iload x dL_law_541 rfl ?_
  refine j_iconst (v := 1) x dL_law_543 (by decide) ?_
  refine j_iadd x dL_law_544 ?_
  rw [show nI (4 * cn) + 1 = nI (4 * cn + 1) from nI_add (4 * cn) 1]
  refine j_sld (j := 4 * cn + 1) x hX hb1 hb2 dL_law_545 (vp_in_nI (by omega) (by omega)) (nI_clamp (by omega)) ?_
  refine j_aload_nR x dL_law_546 rfl ?_
  refine j_iload x dL_law_547 rfl ?_
  refine j_iconst (v := 2) x dL_law_549 (by decide) ?_
  refine j_iadd x dL_law_550 ?_
  rw [show nI (4 * cn) + 2 = nI (4 * cn + 2) from nI_add (4 * cn) 2]
  refine j_sld (j := 4 * cn + 2) x hX hb1 hb2 dL_law_551 (vp_in_nI (by omega) (by omega)) (nI_clamp (by omega)) ?_
  refine j_callV x dL_law_552 C m_X6_teamOf wmL_174 jc_10 rfl (show 94 < b1.2.1 by omega) rfl rfl (Nat.le_of_ble_eq_true rfl) (j_fit_room (by omega) (by omega) (by omega)) rfl (fun E k z => by obtain ⟨v, M2, h, -⟩ := z; cases h) (fun v h1 hq => ?_)
  obtain ⟨v2, M2, e4, rfl, I2, hvk, hcmp⟩ := hq
  cases e4
  obtain ⟨w2, rfl⟩ := vK_int hvk (by decide) (by decide)
  change JJ _ _ _ _ _ _ _ _ _ _ _ _ _ _ _ _ _ _ _ [.int w2] (HH b1 Y1 M2) _ _
  refine j_istore x dL_law_555 (by decide) rfl ?_
  refine j_goto (tgt := 1294) x dL_law_557 (by decide) ?_
  exact LJ_up (by omega) (by omega) (KK b1 Y1 M2 _ _ _ I2)
theorem law_case_10 {N : Nat} (X : LX p l s m meth c D tyc sb N xs) {cn : Nat} (hcn : 4 * cn + 4 ≤ N) (hN : N ≤ 2048) {b : SBt} {Y : OUt} {M : MM} (I : Inv b M) {q6 q7 q8 : Option Value} {cells slots : Nat} (hc : cells + 40 ≤ 603072) (hs : slots + 9000 ≤ 7202922) (KK : LK p l e s m below meth c D tyc sb ad0 cn cells slots) : LJ p l e s m below meth c D tyc sb ad0 560 [some (.retAddr sb), some (.ref 0), some (.ref 94), some (.ref 102), some (.ref 103), some (.int (nI (4 * cn))), q6, q7, q8] [] (HH b Y M) cells slots := by
  obtain ⟨x, hr, hX, hb1, hb2⟩ := id X
  have hb := I.hb
  obtain ⟨mc, ms, e1, e2, H⟩ := S_pointsAgain (Y := Y) I (xs (4 * cn + 1))
  refine j_aload_n x dL_law_560 rfl ?_
  refine j_aload_nR x dL_law_561 rfl ?_
  refine j_iload x dL_law_562 rfl ?_
  refine j_iconst (v := 1) x dL_law_564 (by decide) ?_
  refine j_iadd x dL_law_565 ?_
  rw [show nI (4 * cn) + 1 = nI (4 * cn + 1) from nI_add (4 * cn) 1]
  refine j_sld (j := 4 * cn + 1) x hX hb1 hb2 dL_law_566 (vp_in_nI (by omega) (by omega)) (nI_clamp (by omega)) ?_
  refine j_aload_n x dL_law_567 rfl ?_
  refine j_callSH x dL_law_568 H m_L_pointsAgain wmL_175 rfl (Nat.le_of_ble_eq_true rfl) (j_fit_room (by omega) (by omega) (by omega)) rfl (fun E k z => by obtain ⟨k2, b1, Y1, M1, h, -⟩ := z; cases h) (fun v h1 hq => ?_)
  obtain ⟨k2, b1, Y1, M1, e3, rfl, hbb, C⟩ := hq
  cases e3
  change JJ _ _ _ _ _ _ _ _ _ _ _ _ _ _ _ _ _ _ _ [.int k2] (HH b1 Y1 M1) _ _
  refine j_istore x dL_law_571 (by decide) rfl ?_
  refine j_aload_n x dL_law_573 rfl ?_
  refine j_aload_nR x dL_law_574 rfl ?_
  refine j_iload x dL_law_575 rfl ?_
  refine j_iconst (v := 1) x dL_law_577 (by decide) ?_
  refine j_iadd x dL_law_578 ?_
  rw [show nI (4 * cn) + 1 = nI (4 * cn + 1) from nI_add (4 * cn) 1]
  refine j_sld (j := 4 * cn + 1) x hX hb1 hb2 dL_law_579 (vp_in_nI (by omega) (by omega)) (nI_clamp (by omega)) ?_
  refine j_callV x dL_law_580 C m_X6_pointsAgain wmL_177 jc_10 rfl (show 94 < b1.2.1 by omega) rfl rfl (Nat.le_of_ble_eq_true rfl) (j_fit_room (by omega) (by omega) (by omega)) rfl (fun E k z => by obtain ⟨v, M2, h, -⟩ := z; cases h) (fun v h1 hq => ?_)
  obtain ⟨v2, M2, e4, rfl, I2, hvk, hcmp⟩ := hq
  cases e4
  obtain ⟨w2, rfl⟩ := vK_int hvk (by decide) (by decide)
  change JJ _ _ _ _ _ _ _ _ _ _ _ _ _ _ _ _ _ _ _ [.int w2] (HH b1 Y1 M2) _ _
  refine j_istore x dL_law_583 (by decide) rfl ?_
  refine j_goto (tgt := 1294) x dL_law_585 (by decide) ?_
  exact LJ_up (by omega) (by omega) (KK b1 Y1 M2 _ _ _ I2)
theorem law_case_11 {N : Nat} (X : LX p l s m meth c D tyc sb N xs) {cn : Nat} (hcn : 4 * cn + 4 ≤ N) (hN : N ≤ 2048) {b : SBt} {Y : OUt} {M : MM} (I : Inv b M) {q6 q7 q8 : Option Value} {cells slots : Nat} (hc : cells + 40 ≤ 603072) (hs : slots + 9000 ≤ 7202922) (KK : LK p l e s m below meth c D tyc sb ad0 cn cells slots) : LJ p l e s m below meth c D tyc sb ad0 588 [some (.retAddr sb), some (.ref 0), some (.ref 94), some (.ref 102), some (.ref 103), some (.int (nI (4 * cn))), q6, q7, q8] [] (HH b Y M) cells slots := by
  obtain ⟨x, hr, hX, hb1, hb2⟩ := id X
  have hb := I.hb
  obtain ⟨mc, ms, e1, e2, H⟩ := S_meetingOf (Y := Y) I (xs (4 * cn + 1)) (xs (4 * cn + 2))
  refine j_aload_n x dL_law_588 rfl ?_
  refine j_aload_nR x dL_law_589 rfl ?_
  refine j_iload x dL_law_590 rfl ?_
  refine j_iconst (v := 1) x dL_law_592 (by decide) ?_
  refine j_iadd x dL_law_593 ?_
  rw [show nI (4 * cn) + 1 = nI (4 * cn + 1) from nI_add (4 * cn) 1]
  refine j_sld (j := 4 * cn + 1) x hX hb1 hb2 dL_law_594 (vp_in_nI (by omega) (by omega)) (nI_clamp (by omega)) ?_
  refine j_aload_nR x dL_law_595 rfl ?_
  refine j_iload x dL_law_596 rfl ?_
  refine j_iconst (v := 2) x dL_law_598 (by decide) ?_
  refine j_iadd x dL_law_599 ?_
  rw [show nI (4 * cn) + 2 = nI (4 * cn + 2) from nI_add (4 * cn) 2]
  refine j_sld (j := 4 * cn + 2) x hX hb1 hb2 dL_law_600 (vp_in_nI (by omega) (by omega)) (nI_clamp (by omega)) ?_
  refine j_aload_n x dL_law_601 rfl ?_
  refine j_callSH x dL_law_602 H m_L_meetingOf wmL_178 rfl (Nat.le_of_ble_eq_true rfl) (j_fit_room (by omega) (by omega) (by omega)) rfl (fun E k z => by obtain ⟨k2, b1, Y1, M1, h, -⟩ := z; cases h) (fun v h1 hq => ?_)
  obtain ⟨k2, b1, Y1, M1, e3, rfl, hbb, C⟩ := hq
  cases e3
  change JJ _ _ _ _ _ _ _ _ _ _ _ _ _ _ _ _ _ _ _ [.int k2] (HH b1 Y1 M1) _ _
  refine j_istore x dL_law_605 (by decide) rfl ?_
  refine j_aload_n x dL_law_607 rfl ?_
  refine j_aload_nR x dL_law_608 rfl ?_
  refine j_iload x dL_law_609 rfl ?_
  refine j_iconst (v := 1) x dL_law_611 (by decide) ?_
  refine j_iadd x dL_law_612 ?_
  rw [show nI (4 * cn) + 1 = nI (4 * cn + 1) from nI_add (4 * cn) 1]
  refine j_sld (j := 4 * cn + 1) x hX hb1 hb2 dL_law_613 (vp_in_nI (by omega) (by omega)) (nI_clamp (by omega)) ?_
  refine j_aload_nR x dL_law_614 rfl ?_
  refine j_iload x dL_law_615 rfl ?_
  refine j_iconst (v := 2) x dL_law_617 (by decide) ?_
  refine j_iadd x dL_law_618 ?_
  rw [show nI (4 * cn) + 2 = nI (4 * cn + 2) from nI_add (4 * cn) 2]
  refine j_sld (j := 4 * cn + 2) x hX hb1 hb2 dL_law_619 (vp_in_nI (by omega) (by omega)) (nI_clamp (by omega)) ?_
  refine j_callV x dL_law_620 C m_X6_meetingOf wmL_180 jc_10 rfl (show 94 < b1.2.1 by omega) rfl rfl (Nat.le_of_ble_eq_true rfl) (j_fit_room (by omega) (by omega) (by omega)) rfl (fun E k z => by obtain ⟨v, M2, h, -⟩ := z; cases h) (fun v h1 hq => ?_)
  obtain ⟨v2, M2, e4, rfl, I2, hvk, hcmp⟩ := hq
  cases e4
  obtain ⟨w2, rfl⟩ := vK_int hvk (by decide) (by decide)
  change JJ _ _ _ _ _ _ _ _ _ _ _ _ _ _ _ _ _ _ _ [.int w2] (HH b1 Y1 M2) _ _
  refine j_istore x dL_law_623 (by decide) rfl ?_
  refine j_goto (tgt := 1294) x dL_law_625 (by decide) ?_
  exact LJ_up (by omega) (by omega) (KK b1 Y1 M2 _ _ _ I2)
theorem law_case_12 {N : Nat} (X : LX p l s m meth c D tyc sb N xs) {cn : Nat} (hcn : 4 * cn + 4 ≤ N) (hN : N ≤ 2048) {b : SBt} {Y : OUt} {M : MM} (I : Inv b M) {q6 q7 q8 : Option Value} {cells slots : Nat} (hc : cells + 40 ≤ 603072) (hs : slots + 9000 ≤ 7202922) (KK : LK p l e s m below meth c D tyc sb ad0 cn cells slots) : LJ p l e s m below meth c D tyc sb ad0 628 [some (.retAddr sb), some (.ref 0), some (.ref 94), some (.ref 102), some (.ref 103), some (.int (nI (4 * cn))), q6, q7, q8] [] (HH b Y M) cells slots := by
  obtain ⟨x, hr, hX, hb1, hb2⟩ := id X
  have hb := I.hb
  obtain ⟨mc, ms, e1, e2, H⟩ := S_find (Y := Y) I (xs (4 * cn + 1)) (xs (4 * cn + 2))
  refine j_aload_n x dL_law_628 rfl ?_
  refine j_aload_nR x dL_law_629 rfl ?_
  refine j_iload x dL_law_630 rfl ?_
  refine j_iconst (v := 1) x dL_law_632 (by decide) ?_
  refine j_iadd x dL_law_633 ?_
  rw [show nI (4 * cn) + 1 = nI (4 * cn + 1) from nI_add (4 * cn) 1]
  refine j_sld (j := 4 * cn + 1) x hX hb1 hb2 dL_law_634 (vp_in_nI (by omega) (by omega)) (nI_clamp (by omega)) ?_
  refine j_aload_nR x dL_law_635 rfl ?_
  refine j_iload x dL_law_636 rfl ?_
  refine j_iconst (v := 2) x dL_law_638 (by decide) ?_
  refine j_iadd x dL_law_639 ?_
  rw [show nI (4 * cn) + 2 = nI (4 * cn + 2) from nI_add (4 * cn) 2]
  refine j_sld (j := 4 * cn + 2) x hX hb1 hb2 dL_law_640 (vp_in_nI (by omega) (by omega)) (nI_clamp (by omega)) ?_
  refine j_aload_n x dL_law_641 rfl ?_
  refine j_callSH x dL_law_642 H m_L_find wmL_181 rfl (Nat.le_of_ble_eq_true rfl) (j_fit_room (by omega) (by omega) (by omega)) rfl (fun E k z => by obtain ⟨k2, b1, Y1, M1, h, -⟩ := z; cases h) (fun v h1 hq => ?_)
  obtain ⟨k2, b1, Y1, M1, e3, rfl, hbb, C⟩ := hq
  cases e3
  change JJ _ _ _ _ _ _ _ _ _ _ _ _ _ _ _ _ _ _ _ [.int k2] (HH b1 Y1 M1) _ _
  refine j_istore x dL_law_645 (by decide) rfl ?_
  refine j_aload_n x dL_law_647 rfl ?_
  refine j_aload_nR x dL_law_648 rfl ?_
  refine j_iload x dL_law_649 rfl ?_
  refine j_iconst (v := 1) x dL_law_651 (by decide) ?_
  refine j_iadd x dL_law_652 ?_
  rw [show nI (4 * cn) + 1 = nI (4 * cn + 1) from nI_add (4 * cn) 1]
  refine j_sld (j := 4 * cn + 1) x hX hb1 hb2 dL_law_653 (vp_in_nI (by omega) (by omega)) (nI_clamp (by omega)) ?_
  refine j_aload_nR x dL_law_654 rfl ?_
  refine j_iload x dL_law_655 rfl ?_
  refine j_iconst (v := 2) x dL_law_657 (by decide) ?_
  refine j_iadd x dL_law_658 ?_
  rw [show nI (4 * cn) + 2 = nI (4 * cn + 2) from nI_add (4 * cn) 2]
  refine j_sld (j := 4 * cn + 2) x hX hb1 hb2 dL_law_659 (vp_in_nI (by omega) (by omega)) (nI_clamp (by omega)) ?_
  refine j_callV x dL_law_660 C m_X6_find wmL_183 jc_10 rfl (show 94 < b1.2.1 by omega) rfl rfl (Nat.le_of_ble_eq_true rfl) (j_fit_room (by omega) (by omega) (by omega)) rfl (fun E k z => by obtain ⟨v, M2, h, -⟩ := z; cases h) (fun v h1 hq => ?_)
  obtain ⟨v2, M2, e4, rfl, I2, hvk, hcmp⟩ := hq
  cases e4
  obtain ⟨w2, rfl⟩ := vK_int hvk (by decide) (by decide)
  change JJ _ _ _ _ _ _ _ _ _ _ _ _ _ _ _ _ _ _ _ [.int w2] (HH b1 Y1 M2) _ _
  refine j_istore x dL_law_663 (by decide) rfl ?_
  refine j_goto (tgt := 1294) x dL_law_665 (by decide) ?_
  exact LJ_up (by omega) (by omega) (KK b1 Y1 M2 _ _ _ I2)
theorem law_case_13 {N : Nat} (X : LX p l s m meth c D tyc sb N xs) {cn : Nat} (hcn : 4 * cn + 4 ≤ N) (hN : N ≤ 2048) {b : SBt} {Y : OUt} {M : MM} (I : Inv b M) {q6 q7 q8 : Option Value} {cells slots : Nat} (hc : cells + 40 ≤ 603072) (hs : slots + 9000 ≤ 7202922) (KK : LK p l e s m below meth c D tyc sb ad0 cn cells slots) : LJ p l e s m below meth c D tyc sb ad0 668 [some (.retAddr sb), some (.ref 0), some (.ref 94), some (.ref 102), some (.ref 103), some (.int (nI (4 * cn))), q6, q7, q8] [] (HH b Y M) cells slots := by
  obtain ⟨x, hr, hX, hb1, hb2⟩ := id X
  have hb := I.hb
  obtain ⟨mc, ms, e1, e2, H⟩ := S_byeIn (Y := Y) I (xs (4 * cn + 1))
  refine j_aload_n x dL_law_668 rfl ?_
  refine j_aload_nR x dL_law_669 rfl ?_
  refine j_iload x dL_law_670 rfl ?_
  refine j_iconst (v := 1) x dL_law_672 (by decide) ?_
  refine j_iadd x dL_law_673 ?_
  rw [show nI (4 * cn) + 1 = nI (4 * cn + 1) from nI_add (4 * cn) 1]
  refine j_sld (j := 4 * cn + 1) x hX hb1 hb2 dL_law_674 (vp_in_nI (by omega) (by omega)) (nI_clamp (by omega)) ?_
  refine j_aload_n x dL_law_675 rfl ?_
  refine j_callSH x dL_law_676 H m_L_byeIn wmL_184 rfl (Nat.le_of_ble_eq_true rfl) (j_fit_room (by omega) (by omega) (by omega)) rfl (fun E k z => by obtain ⟨k2, b1, Y1, M1, h, -⟩ := z; cases h) (fun v h1 hq => ?_)
  obtain ⟨k2, b1, Y1, M1, e3, rfl, hbb, C⟩ := hq
  cases e3
  change JJ _ _ _ _ _ _ _ _ _ _ _ _ _ _ _ _ _ _ _ [.int k2] (HH b1 Y1 M1) _ _
  refine j_istore x dL_law_679 (by decide) rfl ?_
  refine j_aload_n x dL_law_681 rfl ?_
  refine j_aload_nR x dL_law_682 rfl ?_
  refine j_iload x dL_law_683 rfl ?_
  refine j_iconst (v := 1) x dL_law_685 (by decide) ?_
  refine j_iadd x dL_law_686 ?_
  rw [show nI (4 * cn) + 1 = nI (4 * cn + 1) from nI_add (4 * cn) 1]
  refine j_sld (j := 4 * cn + 1) x hX hb1 hb2 dL_law_687 (vp_in_nI (by omega) (by omega)) (nI_clamp (by omega)) ?_
  refine j_callV x dL_law_688 C m_X6_byeIn wmL_186 jc_10 rfl (show 94 < b1.2.1 by omega) rfl rfl (Nat.le_of_ble_eq_true rfl) (j_fit_room (by omega) (by omega) (by omega)) rfl (fun E k z => by obtain ⟨v, M2, h, -⟩ := z; cases h) (fun v h1 hq => ?_)
  obtain ⟨v2, M2, e4, rfl, I2, hvk, hcmp⟩ := hq
  cases e4
  obtain ⟨w2, rfl⟩ := vK_int hvk (by decide) (by decide)
  change JJ _ _ _ _ _ _ _ _ _ _ _ _ _ _ _ _ _ _ _ [.int w2] (HH b1 Y1 M2) _ _
  refine j_istore x dL_law_691 (by decide) rfl ?_
  refine j_goto (tgt := 1294) x dL_law_693 (by decide) ?_
  exact LJ_up (by omega) (by omega) (KK b1 Y1 M2 _ _ _ I2)
theorem law_case_14 {N : Nat} (X : LX p l s m meth c D tyc sb N xs) {cn : Nat} (hcn : 4 * cn + 4 ≤ N) (hN : N ≤ 2048) {b : SBt} {Y : OUt} {M : MM} (I : Inv b M) {q6 q7 q8 : Option Value} {cells slots : Nat} (hc : cells + 40 ≤ 603072) (hs : slots + 9000 ≤ 7202922) (KK : LK p l e s m below meth c D tyc sb ad0 cn cells slots) : LJ p l e s m below meth c D tyc sb ad0 696 [some (.retAddr sb), some (.ref 0), some (.ref 94), some (.ref 102), some (.ref 103), some (.int (nI (4 * cn))), q6, q7, q8] [] (HH b Y M) cells slots := by
  obtain ⟨x, hr, hX, hb1, hb2⟩ := id X
  have hb := I.hb
  obtain ⟨mc, ms, e1, e2, H⟩ := S_meetingsIn (Y := Y) I (xs (4 * cn + 1))
  refine j_aload_n x dL_law_696 rfl ?_
  refine j_aload_nR x dL_law_697 rfl ?_
  refine j_iload x dL_law_698 rfl ?_
  refine j_iconst (v := 1) x dL_law_700 (by decide) ?_
  refine j_iadd x dL_law_701 ?_
  rw [show nI (4 * cn) + 1 = nI (4 * cn + 1) from nI_add (4 * cn) 1]
  refine j_sld (j := 4 * cn + 1) x hX hb1 hb2 dL_law_702 (vp_in_nI (by omega) (by omega)) (nI_clamp (by omega)) ?_
  refine j_aload_n x dL_law_703 rfl ?_
  refine j_callSH x dL_law_704 H m_L_meetingsIn wmL_187 rfl (Nat.le_of_ble_eq_true rfl) (j_fit_room (by omega) (by omega) (by omega)) rfl (fun E k z => by obtain ⟨k2, b1, Y1, M1, h, -⟩ := z; cases h) (fun v h1 hq => ?_)
  obtain ⟨k2, b1, Y1, M1, e3, rfl, hbb, C⟩ := hq
  cases e3
  change JJ _ _ _ _ _ _ _ _ _ _ _ _ _ _ _ _ _ _ _ [.int k2] (HH b1 Y1 M1) _ _
  refine j_istore x dL_law_707 (by decide) rfl ?_
  refine j_aload_n x dL_law_709 rfl ?_
  refine j_aload_nR x dL_law_710 rfl ?_
  refine j_iload x dL_law_711 rfl ?_
  refine j_iconst (v := 1) x dL_law_713 (by decide) ?_
  refine j_iadd x dL_law_714 ?_
  rw [show nI (4 * cn) + 1 = nI (4 * cn + 1) from nI_add (4 * cn) 1]
  refine j_sld (j := 4 * cn + 1) x hX hb1 hb2 dL_law_715 (vp_in_nI (by omega) (by omega)) (nI_clamp (by omega)) ?_
  refine j_callV x dL_law_716 C m_X6_meetingsIn wmL_189 jc_10 rfl (show 94 < b1.2.1 by omega) rfl rfl (Nat.le_of_ble_eq_true rfl) (j_fit_room (by omega) (by omega) (by omega)) rfl (fun E k z => by obtain ⟨v, M2, h, -⟩ := z; cases h) (fun v h1 hq => ?_)
  obtain ⟨v2, M2, e4, rfl, I2, hvk, hcmp⟩ := hq
  cases e4
  obtain ⟨w2, rfl⟩ := vK_int hvk (by decide) (by decide)
  change JJ _ _ _ _ _ _ _ _ _ _ _ _ _ _ _ _ _ _ _ [.int w2] (HH b1 Y1 M2) _ _
  refine j_istore x dL_law_719 (by decide) rfl ?_
  refine j_goto (tgt := 1294) x dL_law_721 (by decide) ?_
  exact LJ_up (by omega) (by omega) (KK b1 Y1 M2 _ _ _ I2)
theorem law_case_15 {N : Nat} (X : LX p l s m meth c D tyc sb N xs) {cn : Nat} (hcn : 4 * cn + 4 ≤ N) (hN : N ≤ 2048) {b : SBt} {Y : OUt} {M : MM} (I : Inv b M) {q6 q7 q8 : Option Value} {cells slots : Nat} (hc : cells + 40 ≤ 603072) (hs : slots + 9000 ≤ 7202922) (KK : LK p l e s m below meth c D tyc sb ad0 cn cells slots) : LJ p l e s m below meth c D tyc sb ad0 724 [some (.retAddr sb), some (.ref 0), some (.ref 94), some (.ref 102), some (.ref 103), some (.int (nI (4 * cn))), q6, q7, q8] [] (HH b Y M) cells slots := by
  obtain ⟨x, hr, hX, hb1, hb2⟩ := id X
  have hb := I.hb
  obtain ⟨mc, ms, e1, e2, H⟩ := S_clashes (Y := Y) I (xs (4 * cn + 1))
  refine j_aload_n x dL_law_724 rfl ?_
  refine j_aload_nR x dL_law_725 rfl ?_
  refine j_iload x dL_law_726 rfl ?_
  refine j_iconst (v := 1) x dL_law_728 (by decide) ?_
  refine j_iadd x dL_law_729 ?_
  rw [show nI (4 * cn) + 1 = nI (4 * cn + 1) from nI_add (4 * cn) 1]
  refine j_sld (j := 4 * cn + 1) x hX hb1 hb2 dL_law_730 (vp_in_nI (by omega) (by omega)) (nI_clamp (by omega)) ?_
  refine j_aload_n x dL_law_731 rfl ?_
  refine j_callSH x dL_law_732 H m_L_clashes wmL_190 rfl (Nat.le_of_ble_eq_true rfl) (j_fit_room (by omega) (by omega) (by omega)) rfl (fun E k z => by obtain ⟨k2, b1, Y1, M1, h, -⟩ := z; cases h) (fun v h1 hq => ?_)
  obtain ⟨k2, b1, Y1, M1, e3, rfl, hbb, C⟩ := hq
  cases e3
  change JJ _ _ _ _ _ _ _ _ _ _ _ _ _ _ _ _ _ _ _ [.int k2] (HH b1 Y1 M1) _ _
  refine j_istore x dL_law_735 (by decide) rfl ?_
  refine j_aload_n x dL_law_737 rfl ?_
  refine j_aload_nR x dL_law_738 rfl ?_
  refine j_iload x dL_law_739 rfl ?_
  refine j_iconst (v := 1) x dL_law_741 (by decide) ?_
  refine j_iadd x dL_law_742 ?_
  rw [show nI (4 * cn) + 1 = nI (4 * cn + 1) from nI_add (4 * cn) 1]
  refine j_sld (j := 4 * cn + 1) x hX hb1 hb2 dL_law_743 (vp_in_nI (by omega) (by omega)) (nI_clamp (by omega)) ?_
  refine j_callV x dL_law_744 C m_X6_clashes_ wmL_192 jc_10 rfl (show 94 < b1.2.1 by omega) rfl rfl (Nat.le_of_ble_eq_true rfl) (j_fit_room (by omega) (by omega) (by omega)) rfl (fun E k z => by obtain ⟨v, M2, h, -⟩ := z; cases h) (fun v h1 hq => ?_)
  obtain ⟨v2, M2, e4, rfl, I2, hvk, hcmp⟩ := hq
  cases e4
  obtain ⟨w2, rfl⟩ := vK_int hvk (by decide) (by decide)
  change JJ _ _ _ _ _ _ _ _ _ _ _ _ _ _ _ _ _ _ _ [.int w2] (HH b1 Y1 M2) _ _
  refine j_istore x dL_law_747 (by decide) rfl ?_
  refine j_goto (tgt := 1294) x dL_law_749 (by decide) ?_
  exact LJ_up (by omega) (by omega) (KK b1 Y1 M2 _ _ _ I2)
theorem law_case_16 {N : Nat} (X : LX p l s m meth c D tyc sb N xs) {cn : Nat} (hcn : 4 * cn + 4 ≤ N) (hN : N ≤ 2048) {b : SBt} {Y : OUt} {M : MM} (I : Inv b M) {q6 q7 q8 : Option Value} {cells slots : Nat} (hc : cells + 40 ≤ 603072) (hs : slots + 9000 ≤ 7202922) (KK : LK p l e s m below meth c D tyc sb ad0 cn cells slots) : LJ p l e s m below meth c D tyc sb ad0 752 [some (.retAddr sb), some (.ref 0), some (.ref 94), some (.ref 102), some (.ref 103), some (.int (nI (4 * cn))), q6, q7, q8] [] (HH b Y M) cells slots := by
  obtain ⟨x, hr, hX, hb1, hb2⟩ := id X
  have hb := I.hb
  obtain ⟨mc, ms, e1, e2, H⟩ := S_freeWeek (Y := Y) I (xs (4 * cn + 1))
  refine j_aload_n x dL_law_752 rfl ?_
  refine j_aload_nR x dL_law_753 rfl ?_
  refine j_iload x dL_law_754 rfl ?_
  refine j_iconst (v := 1) x dL_law_756 (by decide) ?_
  refine j_iadd x dL_law_757 ?_
  rw [show nI (4 * cn) + 1 = nI (4 * cn + 1) from nI_add (4 * cn) 1]
  refine j_sld (j := 4 * cn + 1) x hX hb1 hb2 dL_law_758 (vp_in_nI (by omega) (by omega)) (nI_clamp (by omega)) ?_
  refine j_aload_n x dL_law_759 rfl ?_
  refine j_callSH x dL_law_760 H m_L_freeWeek wmL_193 rfl (Nat.le_of_ble_eq_true rfl) (j_fit_room (by omega) (by omega) (by omega)) rfl (fun E k z => by obtain ⟨k2, b1, Y1, M1, h, -⟩ := z; cases h) (fun v h1 hq => ?_)
  obtain ⟨k2, b1, Y1, M1, e3, rfl, hbb, C⟩ := hq
  cases e3
  change JJ _ _ _ _ _ _ _ _ _ _ _ _ _ _ _ _ _ _ _ [.int k2] (HH b1 Y1 M1) _ _
  refine j_istore x dL_law_763 (by decide) rfl ?_
  refine j_aload_n x dL_law_765 rfl ?_
  refine j_aload_nR x dL_law_766 rfl ?_
  refine j_iload x dL_law_767 rfl ?_
  refine j_iconst (v := 1) x dL_law_769 (by decide) ?_
  refine j_iadd x dL_law_770 ?_
  rw [show nI (4 * cn) + 1 = nI (4 * cn + 1) from nI_add (4 * cn) 1]
  refine j_sld (j := 4 * cn + 1) x hX hb1 hb2 dL_law_771 (vp_in_nI (by omega) (by omega)) (nI_clamp (by omega)) ?_
  refine j_callV x dL_law_772 C m_X6_freeWeek wmL_195 jc_10 rfl (show 94 < b1.2.1 by omega) rfl rfl (Nat.le_of_ble_eq_true rfl) (j_fit_room (by omega) (by omega) (by omega)) rfl (fun E k z => by obtain ⟨v, M2, h, -⟩ := z; cases h) (fun v h1 hq => ?_)
  obtain ⟨v2, M2, e4, rfl, I2, hvk, hcmp⟩ := hq
  cases e4
  obtain ⟨w2, rfl⟩ := vK_int hvk (by decide) (by decide)
  change JJ _ _ _ _ _ _ _ _ _ _ _ _ _ _ _ _ _ _ _ [.int w2] (HH b1 Y1 M2) _ _
  refine j_istore x dL_law_775 (by decide) rfl ?_
  refine j_goto (tgt := 1294) x dL_law_777 (by decide) ?_
  exact LJ_up (by omega) (by omega) (KK b1 Y1 M2 _ _ _ I2)
theorem law_case_17 {N : Nat} (X : LX p l s m meth c D tyc sb N xs) {cn : Nat} (hcn : 4 * cn + 4 ≤ N) (hN : N ≤ 2048) {b : SBt} {Y : OUt} {M : MM} (I : Inv b M) {q6 q7 q8 : Option Value} {cells slots : Nat} (hc : cells + 40 ≤ 603072) (hs : slots + 9000 ≤ 7202922) (KK : LK p l e s m below meth c D tyc sb ad0 cn cells slots) : LJ p l e s m below meth c D tyc sb ad0 780 [some (.retAddr sb), some (.ref 0), some (.ref 94), some (.ref 102), some (.ref 103), some (.int (nI (4 * cn))), q6, q7, q8] [] (HH b Y M) cells slots := by
  obtain ⟨x, hr, hX, hb1, hb2⟩ := id X
  have hb := I.hb
  obtain ⟨mc, ms, e1, e2, H⟩ := S_ranked (Y := Y) I (xs (4 * cn + 1))
  refine j_aload_n x dL_law_780 rfl ?_
  refine j_aload_nR x dL_law_781 rfl ?_
  refine j_iload x dL_law_782 rfl ?_
  refine j_iconst (v := 1) x dL_law_784 (by decide) ?_
  refine j_iadd x dL_law_785 ?_
  rw [show nI (4 * cn) + 1 = nI (4 * cn + 1) from nI_add (4 * cn) 1]
  refine j_sld (j := 4 * cn + 1) x hX hb1 hb2 dL_law_786 (vp_in_nI (by omega) (by omega)) (nI_clamp (by omega)) ?_
  refine j_aload_n x dL_law_787 rfl ?_
  refine j_callSH x dL_law_788 H m_L_ranked wmL_196 rfl (Nat.le_of_ble_eq_true rfl) (j_fit_room (by omega) (by omega) (by omega)) rfl (fun E k z => by obtain ⟨k2, b1, Y1, M1, h, -⟩ := z; cases h) (fun v h1 hq => ?_)
  obtain ⟨k2, b1, Y1, M1, e3, rfl, hbb, C⟩ := hq
  cases e3
  change JJ _ _ _ _ _ _ _ _ _ _ _ _ _ _ _ _ _ _ _ [.int k2] (HH b1 Y1 M1) _ _
  refine j_istore x dL_law_791 (by decide) rfl ?_
  refine j_aload_n x dL_law_793 rfl ?_
  refine j_aload_nR x dL_law_794 rfl ?_
  refine j_iload x dL_law_795 rfl ?_
  refine j_iconst (v := 1) x dL_law_797 (by decide) ?_
  refine j_iadd x dL_law_798 ?_
  rw [show nI (4 * cn) + 1 = nI (4 * cn + 1) from nI_add (4 * cn) 1]
  refine j_sld (j := 4 * cn + 1) x hX hb1 hb2 dL_law_799 (vp_in_nI (by omega) (by omega)) (nI_clamp (by omega)) ?_
  refine j_callV x dL_law_800 C m_X6_ranked wmL_198 jc_10 rfl (show 94 < b1.2.1 by omega) rfl rfl (Nat.le_of_ble_eq_true rfl) (j_fit_room (by omega) (by omega) (by omega)) rfl (fun E k z => by obtain ⟨v, M2, h, -⟩ := z; cases h) (fun v h1 hq => ?_)
  obtain ⟨v2, M2, e4, rfl, I2, hvk, hcmp⟩ := hq
  cases e4
  obtain ⟨w2, rfl⟩ := vK_int hvk (by decide) (by decide)
  change JJ _ _ _ _ _ _ _ _ _ _ _ _ _ _ _ _ _ _ _ [.int w2] (HH b1 Y1 M2) _ _
  refine j_istore x dL_law_803 (by decide) rfl ?_
  refine j_goto (tgt := 1294) x dL_law_805 (by decide) ?_
  exact LJ_up (by omega) (by omega) (KK b1 Y1 M2 _ _ _ I2)
theorem law_case_18 {N : Nat} (X : LX p l s m meth c D tyc sb N xs) {cn : Nat} (hcn : 4 * cn + 4 ≤ N) (hN : N ≤ 2048) {b : SBt} {Y : OUt} {M : MM} (I : Inv b M) {q6 q7 q8 : Option Value} {cells slots : Nat} (hc : cells + 40 ≤ 603072) (hs : slots + 9000 ≤ 7202922) (KK : LK p l e s m below meth c D tyc sb ad0 cn cells slots) : LJ p l e s m below meth c D tyc sb ad0 808 [some (.retAddr sb), some (.ref 0), some (.ref 94), some (.ref 102), some (.ref 103), some (.int (nI (4 * cn))), q6, q7, q8] [] (HH b Y M) cells slots := by
  obtain ⟨x, hr, hX, hb1, hb2⟩ := id X
  have hb := I.hb
  obtain ⟨mc, ms, e1, e2, H⟩ := S_placeOf (Y := Y) I (xs (4 * cn + 1))
  refine j_aload_n x dL_law_808 rfl ?_
  refine j_aload_nR x dL_law_809 rfl ?_
  refine j_iload x dL_law_810 rfl ?_
  refine j_iconst (v := 1) x dL_law_812 (by decide) ?_
  refine j_iadd x dL_law_813 ?_
  rw [show nI (4 * cn) + 1 = nI (4 * cn + 1) from nI_add (4 * cn) 1]
  refine j_sld (j := 4 * cn + 1) x hX hb1 hb2 dL_law_814 (vp_in_nI (by omega) (by omega)) (nI_clamp (by omega)) ?_
  refine j_aload_n x dL_law_815 rfl ?_
  refine j_callSH x dL_law_816 H m_L_placeOf wmL_199 rfl (Nat.le_of_ble_eq_true rfl) (j_fit_room (by omega) (by omega) (by omega)) rfl (fun E k z => by obtain ⟨k2, b1, Y1, M1, h, -⟩ := z; cases h) (fun v h1 hq => ?_)
  obtain ⟨k2, b1, Y1, M1, e3, rfl, hbb, C⟩ := hq
  cases e3
  change JJ _ _ _ _ _ _ _ _ _ _ _ _ _ _ _ _ _ _ _ [.int k2] (HH b1 Y1 M1) _ _
  refine j_istore x dL_law_819 (by decide) rfl ?_
  refine j_aload_n x dL_law_821 rfl ?_
  refine j_aload_nR x dL_law_822 rfl ?_
  refine j_iload x dL_law_823 rfl ?_
  refine j_iconst (v := 1) x dL_law_825 (by decide) ?_
  refine j_iadd x dL_law_826 ?_
  rw [show nI (4 * cn) + 1 = nI (4 * cn + 1) from nI_add (4 * cn) 1]
  refine j_sld (j := 4 * cn + 1) x hX hb1 hb2 dL_law_827 (vp_in_nI (by omega) (by omega)) (nI_clamp (by omega)) ?_
  refine j_callV x dL_law_828 C m_X6_placeOf wmL_201 jc_10 rfl (show 94 < b1.2.1 by omega) rfl rfl (Nat.le_of_ble_eq_true rfl) (j_fit_room (by omega) (by omega) (by omega)) rfl (fun E k z => by obtain ⟨v, M2, h, -⟩ := z; cases h) (fun v h1 hq => ?_)
  obtain ⟨v2, M2, e4, rfl, I2, hvk, hcmp⟩ := hq
  cases e4
  obtain ⟨w2, rfl⟩ := vK_int hvk (by decide) (by decide)
  change JJ _ _ _ _ _ _ _ _ _ _ _ _ _ _ _ _ _ _ _ [.int w2] (HH b1 Y1 M2) _ _
  refine j_istore x dL_law_831 (by decide) rfl ?_
  refine j_goto (tgt := 1294) x dL_law_833 (by decide) ?_
  exact LJ_up (by omega) (by omega) (KK b1 Y1 M2 _ _ _ I2)
theorem law_case_19 {N : Nat} (X : LX p l s m meth c D tyc sb N xs) {cn : Nat} (hcn : 4 * cn + 4 ≤ N) (hN : N ≤ 2048) {b : SBt} {Y : OUt} {M : MM} (I : Inv b M) {q6 q7 q8 : Option Value} {cells slots : Nat} (hc : cells + 40 ≤ 603072) (hs : slots + 9000 ≤ 7202922) (KK : LK p l e s m below meth c D tyc sb ad0 cn cells slots) : LJ p l e s m below meth c D tyc sb ad0 836 [some (.retAddr sb), some (.ref 0), some (.ref 94), some (.ref 102), some (.ref 103), some (.int (nI (4 * cn))), q6, q7, q8] [] (HH b Y M) cells slots := by
  obtain ⟨x, hr, hX, hb1, hb2⟩ := id X
  have hb := I.hb
  obtain ⟨mc, ms, e1, e2, H⟩ := S_valueOf (Y := Y) I (xs (4 * cn + 1)) (xs (4 * cn + 2))
  refine j_aload_n x dL_law_836 rfl ?_
  refine j_aload_nR x dL_law_837 rfl ?_
  refine j_iload x dL_law_838 rfl ?_
  refine j_iconst (v := 1) x dL_law_840 (by decide) ?_
  refine j_iadd x dL_law_841 ?_
  rw [show nI (4 * cn) + 1 = nI (4 * cn + 1) from nI_add (4 * cn) 1]
  refine j_sld (j := 4 * cn + 1) x hX hb1 hb2 dL_law_842 (vp_in_nI (by omega) (by omega)) (nI_clamp (by omega)) ?_
  refine j_aload_nR x dL_law_843 rfl ?_
  refine j_iload x dL_law_844 rfl ?_
  refine j_iconst (v := 2) x dL_law_846 (by decide) ?_
  refine j_iadd x dL_law_847 ?_
  rw [show nI (4 * cn) + 2 = nI (4 * cn + 2) from nI_add (4 * cn) 2]
  refine j_sld (j := 4 * cn + 2) x hX hb1 hb2 dL_law_848 (vp_in_nI (by omega) (by omega)) (nI_clamp (by omega)) ?_
  refine j_aload_n x dL_law_849 rfl ?_
  refine j_callSH x dL_law_850 H m_L_valueOf wmL_202 rfl (Nat.le_of_ble_eq_true rfl) (j_fit_room (by omega) (by omega) (by omega)) rfl (fun E k z => by obtain ⟨k2, b1, Y1, M1, h, -⟩ := z; cases h) (fun v h1 hq => ?_)
  obtain ⟨k2, b1, Y1, M1, e3, rfl, hbb, C⟩ := hq
  cases e3
  change JJ _ _ _ _ _ _ _ _ _ _ _ _ _ _ _ _ _ _ _ [.int k2] (HH b1 Y1 M1) _ _
  refine j_istore x dL_law_853 (by decide) rfl ?_
  refine j_aload_n x dL_law_855 rfl ?_
  refine j_aload_nR x dL_law_856 rfl ?_
  refine j_iload x dL_law_857 rfl ?_
  refine j_iconst (v := 1) x dL_law_859 (by decide) ?_
  refine j_iadd x dL_law_860 ?_
  rw [show nI (4 * cn) + 1 = nI (4 * cn + 1) from nI_add (4 * cn) 1]
  refine j_sld (j := 4 * cn + 1) x hX hb1 hb2 dL_law_861 (vp_in_nI (by omega) (by omega)) (nI_clamp (by omega)) ?_
  refine j_aload_nR x dL_law_862 rfl ?_
  refine j_iload x dL_law_863 rfl ?_
  refine j_iconst (v := 2) x dL_law_865 (by decide) ?_
  refine j_iadd x dL_law_866 ?_
  rw [show nI (4 * cn) + 2 = nI (4 * cn + 2) from nI_add (4 * cn) 2]
  refine j_sld (j := 4 * cn + 2) x hX hb1 hb2 dL_law_867 (vp_in_nI (by omega) (by omega)) (nI_clamp (by omega)) ?_
  refine j_callV x dL_law_868 C m_X6_valueOf wmL_204 jc_10 rfl (show 94 < b1.2.1 by omega) rfl rfl (Nat.le_of_ble_eq_true rfl) (j_fit_room (by omega) (by omega) (by omega)) rfl (fun E k z => by obtain ⟨v, M2, h, -⟩ := z; cases h) (fun v h1 hq => ?_)
  obtain ⟨v2, M2, e4, rfl, I2, hvk, hcmp⟩ := hq
  cases e4
  obtain ⟨w2, rfl⟩ := vK_int hvk (by decide) (by decide)
  change JJ _ _ _ _ _ _ _ _ _ _ _ _ _ _ _ _ _ _ _ [.int w2] (HH b1 Y1 M2) _ _
  refine j_istore x dL_law_871 (by decide) rfl ?_
  refine j_goto (tgt := 1294) x dL_law_873 (by decide) ?_
  exact LJ_up (by omega) (by omega) (KK b1 Y1 M2 _ _ _ I2)
theorem law_case_20 {N : Nat} (X : LX p l s m meth c D tyc sb N xs) {cn : Nat} (hcn : 4 * cn + 4 ≤ N) (hN : N ≤ 2048) {b : SBt} {Y : OUt} {M : MM} (I : Inv b M) {q6 q7 q8 : Option Value} {cells slots : Nat} (hc : cells + 40 ≤ 603072) (hs : slots + 9000 ≤ 7202922) (KK : LK p l e s m below meth c D tyc sb ad0 cn cells slots) : LJ p l e s m below meth c D tyc sb ad0 876 [some (.retAddr sb), some (.ref 0), some (.ref 94), some (.ref 102), some (.ref 103), some (.int (nI (4 * cn))), q6, q7, q8] [] (HH b Y M) cells slots := by
  obtain ⟨x, hr, hX, hb1, hb2⟩ := id X
  have hb := I.hb
  obtain ⟨mc, ms, e1, e2, H⟩ := S_tied (Y := Y) I (xs (4 * cn + 1))
  refine j_aload_n x dL_law_876 rfl ?_
  refine j_aload_nR x dL_law_877 rfl ?_
  refine j_iload x dL_law_878 rfl ?_
  refine j_iconst (v := 1) x dL_law_880 (by decide) ?_
  refine j_iadd x dL_law_881 ?_
  rw [show nI (4 * cn) + 1 = nI (4 * cn + 1) from nI_add (4 * cn) 1]
  refine j_sld (j := 4 * cn + 1) x hX hb1 hb2 dL_law_882 (vp_in_nI (by omega) (by omega)) (nI_clamp (by omega)) ?_
  refine j_aload_n x dL_law_883 rfl ?_
  refine j_callSH x dL_law_884 H m_L_tied wmL_205 rfl (Nat.le_of_ble_eq_true rfl) (j_fit_room (by omega) (by omega) (by omega)) rfl (fun E k z => by obtain ⟨k2, b1, Y1, M1, h, -⟩ := z; cases h) (fun v h1 hq => ?_)
  obtain ⟨k2, b1, Y1, M1, e3, rfl, hbb, C⟩ := hq
  cases e3
  change JJ _ _ _ _ _ _ _ _ _ _ _ _ _ _ _ _ _ _ _ [.int k2] (HH b1 Y1 M1) _ _
  refine j_istore x dL_law_887 (by decide) rfl ?_
  refine j_aload_n x dL_law_889 rfl ?_
  refine j_aload_nR x dL_law_890 rfl ?_
  refine j_iload x dL_law_891 rfl ?_
  refine j_iconst (v := 1) x dL_law_893 (by decide) ?_
  refine j_iadd x dL_law_894 ?_
  rw [show nI (4 * cn) + 1 = nI (4 * cn + 1) from nI_add (4 * cn) 1]
  refine j_sld (j := 4 * cn + 1) x hX hb1 hb2 dL_law_895 (vp_in_nI (by omega) (by omega)) (nI_clamp (by omega)) ?_
  refine j_callV x dL_law_896 C m_X6_tied wmL_207 jc_10 rfl (show 94 < b1.2.1 by omega) rfl rfl (Nat.le_of_ble_eq_true rfl) (j_fit_room (by omega) (by omega) (by omega)) rfl (fun E k z => by obtain ⟨v, M2, h, -⟩ := z; cases h) (fun v h1 hq => ?_)
  obtain ⟨v2, M2, e4, rfl, I2, hvk, hcmp⟩ := hq
  cases e4
  obtain ⟨w2, rfl⟩ := vK_int hvk (by decide) (by decide)
  change JJ _ _ _ _ _ _ _ _ _ _ _ _ _ _ _ _ _ _ _ [.int w2] (HH b1 Y1 M2) _ _
  refine j_istore x dL_law_899 (by decide) rfl ?_
  refine j_goto (tgt := 1294) x dL_law_901 (by decide) ?_
  exact LJ_up (by omega) (by omega) (KK b1 Y1 M2 _ _ _ I2)
theorem law_case_21 {N : Nat} (X : LX p l s m meth c D tyc sb N xs) {cn : Nat} (hcn : 4 * cn + 4 ≤ N) (hN : N ≤ 2048) {b : SBt} {Y : OUt} {M : MM} (I : Inv b M) {q6 q7 q8 : Option Value} {cells slots : Nat} (hc : cells + 40 ≤ 603072) (hs : slots + 9000 ≤ 7202922) (KK : LK p l e s m below meth c D tyc sb ad0 cn cells slots) : LJ p l e s m below meth c D tyc sb ad0 904 [some (.retAddr sb), some (.ref 0), some (.ref 94), some (.ref 102), some (.ref 103), some (.int (nI (4 * cn))), q6, q7, q8] [] (HH b Y M) cells slots := by
  obtain ⟨x, hr, hX, hb1, hb2⟩ := id X
  have hb := I.hb
  obtain ⟨mc, ms, e1, e2, H⟩ := S_most (Y := Y) I (xs (4 * cn + 1))
  refine j_aload_n x dL_law_904 rfl ?_
  refine j_aload_nR x dL_law_905 rfl ?_
  refine j_iload x dL_law_906 rfl ?_
  refine j_iconst (v := 1) x dL_law_908 (by decide) ?_
  refine j_iadd x dL_law_909 ?_
  rw [show nI (4 * cn) + 1 = nI (4 * cn + 1) from nI_add (4 * cn) 1]
  refine j_sld (j := 4 * cn + 1) x hX hb1 hb2 dL_law_910 (vp_in_nI (by omega) (by omega)) (nI_clamp (by omega)) ?_
  refine j_aload_n x dL_law_911 rfl ?_
  refine j_callSH x dL_law_912 H m_L_most wmL_208 rfl (Nat.le_of_ble_eq_true rfl) (j_fit_room (by omega) (by omega) (by omega)) rfl (fun E k z => by obtain ⟨k2, b1, Y1, M1, h, -⟩ := z; cases h) (fun v h1 hq => ?_)
  obtain ⟨k2, b1, Y1, M1, e3, rfl, hbb, C⟩ := hq
  cases e3
  change JJ _ _ _ _ _ _ _ _ _ _ _ _ _ _ _ _ _ _ _ [.int k2] (HH b1 Y1 M1) _ _
  refine j_istore x dL_law_915 (by decide) rfl ?_
  refine j_aload_n x dL_law_917 rfl ?_
  refine j_aload_nR x dL_law_918 rfl ?_
  refine j_iload x dL_law_919 rfl ?_
  refine j_iconst (v := 1) x dL_law_921 (by decide) ?_
  refine j_iadd x dL_law_922 ?_
  rw [show nI (4 * cn) + 1 = nI (4 * cn + 1) from nI_add (4 * cn) 1]
  refine j_sld (j := 4 * cn + 1) x hX hb1 hb2 dL_law_923 (vp_in_nI (by omega) (by omega)) (nI_clamp (by omega)) ?_
  refine j_callV x dL_law_924 C m_X6_most wmL_210 jc_10 rfl (show 94 < b1.2.1 by omega) rfl rfl (Nat.le_of_ble_eq_true rfl) (j_fit_room (by omega) (by omega) (by omega)) rfl (fun E k z => by obtain ⟨v, M2, h, -⟩ := z; cases h) (fun v h1 hq => ?_)
  obtain ⟨v2, M2, e4, rfl, I2, hvk, hcmp⟩ := hq
  cases e4
  obtain ⟨w2, rfl⟩ := vK_int hvk (by decide) (by decide)
  change JJ _ _ _ _ _ _ _ _ _ _ _ _ _ _ _ _ _ _ _ [.int w2] (HH b1 Y1 M2) _ _
  refine j_istore x dL_law_927 (by decide) rfl ?_
  refine j_goto (tgt := 1294) x dL_law_929 (by decide) ?_
  exact LJ_up (by omega) (by omega) (KK b1 Y1 M2 _ _ _ I2)
theorem law_case_22 {N : Nat} (X : LX p l s m meth c D tyc sb N xs) {cn : Nat} (hcn : 4 * cn + 4 ≤ N) (hN : N ≤ 2048) {b : SBt} {Y : OUt} {M : MM} (I : Inv b M) {q6 q7 q8 : Option Value} {cells slots : Nat} (hc : cells + 40 ≤ 603072) (hs : slots + 9000 ≤ 7202922) (KK : LK p l e s m below meth c D tyc sb ad0 cn cells slots) : LJ p l e s m below meth c D tyc sb ad0 932 [some (.retAddr sb), some (.ref 0), some (.ref 94), some (.ref 102), some (.ref 103), some (.int (nI (4 * cn))), q6, q7, q8] [] (HH b Y M) cells slots := by
  obtain ⟨x, hr, hX, hb1, hb2⟩ := id X
  have hb := I.hb
  obtain ⟨mc, ms, e1, e2, H⟩ := S_isSafe (Y := Y) I (xs (4 * cn + 1))
  refine j_aload_n x dL_law_932 rfl ?_
  refine j_aload_nR x dL_law_933 rfl ?_
  refine j_iload x dL_law_934 rfl ?_
  refine j_iconst (v := 1) x dL_law_936 (by decide) ?_
  refine j_iadd x dL_law_937 ?_
  rw [show nI (4 * cn) + 1 = nI (4 * cn + 1) from nI_add (4 * cn) 1]
  refine j_sld (j := 4 * cn + 1) x hX hb1 hb2 dL_law_938 (vp_in_nI (by omega) (by omega)) (nI_clamp (by omega)) ?_
  refine j_aload_n x dL_law_939 rfl ?_
  refine j_callSH x dL_law_940 H m_L_isSafe wmL_211 rfl (Nat.le_of_ble_eq_true rfl) (j_fit_room (by omega) (by omega) (by omega)) rfl (fun E k z => by obtain ⟨k2, b1, Y1, M1, h, -⟩ := z; cases h) (fun v h1 hq => ?_)
  obtain ⟨k2, b1, Y1, M1, e3, rfl, hbb, C⟩ := hq
  cases e3
  change JJ _ _ _ _ _ _ _ _ _ _ _ _ _ _ _ _ _ _ _ [.int k2] (HH b1 Y1 M1) _ _
  refine j_istore x dL_law_943 (by decide) rfl ?_
  refine j_aload_n x dL_law_945 rfl ?_
  refine j_aload_nR x dL_law_946 rfl ?_
  refine j_iload x dL_law_947 rfl ?_
  refine j_iconst (v := 1) x dL_law_949 (by decide) ?_
  refine j_iadd x dL_law_950 ?_
  rw [show nI (4 * cn) + 1 = nI (4 * cn + 1) from nI_add (4 * cn) 1]
  refine j_sld (j := 4 * cn + 1) x hX hb1 hb2 dL_law_951 (vp_in_nI (by omega) (by omega)) (nI_clamp (by omega)) ?_
  refine j_callV x dL_law_952 C m_X6_isSafe wmL_213 jc_10 rfl (show 94 < b1.2.1 by omega) rfl rfl (Nat.le_of_ble_eq_true rfl) (j_fit_room (by omega) (by omega) (by omega)) rfl (fun E k z => by obtain ⟨v, M2, h, -⟩ := z; cases h) (fun v h1 hq => ?_)
  obtain ⟨v2, M2, e4, rfl, I2, hvk, hcmp⟩ := hq
  cases e4
  obtain ⟨w2, rfl⟩ := vK_int hvk (by decide) (by decide)
  change JJ _ _ _ _ _ _ _ _ _ _ _ _ _ _ _ _ _ _ _ [.int w2] (HH b1 Y1 M2) _ _
  refine j_istore x dL_law_955 (by decide) rfl ?_
  refine j_goto (tgt := 1294) x dL_law_957 (by decide) ?_
  exact LJ_up (by omega) (by omega) (KK b1 Y1 M2 _ _ _ I2)
theorem law_case_23 {N : Nat} (X : LX p l s m meth c D tyc sb N xs) {cn : Nat} (hcn : 4 * cn + 4 ≤ N) (hN : N ≤ 2048) {b : SBt} {Y : OUt} {M : MM} (I : Inv b M) {q6 q7 q8 : Option Value} {cells slots : Nat} (hc : cells + 40 ≤ 603072) (hs : slots + 9000 ≤ 7202922) (KK : LK p l e s m below meth c D tyc sb ad0 cn cells slots) : LJ p l e s m below meth c D tyc sb ad0 960 [some (.retAddr sb), some (.ref 0), some (.ref 94), some (.ref 102), some (.ref 103), some (.int (nI (4 * cn))), q6, q7, q8] [] (HH b Y M) cells slots := by
  obtain ⟨x, hr, hX, hb1, hb2⟩ := id X
  have hb := I.hb
  obtain ⟨mc, ms, e1, e2, H⟩ := S_isOut (Y := Y) I (xs (4 * cn + 1))
  refine j_aload_n x dL_law_960 rfl ?_
  refine j_aload_nR x dL_law_961 rfl ?_
  refine j_iload x dL_law_962 rfl ?_
  refine j_iconst (v := 1) x dL_law_964 (by decide) ?_
  refine j_iadd x dL_law_965 ?_
  rw [show nI (4 * cn) + 1 = nI (4 * cn + 1) from nI_add (4 * cn) 1]
  refine j_sld (j := 4 * cn + 1) x hX hb1 hb2 dL_law_966 (vp_in_nI (by omega) (by omega)) (nI_clamp (by omega)) ?_
  refine j_aload_n x dL_law_967 rfl ?_
  refine j_callSH x dL_law_968 H m_L_isOut wmL_214 rfl (Nat.le_of_ble_eq_true rfl) (j_fit_room (by omega) (by omega) (by omega)) rfl (fun E k z => by obtain ⟨k2, b1, Y1, M1, h, -⟩ := z; cases h) (fun v h1 hq => ?_)
  obtain ⟨k2, b1, Y1, M1, e3, rfl, hbb, C⟩ := hq
  cases e3
  change JJ _ _ _ _ _ _ _ _ _ _ _ _ _ _ _ _ _ _ _ [.int k2] (HH b1 Y1 M1) _ _
  refine j_istore x dL_law_971 (by decide) rfl ?_
  refine j_aload_n x dL_law_973 rfl ?_
  refine j_aload_nR x dL_law_974 rfl ?_
  refine j_iload x dL_law_975 rfl ?_
  refine j_iconst (v := 1) x dL_law_977 (by decide) ?_
  refine j_iadd x dL_law_978 ?_
  rw [show nI (4 * cn) + 1 = nI (4 * cn + 1) from nI_add (4 * cn) 1]
  refine j_sld (j := 4 * cn + 1) x hX hb1 hb2 dL_law_979 (vp_in_nI (by omega) (by omega)) (nI_clamp (by omega)) ?_
  refine j_callV x dL_law_980 C m_X6_isOut wmL_216 jc_10 rfl (show 94 < b1.2.1 by omega) rfl rfl (Nat.le_of_ble_eq_true rfl) (j_fit_room (by omega) (by omega) (by omega)) rfl (fun E k z => by obtain ⟨v, M2, h, -⟩ := z; cases h) (fun v h1 hq => ?_)
  obtain ⟨v2, M2, e4, rfl, I2, hvk, hcmp⟩ := hq
  cases e4
  obtain ⟨w2, rfl⟩ := vK_int hvk (by decide) (by decide)
  change JJ _ _ _ _ _ _ _ _ _ _ _ _ _ _ _ _ _ _ _ [.int w2] (HH b1 Y1 M2) _ _
  refine j_istore x dL_law_983 (by decide) rfl ?_
  refine j_goto (tgt := 1294) x dL_law_985 (by decide) ?_
  exact LJ_up (by omega) (by omega) (KK b1 Y1 M2 _ _ _ I2)
theorem law_case_24 {N : Nat} (X : LX p l s m meth c D tyc sb N xs) {cn : Nat} (hcn : 4 * cn + 4 ≤ N) (hN : N ≤ 2048) {b : SBt} {Y : OUt} {M : MM} (I : Inv b M) {q6 q7 q8 : Option Value} {cells slots : Nat} (hc : cells + 40 ≤ 603072) (hs : slots + 9000 ≤ 7202922) (KK : LK p l e s m below meth c D tyc sb ad0 cn cells slots) : LJ p l e s m below meth c D tyc sb ad0 988 [some (.retAddr sb), some (.ref 0), some (.ref 94), some (.ref 102), some (.ref 103), some (.int (nI (4 * cn))), q6, q7, q8] [] (HH b Y M) cells slots := by
  obtain ⟨x, hr, hX, hb1, hb2⟩ := id X
  have hb := I.hb
  obtain ⟨mc, ms, e1, e2, H⟩ := S_run (Y := Y) I (xs (4 * cn + 1))
  refine j_aload_n x dL_law_988 rfl ?_
  refine j_aload_nR x dL_law_989 rfl ?_
  refine j_iload x dL_law_990 rfl ?_
  refine j_iconst (v := 1) x dL_law_992 (by decide) ?_
  refine j_iadd x dL_law_993 ?_
  rw [show nI (4 * cn) + 1 = nI (4 * cn + 1) from nI_add (4 * cn) 1]
  refine j_sld (j := 4 * cn + 1) x hX hb1 hb2 dL_law_994 (vp_in_nI (by omega) (by omega)) (nI_clamp (by omega)) ?_
  refine j_aload_n x dL_law_995 rfl ?_
  refine j_callSH x dL_law_996 H m_L_run wmL_217 rfl (Nat.le_of_ble_eq_true rfl) (j_fit_room (by omega) (by omega) (by omega)) rfl (fun E k z => by obtain ⟨k2, b1, Y1, M1, h, -⟩ := z; cases h) (fun v h1 hq => ?_)
  obtain ⟨k2, b1, Y1, M1, e3, rfl, hbb, C⟩ := hq
  cases e3
  change JJ _ _ _ _ _ _ _ _ _ _ _ _ _ _ _ _ _ _ _ [.int k2] (HH b1 Y1 M1) _ _
  refine j_istore x dL_law_999 (by decide) rfl ?_
  refine j_aload_n x dL_law_1001 rfl ?_
  refine j_aload_nR x dL_law_1002 rfl ?_
  refine j_iload x dL_law_1003 rfl ?_
  refine j_iconst (v := 1) x dL_law_1005 (by decide) ?_
  refine j_iadd x dL_law_1006 ?_
  rw [show nI (4 * cn) + 1 = nI (4 * cn + 1) from nI_add (4 * cn) 1]
  refine j_sld (j := 4 * cn + 1) x hX hb1 hb2 dL_law_1007 (vp_in_nI (by omega) (by omega)) (nI_clamp (by omega)) ?_
  refine j_callV x dL_law_1008 C m_X6_run wmL_219 jc_10 rfl (show 94 < b1.2.1 by omega) rfl rfl (Nat.le_of_ble_eq_true rfl) (j_fit_room (by omega) (by omega) (by omega)) rfl (fun E k z => by obtain ⟨v, M2, h, -⟩ := z; cases h) (fun v h1 hq => ?_)
  obtain ⟨v2, M2, e4, rfl, I2, hvk, hcmp⟩ := hq
  cases e4
  obtain ⟨w2, rfl⟩ := vK_int hvk (by decide) (by decide)
  change JJ _ _ _ _ _ _ _ _ _ _ _ _ _ _ _ _ _ _ _ [.int w2] (HH b1 Y1 M2) _ _
  refine j_istore x dL_law_1011 (by decide) rfl ?_
  refine j_goto (tgt := 1294) x dL_law_1013 (by decide) ?_
  exact LJ_up (by omega) (by omega) (KK b1 Y1 M2 _ _ _ I2)
theorem law_case_25 {N : Nat} (X : LX p l s m meth c D tyc sb N xs) {cn : Nat} (hcn : 4 * cn + 4 ≤ N) (hN : N ≤ 2048) {b : SBt} {Y : OUt} {M : MM} (I : Inv b M) {q6 q7 q8 : Option Value} {cells slots : Nat} (hc : cells + 40 ≤ 603072) (hs : slots + 9000 ≤ 7202922) (KK : LK p l e s m below meth c D tyc sb ad0 cn cells slots) : LJ p l e s m below meth c D tyc sb ad0 1016 [some (.retAddr sb), some (.ref 0), some (.ref 94), some (.ref 102), some (.ref 103), some (.int (nI (4 * cn))), q6, q7, q8] [] (HH b Y M) cells slots := by
  obtain ⟨x, hr, hX, hb1, hb2⟩ := id X
  have hb := I.hb
  obtain ⟨qc, hqc, eqc⟩ := i2c_n (xs (4 * cn + 1))
  obtain ⟨mc, ms, e1, e2, H⟩ := S_append (Y := Y) I hqc
  refine j_aload_n x dL_law_1016 rfl ?_
  refine j_aload_nR x dL_law_1017 rfl ?_
  refine j_iload x dL_law_1018 rfl ?_
  refine j_iconst (v := 1) x dL_law_1020 (by decide) ?_
  refine j_iadd x dL_law_1021 ?_
  rw [show nI (4 * cn) + 1 = nI (4 * cn + 1) from nI_add (4 * cn) 1]
  refine j_sld (j := 4 * cn + 1) x hX hb1 hb2 dL_law_1022 (vp_in_nI (by omega) (by omega)) (nI_clamp (by omega)) ?_
  refine j_i2c x dL_law_1023 ?_
  rw [eqc]
  refine j_aload_n x dL_law_1024 rfl ?_
  refine j_callSH x dL_law_1025 H m_L_append wmL_220 rfl (Nat.le_of_ble_eq_true rfl) (j_fit_room (by omega) (by omega) (by omega)) rfl (fun E k z => by obtain ⟨k2, b1, Y1, M1, h, -⟩ := z; cases h) (fun v h1 hq => ?_)
  obtain ⟨k2, b1, Y1, M1, e3, rfl, hbb, C⟩ := hq
  cases e3
  change JJ _ _ _ _ _ _ _ _ _ _ _ _ _ _ _ _ _ _ _ [.int k2] (HH b1 Y1 M1) _ _
  refine j_istore x dL_law_1028 (by decide) rfl ?_
  refine j_aload_n x dL_law_1030 rfl ?_
  refine j_aload_nR x dL_law_1031 rfl ?_
  refine j_iload x dL_law_1032 rfl ?_
  refine j_iconst (v := 1) x dL_law_1034 (by decide) ?_
  refine j_iadd x dL_law_1035 ?_
  rw [show nI (4 * cn) + 1 = nI (4 * cn + 1) from nI_add (4 * cn) 1]
  refine j_sld (j := 4 * cn + 1) x hX hb1 hb2 dL_law_1036 (vp_in_nI (by omega) (by omega)) (nI_clamp (by omega)) ?_
  refine j_i2c x dL_law_1037 ?_
  rw [eqc]
  refine j_callV x dL_law_1038 C m_X6_append wmL_223 jc_10 rfl (show 94 < b1.2.1 by omega) rfl rfl (Nat.le_of_ble_eq_true rfl) (j_fit_room (by omega) (by omega) (by omega)) rfl (fun E k z => by obtain ⟨v, M2, h, -⟩ := z; cases h) (fun v h1 hq => ?_)
  obtain ⟨v2, M2, e4, rfl, I2, hvk, hcmp⟩ := hq
  cases e4
  obtain ⟨w2, rfl⟩ := vK_int hvk (by decide) (by decide)
  change JJ _ _ _ _ _ _ _ _ _ _ _ _ _ _ _ _ _ _ _ [.int w2] (HH b1 Y1 M2) _ _
  refine j_istore x dL_law_1041 (by decide) rfl ?_
  refine j_goto (tgt := 1294) x dL_law_1043 (by decide) ?_
  exact LJ_up (by omega) (by omega) (KK b1 Y1 M2 _ _ _ I2)
theorem law_case_26 {N : Nat} (X : LX p l s m meth c D tyc sb N xs) {cn : Nat} (hcn : 4 * cn + 4 ≤ N) (hN : N ≤ 2048) {b : SBt} {Y : OUt} {M : MM} (I : Inv b M) {q6 q7 q8 : Option Value} {cells slots : Nat} (hc : cells + 40 ≤ 603072) (hs : slots + 9000 ≤ 7202922) (KK : LK p l e s m below meth c D tyc sb ad0 cn cells slots) : LJ p l e s m below meth c D tyc sb ad0 1046 [some (.retAddr sb), some (.ref 0), some (.ref 94), some (.ref 102), some (.ref 103), some (.int (nI (4 * cn))), q6, q7, q8] [] (HH b Y M) cells slots := by
  obtain ⟨x, hr, hX, hb1, hb2⟩ := id X
  have hb := I.hb
  obtain ⟨mc, ms, e1, e2, H⟩ := S_commands (Y := Y) I 
  refine j_aload_n x dL_law_1046 rfl ?_
  refine j_aload_n x dL_law_1047 rfl ?_
  refine j_callSH x dL_law_1048 H m_L_commands wmL_224 rfl (Nat.le_of_ble_eq_true rfl) (j_fit_room (by omega) (by omega) (by omega)) rfl (fun E k z => by obtain ⟨k2, b1, Y1, M1, h, -⟩ := z; cases h) (fun v h1 hq => ?_)
  obtain ⟨k2, b1, Y1, M1, e3, rfl, hbb, C⟩ := hq
  cases e3
  change JJ _ _ _ _ _ _ _ _ _ _ _ _ _ _ _ _ _ _ _ [.int k2] (HH b1 Y1 M1) _ _
  refine j_istore x dL_law_1051 (by decide) rfl ?_
  refine j_aload_n x dL_law_1053 rfl ?_
  refine j_callV x dL_law_1054 C m_X6_commands wmL_226 jc_10 rfl (show 94 < b1.2.1 by omega) rfl rfl (Nat.le_of_ble_eq_true rfl) (j_fit_room (by omega) (by omega) (by omega)) rfl (fun E k z => by obtain ⟨v, M2, h, -⟩ := z; cases h) (fun v h1 hq => ?_)
  obtain ⟨v2, M2, e4, rfl, I2, hvk, hcmp⟩ := hq
  cases e4
  obtain ⟨w2, rfl⟩ := vK_int hvk (by decide) (by decide)
  change JJ _ _ _ _ _ _ _ _ _ _ _ _ _ _ _ _ _ _ _ [.int w2] (HH b1 Y1 M2) _ _
  refine j_istore x dL_law_1057 (by decide) rfl ?_
  refine j_goto (tgt := 1294) x dL_law_1059 (by decide) ?_
  exact LJ_up (by omega) (by omega) (KK b1 Y1 M2 _ _ _ I2)
theorem law_case_27 {N : Nat} (X : LX p l s m meth c D tyc sb N xs) {cn : Nat} (hcn : 4 * cn + 4 ≤ N) (hN : N ≤ 2048) {b : SBt} {Y : OUt} {M : MM} (I : Inv b M) {q6 q7 q8 : Option Value} {cells slots : Nat} (hc : cells + 40 ≤ 603072) (hs : slots + 9000 ≤ 7202922) (KK : LK p l e s m below meth c D tyc sb ad0 cn cells slots) : LJ p l e s m below meth c D tyc sb ad0 1062 [some (.retAddr sb), some (.ref 0), some (.ref 94), some (.ref 102), some (.ref 103), some (.int (nI (4 * cn))), q6, q7, q8] [] (HH b Y M) cells slots := by
  obtain ⟨x, hr, hX, hb1, hb2⟩ := id X
  have hb := I.hb
  have hcmpD : M 0 8 = jm M 94 19 0 94 13 := by
    rw [jm_n (by omega)]
    obtain ⟨τ, k, j, -, -, -, -, -, -, -, -, -, -, -, h⟩ := I.1
    exact h.2.2.2.1
  refine j_aload_n x dL_law_1062 rfl ?_
  refine j2_callVi x hb dL_law_1063 m_X5_faultPosition (c_faultPosition (d := 0) hb) wmL_227 jc_9 rfl rfl rfl (Nat.le_of_ble_eq_true rfl) (j_fit_room (by omega) (by omega) (by omega)) rfl ?_
  refine j_pop x dL_law_1066 rfl ?_
  refine j_aload_n x dL_law_1067 rfl ?_
  refine j2_callVi x hb dL_law_1068 m_X6_faultPosition (cx_faultPosition (d := 0) hb) wmL_230 jc_10 rfl rfl rfl (Nat.le_of_ble_eq_true rfl) (j_fit_room (by omega) (by omega) (by omega)) rfl ?_
  refine j_pop x dL_law_1071 rfl ?_
  refine j_goto (tgt := 1294) x dL_law_1072 (by decide) ?_
  exact LJ_up (by omega) (by omega) (KK b Y _ _ _ _ (Inv_go I hiE_0 lo_19 (rel_19 I.1)))
theorem law_case_28 {N : Nat} (X : LX p l s m meth c D tyc sb N xs) {cn : Nat} (hcn : 4 * cn + 4 ≤ N) (hN : N ≤ 2048) {b : SBt} {Y : OUt} {M : MM} (I : Inv b M) {q6 q7 q8 : Option Value} {cells slots : Nat} (hc : cells + 40 ≤ 603072) (hs : slots + 9000 ≤ 7202922) (KK : LK p l e s m below meth c D tyc sb ad0 cn cells slots) : LJ p l e s m below meth c D tyc sb ad0 1075 [some (.retAddr sb), some (.ref 0), some (.ref 94), some (.ref 102), some (.ref 103), some (.int (nI (4 * cn))), q6, q7, q8] [] (HH b Y M) cells slots := by
  obtain ⟨x, hr, hX, hb1, hb2⟩ := id X
  have hb := I.hb
  obtain ⟨mc, ms, e1, e2, H⟩ := S_reason (Y := Y) I (xs (4 * cn + 1))
  refine j_aload_n x dL_law_1075 rfl ?_
  refine j_aload_nR x dL_law_1076 rfl ?_
  refine j_iload x dL_law_1077 rfl ?_
  refine j_iconst (v := 1) x dL_law_1079 (by decide) ?_
  refine j_iadd x dL_law_1080 ?_
  rw [show nI (4 * cn) + 1 = nI (4 * cn + 1) from nI_add (4 * cn) 1]
  refine j_sld (j := 4 * cn + 1) x hX hb1 hb2 dL_law_1081 (vp_in_nI (by omega) (by omega)) (nI_clamp (by omega)) ?_
  refine j_aload_n x dL_law_1082 rfl ?_
  refine j_callSH x dL_law_1083 H m_L_reason wmL_231 rfl (Nat.le_of_ble_eq_true rfl) (j_fit_room (by omega) (by omega) (by omega)) rfl (fun E k z => by obtain ⟨k2, b1, Y1, M1, h, -⟩ := z; cases h) (fun v h1 hq => ?_)
  obtain ⟨k2, b1, Y1, M1, e3, rfl, hbb, C⟩ := hq
  cases e3
  change JJ _ _ _ _ _ _ _ _ _ _ _ _ _ _ _ _ _ _ _ [.int k2] (HH b1 Y1 M1) _ _
  refine j_istore x dL_law_1086 (by decide) rfl ?_
  refine j_aload_n x dL_law_1088 rfl ?_
  refine j_aload_nR x dL_law_1089 rfl ?_
  refine j_iload x dL_law_1090 rfl ?_
  refine j_iconst (v := 1) x dL_law_1092 (by decide) ?_
  refine j_iadd x dL_law_1093 ?_
  rw [show nI (4 * cn) + 1 = nI (4 * cn + 1) from nI_add (4 * cn) 1]
  refine j_sld (j := 4 * cn + 1) x hX hb1 hb2 dL_law_1094 (vp_in_nI (by omega) (by omega)) (nI_clamp (by omega)) ?_
  refine j_callV x dL_law_1095 C m_X6_reason wmL_233 jc_10 rfl (show 94 < b1.2.1 by omega) rfl rfl (Nat.le_of_ble_eq_true rfl) (j_fit_room (by omega) (by omega) (by omega)) rfl (fun E k z => by obtain ⟨v, M2, h, -⟩ := z; cases h) (fun v h1 hq => ?_)
  obtain ⟨v2, M2, e4, rfl, I2, hvk, hcmp⟩ := hq
  cases e4
  obtain ⟨w2, rfl⟩ := vK_int hvk (by decide) (by decide)
  change JJ _ _ _ _ _ _ _ _ _ _ _ _ _ _ _ _ _ _ _ [.int w2] (HH b1 Y1 M2) _ _
  refine j_istore x dL_law_1098 (by decide) rfl ?_
  refine j_goto (tgt := 1294) x dL_law_1100 (by decide) ?_
  exact LJ_up (by omega) (by omega) (KK b1 Y1 M2 _ _ _ I2)
theorem law_case_29 {N : Nat} (X : LX p l s m meth c D tyc sb N xs) {cn : Nat} (hcn : 4 * cn + 4 ≤ N) (hN : N ≤ 2048) {b : SBt} {Y : OUt} {M : MM} (I : Inv b M) {q6 q7 q8 : Option Value} {cells slots : Nat} (hc : cells + 40 ≤ 603072) (hs : slots + 9000 ≤ 7202922) (KK : LK p l e s m below meth c D tyc sb ad0 cn cells slots) : LJ p l e s m below meth c D tyc sb ad0 1103 [some (.retAddr sb), some (.ref 0), some (.ref 94), some (.ref 102), some (.ref 103), some (.int (nI (4 * cn))), q6, q7, q8] [] (HH b Y M) cells slots := by
  obtain ⟨x, hr, hX, hb1, hb2⟩ := id X
  have hb := I.hb
  obtain ⟨mc, ms, e1, e2, H⟩ := S_line (Y := Y) I (xs (4 * cn + 1))
  refine j_aload_n x dL_law_1103 rfl ?_
  refine j_aload_nR x dL_law_1104 rfl ?_
  refine j_iload x dL_law_1105 rfl ?_
  refine j_iconst (v := 1) x dL_law_1107 (by decide) ?_
  refine j_iadd x dL_law_1108 ?_
  rw [show nI (4 * cn) + 1 = nI (4 * cn + 1) from nI_add (4 * cn) 1]
  refine j_sld (j := 4 * cn + 1) x hX hb1 hb2 dL_law_1109 (vp_in_nI (by omega) (by omega)) (nI_clamp (by omega)) ?_
  refine j_aload_n x dL_law_1110 rfl ?_
  refine j_callSH x dL_law_1111 H m_L_line wmL_234 rfl (Nat.le_of_ble_eq_true rfl) (j_fit_room (by omega) (by omega) (by omega)) rfl (fun E k z => by obtain ⟨k2, b1, Y1, M1, h, -⟩ := z; cases h) (fun v h1 hq => ?_)
  obtain ⟨k2, b1, Y1, M1, e3, rfl, hbb, C⟩ := hq
  cases e3
  change JJ _ _ _ _ _ _ _ _ _ _ _ _ _ _ _ _ _ _ _ [.int k2] (HH b1 Y1 M1) _ _
  refine j_istore x dL_law_1114 (by decide) rfl ?_
  refine j_aload_n x dL_law_1116 rfl ?_
  refine j_aload_nR x dL_law_1117 rfl ?_
  refine j_iload x dL_law_1118 rfl ?_
  refine j_iconst (v := 1) x dL_law_1120 (by decide) ?_
  refine j_iadd x dL_law_1121 ?_
  rw [show nI (4 * cn) + 1 = nI (4 * cn + 1) from nI_add (4 * cn) 1]
  refine j_sld (j := 4 * cn + 1) x hX hb1 hb2 dL_law_1122 (vp_in_nI (by omega) (by omega)) (nI_clamp (by omega)) ?_
  refine j_callV x dL_law_1123 C m_X6_line wmL_236 jc_10 rfl (show 94 < b1.2.1 by omega) rfl rfl (Nat.le_of_ble_eq_true rfl) (j_fit_room (by omega) (by omega) (by omega)) rfl (fun E k z => by obtain ⟨v, M2, h, -⟩ := z; cases h) (fun v h1 hq => ?_)
  obtain ⟨v2, M2, e4, rfl, I2, hvk, hcmp⟩ := hq
  cases e4
  obtain ⟨w2, rfl⟩ := vK_int hvk (by decide) (by decide)
  change JJ _ _ _ _ _ _ _ _ _ _ _ _ _ _ _ _ _ _ _ [.int w2] (HH b1 Y1 M2) _ _
  refine j_istore x dL_law_1126 (by decide) rfl ?_
  refine j_goto (tgt := 1294) x dL_law_1128 (by decide) ?_
  exact LJ_up (by omega) (by omega) (KK b1 Y1 M2 _ _ _ I2)
theorem law_case_30 {N : Nat} (X : LX p l s m meth c D tyc sb N xs) {cn : Nat} (hcn : 4 * cn + 4 ≤ N) (hN : N ≤ 2048) {b : SBt} {Y : OUt} {M : MM} (I : Inv b M) {q6 q7 q8 : Option Value} {cells slots : Nat} (hc : cells + 40 ≤ 603072) (hs : slots + 9000 ≤ 7202922) (KK : LK p l e s m below meth c D tyc sb ad0 cn cells slots) : LJ p l e s m below meth c D tyc sb ad0 1131 [some (.retAddr sb), some (.ref 0), some (.ref 94), some (.ref 102), some (.ref 103), some (.int (nI (4 * cn))), q6, q7, q8] [] (HH b Y M) cells slots := by
  obtain ⟨x, hr, hX, hb1, hb2⟩ := id X
  have hb := I.hb
  obtain ⟨mc, ms, e1, e2, H⟩ := S_character (Y := Y) I (xs (4 * cn + 1))
  refine j_aload_n x dL_law_1131 rfl ?_
  refine j_aload_nR x dL_law_1132 rfl ?_
  refine j_iload x dL_law_1133 rfl ?_
  refine j_iconst (v := 1) x dL_law_1135 (by decide) ?_
  refine j_iadd x dL_law_1136 ?_
  rw [show nI (4 * cn) + 1 = nI (4 * cn + 1) from nI_add (4 * cn) 1]
  refine j_sld (j := 4 * cn + 1) x hX hb1 hb2 dL_law_1137 (vp_in_nI (by omega) (by omega)) (nI_clamp (by omega)) ?_
  refine j_aload_n x dL_law_1138 rfl ?_
  refine j_callSH x dL_law_1139 H m_L_character wmL_237 rfl (Nat.le_of_ble_eq_true rfl) (j_fit_room (by omega) (by omega) (by omega)) rfl (fun E k z => by obtain ⟨k2, b1, Y1, M1, h, -⟩ := z; cases h) (fun v h1 hq => ?_)
  obtain ⟨k2, b1, Y1, M1, e3, rfl, hbb, C⟩ := hq
  cases e3
  change JJ _ _ _ _ _ _ _ _ _ _ _ _ _ _ _ _ _ _ _ [.int k2] (HH b1 Y1 M1) _ _
  refine j_istore x dL_law_1142 (by decide) rfl ?_
  refine j_aload_n x dL_law_1144 rfl ?_
  refine j_aload_nR x dL_law_1145 rfl ?_
  refine j_iload x dL_law_1146 rfl ?_
  refine j_iconst (v := 1) x dL_law_1148 (by decide) ?_
  refine j_iadd x dL_law_1149 ?_
  rw [show nI (4 * cn) + 1 = nI (4 * cn + 1) from nI_add (4 * cn) 1]
  refine j_sld (j := 4 * cn + 1) x hX hb1 hb2 dL_law_1150 (vp_in_nI (by omega) (by omega)) (nI_clamp (by omega)) ?_
  refine j_callV x dL_law_1151 C m_X6_character wmL_239 jc_10 rfl (show 94 < b1.2.1 by omega) rfl rfl (Nat.le_of_ble_eq_true rfl) (j_fit_room (by omega) (by omega) (by omega)) rfl (fun E k z => by obtain ⟨v, M2, h, -⟩ := z; cases h) (fun v h1 hq => ?_)
  obtain ⟨v2, M2, e4, rfl, I2, hvk, hcmp⟩ := hq
  cases e4
  obtain ⟨w2, rfl⟩ := vK_int hvk (by decide) (by decide)
  change JJ _ _ _ _ _ _ _ _ _ _ _ _ _ _ _ _ _ _ _ [.int w2] (HH b1 Y1 M2) _ _
  refine j_istore x dL_law_1154 (by decide) rfl ?_
  refine j_goto (tgt := 1294) x dL_law_1156 (by decide) ?_
  exact LJ_up (by omega) (by omega) (KK b1 Y1 M2 _ _ _ I2)
theorem law_case_31 {N : Nat} (X : LX p l s m meth c D tyc sb N xs) {cn : Nat} (hcn : 4 * cn + 4 ≤ N) (hN : N ≤ 2048) {b : SBt} {Y : OUt} {M : MM} (I : Inv b M) {q6 q7 q8 : Option Value} {cells slots : Nat} (hc : cells + 40 ≤ 603072) (hs : slots + 9000 ≤ 7202922) (KK : LK p l e s m below meth c D tyc sb ad0 cn cells slots) : LJ p l e s m below meth c D tyc sb ad0 1159 [some (.retAddr sb), some (.ref 0), some (.ref 94), some (.ref 102), some (.ref 103), some (.int (nI (4 * cn))), q6, q7, q8] [] (HH b Y M) cells slots := by
  obtain ⟨x, hr, hX, hb1, hb2⟩ := id X
  have hb := I.hb
  obtain ⟨mc, ms, e1, e2, H⟩ := S_meanGoals (Y := Y) I 
  refine j_aload_n x dL_law_1159 rfl ?_
  refine j_aload x dL_law_1160 rfl ?_
  refine j_callSH x dL_law_1162 H m_L_meanGoals wmL_240 rfl (Nat.le_of_ble_eq_true rfl) (j_fit_room (by omega) (by omega) (by omega)) rfl (fun E k z => by obtain ⟨k2, b1, Y1, M1, h, -⟩ := z; cases h) (fun v h1 hq => ?_)
  obtain ⟨k2, b1, Y1, M1, e3, rfl, hbb, C⟩ := hq
  cases e3
  change JJ _ _ _ _ _ _ _ _ _ _ _ _ _ _ _ _ _ _ _ [.int k2] (HH b1 Y1 M1) _ _
  refine j_istore x dL_law_1165 (by decide) rfl ?_
  refine j_aload_n x dL_law_1167 rfl ?_
  refine j_callV x dL_law_1168 C m_X6_meanGoals wmL_243 jc_10 rfl (show 94 < b1.2.1 by omega) rfl rfl (Nat.le_of_ble_eq_true rfl) (j_fit_room (by omega) (by omega) (by omega)) rfl (fun E k z => by obtain ⟨v, M2, h, -⟩ := z; cases h) (fun v h1 hq => ?_)
  obtain ⟨v2, M2, e4, rfl, I2, hvk, hcmp⟩ := hq
  cases e4
  obtain ⟨w2, rfl⟩ := vK_fl hvk
  change JJ _ _ _ _ _ _ _ _ _ _ _ _ _ _ _ _ _ _ _ [.float w2] (HH b1 Y1 M2) _ _
  refine j_fstore x dL_law_1171 (by decide) rfl ?_
  refine j_goto (tgt := 1294) x dL_law_1173 (by decide) ?_
  exact LJ_up (by omega) (by omega) (KK b1 Y1 M2 _ _ _ I2)
theorem law_case_32 {N : Nat} (X : LX p l s m meth c D tyc sb N xs) {cn : Nat} (hcn : 4 * cn + 4 ≤ N) (hN : N ≤ 2048) {b : SBt} {Y : OUt} {M : MM} (I : Inv b M) {q6 q7 q8 : Option Value} {cells slots : Nat} (hc : cells + 40 ≤ 603072) (hs : slots + 9000 ≤ 7202922) (KK : LK p l e s m below meth c D tyc sb ad0 cn cells slots) : LJ p l e s m below meth c D tyc sb ad0 1176 [some (.retAddr sb), some (.ref 0), some (.ref 94), some (.ref 102), some (.ref 103), some (.int (nI (4 * cn))), q6, q7, q8] [] (HH b Y M) cells slots := by
  obtain ⟨x, hr, hX, hb1, hb2⟩ := id X
  have hb := I.hb
  obtain ⟨mc, ms, e1, e2, H⟩ := S_homeShare (Y := Y) I 
  refine j_aload_n x dL_law_1176 rfl ?_
  refine j_aload x dL_law_1177 rfl ?_
  refine j_callSH x dL_law_1179 H m_L_homeShare wmL_244 rfl (Nat.le_of_ble_eq_true rfl) (j_fit_room (by omega) (by omega) (by omega)) rfl (fun E k z => by obtain ⟨k2, b1, Y1, M1, h, -⟩ := z; cases h) (fun v h1 hq => ?_)
  obtain ⟨k2, b1, Y1, M1, e3, rfl, hbb, C⟩ := hq
  cases e3
  change JJ _ _ _ _ _ _ _ _ _ _ _ _ _ _ _ _ _ _ _ [.int k2] (HH b1 Y1 M1) _ _
  refine j_istore x dL_law_1182 (by decide) rfl ?_
  refine j_aload_n x dL_law_1184 rfl ?_
  refine j_callV x dL_law_1185 C m_X6_homeShare wmL_246 jc_10 rfl (show 94 < b1.2.1 by omega) rfl rfl (Nat.le_of_ble_eq_true rfl) (j_fit_room (by omega) (by omega) (by omega)) rfl (fun E k z => by obtain ⟨v, M2, h, -⟩ := z; cases h) (fun v h1 hq => ?_)
  obtain ⟨v2, M2, e4, rfl, I2, hvk, hcmp⟩ := hq
  cases e4
  obtain ⟨w2, rfl⟩ := vK_db hvk
  change JJ _ _ _ _ _ _ _ _ _ _ _ _ _ _ _ _ _ _ _ [.double w2] (HH b1 Y1 M2) _ _
  refine j_dstore x dL_law_1188 (by decide) rfl ?_
  refine j_goto (tgt := 1294) x dL_law_1190 (by decide) ?_
  exact LJ_up (by omega) (by omega) (KK b1 Y1 M2 _ _ _ I2)
theorem law_case_33 {N : Nat} (X : LX p l s m meth c D tyc sb N xs) {cn : Nat} (hcn : 4 * cn + 4 ≤ N) (hN : N ≤ 2048) {b : SBt} {Y : OUt} {M : MM} (I : Inv b M) {q6 q7 q8 : Option Value} {cells slots : Nat} (hc : cells + 40 ≤ 603072) (hs : slots + 9000 ≤ 7202922) (KK : LK p l e s m below meth c D tyc sb ad0 cn cells slots) : LJ p l e s m below meth c D tyc sb ad0 1193 [some (.retAddr sb), some (.ref 0), some (.ref 94), some (.ref 102), some (.ref 103), some (.int (nI (4 * cn))), q6, q7, q8] [] (HH b Y M) cells slots := by
  obtain ⟨x, hr, hX, hb1, hb2⟩ := id X
  have hb := I.hb
  obtain ⟨mc, ms, e1, e2, H⟩ := R_account (Y := Y) I (xs (4 * cn + 1))
  refine j_aload_n x dL_law_1193 rfl ?_
  refine j_aload_nR x dL_law_1194 rfl ?_
  refine j_iload x dL_law_1195 rfl ?_
  refine j_iconst (v := 1) x dL_law_1197 (by decide) ?_
  refine j_iadd x dL_law_1198 ?_
  rw [show nI (4 * cn) + 1 = nI (4 * cn + 1) from nI_add (4 * cn) 1]
  refine j_sld (j := 4 * cn + 1) x hX hb1 hb2 dL_law_1199 (vp_in_nI (by omega) (by omega)) (nI_clamp (by omega)) ?_
  refine j_aload_n x dL_law_1200 rfl ?_
  refine j_callSH x dL_law_1201 H m_L_account wmL_247 rfl (Nat.le_of_ble_eq_true rfl) (j_fit_room (by omega) (by omega) (by omega)) rfl (fun E k z => by obtain ⟨k2, b1, Y1, M1, h, -⟩ := z; cases h) (fun v h1 hq => ?_)
  obtain ⟨k2, b1, Y1, M1, e3, rfl, hbb, C⟩ := hq
  cases e3
  change JJ _ _ _ _ _ _ _ _ _ _ _ _ _ _ _ _ _ _ _ [.int k2] (HH b1 Y1 M1) _ _
  refine j_istore x dL_law_1204 (by decide) rfl ?_
  refine j_aload_n x dL_law_1206 rfl ?_
  refine j_aload_nR x dL_law_1207 rfl ?_
  refine j_iload x dL_law_1208 rfl ?_
  refine j_iconst (v := 1) x dL_law_1210 (by decide) ?_
  refine j_iadd x dL_law_1211 ?_
  rw [show nI (4 * cn) + 1 = nI (4 * cn + 1) from nI_add (4 * cn) 1]
  refine j_sld (j := 4 * cn + 1) x hX hb1 hb2 dL_law_1212 (vp_in_nI (by omega) (by omega)) (nI_clamp (by omega)) ?_
  refine j_callV x dL_law_1213 C m_X6_account wmL_249 jc_10 rfl (show 94 < b1.2.1 by omega) rfl rfl (Nat.le_of_ble_eq_true rfl) (j_fit_room (by omega) (by omega) (by omega)) rfl (fun E k z => by obtain ⟨v, M2, h, -⟩ := z; cases h) (fun v h1 hq => ?_)
  obtain ⟨v2, M2, e4, rfl, I2, hvk, hcmp⟩ := hq
  cases e4
  obtain ⟨w2, rfl⟩ := vK_int hvk (by decide) (by decide)
  change JJ _ _ _ _ _ _ _ _ _ _ _ _ _ _ _ _ _ _ _ [.int w2] (HH b1 Y1 M2) _ _
  refine j_istore x dL_law_1216 (by decide) rfl ?_
  refine j_aload_n x dL_law_1218 rfl ?_
  refine j2_callVi x hbb dL_law_1219 m_X6_thrown (cx_thrown (d := 0) hbb) wmL_250 jc_10 rfl rfl rfl (Nat.le_of_ble_eq_true rfl) (j_fit_room (by omega) (by omega) (by omega)) rfl ?_
  refine j_iload x dL_law_1222 rfl ?_
  refine j_icmp_eq (tgt := 1229) x dL_law_1224 (by decide) (fun hc => ?_) (fun hc => absurd hcmp.1 hc)
  refine j_iload x dL_law_1229 rfl ?_
  refine j_if_ne (tgt := 1246) x dL_law_1231 (by decide) (fun hc => ?_) (fun hc => ?_)
  · refine j_goto (tgt := 1294) x dL_law_1246 (by decide) ?_
    exact LJ_up (by omega) (by omega) (KK b1 Y1 M2 _ _ _ I2)
  obtain ⟨w3, e5, e6⟩ := hcmp.2 hc
  cases e5
  refine j_aload_n x dL_law_1234 rfl ?_
  refine j_iconst (v := 0) x dL_law_1235 (by decide) ?_
  refine j2_lald x hbb dL_law_1236 ?_
  refine j_iload x dL_law_1237 rfl ?_
  refine j_i2l x dL_law_1239 ?_
  refine j_lcmp x dL_law_1240 ?_
  refine j_if_eq (tgt := 1246) x dL_law_1241 (by decide) (fun hc => ?_) (fun hc => absurd (lcmp_eq e6) hc)
  refine j_goto (tgt := 1294) x dL_law_1246 (by decide) ?_
  exact LJ_up (by omega) (by omega) (KK b1 Y1 M2 _ _ _ I2)
theorem law_case_34 {N : Nat} (X : LX p l s m meth c D tyc sb N xs) {cn : Nat} (hcn : 4 * cn + 4 ≤ N) (hN : N ≤ 2048) {b : SBt} {Y : OUt} {M : MM} (I : Inv b M) {q6 q7 q8 : Option Value} {cells slots : Nat} (hc : cells + 40 ≤ 603072) (hs : slots + 9000 ≤ 7202922) (KK : LK p l e s m below meth c D tyc sb ad0 cn cells slots) : LJ p l e s m below meth c D tyc sb ad0 1249 [some (.retAddr sb), some (.ref 0), some (.ref 94), some (.ref 102), some (.ref 103), some (.int (nI (4 * cn))), q6, q7, q8] [] (HH b Y M) cells slots := by
  obtain ⟨x, hr, hX, hb1, hb2⟩ := id X
  have hb := I.hb
  obtain ⟨mc, ms, e1, e2, H⟩ := S_undo (Y := Y) I 
  refine j_aload_n x dL_law_1249 rfl ?_
  refine j_aload_n x dL_law_1250 rfl ?_
  refine j_callSH x dL_law_1251 H m_L_undo wmL_253 rfl (Nat.le_of_ble_eq_true rfl) (j_fit_room (by omega) (by omega) (by omega)) rfl (fun E k z => by obtain ⟨k2, b1, Y1, M1, h, -⟩ := z; cases h) (fun v h1 hq => ?_)
  obtain ⟨k2, b1, Y1, M1, e3, rfl, hbb, C⟩ := hq
  cases e3
  change JJ _ _ _ _ _ _ _ _ _ _ _ _ _ _ _ _ _ _ _ [.int k2] (HH b1 Y1 M1) _ _
  refine j_istore x dL_law_1254 (by decide) rfl ?_
  refine j_aload_n x dL_law_1256 rfl ?_
  refine j_callV x dL_law_1257 C m_X6_undo wmL_255 jc_10 rfl (show 94 < b1.2.1 by omega) rfl rfl (Nat.le_of_ble_eq_true rfl) (j_fit_room (by omega) (by omega) (by omega)) rfl (fun E k z => by obtain ⟨v, M2, h, -⟩ := z; cases h) (fun v h1 hq => ?_)
  obtain ⟨v2, M2, e4, rfl, I2, hvk, hcmp⟩ := hq
  cases e4
  obtain ⟨w2, rfl⟩ := vK_int hvk (by decide) (by decide)
  change JJ _ _ _ _ _ _ _ _ _ _ _ _ _ _ _ _ _ _ _ [.int w2] (HH b1 Y1 M2) _ _
  refine j_istore x dL_law_1260 (by decide) rfl ?_
  refine j_goto (tgt := 1294) x dL_law_1262 (by decide) ?_
  exact LJ_up (by omega) (by omega) (KK b1 Y1 M2 _ _ _ I2)
theorem law_case_35 {N : Nat} (X : LX p l s m meth c D tyc sb N xs) {cn : Nat} (hcn : 4 * cn + 4 ≤ N) (hN : N ≤ 2048) {b : SBt} {Y : OUt} {M : MM} (I : Inv b M) {q6 q7 q8 : Option Value} {cells slots : Nat} (hc : cells + 40 ≤ 603072) (hs : slots + 9000 ≤ 7202922) (KK : LK p l e s m below meth c D tyc sb ad0 cn cells slots) : LJ p l e s m below meth c D tyc sb ad0 1265 [some (.retAddr sb), some (.ref 0), some (.ref 94), some (.ref 102), some (.ref 103), some (.int (nI (4 * cn))), q6, q7, q8] [] (HH b Y M) cells slots := by
  obtain ⟨x, hr, hX, hb1, hb2⟩ := id X
  have hb := I.hb
  have hz : M 1 2 = 0 ∨ M 1 2 = 1 := by
    obtain ⟨t, dr, hL, -⟩ := Inv_now I
    exact rL_z hL
  have hhi : hiE M (jm (jlg M 1 7) 0 2 1) := hi_jm (hi_lg hiE_0 (by omega)) (by omega)
  have hcmpD : jm (jlg M 1 7) 0 2 1 1 0 = jcp (jm (jm (jm (jlg M 1 7) 0 2 1) 94 19 0) 94 5 1) 95 0 98 0 466 95 0 := by
    obtain ⟨t, dr, hL, -⟩ := Inv_now I
    rw [jm_n (by omega), jlg_n (by omega), jcp_n (by omega), jm_n (by omega), jm_n (by omega), jm_n (by omega), jlg_n (by omega)]
    exact (show M 1 0 = nI t from hL.2.1).trans hL.2.2.1.symm
  refine j_aload_n x dL_law_1265 rfl ?_
  refine j2_callVi x hb dL_law_1266 m_X5_save (c_save (d := 0) hb hz) wmL_256 jc_9 rfl rfl rfl (Nat.le_of_ble_eq_true rfl) (j_fit_room (by omega) (by omega) (by omega)) rfl ?_
  refine j_pop x dL_law_1269 rfl ?_
  refine j_aload_n x dL_law_1270 rfl ?_
  refine j2_callVi x hb dL_law_1271 m_X6_save (cx_save (d := 0) hb) wmL_259 jc_10 rfl rfl rfl (Nat.le_of_ble_eq_true rfl) (j_fit_room (by omega) (by omega) (by omega)) rfl ?_
  refine j_pop x dL_law_1274 rfl ?_
  refine j_goto (tgt := 1294) x dL_law_1275 (by decide) ?_
  exact LJ_up (by omega) (by omega) (KK b Y _ _ _ _ (Inv_go I hhi (lo_jcp (lo_jm (lo_jm loE_0 (by omega) (by omega)) (by omega) (by omega)) (by omega) (by omega)) (rel_save (Rel_hi I.1 hhi))))
theorem law_case_36 {N : Nat} (X : LX p l s m meth c D tyc sb N xs) {cn : Nat} (hcn : 4 * cn + 4 ≤ N) (hN : N ≤ 2048) {b : SBt} {Y : OUt} {M : MM} (I : Inv b M) {q6 q7 q8 : Option Value} {cells slots : Nat} (hc : cells + 40 ≤ 603072) (hs : slots + 9000 ≤ 7202922) (KK : LK p l e s m below meth c D tyc sb ad0 cn cells slots) : LJ p l e s m below meth c D tyc sb ad0 1278 [some (.retAddr sb), some (.ref 0), some (.ref 94), some (.ref 102), some (.ref 103), some (.int (nI (4 * cn))), q6, q7, q8] [] (HH b Y M) cells slots := by
  obtain ⟨x, hr, hX, hb1, hb2⟩ := id X
  have hb := I.hb
  obtain ⟨mc, ms, e1, e2, H⟩ := S_restore (Y := Y) I 
  refine j_aload_n x dL_law_1278 rfl ?_
  refine j_aload_n x dL_law_1279 rfl ?_
  refine j_callSH x dL_law_1280 H m_L_restore wmL_260 rfl (Nat.le_of_ble_eq_true rfl) (j_fit_room (by omega) (by omega) (by omega)) rfl (fun E k z => by obtain ⟨k2, b1, Y1, M1, h, -⟩ := z; cases h) (fun v h1 hq => ?_)
  obtain ⟨k2, b1, Y1, M1, e3, rfl, hbb, C⟩ := hq
  cases e3
  change JJ _ _ _ _ _ _ _ _ _ _ _ _ _ _ _ _ _ _ _ [.int k2] (HH b1 Y1 M1) _ _
  refine j_istore x dL_law_1283 (by decide) rfl ?_
  refine j_aload_n x dL_law_1285 rfl ?_
  refine j_callV x dL_law_1286 C m_X6_restore wmL_262 jc_10 rfl (show 94 < b1.2.1 by omega) rfl rfl (Nat.le_of_ble_eq_true rfl) (j_fit_room (by omega) (by omega) (by omega)) rfl (fun E k z => by obtain ⟨v, M2, h, -⟩ := z; cases h) (fun v h1 hq => ?_)
  obtain ⟨v2, M2, e4, rfl, I2, hvk, hcmp⟩ := hq
  cases e4
  obtain ⟨w2, rfl⟩ := vK_int hvk (by decide) (by decide)
  change JJ _ _ _ _ _ _ _ _ _ _ _ _ _ _ _ _ _ _ _ [.int w2] (HH b1 Y1 M2) _ _
  refine j_istore x dL_law_1289 (by decide) rfl ?_
  refine j_goto (tgt := 1294) x dL_law_1291 (by decide) ?_
  exact LJ_up (by omega) (by omega) (KK b1 Y1 M2 _ _ _ I2)
theorem law_body {N : Nat} (X : LX p l s m meth c D tyc sb N xs) {cn : Nat} (hcn : 4 * cn + 4 ≤ N) (hN : N ≤ 2048) {b : SBt} {Y : OUt} {M : MM} (I : Inv b M) {q6 q7 q8 : Option Value} {cells slots : Nat} (hc : cells + 40 ≤ 603072) (hs : slots + 9000 ≤ 7202922) (KK : LK p l e s m below meth c D tyc sb ad0 cn cells slots) : LJ p l e s m below meth c D tyc sb ad0 37 [some (.retAddr sb), some (.ref 0), some (.ref 94), some (.ref 102), some (.ref 103), some (.int (nI (4 * cn))), q6, q7, q8] [] (HH b Y M) cells slots := by
  obtain ⟨x, hr, hX, hb1, hb2⟩ := id X
  refine j_aload_nR x dL_law_37 rfl ?_
  refine j_iload x dL_law_38 rfl ?_
  refine j_sld (j := 4 * cn) x hX hb1 hb2 dL_law_40 (vp_in_nI (by omega) (by omega)) (nI_clamp (by omega)) ?_
  refine j_bipush (v := 63) x dL_law_41 (by decide) ?_
  refine j_iand x dL_law_43 ?_
  generalize xs (4 * cn) &&& 63 = u
  by_cases hd : u.toInt < 0 ∨ 36 < u.toInt
  · refine j_tableOut (tgt := 1294) x dL_law_44 hd (by decide) ?_
    exact LJ_up (by omega) (by omega) (KK b Y M _ _ _ I)
  · rcases (show u.toInt = 0 ∨ u.toInt = 1 ∨ u.toInt = 2 ∨ u.toInt = 3 ∨ u.toInt = 4 ∨ u.toInt = 5 ∨ u.toInt = 6 ∨ u.toInt = 7 ∨ u.toInt = 8 ∨ u.toInt = 9 ∨ u.toInt = 10 ∨ u.toInt = 11 ∨ u.toInt = 12 ∨ u.toInt = 13 ∨ u.toInt = 14 ∨ u.toInt = 15 ∨ u.toInt = 16 ∨ u.toInt = 17 ∨ u.toInt = 18 ∨ u.toInt = 19 ∨ u.toInt = 20 ∨ u.toInt = 21 ∨ u.toInt = 22 ∨ u.toInt = 23 ∨ u.toInt = 24 ∨ u.toInt = 25 ∨ u.toInt = 26 ∨ u.toInt = 27 ∨ u.toInt = 28 ∨ u.toInt = 29 ∨ u.toInt = 30 ∨ u.toInt = 31 ∨ u.toInt = 32 ∨ u.toInt = 33 ∨ u.toInt = 34 ∨ u.toInt = 35 ∨ u.toInt = 36 by omega) with h1 | h1 | h1 | h1 | h1 | h1 | h1 | h1 | h1 | h1 | h1 | h1 | h1 | h1 | h1 | h1 | h1 | h1 | h1 | h1 | h1 | h1 | h1 | h1 | h1 | h1 | h1 | h1 | h1 | h1 | h1 | h1 | h1 | h1 | h1 | h1 | h1
    · exact j_tableIn (off := 164) (tgt := 208) x dL_law_44 (by omega) (by omega) (by rw [h1]; rfl) (by decide) (law_case_0 X hcn hN I hc hs KK)
    · exact j_tableIn (off := 192) (tgt := 236) x dL_law_44 (by omega) (by omega) (by rw [h1]; rfl) (by decide) (law_case_1 X hcn hN I hc hs KK)
    · exact j_tableIn (off := 232) (tgt := 276) x dL_law_44 (by omega) (by omega) (by rw [h1]; rfl) (by decide) (law_case_2 X hcn hN I hc hs KK)
    · exact j_tableIn (off := 248) (tgt := 292) x dL_law_44 (by omega) (by omega) (by rw [h1]; rfl) (by decide) (law_case_3 X hcn hN I hc hs KK)
    · exact j_tableIn (off := 288) (tgt := 332) x dL_law_44 (by omega) (by omega) (by rw [h1]; rfl) (by decide) (law_case_4 X hcn hN I hc hs KK)
    · exact j_tableIn (off := 340) (tgt := 384) x dL_law_44 (by omega) (by omega) (by rw [h1]; rfl) (by decide) (law_case_5 X hcn hN I hc hs KK)
    · exact j_tableIn (off := 392) (tgt := 436) x dL_law_44 (by omega) (by omega) (by rw [h1]; rfl) (by decide) (law_case_6 X hcn hN I hc hs KK)
    · exact j_tableIn (off := 420) (tgt := 464) x dL_law_44 (by omega) (by omega) (by rw [h1]; rfl) (by decide) (law_case_7 X hcn hN I hc hs KK)
    · exact j_tableIn (off := 460) (tgt := 504) x dL_law_44 (by omega) (by omega) (by rw [h1]; rfl) (by decide) (law_case_8 X hcn hN I hc hs KK)
    · exact j_tableIn (off := 476) (tgt := 520) x dL_law_44 (by omega) (by omega) (by rw [h1]; rfl) (by decide) (law_case_9 X hcn hN I hc hs KK)
    · exact j_tableIn (off := 516) (tgt := 560) x dL_law_44 (by omega) (by omega) (by rw [h1]; rfl) (by decide) (law_case_10 X hcn hN I hc hs KK)
    · exact j_tableIn (off := 544) (tgt := 588) x dL_law_44 (by omega) (by omega) (by rw [h1]; rfl) (by decide) (law_case_11 X hcn hN I hc hs KK)
    · exact j_tableIn (off := 584) (tgt := 628) x dL_law_44 (by omega) (by omega) (by rw [h1]; rfl) (by decide) (law_case_12 X hcn hN I hc hs KK)
    · exact j_tableIn (off := 624) (tgt := 668) x dL_law_44 (by omega) (by omega) (by rw [h1]; rfl) (by decide) (law_case_13 X hcn hN I hc hs KK)
    · exact j_tableIn (off := 652) (tgt := 696) x dL_law_44 (by omega) (by omega) (by rw [h1]; rfl) (by decide) (law_case_14 X hcn hN I hc hs KK)
    · exact j_tableIn (off := 680) (tgt := 724) x dL_law_44 (by omega) (by omega) (by rw [h1]; rfl) (by decide) (law_case_15 X hcn hN I hc hs KK)
    · exact j_tableIn (off := 708) (tgt := 752) x dL_law_44 (by omega) (by omega) (by rw [h1]; rfl) (by decide) (law_case_16 X hcn hN I hc hs KK)
    · exact j_tableIn (off := 736) (tgt := 780) x dL_law_44 (by omega) (by omega) (by rw [h1]; rfl) (by decide) (law_case_17 X hcn hN I hc hs KK)
    · exact j_tableIn (off := 764) (tgt := 808) x dL_law_44 (by omega) (by omega) (by rw [h1]; rfl) (by decide) (law_case_18 X hcn hN I hc hs KK)
    · exact j_tableIn (off := 792) (tgt := 836) x dL_law_44 (by omega) (by omega) (by rw [h1]; rfl) (by decide) (law_case_19 X hcn hN I hc hs KK)
    · exact j_tableIn (off := 832) (tgt := 876) x dL_law_44 (by omega) (by omega) (by rw [h1]; rfl) (by decide) (law_case_20 X hcn hN I hc hs KK)
    · exact j_tableIn (off := 860) (tgt := 904) x dL_law_44 (by omega) (by omega) (by rw [h1]; rfl) (by decide) (law_case_21 X hcn hN I hc hs KK)
    · exact j_tableIn (off := 888) (tgt := 932) x dL_law_44 (by omega) (by omega) (by rw [h1]; rfl) (by decide) (law_case_22 X hcn hN I hc hs KK)
    · exact j_tableIn (off := 916) (tgt := 960) x dL_law_44 (by omega) (by omega) (by rw [h1]; rfl) (by decide) (law_case_23 X hcn hN I hc hs KK)
    · exact j_tableIn (off := 944) (tgt := 988) x dL_law_44 (by omega) (by omega) (by rw [h1]; rfl) (by decide) (law_case_24 X hcn hN I hc hs KK)
    · exact j_tableIn (off := 972) (tgt := 1016) x dL_law_44 (by omega) (by omega) (by rw [h1]; rfl) (by decide) (law_case_25 X hcn hN I hc hs KK)
    · exact j_tableIn (off := 1002) (tgt := 1046) x dL_law_44 (by omega) (by omega) (by rw [h1]; rfl) (by decide) (law_case_26 X hcn hN I hc hs KK)
    · exact j_tableIn (off := 1018) (tgt := 1062) x dL_law_44 (by omega) (by omega) (by rw [h1]; rfl) (by decide) (law_case_27 X hcn hN I hc hs KK)
    · exact j_tableIn (off := 1031) (tgt := 1075) x dL_law_44 (by omega) (by omega) (by rw [h1]; rfl) (by decide) (law_case_28 X hcn hN I hc hs KK)
    · exact j_tableIn (off := 1059) (tgt := 1103) x dL_law_44 (by omega) (by omega) (by rw [h1]; rfl) (by decide) (law_case_29 X hcn hN I hc hs KK)
    · exact j_tableIn (off := 1087) (tgt := 1131) x dL_law_44 (by omega) (by omega) (by rw [h1]; rfl) (by decide) (law_case_30 X hcn hN I hc hs KK)
    · exact j_tableIn (off := 1115) (tgt := 1159) x dL_law_44 (by omega) (by omega) (by rw [h1]; rfl) (by decide) (law_case_31 X hcn hN I hc hs KK)
    · exact j_tableIn (off := 1132) (tgt := 1176) x dL_law_44 (by omega) (by omega) (by rw [h1]; rfl) (by decide) (law_case_32 X hcn hN I hc hs KK)
    · exact j_tableIn (off := 1149) (tgt := 1193) x dL_law_44 (by omega) (by omega) (by rw [h1]; rfl) (by decide) (law_case_33 X hcn hN I hc hs KK)
    · exact j_tableIn (off := 1205) (tgt := 1249) x dL_law_44 (by omega) (by omega) (by rw [h1]; rfl) (by decide) (law_case_34 X hcn hN I hc hs KK)
    · exact j_tableIn (off := 1221) (tgt := 1265) x dL_law_44 (by omega) (by omega) (by rw [h1]; rfl) (by decide) (law_case_35 X hcn hN I hc hs KK)
    · exact j_tableIn (off := 1234) (tgt := 1278) x dL_law_44 (by omega) (by omega) (by rw [h1]; rfl) (by decide) (law_case_36 X hcn hN I hc hs KK)
theorem law_loop {N : Nat} (hN : N ≤ 2048) (X : LX p l s m meth c D tyc sb N xs) : ∀ (r cn : Nat), N < 4 * (cn + r) + 4 → 4 * cn ≤ N → ∀ (b : SBt) (Y : OUt) (M : MM) (q6 q7 q8 : Option Value) (cells slots : Nat), Inv b M → cells ≤ 104 + 40 * cn → slots ≤ 7864 + 9000 * cn → LJ p l e s m below meth c D tyc sb ad0 28 [some (.retAddr sb), some (.ref 0), some (.ref 94), some (.ref 102), some (.ref 103), some (.int (nI (4 * cn))), q6, q7, q8] [] (HH b Y M) cells slots := by
  intro r
  induction r with
  | zero =>
    intro cn h1 h2 b Y M q6 q7 q8 cells slots I h3 h4
    obtain ⟨x, hr, hX, hb1, hb2⟩ := id X
    refine j_iload x dL_law_28 rfl ?_
    refine j_aload_nR x dL_law_30 rfl ?_
    refine j_slen x hX hb1 hb2 dL_law_31 ?_
    refine j_iconst (v := 4) x dL_law_32 (by decide) ?_
    refine j_isub x dL_law_33 ?_
    have hlt : Int32.ofNat N - 4 < nI (4 * cn) := law_out (by omega) (by omega) h2
    refine j_icmp_gt (tgt := 1300) x dL_law_34 (by decide) (fun h9 => ?_) (fun h9 => absurd hlt h9)
    exact law_ret X (by omega) (by omega)
  | succ r ih =>
    intro cn h1 h2 b Y M q6 q7 q8 cells slots I h3 h4
    obtain ⟨x, hr, hX, hb1, hb2⟩ := id X
    refine j_iload x dL_law_28 rfl ?_
    refine j_aload_nR x dL_law_30 rfl ?_
    refine j_slen x hX hb1 hb2 dL_law_31 ?_
    refine j_iconst (v := 4) x dL_law_32 (by decide) ?_
    refine j_isub x dL_law_33 ?_
    by_cases hcn : 4 * cn + 4 ≤ N
    · have hge : ¬ Int32.ofNat N - 4 < nI (4 * cn) := law_in (by omega) hcn
      refine j_icmp_gt (tgt := 1300) x dL_law_34 (by decide) (fun h9 => absurd h9 hge) (fun h9 => ?_)
      refine law_body X hcn hN I (by omega) (by omega) (fun b2 Y2 M2 p6 p7 p8 I2 => ?_)
      refine j_iinc x dL_law_1294 rfl (by decide) rfl ?_
      refine j_goto (tgt := 28) x dL_law_1297 (by decide) ?_
      rw [show nI (4 * cn) + Int32.ofInt 4 = nI (4 * (cn + 1)) from nI_add (4 * cn) 4]
      exact ih (cn + 1) (by omega) (by omega) b2 Y2 M2 p6 p7 p8 _ _ I2 (by omega) (by omega)
    · have hlt : Int32.ofNat N - 4 < nI (4 * cn) := law_out (by omega) (by omega) h2
      refine j_icmp_gt (tgt := 1300) x dL_law_34 (by decide) (fun h9 => ?_) (fun h9 => absurd hlt h9)
      exact law_ret X (by omega) (by omega)
end JLW
