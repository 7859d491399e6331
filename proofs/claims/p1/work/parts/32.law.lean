/-! ===== the law's walk ===== -/
theorem j_fit_room {d1 mc1 ms1 cells slots : Nat} (h : d1 ≤ 100) (h1 : cells + mc1 ≤ 600006) (h2 : slots + ms1 ≤ 7302056) : j_fit room_1 d1 mc1 ms1 cells slots :=
  ⟨fun maxL hm => by simp only [j_rm, room_1]; omega, h1, h2⟩
theorem lcmp_eq {Y : OUt} {v w : Int32} (h : v = w) : lg_cmp (((ju Y.1 0 v.toInt64, Y.2) : OUt).1 0) w.toInt64 = 0 := by
  subst h
  have e : ((ju Y.1 0 v.toInt64, Y.2) : OUt).1 0 = v.toInt64 := by
    show ju Y.1 0 v.toInt64 0 = _
    exact ju_s
  rw [e]
  unfold lg_cmp
  rw [if_neg (Int64.lt_irrefl), if_pos rfl]
section JLW
variable {p : Program} {l : Launch} {e : Env} {s : State} {m : MethodId} {below : List Frame} {meth : Method} {c : Code} {D : va_G} {tyc : Nat → ClassId} {sb : Nat} {xs : Nat → Int32} {ad0 : Nat → Nat}
/-- the law's judgement -/
abbrev LJ (p : Program) (l : Launch) (e : Env) (s : State) (m : MethodId) (below : List Frame) (meth : Method) (c : Code) (D : va_G) (tyc : Nat → ClassId) (sb : Nat) (ad0 : Nat → Nat) (pc : Nat) (L : List (Option Value)) (st : List Value) (h : MH) (cells slots : Nat) : Prop :=
  JJ p l e room_1 s m #[Value.ref sb] below meth c D tyc (fun q => s.heap.size ≤ q) 0 ad0 9 (lw_Z below #[Value.ref sb] s) pc L st h cells slots
/-- what is known in the law -/
def LX (p : Program) (l : Launch) (s : State) (m : MethodId) (meth : Method) (c : Code) (D : va_G) (tyc : Nat → ClassId) (sb N : Nat) (xs : Nat → Int32) : Prop :=
  j_X p l s m #[Value.ref sb] meth c D tyc (fun q => s.heap.size ≤ q) "LeagueTablesLaw" cL_law 9 ∧ meth.sig.returnType = ret ∧ va_X sb N xs s s.heap ∧ sb < s.heap.size ∧ ¬ (fun q => s.heap.size ≤ q) sb
theorem law_ret {N : Nat} (X : LX p l s m meth c D tyc sb N xs) {L : List (Option Value)} {h : MH} {cells slots : Nat} (hc : cells ≤ 600006) (hs : slots ≤ 7302056) : LJ p l e s m below meth c D tyc sb ad0 2307 L [] h cells slots := by
  obtain ⟨x, hr, -⟩ := X
  refine j_iconst (v := 1) x dL_law_2307 (by decide) ?_
  intro ad ls H locs I
  refine W.base ?_
  refine W.widen hc hs ?_
  refine va_forget (fun q hq => I.2.2.2.1.2.2 q hq) ?_
  exact lw_ret (Drawn.sameBut.refl s.drawn lw_cs) x.1 x.2.1 hr x.2.2.2.2.2.2.2.1 dL_law_2308
theorem law_end (X : LX p l s m meth c D tyc sb 4 xs) {q6 q7 q8 : Option Value} {h : MH} {cells slots : Nat} (hc : cells ≤ 600006) (hs : slots ≤ 7302056) : LJ p l e s m below meth c D tyc sb ad0 2301 [some (.retAddr sb), some (.ref 0), some (.ref 94), some (.ref 102), some (.ref 103), some (.int 0), q6, q7, q8] [] h cells slots := by
  obtain ⟨x, hr, hX, hb1, hb2⟩ := id X
  refine j_iinc x dL_law_2301 rfl (by decide) rfl ?_
  refine j_goto (tgt := 28) x dL_law_2304 (by decide) ?_
  refine j_iload x dL_law_28 rfl ?_
  refine j_aload_nR x dL_law_30 rfl ?_
  refine j_slen x hX hb1 hb2 dL_law_31 ?_
  refine j_iconst (v := 4) x dL_law_32 (by decide) ?_
  refine j_isub x dL_law_33 ?_
  refine j_icmp_gt (tgt := 2307) x dL_law_34 (by decide) (fun h9 => ?_) (fun h9 => absurd (by decide) h9)
  exact law_ret X hc hs
theorem m_ref {M : MM} {r t : Int32} {i k : Nat} (h : 94 ≤ i) : jref M r t i k = M i k := by
  unfold jref
  rw [jm_n (by omega), jm_n (by omega), jm_n (by omega)]
theorem m_lg {M : MM} {a g i k : Nat} (h : g + 5 < i) : jlg M a g i k = M i k := by
  unfold jlg
  rw [if_neg (by omega), if_neg (by omega), if_neg (by omega), if_neg (by omega), if_neg (by omega), if_neg (by omega)]
theorem m_keep {M : MM} {j q i k : Nat} (hj : j < 9) (h : 94 ≤ i) : jkeep M j q i k = M i k := by
  unfold jkeep jkh
  rw [jm_n (by omega), jm_n (by omega), m_lg (by omega)]
theorem m_put {M : MM} {n a : Nat} {t v : Int32} {i k : Nat} (h : i ≠ a) : jput n M a t v i k = M i k := by
  unfold jput
  split
  · rfl
  · rw [jm_n (fun q => h q.1)]
theorem m_addr {M : MM} {g i k : Nat} {t : Int32} (h : g + 2 < i) : jaddr M g t i k = M i k := by
  unfold jaddr
  split
  · rfl
  · rw [jm_n (by omega), m_put (by omega)]
theorem m_setr {M : MM} {g i k : Nat} {t u v : Int32} (h : g + 2 < i) : jsetr M g t u v i k = M i k := by
  unfold jsetr
  rw [m_addr h, m_addr h, m_addr h, jm_n (by omega)]
theorem m_team {M : MM} {j q i k : Nat} {u : Int32} (hj : j < 9) (h : 94 ≤ i) : jteam M j q u i k = M i k := by
  unfold jteam
  rw [jm_n (by omega), m_put (by omega), m_keep hj h]
theorem m_rules {M : MM} {j q i k : Nat} {t u v : Int32} (hj : j < 9) (h : 94 ≤ i) : jrules M j q t u v i k = M i k := by
  unfold jrules
  rw [m_setr (by omega), m_keep hj h]
theorem m_clear {M : MM} {i k : Nat} (h : 94 ≤ i) : jclear M i k = M i k := jclear_n (by omega)
theorem m_give {M : MM} {j q i k : Nat} {t u : Int32} (hj : j < 9) (h : 94 ≤ i) : jgive M j q t u i k = M i k := by
  unfold jgive
  rw [jm_n (by omega), jm_n (by omega), m_keep hj h, m_clear h]
theorem m_nocmd {M : MM} {i k : Nat} (h : 94 ≤ i) : jnocmd M i k = M i k := by
  unfold jnocmd
  rw [jm_n (by omega), jm_n (by omega), jm_n (by omega), jm_n (by omega)]
theorem x_addr {M : MM} {g : Nat} {t : Int32} : jaddr M g t g 6 = if t = -1 then M g 6 else M g 6 + 1 := by
  unfold jaddr
  split
  · rfl
  · rw [jm_s]
theorem x_xr {M : MM} {t : Int32} : jxr M t 95 5 = if t < 0 then M 95 5 else (if 6 + (M 95 5).toNatClampNeg = 5 then t else M 95 5 + 1) := by
  unfold jxr
  split
  · rfl
  · rw [jm]
    by_cases h : 6 + (M 95 5).toNatClampNeg = 5
    · omega
    · rw [if_neg (fun q => h q.2.symm), jm_s, if_neg h]
theorem x_rule {M N : MM} {g : Nat} {t : Int32} (h : M g 6 = N 95 5) (h1 : ¬ t < -1) : jaddr M g t g 6 = jxr N t 95 5 := by
  rw [x_addr, x_xr, h]
  by_cases ht : t < 0
  · rw [if_pos (i_neg1 h1 ht), if_pos ht]
  · rw [if_neg (fun q => ht (by rw [q]; decide)), if_neg ht, if_neg (by omega)]
theorem x_rules {M N : MM} {g : Nat} {t u v : Int32} (h : rRules t u v = none) : jsetr M g t u v g 6 = jxR N t u v 95 5 := by
  have hk : (¬ t < (-1) ∧ ¬ 4 < t) ∧ (¬ u < (-1) ∧ ¬ 4 < u) ∧ (¬ v < (-1) ∧ ¬ 4 < v) := by
    apply Decidable.byContradiction
    intro q
    rw [rRules, if_pos q] at h
    cases h
  unfold jsetr jxR
  exact x_rule (x_rule (x_rule (by rw [jm_s, jm_s]) hk.1.1) hk.2.1.1) hk.2.2.1
theorem x_R {t u v : Int32} : ∀ N : MM, jxR N t u v 94 3 = N 94 3 := by
  intro N
  have h : ∀ (M : MM) (t : Int32), jxr M t 94 3 = M 94 3 := fun M t => by
    unfold jxr
    split
    · rfl
    · rw [jm_n (by omega), jm_n (by omega)]
  unfold jxR
  rw [h, h, h, jm_n (by omega)]
theorem x_R9 {N : MM} {t u v : Int32} : jxR N t u v 94 19 = N 94 19 := by
  have h : ∀ (M : MM) (t : Int32), jxr M t 94 19 = M 94 19 := fun M t => by
    unfold jxr
    split
    · rfl
    · rw [jm_n (by omega), jm_n (by omega)]
  unfold jxR
  rw [h, h, h, jm_n (by omega)]
theorem i_out {t : Int32} (h : t.toInt < 0 ∨ 14 < t.toInt) : t < 0 ∨ ¬ t ≤ 14 := by
  rcases h with h | h
  · exact Or.inl (Int32.lt_iff_toInt_lt.mpr (by have e0 : (0 : Int32).toInt = 0 := by decide
                                                omega))
  · refine Or.inr fun q => ?_
    have q := Int32.le_iff_toInt_le.mp q
    have e0 : (14 : Int32).toInt = 14 := by decide
    omega
theorem law_case_0 (X : LX p l s m meth c D tyc sb 4 xs) : LJ p l e s m below meth c D tyc sb ad0 208 [some (.retAddr sb), some (.ref 0), some (.ref 94), some (.ref 102), some (.ref 103), some (.int 0), none, none, none] [] (HH b0 Y0 M0) 104 7864 := by
  obtain ⟨x, hr, hX, hb1, hb2⟩ := id X
  have hb : 104 ≤ b0.2.1 := Nat.le_refl 104
  by_cases hx : ¬ xs 1 < 0 ∧ ¬ 9 < xs 1
  · refine j_aload_n x dL_law_208 rfl ?_
    refine j_aload_nR x dL_law_209 rfl ?_
    refine j_iload x dL_law_210 rfl ?_
    refine j_iconst (v := 1) x dL_law_212 (by decide) ?_
    refine j_iadd x dL_law_213 ?_
    refine j_sld (j := 1) x hX hb1 hb2 dL_law_214 (vp_c (by decide)) (by decide) ?_
    refine j_aload_n x dL_law_215 rfl ?_
    refine j2_callH x dL_law_216 m_L_team (H_team_r hb (c_team_ok (d := 0) (j := 0) (k := 0) hb (show rTeam M0 (xs 1) = none by unfold rTeam; rw [if_neg (fun q => q hx), if_neg (by decide +kernel), if_neg (by decide +kernel)]) (by decide) (by decide) (by decide +kernel) (by decide +kernel) (Or.inl (by decide +kernel)))) wmL_139 rfl (Nat.le_of_ble_eq_true rfl) (j_fit_room (by decide) (by decide) (by decide)) rfl ?_
    refine j_istore x dL_law_219 (by decide) rfl ?_
    refine j_aload_n x dL_law_221 rfl ?_
    refine j_aload_nR x dL_law_222 rfl ?_
    refine j_iload x dL_law_223 rfl ?_
    refine j_iconst (v := 1) x dL_law_225 (by decide) ?_
    refine j_iadd x dL_law_226 ?_
    refine j_sld (j := 1) x hX hb1 hb2 dL_law_227 (vp_c (by decide)) (by decide) ?_
    refine j2_callVi x hb dL_law_228 m_X6_team (cx_team_ok (d := 0) (t := 0) (k := 0) hb hx (by rw [m_team (by omega) (by omega)]; decide +kernel) (by rw [m_team (by omega) (by omega)]; decide +kernel) (by decide) (by rw [m_team (by omega) (by omega)]; decide +kernel) (by decide)) wmL_144 jc_10 rfl rfl rfl (Nat.le_of_ble_eq_true rfl) (j_fit_room (by decide) (by decide) (by decide)) rfl ?_
    refine j_istore x dL_law_231 (by decide) rfl ?_
    refine j_aload_n x dL_law_233 rfl ?_
    refine j2_callVi x hb dL_law_234 m_X6_thrown (cx_thrown (d := 0) hb) wmL_145 jc_10 rfl rfl rfl (Nat.le_of_ble_eq_true rfl) (j_fit_room (by decide) (by decide) (by decide)) rfl ?_
    refine j_iload x dL_law_237 rfl ?_
    refine j_icmp_eq (tgt := 244) x dL_law_239 (by decide) (fun hc => ?_) (fun hc => absurd (rfl) hc)
    refine j_iload x dL_law_244 rfl ?_
    refine j_if_ne (tgt := 261) x dL_law_246 (by decide) (fun hc => absurd rfl hc) (fun hc => ?_)
    refine j_aload_n x dL_law_249 rfl ?_
    refine j_iconst (v := 0) x dL_law_250 (by decide) ?_
    refine j2_lald x hb dL_law_251 ?_
    refine j_iload x dL_law_252 rfl ?_
    refine j_i2l x dL_law_254 ?_
    refine j_lcmp x dL_law_255 ?_
    refine j_if_eq (tgt := 261) x dL_law_256 (by decide) (fun hc => ?_) (fun hc => absurd (lcmp_eq (show jteam M0 0 0 (xs 1) 1 0 - 1 = nI 0 by unfold jteam; rw [jm_s, m_put (by omega)]; decide +kernel)) hc)
    refine j_goto (tgt := 2301) x dL_law_261 (by decide) ?_
    exact law_end X (by decide) (by decide)
  · refine j_aload_n x dL_law_208 rfl ?_
    refine j_aload_nR x dL_law_209 rfl ?_
    refine j_iload x dL_law_210 rfl ?_
    refine j_iconst (v := 1) x dL_law_212 (by decide) ?_
    refine j_iadd x dL_law_213 ?_
    refine j_sld (j := 1) x hX hb1 hb2 dL_law_214 (vp_c (by decide)) (by decide) ?_
    refine j_aload_n x dL_law_215 rfl ?_
    refine j2_callH x dL_law_216 m_L_team (H_team_t1 hb (c_team_no (d := 0) (r := 1) (t := 0) hb (show rTeam M0 (xs 1) = some (1, 0) from if_pos hx))) wmL_139 rfl (Nat.le_of_ble_eq_true rfl) (j_fit_room (by decide) (by decide) (by decide)) rfl ?_
    refine j_istore x dL_law_219 (by decide) rfl ?_
    refine j_aload_n x dL_law_221 rfl ?_
    refine j_aload_nR x dL_law_222 rfl ?_
    refine j_iload x dL_law_223 rfl ?_
    refine j_iconst (v := 1) x dL_law_225 (by decide) ?_
    refine j_iadd x dL_law_226 ?_
    refine j_sld (j := 1) x hX hb1 hb2 dL_law_227 (vp_c (by decide)) (by decide) ?_
    refine j2_callVi x hb dL_law_228 m_X6_team (cx_team_no (d := 0) hb hx) wmL_144 jc_10 rfl rfl rfl (Nat.le_of_ble_eq_true rfl) (j_fit_room (by decide) (by decide) (by decide)) rfl ?_
    refine j_istore x dL_law_231 (by decide) rfl ?_
    refine j_aload_n x dL_law_233 rfl ?_
    refine j2_callVi x hb dL_law_234 m_X6_thrown (cx_thrown (d := 0) hb) wmL_145 jc_10 rfl rfl rfl (Nat.le_of_ble_eq_true rfl) (j_fit_room (by decide) (by decide) (by decide)) rfl ?_
    refine j_iload x dL_law_237 rfl ?_
    refine j_icmp_eq (tgt := 244) x dL_law_239 (by decide) (fun hc => ?_) (fun hc => absurd (rfl) hc)
    refine j_iload x dL_law_244 rfl ?_
    refine j_if_ne (tgt := 261) x dL_law_246 (by decide) (fun hc => ?_) (fun hc => absurd hc (by decide))
    refine j_goto (tgt := 2301) x dL_law_261 (by decide) ?_
    exact law_end X (by decide) (by decide)
theorem law_case_1 (X : LX p l s m meth c D tyc sb 4 xs) : LJ p l e s m below meth c D tyc sb ad0 264 [some (.retAddr sb), some (.ref 0), some (.ref 94), some (.ref 102), some (.ref 103), some (.int 0), none, none, none] [] (HH b0 Y0 M0) 104 7864 := by
  obtain ⟨x, hr, hX, hb1, hb2⟩ := id X
  have hb : 104 ≤ b0.2.1 := Nat.le_refl 104
  refine j_aload_n x dL_law_264 rfl ?_
  refine j_aload_nR x dL_law_265 rfl ?_
  refine j_iload x dL_law_266 rfl ?_
  refine j_iconst (v := 1) x dL_law_268 (by decide) ?_
  refine j_iadd x dL_law_269 ?_
  refine j_sld (j := 1) x hX hb1 hb2 dL_law_270 (vp_c (by decide)) (by decide) ?_
  refine j_aload_nR x dL_law_271 rfl ?_
  refine j_iload x dL_law_272 rfl ?_
  refine j_iconst (v := 2) x dL_law_274 (by decide) ?_
  refine j_iadd x dL_law_275 ?_
  refine j_sld (j := 2) x hX hb1 hb2 dL_law_276 (vp_c (by decide)) (by decide) ?_
  refine j_aload_n x dL_law_277 rfl ?_
  refine j2_callH x dL_law_278 m_L_ground (H_ground_t1 hb (c_ground_no (d := 0) (r := 3) (t := xs 1) hb (show rGround M0 (xs 1) (xs 2) = some (3, xs 1) from if_pos (fun q => no_ge ⟨q.1, q.2⟩)))) wmL_148 rfl (Nat.le_of_ble_eq_true rfl) (j_fit_room (by decide) (by decide) (by decide)) rfl ?_
  refine j_istore x dL_law_281 (by decide) rfl ?_
  refine j_aload_n x dL_law_283 rfl ?_
  refine j_aload_nR x dL_law_284 rfl ?_
  refine j_iload x dL_law_285 rfl ?_
  refine j_iconst (v := 1) x dL_law_287 (by decide) ?_
  refine j_iadd x dL_law_288 ?_
  refine j_sld (j := 1) x hX hb1 hb2 dL_law_289 (vp_c (by decide)) (by decide) ?_
  refine j_aload_nR x dL_law_290 rfl ?_
  refine j_iload x dL_law_291 rfl ?_
  refine j_iconst (v := 2) x dL_law_293 (by decide) ?_
  refine j_iadd x dL_law_294 ?_
  refine j_sld (j := 2) x hX hb1 hb2 dL_law_295 (vp_c (by decide)) (by decide) ?_
  refine j2_callVi x hb dL_law_296 m_X6_ground (cx_ground_no (d := 0) hb (by rw [m_ref (by omega)]; decide +kernel)) wmL_151 jc_10 rfl rfl rfl (Nat.le_of_ble_eq_true rfl) (j_fit_room (by decide) (by decide) (by decide)) rfl ?_
  refine j_istore x dL_law_299 (by decide) rfl ?_
  refine j_aload_n x dL_law_301 rfl ?_
  refine j2_callVi x hb dL_law_302 m_X6_thrown (cx_thrown (d := 0) hb) wmL_145 jc_10 rfl rfl rfl (Nat.le_of_ble_eq_true rfl) (j_fit_room (by decide) (by decide) (by decide)) rfl ?_
  refine j_iload x dL_law_305 rfl ?_
  refine j_icmp_eq (tgt := 312) x dL_law_307 (by decide) (fun hc => ?_) (fun hc => absurd (rfl) hc)
  refine j_iload x dL_law_312 rfl ?_
  refine j_if_ne (tgt := 329) x dL_law_314 (by decide) (fun hc => ?_) (fun hc => absurd hc (by decide))
  refine j_goto (tgt := 2301) x dL_law_329 (by decide) ?_
  exact law_end X (by decide) (by decide)
theorem law_case_2 (X : LX p l s m meth c D tyc sb 4 xs) : LJ p l e s m below meth c D tyc sb ad0 332 [some (.retAddr sb), some (.ref 0), some (.ref 94), some (.ref 102), some (.ref 103), some (.int 0), none, none, none] [] (HH b0 Y0 M0) 104 7864 := by
  obtain ⟨x, hr, hX, hb1, hb2⟩ := id X
  have hb : 104 ≤ b0.2.1 := Nat.le_refl 104
  refine j_aload_n x dL_law_332 rfl ?_
  refine j_aload_n x dL_law_333 rfl ?_
  refine j2_callH x dL_law_334 m_L_draw (H_draw_t1 hb (c_draw_no (d := 0) (r := 6) (t := M0 1 0) hb (show rDraw M0 = some (6, M0 1 0) by unfold rDraw; rw [if_neg (by decide +kernel), if_pos (by decide +kernel)]))) wmL_152 rfl (Nat.le_of_ble_eq_true rfl) (j_fit_room (by decide) (by decide) (by decide)) rfl ?_
  refine j_istore x dL_law_337 (by decide) rfl ?_
  refine j_aload_n x dL_law_339 rfl ?_
  refine j2_callVi x hb dL_law_340 m_X6_draw (cx_draw_few (d := 0) hb (by rw [m_ref (by omega)]; decide +kernel) (by rw [m_ref (by omega)]; decide +kernel)) wmL_155 jc_10 rfl rfl rfl (Nat.le_of_ble_eq_true rfl) (j_fit_room (by decide) (by decide) (by decide)) rfl ?_
  refine j_istore x dL_law_343 (by decide) rfl ?_
  refine j_aload_n x dL_law_345 rfl ?_
  refine j2_callVi x hb dL_law_346 m_X6_thrown (cx_thrown (d := 0) hb) wmL_145 jc_10 rfl rfl rfl (Nat.le_of_ble_eq_true rfl) (j_fit_room (by decide) (by decide) (by decide)) rfl ?_
  refine j_iload x dL_law_349 rfl ?_
  refine j_icmp_eq (tgt := 356) x dL_law_351 (by decide) (fun hc => ?_) (fun hc => absurd (rfl) hc)
  refine j_iload x dL_law_356 rfl ?_
  refine j_if_ne (tgt := 373) x dL_law_358 (by decide) (fun hc => ?_) (fun hc => absurd hc (by decide))
  refine j_goto (tgt := 2301) x dL_law_373 (by decide) ?_
  exact law_end X (by decide) (by decide)
theorem law_case_3 (X : LX p l s m meth c D tyc sb 4 xs) : LJ p l e s m below meth c D tyc sb ad0 376 [some (.retAddr sb), some (.ref 0), some (.ref 94), some (.ref 102), some (.ref 103), some (.int 0), none, none, none] [] (HH b0 Y0 M0) 104 7864 := by
  obtain ⟨x, hr, hX, hb1, hb2⟩ := id X
  have hb : 104 ≤ b0.2.1 := Nat.le_refl 104
  by_cases hx : xs 1 < 1 ∨ 5 < xs 1 ∨ xs 2 < 0 ∨ ¬ xs 2 ≤ 3
  · refine j_aload_n x dL_law_376 rfl ?_
    refine j_aload_nR x dL_law_377 rfl ?_
    refine j_iload x dL_law_378 rfl ?_
    refine j_iconst (v := 1) x dL_law_380 (by decide) ?_
    refine j_iadd x dL_law_381 ?_
    refine j_sld (j := 1) x hX hb1 hb2 dL_law_382 (vp_c (by decide)) (by decide) ?_
    refine j_aload_nR x dL_law_383 rfl ?_
    refine j_iload x dL_law_384 rfl ?_
    refine j_iconst (v := 2) x dL_law_386 (by decide) ?_
    refine j_iadd x dL_law_387 ?_
    refine j_sld (j := 2) x hX hb1 hb2 dL_law_388 (vp_c (by decide)) (by decide) ?_
    refine j_aload_n x dL_law_389 rfl ?_
    refine j2_callH x dL_law_390 m_L_give (H_give_t1 hb (c_give_bad (d := 0) hb hx)) wmL_156 rfl (Nat.le_of_ble_eq_true rfl) (j_fit_room (by decide) (by decide) (by decide)) rfl ?_
    refine j_istore x dL_law_393 (by decide) rfl ?_
    refine j_aload_n x dL_law_395 rfl ?_
    refine j_aload_nR x dL_law_396 rfl ?_
    refine j_iload x dL_law_397 rfl ?_
    refine j_iconst (v := 1) x dL_law_399 (by decide) ?_
    refine j_iadd x dL_law_400 ?_
    refine j_sld (j := 1) x hX hb1 hb2 dL_law_401 (vp_c (by decide)) (by decide) ?_
    refine j_aload_nR x dL_law_402 rfl ?_
    refine j_iload x dL_law_403 rfl ?_
    refine j_iconst (v := 2) x dL_law_405 (by decide) ?_
    refine j_iadd x dL_law_406 ?_
    refine j_sld (j := 2) x hX hb1 hb2 dL_law_407 (vp_c (by decide)) (by decide) ?_
    refine j2_callVi x hb dL_law_408 m_X6_give (cx_give_no (d := 0) hb (hx.elim (fun q => Or.inl fun z => z.1 q) fun q => q.elim (fun q => Or.inl fun z => z.2 q) fun q => q.elim (fun q => Or.inr fun z => z.1 q) fun q => Or.inr fun z => z.2 (Int32.not_le.mp q))) wmL_158 jc_10 rfl rfl rfl (Nat.le_of_ble_eq_true rfl) (j_fit_room (by decide) (by decide) (by decide)) rfl ?_
    refine j_istore x dL_law_411 (by decide) rfl ?_
    refine j_aload_n x dL_law_413 rfl ?_
    refine j2_callVi x hb dL_law_414 m_X6_thrown (cx_thrown (d := 0) hb) wmL_145 jc_10 rfl rfl rfl (Nat.le_of_ble_eq_true rfl) (j_fit_room (by decide) (by decide) (by decide)) rfl ?_
    refine j_iload x dL_law_417 rfl ?_
    refine j_icmp_eq (tgt := 424) x dL_law_419 (by decide) (fun hc => ?_) (fun hc => absurd (rfl) hc)
    refine j_iload x dL_law_424 rfl ?_
    refine j_if_ne (tgt := 441) x dL_law_426 (by decide) (fun hc => ?_) (fun hc => absurd hc (by decide))
    refine j_goto (tgt := 2301) x dL_law_441 (by decide) ?_
    exact law_end X (by decide) (by decide)
  · refine j_aload_n x dL_law_376 rfl ?_
    refine j_aload_nR x dL_law_377 rfl ?_
    refine j_iload x dL_law_378 rfl ?_
    refine j_iconst (v := 1) x dL_law_380 (by decide) ?_
    refine j_iadd x dL_law_381 ?_
    refine j_sld (j := 1) x hX hb1 hb2 dL_law_382 (vp_c (by decide)) (by decide) ?_
    refine j_aload_nR x dL_law_383 rfl ?_
    refine j_iload x dL_law_384 rfl ?_
    refine j_iconst (v := 2) x dL_law_386 (by decide) ?_
    refine j_iadd x dL_law_387 ?_
    refine j_sld (j := 2) x hX hb1 hb2 dL_law_388 (vp_c (by decide)) (by decide) ?_
    refine j_aload_n x dL_law_389 rfl ?_
    refine j2_callH x dL_law_390 m_L_give (H_give_r hb (c_give_0 (d := 0) (j := 0) (k := 0) hb hx (by decide +kernel) (by decide) (by decide) (by decide +kernel) (by decide +kernel) (Or.inl (by decide +kernel)))) wmL_156 rfl (Nat.le_of_ble_eq_true rfl) (j_fit_room (by decide) (by decide) (by decide)) rfl ?_
    refine j_istore x dL_law_393 (by decide) rfl ?_
    refine j_aload_n x dL_law_395 rfl ?_
    refine j_aload_nR x dL_law_396 rfl ?_
    refine j_iload x dL_law_397 rfl ?_
    refine j_iconst (v := 1) x dL_law_399 (by decide) ?_
    refine j_iadd x dL_law_400 ?_
    refine j_sld (j := 1) x hX hb1 hb2 dL_law_401 (vp_c (by decide)) (by decide) ?_
    refine j_aload_nR x dL_law_402 rfl ?_
    refine j_iload x dL_law_403 rfl ?_
    refine j_iconst (v := 2) x dL_law_405 (by decide) ?_
    refine j_iadd x dL_law_406 ?_
    refine j_sld (j := 2) x hX hb1 hb2 dL_law_407 (vp_c (by decide)) (by decide) ?_
    refine j2_callVi x hb dL_law_408 m_X6_give (cx_give_ok (d := 0) (k := 0) hb ⟨⟨fun q => hx (Or.inl q), fun q => hx (Or.inr (Or.inl q))⟩, ⟨fun q => hx (Or.inr (Or.inr (Or.inl q))), fun q => hx (Or.inr (Or.inr (Or.inr (Int32.not_le.mpr q))))⟩⟩ (by rw [m_give (by omega) (by omega)]; decide +kernel) (by rw [m_give (by omega) (by omega)]; decide +kernel) (by decide)) wmL_158 jc_10 rfl rfl rfl (Nat.le_of_ble_eq_true rfl) (j_fit_room (by decide) (by decide) (by decide)) rfl ?_
    refine j_istore x dL_law_411 (by decide) rfl ?_
    refine j_aload_n x dL_law_413 rfl ?_
    refine j2_callVi x hb dL_law_414 m_X6_thrown (cx_thrown (d := 0) hb) wmL_145 jc_10 rfl rfl rfl (Nat.le_of_ble_eq_true rfl) (j_fit_room (by decide) (by decide) (by decide)) rfl ?_
    refine j_iload x dL_law_417 rfl ?_
    refine j_icmp_eq (tgt := 424) x dL_law_419 (by decide) (fun hc => ?_) (fun hc => absurd (rfl) hc)
    refine j_iload x dL_law_424 rfl ?_
    refine j_if_ne (tgt := 441) x dL_law_426 (by decide) (fun hc => absurd rfl hc) (fun hc => ?_)
    refine j_aload_n x dL_law_429 rfl ?_
    refine j_iconst (v := 0) x dL_law_430 (by decide) ?_
    refine j2_lald x hb dL_law_431 ?_
    refine j_iload x dL_law_432 rfl ?_
    refine j_i2l x dL_law_434 ?_
    refine j_lcmp x dL_law_435 ?_
    refine j_if_eq (tgt := 441) x dL_law_436 (by decide) (fun hc => ?_) (fun hc => absurd (lcmp_eq (by rw [jtr_n (by omega), jtr_n (by omega), m_give (by omega) (by omega), m_give (by omega) (by omega)]; decide +kernel)) hc)
    refine j_goto (tgt := 2301) x dL_law_441 (by decide) ?_
    exact law_end X (by decide) (by decide)
theorem law_case_4 (X : LX p l s m meth c D tyc sb 4 xs) : LJ p l e s m below meth c D tyc sb ad0 444 [some (.retAddr sb), some (.ref 0), some (.ref 94), some (.ref 102), some (.ref 103), some (.int 0), none, none, none] [] (HH b0 Y0 M0) 104 7864 := by
  obtain ⟨x, hr, hX, hb1, hb2⟩ := id X
  have hb : 104 ≤ b0.2.1 := Nat.le_refl 104
  cases hq : rRules (xs 1) (xs 2) (xs 3) with
  | some q =>
    obtain ⟨r, z⟩ := q
    refine j_aload_n x dL_law_444 rfl ?_
    refine j_aload_nR x dL_law_445 rfl ?_
    refine j_iload x dL_law_446 rfl ?_
    refine j_iconst (v := 1) x dL_law_448 (by decide) ?_
    refine j_iadd x dL_law_449 ?_
    refine j_sld (j := 1) x hX hb1 hb2 dL_law_450 (vp_c (by decide)) (by decide) ?_
    refine j_aload_nR x dL_law_451 rfl ?_
    refine j_iload x dL_law_452 rfl ?_
    refine j_iconst (v := 2) x dL_law_454 (by decide) ?_
    refine j_iadd x dL_law_455 ?_
    refine j_sld (j := 2) x hX hb1 hb2 dL_law_456 (vp_c (by decide)) (by decide) ?_
    refine j_aload_nR x dL_law_457 rfl ?_
    refine j_iload x dL_law_458 rfl ?_
    refine j_iconst (v := 3) x dL_law_460 (by decide) ?_
    refine j_iadd x dL_law_461 ?_
    refine j_sld (j := 3) x hX hb1 hb2 dL_law_462 (vp_c (by decide)) (by decide) ?_
    refine j_aload_n x dL_law_463 rfl ?_
    refine j2_callH x dL_law_464 m_L_rules (H_rules_t1 hb (c_rules_no (d := 0) (r := r) (t := z) hb hq)) wmL_159 rfl (Nat.le_of_ble_eq_true rfl) (j_fit_room (by decide) (by decide) (by decide)) rfl ?_
    refine j_istore x dL_law_467 (by decide) rfl ?_
    refine j_aload_n x dL_law_469 rfl ?_
    refine j_aload_nR x dL_law_470 rfl ?_
    refine j_iload x dL_law_471 rfl ?_
    refine j_iconst (v := 1) x dL_law_473 (by decide) ?_
    refine j_iadd x dL_law_474 ?_
    refine j_sld (j := 1) x hX hb1 hb2 dL_law_475 (vp_c (by decide)) (by decide) ?_
    refine j_aload_nR x dL_law_476 rfl ?_
    refine j_iload x dL_law_477 rfl ?_
    refine j_iconst (v := 2) x dL_law_479 (by decide) ?_
    refine j_iadd x dL_law_480 ?_
    refine j_sld (j := 2) x hX hb1 hb2 dL_law_481 (vp_c (by decide)) (by decide) ?_
    refine j_aload_nR x dL_law_482 rfl ?_
    refine j_iload x dL_law_483 rfl ?_
    refine j_iconst (v := 3) x dL_law_485 (by decide) ?_
    refine j_iadd x dL_law_486 ?_
    refine j_sld (j := 3) x hX hb1 hb2 dL_law_487 (vp_c (by decide)) (by decide) ?_
    refine j2_callVi x hb dL_law_488 m_X6_rules (cx_rules_no (d := 0) hb hq) wmL_162 jc_10 rfl rfl rfl (Nat.le_of_ble_eq_true rfl) (j_fit_room (by decide) (by decide) (by decide)) rfl ?_
    refine j_istore x dL_law_491 (by decide) rfl ?_
    refine j_aload_n x dL_law_493 rfl ?_
    refine j2_callVi x hb dL_law_494 m_X6_thrown (cx_thrown (d := 0) hb) wmL_145 jc_10 rfl rfl rfl (Nat.le_of_ble_eq_true rfl) (j_fit_room (by decide) (by decide) (by decide)) rfl ?_
    refine j_iload x dL_law_497 rfl ?_
    refine j_icmp_eq (tgt := 504) x dL_law_499 (by decide) (fun hc => ?_) (fun hc => absurd (rfl) hc)
    refine j_iload x dL_law_504 rfl ?_
    refine j_if_ne (tgt := 521) x dL_law_506 (by decide) (fun hc => ?_) (fun hc => absurd hc (by decide))
    refine j_goto (tgt := 2301) x dL_law_521 (by decide) ?_
    exact law_end X (by decide) (by decide)
  | none =>
    refine j_aload_n x dL_law_444 rfl ?_
    refine j_aload_nR x dL_law_445 rfl ?_
    refine j_iload x dL_law_446 rfl ?_
    refine j_iconst (v := 1) x dL_law_448 (by decide) ?_
    refine j_iadd x dL_law_449 ?_
    refine j_sld (j := 1) x hX hb1 hb2 dL_law_450 (vp_c (by decide)) (by decide) ?_
    refine j_aload_nR x dL_law_451 rfl ?_
    refine j_iload x dL_law_452 rfl ?_
    refine j_iconst (v := 2) x dL_law_454 (by decide) ?_
    refine j_iadd x dL_law_455 ?_
    refine j_sld (j := 2) x hX hb1 hb2 dL_law_456 (vp_c (by decide)) (by decide) ?_
    refine j_aload_nR x dL_law_457 rfl ?_
    refine j_iload x dL_law_458 rfl ?_
    refine j_iconst (v := 3) x dL_law_460 (by decide) ?_
    refine j_iadd x dL_law_461 ?_
    refine j_sld (j := 3) x hX hb1 hb2 dL_law_462 (vp_c (by decide)) (by decide) ?_
    refine j_aload_n x dL_law_463 rfl ?_
    refine j2_callH x dL_law_464 m_L_rules (H_rules_r hb (c_rules_ok (d := 0) (j := 0) (k := 0) hb hq (by decide) (by decide) (by decide +kernel) (by decide +kernel) (Or.inl (by decide +kernel)))) wmL_159 rfl (Nat.le_of_ble_eq_true rfl) (j_fit_room (by decide) (by decide) (by decide)) rfl ?_
    refine j_istore x dL_law_467 (by decide) rfl ?_
    refine j_aload_n x dL_law_469 rfl ?_
    refine j_aload_nR x dL_law_470 rfl ?_
    refine j_iload x dL_law_471 rfl ?_
    refine j_iconst (v := 1) x dL_law_473 (by decide) ?_
    refine j_iadd x dL_law_474 ?_
    refine j_sld (j := 1) x hX hb1 hb2 dL_law_475 (vp_c (by decide)) (by decide) ?_
    refine j_aload_nR x dL_law_476 rfl ?_
    refine j_iload x dL_law_477 rfl ?_
    refine j_iconst (v := 2) x dL_law_479 (by decide) ?_
    refine j_iadd x dL_law_480 ?_
    refine j_sld (j := 2) x hX hb1 hb2 dL_law_481 (vp_c (by decide)) (by decide) ?_
    refine j_aload_nR x dL_law_482 rfl ?_
    refine j_iload x dL_law_483 rfl ?_
    refine j_iconst (v := 3) x dL_law_485 (by decide) ?_
    refine j_iadd x dL_law_486 ?_
    refine j_sld (j := 3) x hX hb1 hb2 dL_law_487 (vp_c (by decide)) (by decide) ?_
    refine j2_callVi x hb dL_law_488 m_X6_rules (cx_rules_ok (d := 0) (k := 0) hb hq (by rw [m_rules (by omega) (by omega)]; decide +kernel) (by decide) x_R) wmL_162 jc_10 rfl rfl rfl (Nat.le_of_ble_eq_true rfl) (j_fit_room (by decide) (by decide) (by decide)) rfl ?_
    refine j_istore x dL_law_491 (by decide) rfl ?_
    refine j_aload_n x dL_law_493 rfl ?_
    refine j2_callVi x hb dL_law_494 m_X6_thrown (cx_thrown (d := 0) hb) wmL_145 jc_10 rfl rfl rfl (Nat.le_of_ble_eq_true rfl) (j_fit_room (by decide) (by decide) (by decide)) rfl ?_
    refine j_iload x dL_law_497 rfl ?_
    refine j_icmp_eq (tgt := 504) x dL_law_499 (by decide) (fun hc => ?_) (fun hc => absurd (by rw [show jkp (jm (jxR (jtr (jrules M0 0 0 (xs 1) (xs 2) (xs 3))) (xs 1) (xs 2) (xs 3)) 94 18 (jxR (jtr (jrules M0 0 0 (xs 1) (xs 2) (xs 3))) (xs 1) (xs 2) (xs 3) 95 5)) 0 94 19 = jxR (jtr (jrules M0 0 0 (xs 1) (xs 2) (xs 3))) (xs 1) (xs 2) (xs 3) 94 19 from rfl, x_R9]; exact jtr_0.2) hc)
    refine j_iload x dL_law_504 rfl ?_
    refine j_if_ne (tgt := 521) x dL_law_506 (by decide) (fun hc => absurd rfl hc) (fun hc => ?_)
    refine j_aload_n x dL_law_509 rfl ?_
    refine j_iconst (v := 0) x dL_law_510 (by decide) ?_
    refine j2_lald x hb dL_law_511 ?_
    refine j_iload x dL_law_512 rfl ?_
    refine j_i2l x dL_law_514 ?_
    refine j_lcmp x dL_law_515 ?_
    refine j_if_eq (tgt := 521) x dL_law_516 (by decide) (fun hc => ?_) (fun hc => absurd (lcmp_eq (x_rules hq)) hc)
    refine j_goto (tgt := 2301) x dL_law_521 (by decide) ?_
    exact law_end X (by decide) (by decide)
theorem law_case_5 (X : LX p l s m meth c D tyc sb 4 xs) : LJ p l e s m below meth c D tyc sb ad0 524 [some (.retAddr sb), some (.ref 0), some (.ref 94), some (.ref 102), some (.ref 103), some (.int 0), none, none, none] [] (HH b0 Y0 M0) 104 7864 := by
  obtain ⟨x, hr, hX, hb1, hb2⟩ := id X
  have hb : 104 ≤ b0.2.1 := Nat.le_refl 104
  refine j_aload_n x dL_law_524 rfl ?_
  refine j_aload_nR x dL_law_525 rfl ?_
  refine j_iload x dL_law_526 rfl ?_
  refine j_iconst (v := 1) x dL_law_528 (by decide) ?_
  refine j_iadd x dL_law_529 ?_
  refine j_sld (j := 1) x hX hb1 hb2 dL_law_530 (vp_c (by decide)) (by decide) ?_
  refine j_aload_nR x dL_law_531 rfl ?_
  refine j_iload x dL_law_532 rfl ?_
  refine j_iconst (v := 2) x dL_law_534 (by decide) ?_
  refine j_iadd x dL_law_535 ?_
  refine j_sld (j := 2) x hX hb1 hb2 dL_law_536 (vp_c (by decide)) (by decide) ?_
  refine j_aload_nR x dL_law_537 rfl ?_
  refine j_iload x dL_law_538 rfl ?_
  refine j_iconst (v := 3) x dL_law_540 (by decide) ?_
  refine j_iadd x dL_law_541 ?_
  refine j_sld (j := 3) x hX hb1 hb2 dL_law_542 (vp_c (by decide)) (by decide) ?_
  refine j_aload_n x dL_law_543 rfl ?_
  refine j2_callH x dL_law_544 m_L_result (H_result_t1 hb (c_result_0 (d := 0) hb (by decide +kernel))) wmL_163 rfl (Nat.le_of_ble_eq_true rfl) (j_fit_room (by decide) (by decide) (by decide)) rfl ?_
  refine j_istore x dL_law_547 (by decide) rfl ?_
  refine j_aload_n x dL_law_549 rfl ?_
  refine j_aload_nR x dL_law_550 rfl ?_
  refine j_iload x dL_law_551 rfl ?_
  refine j_iconst (v := 1) x dL_law_553 (by decide) ?_
  refine j_iadd x dL_law_554 ?_
  refine j_sld (j := 1) x hX hb1 hb2 dL_law_555 (vp_c (by decide)) (by decide) ?_
  refine j_aload_nR x dL_law_556 rfl ?_
  refine j_iload x dL_law_557 rfl ?_
  refine j_iconst (v := 2) x dL_law_559 (by decide) ?_
  refine j_iadd x dL_law_560 ?_
  refine j_sld (j := 2) x hX hb1 hb2 dL_law_561 (vp_c (by decide)) (by decide) ?_
  refine j_aload_nR x dL_law_562 rfl ?_
  refine j_iload x dL_law_563 rfl ?_
  refine j_iconst (v := 3) x dL_law_565 (by decide) ?_
  refine j_iadd x dL_law_566 ?_
  refine j_sld (j := 3) x hX hb1 hb2 dL_law_567 (vp_c (by decide)) (by decide) ?_
  refine j2_callVi x hb dL_law_568 m_X6_result (cx_result_0 (d := 0) hb (by rw [m_ref (by omega)]; decide +kernel)) wmL_165 jc_10 rfl rfl rfl (Nat.le_of_ble_eq_true rfl) (j_fit_room (by decide) (by decide) (by decide)) rfl ?_
  refine j_istore x dL_law_571 (by decide) rfl ?_
  refine j_aload_n x dL_law_573 rfl ?_
  refine j2_callVi x hb dL_law_574 m_X6_thrown (cx_thrown (d := 0) hb) wmL_145 jc_10 rfl rfl rfl (Nat.le_of_ble_eq_true rfl) (j_fit_room (by decide) (by decide) (by decide)) rfl ?_
  refine j_iload x dL_law_577 rfl ?_
  refine j_icmp_eq (tgt := 584) x dL_law_579 (by decide) (fun hc => ?_) (fun hc => absurd (rfl) hc)
  refine j_iload x dL_law_584 rfl ?_
  refine j_if_ne (tgt := 601) x dL_law_586 (by decide) (fun hc => ?_) (fun hc => absurd hc (by decide))
  refine j_goto (tgt := 2301) x dL_law_601 (by decide) ?_
  exact law_end X (by decide) (by decide)
theorem law_case_6 (X : LX p l s m meth c D tyc sb 4 xs) : LJ p l e s m below meth c D tyc sb ad0 604 [some (.retAddr sb), some (.ref 0), some (.ref 94), some (.ref 102), some (.ref 103), some (.int 0), none, none, none] [] (HH b0 Y0 M0) 104 7864 := by
  obtain ⟨x, hr, hX, hb1, hb2⟩ := id X
  have hb : 104 ≤ b0.2.1 := Nat.le_refl 104
  refine j_aload_n x dL_law_604 rfl ?_
  refine j_aload_nR x dL_law_605 rfl ?_
  refine j_iload x dL_law_606 rfl ?_
  refine j_iconst (v := 1) x dL_law_608 (by decide) ?_
  refine j_iadd x dL_law_609 ?_
  refine j_sld (j := 1) x hX hb1 hb2 dL_law_610 (vp_c (by decide)) (by decide) ?_
  refine j_aload_n x dL_law_611 rfl ?_
  refine j2_callH x dL_law_612 m_L_back (H_back_t1 hb (c_back_0 (d := 0) hb (by decide +kernel))) wmL_166 rfl (Nat.le_of_ble_eq_true rfl) (j_fit_room (by decide) (by decide) (by decide)) rfl ?_
  refine j_istore x dL_law_615 (by decide) rfl ?_
  refine j_aload_n x dL_law_617 rfl ?_
  refine j_aload_nR x dL_law_618 rfl ?_
  refine j_iload x dL_law_619 rfl ?_
  refine j_iconst (v := 1) x dL_law_621 (by decide) ?_
  refine j_iadd x dL_law_622 ?_
  refine j_sld (j := 1) x hX hb1 hb2 dL_law_623 (vp_c (by decide)) (by decide) ?_
  refine j2_callVi x hb dL_law_624 m_X6_back (cx_back_0 (d := 0) hb (by rw [m_ref (by omega)]; decide +kernel)) wmL_168 jc_10 rfl rfl rfl (Nat.le_of_ble_eq_true rfl) (j_fit_room (by decide) (by decide) (by decide)) rfl ?_
  refine j_istore x dL_law_627 (by decide) rfl ?_
  refine j_aload_n x dL_law_629 rfl ?_
  refine j2_callVi x hb dL_law_630 m_X6_thrown (cx_thrown (d := 0) hb) wmL_145 jc_10 rfl rfl rfl (Nat.le_of_ble_eq_true rfl) (j_fit_room (by decide) (by decide) (by decide)) rfl ?_
  refine j_iload x dL_law_633 rfl ?_
  refine j_icmp_eq (tgt := 640) x dL_law_635 (by decide) (fun hc => ?_) (fun hc => absurd (rfl) hc)
  refine j_iload x dL_law_640 rfl ?_
  refine j_if_ne (tgt := 657) x dL_law_642 (by decide) (fun hc => ?_) (fun hc => absurd hc (by decide))
  refine j_goto (tgt := 2301) x dL_law_657 (by decide) ?_
  exact law_end X (by decide) (by decide)
theorem law_case_7 (X : LX p l s m meth c D tyc sb 4 xs) : LJ p l e s m below meth c D tyc sb ad0 660 [some (.retAddr sb), some (.ref 0), some (.ref 94), some (.ref 102), some (.ref 103), some (.int 0), none, none, none] [] (HH b0 Y0 M0) 104 7864 := by
  obtain ⟨x, hr, hX, hb1, hb2⟩ := id X
  have hb : 104 ≤ b0.2.1 := Nat.le_refl 104
  refine j_aload_n x dL_law_660 rfl ?_
  refine j_aload_nR x dL_law_661 rfl ?_
  refine j_iload x dL_law_662 rfl ?_
  refine j_iconst (v := 1) x dL_law_664 (by decide) ?_
  refine j_iadd x dL_law_665 ?_
  refine j_sld (j := 1) x hX hb1 hb2 dL_law_666 (vp_c (by decide)) (by decide) ?_
  refine j_aload_nR x dL_law_667 rfl ?_
  refine j_iload x dL_law_668 rfl ?_
  refine j_iconst (v := 2) x dL_law_670 (by decide) ?_
  refine j_iadd x dL_law_671 ?_
  refine j_sld (j := 2) x hX hb1 hb2 dL_law_672 (vp_c (by decide)) (by decide) ?_
  refine j_aload_n x dL_law_673 rfl ?_
  refine j2_callH x dL_law_674 m_L_putOff (H_putOff_t1 hb (c_putOff_0 (d := 0) hb (by decide +kernel))) wmL_169 rfl (Nat.le_of_ble_eq_true rfl) (j_fit_room (by decide) (by decide) (by decide)) rfl ?_
  refine j_istore x dL_law_677 (by decide) rfl ?_
  refine j_aload_n x dL_law_679 rfl ?_
  refine j_aload_nR x dL_law_680 rfl ?_
  refine j_iload x dL_law_681 rfl ?_
  refine j_iconst (v := 1) x dL_law_683 (by decide) ?_
  refine j_iadd x dL_law_684 ?_
  refine j_sld (j := 1) x hX hb1 hb2 dL_law_685 (vp_c (by decide)) (by decide) ?_
  refine j_aload_nR x dL_law_686 rfl ?_
  refine j_iload x dL_law_687 rfl ?_
  refine j_iconst (v := 2) x dL_law_689 (by decide) ?_
  refine j_iadd x dL_law_690 ?_
  refine j_sld (j := 2) x hX hb1 hb2 dL_law_691 (vp_c (by decide)) (by decide) ?_
  refine j2_callVi x hb dL_law_692 m_X6_putOff (cx_putOff_0 (d := 0) hb (by rw [m_ref (by omega)]; decide +kernel)) wmL_171 jc_10 rfl rfl rfl (Nat.le_of_ble_eq_true rfl) (j_fit_room (by decide) (by decide) (by decide)) rfl ?_
  refine j_istore x dL_law_695 (by decide) rfl ?_
  refine j_aload_n x dL_law_697 rfl ?_
  refine j2_callVi x hb dL_law_698 m_X6_thrown (cx_thrown (d := 0) hb) wmL_145 jc_10 rfl rfl rfl (Nat.le_of_ble_eq_true rfl) (j_fit_room (by decide) (by decide) (by decide)) rfl ?_
  refine j_iload x dL_law_701 rfl ?_
  refine j_icmp_eq (tgt := 708) x dL_law_703 (by decide) (fun hc => ?_) (fun hc => absurd (rfl) hc)
  refine j_iload x dL_law_708 rfl ?_
  refine j_if_ne (tgt := 725) x dL_law_710 (by decide) (fun hc => ?_) (fun hc => absurd hc (by decide))
  refine j_goto (tgt := 2301) x dL_law_725 (by decide) ?_
  exact law_end X (by decide) (by decide)
theorem law_case_8 (X : LX p l s m meth c D tyc sb 4 xs) : LJ p l e s m below meth c D tyc sb ad0 728 [some (.retAddr sb), some (.ref 0), some (.ref 94), some (.ref 102), some (.ref 103), some (.int 0), none, none, none] [] (HH b0 Y0 M0) 104 7864 := by
  obtain ⟨x, hr, hX, hb1, hb2⟩ := id X
  have hb : 104 ≤ b0.2.1 := Nat.le_refl 104
  refine j_aload_n x dL_law_728 rfl ?_
  refine j_aload_n x dL_law_729 rfl ?_
  refine j2_callH x dL_law_730 m_L_next (H_next_t1 hb (c_next_0 (d := 0) hb (by decide +kernel))) wmL_172 rfl (Nat.le_of_ble_eq_true rfl) (j_fit_room (by decide) (by decide) (by decide)) rfl ?_
  refine j_istore x dL_law_733 (by decide) rfl ?_
  refine j_aload_n x dL_law_735 rfl ?_
  refine j2_callVi x hb dL_law_736 m_X6_next (cx_next_0 (d := 0) hb (by rw [m_ref (by omega)]; decide +kernel)) wmL_174 jc_10 rfl rfl rfl (Nat.le_of_ble_eq_true rfl) (j_fit_room (by decide) (by decide) (by decide)) rfl ?_
  refine j_istore x dL_law_739 (by decide) rfl ?_
  refine j_aload_n x dL_law_741 rfl ?_
  refine j2_callVi x hb dL_law_742 m_X6_thrown (cx_thrown (d := 0) hb) wmL_145 jc_10 rfl rfl rfl (Nat.le_of_ble_eq_true rfl) (j_fit_room (by decide) (by decide) (by decide)) rfl ?_
  refine j_iload x dL_law_745 rfl ?_
  refine j_icmp_eq (tgt := 752) x dL_law_747 (by decide) (fun hc => ?_) (fun hc => absurd (rfl) hc)
  refine j_iload x dL_law_752 rfl ?_
  refine j_if_ne (tgt := 769) x dL_law_754 (by decide) (fun hc => ?_) (fun hc => absurd hc (by decide))
  refine j_goto (tgt := 2301) x dL_law_769 (by decide) ?_
  exact law_end X (by decide) (by decide)
theorem law_case_9 (X : LX p l s m meth c D tyc sb 4 xs) : LJ p l e s m below meth c D tyc sb ad0 772 [some (.retAddr sb), some (.ref 0), some (.ref 94), some (.ref 102), some (.ref 103), some (.int 0), none, none, none] [] (HH b0 Y0 M0) 104 7864 := by
  obtain ⟨x, hr, hX, hb1, hb2⟩ := id X
  have hb : 104 ≤ b0.2.1 := Nat.le_refl 104
  refine j_aload_n x dL_law_772 rfl ?_
  refine j_aload_nR x dL_law_773 rfl ?_
  refine j_iload x dL_law_774 rfl ?_
  refine j_iconst (v := 1) x dL_law_776 (by decide) ?_
  refine j_iadd x dL_law_777 ?_
  refine j_sld (j := 1) x hX hb1 hb2 dL_law_778 (vp_c (by decide)) (by decide) ?_
  refine j_aload_nR x dL_law_779 rfl ?_
  refine j_iload x dL_law_780 rfl ?_
  refine j_iconst (v := 2) x dL_law_782 (by decide) ?_
  refine j_iadd x dL_law_783 ?_
  refine j_sld (j := 2) x hX hb1 hb2 dL_law_784 (vp_c (by decide)) (by decide) ?_
  refine j_aload_n x dL_law_785 rfl ?_
  refine j2_callH x dL_law_786 m_L_teamOf (H_teamOf_t1 hb (c_teamOf_0 (d := 0) hb (by decide +kernel))) wmL_175 rfl (Nat.le_of_ble_eq_true rfl) (j_fit_room (by decide) (by decide) (by decide)) rfl ?_
  refine j_istore x dL_law_789 (by decide) rfl ?_
  refine j_aload_n x dL_law_791 rfl ?_
  refine j_aload_nR x dL_law_792 rfl ?_
  refine j_iload x dL_law_793 rfl ?_
  refine j_iconst (v := 1) x dL_law_795 (by decide) ?_
  refine j_iadd x dL_law_796 ?_
  refine j_sld (j := 1) x hX hb1 hb2 dL_law_797 (vp_c (by decide)) (by decide) ?_
  refine j_aload_nR x dL_law_798 rfl ?_
  refine j_iload x dL_law_799 rfl ?_
  refine j_iconst (v := 2) x dL_law_801 (by decide) ?_
  refine j_iadd x dL_law_802 ?_
  refine j_sld (j := 2) x hX hb1 hb2 dL_law_803 (vp_c (by decide)) (by decide) ?_
  refine j2_callVi x hb dL_law_804 m_X6_teamOf (cx_teamOf_0 (d := 0) hb (by decide +kernel)) wmL_177 jc_10 rfl rfl rfl (Nat.le_of_ble_eq_true rfl) (j_fit_room (by decide) (by decide) (by decide)) rfl ?_
  refine j_istore x dL_law_807 (by decide) rfl ?_
  refine j_aload_n x dL_law_809 rfl ?_
  refine j2_callVi x hb dL_law_810 m_X6_thrown (cx_thrown (d := 0) hb) wmL_145 jc_10 rfl rfl rfl (Nat.le_of_ble_eq_true rfl) (j_fit_room (by decide) (by decide) (by decide)) rfl ?_
  refine j_iload x dL_law_813 rfl ?_
  refine j_icmp_eq (tgt := 820) x dL_law_815 (by decide) (fun hc => ?_) (fun hc => absurd (rfl) hc)
  refine j_iload x dL_law_820 rfl ?_
  refine j_if_ne (tgt := 837) x dL_law_822 (by decide) (fun hc => ?_) (fun hc => absurd hc (by decide))
  refine j_goto (tgt := 2301) x dL_law_837 (by decide) ?_
  exact law_end X (by decide) (by decide)
theorem law_case_10 (X : LX p l s m meth c D tyc sb 4 xs) : LJ p l e s m below meth c D tyc sb ad0 840 [some (.retAddr sb), some (.ref 0), some (.ref 94), some (.ref 102), some (.ref 103), some (.int 0), none, none, none] [] (HH b0 Y0 M0) 104 7864 := by
  obtain ⟨x, hr, hX, hb1, hb2⟩ := id X
  have hb : 104 ≤ b0.2.1 := Nat.le_refl 104
  refine j_aload_n x dL_law_840 rfl ?_
  refine j_aload_nR x dL_law_841 rfl ?_
  refine j_iload x dL_law_842 rfl ?_
  refine j_iconst (v := 1) x dL_law_844 (by decide) ?_
  refine j_iadd x dL_law_845 ?_
  refine j_sld (j := 1) x hX hb1 hb2 dL_law_846 (vp_c (by decide)) (by decide) ?_
  refine j_aload_n x dL_law_847 rfl ?_
  refine j2_callH x dL_law_848 m_L_pointsAgain (H_pointsAgain_t1 hb (c_pointsAgain_0 (d := 0) hb (by decide +kernel))) wmL_178 rfl (Nat.le_of_ble_eq_true rfl) (j_fit_room (by decide) (by decide) (by decide)) rfl ?_
  refine j_istore x dL_law_851 (by decide) rfl ?_
  refine j_aload_n x dL_law_853 rfl ?_
  refine j_aload_nR x dL_law_854 rfl ?_
  refine j_iload x dL_law_855 rfl ?_
  refine j_iconst (v := 1) x dL_law_857 (by decide) ?_
  refine j_iadd x dL_law_858 ?_
  refine j_sld (j := 1) x hX hb1 hb2 dL_law_859 (vp_c (by decide)) (by decide) ?_
  refine j2_callVi x hb dL_law_860 m_X6_pointsAgain (cx_pointsAgain_0 (d := 0) hb (by decide +kernel)) wmL_180 jc_10 rfl rfl rfl (Nat.le_of_ble_eq_true rfl) (j_fit_room (by decide) (by decide) (by decide)) rfl ?_
  refine j_istore x dL_law_863 (by decide) rfl ?_
  refine j_aload_n x dL_law_865 rfl ?_
  refine j2_callVi x hb dL_law_866 m_X6_thrown (cx_thrown (d := 0) hb) wmL_145 jc_10 rfl rfl rfl (Nat.le_of_ble_eq_true rfl) (j_fit_room (by decide) (by decide) (by decide)) rfl ?_
  refine j_iload x dL_law_869 rfl ?_
  refine j_icmp_eq (tgt := 876) x dL_law_871 (by decide) (fun hc => ?_) (fun hc => absurd (rfl) hc)
  refine j_iload x dL_law_876 rfl ?_
  refine j_if_ne (tgt := 893) x dL_law_878 (by decide) (fun hc => ?_) (fun hc => absurd hc (by decide))
  refine j_goto (tgt := 2301) x dL_law_893 (by decide) ?_
  exact law_end X (by decide) (by decide)
theorem law_case_11 (X : LX p l s m meth c D tyc sb 4 xs) : LJ p l e s m below meth c D tyc sb ad0 896 [some (.retAddr sb), some (.ref 0), some (.ref 94), some (.ref 102), some (.ref 103), some (.int 0), none, none, none] [] (HH b0 Y0 M0) 104 7864 := by
  obtain ⟨x, hr, hX, hb1, hb2⟩ := id X
  have hb : 104 ≤ b0.2.1 := Nat.le_refl 104
  refine j_aload_n x dL_law_896 rfl ?_
  refine j_aload_nR x dL_law_897 rfl ?_
  refine j_iload x dL_law_898 rfl ?_
  refine j_iconst (v := 1) x dL_law_900 (by decide) ?_
  refine j_iadd x dL_law_901 ?_
  refine j_sld (j := 1) x hX hb1 hb2 dL_law_902 (vp_c (by decide)) (by decide) ?_
  refine j_aload_nR x dL_law_903 rfl ?_
  refine j_iload x dL_law_904 rfl ?_
  refine j_iconst (v := 2) x dL_law_906 (by decide) ?_
  refine j_iadd x dL_law_907 ?_
  refine j_sld (j := 2) x hX hb1 hb2 dL_law_908 (vp_c (by decide)) (by decide) ?_
  refine j_aload_n x dL_law_909 rfl ?_
  refine j2_callH x dL_law_910 m_L_meetingOf (H_meetingOf_t1 hb (c_meetingOf_0 (d := 0) hb (by decide +kernel))) wmL_181 rfl (Nat.le_of_ble_eq_true rfl) (j_fit_room (by decide) (by decide) (by decide)) rfl ?_
  refine j_istore x dL_law_913 (by decide) rfl ?_
  refine j_aload_n x dL_law_915 rfl ?_
  refine j_aload_nR x dL_law_916 rfl ?_
  refine j_iload x dL_law_917 rfl ?_
  refine j_iconst (v := 1) x dL_law_919 (by decide) ?_
  refine j_iadd x dL_law_920 ?_
  refine j_sld (j := 1) x hX hb1 hb2 dL_law_921 (vp_c (by decide)) (by decide) ?_
  refine j_aload_nR x dL_law_922 rfl ?_
  refine j_iload x dL_law_923 rfl ?_
  refine j_iconst (v := 2) x dL_law_925 (by decide) ?_
  refine j_iadd x dL_law_926 ?_
  refine j_sld (j := 2) x hX hb1 hb2 dL_law_927 (vp_c (by decide)) (by decide) ?_
  refine j2_callVi x hb dL_law_928 m_X6_meetingOf (cx_meetingOf_0 (d := 0) hb (by decide +kernel)) wmL_183 jc_10 rfl rfl rfl (Nat.le_of_ble_eq_true rfl) (j_fit_room (by decide) (by decide) (by decide)) rfl ?_
  refine j_istore x dL_law_931 (by decide) rfl ?_
  refine j_aload_n x dL_law_933 rfl ?_
  refine j2_callVi x hb dL_law_934 m_X6_thrown (cx_thrown (d := 0) hb) wmL_145 jc_10 rfl rfl rfl (Nat.le_of_ble_eq_true rfl) (j_fit_room (by decide) (by decide) (by decide)) rfl ?_
  refine j_iload x dL_law_937 rfl ?_
  refine j_icmp_eq (tgt := 944) x dL_law_939 (by decide) (fun hc => ?_) (fun hc => absurd (rfl) hc)
  refine j_iload x dL_law_944 rfl ?_
  refine j_if_ne (tgt := 961) x dL_law_946 (by decide) (fun hc => ?_) (fun hc => absurd hc (by decide))
  refine j_goto (tgt := 2301) x dL_law_961 (by decide) ?_
  exact law_end X (by decide) (by decide)
theorem law_case_12 (X : LX p l s m meth c D tyc sb 4 xs) : LJ p l e s m below meth c D tyc sb ad0 964 [some (.retAddr sb), some (.ref 0), some (.ref 94), some (.ref 102), some (.ref 103), some (.int 0), none, none, none] [] (HH b0 Y0 M0) 104 7864 := by
  obtain ⟨x, hr, hX, hb1, hb2⟩ := id X
  have hb : 104 ≤ b0.2.1 := Nat.le_refl 104
  refine j_aload_n x dL_law_964 rfl ?_
  refine j_aload_nR x dL_law_965 rfl ?_
  refine j_iload x dL_law_966 rfl ?_
  refine j_iconst (v := 1) x dL_law_968 (by decide) ?_
  refine j_iadd x dL_law_969 ?_
  refine j_sld (j := 1) x hX hb1 hb2 dL_law_970 (vp_c (by decide)) (by decide) ?_
  refine j_aload_nR x dL_law_971 rfl ?_
  refine j_iload x dL_law_972 rfl ?_
  refine j_iconst (v := 2) x dL_law_974 (by decide) ?_
  refine j_iadd x dL_law_975 ?_
  refine j_sld (j := 2) x hX hb1 hb2 dL_law_976 (vp_c (by decide)) (by decide) ?_
  refine j_aload_n x dL_law_977 rfl ?_
  refine j2_callH x dL_law_978 m_L_find (H_find_t1 hb (c_find_0 (d := 0) hb (by decide +kernel))) wmL_184 rfl (Nat.le_of_ble_eq_true rfl) (j_fit_room (by decide) (by decide) (by decide)) rfl ?_
  refine j_istore x dL_law_981 (by decide) rfl ?_
  refine j_aload_n x dL_law_983 rfl ?_
  refine j_aload_nR x dL_law_984 rfl ?_
  refine j_iload x dL_law_985 rfl ?_
  refine j_iconst (v := 1) x dL_law_987 (by decide) ?_
  refine j_iadd x dL_law_988 ?_
  refine j_sld (j := 1) x hX hb1 hb2 dL_law_989 (vp_c (by decide)) (by decide) ?_
  refine j_aload_nR x dL_law_990 rfl ?_
  refine j_iload x dL_law_991 rfl ?_
  refine j_iconst (v := 2) x dL_law_993 (by decide) ?_
  refine j_iadd x dL_law_994 ?_
  refine j_sld (j := 2) x hX hb1 hb2 dL_law_995 (vp_c (by decide)) (by decide) ?_
  refine j2_callVi x hb dL_law_996 m_X6_find (cx_find_0 (d := 0) hb (by decide +kernel)) wmL_186 jc_10 rfl rfl rfl (Nat.le_of_ble_eq_true rfl) (j_fit_room (by decide) (by decide) (by decide)) rfl ?_
  refine j_istore x dL_law_999 (by decide) rfl ?_
  refine j_aload_n x dL_law_1001 rfl ?_
  refine j2_callVi x hb dL_law_1002 m_X6_thrown (cx_thrown (d := 0) hb) wmL_145 jc_10 rfl rfl rfl (Nat.le_of_ble_eq_true rfl) (j_fit_room (by decide) (by decide) (by decide)) rfl ?_
  refine j_iload x dL_law_1005 rfl ?_
  refine j_icmp_eq (tgt := 1012) x dL_law_1007 (by decide) (fun hc => ?_) (fun hc => absurd (rfl) hc)
  refine j_iload x dL_law_1012 rfl ?_
  refine j_if_ne (tgt := 1029) x dL_law_1014 (by decide) (fun hc => ?_) (fun hc => absurd hc (by decide))
  refine j_goto (tgt := 2301) x dL_law_1029 (by decide) ?_
  exact law_end X (by decide) (by decide)
theorem law_case_13 (X : LX p l s m meth c D tyc sb 4 xs) : LJ p l e s m below meth c D tyc sb ad0 1032 [some (.retAddr sb), some (.ref 0), some (.ref 94), some (.ref 102), some (.ref 103), some (.int 0), none, none, none] [] (HH b0 Y0 M0) 104 7864 := by
  obtain ⟨x, hr, hX, hb1, hb2⟩ := id X
  have hb : 104 ≤ b0.2.1 := Nat.le_refl 104
  refine j_aload_n x dL_law_1032 rfl ?_
  refine j_aload_nR x dL_law_1033 rfl ?_
  refine j_iload x dL_law_1034 rfl ?_
  refine j_iconst (v := 1) x dL_law_1036 (by decide) ?_
  refine j_iadd x dL_law_1037 ?_
  refine j_sld (j := 1) x hX hb1 hb2 dL_law_1038 (vp_c (by decide)) (by decide) ?_
  refine j_aload_n x dL_law_1039 rfl ?_
  refine j2_callH x dL_law_1040 m_L_byeIn (H_byeIn_t1 hb (c_byeIn_0 (d := 0) hb (by decide +kernel))) wmL_187 rfl (Nat.le_of_ble_eq_true rfl) (j_fit_room (by decide) (by decide) (by decide)) rfl ?_
  refine j_istore x dL_law_1043 (by decide) rfl ?_
  refine j_aload_n x dL_law_1045 rfl ?_
  refine j_aload_nR x dL_law_1046 rfl ?_
  refine j_iload x dL_law_1047 rfl ?_
  refine j_iconst (v := 1) x dL_law_1049 (by decide) ?_
  refine j_iadd x dL_law_1050 ?_
  refine j_sld (j := 1) x hX hb1 hb2 dL_law_1051 (vp_c (by decide)) (by decide) ?_
  refine j2_callVi x hb dL_law_1052 m_X6_byeIn (cx_byeIn_0 (d := 0) hb (by decide +kernel)) wmL_189 jc_10 rfl rfl rfl (Nat.le_of_ble_eq_true rfl) (j_fit_room (by decide) (by decide) (by decide)) rfl ?_
  refine j_istore x dL_law_1055 (by decide) rfl ?_
  refine j_aload_n x dL_law_1057 rfl ?_
  refine j2_callVi x hb dL_law_1058 m_X6_thrown (cx_thrown (d := 0) hb) wmL_145 jc_10 rfl rfl rfl (Nat.le_of_ble_eq_true rfl) (j_fit_room (by decide) (by decide) (by decide)) rfl ?_
  refine j_iload x dL_law_1061 rfl ?_
  refine j_icmp_eq (tgt := 1068) x dL_law_1063 (by decide) (fun hc => ?_) (fun hc => absurd (rfl) hc)
  refine j_iload x dL_law_1068 rfl ?_
  refine j_if_ne (tgt := 1085) x dL_law_1070 (by decide) (fun hc => ?_) (fun hc => absurd hc (by decide))
  refine j_goto (tgt := 2301) x dL_law_1085 (by decide) ?_
  exact law_end X (by decide) (by decide)
theorem law_case_14 (X : LX p l s m meth c D tyc sb 4 xs) : LJ p l e s m below meth c D tyc sb ad0 1088 [some (.retAddr sb), some (.ref 0), some (.ref 94), some (.ref 102), some (.ref 103), some (.int 0), none, none, none] [] (HH b0 Y0 M0) 104 7864 := by
  obtain ⟨x, hr, hX, hb1, hb2⟩ := id X
  have hb : 104 ≤ b0.2.1 := Nat.le_refl 104
  refine j_aload_n x dL_law_1088 rfl ?_
  refine j_aload_nR x dL_law_1089 rfl ?_
  refine j_iload x dL_law_1090 rfl ?_
  refine j_iconst (v := 1) x dL_law_1092 (by decide) ?_
  refine j_iadd x dL_law_1093 ?_
  refine j_sld (j := 1) x hX hb1 hb2 dL_law_1094 (vp_c (by decide)) (by decide) ?_
  refine j_aload_n x dL_law_1095 rfl ?_
  refine j2_callH x dL_law_1096 m_L_meetingsIn (H_meetingsIn_t1 hb (c_meetingsIn_0 (d := 0) hb (by decide +kernel))) wmL_190 rfl (Nat.le_of_ble_eq_true rfl) (j_fit_room (by decide) (by decide) (by decide)) rfl ?_
  refine j_istore x dL_law_1099 (by decide) rfl ?_
  refine j_aload_n x dL_law_1101 rfl ?_
  refine j_aload_nR x dL_law_1102 rfl ?_
  refine j_iload x dL_law_1103 rfl ?_
  refine j_iconst (v := 1) x dL_law_1105 (by decide) ?_
  refine j_iadd x dL_law_1106 ?_
  refine j_sld (j := 1) x hX hb1 hb2 dL_law_1107 (vp_c (by decide)) (by decide) ?_
  refine j2_callVi x hb dL_law_1108 m_X6_meetingsIn (cx_meetingsIn_0 (d := 0) hb (by decide +kernel)) wmL_192 jc_10 rfl rfl rfl (Nat.le_of_ble_eq_true rfl) (j_fit_room (by decide) (by decide) (by decide)) rfl ?_
  refine j_istore x dL_law_1111 (by decide) rfl ?_
  refine j_aload_n x dL_law_1113 rfl ?_
  refine j2_callVi x hb dL_law_1114 m_X6_thrown (cx_thrown (d := 0) hb) wmL_145 jc_10 rfl rfl rfl (Nat.le_of_ble_eq_true rfl) (j_fit_room (by decide) (by decide) (by decide)) rfl ?_
  refine j_iload x dL_law_1117 rfl ?_
  refine j_icmp_eq (tgt := 1124) x dL_law_1119 (by decide) (fun hc => ?_) (fun hc => absurd (rfl) hc)
  refine j_iload x dL_law_1124 rfl ?_
  refine j_if_ne (tgt := 1141) x dL_law_1126 (by decide) (fun hc => ?_) (fun hc => absurd hc (by decide))
  refine j_goto (tgt := 2301) x dL_law_1141 (by decide) ?_
  exact law_end X (by decide) (by decide)
theorem law_case_15 (X : LX p l s m meth c D tyc sb 4 xs) : LJ p l e s m below meth c D tyc sb ad0 1144 [some (.retAddr sb), some (.ref 0), some (.ref 94), some (.ref 102), some (.ref 103), some (.int 0), none, none, none] [] (HH b0 Y0 M0) 104 7864 := by
  obtain ⟨x, hr, hX, hb1, hb2⟩ := id X
  have hb : 104 ≤ b0.2.1 := Nat.le_refl 104
  refine j_aload_n x dL_law_1144 rfl ?_
  refine j_aload_nR x dL_law_1145 rfl ?_
  refine j_iload x dL_law_1146 rfl ?_
  refine j_iconst (v := 1) x dL_law_1148 (by decide) ?_
  refine j_iadd x dL_law_1149 ?_
  refine j_sld (j := 1) x hX hb1 hb2 dL_law_1150 (vp_c (by decide)) (by decide) ?_
  refine j_aload_n x dL_law_1151 rfl ?_
  refine j2_callH x dL_law_1152 m_L_clashes (H_clashes_t1 hb (c_clashes_0 (d := 0) hb (by decide +kernel))) wmL_193 rfl (Nat.le_of_ble_eq_true rfl) (j_fit_room (by decide) (by decide) (by decide)) rfl ?_
  refine j_istore x dL_law_1155 (by decide) rfl ?_
  refine j_aload_n x dL_law_1157 rfl ?_
  refine j_aload_nR x dL_law_1158 rfl ?_
  refine j_iload x dL_law_1159 rfl ?_
  refine j_iconst (v := 1) x dL_law_1161 (by decide) ?_
  refine j_iadd x dL_law_1162 ?_
  refine j_sld (j := 1) x hX hb1 hb2 dL_law_1163 (vp_c (by decide)) (by decide) ?_
  refine j2_callVi x hb dL_law_1164 m_X6_clashes_ (cx_clashes_0 (d := 0) hb (by decide +kernel)) wmL_195 jc_10 rfl rfl rfl (Nat.le_of_ble_eq_true rfl) (j_fit_room (by decide) (by decide) (by decide)) rfl ?_
  refine j_istore x dL_law_1167 (by decide) rfl ?_
  refine j_aload_n x dL_law_1169 rfl ?_
  refine j2_callVi x hb dL_law_1170 m_X6_thrown (cx_thrown (d := 0) hb) wmL_145 jc_10 rfl rfl rfl (Nat.le_of_ble_eq_true rfl) (j_fit_room (by decide) (by decide) (by decide)) rfl ?_
  refine j_iload x dL_law_1173 rfl ?_
  refine j_icmp_eq (tgt := 1180) x dL_law_1175 (by decide) (fun hc => ?_) (fun hc => absurd (rfl) hc)
  refine j_iload x dL_law_1180 rfl ?_
  refine j_if_ne (tgt := 1197) x dL_law_1182 (by decide) (fun hc => ?_) (fun hc => absurd hc (by decide))
  refine j_goto (tgt := 2301) x dL_law_1197 (by decide) ?_
  exact law_end X (by decide) (by decide)
theorem law_case_16 (X : LX p l s m meth c D tyc sb 4 xs) : LJ p l e s m below meth c D tyc sb ad0 1200 [some (.retAddr sb), some (.ref 0), some (.ref 94), some (.ref 102), some (.ref 103), some (.int 0), none, none, none] [] (HH b0 Y0 M0) 104 7864 := by
  obtain ⟨x, hr, hX, hb1, hb2⟩ := id X
  have hb : 104 ≤ b0.2.1 := Nat.le_refl 104
  refine j_aload_n x dL_law_1200 rfl ?_
  refine j_aload_nR x dL_law_1201 rfl ?_
  refine j_iload x dL_law_1202 rfl ?_
  refine j_iconst (v := 1) x dL_law_1204 (by decide) ?_
  refine j_iadd x dL_law_1205 ?_
  refine j_sld (j := 1) x hX hb1 hb2 dL_law_1206 (vp_c (by decide)) (by decide) ?_
  refine j_aload_n x dL_law_1207 rfl ?_
  refine j2_callH x dL_law_1208 m_L_freeWeek (H_freeWeek_t1 hb (c_freeWeek_0 (d := 0) hb (by decide +kernel))) wmL_196 rfl (Nat.le_of_ble_eq_true rfl) (j_fit_room (by decide) (by decide) (by decide)) rfl ?_
  refine j_istore x dL_law_1211 (by decide) rfl ?_
  refine j_aload_n x dL_law_1213 rfl ?_
  refine j_aload_nR x dL_law_1214 rfl ?_
  refine j_iload x dL_law_1215 rfl ?_
  refine j_iconst (v := 1) x dL_law_1217 (by decide) ?_
  refine j_iadd x dL_law_1218 ?_
  refine j_sld (j := 1) x hX hb1 hb2 dL_law_1219 (vp_c (by decide)) (by decide) ?_
  refine j2_callVi x hb dL_law_1220 m_X6_freeWeek (cx_freeWeek_0 (d := 0) hb (by decide +kernel)) wmL_198 jc_10 rfl rfl rfl (Nat.le_of_ble_eq_true rfl) (j_fit_room (by decide) (by decide) (by decide)) rfl ?_
  refine j_istore x dL_law_1223 (by decide) rfl ?_
  refine j_aload_n x dL_law_1225 rfl ?_
  refine j2_callVi x hb dL_law_1226 m_X6_thrown (cx_thrown (d := 0) hb) wmL_145 jc_10 rfl rfl rfl (Nat.le_of_ble_eq_true rfl) (j_fit_room (by decide) (by decide) (by decide)) rfl ?_
  refine j_iload x dL_law_1229 rfl ?_
  refine j_icmp_eq (tgt := 1236) x dL_law_1231 (by decide) (fun hc => ?_) (fun hc => absurd (rfl) hc)
  refine j_iload x dL_law_1236 rfl ?_
  refine j_if_ne (tgt := 1253) x dL_law_1238 (by decide) (fun hc => ?_) (fun hc => absurd hc (by decide))
  refine j_goto (tgt := 2301) x dL_law_1253 (by decide) ?_
  exact law_end X (by decide) (by decide)
theorem law_case_17 (X : LX p l s m meth c D tyc sb 4 xs) : LJ p l e s m below meth c D tyc sb ad0 1256 [some (.retAddr sb), some (.ref 0), some (.ref 94), some (.ref 102), some (.ref 103), some (.int 0), none, none, none] [] (HH b0 Y0 M0) 104 7864 := by
  obtain ⟨x, hr, hX, hb1, hb2⟩ := id X
  have hb : 104 ≤ b0.2.1 := Nat.le_refl 104
  refine j_aload_n x dL_law_1256 rfl ?_
  refine j_aload_nR x dL_law_1257 rfl ?_
  refine j_iload x dL_law_1258 rfl ?_
  refine j_iconst (v := 1) x dL_law_1260 (by decide) ?_
  refine j_iadd x dL_law_1261 ?_
  refine j_sld (j := 1) x hX hb1 hb2 dL_law_1262 (vp_c (by decide)) (by decide) ?_
  refine j_aload_n x dL_law_1263 rfl ?_
  refine j2_callH x dL_law_1264 m_L_ranked (H_ranked_t1 hb (c_ranked_0 (d := 0) hb (by decide +kernel))) wmL_199 rfl (Nat.le_of_ble_eq_true rfl) (j_fit_room (by decide) (by decide) (by decide)) rfl ?_
  refine j_istore x dL_law_1267 (by decide) rfl ?_
  refine j_aload_n x dL_law_1269 rfl ?_
  refine j_aload_nR x dL_law_1270 rfl ?_
  refine j_iload x dL_law_1271 rfl ?_
  refine j_iconst (v := 1) x dL_law_1273 (by decide) ?_
  refine j_iadd x dL_law_1274 ?_
  refine j_sld (j := 1) x hX hb1 hb2 dL_law_1275 (vp_c (by decide)) (by decide) ?_
  refine j2_callVi x hb dL_law_1276 m_X6_ranked (cx_ranked_0 (d := 0) hb (by decide +kernel)) wmL_201 jc_10 rfl rfl rfl (Nat.le_of_ble_eq_true rfl) (j_fit_room (by decide) (by decide) (by decide)) rfl ?_
  refine j_istore x dL_law_1279 (by decide) rfl ?_
  refine j_aload_n x dL_law_1281 rfl ?_
  refine j2_callVi x hb dL_law_1282 m_X6_thrown (cx_thrown (d := 0) hb) wmL_145 jc_10 rfl rfl rfl (Nat.le_of_ble_eq_true rfl) (j_fit_room (by decide) (by decide) (by decide)) rfl ?_
  refine j_iload x dL_law_1285 rfl ?_
  refine j_icmp_eq (tgt := 1292) x dL_law_1287 (by decide) (fun hc => ?_) (fun hc => absurd (rfl) hc)
  refine j_iload x dL_law_1292 rfl ?_
  refine j_if_ne (tgt := 1309) x dL_law_1294 (by decide) (fun hc => ?_) (fun hc => absurd hc (by decide))
  refine j_goto (tgt := 2301) x dL_law_1309 (by decide) ?_
  exact law_end X (by decide) (by decide)
theorem law_case_18 (X : LX p l s m meth c D tyc sb 4 xs) : LJ p l e s m below meth c D tyc sb ad0 1312 [some (.retAddr sb), some (.ref 0), some (.ref 94), some (.ref 102), some (.ref 103), some (.int 0), none, none, none] [] (HH b0 Y0 M0) 104 7864 := by
  obtain ⟨x, hr, hX, hb1, hb2⟩ := id X
  have hb : 104 ≤ b0.2.1 := Nat.le_refl 104
  refine j_aload_n x dL_law_1312 rfl ?_
  refine j_aload_nR x dL_law_1313 rfl ?_
  refine j_iload x dL_law_1314 rfl ?_
  refine j_iconst (v := 1) x dL_law_1316 (by decide) ?_
  refine j_iadd x dL_law_1317 ?_
  refine j_sld (j := 1) x hX hb1 hb2 dL_law_1318 (vp_c (by decide)) (by decide) ?_
  refine j_aload_n x dL_law_1319 rfl ?_
  refine j2_callH x dL_law_1320 m_L_placeOf (H_placeOf_t1 hb (c_placeOf_0 (d := 0) hb (by decide +kernel))) wmL_202 rfl (Nat.le_of_ble_eq_true rfl) (j_fit_room (by decide) (by decide) (by decide)) rfl ?_
  refine j_istore x dL_law_1323 (by decide) rfl ?_
  refine j_aload_n x dL_law_1325 rfl ?_
  refine j_aload_nR x dL_law_1326 rfl ?_
  refine j_iload x dL_law_1327 rfl ?_
  refine j_iconst (v := 1) x dL_law_1329 (by decide) ?_
  refine j_iadd x dL_law_1330 ?_
  refine j_sld (j := 1) x hX hb1 hb2 dL_law_1331 (vp_c (by decide)) (by decide) ?_
  refine j2_callVi x hb dL_law_1332 m_X6_placeOf (cx_placeOf_0 (d := 0) hb (by decide +kernel)) wmL_204 jc_10 rfl rfl rfl (Nat.le_of_ble_eq_true rfl) (j_fit_room (by decide) (by decide) (by decide)) rfl ?_
  refine j_istore x dL_law_1335 (by decide) rfl ?_
  refine j_aload_n x dL_law_1337 rfl ?_
  refine j2_callVi x hb dL_law_1338 m_X6_thrown (cx_thrown (d := 0) hb) wmL_145 jc_10 rfl rfl rfl (Nat.le_of_ble_eq_true rfl) (j_fit_room (by decide) (by decide) (by decide)) rfl ?_
  refine j_iload x dL_law_1341 rfl ?_
  refine j_icmp_eq (tgt := 1348) x dL_law_1343 (by decide) (fun hc => ?_) (fun hc => absurd (rfl) hc)
  refine j_iload x dL_law_1348 rfl ?_
  refine j_if_ne (tgt := 1365) x dL_law_1350 (by decide) (fun hc => ?_) (fun hc => absurd hc (by decide))
  refine j_goto (tgt := 2301) x dL_law_1365 (by decide) ?_
  exact law_end X (by decide) (by decide)
theorem law_case_19 (X : LX p l s m meth c D tyc sb 4 xs) : LJ p l e s m below meth c D tyc sb ad0 1368 [some (.retAddr sb), some (.ref 0), some (.ref 94), some (.ref 102), some (.ref 103), some (.int 0), none, none, none] [] (HH b0 Y0 M0) 104 7864 := by
  obtain ⟨x, hr, hX, hb1, hb2⟩ := id X
  have hb : 104 ≤ b0.2.1 := Nat.le_refl 104
  refine j_aload_n x dL_law_1368 rfl ?_
  refine j_aload_nR x dL_law_1369 rfl ?_
  refine j_iload x dL_law_1370 rfl ?_
  refine j_iconst (v := 1) x dL_law_1372 (by decide) ?_
  refine j_iadd x dL_law_1373 ?_
  refine j_sld (j := 1) x hX hb1 hb2 dL_law_1374 (vp_c (by decide)) (by decide) ?_
  refine j_aload_nR x dL_law_1375 rfl ?_
  refine j_iload x dL_law_1376 rfl ?_
  refine j_iconst (v := 2) x dL_law_1378 (by decide) ?_
  refine j_iadd x dL_law_1379 ?_
  refine j_sld (j := 2) x hX hb1 hb2 dL_law_1380 (vp_c (by decide)) (by decide) ?_
  refine j_aload_n x dL_law_1381 rfl ?_
  refine j2_callH x dL_law_1382 m_L_valueOf (H_valueOf_t1 hb (c_valueOf_0 (d := 0) hb (by decide +kernel))) wmL_205 rfl (Nat.le_of_ble_eq_true rfl) (j_fit_room (by decide) (by decide) (by decide)) rfl ?_
  refine j_istore x dL_law_1385 (by decide) rfl ?_
  refine j_aload_n x dL_law_1387 rfl ?_
  refine j_aload_nR x dL_law_1388 rfl ?_
  refine j_iload x dL_law_1389 rfl ?_
  refine j_iconst (v := 1) x dL_law_1391 (by decide) ?_
  refine j_iadd x dL_law_1392 ?_
  refine j_sld (j := 1) x hX hb1 hb2 dL_law_1393 (vp_c (by decide)) (by decide) ?_
  refine j_aload_nR x dL_law_1394 rfl ?_
  refine j_iload x dL_law_1395 rfl ?_
  refine j_iconst (v := 2) x dL_law_1397 (by decide) ?_
  refine j_iadd x dL_law_1398 ?_
  refine j_sld (j := 2) x hX hb1 hb2 dL_law_1399 (vp_c (by decide)) (by decide) ?_
  refine j2_callVi x hb dL_law_1400 m_X6_valueOf (cx_valueOf_0 (d := 0) hb (by decide +kernel)) wmL_207 jc_10 rfl rfl rfl (Nat.le_of_ble_eq_true rfl) (j_fit_room (by decide) (by decide) (by decide)) rfl ?_
  refine j_istore x dL_law_1403 (by decide) rfl ?_
  refine j_aload_n x dL_law_1405 rfl ?_
  refine j2_callVi x hb dL_law_1406 m_X6_thrown (cx_thrown (d := 0) hb) wmL_145 jc_10 rfl rfl rfl (Nat.le_of_ble_eq_true rfl) (j_fit_room (by decide) (by decide) (by decide)) rfl ?_
  refine j_iload x dL_law_1409 rfl ?_
  refine j_icmp_eq (tgt := 1416) x dL_law_1411 (by decide) (fun hc => ?_) (fun hc => absurd (rfl) hc)
  refine j_iload x dL_law_1416 rfl ?_
  refine j_if_ne (tgt := 1433) x dL_law_1418 (by decide) (fun hc => ?_) (fun hc => absurd hc (by decide))
  refine j_goto (tgt := 2301) x dL_law_1433 (by decide) ?_
  exact law_end X (by decide) (by decide)
theorem law_case_20 (X : LX p l s m meth c D tyc sb 4 xs) : LJ p l e s m below meth c D tyc sb ad0 1436 [some (.retAddr sb), some (.ref 0), some (.ref 94), some (.ref 102), some (.ref 103), some (.int 0), none, none, none] [] (HH b0 Y0 M0) 104 7864 := by
  obtain ⟨x, hr, hX, hb1, hb2⟩ := id X
  have hb : 104 ≤ b0.2.1 := Nat.le_refl 104
  refine j_aload_n x dL_law_1436 rfl ?_
  refine j_aload_nR x dL_law_1437 rfl ?_
  refine j_iload x dL_law_1438 rfl ?_
  refine j_iconst (v := 1) x dL_law_1440 (by decide) ?_
  refine j_iadd x dL_law_1441 ?_
  refine j_sld (j := 1) x hX hb1 hb2 dL_law_1442 (vp_c (by decide)) (by decide) ?_
  refine j_aload_n x dL_law_1443 rfl ?_
  refine j2_callH x dL_law_1444 m_L_tied (H_tied_t1 hb (c_tied_0 (d := 0) hb (by decide +kernel))) wmL_208 rfl (Nat.le_of_ble_eq_true rfl) (j_fit_room (by decide) (by decide) (by decide)) rfl ?_
  refine j_istore x dL_law_1447 (by decide) rfl ?_
  refine j_aload_n x dL_law_1449 rfl ?_
  refine j_aload_nR x dL_law_1450 rfl ?_
  refine j_iload x dL_law_1451 rfl ?_
  refine j_iconst (v := 1) x dL_law_1453 (by decide) ?_
  refine j_iadd x dL_law_1454 ?_
  refine j_sld (j := 1) x hX hb1 hb2 dL_law_1455 (vp_c (by decide)) (by decide) ?_
  refine j2_callVi x hb dL_law_1456 m_X6_tied (cx_tied_0 (d := 0) hb (by decide +kernel)) wmL_210 jc_10 rfl rfl rfl (Nat.le_of_ble_eq_true rfl) (j_fit_room (by decide) (by decide) (by decide)) rfl ?_
  refine j_istore x dL_law_1459 (by decide) rfl ?_
  refine j_aload_n x dL_law_1461 rfl ?_
  refine j2_callVi x hb dL_law_1462 m_X6_thrown (cx_thrown (d := 0) hb) wmL_145 jc_10 rfl rfl rfl (Nat.le_of_ble_eq_true rfl) (j_fit_room (by decide) (by decide) (by decide)) rfl ?_
  refine j_iload x dL_law_1465 rfl ?_
  refine j_icmp_eq (tgt := 1472) x dL_law_1467 (by decide) (fun hc => ?_) (fun hc => absurd (rfl) hc)
  refine j_iload x dL_law_1472 rfl ?_
  refine j_if_ne (tgt := 1489) x dL_law_1474 (by decide) (fun hc => ?_) (fun hc => absurd hc (by decide))
  refine j_goto (tgt := 2301) x dL_law_1489 (by decide) ?_
  exact law_end X (by decide) (by decide)
theorem law_case_21 (X : LX p l s m meth c D tyc sb 4 xs) : LJ p l e s m below meth c D tyc sb ad0 1492 [some (.retAddr sb), some (.ref 0), some (.ref 94), some (.ref 102), some (.ref 103), some (.int 0), none, none, none] [] (HH b0 Y0 M0) 104 7864 := by
  obtain ⟨x, hr, hX, hb1, hb2⟩ := id X
  have hb : 104 ≤ b0.2.1 := Nat.le_refl 104
  refine j_aload_n x dL_law_1492 rfl ?_
  refine j_aload_nR x dL_law_1493 rfl ?_
  refine j_iload x dL_law_1494 rfl ?_
  refine j_iconst (v := 1) x dL_law_1496 (by decide) ?_
  refine j_iadd x dL_law_1497 ?_
  refine j_sld (j := 1) x hX hb1 hb2 dL_law_1498 (vp_c (by decide)) (by decide) ?_
  refine j_aload_n x dL_law_1499 rfl ?_
  refine j2_callH x dL_law_1500 m_L_most (H_most_t1 hb (c_most_0 (d := 0) hb (by decide +kernel))) wmL_211 rfl (Nat.le_of_ble_eq_true rfl) (j_fit_room (by decide) (by decide) (by decide)) rfl ?_
  refine j_istore x dL_law_1503 (by decide) rfl ?_
  refine j_aload_n x dL_law_1505 rfl ?_
  refine j_aload_nR x dL_law_1506 rfl ?_
  refine j_iload x dL_law_1507 rfl ?_
  refine j_iconst (v := 1) x dL_law_1509 (by decide) ?_
  refine j_iadd x dL_law_1510 ?_
  refine j_sld (j := 1) x hX hb1 hb2 dL_law_1511 (vp_c (by decide)) (by decide) ?_
  refine j2_callVi x hb dL_law_1512 m_X6_most (cx_most_0 (d := 0) hb (by decide +kernel)) wmL_213 jc_10 rfl rfl rfl (Nat.le_of_ble_eq_true rfl) (j_fit_room (by decide) (by decide) (by decide)) rfl ?_
  refine j_istore x dL_law_1515 (by decide) rfl ?_
  refine j_aload_n x dL_law_1517 rfl ?_
  refine j2_callVi x hb dL_law_1518 m_X6_thrown (cx_thrown (d := 0) hb) wmL_145 jc_10 rfl rfl rfl (Nat.le_of_ble_eq_true rfl) (j_fit_room (by decide) (by decide) (by decide)) rfl ?_
  refine j_iload x dL_law_1521 rfl ?_
  refine j_icmp_eq (tgt := 1528) x dL_law_1523 (by decide) (fun hc => ?_) (fun hc => absurd (rfl) hc)
  refine j_iload x dL_law_1528 rfl ?_
  refine j_if_ne (tgt := 1545) x dL_law_1530 (by decide) (fun hc => ?_) (fun hc => absurd hc (by decide))
  refine j_goto (tgt := 2301) x dL_law_1545 (by decide) ?_
  exact law_end X (by decide) (by decide)
theorem law_case_22 (X : LX p l s m meth c D tyc sb 4 xs) : LJ p l e s m below meth c D tyc sb ad0 1548 [some (.retAddr sb), some (.ref 0), some (.ref 94), some (.ref 102), some (.ref 103), some (.int 0), none, none, none] [] (HH b0 Y0 M0) 104 7864 := by
  obtain ⟨x, hr, hX, hb1, hb2⟩ := id X
  have hb : 104 ≤ b0.2.1 := Nat.le_refl 104
  refine j_aload_n x dL_law_1548 rfl ?_
  refine j_aload_nR x dL_law_1549 rfl ?_
  refine j_iload x dL_law_1550 rfl ?_
  refine j_iconst (v := 1) x dL_law_1552 (by decide) ?_
  refine j_iadd x dL_law_1553 ?_
  refine j_sld (j := 1) x hX hb1 hb2 dL_law_1554 (vp_c (by decide)) (by decide) ?_
  refine j_aload_n x dL_law_1555 rfl ?_
  refine j2_callH x dL_law_1556 m_L_isSafe (H_isSafe_t1 hb (c_isSafe_0 (d := 0) hb (by decide +kernel))) wmL_214 rfl (Nat.le_of_ble_eq_true rfl) (j_fit_room (by decide) (by decide) (by decide)) rfl ?_
  refine j_istore x dL_law_1559 (by decide) rfl ?_
  refine j_aload_n x dL_law_1561 rfl ?_
  refine j_aload_nR x dL_law_1562 rfl ?_
  refine j_iload x dL_law_1563 rfl ?_
  refine j_iconst (v := 1) x dL_law_1565 (by decide) ?_
  refine j_iadd x dL_law_1566 ?_
  refine j_sld (j := 1) x hX hb1 hb2 dL_law_1567 (vp_c (by decide)) (by decide) ?_
  refine j2_callVi x hb dL_law_1568 m_X6_isSafe (cx_isSafe_0 (d := 0) hb (by decide +kernel)) wmL_216 jc_10 rfl rfl rfl (Nat.le_of_ble_eq_true rfl) (j_fit_room (by decide) (by decide) (by decide)) rfl ?_
  refine j_istore x dL_law_1571 (by decide) rfl ?_
  refine j_aload_n x dL_law_1573 rfl ?_
  refine j2_callVi x hb dL_law_1574 m_X6_thrown (cx_thrown (d := 0) hb) wmL_145 jc_10 rfl rfl rfl (Nat.le_of_ble_eq_true rfl) (j_fit_room (by decide) (by decide) (by decide)) rfl ?_
  refine j_iload x dL_law_1577 rfl ?_
  refine j_icmp_eq (tgt := 1584) x dL_law_1579 (by decide) (fun hc => ?_) (fun hc => absurd (rfl) hc)
  refine j_iload x dL_law_1584 rfl ?_
  refine j_if_ne (tgt := 1608) x dL_law_1586 (by decide) (fun hc => ?_) (fun hc => absurd hc (by decide))
  refine j_goto (tgt := 2301) x dL_law_1608 (by decide) ?_
  exact law_end X (by decide) (by decide)
theorem law_case_23 (X : LX p l s m meth c D tyc sb 4 xs) : LJ p l e s m below meth c D tyc sb ad0 1611 [some (.retAddr sb), some (.ref 0), some (.ref 94), some (.ref 102), some (.ref 103), some (.int 0), none, none, none] [] (HH b0 Y0 M0) 104 7864 := by
  obtain ⟨x, hr, hX, hb1, hb2⟩ := id X
  have hb : 104 ≤ b0.2.1 := Nat.le_refl 104
  refine j_aload_n x dL_law_1611 rfl ?_
  refine j_aload_nR x dL_law_1612 rfl ?_
  refine j_iload x dL_law_1613 rfl ?_
  refine j_iconst (v := 1) x dL_law_1615 (by decide) ?_
  refine j_iadd x dL_law_1616 ?_
  refine j_sld (j := 1) x hX hb1 hb2 dL_law_1617 (vp_c (by decide)) (by decide) ?_
  refine j_aload_n x dL_law_1618 rfl ?_
  refine j2_callH x dL_law_1619 m_L_isOut (H_isOut_t1 hb (c_isOut_0 (d := 0) hb (by decide +kernel))) wmL_217 rfl (Nat.le_of_ble_eq_true rfl) (j_fit_room (by decide) (by decide) (by decide)) rfl ?_
  refine j_istore x dL_law_1622 (by decide) rfl ?_
  refine j_aload_n x dL_law_1624 rfl ?_
  refine j_aload_nR x dL_law_1625 rfl ?_
  refine j_iload x dL_law_1626 rfl ?_
  refine j_iconst (v := 1) x dL_law_1628 (by decide) ?_
  refine j_iadd x dL_law_1629 ?_
  refine j_sld (j := 1) x hX hb1 hb2 dL_law_1630 (vp_c (by decide)) (by decide) ?_
  refine j2_callVi x hb dL_law_1631 m_X6_isOut (cx_isOut_0 (d := 0) hb (by decide +kernel)) wmL_219 jc_10 rfl rfl rfl (Nat.le_of_ble_eq_true rfl) (j_fit_room (by decide) (by decide) (by decide)) rfl ?_
  refine j_istore x dL_law_1634 (by decide) rfl ?_
  refine j_aload_n x dL_law_1636 rfl ?_
  refine j2_callVi x hb dL_law_1637 m_X6_thrown (cx_thrown (d := 0) hb) wmL_145 jc_10 rfl rfl rfl (Nat.le_of_ble_eq_true rfl) (j_fit_room (by decide) (by decide) (by decide)) rfl ?_
  refine j_iload x dL_law_1640 rfl ?_
  refine j_icmp_eq (tgt := 1647) x dL_law_1642 (by decide) (fun hc => ?_) (fun hc => absurd (rfl) hc)
  refine j_iload x dL_law_1647 rfl ?_
  refine j_if_ne (tgt := 1671) x dL_law_1649 (by decide) (fun hc => ?_) (fun hc => absurd hc (by decide))
  refine j_goto (tgt := 2301) x dL_law_1671 (by decide) ?_
  exact law_end X (by decide) (by decide)
theorem law_case_24 (X : LX p l s m meth c D tyc sb 4 xs) : LJ p l e s m below meth c D tyc sb ad0 1674 [some (.retAddr sb), some (.ref 0), some (.ref 94), some (.ref 102), some (.ref 103), some (.int 0), none, none, none] [] (HH b0 Y0 M0) 104 7864 := by
  obtain ⟨x, hr, hX, hb1, hb2⟩ := id X
  have hb : 104 ≤ b0.2.1 := Nat.le_refl 104
  refine j_aload_n x dL_law_1674 rfl ?_
  refine j_aload_nR x dL_law_1675 rfl ?_
  refine j_iload x dL_law_1676 rfl ?_
  refine j_iconst (v := 1) x dL_law_1678 (by decide) ?_
  refine j_iadd x dL_law_1679 ?_
  refine j_sld (j := 1) x hX hb1 hb2 dL_law_1680 (vp_c (by decide)) (by decide) ?_
  refine j_aload_n x dL_law_1681 rfl ?_
  refine j2_callH x dL_law_1682 m_L_run (H_run_t1 hb (c_run_0 (d := 0) hb (by decide +kernel))) wmL_220 rfl (Nat.le_of_ble_eq_true rfl) (j_fit_room (by decide) (by decide) (by decide)) rfl ?_
  refine j_istore x dL_law_1685 (by decide) rfl ?_
  refine j_aload_n x dL_law_1687 rfl ?_
  refine j_aload_nR x dL_law_1688 rfl ?_
  refine j_iload x dL_law_1689 rfl ?_
  refine j_iconst (v := 1) x dL_law_1691 (by decide) ?_
  refine j_iadd x dL_law_1692 ?_
  refine j_sld (j := 1) x hX hb1 hb2 dL_law_1693 (vp_c (by decide)) (by decide) ?_
  refine j2_callVi x hb dL_law_1694 m_X6_run (cx_run_0 (d := 0) hb (by decide +kernel)) wmL_222 jc_10 rfl rfl rfl (Nat.le_of_ble_eq_true rfl) (j_fit_room (by decide) (by decide) (by decide)) rfl ?_
  refine j_istore x dL_law_1697 (by decide) rfl ?_
  refine j_aload_n x dL_law_1699 rfl ?_
  refine j2_callVi x hb dL_law_1700 m_X6_thrown (cx_thrown (d := 0) hb) wmL_145 jc_10 rfl rfl rfl (Nat.le_of_ble_eq_true rfl) (j_fit_room (by decide) (by decide) (by decide)) rfl ?_
  refine j_iload x dL_law_1703 rfl ?_
  refine j_icmp_eq (tgt := 1710) x dL_law_1705 (by decide) (fun hc => ?_) (fun hc => absurd (rfl) hc)
  refine j_iload x dL_law_1710 rfl ?_
  refine j_if_ne (tgt := 1727) x dL_law_1712 (by decide) (fun hc => ?_) (fun hc => absurd hc (by decide))
  refine j_goto (tgt := 2301) x dL_law_1727 (by decide) ?_
  exact law_end X (by decide) (by decide)
theorem law_case_29 (X : LX p l s m meth c D tyc sb 4 xs) : LJ p l e s m below meth c D tyc sb ad0 1901 [some (.retAddr sb), some (.ref 0), some (.ref 94), some (.ref 102), some (.ref 103), some (.int 0), none, none, none] [] (HH b0 Y0 M0) 104 7864 := by
  obtain ⟨x, hr, hX, hb1, hb2⟩ := id X
  have hb : 104 ≤ b0.2.1 := Nat.le_refl 104
  refine j_aload_n x dL_law_1901 rfl ?_
  refine j_aload_nR x dL_law_1902 rfl ?_
  refine j_iload x dL_law_1903 rfl ?_
  refine j_iconst (v := 1) x dL_law_1905 (by decide) ?_
  refine j_iadd x dL_law_1906 ?_
  refine j_sld (j := 1) x hX hb1 hb2 dL_law_1907 (vp_c (by decide)) (by decide) ?_
  refine j_aload_n x dL_law_1908 rfl ?_
  refine j2_callH x dL_law_1909 m_L_line (H_line_t1 hb (c_line_0 (d := 0) hb (by decide +kernel))) wmL_237 rfl (Nat.le_of_ble_eq_true rfl) (j_fit_room (by decide) (by decide) (by decide)) rfl ?_
  refine j_istore x dL_law_1912 (by decide) rfl ?_
  refine j_aload_n x dL_law_1914 rfl ?_
  refine j_aload_nR x dL_law_1915 rfl ?_
  refine j_iload x dL_law_1916 rfl ?_
  refine j_iconst (v := 1) x dL_law_1918 (by decide) ?_
  refine j_iadd x dL_law_1919 ?_
  refine j_sld (j := 1) x hX hb1 hb2 dL_law_1920 (vp_c (by decide)) (by decide) ?_
  refine j2_callVi x hb dL_law_1921 m_X6_line (cx_line_0 (d := 0) hb (by decide +kernel)) wmL_239 jc_10 rfl rfl rfl (Nat.le_of_ble_eq_true rfl) (j_fit_room (by decide) (by decide) (by decide)) rfl ?_
  refine j_istore x dL_law_1924 (by decide) rfl ?_
  refine j_aload_n x dL_law_1926 rfl ?_
  refine j2_callVi x hb dL_law_1927 m_X6_thrown (cx_thrown (d := 0) hb) wmL_145 jc_10 rfl rfl rfl (Nat.le_of_ble_eq_true rfl) (j_fit_room (by decide) (by decide) (by decide)) rfl ?_
  refine j_iload x dL_law_1930 rfl ?_
  refine j_icmp_eq (tgt := 1937) x dL_law_1932 (by decide) (fun hc => ?_) (fun hc => absurd (rfl) hc)
  refine j_iload x dL_law_1937 rfl ?_
  refine j_if_ne (tgt := 1954) x dL_law_1939 (by decide) (fun hc => ?_) (fun hc => absurd hc (by decide))
  refine j_goto (tgt := 2301) x dL_law_1954 (by decide) ?_
  exact law_end X (by decide) (by decide)
theorem law_case_25 (X : LX p l s m meth c D tyc sb 4 xs) : LJ p l e s m below meth c D tyc sb ad0 1730 [some (.retAddr sb), some (.ref 0), some (.ref 94), some (.ref 102), some (.ref 103), some (.int 0), none, none, none] [] (HH b0 Y0 M0) 104 7864 := by
  obtain ⟨x, hr, hX, hb1, hb2⟩ := id X
  have hb : 104 ≤ b0.2.1 := Nat.le_refl 104
  refine j_aload_n x dL_law_1730 rfl ?_
  refine j_aload_nR x dL_law_1731 rfl ?_
  refine j_iload x dL_law_1732 rfl ?_
  refine j_iconst (v := 1) x dL_law_1734 (by decide) ?_
  refine j_iadd x dL_law_1735 ?_
  refine j_sld (j := 1) x hX hb1 hb2 dL_law_1736 (vp_c (by decide)) (by decide) ?_
  refine j_i2c x dL_law_1737 ?_
  refine j_aload_n x dL_law_1738 rfl ?_
  refine j2_callH x dL_law_1739 m_L_append (H_append_r hb (c_append_ok (d := 0) (n := 0) hb (by decide) (by decide +kernel) rfl)) wmL_223 rfl (Nat.le_of_ble_eq_true rfl) (j_fit_room (by decide) (by decide) (by decide)) rfl ?_
  refine j_istore x dL_law_1742 (by decide) rfl ?_
  refine j_aload_n x dL_law_1744 rfl ?_
  refine j_aload_nR x dL_law_1745 rfl ?_
  refine j_iload x dL_law_1746 rfl ?_
  refine j_iconst (v := 1) x dL_law_1748 (by decide) ?_
  refine j_iadd x dL_law_1749 ?_
  refine j_sld (j := 1) x hX hb1 hb2 dL_law_1750 (vp_c (by decide)) (by decide) ?_
  refine j_i2c x dL_law_1751 ?_
  refine j2_callVi x hb dL_law_1752 m_X6_append (cx_append_ok (d := 0) (n := 0) hb (by decide) (by rw [jm_n (by omega), jm_n (by omega)]; decide +kernel) rfl) wmL_226 jc_10 rfl rfl rfl (Nat.le_of_ble_eq_true rfl) (j_fit_room (by decide) (by decide) (by decide)) rfl ?_
  refine j_istore x dL_law_1755 (by decide) rfl ?_
  refine j_aload_n x dL_law_1757 rfl ?_
  refine j2_callVi x hb dL_law_1758 m_X6_thrown (cx_thrown (d := 0) hb) wmL_145 jc_10 rfl rfl rfl (Nat.le_of_ble_eq_true rfl) (j_fit_room (by decide) (by decide) (by decide)) rfl ?_
  refine j_iload x dL_law_1761 rfl ?_
  refine j_icmp_eq (tgt := 1768) x dL_law_1763 (by decide) (fun hc => ?_) (fun hc => absurd (rfl) hc)
  refine j_iload x dL_law_1768 rfl ?_
  refine j_if_ne (tgt := 1785) x dL_law_1770 (by decide) (fun hc => absurd rfl hc) (fun hc => ?_)
  refine j_aload_n x dL_law_1773 rfl ?_
  refine j_iconst (v := 0) x dL_law_1774 (by decide) ?_
  refine j2_lald x hb dL_law_1775 ?_
  refine j_iload x dL_law_1776 rfl ?_
  refine j_i2l x dL_law_1778 ?_
  refine j_lcmp x dL_law_1779 ?_
  refine j_if_eq (tgt := 1785) x dL_law_1780 (by decide) (fun hc => ?_) (fun hc => absurd (lcmp_eq (rfl)) hc)
  refine j_goto (tgt := 2301) x dL_law_1785 (by decide) ?_
  exact law_end X (by decide) (by decide)
theorem law_case_26 (X : LX p l s m meth c D tyc sb 4 xs) : LJ p l e s m below meth c D tyc sb ad0 1788 [some (.retAddr sb), some (.ref 0), some (.ref 94), some (.ref 102), some (.ref 103), some (.int 0), none, none, none] [] (HH b0 Y0 M0) 104 7864 := by
  obtain ⟨x, hr, hX, hb1, hb2⟩ := id X
  have hb : 104 ≤ b0.2.1 := Nat.le_refl 104
  refine j_aload_n x dL_law_1788 rfl ?_
  refine j_aload_n x dL_law_1789 rfl ?_
  refine j2_callH x dL_law_1790 m_L_commands (H_commands_t1 hb (c_commands_0 (d := 0) hb (by decide +kernel))) wmL_227 rfl (Nat.le_of_ble_eq_true rfl) (j_fit_room (by decide) (by decide) (by decide)) rfl ?_
  refine j_istore x dL_law_1793 (by decide) rfl ?_
  refine j_aload_n x dL_law_1795 rfl ?_
  refine j2_callVi x hb dL_law_1796 m_X6_commands (cx_commands_0 (d := 0) hb (by rw [m_nocmd (by omega)]; decide +kernel)) wmL_229 jc_10 rfl rfl rfl (Nat.le_of_ble_eq_true rfl) (j_fit_room (by decide) (by decide) (by decide)) rfl ?_
  refine j_istore x dL_law_1799 (by decide) rfl ?_
  refine j_aload_n x dL_law_1801 rfl ?_
  refine j2_callVi x hb dL_law_1802 m_X6_thrown (cx_thrown (d := 0) hb) wmL_145 jc_10 rfl rfl rfl (Nat.le_of_ble_eq_true rfl) (j_fit_room (by decide) (by decide) (by decide)) rfl ?_
  refine j_iload x dL_law_1805 rfl ?_
  refine j_icmp_eq (tgt := 1812) x dL_law_1807 (by decide) (fun hc => ?_) (fun hc => absurd (rfl) hc)
  refine j_iload x dL_law_1812 rfl ?_
  refine j_if_ne (tgt := 1829) x dL_law_1814 (by decide) (fun hc => ?_) (fun hc => absurd hc (by decide))
  refine j_goto (tgt := 2301) x dL_law_1829 (by decide) ?_
  exact law_end X (by decide) (by decide)
theorem law_case_27 (X : LX p l s m meth c D tyc sb 4 xs) : LJ p l e s m below meth c D tyc sb ad0 1832 [some (.retAddr sb), some (.ref 0), some (.ref 94), some (.ref 102), some (.ref 103), some (.int 0), none, none, none] [] (HH b0 Y0 M0) 104 7864 := by
  obtain ⟨x, hr, hX, hb1, hb2⟩ := id X
  have hb : 104 ≤ b0.2.1 := Nat.le_refl 104
  refine j_aload_n x dL_law_1832 rfl ?_
  refine j2_callVi x hb dL_law_1833 m_X5_faultPosition (c_faultPosition (d := 0) hb) wmL_230 jc_9 rfl rfl rfl (Nat.le_of_ble_eq_true rfl) (j_fit_room (by decide) (by decide) (by decide)) rfl ?_
  refine j_aload_n x dL_law_1836 rfl ?_
  refine j2_callVi x hb dL_law_1837 m_X6_faultPosition (cx_faultPosition (d := 0) hb) wmL_233 jc_10 rfl rfl rfl (Nat.le_of_ble_eq_true rfl) (j_fit_room (by decide) (by decide) (by decide)) rfl ?_
  refine j_icmp_eq (tgt := 2301) x dL_law_1840 (by decide) (fun hc => ?_) (fun hc => absurd (by decide +kernel) hc)
  exact law_end X (by decide) (by decide)
theorem law_case_28 (X : LX p l s m meth c D tyc sb 4 xs) : LJ p l e s m below meth c D tyc sb ad0 1845 [some (.retAddr sb), some (.ref 0), some (.ref 94), some (.ref 102), some (.ref 103), some (.int 0), none, none, none] [] (HH b0 Y0 M0) 104 7864 := by
  obtain ⟨x, hr, hX, hb1, hb2⟩ := id X
  have hb : 104 ≤ b0.2.1 := Nat.le_refl 104
  by_cases hx : ¬ xs 1 < 0 ∧ ¬ 2 < xs 1
  · refine j_aload_n x dL_law_1845 rfl ?_
    refine j_aload_nR x dL_law_1846 rfl ?_
    refine j_iload x dL_law_1847 rfl ?_
    refine j_iconst (v := 1) x dL_law_1849 (by decide) ?_
    refine j_iadd x dL_law_1850 ?_
    refine j_sld (j := 1) x hX hb1 hb2 dL_law_1851 (vp_c (by decide)) (by decide) ?_
    refine j_aload_n x dL_law_1852 rfl ?_
    refine j2_callH x dL_law_1853 m_L_reason (H_reason_t2 hb (c_reason_no (d := 0) hb (fun q => q.elim hx.1 fun q => q (Int32.not_lt.mp hx.2)) (by decide +kernel))) wmL_234 rfl (Nat.le_of_ble_eq_true rfl) (j_fit_room (by decide) (by decide) (by decide)) rfl ?_
    refine j_istore x dL_law_1856 (by decide) rfl ?_
    refine j_aload_n x dL_law_1858 rfl ?_
    refine j_aload_nR x dL_law_1859 rfl ?_
    refine j_iload x dL_law_1860 rfl ?_
    refine j_iconst (v := 1) x dL_law_1862 (by decide) ?_
    refine j_iadd x dL_law_1863 ?_
    refine j_sld (j := 1) x hX hb1 hb2 dL_law_1864 (vp_c (by decide)) (by decide) ?_
    refine j2_callVi x hb dL_law_1865 m_X6_reason (cx_reason_0 (d := 0) hb hx (by decide +kernel)) wmL_236 jc_10 rfl rfl rfl (Nat.le_of_ble_eq_true rfl) (j_fit_room (by decide) (by decide) (by decide)) rfl ?_
    refine j_istore x dL_law_1868 (by decide) rfl ?_
    refine j_aload_n x dL_law_1870 rfl ?_
    refine j2_callVi x hb dL_law_1871 m_X6_thrown (cx_thrown (d := 0) hb) wmL_145 jc_10 rfl rfl rfl (Nat.le_of_ble_eq_true rfl) (j_fit_room (by decide) (by decide) (by decide)) rfl ?_
    refine j_iload x dL_law_1874 rfl ?_
    refine j_icmp_eq (tgt := 1881) x dL_law_1876 (by decide) (fun hc => ?_) (fun hc => absurd (rfl) hc)
    refine j_iload x dL_law_1881 rfl ?_
    refine j_if_ne (tgt := 1898) x dL_law_1883 (by decide) (fun hc => ?_) (fun hc => absurd hc (by decide))
    refine j_goto (tgt := 2301) x dL_law_1898 (by decide) ?_
    exact law_end X (by decide) (by decide)
  · refine j_aload_n x dL_law_1845 rfl ?_
    refine j_aload_nR x dL_law_1846 rfl ?_
    refine j_iload x dL_law_1847 rfl ?_
    refine j_iconst (v := 1) x dL_law_1849 (by decide) ?_
    refine j_iadd x dL_law_1850 ?_
    refine j_sld (j := 1) x hX hb1 hb2 dL_law_1851 (vp_c (by decide)) (by decide) ?_
    refine j_aload_n x dL_law_1852 rfl ?_
    refine j2_callH x dL_law_1853 m_L_reason (H_reason_t1 hb (c_reason_bad (d := 0) hb (by by_cases h1 : xs 1 < 0; exact Or.inl h1; exact Or.inr fun q => hx ⟨h1, Int32.not_lt.mpr q⟩))) wmL_234 rfl (Nat.le_of_ble_eq_true rfl) (j_fit_room (by decide) (by decide) (by decide)) rfl ?_
    refine j_istore x dL_law_1856 (by decide) rfl ?_
    refine j_aload_n x dL_law_1858 rfl ?_
    refine j_aload_nR x dL_law_1859 rfl ?_
    refine j_iload x dL_law_1860 rfl ?_
    refine j_iconst (v := 1) x dL_law_1862 (by decide) ?_
    refine j_iadd x dL_law_1863 ?_
    refine j_sld (j := 1) x hX hb1 hb2 dL_law_1864 (vp_c (by decide)) (by decide) ?_
    refine j2_callVi x hb dL_law_1865 m_X6_reason (cx_reason_bad (d := 0) hb hx) wmL_236 jc_10 rfl rfl rfl (Nat.le_of_ble_eq_true rfl) (j_fit_room (by decide) (by decide) (by decide)) rfl ?_
    refine j_istore x dL_law_1868 (by decide) rfl ?_
    refine j_aload_n x dL_law_1870 rfl ?_
    refine j2_callVi x hb dL_law_1871 m_X6_thrown (cx_thrown (d := 0) hb) wmL_145 jc_10 rfl rfl rfl (Nat.le_of_ble_eq_true rfl) (j_fit_room (by decide) (by decide) (by decide)) rfl ?_
    refine j_iload x dL_law_1874 rfl ?_
    refine j_icmp_eq (tgt := 1881) x dL_law_1876 (by decide) (fun hc => ?_) (fun hc => absurd (rfl) hc)
    refine j_iload x dL_law_1881 rfl ?_
    refine j_if_ne (tgt := 1898) x dL_law_1883 (by decide) (fun hc => ?_) (fun hc => absurd hc (by decide))
    refine j_goto (tgt := 2301) x dL_law_1898 (by decide) ?_
    exact law_end X (by decide) (by decide)
theorem law_case_30 (X : LX p l s m meth c D tyc sb 4 xs) : LJ p l e s m below meth c D tyc sb ad0 1957 [some (.retAddr sb), some (.ref 0), some (.ref 94), some (.ref 102), some (.ref 103), some (.int 0), none, none, none] [] (HH b0 Y0 M0) 104 7864 := by
  obtain ⟨x, hr, hX, hb1, hb2⟩ := id X
  have hb : 104 ≤ b0.2.1 := Nat.le_refl 104
  refine j_aload_n x dL_law_1957 rfl ?_
  refine j_aload_nR x dL_law_1958 rfl ?_
  refine j_iload x dL_law_1959 rfl ?_
  refine j_iconst (v := 1) x dL_law_1961 (by decide) ?_
  refine j_iadd x dL_law_1962 ?_
  refine j_sld (j := 1) x hX hb1 hb2 dL_law_1963 (vp_c (by decide)) (by decide) ?_
  refine j_aload_n x dL_law_1964 rfl ?_
  refine j2_callH x dL_law_1965 m_L_character (H_character_t1 hb (c_character_0 (d := 0) hb (by decide +kernel))) wmL_240 rfl (Nat.le_of_ble_eq_true rfl) (j_fit_room (by decide) (by decide) (by decide)) rfl ?_
  refine j_istore x dL_law_1968 (by decide) rfl ?_
  refine j_aload_n x dL_law_1970 rfl ?_
  refine j_aload_nR x dL_law_1971 rfl ?_
  refine j_iload x dL_law_1972 rfl ?_
  refine j_iconst (v := 1) x dL_law_1974 (by decide) ?_
  refine j_iadd x dL_law_1975 ?_
  refine j_sld (j := 1) x hX hb1 hb2 dL_law_1976 (vp_c (by decide)) (by decide) ?_
  refine j2_callVi x hb dL_law_1977 m_X6_character (cx_character_0 (d := 0) hb (by decide +kernel)) wmL_242 jc_10 rfl rfl rfl (Nat.le_of_ble_eq_true rfl) (j_fit_room (by decide) (by decide) (by decide)) rfl ?_
  refine j_istore x dL_law_1980 (by decide) rfl ?_
  refine j_aload_n x dL_law_1982 rfl ?_
  refine j2_callVi x hb dL_law_1983 m_X6_thrown (cx_thrown (d := 0) hb) wmL_145 jc_10 rfl rfl rfl (Nat.le_of_ble_eq_true rfl) (j_fit_room (by decide) (by decide) (by decide)) rfl ?_
  refine j_iload x dL_law_1986 rfl ?_
  refine j_icmp_eq (tgt := 1993) x dL_law_1988 (by decide) (fun hc => ?_) (fun hc => absurd (rfl) hc)
  refine j_iload x dL_law_1993 rfl ?_
  refine j_if_ne (tgt := 2010) x dL_law_1995 (by decide) (fun hc => ?_) (fun hc => absurd hc (by decide))
  refine j_goto (tgt := 2301) x dL_law_2010 (by decide) ?_
  exact law_end X (by decide) (by decide)
theorem law_case_31 (X : LX p l s m meth c D tyc sb 4 xs) : LJ p l e s m below meth c D tyc sb ad0 2013 [some (.retAddr sb), some (.ref 0), some (.ref 94), some (.ref 102), some (.ref 103), some (.int 0), none, none, none] [] (HH b0 Y0 M0) 104 7864 := by
  obtain ⟨x, hr, hX, hb1, hb2⟩ := id X
  have hb : 104 ≤ b0.2.1 := Nat.le_refl 104
  refine j_aload_n x dL_law_2013 rfl ?_
  refine j_aload x dL_law_2014 rfl ?_
  refine j2_callH x dL_law_2016 m_L_meanGoals (H_meanGoals_t1 hb (c_meanGoals_0 (d := 0) hb (by decide +kernel))) wmL_243 rfl (Nat.le_of_ble_eq_true rfl) (j_fit_room (by decide) (by decide) (by decide)) rfl ?_
  refine j_istore x dL_law_2019 (by decide) rfl ?_
  refine j_aload_n x dL_law_2021 rfl ?_
  refine j2_callVw x hb dL_law_2022 m_X6_meanGoals (cx_meanGoals_0 (d := 0) hb (by rw [m_clear (by omega)]; decide +kernel)) wmL_246 jc_10 rfl rfl rfl (Nat.le_of_ble_eq_true rfl) (j_fit_room (by decide) (by decide) (by decide)) rfl ?_
  refine j_fstore x dL_law_2025 (by decide) rfl ?_
  refine j_aload_n x dL_law_2027 rfl ?_
  refine j2_callVi x hb dL_law_2028 m_X6_thrown (cx_thrown (d := 0) hb) wmL_145 jc_10 rfl rfl rfl (Nat.le_of_ble_eq_true rfl) (j_fit_room (by decide) (by decide) (by decide)) rfl ?_
  refine j_iload x dL_law_2031 rfl ?_
  refine j_icmp_eq (tgt := 2038) x dL_law_2033 (by decide) (fun hc => ?_) (fun hc => absurd (rfl) hc)
  refine j_iload x dL_law_2038 rfl ?_
  refine j_if_ne (tgt := 2076) x dL_law_2040 (by decide) (fun hc => ?_) (fun hc => absurd hc (by decide))
  refine j_goto (tgt := 2301) x dL_law_2076 (by decide) ?_
  exact law_end X (by decide) (by decide)
theorem law_case_32 (X : LX p l s m meth c D tyc sb 4 xs) : LJ p l e s m below meth c D tyc sb ad0 2079 [some (.retAddr sb), some (.ref 0), some (.ref 94), some (.ref 102), some (.ref 103), some (.int 0), none, none, none] [] (HH b0 Y0 M0) 104 7864 := by
  obtain ⟨x, hr, hX, hb1, hb2⟩ := id X
  have hb : 104 ≤ b0.2.1 := Nat.le_refl 104
  refine j_aload_n x dL_law_2079 rfl ?_
  refine j_aload x dL_law_2080 rfl ?_
  refine j2_callH x dL_law_2082 m_L_homeShare (H_homeShare_t1 hb (c_homeShare_0 (d := 0) hb (by decide +kernel))) wmL_247 rfl (Nat.le_of_ble_eq_true rfl) (j_fit_room (by decide) (by decide) (by decide)) rfl ?_
  refine j_istore x dL_law_2085 (by decide) rfl ?_
  refine j_aload_n x dL_law_2087 rfl ?_
  refine j2_callVw x hb dL_law_2088 m_X6_homeShare (cx_homeShare_0 (d := 0) hb (by rw [m_clear (by omega)]; decide +kernel)) wmL_249 jc_10 rfl rfl rfl (Nat.le_of_ble_eq_true rfl) (j_fit_room (by decide) (by decide) (by decide)) rfl ?_
  refine j_dstore x dL_law_2091 (by decide) rfl ?_
  refine j_aload_n x dL_law_2093 rfl ?_
  refine j2_callVi x hb dL_law_2094 m_X6_thrown (cx_thrown (d := 0) hb) wmL_145 jc_10 rfl rfl rfl (Nat.le_of_ble_eq_true rfl) (j_fit_room (by decide) (by decide) (by decide)) rfl ?_
  refine j_iload x dL_law_2097 rfl ?_
  refine j_icmp_eq (tgt := 2104) x dL_law_2099 (by decide) (fun hc => ?_) (fun hc => absurd (rfl) hc)
  refine j_iload x dL_law_2104 rfl ?_
  refine j_if_ne (tgt := 2141) x dL_law_2106 (by decide) (fun hc => ?_) (fun hc => absurd hc (by decide))
  refine j_goto (tgt := 2301) x dL_law_2141 (by decide) ?_
  exact law_end X (by decide) (by decide)
theorem law_case_33 (X : LX p l s m meth c D tyc sb 4 xs) : LJ p l e s m below meth c D tyc sb ad0 2144 [some (.retAddr sb), some (.ref 0), some (.ref 94), some (.ref 102), some (.ref 103), some (.int 0), none, none, none] [] (HH b0 Y0 M0) 104 7864 := by
  obtain ⟨x, hr, hX, hb1, hb2⟩ := id X
  have hb : 104 ≤ b0.2.1 := Nat.le_refl 104
  by_cases hx : (xs 1).toInt < 0 ∨ 14 < (xs 1).toInt
  · refine j_aload_n x dL_law_2144 rfl ?_
    refine j_aload_nR x dL_law_2145 rfl ?_
    refine j_iload x dL_law_2146 rfl ?_
    refine j_iconst (v := 1) x dL_law_2148 (by decide) ?_
    refine j_iadd x dL_law_2149 ?_
    refine j_sld (j := 1) x hX hb1 hb2 dL_law_2150 (vp_c (by decide)) (by decide) ?_
    refine j_aload_n x dL_law_2151 rfl ?_
    refine j2_callH x dL_law_2152 m_L_account (H_account_t1 hb (c_account_bad (d := 0) hb (i_out hx))) wmL_250 rfl (Nat.le_of_ble_eq_true rfl) (j_fit_room (by decide) (by decide) (by decide)) rfl ?_
    refine j_istore x dL_law_2155 (by decide) rfl ?_
    refine j_aload_n x dL_law_2157 rfl ?_
    refine j_aload_nR x dL_law_2158 rfl ?_
    refine j_iload x dL_law_2159 rfl ?_
    refine j_iconst (v := 1) x dL_law_2161 (by decide) ?_
    refine j_iadd x dL_law_2162 ?_
    refine j_sld (j := 1) x hX hb1 hb2 dL_law_2163 (vp_c (by decide)) (by decide) ?_
    refine j2_callVi x hb dL_law_2164 m_X6_account (cx_account_bad (d := 0) hb hx) wmL_252 jc_10 rfl rfl rfl (Nat.le_of_ble_eq_true rfl) (j_fit_room (by decide) (by decide) (by decide)) rfl ?_
    refine j_istore x dL_law_2167 (by decide) rfl ?_
    refine j_aload_n x dL_law_2169 rfl ?_
    refine j2_callVi x hb dL_law_2170 m_X6_thrown (cx_thrown (d := 0) hb) wmL_145 jc_10 rfl rfl rfl (Nat.le_of_ble_eq_true rfl) (j_fit_room (by decide) (by decide) (by decide)) rfl ?_
    refine j_iload x dL_law_2173 rfl ?_
    refine j_icmp_eq (tgt := 2180) x dL_law_2175 (by decide) (fun hc => ?_) (fun hc => absurd (rfl) hc)
    refine j_iload x dL_law_2180 rfl ?_
    refine j_if_ne (tgt := 2197) x dL_law_2182 (by decide) (fun hc => ?_) (fun hc => absurd hc (by decide))
    refine j_goto (tgt := 2301) x dL_law_2197 (by decide) ?_
    exact law_end X (by decide) (by decide)
  · rcases (show (xs 1).toInt = 0 ∨ (xs 1).toInt = 1 ∨ (xs 1).toInt = 2 ∨ (xs 1).toInt = 3 ∨ (xs 1).toInt = 4 ∨ (xs 1).toInt = 5 ∨ (xs 1).toInt = 6 ∨ (xs 1).toInt = 7 ∨ (xs 1).toInt = 8 ∨ (xs 1).toInt = 9 ∨ (xs 1).toInt = 10 ∨ (xs 1).toInt = 11 ∨ (xs 1).toInt = 12 ∨ (xs 1).toInt = 13 ∨ (xs 1).toInt = 14 by omega) with h1 | h1 | h1 | h1 | h1 | h1 | h1 | h1 | h1 | h1 | h1 | h1 | h1 | h1 | h1
    · have h2 : xs 1 = 0 := Int32.toInt_inj.mp (h1.trans (by decide))
      refine j_aload_n x dL_law_2144 rfl ?_
      refine j_aload_nR x dL_law_2145 rfl ?_
      refine j_iload x dL_law_2146 rfl ?_
      refine j_iconst (v := 1) x dL_law_2148 (by decide) ?_
      refine j_iadd x dL_law_2149 ?_
      refine j_sld (j := 1) x hX hb1 hb2 dL_law_2150 (vp_c (by decide)) (by decide) ?_
      rw [h2]
      refine j_aload_n x dL_law_2151 rfl ?_
      refine j2_callH x dL_law_2152 m_L_account (H_account_r hb (c_account_0 (d := 0) hb (by decide +kernel) (by decide +kernel))) wmL_250 rfl (Nat.le_of_ble_eq_true rfl) (j_fit_room (by decide) (by decide) (by decide)) rfl ?_
      refine j_istore x dL_law_2155 (by decide) rfl ?_
      refine j_aload_n x dL_law_2157 rfl ?_
      refine j_aload_nR x dL_law_2158 rfl ?_
      refine j_iload x dL_law_2159 rfl ?_
      refine j_iconst (v := 1) x dL_law_2161 (by decide) ?_
      refine j_iadd x dL_law_2162 ?_
      refine j_sld (j := 1) x hX hb1 hb2 dL_law_2163 (vp_c (by decide)) (by decide) ?_
      rw [h2]
      refine j2_callVi x hb dL_law_2164 m_X6_account (cx_account_0 (d := 0) hb (by rw [m_clear (by omega)]; decide +kernel) (by rw [m_clear (by omega)]; decide +kernel) (by rw [m_clear (by omega)]; decide +kernel)) wmL_252 jc_10 rfl rfl rfl (Nat.le_of_ble_eq_true rfl) (j_fit_room (by decide) (by decide) (by decide)) rfl ?_
      refine j_istore x dL_law_2167 (by decide) rfl ?_
      refine j_aload_n x dL_law_2169 rfl ?_
      refine j2_callVi x hb dL_law_2170 m_X6_thrown (cx_thrown (d := 0) hb) wmL_145 jc_10 rfl rfl rfl (Nat.le_of_ble_eq_true rfl) (j_fit_room (by decide) (by decide) (by decide)) rfl ?_
      refine j_iload x dL_law_2173 rfl ?_
      refine j_icmp_eq (tgt := 2180) x dL_law_2175 (by decide) (fun hc => ?_) (fun hc => absurd (rfl) hc)
      refine j_iload x dL_law_2180 rfl ?_
      refine j_if_ne (tgt := 2197) x dL_law_2182 (by decide) (fun hc => absurd rfl hc) (fun hc => ?_)
      refine j_aload_n x dL_law_2185 rfl ?_
      refine j_iconst (v := 0) x dL_law_2186 (by decide) ?_
      refine j2_lald x hb dL_law_2187 ?_
      refine j_iload x dL_law_2188 rfl ?_
      refine j_i2l x dL_law_2190 ?_
      refine j_lcmp x dL_law_2191 ?_
      refine j_if_eq (tgt := 2197) x dL_law_2192 (by decide) (fun hc => ?_) (fun hc => absurd (lcmp_eq (by first | rfl | (rw [m_clear (by omega)]; decide +kernel) | decide +kernel)) hc)
      refine j_goto (tgt := 2301) x dL_law_2197 (by decide) ?_
      exact law_end X (by decide) (by decide)
    · have h2 : xs 1 = 1 := Int32.toInt_inj.mp (h1.trans (by decide))
      refine j_aload_n x dL_law_2144 rfl ?_
      refine j_aload_nR x dL_law_2145 rfl ?_
      refine j_iload x dL_law_2146 rfl ?_
      refine j_iconst (v := 1) x dL_law_2148 (by decide) ?_
      refine j_iadd x dL_law_2149 ?_
      refine j_sld (j := 1) x hX hb1 hb2 dL_law_2150 (vp_c (by decide)) (by decide) ?_
      rw [h2]
      refine j_aload_n x dL_law_2151 rfl ?_
      refine j2_callH x dL_law_2152 m_L_account (H_account_r hb (c_account_1 (d := 0) hb (by decide +kernel) (by decide +kernel))) wmL_250 rfl (Nat.le_of_ble_eq_true rfl) (j_fit_room (by decide) (by decide) (by decide)) rfl ?_
      refine j_istore x dL_law_2155 (by decide) rfl ?_
      refine j_aload_n x dL_law_2157 rfl ?_
      refine j_aload_nR x dL_law_2158 rfl ?_
      refine j_iload x dL_law_2159 rfl ?_
      refine j_iconst (v := 1) x dL_law_2161 (by decide) ?_
      refine j_iadd x dL_law_2162 ?_
      refine j_sld (j := 1) x hX hb1 hb2 dL_law_2163 (vp_c (by decide)) (by decide) ?_
      rw [h2]
      refine j2_callVi x hb dL_law_2164 m_X6_account (cx_account_1 (d := 0) hb (by rw [m_clear (by omega)]; decide +kernel) (by rw [m_clear (by omega)]; decide +kernel) (by rw [m_clear (by omega)]; decide +kernel)) wmL_252 jc_10 rfl rfl rfl (Nat.le_of_ble_eq_true rfl) (j_fit_room (by decide) (by decide) (by decide)) rfl ?_
      refine j_istore x dL_law_2167 (by decide) rfl ?_
      refine j_aload_n x dL_law_2169 rfl ?_
      refine j2_callVi x hb dL_law_2170 m_X6_thrown (cx_thrown (d := 0) hb) wmL_145 jc_10 rfl rfl rfl (Nat.le_of_ble_eq_true rfl) (j_fit_room (by decide) (by decide) (by decide)) rfl ?_
      refine j_iload x dL_law_2173 rfl ?_
      refine j_icmp_eq (tgt := 2180) x dL_law_2175 (by decide) (fun hc => ?_) (fun hc => absurd (rfl) hc)
      refine j_iload x dL_law_2180 rfl ?_
      refine j_if_ne (tgt := 2197) x dL_law_2182 (by decide) (fun hc => absurd rfl hc) (fun hc => ?_)
      refine j_aload_n x dL_law_2185 rfl ?_
      refine j_iconst (v := 0) x dL_law_2186 (by decide) ?_
      refine j2_lald x hb dL_law_2187 ?_
      refine j_iload x dL_law_2188 rfl ?_
      refine j_i2l x dL_law_2190 ?_
      refine j_lcmp x dL_law_2191 ?_
      refine j_if_eq (tgt := 2197) x dL_law_2192 (by decide) (fun hc => ?_) (fun hc => absurd (lcmp_eq (by first | rfl | (rw [m_clear (by omega)]; decide +kernel) | decide +kernel)) hc)
      refine j_goto (tgt := 2301) x dL_law_2197 (by decide) ?_
      exact law_end X (by decide) (by decide)
    · have h2 : xs 1 = 2 := Int32.toInt_inj.mp (h1.trans (by decide))
      refine j_aload_n x dL_law_2144 rfl ?_
      refine j_aload_nR x dL_law_2145 rfl ?_
      refine j_iload x dL_law_2146 rfl ?_
      refine j_iconst (v := 1) x dL_law_2148 (by decide) ?_
      refine j_iadd x dL_law_2149 ?_
      refine j_sld (j := 1) x hX hb1 hb2 dL_law_2150 (vp_c (by decide)) (by decide) ?_
      rw [h2]
      refine j_aload_n x dL_law_2151 rfl ?_
      refine j2_callH x dL_law_2152 m_L_account (H_account_r hb (c_account_2 (d := 0) hb (by decide +kernel) (by decide +kernel))) wmL_250 rfl (Nat.le_of_ble_eq_true rfl) (j_fit_room (by decide) (by decide) (by decide)) rfl ?_
      refine j_istore x dL_law_2155 (by decide) rfl ?_
      refine j_aload_n x dL_law_2157 rfl ?_
      refine j_aload_nR x dL_law_2158 rfl ?_
      refine j_iload x dL_law_2159 rfl ?_
      refine j_iconst (v := 1) x dL_law_2161 (by decide) ?_
      refine j_iadd x dL_law_2162 ?_
      refine j_sld (j := 1) x hX hb1 hb2 dL_law_2163 (vp_c (by decide)) (by decide) ?_
      rw [h2]
      refine j2_callVi x hb dL_law_2164 m_X6_account (cx_account_2 (d := 0) hb (by rw [m_clear (by omega)]; decide +kernel) (by rw [m_clear (by omega)]; decide +kernel) (by rw [m_clear (by omega)]; decide +kernel)) wmL_252 jc_10 rfl rfl rfl (Nat.le_of_ble_eq_true rfl) (j_fit_room (by decide) (by decide) (by decide)) rfl ?_
      refine j_istore x dL_law_2167 (by decide) rfl ?_
      refine j_aload_n x dL_law_2169 rfl ?_
      refine j2_callVi x hb dL_law_2170 m_X6_thrown (cx_thrown (d := 0) hb) wmL_145 jc_10 rfl rfl rfl (Nat.le_of_ble_eq_true rfl) (j_fit_room (by decide) (by decide) (by decide)) rfl ?_
      refine j_iload x dL_law_2173 rfl ?_
      refine j_icmp_eq (tgt := 2180) x dL_law_2175 (by decide) (fun hc => ?_) (fun hc => absurd (rfl) hc)
      refine j_iload x dL_law_2180 rfl ?_
      refine j_if_ne (tgt := 2197) x dL_law_2182 (by decide) (fun hc => absurd rfl hc) (fun hc => ?_)
      refine j_aload_n x dL_law_2185 rfl ?_
      refine j_iconst (v := 0) x dL_law_2186 (by decide) ?_
      refine j2_lald x hb dL_law_2187 ?_
      refine j_iload x dL_law_2188 rfl ?_
      refine j_i2l x dL_law_2190 ?_
      refine j_lcmp x dL_law_2191 ?_
      refine j_if_eq (tgt := 2197) x dL_law_2192 (by decide) (fun hc => ?_) (fun hc => absurd (lcmp_eq (by first | rfl | (rw [m_clear (by omega)]; decide +kernel) | decide +kernel)) hc)
      refine j_goto (tgt := 2301) x dL_law_2197 (by decide) ?_
      exact law_end X (by decide) (by decide)
    · have h2 : xs 1 = 3 := Int32.toInt_inj.mp (h1.trans (by decide))
      refine j_aload_n x dL_law_2144 rfl ?_
      refine j_aload_nR x dL_law_2145 rfl ?_
      refine j_iload x dL_law_2146 rfl ?_
      refine j_iconst (v := 1) x dL_law_2148 (by decide) ?_
      refine j_iadd x dL_law_2149 ?_
      refine j_sld (j := 1) x hX hb1 hb2 dL_law_2150 (vp_c (by decide)) (by decide) ?_
      rw [h2]
      refine j_aload_n x dL_law_2151 rfl ?_
      refine j2_callH x dL_law_2152 m_L_account (H_account_r hb (c_account_3 (d := 0) hb (by decide +kernel) (by decide +kernel))) wmL_250 rfl (Nat.le_of_ble_eq_true rfl) (j_fit_room (by decide) (by decide) (by decide)) rfl ?_
      refine j_istore x dL_law_2155 (by decide) rfl ?_
      refine j_aload_n x dL_law_2157 rfl ?_
      refine j_aload_nR x dL_law_2158 rfl ?_
      refine j_iload x dL_law_2159 rfl ?_
      refine j_iconst (v := 1) x dL_law_2161 (by decide) ?_
      refine j_iadd x dL_law_2162 ?_
      refine j_sld (j := 1) x hX hb1 hb2 dL_law_2163 (vp_c (by decide)) (by decide) ?_
      rw [h2]
      refine j2_callVi x hb dL_law_2164 m_X6_account (cx_account_3 (d := 0) hb (by rw [m_clear (by omega)]; decide +kernel) (by rw [m_clear (by omega)]; decide +kernel) (by rw [m_clear (by omega)]; decide +kernel)) wmL_252 jc_10 rfl rfl rfl (Nat.le_of_ble_eq_true rfl) (j_fit_room (by decide) (by decide) (by decide)) rfl ?_
      refine j_istore x dL_law_2167 (by decide) rfl ?_
      refine j_aload_n x dL_law_2169 rfl ?_
      refine j2_callVi x hb dL_law_2170 m_X6_thrown (cx_thrown (d := 0) hb) wmL_145 jc_10 rfl rfl rfl (Nat.le_of_ble_eq_true rfl) (j_fit_room (by decide) (by decide) (by decide)) rfl ?_
      refine j_iload x dL_law_2173 rfl ?_
      refine j_icmp_eq (tgt := 2180) x dL_law_2175 (by decide) (fun hc => ?_) (fun hc => absurd (rfl) hc)
      refine j_iload x dL_law_2180 rfl ?_
      refine j_if_ne (tgt := 2197) x dL_law_2182 (by decide) (fun hc => absurd rfl hc) (fun hc => ?_)
      refine j_aload_n x dL_law_2185 rfl ?_
      refine j_iconst (v := 0) x dL_law_2186 (by decide) ?_
      refine j2_lald x hb dL_law_2187 ?_
      refine j_iload x dL_law_2188 rfl ?_
      refine j_i2l x dL_law_2190 ?_
      refine j_lcmp x dL_law_2191 ?_
      refine j_if_eq (tgt := 2197) x dL_law_2192 (by decide) (fun hc => ?_) (fun hc => absurd (lcmp_eq (by first | rfl | (rw [m_clear (by omega)]; decide +kernel) | decide +kernel)) hc)
      refine j_goto (tgt := 2301) x dL_law_2197 (by decide) ?_
      exact law_end X (by decide) (by decide)
    · have h2 : xs 1 = 4 := Int32.toInt_inj.mp (h1.trans (by decide))
      refine j_aload_n x dL_law_2144 rfl ?_
      refine j_aload_nR x dL_law_2145 rfl ?_
      refine j_iload x dL_law_2146 rfl ?_
      refine j_iconst (v := 1) x dL_law_2148 (by decide) ?_
      refine j_iadd x dL_law_2149 ?_
      refine j_sld (j := 1) x hX hb1 hb2 dL_law_2150 (vp_c (by decide)) (by decide) ?_
      rw [h2]
      refine j_aload_n x dL_law_2151 rfl ?_
      refine j2_callH x dL_law_2152 m_L_account (H_account_r hb (c_account_4 (d := 0) hb (by decide +kernel) (by decide +kernel))) wmL_250 rfl (Nat.le_of_ble_eq_true rfl) (j_fit_room (by decide) (by decide) (by decide)) rfl ?_
      refine j_istore x dL_law_2155 (by decide) rfl ?_
      refine j_aload_n x dL_law_2157 rfl ?_
      refine j_aload_nR x dL_law_2158 rfl ?_
      refine j_iload x dL_law_2159 rfl ?_
      refine j_iconst (v := 1) x dL_law_2161 (by decide) ?_
      refine j_iadd x dL_law_2162 ?_
      refine j_sld (j := 1) x hX hb1 hb2 dL_law_2163 (vp_c (by decide)) (by decide) ?_
      rw [h2]
      refine j2_callVi x hb dL_law_2164 m_X6_account (cx_account_4 (d := 0) hb (by rw [m_clear (by omega)]; decide +kernel) (by rw [m_clear (by omega)]; decide +kernel) (by rw [m_clear (by omega)]; decide +kernel)) wmL_252 jc_10 rfl rfl rfl (Nat.le_of_ble_eq_true rfl) (j_fit_room (by decide) (by decide) (by decide)) rfl ?_
      refine j_istore x dL_law_2167 (by decide) rfl ?_
      refine j_aload_n x dL_law_2169 rfl ?_
      refine j2_callVi x hb dL_law_2170 m_X6_thrown (cx_thrown (d := 0) hb) wmL_145 jc_10 rfl rfl rfl (Nat.le_of_ble_eq_true rfl) (j_fit_room (by decide) (by decide) (by decide)) rfl ?_
      refine j_iload x dL_law_2173 rfl ?_
      refine j_icmp_eq (tgt := 2180) x dL_law_2175 (by decide) (fun hc => ?_) (fun hc => absurd (rfl) hc)
      refine j_iload x dL_law_2180 rfl ?_
      refine j_if_ne (tgt := 2197) x dL_law_2182 (by decide) (fun hc => absurd rfl hc) (fun hc => ?_)
      refine j_aload_n x dL_law_2185 rfl ?_
      refine j_iconst (v := 0) x dL_law_2186 (by decide) ?_
      refine j2_lald x hb dL_law_2187 ?_
      refine j_iload x dL_law_2188 rfl ?_
      refine j_i2l x dL_law_2190 ?_
      refine j_lcmp x dL_law_2191 ?_
      refine j_if_eq (tgt := 2197) x dL_law_2192 (by decide) (fun hc => ?_) (fun hc => absurd (lcmp_eq (by first | rfl | (rw [m_clear (by omega)]; decide +kernel) | decide +kernel)) hc)
      refine j_goto (tgt := 2301) x dL_law_2197 (by decide) ?_
      exact law_end X (by decide) (by decide)
    · have h2 : xs 1 = 5 := Int32.toInt_inj.mp (h1.trans (by decide))
      refine j_aload_n x dL_law_2144 rfl ?_
      refine j_aload_nR x dL_law_2145 rfl ?_
      refine j_iload x dL_law_2146 rfl ?_
      refine j_iconst (v := 1) x dL_law_2148 (by decide) ?_
      refine j_iadd x dL_law_2149 ?_
      refine j_sld (j := 1) x hX hb1 hb2 dL_law_2150 (vp_c (by decide)) (by decide) ?_
      rw [h2]
      refine j_aload_n x dL_law_2151 rfl ?_
      refine j2_callH x dL_law_2152 m_L_account (H_account_r hb (c_account_5 (d := 0) hb (by decide +kernel) (by decide +kernel))) wmL_250 rfl (Nat.le_of_ble_eq_true rfl) (j_fit_room (by decide) (by decide) (by decide)) rfl ?_
      refine j_istore x dL_law_2155 (by decide) rfl ?_
      refine j_aload_n x dL_law_2157 rfl ?_
      refine j_aload_nR x dL_law_2158 rfl ?_
      refine j_iload x dL_law_2159 rfl ?_
      refine j_iconst (v := 1) x dL_law_2161 (by decide) ?_
      refine j_iadd x dL_law_2162 ?_
      refine j_sld (j := 1) x hX hb1 hb2 dL_law_2163 (vp_c (by decide)) (by decide) ?_
      rw [h2]
      refine j2_callVi x hb dL_law_2164 m_X6_account (cx_account_5 (d := 0) hb (by rw [m_clear (by omega)]; decide +kernel) (by rw [m_clear (by omega)]; decide +kernel) (by rw [m_clear (by omega)]; decide +kernel)) wmL_252 jc_10 rfl rfl rfl (Nat.le_of_ble_eq_true rfl) (j_fit_room (by decide) (by decide) (by decide)) rfl ?_
      refine j_istore x dL_law_2167 (by decide) rfl ?_
      refine j_aload_n x dL_law_2169 rfl ?_
      refine j2_callVi x hb dL_law_2170 m_X6_thrown (cx_thrown (d := 0) hb) wmL_145 jc_10 rfl rfl rfl (Nat.le_of_ble_eq_true rfl) (j_fit_room (by decide) (by decide) (by decide)) rfl ?_
      refine j_iload x dL_law_2173 rfl ?_
      refine j_icmp_eq (tgt := 2180) x dL_law_2175 (by decide) (fun hc => ?_) (fun hc => absurd (rfl) hc)
      refine j_iload x dL_law_2180 rfl ?_
      refine j_if_ne (tgt := 2197) x dL_law_2182 (by decide) (fun hc => absurd rfl hc) (fun hc => ?_)
      refine j_aload_n x dL_law_2185 rfl ?_
      refine j_iconst (v := 0) x dL_law_2186 (by decide) ?_
      refine j2_lald x hb dL_law_2187 ?_
      refine j_iload x dL_law_2188 rfl ?_
      refine j_i2l x dL_law_2190 ?_
      refine j_lcmp x dL_law_2191 ?_
      refine j_if_eq (tgt := 2197) x dL_law_2192 (by decide) (fun hc => ?_) (fun hc => absurd (lcmp_eq (by first | rfl | (rw [m_clear (by omega)]; decide +kernel) | decide +kernel)) hc)
      refine j_goto (tgt := 2301) x dL_law_2197 (by decide) ?_
      exact law_end X (by decide) (by decide)
    · have h2 : xs 1 = 6 := Int32.toInt_inj.mp (h1.trans (by decide))
      refine j_aload_n x dL_law_2144 rfl ?_
      refine j_aload_nR x dL_law_2145 rfl ?_
      refine j_iload x dL_law_2146 rfl ?_
      refine j_iconst (v := 1) x dL_law_2148 (by decide) ?_
      refine j_iadd x dL_law_2149 ?_
      refine j_sld (j := 1) x hX hb1 hb2 dL_law_2150 (vp_c (by decide)) (by decide) ?_
      rw [h2]
      refine j_aload_n x dL_law_2151 rfl ?_
      refine j2_callH x dL_law_2152 m_L_account (H_account_r hb (c_account_6 (d := 0) hb (by decide +kernel) (by decide +kernel))) wmL_250 rfl (Nat.le_of_ble_eq_true rfl) (j_fit_room (by decide) (by decide) (by decide)) rfl ?_
      refine j_istore x dL_law_2155 (by decide) rfl ?_
      refine j_aload_n x dL_law_2157 rfl ?_
      refine j_aload_nR x dL_law_2158 rfl ?_
      refine j_iload x dL_law_2159 rfl ?_
      refine j_iconst (v := 1) x dL_law_2161 (by decide) ?_
      refine j_iadd x dL_law_2162 ?_
      refine j_sld (j := 1) x hX hb1 hb2 dL_law_2163 (vp_c (by decide)) (by decide) ?_
      rw [h2]
      refine j2_callVi x hb dL_law_2164 m_X6_account (cx_account_6 (d := 0) hb (by rw [m_clear (by omega)]; decide +kernel) (by rw [m_clear (by omega)]; decide +kernel) (by rw [m_clear (by omega)]; decide +kernel)) wmL_252 jc_10 rfl rfl rfl (Nat.le_of_ble_eq_true rfl) (j_fit_room (by decide) (by decide) (by decide)) rfl ?_
      refine j_istore x dL_law_2167 (by decide) rfl ?_
      refine j_aload_n x dL_law_2169 rfl ?_
      refine j2_callVi x hb dL_law_2170 m_X6_thrown (cx_thrown (d := 0) hb) wmL_145 jc_10 rfl rfl rfl (Nat.le_of_ble_eq_true rfl) (j_fit_room (by decide) (by decide) (by decide)) rfl ?_
      refine j_iload x dL_law_2173 rfl ?_
      refine j_icmp_eq (tgt := 2180) x dL_law_2175 (by decide) (fun hc => ?_) (fun hc => absurd (rfl) hc)
      refine j_iload x dL_law_2180 rfl ?_
      refine j_if_ne (tgt := 2197) x dL_law_2182 (by decide) (fun hc => absurd rfl hc) (fun hc => ?_)
      refine j_aload_n x dL_law_2185 rfl ?_
      refine j_iconst (v := 0) x dL_law_2186 (by decide) ?_
      refine j2_lald x hb dL_law_2187 ?_
      refine j_iload x dL_law_2188 rfl ?_
      refine j_i2l x dL_law_2190 ?_
      refine j_lcmp x dL_law_2191 ?_
      refine j_if_eq (tgt := 2197) x dL_law_2192 (by decide) (fun hc => ?_) (fun hc => absurd (lcmp_eq (by first | rfl | (rw [m_clear (by omega)]; decide +kernel) | decide +kernel)) hc)
      refine j_goto (tgt := 2301) x dL_law_2197 (by decide) ?_
      exact law_end X (by decide) (by decide)
    · have h2 : xs 1 = 7 := Int32.toInt_inj.mp (h1.trans (by decide))
      refine j_aload_n x dL_law_2144 rfl ?_
      refine j_aload_nR x dL_law_2145 rfl ?_
      refine j_iload x dL_law_2146 rfl ?_
      refine j_iconst (v := 1) x dL_law_2148 (by decide) ?_
      refine j_iadd x dL_law_2149 ?_
      refine j_sld (j := 1) x hX hb1 hb2 dL_law_2150 (vp_c (by decide)) (by decide) ?_
      rw [h2]
      refine j_aload_n x dL_law_2151 rfl ?_
      refine j2_callH x dL_law_2152 m_L_account (H_account_r hb (c_account_7 (d := 0) hb (by decide +kernel) (by decide +kernel))) wmL_250 rfl (Nat.le_of_ble_eq_true rfl) (j_fit_room (by decide) (by decide) (by decide)) rfl ?_
      refine j_istore x dL_law_2155 (by decide) rfl ?_
      refine j_aload_n x dL_law_2157 rfl ?_
      refine j_aload_nR x dL_law_2158 rfl ?_
      refine j_iload x dL_law_2159 rfl ?_
      refine j_iconst (v := 1) x dL_law_2161 (by decide) ?_
      refine j_iadd x dL_law_2162 ?_
      refine j_sld (j := 1) x hX hb1 hb2 dL_law_2163 (vp_c (by decide)) (by decide) ?_
      rw [h2]
      refine j2_callVi x hb dL_law_2164 m_X6_account (cx_account_7 (d := 0) hb (by rw [m_clear (by omega)]; decide +kernel) (by rw [m_clear (by omega)]; decide +kernel) (by rw [m_clear (by omega)]; decide +kernel)) wmL_252 jc_10 rfl rfl rfl (Nat.le_of_ble_eq_true rfl) (j_fit_room (by decide) (by decide) (by decide)) rfl ?_
      refine j_istore x dL_law_2167 (by decide) rfl ?_
      refine j_aload_n x dL_law_2169 rfl ?_
      refine j2_callVi x hb dL_law_2170 m_X6_thrown (cx_thrown (d := 0) hb) wmL_145 jc_10 rfl rfl rfl (Nat.le_of_ble_eq_true rfl) (j_fit_room (by decide) (by decide) (by decide)) rfl ?_
      refine j_iload x dL_law_2173 rfl ?_
      refine j_icmp_eq (tgt := 2180) x dL_law_2175 (by decide) (fun hc => ?_) (fun hc => absurd (rfl) hc)
      refine j_iload x dL_law_2180 rfl ?_
      refine j_if_ne (tgt := 2197) x dL_law_2182 (by decide) (fun hc => absurd rfl hc) (fun hc => ?_)
      refine j_aload_n x dL_law_2185 rfl ?_
      refine j_iconst (v := 0) x dL_law_2186 (by decide) ?_
      refine j2_lald x hb dL_law_2187 ?_
      refine j_iload x dL_law_2188 rfl ?_
      refine j_i2l x dL_law_2190 ?_
      refine j_lcmp x dL_law_2191 ?_
      refine j_if_eq (tgt := 2197) x dL_law_2192 (by decide) (fun hc => ?_) (fun hc => absurd (lcmp_eq (by first | rfl | (rw [m_clear (by omega)]; decide +kernel) | decide +kernel)) hc)
      refine j_goto (tgt := 2301) x dL_law_2197 (by decide) ?_
      exact law_end X (by decide) (by decide)
    · have h2 : xs 1 = 8 := Int32.toInt_inj.mp (h1.trans (by decide))
      refine j_aload_n x dL_law_2144 rfl ?_
      refine j_aload_nR x dL_law_2145 rfl ?_
      refine j_iload x dL_law_2146 rfl ?_
      refine j_iconst (v := 1) x dL_law_2148 (by decide) ?_
      refine j_iadd x dL_law_2149 ?_
      refine j_sld (j := 1) x hX hb1 hb2 dL_law_2150 (vp_c (by decide)) (by decide) ?_
      rw [h2]
      refine j_aload_n x dL_law_2151 rfl ?_
      refine j2_callH x dL_law_2152 m_L_account (H_account_r hb (c_account_8 (d := 0) hb (by decide +kernel) (by decide +kernel))) wmL_250 rfl (Nat.le_of_ble_eq_true rfl) (j_fit_room (by decide) (by decide) (by decide)) rfl ?_
      refine j_istore x dL_law_2155 (by decide) rfl ?_
      refine j_aload_n x dL_law_2157 rfl ?_
      refine j_aload_nR x dL_law_2158 rfl ?_
      refine j_iload x dL_law_2159 rfl ?_
      refine j_iconst (v := 1) x dL_law_2161 (by decide) ?_
      refine j_iadd x dL_law_2162 ?_
      refine j_sld (j := 1) x hX hb1 hb2 dL_law_2163 (vp_c (by decide)) (by decide) ?_
      rw [h2]
      refine j2_callVi x hb dL_law_2164 m_X6_account (cx_account_8 (d := 0) hb (by rw [m_clear (by omega)]; decide +kernel) (by rw [m_clear (by omega)]; decide +kernel) (by rw [m_clear (by omega)]; decide +kernel)) wmL_252 jc_10 rfl rfl rfl (Nat.le_of_ble_eq_true rfl) (j_fit_room (by decide) (by decide) (by decide)) rfl ?_
      refine j_istore x dL_law_2167 (by decide) rfl ?_
      refine j_aload_n x dL_law_2169 rfl ?_
      refine j2_callVi x hb dL_law_2170 m_X6_thrown (cx_thrown (d := 0) hb) wmL_145 jc_10 rfl rfl rfl (Nat.le_of_ble_eq_true rfl) (j_fit_room (by decide) (by decide) (by decide)) rfl ?_
      refine j_iload x dL_law_2173 rfl ?_
      refine j_icmp_eq (tgt := 2180) x dL_law_2175 (by decide) (fun hc => ?_) (fun hc => absurd (rfl) hc)
      refine j_iload x dL_law_2180 rfl ?_
      refine j_if_ne (tgt := 2197) x dL_law_2182 (by decide) (fun hc => absurd rfl hc) (fun hc => ?_)
      refine j_aload_n x dL_law_2185 rfl ?_
      refine j_iconst (v := 0) x dL_law_2186 (by decide) ?_
      refine j2_lald x hb dL_law_2187 ?_
      refine j_iload x dL_law_2188 rfl ?_
      refine j_i2l x dL_law_2190 ?_
      refine j_lcmp x dL_law_2191 ?_
      refine j_if_eq (tgt := 2197) x dL_law_2192 (by decide) (fun hc => ?_) (fun hc => absurd (lcmp_eq (by first | rfl | (rw [m_clear (by omega)]; decide +kernel) | decide +kernel)) hc)
      refine j_goto (tgt := 2301) x dL_law_2197 (by decide) ?_
      exact law_end X (by decide) (by decide)
    · have h2 : xs 1 = 9 := Int32.toInt_inj.mp (h1.trans (by decide))
      refine j_aload_n x dL_law_2144 rfl ?_
      refine j_aload_nR x dL_law_2145 rfl ?_
      refine j_iload x dL_law_2146 rfl ?_
      refine j_iconst (v := 1) x dL_law_2148 (by decide) ?_
      refine j_iadd x dL_law_2149 ?_
      refine j_sld (j := 1) x hX hb1 hb2 dL_law_2150 (vp_c (by decide)) (by decide) ?_
      rw [h2]
      refine j_aload_n x dL_law_2151 rfl ?_
      refine j2_callH x dL_law_2152 m_L_account (H_account_r hb (c_account_9 (d := 0) hb (by decide +kernel) (by decide +kernel))) wmL_250 rfl (Nat.le_of_ble_eq_true rfl) (j_fit_room (by decide) (by decide) (by decide)) rfl ?_
      refine j_istore x dL_law_2155 (by decide) rfl ?_
      refine j_aload_n x dL_law_2157 rfl ?_
      refine j_aload_nR x dL_law_2158 rfl ?_
      refine j_iload x dL_law_2159 rfl ?_
      refine j_iconst (v := 1) x dL_law_2161 (by decide) ?_
      refine j_iadd x dL_law_2162 ?_
      refine j_sld (j := 1) x hX hb1 hb2 dL_law_2163 (vp_c (by decide)) (by decide) ?_
      rw [h2]
      refine j2_callVi x hb dL_law_2164 m_X6_account (cx_account_9 (d := 0) hb (by rw [m_clear (by omega)]; decide +kernel) (by rw [m_clear (by omega)]; decide +kernel) (by rw [m_clear (by omega)]; decide +kernel)) wmL_252 jc_10 rfl rfl rfl (Nat.le_of_ble_eq_true rfl) (j_fit_room (by decide) (by decide) (by decide)) rfl ?_
      refine j_istore x dL_law_2167 (by decide) rfl ?_
      refine j_aload_n x dL_law_2169 rfl ?_
      refine j2_callVi x hb dL_law_2170 m_X6_thrown (cx_thrown (d := 0) hb) wmL_145 jc_10 rfl rfl rfl (Nat.le_of_ble_eq_true rfl) (j_fit_room (by decide) (by decide) (by decide)) rfl ?_
      refine j_iload x dL_law_2173 rfl ?_
      refine j_icmp_eq (tgt := 2180) x dL_law_2175 (by decide) (fun hc => ?_) (fun hc => absurd (rfl) hc)
      refine j_iload x dL_law_2180 rfl ?_
      refine j_if_ne (tgt := 2197) x dL_law_2182 (by decide) (fun hc => absurd rfl hc) (fun hc => ?_)
      refine j_aload_n x dL_law_2185 rfl ?_
      refine j_iconst (v := 0) x dL_law_2186 (by decide) ?_
      refine j2_lald x hb dL_law_2187 ?_
      refine j_iload x dL_law_2188 rfl ?_
      refine j_i2l x dL_law_2190 ?_
      refine j_lcmp x dL_law_2191 ?_
      refine j_if_eq (tgt := 2197) x dL_law_2192 (by decide) (fun hc => ?_) (fun hc => absurd (lcmp_eq (by first | rfl | (rw [m_clear (by omega)]; decide +kernel) | decide +kernel)) hc)
      refine j_goto (tgt := 2301) x dL_law_2197 (by decide) ?_
      exact law_end X (by decide) (by decide)
    · have h2 : xs 1 = 10 := Int32.toInt_inj.mp (h1.trans (by decide))
      refine j_aload_n x dL_law_2144 rfl ?_
      refine j_aload_nR x dL_law_2145 rfl ?_
      refine j_iload x dL_law_2146 rfl ?_
      refine j_iconst (v := 1) x dL_law_2148 (by decide) ?_
      refine j_iadd x dL_law_2149 ?_
      refine j_sld (j := 1) x hX hb1 hb2 dL_law_2150 (vp_c (by decide)) (by decide) ?_
      rw [h2]
      refine j_aload_n x dL_law_2151 rfl ?_
      refine j2_callH x dL_law_2152 m_L_account (H_account_r hb (c_account_10 (d := 0) hb (by decide +kernel) (by decide +kernel))) wmL_250 rfl (Nat.le_of_ble_eq_true rfl) (j_fit_room (by decide) (by decide) (by decide)) rfl ?_
      refine j_istore x dL_law_2155 (by decide) rfl ?_
      refine j_aload_n x dL_law_2157 rfl ?_
      refine j_aload_nR x dL_law_2158 rfl ?_
      refine j_iload x dL_law_2159 rfl ?_
      refine j_iconst (v := 1) x dL_law_2161 (by decide) ?_
      refine j_iadd x dL_law_2162 ?_
      refine j_sld (j := 1) x hX hb1 hb2 dL_law_2163 (vp_c (by decide)) (by decide) ?_
      rw [h2]
      refine j2_callVi x hb dL_law_2164 m_X6_account (cx_account_10 (d := 0) hb (by rw [m_clear (by omega)]; decide +kernel) (by rw [m_clear (by omega)]; decide +kernel) (by rw [m_clear (by omega)]; decide +kernel)) wmL_252 jc_10 rfl rfl rfl (Nat.le_of_ble_eq_true rfl) (j_fit_room (by decide) (by decide) (by decide)) rfl ?_
      refine j_istore x dL_law_2167 (by decide) rfl ?_
      refine j_aload_n x dL_law_2169 rfl ?_
      refine j2_callVi x hb dL_law_2170 m_X6_thrown (cx_thrown (d := 0) hb) wmL_145 jc_10 rfl rfl rfl (Nat.le_of_ble_eq_true rfl) (j_fit_room (by decide) (by decide) (by decide)) rfl ?_
      refine j_iload x dL_law_2173 rfl ?_
      refine j_icmp_eq (tgt := 2180) x dL_law_2175 (by decide) (fun hc => ?_) (fun hc => absurd (rfl) hc)
      refine j_iload x dL_law_2180 rfl ?_
      refine j_if_ne (tgt := 2197) x dL_law_2182 (by decide) (fun hc => absurd rfl hc) (fun hc => ?_)
      refine j_aload_n x dL_law_2185 rfl ?_
      refine j_iconst (v := 0) x dL_law_2186 (by decide) ?_
      refine j2_lald x hb dL_law_2187 ?_
      refine j_iload x dL_law_2188 rfl ?_
      refine j_i2l x dL_law_2190 ?_
      refine j_lcmp x dL_law_2191 ?_
      refine j_if_eq (tgt := 2197) x dL_law_2192 (by decide) (fun hc => ?_) (fun hc => absurd (lcmp_eq (by first | rfl | (rw [m_clear (by omega)]; decide +kernel) | decide +kernel)) hc)
      refine j_goto (tgt := 2301) x dL_law_2197 (by decide) ?_
      exact law_end X (by decide) (by decide)
    · have h2 : xs 1 = 11 := Int32.toInt_inj.mp (h1.trans (by decide))
      refine j_aload_n x dL_law_2144 rfl ?_
      refine j_aload_nR x dL_law_2145 rfl ?_
      refine j_iload x dL_law_2146 rfl ?_
      refine j_iconst (v := 1) x dL_law_2148 (by decide) ?_
      refine j_iadd x dL_law_2149 ?_
      refine j_sld (j := 1) x hX hb1 hb2 dL_law_2150 (vp_c (by decide)) (by decide) ?_
      rw [h2]
      refine j_aload_n x dL_law_2151 rfl ?_
      refine j2_callH x dL_law_2152 m_L_account (H_account_r hb (c_account_11 (d := 0) hb (by decide +kernel) (by decide +kernel))) wmL_250 rfl (Nat.le_of_ble_eq_true rfl) (j_fit_room (by decide) (by decide) (by decide)) rfl ?_
      refine j_istore x dL_law_2155 (by decide) rfl ?_
      refine j_aload_n x dL_law_2157 rfl ?_
      refine j_aload_nR x dL_law_2158 rfl ?_
      refine j_iload x dL_law_2159 rfl ?_
      refine j_iconst (v := 1) x dL_law_2161 (by decide) ?_
      refine j_iadd x dL_law_2162 ?_
      refine j_sld (j := 1) x hX hb1 hb2 dL_law_2163 (vp_c (by decide)) (by decide) ?_
      rw [h2]
      refine j2_callVi x hb dL_law_2164 m_X6_account (cx_account_11 (d := 0) hb (by rw [m_clear (by omega)]; decide +kernel) (by rw [m_clear (by omega)]; decide +kernel) (by rw [m_clear (by omega)]; decide +kernel)) wmL_252 jc_10 rfl rfl rfl (Nat.le_of_ble_eq_true rfl) (j_fit_room (by decide) (by decide) (by decide)) rfl ?_
      refine j_istore x dL_law_2167 (by decide) rfl ?_
      refine j_aload_n x dL_law_2169 rfl ?_
      refine j2_callVi x hb dL_law_2170 m_X6_thrown (cx_thrown (d := 0) hb) wmL_145 jc_10 rfl rfl rfl (Nat.le_of_ble_eq_true rfl) (j_fit_room (by decide) (by decide) (by decide)) rfl ?_
      refine j_iload x dL_law_2173 rfl ?_
      refine j_icmp_eq (tgt := 2180) x dL_law_2175 (by decide) (fun hc => ?_) (fun hc => absurd (rfl) hc)
      refine j_iload x dL_law_2180 rfl ?_
      refine j_if_ne (tgt := 2197) x dL_law_2182 (by decide) (fun hc => absurd rfl hc) (fun hc => ?_)
      refine j_aload_n x dL_law_2185 rfl ?_
      refine j_iconst (v := 0) x dL_law_2186 (by decide) ?_
      refine j2_lald x hb dL_law_2187 ?_
      refine j_iload x dL_law_2188 rfl ?_
      refine j_i2l x dL_law_2190 ?_
      refine j_lcmp x dL_law_2191 ?_
      refine j_if_eq (tgt := 2197) x dL_law_2192 (by decide) (fun hc => ?_) (fun hc => absurd (lcmp_eq (by first | rfl | (rw [m_clear (by omega)]; decide +kernel) | decide +kernel)) hc)
      refine j_goto (tgt := 2301) x dL_law_2197 (by decide) ?_
      exact law_end X (by decide) (by decide)
    · have h2 : xs 1 = 12 := Int32.toInt_inj.mp (h1.trans (by decide))
      refine j_aload_n x dL_law_2144 rfl ?_
      refine j_aload_nR x dL_law_2145 rfl ?_
      refine j_iload x dL_law_2146 rfl ?_
      refine j_iconst (v := 1) x dL_law_2148 (by decide) ?_
      refine j_iadd x dL_law_2149 ?_
      refine j_sld (j := 1) x hX hb1 hb2 dL_law_2150 (vp_c (by decide)) (by decide) ?_
      rw [h2]
      refine j_aload_n x dL_law_2151 rfl ?_
      refine j2_callH x dL_law_2152 m_L_account (H_account_r hb (c_account_12 (d := 0) hb (by decide +kernel) (by decide +kernel))) wmL_250 rfl (Nat.le_of_ble_eq_true rfl) (j_fit_room (by decide) (by decide) (by decide)) rfl ?_
      refine j_istore x dL_law_2155 (by decide) rfl ?_
      refine j_aload_n x dL_law_2157 rfl ?_
      refine j_aload_nR x dL_law_2158 rfl ?_
      refine j_iload x dL_law_2159 rfl ?_
      refine j_iconst (v := 1) x dL_law_2161 (by decide) ?_
      refine j_iadd x dL_law_2162 ?_
      refine j_sld (j := 1) x hX hb1 hb2 dL_law_2163 (vp_c (by decide)) (by decide) ?_
      rw [h2]
      refine j2_callVi x hb dL_law_2164 m_X6_account (cx_account_12 (d := 0) hb (by rw [m_clear (by omega)]; decide +kernel) (by rw [m_clear (by omega)]; decide +kernel) (by rw [m_clear (by omega)]; decide +kernel)) wmL_252 jc_10 rfl rfl rfl (Nat.le_of_ble_eq_true rfl) (j_fit_room (by decide) (by decide) (by decide)) rfl ?_
      refine j_istore x dL_law_2167 (by decide) rfl ?_
      refine j_aload_n x dL_law_2169 rfl ?_
      refine j2_callVi x hb dL_law_2170 m_X6_thrown (cx_thrown (d := 0) hb) wmL_145 jc_10 rfl rfl rfl (Nat.le_of_ble_eq_true rfl) (j_fit_room (by decide) (by decide) (by decide)) rfl ?_
      refine j_iload x dL_law_2173 rfl ?_
      refine j_icmp_eq (tgt := 2180) x dL_law_2175 (by decide) (fun hc => ?_) (fun hc => absurd (rfl) hc)
      refine j_iload x dL_law_2180 rfl ?_
      refine j_if_ne (tgt := 2197) x dL_law_2182 (by decide) (fun hc => absurd rfl hc) (fun hc => ?_)
      refine j_aload_n x dL_law_2185 rfl ?_
      refine j_iconst (v := 0) x dL_law_2186 (by decide) ?_
      refine j2_lald x hb dL_law_2187 ?_
      refine j_iload x dL_law_2188 rfl ?_
      refine j_i2l x dL_law_2190 ?_
      refine j_lcmp x dL_law_2191 ?_
      refine j_if_eq (tgt := 2197) x dL_law_2192 (by decide) (fun hc => ?_) (fun hc => absurd (lcmp_eq (by first | rfl | (rw [m_clear (by omega)]; decide +kernel) | decide +kernel)) hc)
      refine j_goto (tgt := 2301) x dL_law_2197 (by decide) ?_
      exact law_end X (by decide) (by decide)
    · have h2 : xs 1 = 13 := Int32.toInt_inj.mp (h1.trans (by decide))
      refine j_aload_n x dL_law_2144 rfl ?_
      refine j_aload_nR x dL_law_2145 rfl ?_
      refine j_iload x dL_law_2146 rfl ?_
      refine j_iconst (v := 1) x dL_law_2148 (by decide) ?_
      refine j_iadd x dL_law_2149 ?_
      refine j_sld (j := 1) x hX hb1 hb2 dL_law_2150 (vp_c (by decide)) (by decide) ?_
      rw [h2]
      refine j_aload_n x dL_law_2151 rfl ?_
      refine j2_callH x dL_law_2152 m_L_account (H_account_r hb (c_account_13 (d := 0) hb (by decide +kernel) (by decide +kernel))) wmL_250 rfl (Nat.le_of_ble_eq_true rfl) (j_fit_room (by decide) (by decide) (by decide)) rfl ?_
      refine j_istore x dL_law_2155 (by decide) rfl ?_
      refine j_aload_n x dL_law_2157 rfl ?_
      refine j_aload_nR x dL_law_2158 rfl ?_
      refine j_iload x dL_law_2159 rfl ?_
      refine j_iconst (v := 1) x dL_law_2161 (by decide) ?_
      refine j_iadd x dL_law_2162 ?_
      refine j_sld (j := 1) x hX hb1 hb2 dL_law_2163 (vp_c (by decide)) (by decide) ?_
      rw [h2]
      refine j2_callVi x hb dL_law_2164 m_X6_account (cx_account_13 (d := 0) hb (by rw [m_clear (by omega)]; decide +kernel) (by rw [m_clear (by omega)]; decide +kernel) (by rw [m_clear (by omega)]; decide +kernel)) wmL_252 jc_10 rfl rfl rfl (Nat.le_of_ble_eq_true rfl) (j_fit_room (by decide) (by decide) (by decide)) rfl ?_
      refine j_istore x dL_law_2167 (by decide) rfl ?_
      refine j_aload_n x dL_law_2169 rfl ?_
      refine j2_callVi x hb dL_law_2170 m_X6_thrown (cx_thrown (d := 0) hb) wmL_145 jc_10 rfl rfl rfl (Nat.le_of_ble_eq_true rfl) (j_fit_room (by decide) (by decide) (by decide)) rfl ?_
      refine j_iload x dL_law_2173 rfl ?_
      refine j_icmp_eq (tgt := 2180) x dL_law_2175 (by decide) (fun hc => ?_) (fun hc => absurd (rfl) hc)
      refine j_iload x dL_law_2180 rfl ?_
      refine j_if_ne (tgt := 2197) x dL_law_2182 (by decide) (fun hc => absurd rfl hc) (fun hc => ?_)
      refine j_aload_n x dL_law_2185 rfl ?_
      refine j_iconst (v := 0) x dL_law_2186 (by decide) ?_
      refine j2_lald x hb dL_law_2187 ?_
      refine j_iload x dL_law_2188 rfl ?_
      refine j_i2l x dL_law_2190 ?_
      refine j_lcmp x dL_law_2191 ?_
      refine j_if_eq (tgt := 2197) x dL_law_2192 (by decide) (fun hc => ?_) (fun hc => absurd (lcmp_eq (by first | rfl | (rw [m_clear (by omega)]; decide +kernel) | decide +kernel)) hc)
      refine j_goto (tgt := 2301) x dL_law_2197 (by decide) ?_
      exact law_end X (by decide) (by decide)
    · have h2 : xs 1 = 14 := Int32.toInt_inj.mp (h1.trans (by decide))
      refine j_aload_n x dL_law_2144 rfl ?_
      refine j_aload_nR x dL_law_2145 rfl ?_
      refine j_iload x dL_law_2146 rfl ?_
      refine j_iconst (v := 1) x dL_law_2148 (by decide) ?_
      refine j_iadd x dL_law_2149 ?_
      refine j_sld (j := 1) x hX hb1 hb2 dL_law_2150 (vp_c (by decide)) (by decide) ?_
      rw [h2]
      refine j_aload_n x dL_law_2151 rfl ?_
      refine j2_callH x dL_law_2152 m_L_account (H_account_r hb (c_account_14 (d := 0) hb (by decide +kernel) (by decide +kernel))) wmL_250 rfl (Nat.le_of_ble_eq_true rfl) (j_fit_room (by decide) (by decide) (by decide)) rfl ?_
      refine j_istore x dL_law_2155 (by decide) rfl ?_
      refine j_aload_n x dL_law_2157 rfl ?_
      refine j_aload_nR x dL_law_2158 rfl ?_
      refine j_iload x dL_law_2159 rfl ?_
      refine j_iconst (v := 1) x dL_law_2161 (by decide) ?_
      refine j_iadd x dL_law_2162 ?_
      refine j_sld (j := 1) x hX hb1 hb2 dL_law_2163 (vp_c (by decide)) (by decide) ?_
      rw [h2]
      refine j2_callVi x hb dL_law_2164 m_X6_account (cx_account_14 (d := 0) hb (by rw [m_clear (by omega)]; decide +kernel) (by rw [m_clear (by omega)]; decide +kernel) (by rw [m_clear (by omega)]; decide +kernel)) wmL_252 jc_10 rfl rfl rfl (Nat.le_of_ble_eq_true rfl) (j_fit_room (by decide) (by decide) (by decide)) rfl ?_
      refine j_istore x dL_law_2167 (by decide) rfl ?_
      refine j_aload_n x dL_law_2169 rfl ?_
      refine j2_callVi x hb dL_law_2170 m_X6_thrown (cx_thrown (d := 0) hb) wmL_145 jc_10 rfl rfl rfl (Nat.le_of_ble_eq_true rfl) (j_fit_room (by decide) (by decide) (by decide)) rfl ?_
      refine j_iload x dL_law_2173 rfl ?_
      refine j_icmp_eq (tgt := 2180) x dL_law_2175 (by decide) (fun hc => ?_) (fun hc => absurd (rfl) hc)
      refine j_iload x dL_law_2180 rfl ?_
      refine j_if_ne (tgt := 2197) x dL_law_2182 (by decide) (fun hc => absurd rfl hc) (fun hc => ?_)
      refine j_aload_n x dL_law_2185 rfl ?_
      refine j_iconst (v := 0) x dL_law_2186 (by decide) ?_
      refine j2_lald x hb dL_law_2187 ?_
      refine j_iload x dL_law_2188 rfl ?_
      refine j_i2l x dL_law_2190 ?_
      refine j_lcmp x dL_law_2191 ?_
      refine j_if_eq (tgt := 2197) x dL_law_2192 (by decide) (fun hc => ?_) (fun hc => absurd (lcmp_eq (by first | rfl | (rw [m_clear (by omega)]; decide +kernel) | decide +kernel)) hc)
      refine j_goto (tgt := 2301) x dL_law_2197 (by decide) ?_
      exact law_end X (by decide) (by decide)
theorem law_case_34 (X : LX p l s m meth c D tyc sb 4 xs) : LJ p l e s m below meth c D tyc sb ad0 2200 [some (.retAddr sb), some (.ref 0), some (.ref 94), some (.ref 102), some (.ref 103), some (.int 0), none, none, none] [] (HH b0 Y0 M0) 104 7864 := by
  obtain ⟨x, hr, hX, hb1, hb2⟩ := id X
  have hb : 104 ≤ b0.2.1 := Nat.le_refl 104
  refine j_aload_n x dL_law_2200 rfl ?_
  refine j_aload_n x dL_law_2201 rfl ?_
  refine j2_callH x dL_law_2202 m_L_undo (H_undo_t1 hb (c_undo_no (d := 0) hb (by decide +kernel))) wmL_253 rfl (Nat.le_of_ble_eq_true rfl) (j_fit_room (by decide) (by decide) (by decide)) rfl ?_
  refine j_istore x dL_law_2205 (by decide) rfl ?_
  refine j_aload_n x dL_law_2207 rfl ?_
  refine j2_callVi x hb dL_law_2208 m_X6_undo (cx_undo_0 (d := 0) hb (by decide +kernel)) wmL_255 jc_10 rfl rfl rfl (Nat.le_of_ble_eq_true rfl) (j_fit_room (by decide) (by decide) (by decide)) rfl ?_
  refine j_istore x dL_law_2211 (by decide) rfl ?_
  refine j_aload_n x dL_law_2213 rfl ?_
  refine j2_callVi x hb dL_law_2214 m_X6_thrown (cx_thrown (d := 0) hb) wmL_145 jc_10 rfl rfl rfl (Nat.le_of_ble_eq_true rfl) (j_fit_room (by decide) (by decide) (by decide)) rfl ?_
  refine j_iload x dL_law_2217 rfl ?_
  refine j_icmp_eq (tgt := 2224) x dL_law_2219 (by decide) (fun hc => ?_) (fun hc => absurd (rfl) hc)
  refine j_iload x dL_law_2224 rfl ?_
  refine j_if_ne (tgt := 2241) x dL_law_2226 (by decide) (fun hc => ?_) (fun hc => absurd hc (by decide))
  refine j_goto (tgt := 2301) x dL_law_2241 (by decide) ?_
  exact law_end X (by decide) (by decide)
theorem law_case_35 (X : LX p l s m meth c D tyc sb 4 xs) : LJ p l e s m below meth c D tyc sb ad0 2244 [some (.retAddr sb), some (.ref 0), some (.ref 94), some (.ref 102), some (.ref 103), some (.int 0), none, none, none] [] (HH b0 Y0 M0) 104 7864 := by
  obtain ⟨x, hr, hX, hb1, hb2⟩ := id X
  have hb : 104 ≤ b0.2.1 := Nat.le_refl 104
  refine j_aload_n x dL_law_2244 rfl ?_
  refine j2_callVi x hb dL_law_2245 m_X5_save (c_save (d := 0) hb (Or.inl (by decide +kernel))) wmL_256 jc_9 rfl rfl rfl (Nat.le_of_ble_eq_true rfl) (j_fit_room (by decide) (by decide) (by decide)) rfl ?_
  refine j_aload_n x dL_law_2248 rfl ?_
  refine j2_callVi x hb dL_law_2249 m_X6_save (cx_save (d := 0) hb) wmL_259 jc_10 rfl rfl rfl (Nat.le_of_ble_eq_true rfl) (j_fit_room (by decide) (by decide) (by decide)) rfl ?_
  refine j_icmp_eq (tgt := 2301) x dL_law_2252 (by decide) (fun hc => ?_) (fun hc => absurd (by decide +kernel) hc)
  exact law_end X (by decide) (by decide)
theorem law_case_36 (X : LX p l s m meth c D tyc sb 4 xs) : LJ p l e s m below meth c D tyc sb ad0 2257 [some (.retAddr sb), some (.ref 0), some (.ref 94), some (.ref 102), some (.ref 103), some (.int 0), none, none, none] [] (HH b0 Y0 M0) 104 7864 := by
  obtain ⟨x, hr, hX, hb1, hb2⟩ := id X
  have hb : 104 ≤ b0.2.1 := Nat.le_refl 104
  refine j_aload_n x dL_law_2257 rfl ?_
  refine j_aload_n x dL_law_2258 rfl ?_
  refine j2_callH x dL_law_2259 m_L_restore (H_restore_t1 hb (c_restore_no (d := 0) hb (by decide +kernel))) wmL_260 rfl (Nat.le_of_ble_eq_true rfl) (j_fit_room (by decide) (by decide) (by decide)) rfl ?_
  refine j_istore x dL_law_2262 (by decide) rfl ?_
  refine j_aload_n x dL_law_2264 rfl ?_
  refine j2_callVi x hb dL_law_2265 m_X6_restore (cx_restore_0 (d := 0) hb (by decide +kernel)) wmL_262 jc_10 rfl rfl rfl (Nat.le_of_ble_eq_true rfl) (j_fit_room (by decide) (by decide) (by decide)) rfl ?_
  refine j_istore x dL_law_2268 (by decide) rfl ?_
  refine j_aload_n x dL_law_2270 rfl ?_
  refine j2_callVi x hb dL_law_2271 m_X6_thrown (cx_thrown (d := 0) hb) wmL_145 jc_10 rfl rfl rfl (Nat.le_of_ble_eq_true rfl) (j_fit_room (by decide) (by decide) (by decide)) rfl ?_
  refine j_iload x dL_law_2274 rfl ?_
  refine j_icmp_eq (tgt := 2281) x dL_law_2276 (by decide) (fun hc => ?_) (fun hc => absurd (rfl) hc)
  refine j_iload x dL_law_2281 rfl ?_
  refine j_if_ne (tgt := 2298) x dL_law_2283 (by decide) (fun hc => ?_) (fun hc => absurd hc (by decide))
  refine j_goto (tgt := 2301) x dL_law_2298 (by decide) ?_
  exact law_end X (by decide) (by decide)
end JLW
