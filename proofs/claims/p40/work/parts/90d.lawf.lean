/-! ===== the law: the league of eight, played ===== -/
theorem jfst_e {f g : Nat → Int32} : ∀ {n : Nat}, (∀ i, i < n → f i = g i) → jfst f n = jfst g n
  | 0, _ => rfl
  | n + 1, h => by rw [jfst, jfst, jfst_e (n := n) (fun i hi => h i (by omega)), h n (by omega)]
theorem cl_at {R : Nat → Int32} {c : Nat} (h : c < 466) : cl R 95 c = R c := if_pos ⟨rfl, h⟩
/-! what a change looks at, of a league by its numbers -/
theorem gLeft_cl {N : MM} {R : Nat → Int32} (h : At N R) {m : Nat} (hm : m < 56) : gLeft N m = gLeft (cl R) m := by
  unfold gLeft jof
  rw [h (18 + 8 * m + 2) (by omega), h 2 (by omega), h (18 + 8 * m + 4) (by omega), cl_at (c := 18 + 8 * m + 2) (by omega), cl_at (c := 2) (by omega), cl_at (c := 18 + 8 * m + 4) (by omega)]
theorem gNext_cl {N : MM} {R : Nat → Int32} (h : At N R) : gNext N 56 = gNext (cl R) 56 := by
  unfold gNext
  rw [jfst_e (f := gLeft N) (g := gLeft (cl R)) (fun i hi => gLeft_cl h hi), h 2 (by omega), h 1 (by omega), cl_at (c := 2) (by omega), cl_at (c := 1) (by omega)]
theorem gPut_cl {N : MM} {R : Nat → Int32} (h : At N R) {q : Nat} (hq : q < 56) {u : Int32} : gPut N q u = gPut (cl R) q u := by
  unfold gPut jof
  rw [h (18 + 8 * q + 4) (by omega), h (18 + 8 * q + 2) (by omega), h 2 (by omega), h 1 (by omega), cl_at (c := 18 + 8 * q + 4) (by omega), cl_at (c := 18 + 8 * q + 2) (by omega), cl_at (c := 2) (by omega), cl_at (c := 1) (by omega)]
theorem gRes_cl {N : MM} {R : Nat → Int32} (h : At N R) {q : Nat} (hq : q < 56) {u v : Int32} : gRes N q u v = gRes (cl R) q u v := by
  unfold gRes jof
  rw [h (18 + 8 * q + 4) (by omega), h (18 + 8 * q + 2) (by omega), h 2 (by omega), cl_at (c := 18 + 8 * q + 4) (by omega), cl_at (c := 18 + 8 * q + 2) (by omega), cl_at (c := 2) (by omega)]
theorem gGr_cl {N : MM} {R : Nat → Int32} (h : At N R) {m : Nat} (hm : m < 56) (hb : (R (18 + 8 * m + 0)).toNatClampNeg < 8) : gGr N m = gGr (cl R) m := by
  unfold gGr jof
  rw [h (18 + 8 * m + 0) (by omega), cl_at (c := 18 + 8 * m + 0) (by omega), h _ (by omega), cl_at (by omega)]
theorem gCl_cl {N : MM} {R : Nat → Int32} (h : At N R) (hb : ∀ m, m < 56 → (R (18 + 8 * m + 0)).toNatClampNeg < 8) {q m : Nat} (hq : q < 56) (hm : m < 56) {w : Int32} : gCl N q w m = gCl (cl R) q w m := by
  unfold gCl
  rw [gGr_cl h hm (hb m hm), gGr_cl h hq (hb q hq)]
  unfold jof
  rw [h (18 + 8 * m + 2) (by omega), cl_at (c := 18 + 8 * m + 2) (by omega)]
theorem Dr_3 {B : MM} {R : Nat → Int32} (h : At B R) (h0 : R 0 = nI 8) (h1 : ¬ R 1 = 0) : Dr B 8 := ⟨(h 0 (by omega)).trans h0, by omega, by rw [h 1 (by omega)]; exact h1⟩
theorem z8 : zz 8 true = 14 ∧ nn 8 true = 56 := by decide +kernel
theorem SavR_u {B B1 : MM} (h : SavR B) (h98 : ∀ c, B1 98 c = B 98 c) (h5 : B1 94 5 = B 94 5) : SavR B1 := ⟨h5.trans h.1, fun c hc => (h98 c).trans (h.2 c hc)⟩
theorem HK_pushG {B B1 : MM} {n : Nat} {G : Nat → Nat → Int32} (h : HK B n G) (hp : PushB B B1) (e : ∀ c, c < 466 → B 95 c = G n c) : HK B1 (n + 1) G := by
  obtain ⟨k, h1, h2, h3, h4⟩ := HK_push h hp
  refine ⟨k, h1, h2, h3, fun j hj c hc => (h4 j hj c hc).trans ?_⟩
  show (if n + 1 - 1 - j = n then B 95 else G (n + 1 - 1 - j)) c = _
  by_cases z : n + 1 - 1 - j = n
  · rw [if_pos z, z]; exact e c hc
  · rw [if_neg z]
/-! the rows -/
def RP : Nat → Nat → Int32
  | 0 => R3
  | j + 1 => up (up (RP j) (18 + 8 * j + 2) 9) (18 + 8 * j + 5) 1
def RN : Nat → Int32 := up (RP 4) 2 1
def R5 : Nat → Int32 := up (up (up RN (18 + 8 * 4 + 4) 1) (18 + 8 * 4 + 6) 20) (18 + 8 * 4 + 7) 0
def R6 : Nat → Int32 := up (up (up R5 (18 + 8 * 5 + 4) 1) (18 + 8 * 5 + 6) 0) (18 + 8 * 5 + 7) 20
def G4 (i : Nat) : Nat → Int32 := if i ≤ 4 then RP i else if i = 5 then RN else R5
theorem G4_le {i : Nat} (h : i ≤ 4) : G4 i = RP i := if_pos h
theorem e4_m : ∀ w, w < 14 → jsum (gIn (cl R3) (nI w)) 56 = 4 := by decide +kernel
theorem e4_b : ∀ w, w < 14 → gOr2 (bye 8 w) = -1002 := by decide +kernel
theorem e4_c : ∀ w, w < 14 → gpairs (cl R3) 56 (nI w) = if w % 2 = 1 then 3 else 6 := by decide +kernel
theorem e5_12 : jsum (fun w => gpairs (cl R3) 56 (nI w)) 14 = 63 := (jsum_c fun i hi => e4_c i hi).trans (by decide +kernel)
theorem e5_t : jof (cl R3) 0 0 = 0 ∧ jof (cl R3) 0 1 = 7 ∧ jof (cl R3) 3 0 = 6 ∧ jof (cl R3) 3 1 = 1 ∧ jof (cl R3) 1 0 = 2 ∧ jof (cl R3) 1 1 = 5 ∧ jof (cl R3) 2 0 = 4 ∧ jof (cl R3) 2 1 = 3 := by decide +kernel
theorem RP_f : ∀ j, j < 5 → RP j 0 = nI 8 ∧ RP j 1 = 14 ∧ RP j 9 = nI 56 ∧ RP j 2 = 0 := by decide +kernel
theorem RP_b : ∀ j, j < 5 → ∀ m, m < 56 → (RP j (18 + 8 * m + 0)).toNatClampNeg < 8 := by decide +kernel
theorem RP_g : ∀ j, j < 4 → gPut (cl (RP j)) j 9 = none ∧ jsum (gCl (cl (RP (j + 1))) j 9) 56 = nI (3 + j) := by decide +kernel
theorem e7_6 : jsum (gPutC (cl (RP 4))) 56 = 4 := by decide +kernel
theorem e7_m : jsum (gIn (cl (RP 4)) (nI 9)) 56 = 8 := by decide +kernel
theorem e7_c : gpairs (cl (RP 4)) 56 (nI 9) = 21 := by decide +kernel
theorem e7_f : gOr2 (gfree (cl (RP 4)) 56 14 (jof (cl (RP 4)) 0 2).toNatClampNeg 0) = -1002 := by decide +kernel
theorem e7_n : gNext (cl (RP 4)) 56 = none := by decide +kernel
theorem RN_f : RN 0 = nI 8 ∧ RN 1 = 14 ∧ RN 9 = nI 56 := by decide +kernel
theorem RN_r : gRes (cl RN) 4 20 0 = none ∧ jsum (gLeft (cl R5)) 56 = 3 := by decide +kernel
theorem R5_f : R5 0 = nI 8 ∧ R5 1 = 14 ∧ R5 9 = nI 56 := by decide +kernel
theorem R5_r : gRes (cl R5) 5 0 20 = none ∧ jsum (gLeft (cl R6)) 56 = 2 := by decide +kernel
theorem e7_5 : jsum (fun m => jof (cl R5) m 4) 56 = 1 := by decide +kernel
theorem e7_0 : jof (cl (RP 3)) 3 2 = 0 := by decide +kernel
section JLW
variable {p : Program} {l : Launch} {e : Env} {s : State} {m : MethodId} {below : List Frame} {meth : Method} {c : Code} {D : va_G} {tyc : Nat → ClassId} {sb : Nat} {xs : Nat → Int32} {ad0 : Nat → Nat}
set_option maxHeartbeats 20000000 in
/-- the weeks: four meetings each, no bye, clashes -/
theorem law_e4 {N : Nat} (X : LX p l s m meth c D tyc sb N xs) {A B : MM} (I : InvP b0 A B) (hz : At B R3 ∧ SavR B ∧ B 94 9 = 0 ∧ B 94 3 = nI 8) (KK : ∀ A B, InvP b0 A B → At B R3 ∧ SavR B ∧ B 94 9 = 0 ∧ B 94 3 = nI 8 → LJ p l e s m below meth c D tyc sb ad0 317 [some (.retAddr sb), some (.ref 0), none, none, none, none, none, none, none, none, none] [] (HH b0 Y0 A) 400 4200) : LJ p l e s m below meth c D tyc sb ad0 228 [some (.retAddr sb), some (.ref 0), none, none, none, none, none, none, none, none, none] [] (HH b0 Y0 A) 300 3900 := by
  obtain ⟨x, hr, hX, hb1, hb2⟩ := id X
  refine j_iconst (v := 0) x dL_law_228 (by decide) ?_
  refine j_istore_n x dL_law_229 (by decide) rfl ?_
  refine c_loop (14) (fun j => [some (.retAddr sb), some (.ref 0), some (.int (nI j)), none, none, none, none, none, none, none, none]) (fun j B => At B R3 ∧ SavR B ∧ B 94 9 = 0 ∧ B 94 3 = nI 8) (300 + 0) (3900 + 0) 3 18 I (hz) (wk_c rfl (wk_c rfl (wk_c rfl (wk_n (wk_n (wk_n (wk_n (wk_n (wk_n (wk_n (wk_n wk_0))))))))))) (by omega) (by omega) (fun j0 hj0 A B I hz kk0 => ?_) (fun A B I hz => ?_)
  · have hz0 := hz
    obtain ⟨z1, z2, z3, z4⟩ := hz
    have D8 : Dr B 8 := Dr_3 z1 (by decide +kernel) (by decide +kernel)
    have ec : cn B = cl R3 := At_cn z1
    have hj14 : j0 < zz 8 true := by rw [z8.1]; exact hj0
    refine j_iload_n x dL_law_230 rfl ?_
    refine j_bipush (v := 14) x dL_law_231 (by decide) ?_
    refine j_icmp_ge (tgt := 317) x dL_law_233 (by decide) (fun hc => absurd hc ((nI_ge hj0 (by decide) : ¬ nI 14 ≤ nI j0))) (fun _ => ?_)
    refine j_aload_n x dL_law_236 rfl ?_
    refine j_iload_n x dL_law_237 rfl ?_
    refine q_call x I (Q_meetingsIn (Y := Y0) I.hb (I.L D8) (I.F D8) (q := j0) hj14) dL_law_238 m_L_meetingsIn (by decide) wmL_230 rfl (Nat.le_of_ble_eq_true rfl) (fun mc ms z1 z2 => j_fit_room (by decide) (by omega) (by omega)) rfl (fun A I => ?_)
    refine j_top (show jsum (gIn (cn B) (nI j0)) (nn 8 true) = 4 by rw [ec, z8.2]; exact e4_m j0 hj0) ?_
    refine j_iconst (v := 4) x dL_law_241 (by decide) ?_
    refine j_icmp_ne (tgt := 309) x dL_law_242 (by decide) (fun hc => absurd hc (fun z => z rfl)) (fun hc => ?_)
    refine j_aload_n x dL_law_245 rfl ?_
    refine j_iload_n x dL_law_246 rfl ?_
    refine q_call x I (Q_byeIn (Y := Y0) I.hb (I.L D8) (I.F D8) (q := j0) hj14) dL_law_247 m_L_byeIn (by decide) wmL_228 rfl (Nat.le_of_ble_eq_true rfl) (fun mc ms z1 z2 => j_fit_room (by decide) (by omega) (by omega)) rfl (fun A I => ?_)
    refine j_top (e4_b j0 hj0) ?_
    refine j_sipush (v := (-1002)) x dL_law_250 (by decide) ?_
    refine j_icmp_ne (tgt := 309) x dL_law_253 (by decide) (fun hc => absurd hc (fun z => z rfl)) (fun hc => ?_)
    refine j_aload_n x dL_law_256 rfl ?_
    refine j_iload_n x dL_law_257 rfl ?_
    refine q_call x I (Q_clashes (Y := Y0) I.hb (I.L D8) (I.F D8) (q := j0) hj14) dL_law_258 m_L_clashes (by decide) wmL_232 rfl (Nat.le_of_ble_eq_true rfl) (fun mc ms z1 z2 => j_fit_room (by decide) (by omega) (by omega)) rfl (fun A I => ?_)
    refine j_top (show gpairs (cn B) (nn 8 true) (nI j0) = if j0 % 2 = 1 then 3 else 6 by rw [ec, z8.2]; exact e4_c j0 hj0) ?_
    rcases (show j0 = 0 ∨ j0 = 1 ∨ j0 = 2 ∨ j0 = 3 ∨ j0 = 4 ∨ j0 = 5 ∨ j0 = 6 ∨ j0 = 7 ∨ j0 = 8 ∨ j0 = 9 ∨ j0 = 10 ∨ j0 = 11 ∨ j0 = 12 ∨ j0 = 13 by omega) with rfl | rfl | rfl | rfl | rfl | rfl | rfl | rfl | rfl | rfl | rfl | rfl | rfl | rfl
    · refine j_iload_n x dL_law_261 rfl ?_
      refine j_iconst (v := 1) x dL_law_262 (by decide) ?_
      refine j_icmp_eq (tgt := 300) x dL_law_263 (by decide) (fun hc => absurd hc (by decide)) (fun hc => ?_)
      refine j_iload_n x dL_law_266 rfl ?_
      refine j_iconst (v := 3) x dL_law_267 (by decide) ?_
      refine j_icmp_eq (tgt := 300) x dL_law_268 (by decide) (fun hc => absurd hc (by decide)) (fun hc => ?_)
      refine j_iload_n x dL_law_271 rfl ?_
      refine j_iconst (v := 5) x dL_law_272 (by decide) ?_
      refine j_icmp_eq (tgt := 300) x dL_law_273 (by decide) (fun hc => absurd hc (by decide)) (fun hc => ?_)
      refine j_iload_n x dL_law_276 rfl ?_
      refine j_bipush (v := 7) x dL_law_277 (by decide) ?_
      refine j_icmp_eq (tgt := 300) x dL_law_279 (by decide) (fun hc => absurd hc (by decide)) (fun hc => ?_)
      refine j_iload_n x dL_law_282 rfl ?_
      refine j_bipush (v := 9) x dL_law_283 (by decide) ?_
      refine j_icmp_eq (tgt := 300) x dL_law_285 (by decide) (fun hc => absurd hc (by decide)) (fun hc => ?_)
      refine j_iload_n x dL_law_288 rfl ?_
      refine j_bipush (v := 11) x dL_law_289 (by decide) ?_
      refine j_icmp_eq (tgt := 300) x dL_law_291 (by decide) (fun hc => absurd hc (by decide)) (fun hc => ?_)
      refine j_iload_n x dL_law_294 rfl ?_
      refine j_bipush (v := 13) x dL_law_295 (by decide) ?_
      refine j_icmp_ne (tgt := 304) x dL_law_297 (by decide) (fun hc => ?_) (fun hc => absurd hc (by decide))
      refine j_bipush (v := 6) x dL_law_304 (by decide) ?_
      refine j_icmp_eq (tgt := 311) x dL_law_306 (by decide) (fun hc => ?_) (fun hc => absurd (by decide) hc)
      refine j_iinc x dL_law_311 rfl (by decide) rfl ?_
      refine j_goto (tgt := 230) x dL_law_314 (by decide) ?_
      exact kk0 _ _ _ _ _ I hz0 (wk_c rfl (wk_c rfl (wk_c (congrArg (fun z => some (Value.int z)) (nI_1 _)) (wk_n (wk_n (wk_n (wk_n (wk_n (wk_n (wk_n (wk_n wk_0))))))))))) (by omega) (by omega)
    · refine j_iload_n x dL_law_261 rfl ?_
      refine j_iconst (v := 1) x dL_law_262 (by decide) ?_
      refine j_icmp_eq (tgt := 300) x dL_law_263 (by decide) (fun hc => ?_) (fun hc => absurd (rfl) hc)
      refine j_iconst (v := 3) x dL_law_300 (by decide) ?_
      refine j_goto (tgt := 306) x dL_law_301 (by decide) ?_
      refine j_icmp_eq (tgt := 311) x dL_law_306 (by decide) (fun hc => ?_) (fun hc => absurd (by decide) hc)
      refine j_iinc x dL_law_311 rfl (by decide) rfl ?_
      refine j_goto (tgt := 230) x dL_law_314 (by decide) ?_
      exact kk0 _ _ _ _ _ I hz0 (wk_c rfl (wk_c rfl (wk_c (congrArg (fun z => some (Value.int z)) (nI_1 _)) (wk_n (wk_n (wk_n (wk_n (wk_n (wk_n (wk_n (wk_n wk_0))))))))))) (by omega) (by omega)
    · refine j_iload_n x dL_law_261 rfl ?_
      refine j_iconst (v := 1) x dL_law_262 (by decide) ?_
      refine j_icmp_eq (tgt := 300) x dL_law_263 (by decide) (fun hc => absurd hc (by decide)) (fun hc => ?_)
      refine j_iload_n x dL_law_266 rfl ?_
      refine j_iconst (v := 3) x dL_law_267 (by decide) ?_
      refine j_icmp_eq (tgt := 300) x dL_law_268 (by decide) (fun hc => absurd hc (by decide)) (fun hc => ?_)
      refine j_iload_n x dL_law_271 rfl ?_
      refine j_iconst (v := 5) x dL_law_272 (by decide) ?_
      refine j_icmp_eq (tgt := 300) x dL_law_273 (by decide) (fun hc => absurd hc (by decide)) (fun hc => ?_)
      refine j_iload_n x dL_law_276 rfl ?_
      refine j_bipush (v := 7) x dL_law_277 (by decide) ?_
      refine j_icmp_eq (tgt := 300) x dL_law_279 (by decide) (fun hc => absurd hc (by decide)) (fun hc => ?_)
      refine j_iload_n x dL_law_282 rfl ?_
      refine j_bipush (v := 9) x dL_law_283 (by decide) ?_
      refine j_icmp_eq (tgt := 300) x dL_law_285 (by decide) (fun hc => absurd hc (by decide)) (fun hc => ?_)
      refine j_iload_n x dL_law_288 rfl ?_
      refine j_bipush (v := 11) x dL_law_289 (by decide) ?_
      refine j_icmp_eq (tgt := 300) x dL_law_291 (by decide) (fun hc => absurd hc (by decide)) (fun hc => ?_)
      refine j_iload_n x dL_law_294 rfl ?_
      refine j_bipush (v := 13) x dL_law_295 (by decide) ?_
      refine j_icmp_ne (tgt := 304) x dL_law_297 (by decide) (fun hc => ?_) (fun hc => absurd hc (by decide))
      refine j_bipush (v := 6) x dL_law_304 (by decide) ?_
      refine j_icmp_eq (tgt := 311) x dL_law_306 (by decide) (fun hc => ?_) (fun hc => absurd (by decide) hc)
      refine j_iinc x dL_law_311 rfl (by decide) rfl ?_
      refine j_goto (tgt := 230) x dL_law_314 (by decide) ?_
      exact kk0 _ _ _ _ _ I hz0 (wk_c rfl (wk_c rfl (wk_c (congrArg (fun z => some (Value.int z)) (nI_1 _)) (wk_n (wk_n (wk_n (wk_n (wk_n (wk_n (wk_n (wk_n wk_0))))))))))) (by omega) (by omega)
    · refine j_iload_n x dL_law_261 rfl ?_
      refine j_iconst (v := 1) x dL_law_262 (by decide) ?_
      refine j_icmp_eq (tgt := 300) x dL_law_263 (by decide) (fun hc => absurd hc (by decide)) (fun hc => ?_)
      refine j_iload_n x dL_law_266 rfl ?_
      refine j_iconst (v := 3) x dL_law_267 (by decide) ?_
      refine j_icmp_eq (tgt := 300) x dL_law_268 (by decide) (fun hc => ?_) (fun hc => absurd (rfl) hc)
      refine j_iconst (v := 3) x dL_law_300 (by decide) ?_
      refine j_goto (tgt := 306) x dL_law_301 (by decide) ?_
      refine j_icmp_eq (tgt := 311) x dL_law_306 (by decide) (fun hc => ?_) (fun hc => absurd (by decide) hc)
      refine j_iinc x dL_law_311 rfl (by decide) rfl ?_
      refine j_goto (tgt := 230) x dL_law_314 (by decide) ?_
      exact kk0 _ _ _ _ _ I hz0 (wk_c rfl (wk_c rfl (wk_c (congrArg (fun z => some (Value.int z)) (nI_1 _)) (wk_n (wk_n (wk_n (wk_n (wk_n (wk_n (wk_n (wk_n wk_0))))))))))) (by omega) (by omega)
    · refine j_iload_n x dL_law_261 rfl ?_
      refine j_iconst (v := 1) x dL_law_262 (by decide) ?_
      refine j_icmp_eq (tgt := 300) x dL_law_263 (by decide) (fun hc => absurd hc (by decide)) (fun hc => ?_)
      refine j_iload_n x dL_law_266 rfl ?_
      refine j_iconst (v := 3) x dL_law_267 (by decide) ?_
      refine j_icmp_eq (tgt := 300) x dL_law_268 (by decide) (fun hc => absurd hc (by decide)) (fun hc => ?_)
      refine j_iload_n x dL_law_271 rfl ?_
      refine j_iconst (v := 5) x dL_law_272 (by decide) ?_
      refine j_icmp_eq (tgt := 300) x dL_law_273 (by decide) (fun hc => absurd hc (by decide)) (fun hc => ?_)
      refine j_iload_n x dL_law_276 rfl ?_
      refine j_bipush (v := 7) x dL_law_277 (by decide) ?_
      refine j_icmp_eq (tgt := 300) x dL_law_279 (by decide) (fun hc => absurd hc (by decide)) (fun hc => ?_)
      refine j_iload_n x dL_law_282 rfl ?_
      refine j_bipush (v := 9) x dL_law_283 (by decide) ?_
      refine j_icmp_eq (tgt := 300) x dL_law_285 (by decide) (fun hc => absurd hc (by decide)) (fun hc => ?_)
      refine j_iload_n x dL_law_288 rfl ?_
      refine j_bipush (v := 11) x dL_law_289 (by decide) ?_
      refine j_icmp_eq (tgt := 300) x dL_law_291 (by decide) (fun hc => absurd hc (by decide)) (fun hc => ?_)
      refine j_iload_n x dL_law_294 rfl ?_
      refine j_bipush (v := 13) x dL_law_295 (by decide) ?_
      refine j_icmp_ne (tgt := 304) x dL_law_297 (by decide) (fun hc => ?_) (fun hc => absurd hc (by decide))
      refine j_bipush (v := 6) x dL_law_304 (by decide) ?_
      refine j_icmp_eq (tgt := 311) x dL_law_306 (by decide) (fun hc => ?_) (fun hc => absurd (by decide) hc)
      refine j_iinc x dL_law_311 rfl (by decide) rfl ?_
      refine j_goto (tgt := 230) x dL_law_314 (by decide) ?_
      exact kk0 _ _ _ _ _ I hz0 (wk_c rfl (wk_c rfl (wk_c (congrArg (fun z => some (Value.int z)) (nI_1 _)) (wk_n (wk_n (wk_n (wk_n (wk_n (wk_n (wk_n (wk_n wk_0))))))))))) (by omega) (by omega)
    · refine j_iload_n x dL_law_261 rfl ?_
      refine j_iconst (v := 1) x dL_law_262 (by decide) ?_
      refine j_icmp_eq (tgt := 300) x dL_law_263 (by decide) (fun hc => absurd hc (by decide)) (fun hc => ?_)
      refine j_iload_n x dL_law_266 rfl ?_
      refine j_iconst (v := 3) x dL_law_267 (by decide) ?_
      refine j_icmp_eq (tgt := 300) x dL_law_268 (by decide) (fun hc => absurd hc (by decide)) (fun hc => ?_)
      refine j_iload_n x dL_law_271 rfl ?_
      refine j_iconst (v := 5) x dL_law_272 (by decide) ?_
      refine j_icmp_eq (tgt := 300) x dL_law_273 (by decide) (fun hc => ?_) (fun hc => absurd (rfl) hc)
      refine j_iconst (v := 3) x dL_law_300 (by decide) ?_
      refine j_goto (tgt := 306) x dL_law_301 (by decide) ?_
      refine j_icmp_eq (tgt := 311) x dL_law_306 (by decide) (fun hc => ?_) (fun hc => absurd (by decide) hc)
      refine j_iinc x dL_law_311 rfl (by decide) rfl ?_
      refine j_goto (tgt := 230) x dL_law_314 (by decide) ?_
      exact kk0 _ _ _ _ _ I hz0 (wk_c rfl (wk_c rfl (wk_c (congrArg (fun z => some (Value.int z)) (nI_1 _)) (wk_n (wk_n (wk_n (wk_n (wk_n (wk_n (wk_n (wk_n wk_0))))))))))) (by omega) (by omega)
    · refine j_iload_n x dL_law_261 rfl ?_
      refine j_iconst (v := 1) x dL_law_262 (by decide) ?_
      refine j_icmp_eq (tgt := 300) x dL_law_263 (by decide) (fun hc => absurd hc (by decide)) (fun hc => ?_)
      refine j_iload_n x dL_law_266 rfl ?_
      refine j_iconst (v := 3) x dL_law_267 (by decide) ?_
      refine j_icmp_eq (tgt := 300) x dL_law_268 (by decide) (fun hc => absurd hc (by decide)) (fun hc => ?_)
      refine j_iload_n x dL_law_271 rfl ?_
      refine j_iconst (v := 5) x dL_law_272 (by decide) ?_
      refine j_icmp_eq (tgt := 300) x dL_law_273 (by decide) (fun hc => absurd hc (by decide)) (fun hc => ?_)
      refine j_iload_n x dL_law_276 rfl ?_
      refine j_bipush (v := 7) x dL_law_277 (by decide) ?_
      refine j_icmp_eq (tgt := 300) x dL_law_279 (by decide) (fun hc => absurd hc (by decide)) (fun hc => ?_)
      refine j_iload_n x dL_law_282 rfl ?_
      refine j_bipush (v := 9) x dL_law_283 (by decide) ?_
      refine j_icmp_eq (tgt := 300) x dL_law_285 (by decide) (fun hc => absurd hc (by decide)) (fun hc => ?_)
      refine j_iload_n x dL_law_288 rfl ?_
      refine j_bipush (v := 11) x dL_law_289 (by decide) ?_
      refine j_icmp_eq (tgt := 300) x dL_law_291 (by decide) (fun hc => absurd hc (by decide)) (fun hc => ?_)
      refine j_iload_n x dL_law_294 rfl ?_
      refine j_bipush (v := 13) x dL_law_295 (by decide) ?_
      refine j_icmp_ne (tgt := 304) x dL_law_297 (by decide) (fun hc => ?_) (fun hc => absurd hc (by decide))
      refine j_bipush (v := 6) x dL_law_304 (by decide) ?_
      refine j_icmp_eq (tgt := 311) x dL_law_306 (by decide) (fun hc => ?_) (fun hc => absurd (by decide) hc)
      refine j_iinc x dL_law_311 rfl (by decide) rfl ?_
      refine j_goto (tgt := 230) x dL_law_314 (by decide) ?_
      exact kk0 _ _ _ _ _ I hz0 (wk_c rfl (wk_c rfl (wk_c (congrArg (fun z => some (Value.int z)) (nI_1 _)) (wk_n (wk_n (wk_n (wk_n (wk_n (wk_n (wk_n (wk_n wk_0))))))))))) (by omega) (by omega)
    · refine j_iload_n x dL_law_261 rfl ?_
      refine j_iconst (v := 1) x dL_law_262 (by decide) ?_
      refine j_icmp_eq (tgt := 300) x dL_law_263 (by decide) (fun hc => absurd hc (by decide)) (fun hc => ?_)
      refine j_iload_n x dL_law_266 rfl ?_
      refine j_iconst (v := 3) x dL_law_267 (by decide) ?_
      refine j_icmp_eq (tgt := 300) x dL_law_268 (by decide) (fun hc => absurd hc (by decide)) (fun hc => ?_)
      refine j_iload_n x dL_law_271 rfl ?_
      refine j_iconst (v := 5) x dL_law_272 (by decide) ?_
      refine j_icmp_eq (tgt := 300) x dL_law_273 (by decide) (fun hc => absurd hc (by decide)) (fun hc => ?_)
      refine j_iload_n x dL_law_276 rfl ?_
      refine j_bipush (v := 7) x dL_law_277 (by decide) ?_
      refine j_icmp_eq (tgt := 300) x dL_law_279 (by decide) (fun hc => ?_) (fun hc => absurd (rfl) hc)
      refine j_iconst (v := 3) x dL_law_300 (by decide) ?_
      refine j_goto (tgt := 306) x dL_law_301 (by decide) ?_
      refine j_icmp_eq (tgt := 311) x dL_law_306 (by decide) (fun hc => ?_) (fun hc => absurd (by decide) hc)
      refine j_iinc x dL_law_311 rfl (by decide) rfl ?_
      refine j_goto (tgt := 230) x dL_law_314 (by decide) ?_
      exact kk0 _ _ _ _ _ I hz0 (wk_c rfl (wk_c rfl (wk_c (congrArg (fun z => some (Value.int z)) (nI_1 _)) (wk_n (wk_n (wk_n (wk_n (wk_n (wk_n (wk_n (wk_n wk_0))))))))))) (by omega) (by omega)
    · refine j_iload_n x dL_law_261 rfl ?_
      refine j_iconst (v := 1) x dL_law_262 (by decide) ?_
      refine j_icmp_eq (tgt := 300) x dL_law_263 (by decide) (fun hc => absurd hc (by decide)) (fun hc => ?_)
      refine j_iload_n x dL_law_266 rfl ?_
      refine j_iconst (v := 3) x dL_law_267 (by decide) ?_
      refine j_icmp_eq (tgt := 300) x dL_law_268 (by decide) (fun hc => absurd hc (by decide)) (fun hc => ?_)
      refine j_iload_n x dL_law_271 rfl ?_
      refine j_iconst (v := 5) x dL_law_272 (by decide) ?_
      refine j_icmp_eq (tgt := 300) x dL_law_273 (by decide) (fun hc => absurd hc (by decide)) (fun hc => ?_)
      refine j_iload_n x dL_law_276 rfl ?_
      refine j_bipush (v := 7) x dL_law_277 (by decide) ?_
      refine j_icmp_eq (tgt := 300) x dL_law_279 (by decide) (fun hc => absurd hc (by decide)) (fun hc => ?_)
      refine j_iload_n x dL_law_282 rfl ?_
      refine j_bipush (v := 9) x dL_law_283 (by decide) ?_
      refine j_icmp_eq (tgt := 300) x dL_law_285 (by decide) (fun hc => absurd hc (by decide)) (fun hc => ?_)
      refine j_iload_n x dL_law_288 rfl ?_
      refine j_bipush (v := 11) x dL_law_289 (by decide) ?_
      refine j_icmp_eq (tgt := 300) x dL_law_291 (by decide) (fun hc => absurd hc (by decide)) (fun hc => ?_)
      refine j_iload_n x dL_law_294 rfl ?_
      refine j_bipush (v := 13) x dL_law_295 (by decide) ?_
      refine j_icmp_ne (tgt := 304) x dL_law_297 (by decide) (fun hc => ?_) (fun hc => absurd hc (by decide))
      refine j_bipush (v := 6) x dL_law_304 (by decide) ?_
      refine j_icmp_eq (tgt := 311) x dL_law_306 (by decide) (fun hc => ?_) (fun hc => absurd (by decide) hc)
      refine j_iinc x dL_law_311 rfl (by decide) rfl ?_
      refine j_goto (tgt := 230) x dL_law_314 (by decide) ?_
      exact kk0 _ _ _ _ _ I hz0 (wk_c rfl (wk_c rfl (wk_c (congrArg (fun z => some (Value.int z)) (nI_1 _)) (wk_n (wk_n (wk_n (wk_n (wk_n (wk_n (wk_n (wk_n wk_0))))))))))) (by omega) (by omega)
    · refine j_iload_n x dL_law_261 rfl ?_
      refine j_iconst (v := 1) x dL_law_262 (by decide) ?_
      refine j_icmp_eq (tgt := 300) x dL_law_263 (by decide) (fun hc => absurd hc (by decide)) (fun hc => ?_)
      refine j_iload_n x dL_law_266 rfl ?_
      refine j_iconst (v := 3) x dL_law_267 (by decide) ?_
      refine j_icmp_eq (tgt := 300) x dL_law_268 (by decide) (fun hc => absurd hc (by decide)) (fun hc => ?_)
      refine j_iload_n x dL_law_271 rfl ?_
      refine j_iconst (v := 5) x dL_law_272 (by decide) ?_
      refine j_icmp_eq (tgt := 300) x dL_law_273 (by decide) (fun hc => absurd hc (by decide)) (fun hc => ?_)
      refine j_iload_n x dL_law_276 rfl ?_
      refine j_bipush (v := 7) x dL_law_277 (by decide) ?_
      refine j_icmp_eq (tgt := 300) x dL_law_279 (by decide) (fun hc => absurd hc (by decide)) (fun hc => ?_)
      refine j_iload_n x dL_law_282 rfl ?_
      refine j_bipush (v := 9) x dL_law_283 (by decide) ?_
      refine j_icmp_eq (tgt := 300) x dL_law_285 (by decide) (fun hc => ?_) (fun hc => absurd (rfl) hc)
      refine j_iconst (v := 3) x dL_law_300 (by decide) ?_
      refine j_goto (tgt := 306) x dL_law_301 (by decide) ?_
      refine j_icmp_eq (tgt := 311) x dL_law_306 (by decide) (fun hc => ?_) (fun hc => absurd (by decide) hc)
      refine j_iinc x dL_law_311 rfl (by decide) rfl ?_
      refine j_goto (tgt := 230) x dL_law_314 (by decide) ?_
      exact kk0 _ _ _ _ _ I hz0 (wk_c rfl (wk_c rfl (wk_c (congrArg (fun z => some (Value.int z)) (nI_1 _)) (wk_n (wk_n (wk_n (wk_n (wk_n (wk_n (wk_n (wk_n wk_0))))))))))) (by omega) (by omega)
    · refine j_iload_n x dL_law_261 rfl ?_
      refine j_iconst (v := 1) x dL_law_262 (by decide) ?_
      refine j_icmp_eq (tgt := 300) x dL_law_263 (by decide) (fun hc => absurd hc (by decide)) (fun hc => ?_)
      refine j_iload_n x dL_law_266 rfl ?_
      refine j_iconst (v := 3) x dL_law_267 (by decide) ?_
      refine j_icmp_eq (tgt := 300) x dL_law_268 (by decide) (fun hc => absurd hc (by decide)) (fun hc => ?_)
      refine j_iload_n x dL_law_271 rfl ?_
      refine j_iconst (v := 5) x dL_law_272 (by decide) ?_
      refine j_icmp_eq (tgt := 300) x dL_law_273 (by decide) (fun hc => absurd hc (by decide)) (fun hc => ?_)
      refine j_iload_n x dL_law_276 rfl ?_
      refine j_bipush (v := 7) x dL_law_277 (by decide) ?_
      refine j_icmp_eq (tgt := 300) x dL_law_279 (by decide) (fun hc => absurd hc (by decide)) (fun hc => ?_)
      refine j_iload_n x dL_law_282 rfl ?_
      refine j_bipush (v := 9) x dL_law_283 (by decide) ?_
      refine j_icmp_eq (tgt := 300) x dL_law_285 (by decide) (fun hc => absurd hc (by decide)) (fun hc => ?_)
      refine j_iload_n x dL_law_288 rfl ?_
      refine j_bipush (v := 11) x dL_law_289 (by decide) ?_
      refine j_icmp_eq (tgt := 300) x dL_law_291 (by decide) (fun hc => absurd hc (by decide)) (fun hc => ?_)
      refine j_iload_n x dL_law_294 rfl ?_
      refine j_bipush (v := 13) x dL_law_295 (by decide) ?_
      refine j_icmp_ne (tgt := 304) x dL_law_297 (by decide) (fun hc => ?_) (fun hc => absurd hc (by decide))
      refine j_bipush (v := 6) x dL_law_304 (by decide) ?_
      refine j_icmp_eq (tgt := 311) x dL_law_306 (by decide) (fun hc => ?_) (fun hc => absurd (by decide) hc)
      refine j_iinc x dL_law_311 rfl (by decide) rfl ?_
      refine j_goto (tgt := 230) x dL_law_314 (by decide) ?_
      exact kk0 _ _ _ _ _ I hz0 (wk_c rfl (wk_c rfl (wk_c (congrArg (fun z => some (Value.int z)) (nI_1 _)) (wk_n (wk_n (wk_n (wk_n (wk_n (wk_n (wk_n (wk_n wk_0))))))))))) (by omega) (by omega)
    · refine j_iload_n x dL_law_261 rfl ?_
      refine j_iconst (v := 1) x dL_law_262 (by decide) ?_
      refine j_icmp_eq (tgt := 300) x dL_law_263 (by decide) (fun hc => absurd hc (by decide)) (fun hc => ?_)
      refine j_iload_n x dL_law_266 rfl ?_
      refine j_iconst (v := 3) x dL_law_267 (by decide) ?_
      refine j_icmp_eq (tgt := 300) x dL_law_268 (by decide) (fun hc => absurd hc (by decide)) (fun hc => ?_)
      refine j_iload_n x dL_law_271 rfl ?_
      refine j_iconst (v := 5) x dL_law_272 (by decide) ?_
      refine j_icmp_eq (tgt := 300) x dL_law_273 (by decide) (fun hc => absurd hc (by decide)) (fun hc => ?_)
      refine j_iload_n x dL_law_276 rfl ?_
      refine j_bipush (v := 7) x dL_law_277 (by decide) ?_
      refine j_icmp_eq (tgt := 300) x dL_law_279 (by decide) (fun hc => absurd hc (by decide)) (fun hc => ?_)
      refine j_iload_n x dL_law_282 rfl ?_
      refine j_bipush (v := 9) x dL_law_283 (by decide) ?_
      refine j_icmp_eq (tgt := 300) x dL_law_285 (by decide) (fun hc => absurd hc (by decide)) (fun hc => ?_)
      refine j_iload_n x dL_law_288 rfl ?_
      refine j_bipush (v := 11) x dL_law_289 (by decide) ?_
      refine j_icmp_eq (tgt := 300) x dL_law_291 (by decide) (fun hc => ?_) (fun hc => absurd (rfl) hc)
      refine j_iconst (v := 3) x dL_law_300 (by decide) ?_
      refine j_goto (tgt := 306) x dL_law_301 (by decide) ?_
      refine j_icmp_eq (tgt := 311) x dL_law_306 (by decide) (fun hc => ?_) (fun hc => absurd (by decide) hc)
      refine j_iinc x dL_law_311 rfl (by decide) rfl ?_
      refine j_goto (tgt := 230) x dL_law_314 (by decide) ?_
      exact kk0 _ _ _ _ _ I hz0 (wk_c rfl (wk_c rfl (wk_c (congrArg (fun z => some (Value.int z)) (nI_1 _)) (wk_n (wk_n (wk_n (wk_n (wk_n (wk_n (wk_n (wk_n wk_0))))))))))) (by omega) (by omega)
    · refine j_iload_n x dL_law_261 rfl ?_
      refine j_iconst (v := 1) x dL_law_262 (by decide) ?_
      refine j_icmp_eq (tgt := 300) x dL_law_263 (by decide) (fun hc => absurd hc (by decide)) (fun hc => ?_)
      refine j_iload_n x dL_law_266 rfl ?_
      refine j_iconst (v := 3) x dL_law_267 (by decide) ?_
      refine j_icmp_eq (tgt := 300) x dL_law_268 (by decide) (fun hc => absurd hc (by decide)) (fun hc => ?_)
      refine j_iload_n x dL_law_271 rfl ?_
      refine j_iconst (v := 5) x dL_law_272 (by decide) ?_
      refine j_icmp_eq (tgt := 300) x dL_law_273 (by decide) (fun hc => absurd hc (by decide)) (fun hc => ?_)
      refine j_iload_n x dL_law_276 rfl ?_
      refine j_bipush (v := 7) x dL_law_277 (by decide) ?_
      refine j_icmp_eq (tgt := 300) x dL_law_279 (by decide) (fun hc => absurd hc (by decide)) (fun hc => ?_)
      refine j_iload_n x dL_law_282 rfl ?_
      refine j_bipush (v := 9) x dL_law_283 (by decide) ?_
      refine j_icmp_eq (tgt := 300) x dL_law_285 (by decide) (fun hc => absurd hc (by decide)) (fun hc => ?_)
      refine j_iload_n x dL_law_288 rfl ?_
      refine j_bipush (v := 11) x dL_law_289 (by decide) ?_
      refine j_icmp_eq (tgt := 300) x dL_law_291 (by decide) (fun hc => absurd hc (by decide)) (fun hc => ?_)
      refine j_iload_n x dL_law_294 rfl ?_
      refine j_bipush (v := 13) x dL_law_295 (by decide) ?_
      refine j_icmp_ne (tgt := 304) x dL_law_297 (by decide) (fun hc => ?_) (fun hc => absurd hc (by decide))
      refine j_bipush (v := 6) x dL_law_304 (by decide) ?_
      refine j_icmp_eq (tgt := 311) x dL_law_306 (by decide) (fun hc => ?_) (fun hc => absurd (by decide) hc)
      refine j_iinc x dL_law_311 rfl (by decide) rfl ?_
      refine j_goto (tgt := 230) x dL_law_314 (by decide) ?_
      exact kk0 _ _ _ _ _ I hz0 (wk_c rfl (wk_c rfl (wk_c (congrArg (fun z => some (Value.int z)) (nI_1 _)) (wk_n (wk_n (wk_n (wk_n (wk_n (wk_n (wk_n (wk_n wk_0))))))))))) (by omega) (by omega)
    · refine j_iload_n x dL_law_261 rfl ?_
      refine j_iconst (v := 1) x dL_law_262 (by decide) ?_
      refine j_icmp_eq (tgt := 300) x dL_law_263 (by decide) (fun hc => absurd hc (by decide)) (fun hc => ?_)
      refine j_iload_n x dL_law_266 rfl ?_
      refine j_iconst (v := 3) x dL_law_267 (by decide) ?_
      refine j_icmp_eq (tgt := 300) x dL_law_268 (by decide) (fun hc => absurd hc (by decide)) (fun hc => ?_)
      refine j_iload_n x dL_law_271 rfl ?_
      refine j_iconst (v := 5) x dL_law_272 (by decide) ?_
      refine j_icmp_eq (tgt := 300) x dL_law_273 (by decide) (fun hc => absurd hc (by decide)) (fun hc => ?_)
      refine j_iload_n x dL_law_276 rfl ?_
      refine j_bipush (v := 7) x dL_law_277 (by decide) ?_
      refine j_icmp_eq (tgt := 300) x dL_law_279 (by decide) (fun hc => absurd hc (by decide)) (fun hc => ?_)
      refine j_iload_n x dL_law_282 rfl ?_
      refine j_bipush (v := 9) x dL_law_283 (by decide) ?_
      refine j_icmp_eq (tgt := 300) x dL_law_285 (by decide) (fun hc => absurd hc (by decide)) (fun hc => ?_)
      refine j_iload_n x dL_law_288 rfl ?_
      refine j_bipush (v := 11) x dL_law_289 (by decide) ?_
      refine j_icmp_eq (tgt := 300) x dL_law_291 (by decide) (fun hc => absurd hc (by decide)) (fun hc => ?_)
      refine j_iload_n x dL_law_294 rfl ?_
      refine j_bipush (v := 13) x dL_law_295 (by decide) ?_
      refine j_icmp_ne (tgt := 304) x dL_law_297 (by decide) (fun hc => absurd hc (fun z => z rfl)) (fun hc => ?_)
      refine j_iconst (v := 3) x dL_law_300 (by decide) ?_
      refine j_goto (tgt := 306) x dL_law_301 (by decide) ?_
      refine j_icmp_eq (tgt := 311) x dL_law_306 (by decide) (fun hc => ?_) (fun hc => absurd (by decide) hc)
      refine j_iinc x dL_law_311 rfl (by decide) rfl ?_
      refine j_goto (tgt := 230) x dL_law_314 (by decide) ?_
      exact kk0 _ _ _ _ _ I hz0 (wk_c rfl (wk_c rfl (wk_c (congrArg (fun z => some (Value.int z)) (nI_1 _)) (wk_n (wk_n (wk_n (wk_n (wk_n (wk_n (wk_n (wk_n wk_0))))))))))) (by omega) (by omega)
  · refine j_iload_n x dL_law_230 rfl ?_
    refine j_bipush (v := 14) x dL_law_231 (by decide) ?_
    refine j_icmp_ge (tgt := 317) x dL_law_233 (by decide) (fun _ => ?_) (fun hc => absurd ((nI_le (Nat.le_refl 14) (by decide) : nI 14 ≤ nI 14)) hc)
    exact j_locW (wk_c rfl (wk_c rfl (wk_n (wk_n (wk_n (wk_n (wk_n (wk_n (wk_n (wk_n (wk_n wk_0))))))))))) (j_widen (by omega) (by omega) (KK _ _ I hz))
set_option maxHeartbeats 20000000 in
/-- who meets whom -/
theorem law_e5 {N : Nat} (X : LX p l s m meth c D tyc sb N xs) {A B : MM} (I : InvP b0 A B) (hz : At B R3 ∧ SavR B ∧ B 94 9 = 0 ∧ B 94 3 = nI 8) (KK : ∀ A B, InvP b0 A B → At B R3 ∧ SavR B ∧ B 94 9 = 0 ∧ B 94 3 = nI 8 → LJ p l e s m below meth c D tyc sb ad0 411 [some (.retAddr sb), some (.ref 0), none, none, none, none, none, none, none, none, none] [] (HH b0 Y0 A) 450 4300) : LJ p l e s m below meth c D tyc sb ad0 317 [some (.retAddr sb), some (.ref 0), none, none, none, none, none, none, none, none, none] [] (HH b0 Y0 A) 400 4200 := by
  obtain ⟨x, hr, hX, hb1, hb2⟩ := id X
  have hz0 := hz
  obtain ⟨z1, z2, z3, z4⟩ := hz0
  have D8 : Dr B 8 := Dr_3 z1 (by decide +kernel) (by decide +kernel)
  have ec : cn B = cl R3 := At_cn z1
  refine j_aload_n x dL_law_317 rfl ?_
  refine j_bipush (v := 12) x dL_law_318 (by decide) ?_
  refine q_call x I (Q_account_12 (Y := Y0) I.hb (I.L D8) (I.F D8)) dL_law_320 m_L_account (by decide) wmL_172 rfl (Nat.le_of_ble_eq_true rfl) (fun mc ms z1 z2 => j_fit_room (by decide) (by omega) (by omega)) rfl (fun A I => ?_)
  refine j_top (show jsum (fun w => gpairs (cn B) (nn 8 true) (nI w)) (zz 8 true) = 63 by rw [ec, z8.1, z8.2]; exact e5_12) ?_
  refine j_bipush (v := 63) x dL_law_323 (by decide) ?_
  refine j_icmp_ne (tgt := 409) x dL_law_325 (by decide) (fun hc => absurd hc (fun z => z rfl)) (fun hc => ?_)
  refine j_aload_n x dL_law_328 rfl ?_
  refine j_iconst (v := 0) x dL_law_329 (by decide) ?_
  refine j_iconst (v := 1) x dL_law_330 (by decide) ?_
  refine q_call x I (Q_meetingOf_1 (Y := Y0) I.hb (I.L D8) (I.F D8) (q := 0) (by rw [z8.2]; decide)) dL_law_331 m_L_meetingOf (by decide) wmL_174 rfl (Nat.le_of_ble_eq_true rfl) (fun mc ms z1 z2 => j_fit_room (by decide) (by omega) (by omega)) rfl (fun A I => ?_)
  refine j_top (show jof (cn B) 0 0 = 0 by rw [ec]; exact e5_t.1) ?_
  refine j_if_ne (tgt := 409) x dL_law_334 (by decide) (fun hc => absurd hc (fun z => z rfl)) (fun hc => ?_)
  refine j_aload_n x dL_law_337 rfl ?_
  refine j_iconst (v := 0) x dL_law_338 (by decide) ?_
  refine j_iconst (v := 2) x dL_law_339 (by decide) ?_
  refine q_call x I (Q_meetingOf_2 (Y := Y0) I.hb (I.L D8) (I.F D8) (q := 0) (by rw [z8.2]; decide)) dL_law_340 m_L_meetingOf (by decide) wmL_174 rfl (Nat.le_of_ble_eq_true rfl) (fun mc ms z1 z2 => j_fit_room (by decide) (by omega) (by omega)) rfl (fun A I => ?_)
  refine j_top (show jof (cn B) 0 1 = 7 by rw [ec]; exact e5_t.2.1) ?_
  refine j_bipush (v := 7) x dL_law_343 (by decide) ?_
  refine j_icmp_ne (tgt := 409) x dL_law_345 (by decide) (fun hc => absurd hc (fun z => z rfl)) (fun hc => ?_)
  refine j_aload_n x dL_law_348 rfl ?_
  refine j_iconst (v := 3) x dL_law_349 (by decide) ?_
  refine j_iconst (v := 1) x dL_law_350 (by decide) ?_
  refine q_call x I (Q_meetingOf_1 (Y := Y0) I.hb (I.L D8) (I.F D8) (q := 3) (by rw [z8.2]; decide)) dL_law_351 m_L_meetingOf (by decide) wmL_174 rfl (Nat.le_of_ble_eq_true rfl) (fun mc ms z1 z2 => j_fit_room (by decide) (by omega) (by omega)) rfl (fun A I => ?_)
  refine j_top (show jof (cn B) 3 0 = 6 by rw [ec]; exact e5_t.2.2.1) ?_
  refine j_bipush (v := 6) x dL_law_354 (by decide) ?_
  refine j_icmp_ne (tgt := 409) x dL_law_356 (by decide) (fun hc => absurd hc (fun z => z rfl)) (fun hc => ?_)
  refine j_aload_n x dL_law_359 rfl ?_
  refine j_iconst (v := 3) x dL_law_360 (by decide) ?_
  refine j_iconst (v := 2) x dL_law_361 (by decide) ?_
  refine q_call x I (Q_meetingOf_2 (Y := Y0) I.hb (I.L D8) (I.F D8) (q := 3) (by rw [z8.2]; decide)) dL_law_362 m_L_meetingOf (by decide) wmL_174 rfl (Nat.le_of_ble_eq_true rfl) (fun mc ms z1 z2 => j_fit_room (by decide) (by omega) (by omega)) rfl (fun A I => ?_)
  refine j_top (show jof (cn B) 3 1 = 1 by rw [ec]; exact e5_t.2.2.2.1) ?_
  refine j_iconst (v := 1) x dL_law_365 (by decide) ?_
  refine j_icmp_ne (tgt := 409) x dL_law_366 (by decide) (fun hc => absurd hc (fun z => z rfl)) (fun hc => ?_)
  refine j_aload_n x dL_law_369 rfl ?_
  refine j_iconst (v := 1) x dL_law_370 (by decide) ?_
  refine j_iconst (v := 1) x dL_law_371 (by decide) ?_
  refine q_call x I (Q_meetingOf_1 (Y := Y0) I.hb (I.L D8) (I.F D8) (q := 1) (by rw [z8.2]; decide)) dL_law_372 m_L_meetingOf (by decide) wmL_174 rfl (Nat.le_of_ble_eq_true rfl) (fun mc ms z1 z2 => j_fit_room (by decide) (by omega) (by omega)) rfl (fun A I => ?_)
  refine j_top (show jof (cn B) 1 0 = 2 by rw [ec]; exact e5_t.2.2.2.2.1) ?_
  refine j_iconst (v := 2) x dL_law_375 (by decide) ?_
  refine j_icmp_ne (tgt := 409) x dL_law_376 (by decide) (fun hc => absurd hc (fun z => z rfl)) (fun hc => ?_)
  refine j_aload_n x dL_law_379 rfl ?_
  refine j_iconst (v := 1) x dL_law_380 (by decide) ?_
  refine j_iconst (v := 2) x dL_law_381 (by decide) ?_
  refine q_call x I (Q_meetingOf_2 (Y := Y0) I.hb (I.L D8) (I.F D8) (q := 1) (by rw [z8.2]; decide)) dL_law_382 m_L_meetingOf (by decide) wmL_174 rfl (Nat.le_of_ble_eq_true rfl) (fun mc ms z1 z2 => j_fit_room (by decide) (by omega) (by omega)) rfl (fun A I => ?_)
  refine j_top (show jof (cn B) 1 1 = 5 by rw [ec]; exact e5_t.2.2.2.2.2.1) ?_
  refine j_iconst (v := 5) x dL_law_385 (by decide) ?_
  refine j_icmp_ne (tgt := 409) x dL_law_386 (by decide) (fun hc => absurd hc (fun z => z rfl)) (fun hc => ?_)
  refine j_aload_n x dL_law_389 rfl ?_
  refine j_iconst (v := 2) x dL_law_390 (by decide) ?_
  refine j_iconst (v := 1) x dL_law_391 (by decide) ?_
  refine q_call x I (Q_meetingOf_1 (Y := Y0) I.hb (I.L D8) (I.F D8) (q := 2) (by rw [z8.2]; decide)) dL_law_392 m_L_meetingOf (by decide) wmL_174 rfl (Nat.le_of_ble_eq_true rfl) (fun mc ms z1 z2 => j_fit_room (by decide) (by omega) (by omega)) rfl (fun A I => ?_)
  refine j_top (show jof (cn B) 2 0 = 4 by rw [ec]; exact e5_t.2.2.2.2.2.2.1) ?_
  refine j_iconst (v := 4) x dL_law_395 (by decide) ?_
  refine j_icmp_ne (tgt := 409) x dL_law_396 (by decide) (fun hc => absurd hc (fun z => z rfl)) (fun hc => ?_)
  refine j_aload_n x dL_law_399 rfl ?_
  refine j_iconst (v := 2) x dL_law_400 (by decide) ?_
  refine j_iconst (v := 2) x dL_law_401 (by decide) ?_
  refine q_call x I (Q_meetingOf_2 (Y := Y0) I.hb (I.L D8) (I.F D8) (q := 2) (by rw [z8.2]; decide)) dL_law_402 m_L_meetingOf (by decide) wmL_174 rfl (Nat.le_of_ble_eq_true rfl) (fun mc ms z1 z2 => j_fit_room (by decide) (by omega) (by omega)) rfl (fun A I => ?_)
  refine j_top (show jof (cn B) 2 1 = 3 by rw [ec]; exact e5_t.2.2.2.2.2.2.2) ?_
  refine j_iconst (v := 3) x dL_law_405 (by decide) ?_
  refine j_icmp_eq (tgt := 411) x dL_law_406 (by decide) (fun hc => ?_) (fun hc => absurd (rfl) hc)
  exact j_locW (wk_c rfl (wk_c rfl (wk_n (wk_n (wk_n (wk_n (wk_n (wk_n (wk_n (wk_n (wk_n wk_0))))))))))) (j_widen (by omega) (by omega) (KK _ _ I hz))
set_option maxHeartbeats 20000000 in
/-- four meetings are put off -/
theorem law_e6 {N : Nat} (X : LX p l s m meth c D tyc sb N xs) {A B : MM} (I : InvP b0 A B) (hz : At B R3 ∧ SavR B ∧ B 94 9 = 0 ∧ B 94 3 = nI 8) (KK : ∀ A B, InvP b0 A B → At B (RP 4) ∧ SavR B ∧ B 94 9 = 0 ∧ B 94 3 = nI 8 ∧ HK B 4 G4 → LJ p l e s m below meth c D tyc sb ad0 451 [some (.retAddr sb), some (.ref 0), none, none, none, none, none, none, none, none, none] [] (HH b0 Y0 A) 460 4400) : LJ p l e s m below meth c D tyc sb ad0 411 [some (.retAddr sb), some (.ref 0), none, none, none, none, none, none, none, none, none] [] (HH b0 Y0 A) 450 4300 := by
  obtain ⟨x, hr, hX, hb1, hb2⟩ := id X
  refine j_iconst (v := 0) x dL_law_411 (by decide) ?_
  refine j_istore_n x dL_law_412 (by decide) rfl ?_
  refine c_loop (4) (fun j => [some (.retAddr sb), some (.ref 0), some (.int (nI j)), none, none, none, none, none, none, none, none]) (fun j B => At B (RP j) ∧ SavR B ∧ B 94 9 = 0 ∧ B 94 3 = nI 8 ∧ HK B j G4) (450 + 0) (4300 + 0) 1 6 I (⟨hz.1, hz.2.1, hz.2.2.1, hz.2.2.2, HK_0 I G4⟩) (wk_c rfl (wk_c rfl (wk_c rfl (wk_n (wk_n (wk_n (wk_n (wk_n (wk_n (wk_n (wk_n wk_0))))))))))) (by omega) (by omega) (fun j0 hj0 A B I hz kk0 => ?_) (fun A B I hz => ?_)
  · obtain ⟨z1, z2, z3, z4, z5⟩ := hz
    obtain ⟨f0, f1, f9, f2⟩ := RP_f j0 (by omega)
    obtain ⟨g1, g2⟩ := RP_g j0 hj0
    have e2 : B 95 2 + 9 = 9 := by rw [z1 2 (by omega), f2]; rfl
    refine j_iload_n x dL_law_413 rfl ?_
    refine j_iconst (v := 4) x dL_law_414 (by decide) ?_
    refine j_icmp_ge (tgt := 451) x dL_law_415 (by decide) (fun hc => absurd hc ((nI_ge hj0 (by decide) : ¬ nI 4 ≤ nI j0))) (fun _ => ?_)
    refine j_aload_n x dL_law_418 rfl ?_
    refine j_iload_n x dL_law_419 rfl ?_
    refine j_bipush (v := 9) x dL_law_420 (by decide) ?_
    refine c_call x (PO_putOff (Y := Y0) I (by rw [z1 1 (by omega), f1]; decide) (n := 56) (q := j0) ((z1 9 (by omega)).trans f9) (by decide) (by omega) (u := 9) ((gPut_cl z1 (by omega)).trans g1)) dL_law_422 m_L_putOff (by decide) wmL_177 rfl (Nat.le_of_ble_eq_true rfl) (fun mc ms z1 z2 => j_fit_room (by decide) (by omega) (by omega)) rfl (fun v A B1 I1 hc1 => ?_)
    obtain ⟨ey, hO⟩ := hc1
    have hN : At (gPutS B j0 9) (RP (j0 + 1)) := by
      unfold gPutS
      rw [e2]
      exact At_jsets (At_jsets z1)
    rw [e2] at ey
    refine j_top (ey.trans ((jsum_c fun i hi => gCl_cl hN (RP_b (j0 + 1) (by omega)) (by omega) hi).trans g2)) ?_
    have v1 : At B1 (RP (j0 + 1)) := At_o hO hN
    refine j_iconst (v := 4) x dL_law_425 (by decide) ?_
    refine j_iload_n x dL_law_426 rfl ?_
    refine j_iadd x dL_law_427 ?_
    refine j_top (show (4 : Int32) + nI j0 = nI (4 + j0) from nI_add 4 j0) ?_
    refine j_iload_n x dL_law_428 rfl ?_
    refine j_bipush (v := 9) x dL_law_429 (by decide) ?_
    refine j_icmp_ge (tgt := 438) x dL_law_431 (by decide) (fun hc => absurd hc ((nI_ge (show j0 < 9 by omega) (by decide) : ¬ nI 9 ≤ nI j0))) (fun _ => ?_)
    refine j_iconst (v := 1) x dL_law_434 (by decide) ?_
    refine j_goto (tgt := 439) x dL_law_435 (by decide) ?_
    refine j_isub x dL_law_439 ?_
    refine j_top (show nI (4 + j0) - 1 = nI (3 + j0) from (nI_sub (a := 4 + j0) (d := 1) (by omega)).trans (congrArg nI (by omega))) ?_
    refine j_icmp_eq (tgt := 445) x dL_law_440 (by decide) (fun hc => ?_) (fun hc => absurd (rfl) hc)
    refine j_iinc x dL_law_445 rfl (by decide) rfl ?_
    refine j_goto (tgt := 413) x dL_law_448 (by decide) ?_
    exact kk0 _ _ _ _ _ I1 ⟨v1, SavR_p z2 hO.1, hO.2.2.1.trans z3, cnt_p (k := 8) (by decide) z4 hO.1, HK_pushG z5 hO.1 (fun c hc => by rw [G4_le (by omega)]; exact z1 c hc)⟩ (wk_c rfl (wk_c rfl (wk_c (congrArg (fun z => some (Value.int z)) (nI_1 _)) (wk_n (wk_n (wk_n (wk_n (wk_n (wk_n (wk_n (wk_n wk_0))))))))))) (by omega) (by omega)
  · refine j_iload_n x dL_law_413 rfl ?_
    refine j_iconst (v := 4) x dL_law_414 (by decide) ?_
    refine j_icmp_ge (tgt := 451) x dL_law_415 (by decide) (fun _ => ?_) (fun hc => absurd ((nI_le (Nat.le_refl 4) (by decide) : nI 4 ≤ nI 4)) hc)
    exact j_locW (wk_c rfl (wk_c rfl (wk_n (wk_n (wk_n (wk_n (wk_n (wk_n (wk_n (wk_n (wk_n wk_0))))))))))) (j_widen (by omega) (by omega) (KK _ _ I hz))
set_option maxHeartbeats 20000000 in
/-- questions; the next week; two results; four steps back -/
theorem law_e7 {N : Nat} (X : LX p l s m meth c D tyc sb N xs) {A B : MM} (I : InvP b0 A B) (hz : At B (RP 4) ∧ SavR B ∧ B 94 9 = 0 ∧ B 94 3 = nI 8 ∧ HK B 4 G4) (KK : ∀ A B, InvP b0 A B → SavR B → LJ p l e s m below meth c D tyc sb ad0 588 [some (.retAddr sb), some (.ref 0), none, none, none, none, none, none, none, none, none] [] (HH b0 Y0 A) 480 4600) : LJ p l e s m below meth c D tyc sb ad0 451 [some (.retAddr sb), some (.ref 0), none, none, none, none, none, none, none, none, none] [] (HH b0 Y0 A) 460 4400 := by
  obtain ⟨x, hr, hX, hb1, hb2⟩ := id X
  obtain ⟨z1, z2, z3, z4, z5⟩ := hz
  have D8 : Dr B 8 := Dr_3 z1 (by decide +kernel) (by decide +kernel)
  have ec : cn B = cl (RP 4) := At_cn z1
  refine j_aload_n x dL_law_451 rfl ?_
  refine j_bipush (v := 6) x dL_law_452 (by decide) ?_
  refine q_call x I (Q_account_6 (Y := Y0) I.hb (I.L D8) (I.F D8)) dL_law_454 m_L_account (by decide) wmL_172 rfl (Nat.le_of_ble_eq_true rfl) (fun mc ms z1 z2 => j_fit_room (by decide) (by omega) (by omega)) rfl (fun A I => ?_)
  refine j_top (show jsum (gPutC (cn B)) (nn 8 true) = 4 by rw [ec, z8.2]; exact e7_6) ?_
  refine j_iconst (v := 4) x dL_law_457 (by decide) ?_
  refine j_icmp_ne (tgt := 586) x dL_law_458 (by decide) (fun hc => absurd hc (fun z => z rfl)) (fun hc => ?_)
  refine j_aload_n x dL_law_461 rfl ?_
  refine j_bipush (v := 9) x dL_law_462 (by decide) ?_
  refine q_call x I (Q_meetingsIn (Y := Y0) I.hb (I.L D8) (I.F D8) (q := 9) (by rw [z8.1]; decide)) dL_law_464 m_L_meetingsIn (by decide) wmL_230 rfl (Nat.le_of_ble_eq_true rfl) (fun mc ms z1 z2 => j_fit_room (by decide) (by omega) (by omega)) rfl (fun A I => ?_)
  refine j_top (show jsum (gIn (cn B) (nI 9)) (nn 8 true) = 8 by rw [ec, z8.2]; exact e7_m) ?_
  refine j_bipush (v := 8) x dL_law_467 (by decide) ?_
  refine j_icmp_ne (tgt := 586) x dL_law_469 (by decide) (fun hc => absurd hc (fun z => z rfl)) (fun hc => ?_)
  refine j_aload_n x dL_law_472 rfl ?_
  refine j_bipush (v := 9) x dL_law_473 (by decide) ?_
  refine q_call x I (Q_clashes (Y := Y0) I.hb (I.L D8) (I.F D8) (q := 9) (by rw [z8.1]; decide)) dL_law_475 m_L_clashes (by decide) wmL_232 rfl (Nat.le_of_ble_eq_true rfl) (fun mc ms z1 z2 => j_fit_room (by decide) (by omega) (by omega)) rfl (fun A I => ?_)
  refine j_top (show gpairs (cn B) (nn 8 true) (nI 9) = 21 by rw [ec, z8.2]; exact e7_c) ?_
  refine j_bipush (v := 21) x dL_law_478 (by decide) ?_
  refine j_icmp_ne (tgt := 586) x dL_law_480 (by decide) (fun hc => absurd hc (fun z => z rfl)) (fun hc => ?_)
  refine j_aload_n x dL_law_483 rfl ?_
  refine j_iconst (v := 0) x dL_law_484 (by decide) ?_
  refine q_call x I (Q_freeWeek (Y := Y0) I.hb (I.L D8) (I.F D8) (q := 0) (by rw [z8.2]; decide)) dL_law_485 m_L_freeWeek (by decide) wmL_224 rfl (Nat.le_of_ble_eq_true rfl) (fun mc ms z1 z2 => j_fit_room (by decide) (by omega) (by omega)) rfl (fun A I => ?_)
  refine j_top (show gOr2 (gfree (cn B) (nn 8 true) (zz 8 true) (jof (cn B) 0 2).toNatClampNeg 0) = -1002 by rw [ec, z8.1, z8.2]; exact e7_f) ?_
  refine j_sipush (v := (-1002)) x dL_law_488 (by decide) ?_
  refine j_icmp_ne (tgt := 586) x dL_law_491 (by decide) (fun hc => absurd hc (fun z => z rfl)) (fun hc => ?_)
  refine j_aload_n x dL_law_494 rfl ?_
  refine c_call x (PO_next (Y := Y0) I D8.2.2 (n := 56) ((z1 9 (by omega)).trans (RP_f 4 (by decide)).2.2.1) (by decide) ((gNext_cl z1).trans e7_n)) dL_law_495 m_L_next (by decide) wmL_182 rfl (Nat.le_of_ble_eq_true rfl) (fun mc ms z1 z2 => j_fit_room (by decide) (by omega) (by omega)) rfl (fun v A B1 I1 hc1 => ?_)
  obtain ⟨ey, hO1⟩ := hc1
  have e2 : B 95 2 + 1 = 1 := by rw [z1 2 (by omega), (RP_f 4 (by decide)).2.2.2]; rfl
  refine j_top (ey.trans e2) ?_
  rw [e2] at hO1
  have n1 : At B1 RN := At_o hO1 (At_jm z1)
  have n5 := HK_pushG z5 hO1.1 (fun c hc => z1 c hc)
  refine j_iconst (v := 1) x dL_law_498 (by decide) ?_
  refine j_icmp_ne (tgt := 586) x dL_law_499 (by decide) (fun hc => absurd hc (fun z => z rfl)) (fun hc => ?_)
  refine j_aload_n x dL_law_502 rfl ?_
  refine j_iconst (v := 4) x dL_law_503 (by decide) ?_
  refine j_bipush (v := 20) x dL_law_504 (by decide) ?_
  refine j_iconst (v := 0) x dL_law_506 (by decide) ?_
  refine c_call x (PO_result (Y := Y0) I1 (by rw [n1 1 (by omega), RN_f.2.1]; decide) (n := 56) (q := 4) ((n1 9 (by omega)).trans RN_f.2.2) (by decide) (by decide) (u := 20) (v := 0) ((gRes_cl n1 (by decide)).trans RN_r.1)) dL_law_507 m_L_result (by decide) wmL_179 rfl (Nat.le_of_ble_eq_true rfl) (fun mc ms z1 z2 => j_fit_room (by decide) (by omega) (by omega)) rfl (fun v A B2 I2 hc2 => ?_)
  obtain ⟨ey, hO2⟩ := hc2
  have hN : At (gResS B1 4 20 0) R5 := At_jsets (At_jsets (At_jsets n1))
  refine j_top (ey.trans ((jsum_c fun i hi => gLeft_cl hN hi).trans RN_r.2)) ?_
  have r1 : At B2 R5 := At_o hO2 hN
  have n6 := HK_pushG n5 hO2.1 (fun c hc => n1 c hc)
  refine j_iconst (v := 3) x dL_law_510 (by decide) ?_
  refine j_icmp_ne (tgt := 586) x dL_law_511 (by decide) (fun hc => absurd hc (fun z => z rfl)) (fun hc => ?_)
  refine j_aload_n x dL_law_514 rfl ?_
  refine j_iconst (v := 5) x dL_law_515 (by decide) ?_
  refine j_iconst (v := 0) x dL_law_516 (by decide) ?_
  refine j_bipush (v := 20) x dL_law_517 (by decide) ?_
  refine c_call x (PO_result (Y := Y0) I2 (by rw [r1 1 (by omega), R5_f.2.1]; decide) (n := 56) (q := 5) ((r1 9 (by omega)).trans R5_f.2.2) (by decide) (by decide) (u := 0) (v := 20) ((gRes_cl r1 (by decide)).trans R5_r.1)) dL_law_519 m_L_result (by decide) wmL_179 rfl (Nat.le_of_ble_eq_true rfl) (fun mc ms z1 z2 => j_fit_room (by decide) (by omega) (by omega)) rfl (fun v A B3 I3 hc3 => ?_)
  obtain ⟨ey, hO3⟩ := hc3
  have hN : At (gResS B2 5 0 20) R6 := At_jsets (At_jsets (At_jsets r1))
  refine j_top (ey.trans ((jsum_c fun i hi => gLeft_cl hN hi).trans R5_r.2)) ?_
  have s1 : At B3 R6 := At_o hO3 hN
  have n7 := HK_pushG n6 hO3.1 (fun c hc => r1 c hc)
  obtain ⟨k, hU⟩ := HU_0 n7
  have e8 : B3 94 3 = nI 8 := cnt_p (k := 8) (by decide) (cnt_p (k := 8) (by decide) (cnt_p (k := 8) (by decide) z4 hO1.1) hO2.1) hO3.1
  obtain rfl : k = 8 := (nI_eq (by have := hU.1; omega) (by decide)).mp (hU.2.2.2.1.symm.trans e8)
  have w2 := SavR_p (SavR_p (SavR_p z2 hO1.1) hO2.1) hO3.1
  refine j_iconst (v := 2) x dL_law_522 (by decide) ?_
  refine j_icmp_ne (tgt := 586) x dL_law_523 (by decide) (fun hc => absurd hc (fun z => z rfl)) (fun hc => ?_)
  refine j_aload_n x dL_law_526 rfl ?_
  refine c_call x (P_undo (Y := Y0) I3 hU (u := 0) (by decide)) dL_law_527 m_L_undo (by decide) wmL_289 rfl (Nat.le_of_ble_eq_true rfl) (fun mc ms z1 z2 => j_fit_room (by decide) (by omega) (by omega)) rfl (fun v A B4 I4 hc4 => ?_)
  obtain ⟨rfl, hU0, hR0, h98_0, h5_0⟩ := hc4
  have u0 : At B4 R5 := hR0
  refine j_bipush (v := 7) x dL_law_530 (by decide) ?_
  refine j_icmp_ne (tgt := 586) x dL_law_532 (by decide) (fun hc => absurd hc (fun z => z (by decide))) (fun hc => ?_)
  refine j_aload_n x dL_law_535 rfl ?_
  refine j_iconst (v := 5) x dL_law_536 (by decide) ?_
  have D8 : Dr B4 8 := Dr_3 u0 (by decide +kernel) (by decide +kernel)
  have ec : cn B4 = cl R5 := At_cn u0
  refine q_call x I4 (Q_account_5 (Y := Y0) I4.hb (I4.L D8) (I4.F D8)) dL_law_537 m_L_account (by decide) wmL_172 rfl (Nat.le_of_ble_eq_true rfl) (fun mc ms z1 z2 => j_fit_room (by decide) (by omega) (by omega)) rfl (fun A I4 => ?_)
  refine j_top (show jsum (fun m => jof (cn B4) m 4) (nn 8 true) = 1 by rw [ec, z8.2]; exact e7_5) ?_
  refine j_iconst (v := 1) x dL_law_540 (by decide) ?_
  refine j_icmp_ne (tgt := 586) x dL_law_541 (by decide) (fun hc => absurd hc (fun z => z rfl)) (fun hc => ?_)
  refine j_aload_n x dL_law_544 rfl ?_
  refine c_call x (P_undo (Y := Y0) I4 hU0 (u := 1) (by decide)) dL_law_545 m_L_undo (by decide) wmL_289 rfl (Nat.le_of_ble_eq_true rfl) (fun mc ms z1 z2 => j_fit_room (by decide) (by omega) (by omega)) rfl (fun v A B5 I5 hc5 => ?_)
  obtain ⟨rfl, hU1, hR1, h98_1, h5_1⟩ := hc5
  have u1 : At B5 RN := hR1
  refine j_bipush (v := 6) x dL_law_548 (by decide) ?_
  refine j_icmp_ne (tgt := 586) x dL_law_550 (by decide) (fun hc => absurd hc (fun z => z (by decide))) (fun hc => ?_)
  refine j_aload_n x dL_law_553 rfl ?_
  refine c_call x (P_undo (Y := Y0) I5 hU1 (u := 2) (by decide)) dL_law_554 m_L_undo (by decide) wmL_289 rfl (Nat.le_of_ble_eq_true rfl) (fun mc ms z1 z2 => j_fit_room (by decide) (by omega) (by omega)) rfl (fun v A B6 I6 hc6 => ?_)
  obtain ⟨rfl, hU2, hR2, h98_2, h5_2⟩ := hc6
  have u2 : At B6 (RP 4) := hR2
  refine j_iconst (v := 5) x dL_law_557 (by decide) ?_
  refine j_icmp_ne (tgt := 586) x dL_law_558 (by decide) (fun hc => absurd hc (fun z => z (by decide))) (fun hc => ?_)
  refine j_aload_n x dL_law_561 rfl ?_
  refine j_iconst (v := 3) x dL_law_562 (by decide) ?_
  have D8 : Dr B6 8 := Dr_3 u2 (by decide +kernel) (by decide +kernel)
  have ec : cn B6 = cl (RP 4) := At_cn u2
  refine q_call x I6 (Q_account_3 (Y := Y0) I6.hb (I6.L D8) (I6.F D8)) dL_law_563 m_L_account (by decide) wmL_172 rfl (Nat.le_of_ble_eq_true rfl) (fun mc ms z1 z2 => j_fit_room (by decide) (by omega) (by omega)) rfl (fun A I6 => ?_)
  refine j_top (show cn B6 95 2 = 0 by rw [ec]; exact (cl_at (by omega)).trans (RP_f 4 (by decide)).2.2.2) ?_
  refine j_if_ne (tgt := 586) x dL_law_566 (by decide) (fun hc => absurd hc (fun z => z rfl)) (fun hc => ?_)
  refine j_aload_n x dL_law_569 rfl ?_
  refine c_call x (P_undo (Y := Y0) I6 hU2 (u := 3) (by decide)) dL_law_570 m_L_undo (by decide) wmL_289 rfl (Nat.le_of_ble_eq_true rfl) (fun mc ms z1 z2 => j_fit_room (by decide) (by omega) (by omega)) rfl (fun v A B7 I7 hc7 => ?_)
  obtain ⟨rfl, hU3, hR3, h98_3, h5_3⟩ := hc7
  have u3 : At B7 (RP 3) := hR3
  refine j_iconst (v := 4) x dL_law_573 (by decide) ?_
  refine j_icmp_ne (tgt := 586) x dL_law_574 (by decide) (fun hc => absurd hc (fun z => z (by decide))) (fun hc => ?_)
  refine j_aload_n x dL_law_577 rfl ?_
  refine j_iconst (v := 3) x dL_law_578 (by decide) ?_
  refine j_iconst (v := 0) x dL_law_579 (by decide) ?_
  have D8 : Dr B7 8 := Dr_3 u3 (by decide +kernel) (by decide +kernel)
  have ec : cn B7 = cl (RP 3) := At_cn u3
  refine q_call x I7 (Q_meetingOf_0 (Y := Y0) I7.hb (I7.L D8) (I7.F D8) (q := 3) (by rw [z8.2]; decide)) dL_law_580 m_L_meetingOf (by decide) wmL_174 rfl (Nat.le_of_ble_eq_true rfl) (fun mc ms z1 z2 => j_fit_room (by decide) (by omega) (by omega)) rfl (fun A I7 => ?_)
  refine j_top (show jof (cn B7) 3 2 = 0 by rw [ec]; exact e7_0) ?_
  refine j_if_eq (tgt := 588) x dL_law_583 (by decide) (fun hc => ?_) (fun hc => absurd (rfl) hc)
  exact j_locW (wk_c rfl (wk_c rfl (wk_n (wk_n (wk_n (wk_n (wk_n (wk_n (wk_n (wk_n (wk_n wk_0))))))))))) (j_widen (by omega) (by omega) (KK _ _ I7 (SavR_u (SavR_u (SavR_u (SavR_u w2 h98_0 h5_0) h98_1 h5_1) h98_2 h5_2) h98_3 h5_3)))
set_option maxHeartbeats 20000000 in
/-- what was saved is there again -/
theorem law_e8 {N : Nat} (X : LX p l s m meth c D tyc sb N xs) {A B : MM} (I : InvP b0 A B) (hz : SavR B) (KK : ∀ A B, InvP b0 A B → True → LJ p l e s m below meth c D tyc sb ad0 633 [some (.retAddr sb), some (.ref 0), none, none, none, none, none, none, none, none, none] [] (HH b0 Y0 A) 500 4700) : LJ p l e s m below meth c D tyc sb ad0 588 [some (.retAddr sb), some (.ref 0), none, none, none, none, none, none, none, none, none] [] (HH b0 Y0 A) 480 4600 := by
  obtain ⟨x, hr, hX, hb1, hb2⟩ := id X
  refine j_aload_n x dL_law_588 rfl ?_
  refine c_call x (PW_ok (Y := Y0) I hz.1) dL_law_589 m_L_restore (by decide) wmL_291 rfl (Nat.le_of_ble_eq_true rfl) (fun mc ms z1 z2 => j_fit_room (by decide) (by omega) (by omega)) rfl (fun v A B1 I1 hc1 => ?_)
  obtain ⟨ey, hR⟩ := hc1
  refine j_top (ey.trans ((hz.2 0 (by omega)).trans (show R0 0 = 0 by decide +kernel))) ?_
  have a0 : At B1 R0 := fun c hc => (hR.1 c hc).trans (hz.2 c hc)
  refine j_if_ne (tgt := 631) x dL_law_592 (by decide) (fun hc => absurd hc (fun z => z rfl)) (fun hc => ?_)
  refine j_aload_n x dL_law_595 rfl ?_
  refine j_iconst (v := 0) x dL_law_596 (by decide) ?_
  obtain ⟨t9, dr9, hL9, hF9⟩ := I1.now
  refine q_call x I1 (Q_account_0 (Y := Y0) I1.hb hL9 hF9) dL_law_597 m_L_account (by decide) wmL_172 rfl (Nat.le_of_ble_eq_true rfl) (fun mc ms z1 z2 => j_fit_room (by decide) (by omega) (by omega)) rfl (fun A I1 => ?_)
  refine j_top ((a0 0 (by omega)).trans (show R0 0 = 0 by decide +kernel)) ?_
  refine j_if_ne (tgt := 631) x dL_law_600 (by decide) (fun hc => absurd hc (fun z => z rfl)) (fun hc => ?_)
  refine j_aload_n x dL_law_603 rfl ?_
  refine j_iconst (v := 1) x dL_law_604 (by decide) ?_
  obtain ⟨t9, dr9, hL9, hF9⟩ := I1.now
  refine q_call x I1 (Q_account_1 (Y := Y0) I1.hb hL9 hF9) dL_law_605 m_L_account (by decide) wmL_172 rfl (Nat.le_of_ble_eq_true rfl) (fun mc ms z1 z2 => j_fit_room (by decide) (by omega) (by omega)) rfl (fun A I1 => ?_)
  refine j_top (show jb (¬ B1 95 1 ≤ 0) = 0 by rw [a0 1 (by omega)]; decide +kernel) ?_
  refine j_if_ne (tgt := 631) x dL_law_608 (by decide) (fun hc => absurd hc (fun z => z rfl)) (fun hc => ?_)
  refine j_aload_n x dL_law_611 rfl ?_
  refine j_bipush (v := 9) x dL_law_612 (by decide) ?_
  obtain ⟨t9, dr9, hL9, hF9⟩ := I1.now
  refine q_call x I1 (Q_account_9 (Y := Y0) I1.hb hL9 hF9) dL_law_614 m_L_account (by decide) wmL_172 rfl (Nat.le_of_ble_eq_true rfl) (fun mc ms z1 z2 => j_fit_room (by decide) (by omega) (by omega)) rfl (fun A I1 => ?_)
  refine j_top ((a0 5 (by omega)).trans (show R0 5 = 2 by decide +kernel)) ?_
  refine j_iconst (v := 2) x dL_law_617 (by decide) ?_
  refine j_icmp_ne (tgt := 631) x dL_law_618 (by decide) (fun hc => absurd hc (fun z => z rfl)) (fun hc => ?_)
  refine j_aload_n x dL_law_621 rfl ?_
  refine c_call x (PU_no (Y := Y0) I1 hR.2.2.2.1) dL_law_622 m_L_undo (by decide) wmL_289 rfl (Nat.le_of_ble_eq_true rfl) (fun mc ms z1 z2 => j_fit_room (by decide) (by omega) (by omega)) rfl (fun v A B2 I2 hc2 => ?_)
  obtain ⟨rfl, rfl⟩ := hc2
  refine j_sipush (v := (-1001)) x dL_law_625 (by decide) ?_
  refine j_icmp_eq (tgt := 633) x dL_law_628 (by decide) (fun hc => ?_) (fun hc => absurd (rfl) hc)
  exact j_locW (wk_c rfl (wk_c rfl (wk_n (wk_n (wk_n (wk_n (wk_n (wk_n (wk_n (wk_n (wk_n wk_0))))))))))) (j_widen (by omega) (by omega) (KK _ _ I2 trivial))
end JLW
