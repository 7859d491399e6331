/-! ===== quotients that are numbers ===== -/
theorem n32_of {r : UInt32} (h : Jvm.FP.Core.fIsNaN r = false) : vf_n32 r := by
  have h1 : ¬ Jvm.FP.Core.fIsNaN r = true := by rw [h]; decide
  rw [Jvm.FP.Core.isNaN_bits32] at h1
  unfold vf_n32
  rw [UInt32.le_iff_toNat_le, UInt32.toNat_and, show (0x7fffffff : UInt32).toNat = 2 ^ 31 - 1 from rfl, Nat.and_two_pow_sub_one_eq_mod, show (0x7f800000 : UInt32).toNat = 2139095040 from rfl]
  omega
theorem n64_of {r : UInt64} (h : Jvm.FP.Core.dIsNaN r = false) : vf_n64 r := by
  have h1 : ¬ Jvm.FP.Core.dIsNaN r = true := by rw [h]; decide
  rw [Jvm.FP.Core.isNaN_bits] at h1
  unfold vf_n64
  rw [UInt64.le_iff_toNat_le, UInt64.toNat_and, show (0x7fffffffffffffff : UInt64).toNat = 2 ^ 63 - 1 from rfl, Nat.and_two_pow_sub_one_eq_mod, show (0x7ff0000000000000 : UInt64).toNat = 9218868437227405312 from rfl]
  omega
theorem i2f_ok {v : Int32} : Jvm.FP.Core.fIsNaN (FP.i2f v) = false := (Jvm.FP.Core.notNaN_iff32 _).mpr (Jvm.FP.Core.i2f_fin v).ne_nan
theorem i2d_ok {v : Int32} : Jvm.FP.Core.dIsNaN (FP.i2d v) = false := by
  have h := Jvm.FP.Core.i2d_mag v
  cases e : Jvm.FP.Core.dIsNaN (FP.i2d v) with
  | false => rfl
  | true =>
    have h2 := (Jvm.FP.Core.isNaN_bits (FP.i2d v)).mp e
    have h3 : (FP.i2d v).toNat % 2 ^ 63 < 1056 * 2 ^ 52 := h
    omega
theorem toInt_ne {w : Int32} (h : ¬ w = 0) : w.toInt ≠ 0 := fun z => h (Int32.toInt_inj.mp (by rw [z]; rfl))
theorem fdiv_ok {v w : Int32} (hw : ¬ w = 0) : Jvm.FP.Core.fIsNaN (FP.fdiv (FP.i2f v) (FP.i2f w)) = false := by
  refine Jvm.FP.Core.fdiv_out i2f_ok (Jvm.FP.Core.i2f_fin w) fun z => ?_
  have h1 := (Jvm.FP.Core.zero_bits232 _).mp z
  have h2 := (Jvm.FP.Core.i2f_big (toInt_ne hw)).1
  have h3 : (Jvm.FP.Core.i2f w).toNat % 2 ^ 31 = 0 := h1
  omega
theorem ddiv_ok {v w : Int32} (hw : ¬ w = 0) : Jvm.FP.Core.dIsNaN (FP.ddiv (FP.i2d v) (FP.i2d w)) = false := by
  have h2 := Jvm.FP.Core.i2d_big (toInt_ne hw)
  refine Jvm.FP.Core.ddiv_out i2d_ok ((Jvm.FP.Core.fin_bits _).mpr ?_) fun z => ?_
  · show (Jvm.FP.Core.i2d w).toNat % 2 ^ 63 < _
    omega
  · have h1 := (Jvm.FP.Core.zero_bits2 _).mp z
    have h3 : (Jvm.FP.Core.i2d w).toNat % 2 ^ 63 = 0 := h1
    omega
theorem f2d_ok {v : UInt32} (h : Jvm.FP.Core.fIsNaN v = false) : vf_n64 (FP.f2d v) := by
  refine n64_of ?_
  unfold FP.f2d
  rw [h]
  exact Jvm.FP.Core.f2d_out h
section JFLT
variable {p : Program} {l : Launch} {e : Env} {R : Room} {s : State} {m : MethodId} {args : Array Value} {below : List Frame} {meth : Method} {c : Code} {D : va_G} {tyc : Nat → ClassId} {A : Nat → Prop} {n0 : Nat} {ad0 : Nat → Nat} {nL : Nat} {Qs : State → Prop}
variable {own : String} {cc : ByteArray} {pc : Nat} {L : List (Option Value)} {st : List Value} {h : MH} {cells slots : Nat} {b : SBt} {Y : OUt} {M : MM}
theorem j_f2d (x : j_X p l s m args meth c D tyc A own cc nL) {v : UInt32} (hd : decode cc pc = .ok (.f2d, 1)) (hne : vf_n64 (FP.f2d v)) (kk : JJ p l e R s m args below meth c D tyc A n0 ad0 nL Qs (pc + 1) L (.double (FP.f2d v) :: st) h cells slots) : JJ p l e R s m args below meth c D tyc A n0 ad0 nL Qs pc L (.float v :: st) h cells slots := by
  intro ad ls H locs I
  exact lv_f2d x.1 x.2.1 hd hne (kk ad ls H locs (I.st fun hs => j_ok_cons j_ok_double (j_ok_tl hs)))
theorem j_dastore (x : j_X p l s m args meth c D tyc A own cc nL) {i : Nat} {k : Int32} {v : UInt64} (hd : decode cc pc = .ok (.dastore, 1)) (hi : i < h.1) (ht : (h.2 i).1 = 105) (hk : vp_in k (h.2 i).2.1) (kk : JJ p l e R s m args below meth c D tyc A n0 ad0 nL Qs (pc + 1) L st (j_fld h i k.toNatClampNeg (.double v)) cells slots) : JJ p l e R s m args below meth c D tyc A n0 ad0 nL Qs pc L (.double v :: .int k :: .ref i :: st) h cells slots := by
  intro ad ls H locs I
  have he : (j_w tyc ad h)[i]? = some (ad i, .inl (tyc 105, (h.2 i).2.1, .inr (.inr (.inr (.inl fun j => j_dbl ((h.2 i).2.2 j)))))) := by rw [j_w_get hi, j_e_arr ht (by decide)]; rfl
  refine va_dast x.1 x.2.1 x.2.2.2.2.2.1 I.2.1 I.2.2.1 I.2.2.2.1 i 5 he rfl hk hd (fun H1 locs1 hP hD hS => ?_)
  have e1 : vf_upd (fun j => j_dbl ((h.2 i).2.2 j)) k.toNatClampNeg v = fun j => j_dbl (ju (h.2 i).2.2 k.toNatClampNeg (.double v) j) := funext fun j => by
    by_cases e : j = k.toNatClampNeg <;> simp [vf_upd, ju, e, j_dbl]
  have e2 : j_e tyc ad ((h.2 i).1, (h.2 i).2.1, ju (h.2 i).2.2 k.toNatClampNeg (.double v)) = .inl (tyc 105, (h.2 i).2.1, .inr (.inr (.inr (.inl fun j => j_dbl (ju (h.2 i).2.2 k.toNatClampNeg (.double v) j))))) := Eq.trans (j_e_arr (ad := ad) (tyc := tyc) (c := (_, _, _)) (t := 105) ht (by decide)) rfl
  rw [e1, ← e2] at hP hD
  exact kk ad ls H1 locs1 (I.wr (fun hs => j_ok_tl (j_ok_tl (j_ok_tl hs))) hi (fun j => by
    show j_ok h.1 (ju (h.2 i).2.2 k.toNatClampNeg (.double v) j)
    by_cases e : j = k.toNatClampNeg
    · subst e; rw [ju_s]; exact j_ok_double
    · rw [ju_n e]; exact I.2.2.2.2.2.1 i hi j) hP hD hS)
theorem j2_dast (x : j_X p l s m args meth c D tyc A own cc nL) (hb : 104 ≤ b.2.1) {v : UInt64} (hd : decode cc pc = .ok (.dastore, 1)) (kk : JJ p l e R s m args below meth c D tyc A n0 ad0 nL Qs (pc + 1) L st (HH b (Y.1, ju Y.2 0 v) M) cells slots) : JJ p l e R s m args below meth c D tyc A n0 ad0 nL Qs pc L (.double v :: .int 0 :: .ref 103 :: st) (HH b Y M) cells slots := by
  refine j_dastore x hd (show 103 < b.2.1 by omega) rfl (by show vp_in 0 (hLen b 103); rw [hLen_lo (by omega)]; exact vp_c (by decide)) ?_
  have e : j_fld (HH b Y M) 103 (0 : Int32).toNatClampNeg (.double v) = HH b (Y.1, ju Y.2 0 v) M := by
    refine Prod.ext rfl (funext fun z => ?_)
    show ju (fun i => (hT i, hLen b i, hF b Y M i)) 103 (hT 103, hLen b 103, ju (hF b Y M 103) 0 (.double v)) z = (hT z, hLen b z, hF b (Y.1, ju Y.2 0 v) M z)
    by_cases hz : z = 103
    · subst hz
      rw [ju_s]
      congr 2
      funext k
      by_cases hk : k = 0
      · subst hk; rw [ju_s]; show _ = Value.double (ju Y.2 0 v 0); rw [ju_s]
      · rw [ju_n hk]; show Value.double (Y.2 k) = Value.double (ju Y.2 0 v k); rw [ju_n hk]
    · rw [ju_n hz]
      congr 2
      funext k
      unfold hF
      rw [if_neg hz, if_neg hz]
  rw [e]
  exact kk
end JFLT
theorem H_meanGoals_r {d mc ms : Nat} {b : SBt} {Y : OUt} {M M1 : MM} (hb : 104 ≤ b.2.1) {v : UInt32} (hv : Jvm.FP.Core.fIsNaN v = false) (hcon : CM d mc ms yX5_meanGoals cX5_meanGoals 1 (some .float) [.ref 0] b Y M (.inl (some (.float v))) M1) : CMH (d + 1) mc ms yL_meanGoals cL_meanGoals 3 (some .int) [(0, 8, 11, 120)] [.ref 0, .ref 103] b Y M 0 (Y.1, ju Y.2 0 (FP.f2d v)) M1 := by
  refine ConH.of (by decide +kernel) (Nat.le_of_ble_eq_true rfl) rfl fun p l e s m args below meth c D tyc A ad0 x hr htab hname => ?_
  change JJ _ _ _ _ _ _ _ _ _ _ _ _ _ _ _ _ _ 0 [some (.ref 0), some (.ref 103), none] [] _ 0 0
  refine j_aload_n x dL_meanGoals_0 rfl ?_
  refine j_iconst (v := 0) x dL_meanGoals_1 (by decide) ?_
  refine j_aload_n x dL_meanGoals_2 rfl ?_
  refine j2_callVw x hb dL_meanGoals_3 m_X5_meanGoals hcon wmL_116 jc_9 rfl rfl rfl (Nat.le_of_ble_eq_true rfl) (j_fit_rm (by omega) (by omega) (by omega)) rfl ?_
  refine j_f2d x dL_meanGoals_6 (f2d_ok hv) ?_
  refine j2_dast x hb dL_meanGoals_7 ?_
  refine j_goto (tgt := 14) x dL_meanGoals_8 (by decide) ?_
  refine j_iconst (v := 0) x dL_meanGoals_14 (by decide) ?_
  exact j_ireturn x hr dL_meanGoals_15 (by omega) (by omega) ⟨rfl, rfl⟩
theorem H_homeShare_r {d mc ms : Nat} {b : SBt} {Y : OUt} {M M1 : MM} (hb : 104 ≤ b.2.1) {v : UInt64} (hcon : CM d mc ms yX5_homeShare cX5_homeShare 1 (some .double) [.ref 0] b Y M (.inl (some (.double v))) M1) : CMH (d + 1) mc ms yL_homeShare cL_homeShare 3 (some .int) [(0, 7, 10, 120)] [.ref 0, .ref 103] b Y M 0 (Y.1, ju Y.2 0 v) M1 := by
  refine ConH.of (by decide +kernel) (Nat.le_of_ble_eq_true rfl) rfl fun p l e s m args below meth c D tyc A ad0 x hr htab hname => ?_
  change JJ _ _ _ _ _ _ _ _ _ _ _ _ _ _ _ _ _ 0 [some (.ref 0), some (.ref 103), none] [] _ 0 0
  refine j_aload_n x dL_homeShare_0 rfl ?_
  refine j_iconst (v := 0) x dL_homeShare_1 (by decide) ?_
  refine j_aload_n x dL_homeShare_2 rfl ?_
  refine j2_callVw x hb dL_homeShare_3 m_X5_homeShare hcon wmL_122 jc_9 rfl rfl rfl (Nat.le_of_ble_eq_true rfl) (j_fit_rm (by omega) (by omega) (by omega)) rfl ?_
  refine j2_dast x hb dL_homeShare_6 ?_
  refine j_goto (tgt := 13) x dL_homeShare_7 (by decide) ?_
  refine j_iconst (v := 0) x dL_homeShare_13 (by decide) ?_
  exact j_ireturn x hr dL_homeShare_14 (by omega) (by omega) ⟨rfl, rfl⟩
theorem H_line_x {d mc ms : Nat} {b : SBt} {Y : OUt} {M : MM} (hb : 104 ≤ b.2.1) {u0 : Int32} {P : Int32 → SBt → MM → Prop} (hcon : Con d mc ms yX5_line cX5_line 2 (some .int) [.ref 0, .int u0] (HH b Y M) (fun o k => ∃ v b2 N, P v b2 N ∧ o = .inl (some (.int v)) ∧ k = HH b2 Y N)) (hP : ∀ v b2 N, P v b2 N → 104 ≤ b2.2.1) :
    ConH (d + 1) mc ms yL_line cL_line 4 (some .int) [(0, 9, 12, 45)] [.ref 0, .int u0, .ref 102] (HH b Y M) (fun o k => ∃ v b2 N, P v b2 N ∧ o = .inl (some (.int 0)) ∧ k = HH b2 (ju Y.1 0 v.toInt64, Y.2) N) := by
  refine ConH.of (by decide +kernel) (Nat.le_of_ble_eq_true rfl) rfl fun p l e s m args below meth c D tyc A ad0 x hr htab hname => ?_
  change JJ _ _ _ _ _ _ _ _ _ _ _ _ _ _ _ _ _ 0 [some (.ref 0), some (.int u0), some (.ref 102), none] [] _ 0 0
  refine j_aload_n x dL_line_0 rfl ?_
  refine j_iconst (v := 0) x dL_line_1 (by decide) ?_
  refine j_aload_n x dL_line_2 rfl ?_
  refine j_iload_n x dL_line_3 rfl ?_
  refine j_callV x dL_line_4 hcon m_X5_line wmL_109 jc_9 rfl (show 0 < b.2.1 by omega) rfl rfl (Nat.le_of_ble_eq_true rfl) (j_fit_rm (by omega) (by omega) (by omega)) rfl (fun E k z => by obtain ⟨v, b2, N, -, h, -⟩ := z; cases h) (fun v1 h1 hq => ?_)
  obtain ⟨v, b2, N, hq, e1, rfl⟩ := hq
  have hb2 := hP _ _ _ hq
  cases e1
  change JJ _ _ _ _ _ _ _ _ _ _ _ _ _ _ _ _ _ _ _ [.int v, .int 0, .ref 102] (HH b2 Y N) _ _
  refine j_i2l x dL_line_7 ?_
  refine j2_last x hb2 dL_line_8 ?_
  refine j_goto (tgt := 15) x dL_line_9 (by decide) ?_
  refine j_iconst (v := 0) x dL_line_15 (by decide) ?_
  exact j_ireturn x hr dL_line_16 (by omega) (by omega) ⟨v, b2, N, hq, rfl, rfl⟩
/-! ===== steps: the line, means ===== -/
theorem S_meanGoals {b : SBt} {Y : OUt} {M : MM} (I : Inv b M) : Step b Y M yL_meanGoals cL_meanGoals 3 [(0, 8, 11, 120)] [.ref 0, .ref 103] yX6_meanGoals cX6_meanGoals 1 (some .float) [.ref 94] cmpT := by
  have hb := I.hb
  obtain ⟨t, dr, hL, hF⟩ := Inv_now I
  have hn := nn_le (dr := dr) hL.1
  have hm := jmc_r hL hF
  have h959 : M 95 9 = nI (nn t dr) := hL.2.2.2.2.2.2.2.1
  have hC : ∀ {Y1 : OUt} {M1 : MM}, qE M M1 → ∃ (w : UInt32) (M2 : MM), CM 20 0 0 yX6_meanGoals cX6_meanGoals 1 (some .float) [.ref 94] b Y1 M1 (.inl (some (.float w))) M2 ∧ tE M1 M2 := fun {Y1 M1} hE => by
    have g9 : M1 95 9 = nI (nn t dr) := (hE 95 9 (by omega)).trans h959
    by_cases h : jsum (fun m => jof (jm M1 94 19 0) m 4) (nn t dr) = 0
    · exact ⟨_, _, cx_meanGoals_no (d := 18) hb hn g9 h, tE_2⟩
    · exact ⟨_, _, cx_meanGoals_ok (d := 17) hb hn g9 h (n32_of (fdiv_ok h)), tE_1⟩
  by_cases h : jcount M (nn t dr) 75 0 = 0
  · obtain ⟨w, M2, C, hE⟩ := hC (Y1 := Y) qE_c
    exact Step_q I (H_meanGoals_t1 (d := 19) hb (c_meanGoals_no (d := 14) (Y := Y) hb hn hm h)) C (by decide) (by decide) qE_c hE trivial
  · obtain ⟨w, M2, C, hE⟩ := hC (Y1 := (Y.1, ju Y.2 0 (FP.f2d (FP.fdiv (FP.i2f (jcount M (nn t dr) 75 1)) (FP.i2f (jcount M (nn t dr) 75 0)))))) qE_c
    exact Step_q I (H_meanGoals_r (d := 19) hb (fdiv_ok h) (c_meanGoals_ok (d := 14) (Y := Y) hb hn hm h (n32_of (fdiv_ok h)))) C (by decide) (by decide) qE_c hE trivial
theorem S_homeShare {b : SBt} {Y : OUt} {M : MM} (I : Inv b M) : Step b Y M yL_homeShare cL_homeShare 3 [(0, 7, 10, 120)] [.ref 0, .ref 103] yX6_homeShare cX6_homeShare 3 (some .double) [.ref 94] cmpT := by
  have hb := I.hb
  obtain ⟨t, dr, hL, hF⟩ := Inv_now I
  have hn := nn_le (dr := dr) hL.1
  have hm := jmc_r hL hF
  have h959 : M 95 9 = nI (nn t dr) := hL.2.2.2.2.2.2.2.1
  have hC : ∀ {Y1 : OUt} {M1 : MM}, qE M M1 → ∃ (w : UInt64) (M2 : MM), CM 20 0 0 yX6_homeShare cX6_homeShare 3 (some .double) [.ref 94] b Y1 M1 (.inl (some (.double w))) M2 ∧ tE M1 M2 := fun {Y1 M1} hE => by
    have g9 : M1 95 9 = nI (nn t dr) := (hE 95 9 (by omega)).trans h959
    by_cases h : jsum (fun m => jof (jm M1 94 19 0) m 4) (nn t dr) = 0
    · exact ⟨_, _, cx_homeShare_no (d := 18) hb hn g9 h, tE_2⟩
    · exact ⟨_, _, cx_homeShare_ok (d := 17) hb hn g9 h (n64_of (ddiv_ok h)), tE_1⟩
  by_cases h : jcount M (nn t dr) 75 0 = 0
  · obtain ⟨w, M2, C, hE⟩ := hC (Y1 := Y) qE_c
    exact Step_q I (H_homeShare_t1 (d := 19) hb (c_homeShare_no (d := 14) (Y := Y) hb hn hm h)) C (by decide) (by decide) qE_c hE trivial
  · obtain ⟨w, M2, C, hE⟩ := hC (Y1 := (Y.1, ju Y.2 0 (FP.ddiv (FP.i2d (jcount M (nn t dr) 75 2)) (FP.i2d (jcount M (nn t dr) 75 0))))) qE_c
    exact Step_q I (H_homeShare_r (d := 19) hb (c_homeShare_ok (d := 14) (Y := Y) hb hn hm h (n64_of (ddiv_ok h)))) C (by decide) (by decide) qE_c hE trivial
theorem S_line {b : SBt} {Y : OUt} {M : MM} (I : Inv b M) (u : Int32) : Step b Y M yL_line cL_line 4 [(0, 9, 12, 45)] [.ref 0, .int u, .ref 102] yX6_line cX6_line 3 (some .int) [.ref 94, .int u] cmpT := by
  have hb := I.hb
  obtain ⟨t, dr, hL, hF⟩ := Inv_now I
  have ht := hL.1
  have hn := nn_le (dr := dr) ht
  have hm := jmc_r hL hF
  have h10 : M 1 0 = nI t := hL.2.1
  have h950 : M 95 0 = nI t := hL.2.2.1
  have h959 : M 95 9 = nI (nn t dr) := hL.2.2.2.2.2.2.2.1
  by_cases hT : ∃ q, q < t ∧ u = nI q
  · have hT1 := (in_q1 (x := u) (n := t) (by omega)).mpr hT
    obtain ⟨q, hq, rfl⟩ := hT
    rw [← h10] at hT1
    obtain ⟨z0, c0, hs1, hs2, hs3, hs4, hs5⟩ := I.2
    have hv : ∀ i, 76 ≤ i → i ≤ 81 → ∃ v, v < 10000 ∧ jat 8 (jcount M (nn t dr) i) (nI q) = nI v := fun i h1 h2 => by
      obtain ⟨k, rfl⟩ : ∃ k, i = 75 + k := ⟨i - 75, by omega⟩
      rw [jat_nI (by omega) (by decide), tally_r hL hF (by omega) (by omega) (by omega)]
      exact gH_le hL (by omega)
    have hc := c_line (d := 13) (Y := Y) hb (show q < 8 by omega) hT1 hn hm ht h10 hs1 hs2 hs3 (show c0 < 2 ^ 31 by omega) hv
    have hc2 := Con.mono hc (Q2 := fun o k => ∃ v b2 N, (∃ c1 n2, c1 ≤ 100 ∧ v = nI c1 ∧ sbI b2 N n2 ∧ n2 ≤ 202 ∧ c1 ≤ n2 ∧ sbG (jcount M (nn t dr)) N ∧ N 92 3 = nI c1) ∧ o = .inl (some (.int v)) ∧ k = HH b2 Y N) (fun o k hQ => by
      obtain ⟨c1, b2, N, n2, q1, q2, q3, q4, q5, q6, q7, q8⟩ := hQ
      exact ⟨nI c1, b2, N, ⟨c1, n2, q1, rfl, q4, q5, q6, q7, q8⟩, q2, q3⟩)
    refine ⟨14, 2828, by decide, by decide, ConH.mono (H_line_x (d := 19) hb hc2 (fun v b2 N h => by obtain ⟨c1, n2, -, -, h, -⟩ := h; exact h.2.2.1)) (fun o k hQ => ?_)⟩
    obtain ⟨v, b2, N, ⟨c1, n2, q1, q2, q4, q5, q6, q7, q8⟩, rfl, rfl⟩ := hQ
    have hN : ∀ i k, i < 75 ∨ (85 < i ∧ i < 92) ∨ (93 < i ∧ i < 104) → N i k = M i k := fun i k z => (q7 i k (by omega)).trans (jcount_n (by omega))
    have hL2 : rL t dr (lgC M 1) (jm N 94 19 0 95) := rL_cells hL (fun _ _ _ _ => rfl) (fun c _ => by rw [jm_n (by omega)]; exact hN 95 c (by omega))
    refine ⟨0, b2, _, N, rfl, rfl, q4.2.2.1, Con.mono (cx_line_ok (d := 14) q4.2.2.1 rfl (show q < 8 by omega) hn ((hN 95 9 (by omega)).trans h959) ht ((hN 95 0 (by omega)).trans h950) (by rw [hN 95 0 (by omega), h950]; exact (in_q2 (by omega)).mpr ⟨q, hq, rfl⟩) (fun j hj => gH_le (k := j + 1) hL2 (by omega))) (fun o2 s2 hQ2 => ?_)⟩
    obtain ⟨N2, v2, e1, e2, e3, q9, e4, e5⟩ := hQ2
    have hM2 : ∀ i k, i ≠ 99 → ¬ (i = 94 ∧ (k = 7 ∨ k = 19)) → N2 i k = N i k := fun i k z1 z2 => (e3 i k z1 (by omega)).trans (jm_n (by omega))
    have hM : ∀ i k, (i < 75 ∨ (85 < i ∧ i < 92) ∨ (93 < i ∧ i < 104)) → i ≠ 99 → ¬ (i = 94 ∧ (k = 7 ∨ k = 19)) → N2 i k = M i k := fun i k z1 z2 z3 => (hM2 i k z2 z3).trans (hN i k z1)
    refine ⟨.int v2, N2, e1, e2, ⟨Rel_x I.1 (fun i k z1 _ _ => hM i k (by omega) (by omega) (by omega)) (fun i k z1 => hM i k (by omega) (by omega) (by omega)) ?_, n2, c1, sbI_c q4 (fun i k z => hM2 i k (by omega) (by omega)), q5, (hM2 92 3 (by omega) (by omega)).trans q8, q1, q6⟩, vK_i, trivial⟩
    obtain ⟨r1, r2, r3, r4, r5, -⟩ : rRs M M := by
      obtain ⟨τ, k, j, -, -, -, -, -, -, -, -, -, -, -, h⟩ := I.1
      exact h
    refine ⟨?_, ?_, ?_, ?_, ?_, q9, e4, e5⟩
    · rw [hM 0 9 (by omega) (by omega) (by omega), hM 94 14 (by omega) (by omega) (by omega)]; exact r1
    · rw [hM 0 10 (by omega) (by omega) (by omega), hM 94 15 (by omega) (by omega) (by omega)]; exact r2
    · rw [hM 0 11 (by omega) (by omega) (by omega), hM 94 17 (by omega) (by omega) (by omega)]; exact r3
    · rw [hM 0 8 (by omega) (by omega) (by omega), hM 94 13 (by omega) (by omega) (by omega)]; exact r4
    · rw [hM 0 12 (by omega) (by omega) (by omega)]; exact r5
  · have hT1 : ¬ (¬ u < 0 ∧ ¬ M 1 0 ≤ u) := by rw [h10]; exact fun z => hT ((in_q1 (by omega)).mp z)
    exact Step_q I (H_line_t1 (d := 19) hb (c_line_nt (d := 18) (Y := Y) hb hT1)) (cx_line_nt (d := 18) hb (by rw [h950]; exact fun z => hT ((in_q2 (by omega)).mp z))) (by decide) (by decide) qE_0 tE_2 trivial
