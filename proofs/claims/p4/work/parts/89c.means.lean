/-! ===== the means are the same ===== -/
def cmpF (k : Int32) (v : Value) (Y : OUt) (M : MM) : Prop := M 94 19 = k ∧ (k = 0 → ∃ w : UInt32, v = .float w ∧ Jvm.FP.Core.fIsNaN w = false ∧ Y.2 0 = FP.f2d w)
def cmpD (k : Int32) (v : Value) (Y : OUt) (M : MM) : Prop := M 94 19 = k ∧ (k = 0 → ∃ w : UInt64, v = .double w ∧ Jvm.FP.Core.dIsNaN w = false ∧ Y.2 0 = w)
theorem f2d_nn {v : UInt32} (h : Jvm.FP.Core.fIsNaN v = false) : Jvm.FP.Core.dIsNaN (FP.f2d v) = false := by
  unfold FP.f2d
  rw [h]
  exact Jvm.FP.Core.f2d_out h
theorem dcmp_0 {v w : UInt64} (h : v = w) (hn : Jvm.FP.Core.dIsNaN w = false) : Op.cmpValue (FP.dcmp v w) .l = 0 := by
  subst h
  have e : FP.dcmp v v = some .eq := Jvm.FP.Core.dcmp_self ((Jvm.FP.Core.notNaN_iff _).mp hn)
  rw [e]
  rfl
section JDCM
variable {p : Program} {l : Launch} {e : Env} {R : Room} {s : State} {m : MethodId} {args : Array Value} {below : List Frame} {meth : Method} {c : Code} {D : va_G} {tyc : Nat → ClassId} {A : Nat → Prop} {n0 : Nat} {ad0 : Nat → Nat} {nL : Nat} {Qs : State → Prop}
variable {own : String} {cc : ByteArray} {pc : Nat} {L : List (Option Value)} {st : List Value} {h : MH} {cells slots : Nat} {b : SBt} {Y : OUt} {M : MM}
theorem j_dcmp (x : j_X p l s m args meth c D tyc A own cc nL) {v w : UInt64} (hd : decode cc pc = .ok (.dcmp .l, 1)) (kk : JJ p l e R s m args below meth c D tyc A n0 ad0 nL Qs (pc + 1) L (.int (Op.cmpValue (FP.dcmp v w) .l) :: st) h cells slots) : JJ p l e R s m args below meth c D tyc A n0 ad0 nL Qs pc L (.double w :: .double v :: st) h cells slots := by
  intro ad ls H locs I
  exact lv_dcmp x.1 x.2.1 hd (kk ad ls H locs (I.st fun hs => j_ok_cons j_ok_int (j_ok_tl (j_ok_tl hs))))
theorem j_daload (x : j_X p l s m args meth c D tyc A own cc nL) {i : Nat} {k : Int32} {v : UInt64} (hd : decode cc pc = .ok (.daload, 1)) (hi : i < h.1) (ht : (h.2 i).1 = 105) (hk : vp_in k (h.2 i).2.1) (hv : (h.2 i).2.2 k.toNatClampNeg = .double v) (kk : JJ p l e R s m args below meth c D tyc A n0 ad0 nL Qs (pc + 1) L (.double v :: st) h cells slots) : JJ p l e R s m args below meth c D tyc A n0 ad0 nL Qs pc L (.int k :: .ref i :: st) h cells slots := by
  intro ad ls H locs I
  have he : (j_w tyc ad h)[i]? = some (ad i, .inl (tyc 105, (h.2 i).2.1, .inr (.inr (.inr (.inl fun j => j_dbl ((h.2 i).2.2 j)))))) := by rw [j_w_get hi, j_e_arr ht (by decide)]; rfl
  refine va_dald x.1 x.2.1 x.2.2.2.2.2.1 I.2.1 i 5 he rfl hk hd ?_
  rw [hv]
  exact kk ad ls H locs (I.st fun hs => j_ok_cons j_ok_double (j_ok_tl (j_ok_tl hs)))
theorem j2_dald (x : j_X p l s m args meth c D tyc A own cc nL) (hb : 104 ≤ b.2.1) (hd : decode cc pc = .ok (.daload, 1)) (kk : JJ p l e R s m args below meth c D tyc A n0 ad0 nL Qs (pc + 1) L (.double (Y.2 0) :: st) (HH b Y M) cells slots) : JJ p l e R s m args below meth c D tyc A n0 ad0 nL Qs pc L (.int 0 :: .ref 103 :: st) (HH b Y M) cells slots :=
  j_daload x hd (show 103 < b.2.1 by omega) rfl (by show vp_in 0 (hLen b 103); rw [hLen_lo (by omega)]; exact vp_c (by decide)) rfl kk
end JDCM
theorem yd {Y : OUt} {v w : UInt64} (h : v = w) : (Y.1, ju Y.2 0 v).2 0 = w := by
  subst h
  show ju Y.2 0 v 0 = v
  exact ju_s
theorem R_meanGoals {b : SBt} {Y : OUt} {M : MM} (I : Inv b M) : Step b Y M yL_meanGoals cL_meanGoals 3 [(0, 8, 11, 120)] [.ref 0, .ref 103] yX6_meanGoals cX6_meanGoals 1 (some .float) [.ref 94] cmpF := by
  have hb := I.hb
  obtain ⟨t, dr, hL, hF⟩ := Inv_now I
  have hn := nn_le (dr := dr) hL.1
  have hm := jmc_r hL hF
  have h959 : M 95 9 = nI (nn t dr) := hL.2.2.2.2.2.2.2.1
  have hLc : rL t dr (lgC M 1) (jm (jcount M (nn t dr)) 94 19 0 95) := rL_cells hL (fun _ _ _ _ => rfl) (fun c _ => by rw [jm_n (by omega)]; exact jcount_n (by omega))
  have e0 : jcount M (nn t dr) 75 0 = jsum (fun m => jof (jm (jcount M (nn t dr)) 94 19 0) m 4) (nn t dr) := jcount_pl.trans (pl_r hLc)
  have g9 : jcount M (nn t dr) 95 9 = nI (nn t dr) := by rw [jcount_n (by omega)]; exact h959
  have e1 : jcount M (nn t dr) 75 1 = jsum (gGoals (jm (jcount M (nn t dr)) 94 19 0)) (nn t dr) := go_r hLc
  by_cases h : jcount M (nn t dr) 75 0 = 0
  · exact Step_q I (H_meanGoals_t1 (d := 19) hb (c_meanGoals_no (d := 14) (Y := Y) hb hn hm h)) (cx_meanGoals_no (d := 18) hb hn g9 (e0.symm.trans h)) (by decide) (by decide) qE_c tE_2 ⟨jm_s, fun q => absurd q (by decide)⟩
  · have h2 : ¬ jsum (fun m => jof (jm (jcount M (nn t dr)) 94 19 0) m 4) (nn t dr) = 0 := fun z => h (e0.trans z)
    exact Step_q I (H_meanGoals_r (d := 19) hb (fdiv_ok h) (c_meanGoals_ok (d := 14) (Y := Y) hb hn hm h (n32_of (fdiv_ok h)))) (cx_meanGoals_ok (d := 17) hb hn g9 h2 (n32_of (fdiv_ok h2))) (by decide) (by decide) qE_c tE_1 ⟨jm_s, fun _ => ⟨_, rfl, fdiv_ok h2, yd (by rw [e0, e1])⟩⟩
theorem R_homeShare {b : SBt} {Y : OUt} {M : MM} (I : Inv b M) : Step b Y M yL_homeShare cL_homeShare 3 [(0, 7, 10, 120)] [.ref 0, .ref 103] yX6_homeShare cX6_homeShare 3 (some .double) [.ref 94] cmpD := by
  have hb := I.hb
  obtain ⟨t, dr, hL, hF⟩ := Inv_now I
  have hn := nn_le (dr := dr) hL.1
  have hm := jmc_r hL hF
  have h959 : M 95 9 = nI (nn t dr) := hL.2.2.2.2.2.2.2.1
  have hLc : rL t dr (lgC M 1) (jm (jcount M (nn t dr)) 94 19 0 95) := rL_cells hL (fun _ _ _ _ => rfl) (fun c _ => by rw [jm_n (by omega)]; exact jcount_n (by omega))
  have e0 : jcount M (nn t dr) 75 0 = jsum (fun m => jof (jm (jcount M (nn t dr)) 94 19 0) m 4) (nn t dr) := jcount_pl.trans (pl_r hLc)
  have g9 : jcount M (nn t dr) 95 9 = nI (nn t dr) := by rw [jcount_n (by omega)]; exact h959
  have e1 : jcount M (nn t dr) 75 2 = jsum (gHw (jm (jcount M (nn t dr)) 94 19 0)) (nn t dr) := hw_r hLc
  by_cases h : jcount M (nn t dr) 75 0 = 0
  · exact Step_q I (H_homeShare_t1 (d := 19) hb (c_homeShare_no (d := 14) (Y := Y) hb hn hm h)) (cx_homeShare_no (d := 18) hb hn g9 (e0.symm.trans h)) (by decide) (by decide) qE_c tE_2 ⟨jm_s, fun q => absurd q (by decide)⟩
  · have h2 : ¬ jsum (fun m => jof (jm (jcount M (nn t dr)) 94 19 0) m 4) (nn t dr) = 0 := fun z => h (e0.trans z)
    exact Step_q I (H_homeShare_r (d := 19) hb (c_homeShare_ok (d := 14) (Y := Y) hb hn hm h (n64_of (ddiv_ok h)))) (cx_homeShare_ok (d := 17) hb hn g9 h2 (n64_of (ddiv_ok h2))) (by decide) (by decide) qE_c tE_1 ⟨jm_s, fun _ => ⟨_, rfl, ddiv_ok h2, yd (by rw [e0, e1])⟩⟩
