/-! ===== mean, share, line, character: what they answer ===== -/
section JF
variable {p : Program} {l : Launch} {e : Env} {R : Room} {s : State} {m : MethodId} {args : Array Value} {below : List Frame} {meth : Method} {c : Code} {D : va_G} {tyc : Nat → ClassId} {A : Nat → Prop} {n0 : Nat} {ad0 : Nat → Nat} {nL : Nat} {Q : State → Prop}
variable {own : String} {cc : ByteArray} {pc : Nat} {L : List (Option Value)} {st : List Value} {h : MH} {cells slots : Nat}
theorem j_ldc2D (x : j_X p l s m args meth c D tyc A own cc nL) {i : Nat} {v : UInt64} (hd : decode cc pc = .ok (.ldc2_w i, 3)) (hw : Cond.constantDouble own i v ∈ j_all) (kk : JJ p l e R s m args below meth c D tyc A n0 ad0 nL Q (pc + 3) L (.double v :: st) h cells slots) : JJ p l e R s m args below meth c D tyc A n0 ad0 nL Q pc L st h cells slots := by
  intro ad ls H locs I
  exact lv_ldc2d x.1 x.2.1 x.2.2.2.1 (x.2.2.2.2.1 _ hw) hd (kk ad ls H locs (I.st fun hs => j_ok_cons j_ok_double hs))
theorem j_ldcF (x : j_X p l s m args meth c D tyc A own cc nL) {i : Nat} {v : UInt32} (hd : decode cc pc = .ok (.ldc i, 2)) (hw : Cond.constantFloat own i v ∈ j_all) (kk : JJ p l e R s m args below meth c D tyc A n0 ad0 nL Q (pc + 2) L (.float v :: st) h cells slots) : JJ p l e R s m args below meth c D tyc A n0 ad0 nL Q pc L st h cells slots := by
  intro ad ls H locs I
  exact lv_ldcf x.1 x.2.1 x.2.2.2.1 (x.2.2.2.2.1 _ hw) hd (kk ad ls H locs (I.st fun hs => j_ok_cons j_ok_float hs))
end JF
theorem H_homeShare_r {d mc ms : Nat} {b : SBt} {Y : OUt} {M M1 : MM} (hb : 94 ≤ b.2.1) {w : UInt64} (hcon : CM d mc ms yX5_homeShare cX5_homeShare 1 (some .double) [.ref 0] b Y M (.inl (some (.double w))) M1) : CMW (d + 1) mc ms yL_homeShare cL_homeShare 2 (some .double) [(0, 4, 5, 120)] [.ref 0] b Y M (.double w) M1 := by
  refine ConH.of (by decide +kernel) (Nat.le_of_ble_eq_true rfl) rfl fun p l e s m args below meth c D tyc A ad0 x hr htab hname => ?_
  change JJ _ _ _ _ _ _ _ _ _ _ _ _ _ _ _ _ _ 0 [some (.ref 0), none] [] _ 0 0
  refine j_aload_n x dL_homeShare_0 rfl ?_
  refine j2_callVw x hb dL_homeShare_1 m_X5_homeShare hcon wmL_123 jc_9 rfl rfl rfl (Nat.le_of_ble_eq_true rfl) (j_fit_rm (by omega) (by omega) (by omega)) rfl ?_
  exact j_dreturn x hr dL_homeShare_4 (by omega) (by omega) ⟨rfl, rfl⟩
theorem H_homeShare_t {d mc ms : Nat} {b : SBt} {Y : OUt} {M M1 : MM} (hb : 94 ≤ b.2.1) (hcon : CM d mc ms yX5_homeShare cX5_homeShare 1 (some .double) [.ref 0] b Y M (.inr "java/lang/ArithmeticException") M1) : CMW (d + 1) mc ms yL_homeShare cL_homeShare 2 (some .double) [(0, 4, 5, 120)] [.ref 0] b Y M (.double 13875388141788987392) M1 := by
  refine ConH.of (by decide +kernel) (Nat.le_of_ble_eq_true rfl) rfl fun p l e s m args below meth c D tyc A ad0 x hr htab hname => ?_
  change JJ _ _ _ _ _ _ _ _ _ _ _ _ _ _ _ _ _ 0 [some (.ref 0), none] [] _ 0 0
  refine j_aload_n x dL_homeShare_0 rfl ?_
  refine j2_callC x hb dL_homeShare_1 m_X5_homeShare hcon wmL_123 jc_9 rfl rfl rfl (Nat.le_of_ble_eq_true rfl) (j_fit_rm (by omega) (by omega) (by omega)) rfl [] ⟨0, 4, 5, 120⟩ [] htab (fun w hw => by cases hw) (by decide) (by decide) wcL_120 wx_ArithmeticException rfl (fun a => ?_)
  refine j_astore_nR x dL_homeShare_5 (by decide) rfl ?_
  refine j_ldc2D x dL_homeShare_6 wdL_127 ?_
  exact j_dreturn x hr dL_homeShare_9 (by omega) (by omega) ⟨rfl, rfl⟩
theorem H_meanGoals_r {d mc ms : Nat} {b : SBt} {Y : OUt} {M M1 : MM} (hb : 94 ≤ b.2.1) {w : UInt32} (hcon : CM d mc ms yX5_meanGoals cX5_meanGoals 1 (some .float) [.ref 0] b Y M (.inl (some (.float w))) M1) : CMW (d + 1) mc ms yL_meanGoals cL_meanGoals 2 (some .float) [(0, 4, 5, 120)] [.ref 0] b Y M (.float w) M1 := by
  refine ConH.of (by decide +kernel) (Nat.le_of_ble_eq_true rfl) rfl fun p l e s m args below meth c D tyc A ad0 x hr htab hname => ?_
  change JJ _ _ _ _ _ _ _ _ _ _ _ _ _ _ _ _ _ 0 [some (.ref 0), none] [] _ 0 0
  refine j_aload_n x dL_meanGoals_0 rfl ?_
  refine j2_callVw x hb dL_meanGoals_1 m_X5_meanGoals hcon wmL_116 jc_9 rfl rfl rfl (Nat.le_of_ble_eq_true rfl) (j_fit_rm (by omega) (by omega) (by omega)) rfl ?_
  exact j_freturn x hr dL_meanGoals_4 (by omega) (by omega) ⟨rfl, rfl⟩
theorem H_meanGoals_t {d mc ms : Nat} {b : SBt} {Y : OUt} {M M1 : MM} (hb : 94 ≤ b.2.1) (hcon : CM d mc ms yX5_meanGoals cX5_meanGoals 1 (some .float) [.ref 0] b Y M (.inr "java/lang/ArithmeticException") M1) : CMW (d + 1) mc ms yL_meanGoals cL_meanGoals 2 (some .float) [(0, 4, 5, 120)] [.ref 0] b Y M (.float 3296346112) M1 := by
  refine ConH.of (by decide +kernel) (Nat.le_of_ble_eq_true rfl) rfl fun p l e s m args below meth c D tyc A ad0 x hr htab hname => ?_
  change JJ _ _ _ _ _ _ _ _ _ _ _ _ _ _ _ _ _ 0 [some (.ref 0), none] [] _ 0 0
  refine j_aload_n x dL_meanGoals_0 rfl ?_
  refine j2_callC x hb dL_meanGoals_1 m_X5_meanGoals hcon wmL_116 jc_9 rfl rfl rfl (Nat.le_of_ble_eq_true rfl) (j_fit_rm (by omega) (by omega) (by omega)) rfl [] ⟨0, 4, 5, 120⟩ [] htab (fun w hw => by cases hw) (by decide) (by decide) wcL_120 wx_ArithmeticException rfl (fun a => ?_)
  refine j_astore_nR x dL_meanGoals_5 (by decide) rfl ?_
  refine j_ldcF x dL_meanGoals_6 weL_122 ?_
  exact j_freturn x hr dL_meanGoals_8 (by omega) (by omega) ⟨rfl, rfl⟩
/-- played; share of home wins; mean of goals -/
def gPd (B : MM) (n : Nat) : Int32 := jsum (fun m => jof B m 4) n
def gShare (B : MM) (n : Nat) : UInt64 := if gPd B n = 0 then 13875388141788987392 else FP.ddiv (FP.i2d (jsum (gHw B) n)) (FP.i2d (gPd B n))
def gMean (B : MM) (n : Nat) : UInt32 := if gPd B n = 0 then 3296346112 else FP.fdiv (FP.i2f (jsum (gGoals B) n)) (FP.i2f (gPd B n))
theorem SPq.mkW {b : SBt} {Y : OUt} {A A1 : MM} {yL : MethodName} {cL : ByteArray} {mL : Nat} {rt : Option FieldType} {hh : List (Nat × Nat × Nat × Nat)} {asL : List Value} {mc ms : Nat} {k w : Value} (H : CMW 20 mc ms yL cL mL rt hh asL b Y A k A1) (hmc : mc ≤ 1) (hms : ms ≤ 6) (h1 : qE A A1) (e : k = w) : SPq b Y A yL cL mL rt hh asL w := by
  subst e
  exact ⟨mc, ms, hmc, hms, ConH.mono H fun o s q => ⟨A1, q.1, q.2, h1⟩⟩
theorem Q_homeShare {t : Nat} {dr : Bool} {b : SBt} {Y : OUt} {A B : MM} (hb : 94 ≤ b.2.1) (hL : rL t dr (lgC A 1) (B 95)) (hF : dr = true → rFix t A) : SPq b Y A yL_homeShare cL_homeShare 2 (some .double) [(0, 4, 5, 120)] [.ref 0] (.double (gShare B (nn t dr))) := by
  have hn := nn_le (dr := dr) hL.1
  have hm := jmc_r hL hF
  have hp : jcount A (nn t dr) 75 0 = gPd B (nn t dr) := jcount_pl.trans (pl_r hL)
  by_cases h : gPd B (nn t dr) = 0
  · exact SPq.mkW (H_homeShare_t hb (c_homeShare_no (d := 14) (Y := Y) hb hn hm (hp.trans h))) (by decide) (by decide) qE_c (by unfold gShare; rw [if_pos h])
  · have h0 : ¬ jcount A (nn t dr) 75 0 = 0 := fun z => h (hp.symm.trans z)
    exact SPq.mkW (H_homeShare_r hb (c_homeShare_ok (d := 14) (Y := Y) hb hn hm h0 (n64_of (ddiv_ok h0)))) (by decide) (by decide) qE_c (by unfold gShare; rw [if_neg h, hp, hw_r hL])
theorem Q_meanGoals {t : Nat} {dr : Bool} {b : SBt} {Y : OUt} {A B : MM} (hb : 94 ≤ b.2.1) (hL : rL t dr (lgC A 1) (B 95)) (hF : dr = true → rFix t A) : SPq b Y A yL_meanGoals cL_meanGoals 2 (some .float) [(0, 4, 5, 120)] [.ref 0] (.float (gMean B (nn t dr))) := by
  have hn := nn_le (dr := dr) hL.1
  have hm := jmc_r hL hF
  have hp : jcount A (nn t dr) 75 0 = gPd B (nn t dr) := jcount_pl.trans (pl_r hL)
  by_cases h : gPd B (nn t dr) = 0
  · exact SPq.mkW (H_meanGoals_t hb (c_meanGoals_no (d := 14) (Y := Y) hb hn hm (hp.trans h))) (by decide) (by decide) qE_c (by unfold gMean; rw [if_pos h])
  · have h0 : ¬ jcount A (nn t dr) 75 0 = 0 := fun z => h (hp.symm.trans z)
    exact SPq.mkW (H_meanGoals_r hb (c_meanGoals_ok (d := 14) (Y := Y) hb hn hm h0 (n32_of (fdiv_ok h0)))) (by decide) (by decide) qE_c (by unfold gMean; rw [if_neg h, hp, go_r hL])
/-! bits -/
theorem c_dlbJ {d : Nat} {h : MH} {v : UInt64} : Con (d + 1) 0 0 yJxe99ae_doubleToLongBits_ccdee cJxe99ae_doubleToLongBits_ccdee 2 (some .long) [.double v] h (fun o k => o = .inl (some (.long (dlb v))) ∧ k = h) :=
  c_dlb (by decide +kernel) dJxe99ae_doubleToLongBits_ccdee_0 dJxe99ae_doubleToLongBits_ccdee_1 dJxe99ae_doubleToLongBits_ccdee_4 dJxe99ae_doubleToLongBits_ccdee_7 dJxe99ae_doubleToLongBits_ccdee_8 dJxe99ae_doubleToLongBits_ccdee_11 dJxe99ae_doubleToLongBits_ccdee_12 dJxe99ae_doubleToLongBits_ccdee_15
    (c_nanD (by decide +kernel) dJxe99ae_isNaN_b9ae7_0 dJxe99ae_isNaN_b9ae7_1 dJxe99ae_isNaN_b9ae7_2 dJxe99ae_isNaN_b9ae7_3 dJxe99ae_isNaN_b9ae7_6 dJxe99ae_isNaN_b9ae7_7 dJxe99ae_isNaN_b9ae7_10 dJxe99ae_isNaN_b9ae7_11) m_Jxe99ae_isNaN_b9ae7 wmJxe99ae_122 wmJxe99ae_134 wrD_native wrD_static wrD_ini wlD_137
/-! a method of a class that has rows in the table of natives, but none for this one -/
theorem vx_ofWF {l : Launch} {y : MethodName} {ws ws' : List Cond} {rm : Room} {Pc : Array Value → State → Prop} {Qc : Array Value → State → Outcome → State → Prop} {XC : String → State → State → Prop} {mc ms : Nat} {free : Addr → Prop} {cc : ByteArray} {maxL : Nat} {ret : Option FieldType}
    (hy : plainFor y = true) (hw : ws = Cond.code y cc maxL ret :: ws')
    (body : ∀ p e s m args below meth c s₁, BodyLoose p l y (headSpec ws rm) cc maxL ret e s m args below meth c s₁ → c.maxLocals = maxL → (∀ x ∈ c.exceptionTable.toList, False) → Pc args s →
      W p l e (headSpec ws rm).room s m args below meth c s.heap [] 0 0 (vx_MQ below Qc XC args s mc ms free) (entryFrame m args maxL)) : vx_Met l y ws rm Pc Qc XC mc ms free := by
  refine MetFree.of_bodySF (code := cc) (maxLocals := maxL) (ret := ret) hy ?_ ?_
  · intro args s m h hn
    obtain ⟨meth, c, h1, h2, h3, h4, h5, h6, -, -⟩ := Cond.code_spec hn (atoms_spec (ws := ws) h _ (by rw [hw]; exact List.mem_cons_self))
    exact ⟨meth, c, h1, h2, h3, h4, h5, h6⟩
  · intro p e s m args below meth c s₁ B hml hP _
    have hh0 : s₁.heap = s.heap := by rw [B.state]; rfl
    have ht : ∀ x ∈ c.exceptionTable.toList, False := by
      obtain ⟨meth9, c9, h1, h2, -, -, -, -, h7, -⟩ := Cond.code_spec B.named (atoms_spec (ws := ws) B.pre _ (by rw [hw]; exact List.mem_cons_self))
      cases Option.some.inj (h1.symm.trans B.method)
      cases Option.some.inj (h2.symm.trans (Stand.of_body B).code)
      intro x hx
      rw [Array.isEmpty_iff.mp h7] at hx
      cases hx
    obtain ⟨t, a1, o, b1, b2, b3⟩ := body p e s m args below meth c s₁ B hml ht hP s₁ hh0 (Stand.of_body B)
    exact ⟨t, o, a1, b1, b2, b3⟩
theorem Con.ofF {d mc ms : Nat} {y : MethodName} {cc : ByteArray} {maxL : Nat} {ret : Option FieldType} {as : List Value} {h : MH} {Q : MO → MH → Prop} (hy : plainFor y = true) (hn : as.length ≤ maxL) (hc : as.all (fun v => v.category == 1) = true)
    (body : ∀ (p : Program) (l : Launch) (e : Env) (s : State) (m : MethodId) (args : Array Value) (below : List Frame) (meth : Method) (c : Code) (D : va_G) (tyc : Nat → ClassId) (A : Nat → Prop) (ad0 : Nat → Nat), j_X p l s m args meth c D tyc A y.cls cc maxL → meth.sig.returnType = ret → (∀ z ∈ c.exceptionTable.toList, False) → meth.name = y.name →
      JJ p l e (j_rm d mc ms) s m args below meth c D tyc A h.1 ad0 maxL (vx_MQ below (j_Qc D tyc A h.1 ad0 Q) (j_XC D tyc A h.1 ad0 Q) args s mc ms A) 0 (j_L0 maxL as) [] h 0 0) : Con d mc ms y cc maxL ret as h Q := by
  intro l D tyc ad sz hl hh ha
  have hc : ∀ v ∈ as, v.category = 1 := fun v hv => by simpa using List.all_eq_true.mp hc v hv
  refine vx_ofWF (cc := cc) (maxL := maxL) (ret := ret) hy rfl ?_
  intro p e s m args below meth c s₁ B hml htab hv
  obtain ⟨rfl, hsz, hP, hK, hD0, hE⟩ := hv
  have hts := atoms_spec (ws := Cond.code y cc maxL ret :: j_all) B.pre
  subst hsz
  have hD := hD0.self (sz := s.heap.size)
  have hA : ∀ q : Nat, s.heap.size ≤ q → va_A (j_w tyc ad h) s.heap.size q := fun q h => Or.inr h
  have hl0 := lv_entry (as.map (j_cv ad)) (n := maxL) (by
    have e1 : ∀ (vs : List Value), (∀ v ∈ vs, v.category = 1) → (lg_sl (vs.map (j_cv ad))).length = vs.length := by
      intro vs
      induction vs with
      | nil => intro _; rfl
      | cons v vs ih =>
        intro hc
        have hv : ¬ (j_cv ad v).category = 2 := by rw [j_cv_cat, hc v List.mem_cons_self]; decide
        simp only [lg_sl, List.map_cons, List.flatMap_cons, if_neg hv, List.length_append, List.length_cons, List.length_nil]
        have := ih (fun w hw => hc w (List.mem_cons_of_mem _ hw))
        simp only [lg_sl] at this
        omega
    rw [e1 as hc]
    exact hn)
  rw [lg_entry_eq]
  have key := body p l e s m ((as.map (j_cv ad)).toArray) below meth c D tyc (va_A (j_w tyc ad h) s.heap.size) ad ⟨B.exec, B.bytes, hml, findClass_of_methodNamed B.named, fun w hw => hts w (List.mem_cons_of_mem _ hw), hK, hA, B.notSynchronized, hl, hE⟩ B.returns htab (name_of_methodNamed B.named B.method).1
  exact key ad _ s.heap [] ⟨j_L.entry hn hc hl0, hP, hD, va_S.rf, ⟨Nat.le_refl _, fun _ _ => rfl⟩, hh, fun v hv => (by cases hv), fun v hv => ha v (by
    obtain ⟨i, hi⟩ := List.getElem?_of_mem hv
    exact List.mem_of_getElem? (j_L0_get hi))⟩
theorem c_nanFF {d : Nat} {h : MH} {v : UInt32} {y : MethodName} {cc : ByteArray} (hy : plainFor y = true) (d0 : decode cc 0 = .ok (.fload_n 0, 1)) (d1 : decode cc 1 = .ok (.fload_n 0, 1)) (d2 : decode cc 2 = .ok (.fcmp .l, 1)) (d3 : decode cc 3 = .ok (.ifCond .eq 7, 3)) (d6 : decode cc 6 = .ok (.iconst 1, 1)) (d7 : decode cc 7 = .ok (.goto 4, 3)) (d10 : decode cc 10 = .ok (.iconst 0, 1)) (d11 : decode cc 11 = .ok (.ireturn, 1)) :
    Con d 0 0 y cc 1 (some .boolean) [.float v] h (fun o k => o = .inl (some (.int (nanF v))) ∧ k = h) := by
  refine Con.ofF hy (Nat.le_of_ble_eq_true rfl) rfl fun p l e s m args below meth c D tyc A ad0 x hr htab hname => ?_
  change JJ _ _ _ _ _ _ _ _ _ _ _ _ _ _ _ _ _ 0 [some (.float v)] [] _ 0 0
  refine j_fload_n x d0 rfl ?_
  refine j_fload_n x d1 rfl ?_
  refine j_fcmpQ x d2 ?_
  refine j_if_eq (tgt := 10) x d3 (by decide) (fun g => ?_) (fun g => ?_)
  · refine j_iconst (v := 0) x d10 (by decide) ?_
    exact j_zreturn x hr d11 rfl (Nat.le_refl _) (Nat.le_refl _) ⟨by rw [nanF, if_pos g], rfl⟩
  · refine j_iconst (v := 1) x d6 (by decide) ?_
    refine j_goto (tgt := 11) x d7 (by decide) ?_
    exact j_zreturn x hr d11 rfl (Nat.le_refl _) (Nat.le_refl _) ⟨by rw [nanF, if_neg g], rfl⟩
theorem c_flbF {d : Nat} {h : MH} {v : UInt32} {y yN : MethodName} {cc cN : ByteArray} {k1 k2 k3 : Nat} (hy : plainFor y = true) (d0 : decode cc 0 = .ok (.fload_n 0, 1)) (d1 : decode cc 1 = .ok (.invokestatic k1, 3)) (d4 : decode cc 4 = .ok (.ifCond .ne 8, 3)) (d7 : decode cc 7 = .ok (.fload_n 0, 1)) (d8 : decode cc 8 = .ok (.invokestatic k2, 3)) (d11 : decode cc 11 = .ok (.ireturn, 1)) (d12 : decode cc 12 = .ok (.ldc k3, 2)) (d14 : decode cc 14 = .ok (.ireturn, 1))
    (hN : Con d 0 0 yN cN 1 (some .boolean) [.float v] h (fun o k => o = .inl (some (.int (nanF v))) ∧ k = h)) (mN : j_mS yN cN 1 (some .boolean) 1) (w1 : Cond.methodLink y.cls k1 yN ∈ j_all) (w2 : Cond.methodLink y.cls k2 ⟨"java/lang/Float", "floatToRawIntBits", "(F)I"⟩ ∈ j_all) (w3 : Cond.native ⟨"java/lang/Float", "floatToRawIntBits", "(F)I"⟩ ∈ j_all) (w4 : Cond.static ⟨"java/lang/Float", "floatToRawIntBits", "(F)I"⟩ ∈ j_all) (w5 : Cond.initialized "java/lang/Float" ∈ j_all) (w6 : Cond.constant y.cls k3 2143289344 ∈ j_all) :
    Con (d + 1) 0 0 y cc 1 (some .int) [.float v] h (fun o k => o = .inl (some (.int (flb v))) ∧ k = h) := by
  refine Con.ofF hy (Nat.le_of_ble_eq_true rfl) rfl fun p l e s m args below meth c D tyc A ad0 x hr htab hname => ?_
  change JJ _ _ _ _ _ _ _ _ _ _ _ _ _ _ _ _ _ 0 [some (.float v)] [] _ 0 0
  refine j_fload_n x d0 rfl ?_
  refine j_callS x d1 hN mN w1 rfl (st := []) (Nat.zero_le _) (j_fit_rm (by omega) (by omega) (by omega)) rfl (fun E k z => by cases z.1) (fun r h1 hQ => ?_)
  obtain ⟨ho, rfl⟩ := hQ
  cases ho
  change JJ _ _ _ _ _ _ _ _ _ _ _ _ _ _ _ _ _ 4 [some (.float v)] (.int (nanF v) :: []) _ _ _
  refine j_if_ne (tgt := 12) x d4 (by decide) (fun g => ?_) (fun g => ?_)
  · refine j_ldci x d12 w6 ?_
    exact j_ireturn x hr d14 (Nat.le_refl _) (Nat.le_refl _) ⟨by rw [flb, if_neg g], rfl⟩
  · refine j_fload_n x d7 rfl ?_
    refine j_f2i x d8 w2 w3 w4 w5 (Nat.zero_le _) j_rm_23 ?_
    exact j_ireturn x hr d11 (Nat.le_refl _) (Nat.le_refl _) ⟨by rw [flb, if_pos g], rfl⟩
theorem c_flbJ {d : Nat} {h : MH} {v : UInt32} : Con (d + 1) 0 0 yJxf58ca_floatToIntBits_5c35a cJxf58ca_floatToIntBits_5c35a 1 (some .int) [.float v] h (fun o k => o = .inl (some (.int (flb v))) ∧ k = h) :=
  c_flbF (by decide +kernel) dJxf58ca_floatToIntBits_5c35a_0 dJxf58ca_floatToIntBits_5c35a_1 dJxf58ca_floatToIntBits_5c35a_4 dJxf58ca_floatToIntBits_5c35a_7 dJxf58ca_floatToIntBits_5c35a_8 dJxf58ca_floatToIntBits_5c35a_11 dJxf58ca_floatToIntBits_5c35a_12 dJxf58ca_floatToIntBits_5c35a_14
    (c_nanFF (by decide +kernel) dJxf58ca_isNaN_12338_0 dJxf58ca_isNaN_12338_1 dJxf58ca_isNaN_12338_2 dJxf58ca_isNaN_12338_3 dJxf58ca_isNaN_12338_6 dJxf58ca_isNaN_12338_7 dJxf58ca_isNaN_12338_10 dJxf58ca_isNaN_12338_11) m_Jxf58ca_isNaN_12338 wmJxf58ca_59 wmJxf58ca_74 wrF_native wrF_static wrF_ini wkJxf58ca_77
/-! the line -/
theorem H_lineX {d mc ms : Nat} {b : SBt} {Y : OUt} {M : MM} (hb : 94 ≤ b.2.1) {u : Int32} {Q : MO → MH → Prop} (hcon : Con d mc ms yX5_line cX5_line 2 (some .int) [.ref 0, .int u] (HH b Y M) Q) (hi : ∀ o k, Q o k → ∃ v : Int32, o = .inl (some (.int v))) : ConH (d + 1) mc ms yL_line cL_line 3 (some .int) [(0, 5, 6, 45)] [.ref 0, .int u] (HH b Y M) Q := by
  refine ConH.of (by decide +kernel) (Nat.le_of_ble_eq_true rfl) rfl fun p l e s m args below meth c D tyc A ad0 x hr htab hname => ?_
  change JJ _ _ _ _ _ _ _ _ _ _ _ _ _ _ _ _ _ 0 [some (.ref 0), some (.int u), none] [] _ 0 0
  refine j_aload_n x dL_line_0 rfl ?_
  refine j_iload_n x dL_line_1 rfl ?_
  refine j_callV x dL_line_2 hcon m_X5_line wmL_109 jc_9 rfl (show 0 < b.2.1 by omega) rfl rfl (Nat.zero_le _) (j_fit_rm (by omega) (by omega) (by omega)) rfl (fun E k z => by obtain ⟨v, h⟩ := hi _ _ z; cases h) (fun v k z => ?_)
  obtain ⟨w, e⟩ := hi _ _ z
  cases e
  exact j_ireturn x hr dL_line_5 (by omega) (by omega) z
def vMk (N : MM) (n t i : Nat) : Nat := if gSafe N n t i = 1 then 1 else if gOut N n t i = 1 then 2 else 0
def vNu (N : MM) (n i k : Nat) : Nat := (gH N n (nI i) k).toNatClampNeg
/-- the line of team i: how long, its bytes -/
def vLn (N : MM) (n t i : Nat) : Nat × (Nat → Int32) := lnM (lnT i (vNu N n i 1) (vNu N n i 2) (vNu N n i 3) (vNu N n i 4) (vNu N n i 5) (vNu N n i 6)) (vMk N n t i)
theorem lnT_le (a0 a1 a2 a3 a4 a5 a6 : Nat) : (lnT a0 a1 a2 a3 a4 a5 a6).1 ≤ 34 := by
  show 0 + dg a0 + 1 + dg a1 + 1 + dg a2 + 1 + dg a3 + 1 + dg a4 + 1 + dg a5 + 1 + dg a6 ≤ 34
  have h0 := (dg_le a0).2
  have h1 := (dg_le a1).2
  have h2 := (dg_le a2).2
  have h3 := (dg_le a3).2
  have h4 := (dg_le a4).2
  have h5 := (dg_le a5).2
  have h6 := (dg_le a6).2
  omega
theorem lnM_le {x : Nat × (Nat → Int32)} {m : Nat} (h : x.1 ≤ 34) : (lnM x m).1 ≤ 40 := by
  unfold lnM
  split
  · show x.1 + 1 ≤ 40
    omega
  · split
    · show x.1 + 1 ≤ 40
      omega
    · omega
theorem vLn_le {N : MM} {n t i : Nat} : (vLn N n t i).1 ≤ 40 := lnM_le (lnT_le _ _ _ _ _ _ _)
/-- the line that stands in the StringBuilder -/
def LnP (b : SBt) (A : MM) (x : Nat × (Nat → Int32)) : Prop := ∃ n2, sbI b A n2 ∧ n2 ≤ 202 ∧ x.1 ≤ n2 ∧ A 92 3 = nI x.1 ∧ sbT b A x.1 x.2
theorem Q_line {t q : Nat} {b : SBt} {Y : OUt} {A B : MM} (I : InvP b A B) {N : MM} (hL : rL t true (lgC A 1) (N 95)) (hF : true = true → rFix t A) (hq : q < t) :
    ConH 20 14 2828 yL_line cL_line 3 (some .int) [(0, 5, 6, 45)] [.ref 0, .int (nI q)] (HH b Y A) (fun o s => ∃ b1 A1, o = .inl (some (.int (nI (vLn N (nn t true) t q).1))) ∧ s = HH b1 Y A1 ∧ InvP b1 A1 B ∧ LnP b1 A1 (vLn N (nn t true) t q) ∧ (vLn N (nn t true) t q).1 ≤ 100) := by
  have hb := I.hb
  have ht := hL.1
  have hn := nn_le (dr := true) ht
  have hm := jmc_r hL hF
  have h10 : A 1 0 = nI t := hL.2.1
  have hT : ¬ nI q < 0 ∧ ¬ A 1 0 ≤ nI q := by rw [h10]; exact (in_q1 (by omega)).mpr ⟨q, hq, rfl⟩
  have hta : ∀ (k q : Nat), 1 ≤ k → k ≤ 8 → q < 8 → jat 8 (jcount A (nn t true) (75 + k)) (nI q) = gH N (nn t true) (nI q) k := fun k q h1 h2 h3 => by rw [jat_nI h3 (by decide)]; exact tally_r hL hF h1 h2 h3
  have hnu : ∀ k, vNu N (nn t true) q k < 10000 ∧ gH N (nn t true) (nI q) k = nI (vNu N (nn t true) q k) := fun k => by
    have h1 := gH_bd hL (k := k) (q := q) (by omega)
    unfold vNu
    generalize gH N (nn t true) (nI q) k = v at h1 ⊢
    have e : v = nI v.toInt.toNat := by
      rw [show nI v.toInt.toNat = Int32.ofInt (v.toInt.toNat : Int) from Int32.ofInt_eq_ofNat.symm, Int.toNat_of_nonneg (by omega), Int32.ofInt_toInt]
    have e2 : v.toNatClampNeg = v.toInt.toNat := rfl
    refine ⟨by rw [e2]; omega, by rw [e2]; exact e⟩
  obtain ⟨z0, c1, hI, hz, hc, hc1, hcz⟩ := I.2
  have H := c_line (d := 13) (Y := Y) hb (show q < 8 by omega) hT hn hm ht h10 hI hz hc (by omega) (hnu 1).1 ((hta 1 q (by omega) (by omega) (by omega)).trans (hnu 1).2) (hnu 2).1 ((hta 2 q (by omega) (by omega) (by omega)).trans (hnu 2).2) (hnu 3).1 ((hta 3 q (by omega) (by omega) (by omega)).trans (hnu 3).2) (hnu 4).1 ((hta 4 q (by omega) (by omega) (by omega)).trans (hnu 4).2) (hnu 5).1 ((hta 5 q (by omega) (by omega) (by omega)).trans (hnu 5).2) (hnu 6).1 ((hta 6 q (by omega) (by omega) (by omega)).trans (hnu 6).2)
  have hre : ∀ i, i < 8 → jreach (jcount A (nn t true)) (nI i) = gReach N (nn t true) i := fun i hi => by
    unfold jreach gReach
    rw [hta 1 i (by omega) (by omega) hi, hta 8 i (by omega) (by omega) hi, jcount_n (by omega), jcount_n (by omega), pw_r hL, pd_r hL]
  have e1 : jfst (fSafe (jcount A (nn t true)) (nI q)) t = jfst (fun i => jb (¬ nI i = nI q ∧ ¬ gReach N (nn t true) i < gH N (nn t true) (nI q) 1)) t := jfst_c fun i hi => by
    show jb (¬ nI i = nI q ∧ ¬ jreach (jcount A (nn t true)) (nI i) < jat 8 (jcount A (nn t true) 76) (nI q)) = _
    rw [hre i (by omega), hta 1 q (by omega) (by omega) (by omega)]
  have e2 : jfst (fOut (jcount A (nn t true)) (nI q)) t = jfst (fun i => jb (¬ nI i = nI q ∧ ¬ gH N (nn t true) (nI i) 1 ≤ gReach N (nn t true) q)) t := jfst_c fun i hi => by
    show jb (¬ nI i = nI q ∧ ¬ jat 8 (jcount A (nn t true) 76) (nI i) ≤ jreach (jcount A (nn t true)) (nI q)) = _
    rw [hre q (by omega), hta 1 i (by omega) (by omega) (by omega)]
  have eK : lnK (jcount A (nn t true)) q t = vMk N (nn t true) t q := by
    unfold lnK vMk gSafe gOut
    rw [e1, e2]
    by_cases g1 : jb (jfst (fun i => jb (¬ nI i = nI q ∧ ¬ gReach N (nn t true) i < gH N (nn t true) (nI q) 1)) t = -1) = 0
    · rw [if_neg (fun z => z g1), if_pos g1, if_neg (show ¬ (0 : Int32) = 1 by decide)]
      by_cases g2 : jb (¬ jfst (fun i => jb (¬ nI i = nI q ∧ ¬ gH N (nn t true) (nI i) 1 ≤ gReach N (nn t true) q)) t = -1) = 0
      · rw [if_neg (fun z => z g2), if_pos g2, if_neg (show ¬ (0 : Int32) = 1 by decide)]
      · rw [if_pos g2, if_neg g2, if_pos rfl]
    · rw [if_pos g1, if_neg g1, if_pos rfl]
  refine (H_lineX hb H fun o k z => ?_).mono fun o k z => ?_
  · obtain ⟨c2, -, -, -, -, ho, -⟩ := z
    exact ⟨_, ho⟩
  · obtain ⟨c2, b2, N2, n2, hc2, rfl, rfl, hI2, hn2, hcn, hG, hN3, mk, emk, ec, hT2⟩ := z
    rw [eK] at emk
    subst emk
    have ex : c2 = (vLn N (nn t true) t q).1 := ec
    subst ex
    refine ⟨b2, N2, rfl, rfl, ⟨?_, n2, _, hI2, hn2, hN3, vLn_le, hcn⟩, ⟨n2, hI2, hn2, hcn, hN3, hT2⟩, hc2⟩
    exact Rel_c I.1 (fun i k z1 z2 => (hG i k (by omega)).trans (jcount_n (by omega))) (fun _ _ _ => rfl)
def lch (v : Int32) : Int32 := ((v &&& 255).toUInt32 % 65536).toInt32
theorem Q_character {b : SBt} {Y : OUt} {A : MM} (hb : 94 ≤ b.2.1) {x : Nat × (Nat → Int32)} (h : LnP b A x) {i : Nat} (hi : i < x.1) : ConH 20 0 0 yL_character cL_character 3 (some .int) [(0, 5, 6, 45)] [.ref 0, .int (nI i)] (HH b Y A) (fun o s => o = .inl (some (.int (lch (x.2 i)))) ∧ s = HH b Y A) := by
  obtain ⟨n2, h1, h2, h3, h4, h5⟩ := h
  have H := c_character (d := 15) (Y := Y) hb h1 h2 h4 hi h3
  rw [h5 i hi] at H
  exact H_character_r hb H
