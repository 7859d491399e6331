/-! ===== a method of a class of which some methods are run by the machine itself ===== -/
theorem jx_ofW {l : Launch} {y : MethodName} {ws ws' : List Cond} {rm : Room} {Pc : Array Value → State → Prop} {Qc : Array Value → State → Outcome → State → Prop} {XC : String → State → State → Prop} {mc ms : Nat} {free : Addr → Prop} {cc : ByteArray} {maxL : Nat} {ret : Option FieldType}
    (hy : plainFor y = true) (hw : ws = Cond.code y cc maxL ret :: ws')
    (body : ∀ p e s m args below meth c s₁, BodyLoose p l y (headSpec ws rm) cc maxL ret e s m args below meth c s₁ → c.maxLocals = maxL → (∀ x ∈ c.exceptionTable.toList, False) → Pc args s →
      W p l e (headSpec ws rm).room s m args below meth c s.heap [] 0 0 (vx_MQ below Qc XC args s mc ms free) (entryFrame m args maxL)) : vx_Met l y ws rm Pc Qc XC mc ms free := by
  refine MetFree.of_bodySF (code := cc) (maxLocals := maxL) (ret := ret) hy ?_ ?_
  · intro args s m h hn
    obtain ⟨meth, c, h1, h2, h3, h4, h5, h6, -, -⟩ := Cond.code_spec hn (atoms_spec (ws := ws) h _ (by rw [hw]; exact List.mem_cons_self))
    exact ⟨meth, c, h1, h2, h3, h4, h5, h6⟩
  · intro p e s m args below meth c s₁ B hml hP _
    have hh0 : s₁.heap = s.heap := by rw [B.state]; rfl
    have ht : ∀ x ∈ c.exceptionTable.toList, False := by
      obtain ⟨meth9, c9, h1, h2, -, -, -, -, h7, -⟩ := Cond.code_spec B.named (atoms_spec (ws := ws) B.pre _ (by rw [hw]; exact List.mem_cons_self))
      cases Option.some.inj (h1.symm.trans B.method)
      cases Option.some.inj (h2.symm.trans (Stand.of_body B).code)
      intro x hx
      rw [Array.isEmpty_iff.mp h7] at hx
      cases hx
    obtain ⟨t, a1, o, b1, b2, b3⟩ := body p e s m args below meth c s₁ B hml ht hP s₁ hh0 (Stand.of_body B)
    exact ⟨t, o, a1, b1, b2, b3⟩
theorem Con.ofF {d mc ms : Nat} {y : MethodName} {cc : ByteArray} {maxL : Nat} {ret : Option FieldType} {as : List Value} {h : MH} {Q : MO → MH → Prop} (hy : plainFor y = true) (hn : as.length ≤ maxL) (hc : as.all (fun v => v.category == 1) = true)
    (body : ∀ (p : Program) (l : Launch) (e : Env) (s : State) (m : MethodId) (args : Array Value) (below : List Frame) (meth : Method) (c : Code) (D : va_G) (tyc : Nat → ClassId) (A : Nat → Prop) (ad0 : Nat → Nat), j_X p l s m args meth c D tyc A y.cls cc maxL → meth.sig.returnType = ret → (∀ z ∈ c.exceptionTable.toList, False) → meth.name = y.name →
      JJ p l e (j_rm d mc ms) s m args below meth c D tyc A h.1 ad0 maxL (vx_MQ below (j_Qc D tyc A h.1 ad0 Q) (j_XC D tyc A h.1 ad0 Q) args s mc ms A) 0 (j_L0 maxL as) [] h 0 0) : Con d mc ms y cc maxL ret as h Q := by
  intro l D tyc ad sz hl hh ha
  have hc : ∀ v ∈ as, v.category = 1 := fun v hv => by simpa using List.all_eq_true.mp hc v hv
  refine jx_ofW (cc := cc) (maxL := maxL) (ret := ret) hy rfl ?_
  intro p e s m args below meth c s₁ B hml htab hv
  obtain ⟨rfl, hsz, hP, hK, hD0, hE⟩ := hv
  have hts := atoms_spec (ws := Cond.code y cc maxL ret :: j_all) B.pre
  subst hsz
  have hD := hD0.self (sz := s.heap.size)
  have hA : ∀ q : Nat, s.heap.size ≤ q → va_A (j_w tyc ad h) s.heap.size q := fun q h => Or.inr h
  have hl0 := lv_entry (as.map (j_cv ad)) (n := maxL) (by
    have e1 : ∀ (vs : List Value), (∀ v ∈ vs, v.category = 1) → (lg_sl (vs.map (j_cv ad))).length = vs.length := by
      intro vs
      induction vs with
      | nil => intro _; rfl
      | cons v vs ih =>
        intro hc
        have hv : ¬ (j_cv ad v).category = 2 := by rw [j_cv_cat, hc v List.mem_cons_self]; decide
        simp only [lg_sl, List.map_cons, List.flatMap_cons, if_neg hv, List.length_append, List.length_cons, List.length_nil]
        have := ih (fun w hw => hc w (List.mem_cons_of_mem _ hw))
        simp only [lg_sl] at this
        omega
    rw [e1 as hc]
    exact hn)
  rw [lg_entry_eq]
  have key := body p l e s m ((as.map (j_cv ad)).toArray) below meth c D tyc (va_A (j_w tyc ad h) s.heap.size) ad ⟨B.exec, B.bytes, hml, findClass_of_methodNamed B.named, fun w hw => hts w (List.mem_cons_of_mem _ hw), hK, hA, B.notSynchronized, hl, hE⟩ B.returns htab (name_of_methodNamed B.named B.method).1
  exact key ad _ s.heap [] ⟨j_L.entry hn hc hl0, hP, hD, va_S.rf, ⟨Nat.le_refl _, fun _ _ => rfl⟩, hh, fun v hv => (by cases hv), fun v hv => ha v (by
    obtain ⟨i, hi⟩ := List.getElem?_of_mem hv
    exact List.mem_of_getElem? (j_L0_get hi))⟩

/-! ===== the reference: who plays whom ===== -/
def gfm (v w : Int32) : Int32 := if ¬ 0 ≤ v ^^^ w ∧ ¬ v - v / w * w = 0 then v - v / w * w + w else v - v / w * w
theorem c_floorMod {d : Nat} {b : SBt} {Y : OUt} {M : MM} (hb : 104 ≤ b.2.1) {v w : Int32} (hw : ¬ w = 0) : CM (d) 0 0 yJ9_floorMod_7cf53 cJ9_floorMod_7cf53 3 (some .int) [.int v, .int w] b Y M (.inl (some (.int (gfm v w)))) (M) := by
  refine Con.ofF (by decide +kernel) (Nat.le_of_ble_eq_true rfl) rfl fun p l e s m args below meth c D tyc A ad0 x hr htab hname => ?_
  change JJ _ _ _ _ _ _ _ _ _ _ _ _ _ _ _ _ _ 0 [some (.int v), some (.int w), none] [] _ 0 0
  refine j_iload_n x dJ9_floorMod_7cf53_0 rfl ?_
  refine j_iload_n x dJ9_floorMod_7cf53_1 rfl ?_
  refine j_irem x dJ9_floorMod_7cf53_2 hw ?_
  refine j_istore_n x dJ9_floorMod_7cf53_3 (by decide) rfl ?_
  refine j_iload_n x dJ9_floorMod_7cf53_4 rfl ?_
  refine j_iload_n x dJ9_floorMod_7cf53_5 rfl ?_
  refine j_ixor x dJ9_floorMod_7cf53_6 ?_
  refine j_if_ge (tgt := 18) x dJ9_floorMod_7cf53_7 (by decide) (fun h1 => ?_) (fun h1 => ?_)
  · refine j_iload_n x dJ9_floorMod_7cf53_18 rfl ?_
    exact j_ireturn x hr dJ9_floorMod_7cf53_19 (by omega) (by omega) ⟨by rw [gfm, if_neg (fun z => z.1 h1)], rfl⟩
  · refine j_iload_n x dJ9_floorMod_7cf53_10 rfl ?_
    refine j_if_eq (tgt := 18) x dJ9_floorMod_7cf53_11 (by decide) (fun h2 => ?_) (fun h2 => ?_)
    · refine j_iload_n x dJ9_floorMod_7cf53_18 rfl ?_
      exact j_ireturn x hr dJ9_floorMod_7cf53_19 (by omega) (by omega) ⟨by rw [gfm, if_neg (fun z => z.2 h2)], rfl⟩
    · refine j_iload_n x dJ9_floorMod_7cf53_14 rfl ?_
      refine j_iload_n x dJ9_floorMod_7cf53_15 rfl ?_
      refine j_iadd x dJ9_floorMod_7cf53_16 ?_
      exact j_ireturn x hr dJ9_floorMod_7cf53_17 (by omega) (by omega) ⟨by rw [gfm, if_pos ⟨h1, h2⟩], rfl⟩
def gpl (v : Int32) : Int32 := v + (v - v / 2 * 2)
def gRiv (p t w : Int32) : Int32 := if t = p - 1 then w else if t = w then p - 1 else gfm (2 * w - t) (p - 1)
def gHm (p t w : Int32) : Int32 := if t = p - 1 then jb (w - w / 2 * 2 = 1) else if t = w then jb (w - w / 2 * 2 = 0) else if p / 2 - 1 < gfm (t - w) (p - 1) then jb ((p - 1 - gfm (t - w) (p - 1)) - (p - 1 - gfm (t - w) (p - 1)) / 2 * 2 = 1) else jb (gfm (t - w) (p - 1) - gfm (t - w) (p - 1) / 2 * 2 = 0)
theorem cx_rival {d : Nat} {b : SBt} {Y : OUt} {M : MM} (hb : 104 ≤ b.2.1) {t w : Int32} (hp : ¬ gpl (M 95 0) - 1 = 0) : CM (d + 1) 0 0 yX6_rival cX6_rival 4 (some .int) [.ref 94, .int t, .int w] b Y M (.inl (some (.int (gRiv (gpl (M 95 0)) t w)))) (M) := by
  refine Con.of (by decide +kernel) (Nat.le_of_ble_eq_true rfl) rfl fun p l e s m args below meth c D tyc A ad0 x hr htab hname => ?_
  change JJ _ _ _ _ _ _ _ _ _ _ _ _ _ _ _ _ _ 0 [some (.ref 94), some (.int t), some (.int w), none] [] _ 0 0
  refine j_aload_n x dX6_rival_0 rfl ?_
  refine j2_callVi x hb dX6_rival_1 m_X6_places (show CM d 0 0 _ _ _ _ _ b Y M (.inl (some (.int (gpl (M 95 0))))) M from cx_places (d := d) hb) wmX6_94 jc_10 rfl rfl rfl (Nat.le_of_ble_eq_true rfl) (j_fit_rm (by omega) (by omega) (by omega)) rfl ?_
  refine j_istore_n x dX6_rival_4 (by decide) rfl ?_
  refine j_iload_n x dX6_rival_5 rfl ?_
  refine j_iload_n x dX6_rival_6 rfl ?_
  refine j_iconst (v := 1) x dX6_rival_7 (by decide) ?_
  refine j_isub x dX6_rival_8 ?_
  refine j_icmp_ne (tgt := 14) x dX6_rival_9 (by decide) (fun h1 => ?_) (fun h1 => ?_)
  · refine j_iload_n x dX6_rival_14 rfl ?_
    refine j_iload_n x dX6_rival_15 rfl ?_
    refine j_icmp_ne (tgt := 23) x dX6_rival_16 (by decide) (fun h2 => ?_) (fun h2 => ?_)
    · refine j_iconst (v := 2) x dX6_rival_23 (by decide) ?_
      refine j_iload_n x dX6_rival_24 rfl ?_
      refine j_imul x dX6_rival_25 ?_
      refine j_iload_n x dX6_rival_26 rfl ?_
      refine j_isub x dX6_rival_27 ?_
      refine j_iload_n x dX6_rival_28 rfl ?_
      refine j_iconst (v := 1) x dX6_rival_29 (by decide) ?_
      refine j_isub x dX6_rival_30 ?_
      refine j2_callSi x hb dX6_rival_31 m_J9_floorMod_7cf53 (c_floorMod (d := d) hb hp) wmX6_98 rfl (Nat.le_of_ble_eq_true rfl) (j_fit_rm (by omega) (by omega) (by omega)) rfl ?_
      exact j_ireturn x hr dX6_rival_34 (by omega) (by omega) ⟨by rw [gRiv, if_neg h1, if_neg h2], rfl⟩
    · refine j_iload_n x dX6_rival_19 rfl ?_
      refine j_iconst (v := 1) x dX6_rival_20 (by decide) ?_
      refine j_isub x dX6_rival_21 ?_
      exact j_ireturn x hr dX6_rival_22 (by omega) (by omega) ⟨by rw [gRiv, if_neg h1, if_pos h2], rfl⟩
  · refine j_iload_n x dX6_rival_12 rfl ?_
    exact j_ireturn x hr dX6_rival_13 (by omega) (by omega) ⟨by rw [gRiv, if_pos h1], rfl⟩
theorem cx_isAtHome {d : Nat} {b : SBt} {Y : OUt} {M : MM} (hb : 104 ≤ b.2.1) {t w : Int32} (hp : ¬ gpl (M 95 0) - 1 = 0) : CM (d + 1) 0 0 yX6_isAtHome cX6_isAtHome 5 (some .boolean) [.ref 94, .int t, .int w] b Y M (.inl (some (.int (gHm (gpl (M 95 0)) t w)))) (M) := by
  refine Con.of (by decide +kernel) (Nat.le_of_ble_eq_true rfl) rfl fun p l e s m args below meth c D tyc A ad0 x hr htab hname => ?_
  change JJ _ _ _ _ _ _ _ _ _ _ _ _ _ _ _ _ _ 0 [some (.ref 94), some (.int t), some (.int w), none, none] [] _ 0 0
  refine j_aload_n x dX6_isAtHome_0 rfl ?_
  refine j2_callVi x hb dX6_isAtHome_1 m_X6_places (show CM d 0 0 _ _ _ _ _ b Y M (.inl (some (.int (gpl (M 95 0))))) M from cx_places (d := d) hb) wmX6_94 jc_10 rfl rfl rfl (Nat.le_of_ble_eq_true rfl) (j_fit_rm (by omega) (by omega) (by omega)) rfl ?_
  refine j_istore_n x dX6_isAtHome_4 (by decide) rfl ?_
  refine j_iload_n x dX6_isAtHome_5 rfl ?_
  refine j_iload_n x dX6_isAtHome_6 rfl ?_
  refine j_iconst (v := 1) x dX6_isAtHome_7 (by decide) ?_
  refine j_isub x dX6_isAtHome_8 ?_
  refine j_icmp_ne (tgt := 25) x dX6_isAtHome_9 (by decide) (fun h1 => ?_) (fun h1 => ?_)
  · refine j_iload_n x dX6_isAtHome_25 rfl ?_
    refine j_iload_n x dX6_isAtHome_26 rfl ?_
    refine j_icmp_ne (tgt := 42) x dX6_isAtHome_27 (by decide) (fun h2 => ?_) (fun h2 => ?_)
    · refine j_iload_n x dX6_isAtHome_42 rfl ?_
      refine j_iload_n x dX6_isAtHome_43 rfl ?_
      refine j_isub x dX6_isAtHome_44 ?_
      refine j_iload_n x dX6_isAtHome_45 rfl ?_
      refine j_iconst (v := 1) x dX6_isAtHome_46 (by decide) ?_
      refine j_isub x dX6_isAtHome_47 ?_
      refine j2_callSi x hb dX6_isAtHome_48 m_J9_floorMod_7cf53 (c_floorMod (d := d) hb hp) wmX6_98 rfl (Nat.le_of_ble_eq_true rfl) (j_fit_rm (by omega) (by omega) (by omega)) rfl ?_
      refine j_istore x dX6_isAtHome_51 (by decide) rfl ?_
      refine j_iload x dX6_isAtHome_53 rfl ?_
      refine j_iload_n x dX6_isAtHome_55 rfl ?_
      refine j_iconst (v := 2) x dX6_isAtHome_56 (by decide) ?_
      refine j_idiv x dX6_isAtHome_57 (by decide) ?_
      refine j_iconst (v := 1) x dX6_isAtHome_58 (by decide) ?_
      refine j_isub x dX6_isAtHome_59 ?_
      refine j_icmp_gt (tgt := 78) x dX6_isAtHome_60 (by decide) (fun h3 => ?_) (fun h3 => ?_)
      · refine j_iload_n x dX6_isAtHome_78 rfl ?_
        refine j_iconst (v := 1) x dX6_isAtHome_79 (by decide) ?_
        refine j_isub x dX6_isAtHome_80 ?_
        refine j_iload x dX6_isAtHome_81 rfl ?_
        refine j_isub x dX6_isAtHome_83 ?_
        refine j_iconst (v := 2) x dX6_isAtHome_84 (by decide) ?_
        refine j_irem x dX6_isAtHome_85 (by decide) ?_
        refine j_iconst (v := 1) x dX6_isAtHome_86 (by decide) ?_
        refine j_b_icmp_ne (T := 94) (E := 95) x dX6_isAtHome_87 (by decide) dX6_isAtHome_90 dX6_isAtHome_91 (by decide) dX6_isAtHome_94 (by decide) ?_
        exact j_zreturn x hr dX6_isAtHome_95 (by first | decide | with_reducible exact jb_nar | with_reducible exact jisS_nar | with_reducible exact gno_nar) (by omega) (by omega) ⟨by rw [gHm, if_neg h1, if_neg h2, if_pos h3], rfl⟩
      · refine j_iload x dX6_isAtHome_63 rfl ?_
        refine j_iconst (v := 2) x dX6_isAtHome_65 (by decide) ?_
        refine j_irem x dX6_isAtHome_66 (by decide) ?_
        refine j_if_ne (tgt := 74) x dX6_isAtHome_67 (by decide) (fun h4 => ?_) (fun h4 => ?_)
        · refine j_iconst (v := 0) x dX6_isAtHome_74 (by decide) ?_
          refine j_goto (tgt := 95) x dX6_isAtHome_75 (by decide) ?_
          exact j_zreturn x hr dX6_isAtHome_95 (by first | decide | with_reducible exact jb_nar | with_reducible exact jisS_nar | with_reducible exact gno_nar) (by omega) (by omega) ⟨by rw [gHm, if_neg h1, if_neg h2, if_neg h3, jb_f h4], rfl⟩
        · refine j_iconst (v := 1) x dX6_isAtHome_70 (by decide) ?_
          refine j_goto (tgt := 95) x dX6_isAtHome_71 (by decide) ?_
          exact j_zreturn x hr dX6_isAtHome_95 (by first | decide | with_reducible exact jb_nar | with_reducible exact jisS_nar | with_reducible exact gno_nar) (by omega) (by omega) ⟨by rw [gHm, if_neg h1, if_neg h2, if_neg h3, jb_t h4], rfl⟩
    · refine j_iload_n x dX6_isAtHome_30 rfl ?_
      refine j_iconst (v := 2) x dX6_isAtHome_31 (by decide) ?_
      refine j_irem x dX6_isAtHome_32 (by decide) ?_
      refine j_b_if_ne (T := 40) (E := 41) x dX6_isAtHome_33 (by decide) dX6_isAtHome_36 dX6_isAtHome_37 (by decide) dX6_isAtHome_40 (by decide) ?_
      exact j_zreturn x hr dX6_isAtHome_41 (by first | decide | with_reducible exact jb_nar | with_reducible exact jisS_nar | with_reducible exact gno_nar) (by omega) (by omega) ⟨by rw [gHm, if_neg h1, if_pos h2], rfl⟩
  · refine j_iload_n x dX6_isAtHome_12 rfl ?_
    refine j_iconst (v := 2) x dX6_isAtHome_13 (by decide) ?_
    refine j_irem x dX6_isAtHome_14 (by decide) ?_
    refine j_iconst (v := 1) x dX6_isAtHome_15 (by decide) ?_
    refine j_b_icmp_ne (T := 23) (E := 24) x dX6_isAtHome_16 (by decide) dX6_isAtHome_19 dX6_isAtHome_20 (by decide) dX6_isAtHome_23 (by decide) ?_
    exact j_zreturn x hr dX6_isAtHome_24 (by first | decide | with_reducible exact jb_nar | with_reducible exact jisS_nar | with_reducible exact gno_nar) (by omega) (by omega) ⟨by rw [gHm, if_pos h1], rfl⟩
