section
/-! ===== the law's own rows: tables of handlers, raw references, the script, its two rows ===== -/
theorem j_ok_raw {n a : Nat} : j_ok n (.retAddr a) := fun _ h => by cases h
theorem ConH.of {d mc ms : Nat} {y : MethodName} {cc : ByteArray} {maxL : Nat} {ret : Option FieldType} {hh : List (Nat × Nat × Nat × Nat)} {as : List Value} {h : MH} {Q : MO → MH → Prop} (hy : plainName y.cls = true) (hn : as.length ≤ maxL) (hc : as.all (fun v => v.category == 1) = true)
    (body : ∀ (p : Program) (l : Launch) (e : Env) (s : State) (m : MethodId) (args : Array Value) (below : List Frame) (meth : Method) (c : Code) (D : va_G) (tyc : Nat → ClassId) (A : Nat → Prop) (ad0 : Nat → Nat), j_X p l s m args meth c D tyc A y.cls cc maxL → meth.sig.returnType = ret → c.exceptionTable.toList = tableOf hh → meth.name = y.name →
      JJ p l e (j_rm d mc ms) s m args below meth c D tyc A h.1 ad0 maxL (vx_MQ below (j_Qc D tyc A h.1 ad0 Q) (j_XC D tyc A h.1 ad0 Q) args s mc ms A) 0 (j_L0 maxL as) [] h 0 0) : ConH d mc ms y cc maxL ret hh as h Q := by
  intro l D tyc ad sz hl hh0 ha
  have hc : ∀ v ∈ as, v.category = 1 := fun v hv => by simpa using List.all_eq_true.mp hc v hv
  refine vx_ofWH (cc := cc) (maxL := maxL) (ret := ret) hy rfl ?_
  intro p e s m args below meth c s₁ B hml hv
  obtain ⟨rfl, hsz, hP, hK, hD0, hE⟩ := hv
  have hts := atoms_spec (ws := Cond.codeWith y cc maxL ret hh :: j_all) B.pre
  have htab := vx_table (x := y) B (hts _ List.mem_cons_self)
  subst hsz
  have hD := hD0.self (sz := s.heap.size)
  have hA : ∀ q : Nat, s.heap.size ≤ q → va_A (j_w tyc ad h) s.heap.size q := fun q h => Or.inr h
  have hl0 := lv_entry (as.map (j_cv ad)) (n := maxL) (by
    have e1 : ∀ (vs : List Value), (∀ v ∈ vs, v.category = 1) → (lg_sl (vs.map (j_cv ad))).length = vs.length := by
      intro vs
      induction vs with
      | nil => intro _; rfl
      | cons v vs ih =>
        intro hc
        have hv : ¬ (j_cv ad v).category = 2 := by rw [j_cv_cat, hc v List.mem_cons_self]; decide
        simp only [lg_sl, List.map_cons, List.flatMap_cons, if_neg hv, List.length_append, List.length_cons, List.length_nil]
        have := ih (fun w hw => hc w (List.mem_cons_of_mem _ hw))
        simp only [lg_sl] at this
        omega
    rw [e1 as hc]
    exact hn)
  rw [lg_entry_eq]
  have key := body p l e s m ((as.map (j_cv ad)).toArray) below meth c D tyc (va_A (j_w tyc ad h) s.heap.size) ad ⟨B.exec, B.bytes, hml, findClass_of_methodNamed B.named, fun w hw => hts w (List.mem_cons_of_mem _ hw), hK, hA, B.notSynchronized, hl, hE⟩ B.returns htab (name_of_methodNamed B.named B.method).1
  exact key ad _ s.heap [] ⟨j_L.entry hn hc hl0, hP, hD, va_S.rf, ⟨Nat.le_refl _, fun _ _ => rfl⟩, hh0, fun v hv => (by cases hv), fun v hv => ha v (by
    obtain ⟨i, hi⟩ := List.getElem?_of_mem hv
    exact List.mem_of_getElem? (j_L0_get hi))⟩
def j_mH (y : MethodName) (bytes : ByteArray) (maxL : Nat) (ret : Option FieldType) (hh : List (Nat × Nat × Nat × Nat)) (n : Nat) : Prop :=
  Cond.static y ∈ j_all ∧ Cond.initialized y.cls ∈ j_all ∧ Cond.codeWith y bytes maxL ret hh ∈ j_all ∧ (y.cls ≠ "java/lang/invoke/MethodHandle" ∧ y.cls ≠ "java/lang/invoke/VarHandle" ∧ (parseMethodDescriptor y.desc).map (fun d => d.parameters.length) = some n) ∧ maxL ≤ 40
section JLaw
variable {p : Program} {l : Launch} {e : Env} {R : Room} {s : State} {m : MethodId} {args : Array Value} {below : List Frame} {meth : Method} {c : Code} {D : va_G} {tyc : Nat → ClassId} {A : Nat → Prop} {n0 : Nat} {ad0 : Nat → Nat} {nL : Nat} {Qs : State → Prop}
variable {own : String} {cc : ByteArray} {pc : Nat} {L : List (Option Value)} {st : List Value} {h : MH} {cells slots d1 mc1 ms1 maxL idx n : Nat} {y : MethodName} {bytes : ByteArray} {ret : Option FieldType} {Q1 : MO → MH → Prop} {as st0 : List Value}
theorem j_callSH (x : j_X p l s m args meth c D tyc A own cc nL) {hh : List (Nat × Nat × Nat × Nat)} (hd : decode cc pc = .ok (.invokestatic idx, 3)) (hcon : ConH d1 mc1 ms1 y bytes maxL ret hh as h Q1) (hm : j_mH y bytes maxL ret hh n) (hw : Cond.methodLink own idx y ∈ j_all)
    (hn : as.length = n) (hst : st.length ≤ 4) (hfit : j_fit R d1 mc1 ms1 cells slots) (h0 : st0 = as.reverse ++ st) (hx : ∀ E k, ¬ Q1 (.inr E) k)
    (kk : ∀ (v : Option Value) (h1 : MH), Q1 (.inl v) h1 → JJ p l e R s m args below meth c D tyc A n0 ad0 nL Qs (pc + 3) L (v.toList ++ st) h1 (cells + mc1) (slots + ms1)) : JJ p l e R s m args below meth c D tyc A n0 ad0 nL Qs pc L st0 h cells slots := by
  subst h0
  intro ad ls H locs I
  obtain ⟨w1, w3, w4, w5, w6⟩ := hm
  have e0 : (as.reverse ++ st).map (j_cv ad) = (as.map (j_cv ad)).reverse ++ st.map (j_cv ad) := by rw [List.map_append, List.map_reverse]
  have hargs : ∀ v ∈ as, j_ok h.1 v := fun v hv => I.2.2.2.2.2.2.1 v (List.mem_append_left _ (List.mem_reverse.mpr hv))
  have hM := hcon l D tyc ad H.size x.2.2.2.2.2.2.2.2.1 I.2.2.2.2.2.1 hargs
  rw [e0]
  refine j_run (a := (as.map (j_cv ad)).toArray) x I (vx_runSX (As := as.map (j_cv ad)) ⟨x.1, x.2.1, x.2.2.1, x.2.2.2.1, x.2.2.2.2.1⟩ hM (vx_cwSW n x.2.2.2.2.1 (j_good ?_) rfl rfl rfl w5 (hfit.1 maxL w6)) ⟨j_B.blind, fun U hU hW => ⟨rfl, j_pre x I hU hW⟩⟩ rfl (by rw [List.length_map]; exact hn) I.1.1 rfl (lv_room (j_room hst)) hd ⟨hfit.2.1, hfit.2.2⟩) (fun E h1 ad1 => j_no hx (H := #[]) E h1 ad1 ls) kk
  exact j_mem_cons (ws := [Cond.static y, Cond.initialized y.cls] ++ (Cond.codeWith y bytes maxL ret hh :: j_all)) hw (j_mem_cons w1 (j_mem_cons w3 (j_mem_cons w4 fun _ h => h)))
theorem j_aload_nR (x : j_X p l s m args meth c D tyc A own cc nL) {k : Fin 4} {a : Nat} (hd : decode cc pc = .ok (.aload_n k, 1)) (hL : L[(k : Nat)]? = some (some (.retAddr a))) (kk : JJ p l e R s m args below meth c D tyc A n0 ad0 nL Qs (pc + 1) L (.retAddr a :: st) h cells slots) : JJ p l e R s m args below meth c D tyc A n0 ad0 nL Qs pc L st h cells slots := by
  intro ad ls H locs I
  exact lv_aload_n x.1 x.2.1 hd rfl (I.1.at hL) (kk ad ls H locs (I.st fun hs => j_ok_cons j_ok_raw hs))
theorem j_astore_nR (x : j_X p l s m args meth c D tyc A own cc nL) {k : Fin 4} {a : Nat} (hd : decode cc pc = .ok (.astore_n k, 1)) (hn : (k : Nat) < nL) (hc : j_c1 L (k : Nat) = true) (kk : JJ p l e R s m args below meth c D tyc A n0 ad0 nL Qs (pc + 1) (L.set (k : Nat) (some (.retAddr a))) st h cells slots) : JJ p l e R s m args below meth c D tyc A n0 ad0 nL Qs pc L (.retAddr a :: st) h cells slots := by
  intro ad ls H locs I
  exact lv_astore_n x.1 x.2.1 hd rfl I.1.has hn rfl (fun ls2 hl2 => kk ad ls2 H locs (I.lo j_ok_tl (I.1.store (v := .retAddr a) hn hc hl2) (j_ok_set I.2.2.2.2.2.2.2 j_ok_raw)))
theorem j_astoreR (x : j_X p l s m args meth c D tyc A own cc nL) {i : Nat} {a : Nat} (hd : decode cc pc = .ok (.astore i, 2)) (hn : i < nL) (hc : j_c1 L i = true) (kk : JJ p l e R s m args below meth c D tyc A n0 ad0 nL Qs (pc + 2) (L.set i (some (.retAddr a))) st h cells slots) : JJ p l e R s m args below meth c D tyc A n0 ad0 nL Qs pc L (.retAddr a :: st) h cells slots := by
  intro ad ls H locs I
  exact lv_astore x.1 x.2.1 hd I.1.has hn rfl (fun ls2 hl2 => kk ad ls2 H locs (I.lo j_ok_tl (I.1.store (v := .retAddr a) hn hc hl2) (j_ok_set I.2.2.2.2.2.2.2 j_ok_raw)))
/-- the script -/
theorem j_slen (x : j_X p l s m args meth c D tyc A own cc nL) {b N : Nat} {xs : Nat → Int32} (hX : va_X b N xs s s.heap) (hbl : b < s.heap.size) (hbA : ¬ A b) (hd : decode cc pc = .ok (.arraylength, 1)) (kk : JJ p l e R s m args below meth c D tyc A n0 ad0 nL Qs (pc + 1) L (.int (Int32.ofNat N) :: st) h cells slots) : JJ p l e R s m args below meth c D tyc A n0 ad0 nL Qs pc L (.retAddr b :: st) h cells slots := by
  intro ad ls H locs I
  exact va_slen x.1 x.2.1 hX hbl hbA I.2.2.2.1 hd (kk ad ls H locs (I.st fun hs => j_ok_cons j_ok_int (j_ok_tl hs)))
theorem j_sld (x : j_X p l s m args meth c D tyc A own cc nL) {b N j : Nat} {xs : Nat → Int32} {i : Int32} (hX : va_X b N xs s s.heap) (hbl : b < s.heap.size) (hbA : ¬ A b) (hd : decode cc pc = .ok (.iaload, 1)) (hin : vp_in i N) (hj : i.toNatClampNeg = j) (kk : JJ p l e R s m args below meth c D tyc A n0 ad0 nL Qs (pc + 1) L (.int (xs j) :: st) h cells slots) : JJ p l e R s m args below meth c D tyc A n0 ad0 nL Qs pc L (.int i :: .retAddr b :: st) h cells slots := by
  subst hj
  intro ad ls H locs I
  exact va_sld x.1 x.2.1 hX hbl hbA I.2.2.2.1 hin hd (kk ad ls H locs (I.st fun hs => j_ok_cons j_ok_int (j_ok_tl (j_ok_tl hs))))
/-- the law's long row -/
theorem j_laload (x : j_X p l s m args meth c D tyc A own cc nL) {i : Nat} {k : Int32} {v : Int64} (hd : decode cc pc = .ok (.laload, 1)) (hi : i < h.1) (ht : (h.2 i).1 = 104) (hk : vp_in k (h.2 i).2.1) (hv : (h.2 i).2.2 k.toNatClampNeg = .long v) (kk : JJ p l e R s m args below meth c D tyc A n0 ad0 nL Qs (pc + 1) L (.long v :: st) h cells slots) : JJ p l e R s m args below meth c D tyc A n0 ad0 nL Qs pc L (.int k :: .ref i :: st) h cells slots := by
  intro ad ls H locs I
  have he : (j_w tyc ad h)[i]? = some (ad i, .inl (tyc 104, (h.2 i).2.1, .inr (.inl fun j => j_lng ((h.2 i).2.2 j)))) := by rw [j_w_get hi, j_e_arr ht (by decide)]; rfl
  refine va_lald x.1 x.2.1 x.2.2.2.2.2.1 I.2.1 i 4 he rfl hk hd ?_
  rw [hv]
  exact kk ad ls H locs (I.st fun hs => j_ok_cons j_ok_long (j_ok_tl (j_ok_tl hs)))
theorem j_lastore (x : j_X p l s m args meth c D tyc A own cc nL) {i : Nat} {k : Int32} {v : Int64} (hd : decode cc pc = .ok (.lastore, 1)) (hi : i < h.1) (ht : (h.2 i).1 = 104) (hk : vp_in k (h.2 i).2.1) (kk : JJ p l e R s m args below meth c D tyc A n0 ad0 nL Qs (pc + 1) L st (j_fld h i k.toNatClampNeg (.long v)) cells slots) : JJ p l e R s m args below meth c D tyc A n0 ad0 nL Qs pc L (.long v :: .int k :: .ref i :: st) h cells slots := by
  intro ad ls H locs I
  have he : (j_w tyc ad h)[i]? = some (ad i, .inl (tyc 104, (h.2 i).2.1, .inr (.inl fun j => j_lng ((h.2 i).2.2 j)))) := by rw [j_w_get hi, j_e_arr ht (by decide)]; rfl
  refine va_last x.1 x.2.1 x.2.2.2.2.2.1 I.2.1 I.2.2.1 I.2.2.2.1 i 4 he rfl hk hd (fun H1 locs1 hP hD hS => ?_)
  have e1 : vp_updL (fun j => j_lng ((h.2 i).2.2 j)) k.toNatClampNeg v = fun j => j_lng (ju (h.2 i).2.2 k.toNatClampNeg (.long v) j) := funext fun j => by
    by_cases e : j = k.toNatClampNeg <;> simp [vp_updL, ju, e, j_lng]
  have e2 : j_e tyc ad ((h.2 i).1, (h.2 i).2.1, ju (h.2 i).2.2 k.toNatClampNeg (.long v)) = .inl (tyc 104, (h.2 i).2.1, .inr (.inl fun j => j_lng (ju (h.2 i).2.2 k.toNatClampNeg (.long v) j))) := Eq.trans (j_e_arr (ad := ad) (tyc := tyc) (c := (_, _, _)) (t := 104) ht (by decide)) rfl
  rw [e1, ← e2] at hP hD
  exact kk ad ls H1 locs1 (I.wr (fun hs => j_ok_tl (j_ok_tl (j_ok_tl hs))) hi (fun j => by
    show j_ok h.1 (ju (h.2 i).2.2 k.toNatClampNeg (.long v) j)
    by_cases e : j = k.toNatClampNeg
    · subst e; rw [ju_s]; exact j_ok_long
    · rw [ju_n e]; exact I.2.2.2.2.2.1 i hi j) hP hD hS)
theorem j_dstore (x : j_X p l s m args meth c D tyc A own cc nL) {i : Nat} {v : UInt64} (hd : decode cc pc = .ok (.dstore i, 2)) (hn : i + 1 < nL) (hc : j_c1 L i = true) (kk : JJ p l e R s m args below meth c D tyc A n0 ad0 nL Qs (pc + 2) ((L.set i (some (.double v))).set (i + 1) none) st h cells slots) : JJ p l e R s m args below meth c D tyc A n0 ad0 nL Qs pc L (.double v :: st) h cells slots := by
  intro ad ls H locs I
  refine lv_dstore x.1 x.2.1 hd I.1.has hn rfl (fun ls2 hs => kk ad ls2 H locs (I.lo j_ok_tl ⟨hs.1, hs.2.1, by rw [List.length_set, List.length_set]; exact I.1.2.2.1, fun j w hj => ?_⟩ (fun w hw => ?_)))
  · by_cases e0 : j = i + 1
    · subst e0
      rw [List.getElem?_set_self (by rw [List.length_set, I.1.2.2.1]; exact hn)] at hj
      cases hj
    rw [List.getElem?_set_ne (Ne.symm e0)] at hj
    by_cases e : j = i
    · subst e
      rw [List.getElem?_set_self (by rw [I.1.2.2.1]; omega)] at hj
      cases hj
      exact hs.2.2 _ List.mem_cons_self
    · rw [List.getElem?_set_ne (Ne.symm e)] at hj
      refine hs.2.2 (j, j_cv ad w) (List.mem_cons_of_mem _ (List.mem_filter.mpr ⟨j_lv_mem hj, ?_⟩))
      have e1 : (j == i) = false := beq_false_of_ne e
      have e4 : (j == i + 1) = false := beq_false_of_ne e0
      show (!(j == i) && (!(j == i + 1) && !(j + 1 == i && (j_cv ad w).category == 2))) = true
      rw [e1, e4]
      by_cases e2 : j + 1 = i
      · rw [j_cv_cat, j_c1_spec hc e2 hj]
        simp
      · simp [e2]
  · rcases List.mem_or_eq_of_mem_set hw with hw | hw
    · rcases List.mem_or_eq_of_mem_set hw with hw | hw
      · exact I.2.2.2.2.2.2.2 w hw
      · cases hw; exact j_ok_double
    · cases hw
end JLaw
section JLaw2
variable {p : Program} {l : Launch} {e : Env} {R : Room} {s : State} {m : MethodId} {args : Array Value} {below : List Frame} {meth : Method} {c : Code} {D : va_G} {tyc : Nat → ClassId} {A : Nat → Prop} {n0 : Nat} {ad0 : Nat → Nat} {nL : Nat} {Qs : State → Prop}
variable {own : String} {cc : ByteArray} {pc : Nat} {L : List (Option Value)} {st : List Value} {cells slots d1 mc1 ms1 maxL idx n : Nat} {y : MethodName} {bytes : ByteArray} {ret : Option FieldType} {as st0 : List Value} {b : SBt} {Y Y1 : OUt} {M M1 : MM}
theorem j2_lald (x : j_X p l s m args meth c D tyc A own cc nL) (hb : 104 ≤ b.2.1) (hd : decode cc pc = .ok (.laload, 1)) (kk : JJ p l e R s m args below meth c D tyc A n0 ad0 nL Qs (pc + 1) L (.long (Y.1 0) :: st) (HH b Y M) cells slots) : JJ p l e R s m args below meth c D tyc A n0 ad0 nL Qs pc L (.int 0 :: .ref 102 :: st) (HH b Y M) cells slots :=
  j_laload x hd (show 102 < b.2.1 by omega) rfl (by show vp_in 0 (hLen b 102); rw [hLen_lo (by omega)]; exact vp_c (by decide)) rfl kk
theorem j2_last (x : j_X p l s m args meth c D tyc A own cc nL) (hb : 104 ≤ b.2.1) {v : Int64} (hd : decode cc pc = .ok (.lastore, 1)) (kk : JJ p l e R s m args below meth c D tyc A n0 ad0 nL Qs (pc + 1) L st (HH b (ju Y.1 0 v, Y.2) M) cells slots) : JJ p l e R s m args below meth c D tyc A n0 ad0 nL Qs pc L (.long v :: .int 0 :: .ref 102 :: st) (HH b Y M) cells slots := by
  refine j_lastore x hd (show 102 < b.2.1 by omega) rfl (by show vp_in 0 (hLen b 102); rw [hLen_lo (by omega)]; exact vp_c (by decide)) ?_
  have e : j_fld (HH b Y M) 102 (0 : Int32).toNatClampNeg (.long v) = HH b (ju Y.1 0 v, Y.2) M := by
    refine Prod.ext rfl (funext fun z => ?_)
    show ju (fun i => (hT i, hLen b i, hF b Y M i)) 102 (hT 102, hLen b 102, ju (hF b Y M 102) 0 (.long v)) z = (hT z, hLen b z, hF b (ju Y.1 0 v, Y.2) M z)
    by_cases hz : z = 102
    · subst hz
      rw [ju_s]
      congr 2
      funext k
      by_cases hk : k = 0
      · subst hk; rw [ju_s]; show _ = Value.long (ju Y.1 0 v 0); rw [ju_s]
      · rw [ju_n hk]; show Value.long (Y.1 k) = Value.long (ju Y.1 0 v k); rw [ju_n hk]
    · rw [ju_n hz]
      congr 2
      funext k
      unfold hF
      rw [if_neg hz, if_neg hz]
  rw [e]
  exact kk
abbrev CMH (d mc ms : Nat) (y : MethodName) (cc : ByteArray) (maxL : Nat) (ret : Option FieldType) (hh : List (Nat × Nat × Nat × Nat)) (as : List Value) (b : SBt) (Y : OUt) (M : MM) (v : Int32) (Y1 : OUt) (M1 : MM) : Prop := ConH d mc ms y cc maxL ret hh as (HH b Y M) (fun o k => o = .inl (some (.int v)) ∧ k = HH b Y1 M1)
theorem j2_callH (x : j_X p l s m args meth c D tyc A own cc nL) {v : Int32} {hh : List (Nat × Nat × Nat × Nat)} (hd : decode cc pc = .ok (.invokestatic idx, 3)) (hm : j_mH y bytes maxL ret hh n) (hcon : CMH d1 mc1 ms1 y bytes maxL ret hh as b Y M v Y1 M1) (hw : Cond.methodLink own idx y ∈ j_all) (hn : as.length = n) (hst : st.length ≤ 4) (hfit : j_fit R d1 mc1 ms1 cells slots) (h0 : st0 = as.reverse ++ st)
    (kk : JJ p l e R s m args below meth c D tyc A n0 ad0 nL Qs (pc + 3) L (.int v :: st) (HH b Y1 M1) (cells + mc1) (slots + ms1)) : JJ p l e R s m args below meth c D tyc A n0 ad0 nL Qs pc L st0 (HH b Y M) cells slots :=
  j_callSH x hd hcon hm hw hn hst hfit h0 (fun E k h => by cases h.1) (fun v1 h1 hq => by
    obtain ⟨e1, rfl⟩ := hq
    cases e1
    exact kk)
/-- a call of a method that throws, and the handler that takes it -/
theorem j2_callC (x : j_X p l s m args meth c D tyc A own cc nL) (hb : 104 ≤ b.2.1) {i ci : Nat} {q : vw_C} {ty : Nat → FieldType} {E name : String} {hpc : Nat} (hd : decode cc pc = .ok (.invokevirtual idx, 3)) (hm : j_mV y bytes maxL ret n) (hcon : CM d1 mc1 ms1 y bytes maxL ret (.ref i :: as) b Y M (.inr E) M1) (hw : Cond.methodLink own idx y ∈ j_all) (hq : j_cls ci q ty) (hqy : q.1 = y.cls) (hi : fT i ci = true) (hn : as.length = n) (hst : st.length ≤ 4) (hfit : j_fit R d1 mc1 ms1 cells slots) (h0 : st0 = as.reverse ++ .ref i :: st)
    (pre : List ExceptionTableEntry) (z : ExceptionTableEntry) (suf : List ExceptionTableEntry) (htab : c.exceptionTable.toList = pre ++ z :: suf) (hpass : ∀ y ∈ pre, covers y pc = false ∨ (y.catchType ≠ 0 ∧ ∃ nm : String, Cond.classLink own y.catchType nm ∈ j_all ∧ (E, nm) ∈ j_ncs))
    (hcv : covers z pc = true) (hz0 : z.catchType ≠ 0) (hlink : Cond.classLink own z.catchType name ∈ j_all) (hcast : Cond.castable E name ∈ j_nw) (hz : z.handlerPc = hpc)
    (kk : ∀ a : Nat, JJ p l e R s m args below meth c D tyc A n0 ad0 nL Qs hpc L [.retAddr a] (HH b Y M1) (cells + mc1) (slots + ms1)) : JJ p l e R s m args below meth c D tyc A n0 ad0 nL Qs pc L st0 (HH b Y M) cells slots := by
  subst hz
  have hi2 : i < 104 ∧ hT i = ci := by
    simp only [fT, Bool.and_eq_true, decide_eq_true_eq, beq_iff_eq] at hi
    exact hi
  refine j_callVX x hd hcon hm hw hq hqy (show i < b.2.1 by omega) hi2.2 hn hst hfit h0 (fun E1 h1 ad1 ls H1 locs1 q1 ce hQ I hcell hv hcl => ?_) (fun v h1 hq => by cases hq.1)
  obtain ⟨e1, rfl⟩ := hQ
  cases e1
  refine vx_catch x.2.2.2.1 pre z suf htab (fun w hw => ?_) hcv hz0 (x.2.2.2.2.1 _ hlink) (va_Nw.use rfl (x.2.2.2.2.2.2.2.2.2.1 _ hcast)) hcell hv hcl (kk q1 ad1 ls H1 locs1 (I.st fun _ v hv => by
    rcases List.mem_cons.mp hv with rfl | hv
    · exact j_ok_raw
    · cases hv))
  rcases hpass w hw with h | ⟨h, nm, h2, h3⟩
  · exact Or.inl h
  · exact Or.inr ⟨h, nm, x.2.2.2.2.1 _ h2, x.2.2.2.2.2.2.2.2.2.2.2.2.2.2.2.1 _ h3⟩
/-- a call that answers some value -/
theorem j2_callVw (x : j_X p l s m args meth c D tyc A own cc nL) (hb : 104 ≤ b.2.1) {i ci : Nat} {q : vw_C} {ty : Nat → FieldType} {v : Value} (hd : decode cc pc = .ok (.invokevirtual idx, 3)) (hm : j_mV y bytes maxL ret n) (hcon : CM d1 mc1 ms1 y bytes maxL ret (.ref i :: as) b Y M (.inl (some v)) M1) (hw : Cond.methodLink own idx y ∈ j_all) (hq : j_cls ci q ty) (hqy : q.1 = y.cls) (hi : fT i ci = true) (hn : as.length = n) (hst : st.length ≤ 4) (hfit : j_fit R d1 mc1 ms1 cells slots) (h0 : st0 = as.reverse ++ .ref i :: st)
    (kk : JJ p l e R s m args below meth c D tyc A n0 ad0 nL Qs (pc + 3) L (v :: st) (HH b Y M1) (cells + mc1) (slots + ms1)) : JJ p l e R s m args below meth c D tyc A n0 ad0 nL Qs pc L st0 (HH b Y M) cells slots := by
  have hi2 : i < 104 ∧ hT i = ci := by
    simp only [fT, Bool.and_eq_true, decide_eq_true_eq, beq_iff_eq] at hi
    exact hi
  refine j_callV x hd hcon hm hw hq hqy (show i < b.2.1 by omega) hi2.2 hn hst hfit h0 jres_no (fun v1 h1 hq => ?_)
  obtain ⟨e1, rfl⟩ := hq
  cases e1
  exact kk
end JLaw2
end

section
/-! ===== what the tables say of the law's own methods ===== -/
theorem s_L_team : Cond.static yL_team ∈ j_all := j_n2 (mem_dr tc_2_8 (List.Mem.tail _ (List.Mem.tail _ (List.Mem.tail _ (List.Mem.tail _ (List.Mem.tail _ (List.Mem.tail _ (List.Mem.tail _ (List.Mem.head _))))))))) rfl
theorem h_L_team : Cond.codeWith yL_team cL_team 4 (some .int) [(0, 9, 12, 13)] ∈ j_all := j_n2 (mem_dr tc_2_8 (List.Mem.tail _ (List.Mem.tail _ (List.Mem.tail _ (List.Mem.tail _ (List.Mem.tail _ (List.Mem.tail _ (List.Mem.tail _ (List.Mem.tail _ (List.Mem.head _)))))))))) rfl
theorem m_L_team : j_mH yL_team cL_team 4 (some .int) [(0, 9, 12, 13)] 3 := ⟨s_L_team, wi_LeagueTablesLaw, h_L_team, ⟨cn_9a, cn_9b, pd_42⟩, Nat.le_of_ble_eq_true rfl⟩
theorem s_L_ground : Cond.static yL_ground ∈ j_all := j_n2 (mem_dr tc_2_17 (List.Mem.tail _ (List.Mem.tail _ (List.Mem.tail _ (List.Mem.tail _ (List.Mem.tail _ (List.Mem.tail _ (List.Mem.tail _ (List.Mem.tail _ (List.Mem.tail _ (List.Mem.tail _ (List.Mem.tail _ (List.Mem.head _))))))))))))) rfl
theorem h_L_ground : Cond.codeWith yL_ground cL_ground 5 (some .int) [(0, 10, 13, 13)] ∈ j_all := j_n2 (mem_dr tc_2_18 (List.Mem.head _)) rfl
theorem m_L_ground : j_mH yL_ground cL_ground 5 (some .int) [(0, 10, 13, 13)] 4 := ⟨s_L_ground, wi_LeagueTablesLaw, h_L_ground, ⟨cn_9a, cn_9b, pd_43⟩, Nat.le_of_ble_eq_true rfl⟩
theorem s_L_draw : Cond.static yL_draw ∈ j_all := j_n2 (mem_dr tc_2_19 (List.Mem.tail _ (List.Mem.tail _ (List.Mem.tail _ (List.Mem.tail _ (List.Mem.tail _ (List.Mem.tail _ (List.Mem.head _)))))))) rfl
theorem h_L_draw : Cond.codeWith yL_draw cL_draw 3 (some .int) [(0, 8, 11, 13)] ∈ j_all := j_n2 (mem_dr tc_2_19 (List.Mem.tail _ (List.Mem.tail _ (List.Mem.tail _ (List.Mem.tail _ (List.Mem.tail _ (List.Mem.tail _ (List.Mem.tail _ (List.Mem.head _))))))))) rfl
theorem m_L_draw : j_mH yL_draw cL_draw 3 (some .int) [(0, 8, 11, 13)] 2 := ⟨s_L_draw, wi_LeagueTablesLaw, h_L_draw, ⟨cn_9a, cn_9b, pd_44⟩, Nat.le_of_ble_eq_true rfl⟩
theorem s_L_give : Cond.static yL_give ∈ j_all := j_n3 (mem_dr tc_3_2 (List.Mem.tail _ (List.Mem.tail _ (List.Mem.tail _ (List.Mem.tail _ (List.Mem.tail _ (List.Mem.tail _ (List.Mem.tail _ (List.Mem.tail _ (List.Mem.head _)))))))))) rfl
theorem h_L_give : Cond.codeWith yL_give cL_give 5 (some .int) [(0, 10, 13, 13)] ∈ j_all := j_n3 (mem_dr tc_3_2 (List.Mem.tail _ (List.Mem.tail _ (List.Mem.tail _ (List.Mem.tail _ (List.Mem.tail _ (List.Mem.tail _ (List.Mem.tail _ (List.Mem.tail _ (List.Mem.tail _ (List.Mem.head _))))))))))) rfl
theorem m_L_give : j_mH yL_give cL_give 5 (some .int) [(0, 10, 13, 13)] 4 := ⟨s_L_give, wi_LeagueTablesLaw, h_L_give, ⟨cn_9a, cn_9b, pd_43⟩, Nat.le_of_ble_eq_true rfl⟩
theorem s_L_rules : Cond.static yL_rules ∈ j_all := j_n3 (mem_dr tc_3_6 (List.Mem.tail _ (List.Mem.tail _ (List.Mem.tail _ (List.Mem.tail _ (List.Mem.tail _ (List.Mem.tail _ (List.Mem.tail _ (List.Mem.tail _ (List.Mem.tail _ (List.Mem.head _))))))))))) rfl
theorem h_L_rules : Cond.codeWith yL_rules cL_rules 6 (some .int) [(0, 12, 15, 13)] ∈ j_all := j_n3 (mem_dr tc_3_6 (List.Mem.tail _ (List.Mem.tail _ (List.Mem.tail _ (List.Mem.tail _ (List.Mem.tail _ (List.Mem.tail _ (List.Mem.tail _ (List.Mem.tail _ (List.Mem.tail _ (List.Mem.tail _ (List.Mem.head _)))))))))))) rfl
theorem m_L_rules : j_mH yL_rules cL_rules 6 (some .int) [(0, 12, 15, 13)] 5 := ⟨s_L_rules, wi_LeagueTablesLaw, h_L_rules, ⟨cn_9a, cn_9b, pd_45⟩, Nat.le_of_ble_eq_true rfl⟩
theorem s_L_result : Cond.static yL_result ∈ j_all := j_n3 (mem_dr tc_3_8 (List.Mem.tail _ (List.Mem.tail _ (List.Mem.tail _ (List.Mem.tail _ (List.Mem.tail _ (List.Mem.tail _ (List.Mem.tail _ (List.Mem.tail _ (List.Mem.tail _ (List.Mem.head _))))))))))) rfl
theorem h_L_result : Cond.codeWith yL_result cL_result 6 (some .int) [(0, 12, 15, 13)] ∈ j_all := j_n3 (mem_dr tc_3_8 (List.Mem.tail _ (List.Mem.tail _ (List.Mem.tail _ (List.Mem.tail _ (List.Mem.tail _ (List.Mem.tail _ (List.Mem.tail _ (List.Mem.tail _ (List.Mem.tail _ (List.Mem.tail _ (List.Mem.head _)))))))))))) rfl
theorem m_L_result : j_mH yL_result cL_result 6 (some .int) [(0, 12, 15, 13)] 5 := ⟨s_L_result, wi_LeagueTablesLaw, h_L_result, ⟨cn_9a, cn_9b, pd_45⟩, Nat.le_of_ble_eq_true rfl⟩
theorem s_L_back : Cond.static yL_back ∈ j_all := j_n3 (mem_dr tc_3_11 (List.Mem.tail _ (List.Mem.tail _ (List.Mem.tail _ (List.Mem.tail _ (List.Mem.tail _ (List.Mem.tail _ (List.Mem.tail _ (List.Mem.tail _ (List.Mem.tail _ (List.Mem.head _))))))))))) rfl
theorem h_L_back : Cond.codeWith yL_back cL_back 4 (some .int) [(0, 9, 12, 13)] ∈ j_all := j_n3 (mem_dr tc_3_11 (List.Mem.tail _ (List.Mem.tail _ (List.Mem.tail _ (List.Mem.tail _ (List.Mem.tail _ (List.Mem.tail _ (List.Mem.tail _ (List.Mem.tail _ (List.Mem.tail _ (List.Mem.tail _ (List.Mem.head _)))))))))))) rfl
theorem m_L_back : j_mH yL_back cL_back 4 (some .int) [(0, 9, 12, 13)] 3 := ⟨s_L_back, wi_LeagueTablesLaw, h_L_back, ⟨cn_9a, cn_9b, pd_42⟩, Nat.le_of_ble_eq_true rfl⟩
theorem s_L_putOff : Cond.static yL_putOff ∈ j_all := j_n3 (mem_dr tc_3_13 (List.Mem.tail _ (List.Mem.head _))) rfl
theorem h_L_putOff : Cond.codeWith yL_putOff cL_putOff 5 (some .int) [(0, 10, 13, 13)] ∈ j_all := j_n3 (mem_dr tc_3_13 (List.Mem.tail _ (List.Mem.tail _ (List.Mem.head _)))) rfl
theorem m_L_putOff : j_mH yL_putOff cL_putOff 5 (some .int) [(0, 10, 13, 13)] 4 := ⟨s_L_putOff, wi_LeagueTablesLaw, h_L_putOff, ⟨cn_9a, cn_9b, pd_43⟩, Nat.le_of_ble_eq_true rfl⟩
theorem s_L_next : Cond.static yL_next ∈ j_all := j_n3 (mem_dr tc_3_15 (List.Mem.tail _ (List.Mem.tail _ (List.Mem.tail _ (List.Mem.tail _ (List.Mem.tail _ (List.Mem.head _))))))) rfl
theorem h_L_next : Cond.codeWith yL_next cL_next 3 (some .int) [(0, 8, 11, 13)] ∈ j_all := j_n3 (mem_dr tc_3_15 (List.Mem.tail _ (List.Mem.tail _ (List.Mem.tail _ (List.Mem.tail _ (List.Mem.tail _ (List.Mem.tail _ (List.Mem.head _)))))))) rfl
theorem m_L_next : j_mH yL_next cL_next 3 (some .int) [(0, 8, 11, 13)] 2 := ⟨s_L_next, wi_LeagueTablesLaw, h_L_next, ⟨cn_9a, cn_9b, pd_44⟩, Nat.le_of_ble_eq_true rfl⟩
theorem s_L_teamOf : Cond.static yL_teamOf ∈ j_all := j_n3 (mem_dr tc_3_16 (List.Mem.tail _ (List.Mem.tail _ (List.Mem.tail _ (List.Mem.tail _ (List.Mem.tail _ (List.Mem.tail _ (List.Mem.tail _ (List.Mem.tail _ (List.Mem.tail _ (List.Mem.head _))))))))))) rfl
theorem h_L_teamOf : Cond.codeWith yL_teamOf cL_teamOf 5 (some .int) [(0, 10, 13, 45), (0, 10, 17, 47)] ∈ j_all := j_n3 (mem_dr tc_3_16 (List.Mem.tail _ (List.Mem.tail _ (List.Mem.tail _ (List.Mem.tail _ (List.Mem.tail _ (List.Mem.tail _ (List.Mem.tail _ (List.Mem.tail _ (List.Mem.tail _ (List.Mem.tail _ (List.Mem.head _)))))))))))) rfl
theorem m_L_teamOf : j_mH yL_teamOf cL_teamOf 5 (some .int) [(0, 10, 13, 45), (0, 10, 17, 47)] 4 := ⟨s_L_teamOf, wi_LeagueTablesLaw, h_L_teamOf, ⟨cn_9a, cn_9b, pd_43⟩, Nat.le_of_ble_eq_true rfl⟩
theorem s_L_pointsAgain : Cond.static yL_pointsAgain ∈ j_all := j_n4 (mem_dr tc_4_1 (List.Mem.tail _ (List.Mem.tail _ (List.Mem.tail _ (List.Mem.tail _ (List.Mem.tail _ (List.Mem.tail _ (List.Mem.tail _ (List.Mem.tail _ (List.Mem.tail _ (List.Mem.tail _ (List.Mem.head _)))))))))))) rfl
theorem h_L_pointsAgain : Cond.codeWith yL_pointsAgain cL_pointsAgain 4 (some .int) [(0, 9, 12, 45)] ∈ j_all := j_n4 (mem_dr tc_4_1 (List.Mem.tail _ (List.Mem.tail _ (List.Mem.tail _ (List.Mem.tail _ (List.Mem.tail _ (List.Mem.tail _ (List.Mem.tail _ (List.Mem.tail _ (List.Mem.tail _ (List.Mem.tail _ (List.Mem.tail _ (List.Mem.head _))))))))))))) rfl
theorem m_L_pointsAgain : j_mH yL_pointsAgain cL_pointsAgain 4 (some .int) [(0, 9, 12, 45)] 3 := ⟨s_L_pointsAgain, wi_LeagueTablesLaw, h_L_pointsAgain, ⟨cn_9a, cn_9b, pd_42⟩, Nat.le_of_ble_eq_true rfl⟩
theorem s_L_meetingOf : Cond.static yL_meetingOf ∈ j_all := j_n4 (mem_dr tc_4_2 (List.Mem.tail _ (List.Mem.tail _ (List.Mem.tail _ (List.Mem.tail _ (List.Mem.tail _ (List.Mem.head _))))))) rfl
theorem h_L_meetingOf : Cond.codeWith yL_meetingOf cL_meetingOf 5 (some .int) [(0, 10, 13, 45), (0, 10, 17, 47)] ∈ j_all := j_n4 (mem_dr tc_4_2 (List.Mem.tail _ (List.Mem.tail _ (List.Mem.tail _ (List.Mem.tail _ (List.Mem.tail _ (List.Mem.tail _ (List.Mem.head _)))))))) rfl
theorem m_L_meetingOf : j_mH yL_meetingOf cL_meetingOf 5 (some .int) [(0, 10, 13, 45), (0, 10, 17, 47)] 4 := ⟨s_L_meetingOf, wi_LeagueTablesLaw, h_L_meetingOf, ⟨cn_9a, cn_9b, pd_43⟩, Nat.le_of_ble_eq_true rfl⟩
theorem s_L_find : Cond.static yL_find ∈ j_all := j_n4 (mem_dr tc_4_3 (List.Mem.tail _ (List.Mem.tail _ (List.Mem.head _)))) rfl
theorem h_L_find : Cond.codeWith yL_find cL_find 5 (some .int) [(0, 10, 13, 45), (0, 10, 17, 58)] ∈ j_all := j_n4 (mem_dr tc_4_3 (List.Mem.tail _ (List.Mem.tail _ (List.Mem.tail _ (List.Mem.head _))))) rfl
theorem m_L_find : j_mH yL_find cL_find 5 (some .int) [(0, 10, 13, 45), (0, 10, 17, 58)] 4 := ⟨s_L_find, wi_LeagueTablesLaw, h_L_find, ⟨cn_9a, cn_9b, pd_43⟩, Nat.le_of_ble_eq_true rfl⟩
theorem s_L_byeIn : Cond.static yL_byeIn ∈ j_all := j_n4 (mem_dr tc_4_5 (List.Mem.tail _ (List.Mem.tail _ (List.Mem.tail _ (List.Mem.tail _ (List.Mem.tail _ (List.Mem.tail _ (List.Mem.head _)))))))) rfl
theorem h_L_byeIn : Cond.codeWith yL_byeIn cL_byeIn 4 (some .int) [(0, 9, 12, 45), (0, 9, 15, 58)] ∈ j_all := j_n4 (mem_dr tc_4_5 (List.Mem.tail _ (List.Mem.tail _ (List.Mem.tail _ (List.Mem.tail _ (List.Mem.tail _ (List.Mem.tail _ (List.Mem.tail _ (List.Mem.head _))))))))) rfl
theorem m_L_byeIn : j_mH yL_byeIn cL_byeIn 4 (some .int) [(0, 9, 12, 45), (0, 9, 15, 58)] 3 := ⟨s_L_byeIn, wi_LeagueTablesLaw, h_L_byeIn, ⟨cn_9a, cn_9b, pd_42⟩, Nat.le_of_ble_eq_true rfl⟩
theorem s_L_meetingsIn : Cond.static yL_meetingsIn ∈ j_all := j_n4 (mem_dr tc_4_6 (List.Mem.tail _ (List.Mem.tail _ (List.Mem.tail _ (List.Mem.head _))))) rfl
theorem h_L_meetingsIn : Cond.codeWith yL_meetingsIn cL_meetingsIn 4 (some .int) [(0, 9, 12, 45)] ∈ j_all := j_n4 (mem_dr tc_4_6 (List.Mem.tail _ (List.Mem.tail _ (List.Mem.tail _ (List.Mem.tail _ (List.Mem.head _)))))) rfl
theorem m_L_meetingsIn : j_mH yL_meetingsIn cL_meetingsIn 4 (some .int) [(0, 9, 12, 45)] 3 := ⟨s_L_meetingsIn, wi_LeagueTablesLaw, h_L_meetingsIn, ⟨cn_9a, cn_9b, pd_42⟩, Nat.le_of_ble_eq_true rfl⟩
theorem s_L_clashes : Cond.static yL_clashes ∈ j_all := j_n4 (mem_dr tc_4_6 (List.Mem.tail _ (List.Mem.tail _ (List.Mem.tail _ (List.Mem.tail _ (List.Mem.tail _ (List.Mem.tail _ (List.Mem.tail _ (List.Mem.tail _ (List.Mem.tail _ (List.Mem.tail _ (List.Mem.head _)))))))))))) rfl
theorem h_L_clashes : Cond.codeWith yL_clashes cL_clashes 4 (some .int) [(0, 9, 12, 45)] ∈ j_all := j_n4 (mem_dr tc_4_6 (List.Mem.tail _ (List.Mem.tail _ (List.Mem.tail _ (List.Mem.tail _ (List.Mem.tail _ (List.Mem.tail _ (List.Mem.tail _ (List.Mem.tail _ (List.Mem.tail _ (List.Mem.tail _ (List.Mem.tail _ (List.Mem.head _))))))))))))) rfl
theorem m_L_clashes : j_mH yL_clashes cL_clashes 4 (some .int) [(0, 9, 12, 45)] 3 := ⟨s_L_clashes, wi_LeagueTablesLaw, h_L_clashes, ⟨cn_9a, cn_9b, pd_42⟩, Nat.le_of_ble_eq_true rfl⟩
theorem s_L_freeWeek : Cond.static yL_freeWeek ∈ j_all := j_n4 (mem_dr tc_4_7 (List.Mem.tail _ (List.Mem.tail _ (List.Mem.tail _ (List.Mem.tail _ (List.Mem.tail _ (List.Mem.tail _ (List.Mem.tail _ (List.Mem.tail _ (List.Mem.tail _ (List.Mem.head _))))))))))) rfl
theorem h_L_freeWeek : Cond.codeWith yL_freeWeek cL_freeWeek 4 (some .int) [(0, 9, 12, 45), (0, 9, 15, 58)] ∈ j_all := j_n4 (mem_dr tc_4_7 (List.Mem.tail _ (List.Mem.tail _ (List.Mem.tail _ (List.Mem.tail _ (List.Mem.tail _ (List.Mem.tail _ (List.Mem.tail _ (List.Mem.tail _ (List.Mem.tail _ (List.Mem.tail _ (List.Mem.head _)))))))))))) rfl
theorem m_L_freeWeek : j_mH yL_freeWeek cL_freeWeek 4 (some .int) [(0, 9, 12, 45), (0, 9, 15, 58)] 3 := ⟨s_L_freeWeek, wi_LeagueTablesLaw, h_L_freeWeek, ⟨cn_9a, cn_9b, pd_42⟩, Nat.le_of_ble_eq_true rfl⟩
theorem s_L_ranked : Cond.static yL_ranked ∈ j_all := j_n4 (mem_dr tc_4_8 (List.Mem.tail _ (List.Mem.tail _ (List.Mem.tail _ (List.Mem.tail _ (List.Mem.tail _ (List.Mem.tail _ (List.Mem.tail _ (List.Mem.tail _ (List.Mem.tail _ (List.Mem.head _))))))))))) rfl
theorem h_L_ranked : Cond.codeWith yL_ranked cL_ranked 4 (some .int) [(0, 9, 12, 58)] ∈ j_all := j_n4 (mem_dr tc_4_8 (List.Mem.tail _ (List.Mem.tail _ (List.Mem.tail _ (List.Mem.tail _ (List.Mem.tail _ (List.Mem.tail _ (List.Mem.tail _ (List.Mem.tail _ (List.Mem.tail _ (List.Mem.tail _ (List.Mem.head _)))))))))))) rfl
theorem m_L_ranked : j_mH yL_ranked cL_ranked 4 (some .int) [(0, 9, 12, 58)] 3 := ⟨s_L_ranked, wi_LeagueTablesLaw, h_L_ranked, ⟨cn_9a, cn_9b, pd_42⟩, Nat.le_of_ble_eq_true rfl⟩
theorem s_L_placeOf : Cond.static yL_placeOf ∈ j_all := j_n4 (mem_dr tc_4_10 (List.Mem.tail _ (List.Mem.tail _ (List.Mem.tail _ (List.Mem.tail _ (List.Mem.tail _ (List.Mem.head _))))))) rfl
theorem h_L_placeOf : Cond.codeWith yL_placeOf cL_placeOf 4 (some .int) [(0, 9, 12, 45)] ∈ j_all := j_n4 (mem_dr tc_4_10 (List.Mem.tail _ (List.Mem.tail _ (List.Mem.tail _ (List.Mem.tail _ (List.Mem.tail _ (List.Mem.tail _ (List.Mem.head _)))))))) rfl
theorem m_L_placeOf : j_mH yL_placeOf cL_placeOf 4 (some .int) [(0, 9, 12, 45)] 3 := ⟨s_L_placeOf, wi_LeagueTablesLaw, h_L_placeOf, ⟨cn_9a, cn_9b, pd_42⟩, Nat.le_of_ble_eq_true rfl⟩
theorem s_L_valueOf : Cond.static yL_valueOf ∈ j_all := j_n4 (mem_dr tc_4_11 (List.Mem.head _)) rfl
theorem h_L_valueOf : Cond.codeWith yL_valueOf cL_valueOf 5 (some .int) [(0, 10, 13, 45), (0, 10, 17, 47)] ∈ j_all := j_n4 (mem_dr tc_4_11 (List.Mem.tail _ (List.Mem.head _))) rfl
theorem m_L_valueOf : j_mH yL_valueOf cL_valueOf 5 (some .int) [(0, 10, 13, 45), (0, 10, 17, 47)] 4 := ⟨s_L_valueOf, wi_LeagueTablesLaw, h_L_valueOf, ⟨cn_9a, cn_9b, pd_43⟩, Nat.le_of_ble_eq_true rfl⟩
theorem s_L_tied : Cond.static yL_tied ∈ j_all := j_n4 (mem_dr tc_4_11 (List.Mem.tail _ (List.Mem.tail _ (List.Mem.tail _ (List.Mem.tail _ (List.Mem.tail _ (List.Mem.tail _ (List.Mem.tail _ (List.Mem.tail _ (List.Mem.head _)))))))))) rfl
theorem h_L_tied : Cond.codeWith yL_tied cL_tied 4 (some .int) [(0, 9, 12, 45)] ∈ j_all := j_n4 (mem_dr tc_4_11 (List.Mem.tail _ (List.Mem.tail _ (List.Mem.tail _ (List.Mem.tail _ (List.Mem.tail _ (List.Mem.tail _ (List.Mem.tail _ (List.Mem.tail _ (List.Mem.tail _ (List.Mem.head _))))))))))) rfl
theorem m_L_tied : j_mH yL_tied cL_tied 4 (some .int) [(0, 9, 12, 45)] 3 := ⟨s_L_tied, wi_LeagueTablesLaw, h_L_tied, ⟨cn_9a, cn_9b, pd_42⟩, Nat.le_of_ble_eq_true rfl⟩
theorem s_L_most : Cond.static yL_most ∈ j_all := j_n4 (mem_dr tc_4_12 (List.Mem.tail _ (List.Mem.tail _ (List.Mem.tail _ (List.Mem.head _))))) rfl
theorem h_L_most : Cond.codeWith yL_most cL_most 4 (some .int) [(0, 9, 12, 45)] ∈ j_all := j_n4 (mem_dr tc_4_12 (List.Mem.tail _ (List.Mem.tail _ (List.Mem.tail _ (List.Mem.tail _ (List.Mem.head _)))))) rfl
theorem m_L_most : j_mH yL_most cL_most 4 (some .int) [(0, 9, 12, 45)] 3 := ⟨s_L_most, wi_LeagueTablesLaw, h_L_most, ⟨cn_9a, cn_9b, pd_42⟩, Nat.le_of_ble_eq_true rfl⟩
theorem s_L_isSafe : Cond.static yL_isSafe ∈ j_all := j_n4 (mem_dr tc_4_12 (List.Mem.tail _ (List.Mem.tail _ (List.Mem.tail _ (List.Mem.tail _ (List.Mem.tail _ (List.Mem.tail _ (List.Mem.tail _ (List.Mem.tail _ (List.Mem.tail _ (List.Mem.tail _ (List.Mem.head _)))))))))))) rfl
theorem h_L_isSafe : Cond.codeWith yL_isSafe cL_isSafe 4 (some .int) [(0, 16, 19, 45)] ∈ j_all := j_n4 (mem_dr tc_4_12 (List.Mem.tail _ (List.Mem.tail _ (List.Mem.tail _ (List.Mem.tail _ (List.Mem.tail _ (List.Mem.tail _ (List.Mem.tail _ (List.Mem.tail _ (List.Mem.tail _ (List.Mem.tail _ (List.Mem.tail _ (List.Mem.head _))))))))))))) rfl
theorem m_L_isSafe : j_mH yL_isSafe cL_isSafe 4 (some .int) [(0, 16, 19, 45)] 3 := ⟨s_L_isSafe, wi_LeagueTablesLaw, h_L_isSafe, ⟨cn_9a, cn_9b, pd_42⟩, Nat.le_of_ble_eq_true rfl⟩
theorem s_L_isOut : Cond.static yL_isOut ∈ j_all := j_n4 (mem_dr tc_4_14 (List.Mem.tail _ (List.Mem.tail _ (List.Mem.tail _ (List.Mem.tail _ (List.Mem.head _)))))) rfl
theorem h_L_isOut : Cond.codeWith yL_isOut cL_isOut 4 (some .int) [(0, 16, 19, 45)] ∈ j_all := j_n4 (mem_dr tc_4_14 (List.Mem.tail _ (List.Mem.tail _ (List.Mem.tail _ (List.Mem.tail _ (List.Mem.tail _ (List.Mem.head _))))))) rfl
theorem m_L_isOut : j_mH yL_isOut cL_isOut 4 (some .int) [(0, 16, 19, 45)] 3 := ⟨s_L_isOut, wi_LeagueTablesLaw, h_L_isOut, ⟨cn_9a, cn_9b, pd_42⟩, Nat.le_of_ble_eq_true rfl⟩
theorem s_L_run : Cond.static yL_run ∈ j_all := j_n4 (mem_dr tc_4_15 (List.Mem.tail _ (List.Mem.tail _ (List.Mem.tail _ (List.Mem.head _))))) rfl
theorem h_L_run : Cond.codeWith yL_run cL_run 4 (some .int) [(0, 9, 12, 45)] ∈ j_all := j_n4 (mem_dr tc_4_15 (List.Mem.tail _ (List.Mem.tail _ (List.Mem.tail _ (List.Mem.tail _ (List.Mem.head _)))))) rfl
theorem m_L_run : j_mH yL_run cL_run 4 (some .int) [(0, 9, 12, 45)] 3 := ⟨s_L_run, wi_LeagueTablesLaw, h_L_run, ⟨cn_9a, cn_9b, pd_42⟩, Nat.le_of_ble_eq_true rfl⟩
theorem s_L_append : Cond.static yL_append ∈ j_all := j_n4 (mem_dr tc_4_16 (List.Mem.tail _ (List.Mem.tail _ (List.Mem.tail _ (List.Mem.tail _ (List.Mem.tail _ (List.Mem.tail _ (List.Mem.head _)))))))) rfl
theorem h_L_append : Cond.codeWith yL_append cL_append 4 (some .int) [(0, 9, 12, 101)] ∈ j_all := j_n4 (mem_dr tc_4_16 (List.Mem.tail _ (List.Mem.tail _ (List.Mem.tail _ (List.Mem.tail _ (List.Mem.tail _ (List.Mem.tail _ (List.Mem.tail _ (List.Mem.head _))))))))) rfl
theorem m_L_append : j_mH yL_append cL_append 4 (some .int) [(0, 9, 12, 101)] 3 := ⟨s_L_append, wi_LeagueTablesLaw, h_L_append, ⟨cn_9a, cn_9b, pd_46⟩, Nat.le_of_ble_eq_true rfl⟩
theorem s_L_commands : Cond.static yL_commands ∈ j_all := j_n4 (mem_dr tc_4_19 (List.Mem.tail _ (List.Mem.tail _ (List.Mem.head _)))) rfl
theorem h_L_commands : Cond.codeWith yL_commands cL_commands 3 (some .int) [(0, 8, 11, 47), (0, 8, 14, 13)] ∈ j_all := j_n4 (mem_dr tc_4_19 (List.Mem.tail _ (List.Mem.tail _ (List.Mem.tail _ (List.Mem.head _))))) rfl
theorem m_L_commands : j_mH yL_commands cL_commands 3 (some .int) [(0, 8, 11, 47), (0, 8, 14, 13)] 2 := ⟨s_L_commands, wi_LeagueTablesLaw, h_L_commands, ⟨cn_9a, cn_9b, pd_44⟩, Nat.le_of_ble_eq_true rfl⟩
theorem s_L_reason : Cond.static yL_reason ∈ j_all := j_n5 (mem_dr tc_5_4 (List.Mem.tail _ (List.Mem.tail _ (List.Mem.tail _ (List.Mem.tail _ (List.Mem.tail _ (List.Mem.tail _ (List.Mem.tail _ (List.Mem.tail _ (List.Mem.tail _ (List.Mem.tail _ (List.Mem.head _)))))))))))) rfl
theorem h_L_reason : Cond.codeWith yL_reason cL_reason 4 (some .int) [(0, 9, 12, 47), (0, 9, 15, 58)] ∈ j_all := j_n5 (mem_dr tc_5_4 (List.Mem.tail _ (List.Mem.tail _ (List.Mem.tail _ (List.Mem.tail _ (List.Mem.tail _ (List.Mem.tail _ (List.Mem.tail _ (List.Mem.tail _ (List.Mem.tail _ (List.Mem.tail _ (List.Mem.tail _ (List.Mem.head _))))))))))))) rfl
theorem m_L_reason : j_mH yL_reason cL_reason 4 (some .int) [(0, 9, 12, 47), (0, 9, 15, 58)] 3 := ⟨s_L_reason, wi_LeagueTablesLaw, h_L_reason, ⟨cn_9a, cn_9b, pd_42⟩, Nat.le_of_ble_eq_true rfl⟩
theorem s_L_line : Cond.static yL_line ∈ j_all := j_n5 (mem_dr tc_5_5 (List.Mem.tail _ (List.Mem.tail _ (List.Mem.tail _ (List.Mem.tail _ (List.Mem.tail _ (List.Mem.tail _ (List.Mem.tail _ (List.Mem.head _))))))))) rfl
theorem h_L_line : Cond.codeWith yL_line cL_line 4 (some .int) [(0, 9, 12, 45)] ∈ j_all := j_n5 (mem_dr tc_5_5 (List.Mem.tail _ (List.Mem.tail _ (List.Mem.tail _ (List.Mem.tail _ (List.Mem.tail _ (List.Mem.tail _ (List.Mem.tail _ (List.Mem.tail _ (List.Mem.head _)))))))))) rfl
theorem m_L_line : j_mH yL_line cL_line 4 (some .int) [(0, 9, 12, 45)] 3 := ⟨s_L_line, wi_LeagueTablesLaw, h_L_line, ⟨cn_9a, cn_9b, pd_42⟩, Nat.le_of_ble_eq_true rfl⟩
theorem s_L_character : Cond.static yL_character ∈ j_all := j_n6 (mem_dr tc_6_9 (List.Mem.tail _ (List.Mem.head _))) rfl
theorem h_L_character : Cond.codeWith yL_character cL_character 4 (some .int) [(0, 9, 12, 45)] ∈ j_all := j_n6 (mem_dr tc_6_9 (List.Mem.tail _ (List.Mem.tail _ (List.Mem.head _)))) rfl
theorem m_L_character : j_mH yL_character cL_character 4 (some .int) [(0, 9, 12, 45)] 3 := ⟨s_L_character, wi_LeagueTablesLaw, h_L_character, ⟨cn_9a, cn_9b, pd_42⟩, Nat.le_of_ble_eq_true rfl⟩
theorem s_L_meanGoals : Cond.static yL_meanGoals ∈ j_all := j_n6 (mem_dr tc_6_10 (List.Mem.tail _ (List.Mem.tail _ (List.Mem.tail _ (List.Mem.tail _ (List.Mem.tail _ (List.Mem.tail _ (List.Mem.tail _ (List.Mem.head _))))))))) rfl
theorem h_L_meanGoals : Cond.codeWith yL_meanGoals cL_meanGoals 3 (some .int) [(0, 8, 11, 120)] ∈ j_all := j_n6 (mem_dr tc_6_10 (List.Mem.tail _ (List.Mem.tail _ (List.Mem.tail _ (List.Mem.tail _ (List.Mem.tail _ (List.Mem.tail _ (List.Mem.tail _ (List.Mem.tail _ (List.Mem.head _)))))))))) rfl
theorem m_L_meanGoals : j_mH yL_meanGoals cL_meanGoals 3 (some .int) [(0, 8, 11, 120)] 2 := ⟨s_L_meanGoals, wi_LeagueTablesLaw, h_L_meanGoals, ⟨cn_9a, cn_9b, pd_47⟩, Nat.le_of_ble_eq_true rfl⟩
theorem s_L_homeShare : Cond.static yL_homeShare ∈ j_all := j_n6 (mem_dr tc_6_12 (List.Mem.tail _ (List.Mem.tail _ (List.Mem.tail _ (List.Mem.tail _ (List.Mem.tail _ (List.Mem.tail _ (List.Mem.tail _ (List.Mem.head _))))))))) rfl
theorem h_L_homeShare : Cond.codeWith yL_homeShare cL_homeShare 3 (some .int) [(0, 7, 10, 120)] ∈ j_all := j_n6 (mem_dr tc_6_12 (List.Mem.tail _ (List.Mem.tail _ (List.Mem.tail _ (List.Mem.tail _ (List.Mem.tail _ (List.Mem.tail _ (List.Mem.tail _ (List.Mem.tail _ (List.Mem.head _)))))))))) rfl
theorem m_L_homeShare : j_mH yL_homeShare cL_homeShare 3 (some .int) [(0, 7, 10, 120)] 2 := ⟨s_L_homeShare, wi_LeagueTablesLaw, h_L_homeShare, ⟨cn_9a, cn_9b, pd_47⟩, Nat.le_of_ble_eq_true rfl⟩
theorem s_L_account : Cond.static yL_account ∈ j_all := j_n6 (mem_dr tc_6_13 (List.Mem.tail _ (List.Mem.tail _ (List.Mem.head _)))) rfl
theorem h_L_account : Cond.codeWith yL_account cL_account 4 (some .int) [(0, 9, 12, 47)] ∈ j_all := j_n6 (mem_dr tc_6_13 (List.Mem.tail _ (List.Mem.tail _ (List.Mem.tail _ (List.Mem.head _))))) rfl
theorem m_L_account : j_mH yL_account cL_account 4 (some .int) [(0, 9, 12, 47)] 3 := ⟨s_L_account, wi_LeagueTablesLaw, h_L_account, ⟨cn_9a, cn_9b, pd_42⟩, Nat.le_of_ble_eq_true rfl⟩
theorem s_L_undo : Cond.static yL_undo ∈ j_all := j_n6 (mem_dr tc_6_14 (List.Mem.tail _ (List.Mem.tail _ (List.Mem.tail _ (List.Mem.tail _ (List.Mem.tail _ (List.Mem.tail _ (List.Mem.tail _ (List.Mem.tail _ (List.Mem.tail _ (List.Mem.tail _ (List.Mem.head _)))))))))))) rfl
theorem h_L_undo : Cond.codeWith yL_undo cL_undo 3 (some .int) [(0, 8, 11, 101)] ∈ j_all := j_n6 (mem_dr tc_6_14 (List.Mem.tail _ (List.Mem.tail _ (List.Mem.tail _ (List.Mem.tail _ (List.Mem.tail _ (List.Mem.tail _ (List.Mem.tail _ (List.Mem.tail _ (List.Mem.tail _ (List.Mem.tail _ (List.Mem.tail _ (List.Mem.head _))))))))))))) rfl
theorem m_L_undo : j_mH yL_undo cL_undo 3 (some .int) [(0, 8, 11, 101)] 2 := ⟨s_L_undo, wi_LeagueTablesLaw, h_L_undo, ⟨cn_9a, cn_9b, pd_44⟩, Nat.le_of_ble_eq_true rfl⟩
theorem s_L_restore : Cond.static yL_restore ∈ j_all := j_n6 (mem_dr tc_6_16 (List.Mem.head _)) rfl
theorem h_L_restore : Cond.codeWith yL_restore cL_restore 3 (some .int) [(0, 8, 11, 101)] ∈ j_all := j_n6 (mem_dr tc_6_16 (List.Mem.tail _ (List.Mem.head _))) rfl
theorem m_L_restore : j_mH yL_restore cL_restore 3 (some .int) [(0, 8, 11, 101)] 2 := ⟨s_L_restore, wi_LeagueTablesLaw, h_L_restore, ⟨cn_9a, cn_9b, pd_44⟩, Nat.le_of_ble_eq_true rfl⟩
theorem wx_UnsupportedOperationException : (Jvm.Cond.castable "java/lang/UnsupportedOperationException" "java/lang/UnsupportedOperationException") ∈ j_nw := List.mem_filter.mpr ⟨j_t2 (mem_dr tc_2_10 (List.Mem.tail _ (List.Mem.tail _ (List.Mem.tail _ (List.Mem.head _))))), rfl⟩
theorem wx_IndexOutOfBoundsException : (Jvm.Cond.castable "java/lang/IndexOutOfBoundsException" "java/lang/IndexOutOfBoundsException") ∈ j_nw := List.mem_filter.mpr ⟨j_t3 (mem_dr tc_3_19 (List.Mem.tail _ (List.Mem.tail _ (List.Mem.tail _ (List.Mem.tail _ (List.Mem.tail _ (List.Mem.tail _ (List.Mem.head _)))))))), rfl⟩
theorem wx_IllegalArgumentException : (Jvm.Cond.castable "java/lang/IllegalArgumentException" "java/lang/IllegalArgumentException") ∈ j_nw := List.mem_filter.mpr ⟨j_t4 (mem_dr tc_4_0 (List.Mem.tail _ (List.Mem.tail _ (List.Mem.tail _ (List.Mem.tail _ (List.Mem.tail _ (List.Mem.tail _ (List.Mem.tail _ (List.Mem.head _))))))))), rfl⟩
theorem wx_NoSuchElementException : (Jvm.Cond.castable "java/util/NoSuchElementException" "java/util/NoSuchElementException") ∈ j_nw := List.mem_filter.mpr ⟨j_t4 (mem_dr tc_4_4 (List.Mem.tail _ (List.Mem.tail _ (List.Mem.tail _ (List.Mem.head _))))), rfl⟩
theorem wx_IllegalStateException : (Jvm.Cond.castable "java/lang/IllegalStateException" "java/lang/IllegalStateException") ∈ j_nw := List.mem_filter.mpr ⟨j_t4 (mem_dr tc_4_17 (List.Mem.tail _ (List.Mem.tail _ (List.Mem.tail _ (List.Mem.tail _ (List.Mem.tail _ (List.Mem.tail _ (List.Mem.tail _ (List.Mem.head _))))))))), rfl⟩
theorem wx_ArithmeticException : (Jvm.Cond.castable "java/lang/ArithmeticException" "java/lang/ArithmeticException") ∈ j_nw := List.mem_filter.mpr ⟨j_t6 (mem_dr tc_6_11 (List.Mem.tail _ (List.Mem.tail _ (List.Mem.tail _ (List.Mem.tail _ (List.Mem.tail _ (List.Mem.tail _ (List.Mem.tail _ (List.Mem.tail _ (List.Mem.tail _ (List.Mem.head _))))))))))), rfl⟩
end

section
/-! ===== the law's own methods: what the call answers, or which handler takes what it throws ===== -/
theorem H_team_r {d mc ms : Nat} {b : SBt} {Y : OUt} {M M1 : MM} (hb : 104 ≤ b.2.1) {u0 : Int32} {v : Int32} (hcon : CM d mc ms yX5_team cX5_team 2 (some .int) [.ref 0, .int u0] b Y M (.inl (some (.int v))) M1) : CMH (d + 1) mc ms yL_team cL_team 4 (some .int) [(0, 9, 12, 13)] [.ref 0, .int u0, .ref 102] b Y M 0 (ju Y.1 0 v.toInt64, Y.2) M1 := by
  refine ConH.of (by decide +kernel) (Nat.le_of_ble_eq_true rfl) rfl fun p l e s m args below meth c D tyc A ad0 x hr htab hname => ?_
  change JJ _ _ _ _ _ _ _ _ _ _ _ _ _ _ _ _ _ 0 [some (.ref 0), some (.int u0), some (.ref 102), none] [] _ 0 0
  refine j_aload_n x dL_team_0 rfl ?_
  refine j_iconst (v := 0) x dL_team_1 (by decide) ?_
  refine j_aload_n x dL_team_2 rfl ?_
  refine j_iload_n x dL_team_3 rfl ?_
  refine j2_callVi x hb dL_team_4 m_X5_team hcon wmL_7 jc_9 rfl rfl rfl (Nat.le_of_ble_eq_true rfl) (j_fit_rm (by omega) (by omega) (by omega)) rfl ?_
  refine j_i2l x dL_team_7 ?_
  refine j2_last x hb dL_team_8 ?_
  refine j_goto (tgt := 15) x dL_team_9 (by decide) ?_
  refine j_iconst (v := 0) x dL_team_15 (by decide) ?_
  exact j_ireturn x hr dL_team_16 (by omega) (by omega) ⟨rfl, rfl⟩
theorem H_team_t1 {d mc ms : Nat} {b : SBt} {Y : OUt} {M M1 : MM} (hb : 104 ≤ b.2.1) {u0 : Int32} (hcon : CM d mc ms yX5_team cX5_team 2 (some .int) [.ref 0, .int u0] b Y M (.inr "java/lang/UnsupportedOperationException") M1) : CMH (d + 1) mc ms yL_team cL_team 4 (some .int) [(0, 9, 12, 13)] [.ref 0, .int u0, .ref 102] b Y M 1 Y M1 := by
  refine ConH.of (by decide +kernel) (Nat.le_of_ble_eq_true rfl) rfl fun p l e s m args below meth c D tyc A ad0 x hr htab hname => ?_
  change JJ _ _ _ _ _ _ _ _ _ _ _ _ _ _ _ _ _ 0 [some (.ref 0), some (.int u0), some (.ref 102), none] [] _ 0 0
  refine j_aload_n x dL_team_0 rfl ?_
  refine j_iconst (v := 0) x dL_team_1 (by decide) ?_
  refine j_aload_n x dL_team_2 rfl ?_
  refine j_iload_n x dL_team_3 rfl ?_
  refine j2_callC x hb dL_team_4 m_X5_team hcon wmL_7 jc_9 rfl rfl rfl (Nat.le_of_ble_eq_true rfl) (j_fit_rm (by omega) (by omega) (by omega)) rfl [] ⟨0, 9, 12, 13⟩ [] htab (fun w hw => by cases hw) (by decide) (by decide) wcL_13 wx_UnsupportedOperationException rfl (fun a => ?_)
  refine j_astore_nR x dL_team_12 (by decide) rfl ?_
  refine j_iconst (v := 1) x dL_team_13 (by decide) ?_
  exact j_ireturn x hr dL_team_14 (by omega) (by omega) ⟨rfl, rfl⟩
theorem H_ground_r {d mc ms : Nat} {b : SBt} {Y : OUt} {M M1 : MM} (hb : 104 ≤ b.2.1) {u0 u1 : Int32} {v : Int32} (hcon : CM d mc ms yX5_ground cX5_ground 4 (some .int) [.ref 0, .int u0, .int u1] b Y M (.inl (some (.int v))) M1) : CMH (d + 1) mc ms yL_ground cL_ground 5 (some .int) [(0, 10, 13, 13)] [.ref 0, .int u0, .int u1, .ref 102] b Y M 0 (ju Y.1 0 v.toInt64, Y.2) M1 := by
  refine ConH.of (by decide +kernel) (Nat.le_of_ble_eq_true rfl) rfl fun p l e s m args below meth c D tyc A ad0 x hr htab hname => ?_
  change JJ _ _ _ _ _ _ _ _ _ _ _ _ _ _ _ _ _ 0 [some (.ref 0), some (.int u0), some (.int u1), some (.ref 102), none] [] _ 0 0
  refine j_aload_n x dL_ground_0 rfl ?_
  refine j_iconst (v := 0) x dL_ground_1 (by decide) ?_
  refine j_aload_n x dL_ground_2 rfl ?_
  refine j_iload_n x dL_ground_3 rfl ?_
  refine j_iload_n x dL_ground_4 rfl ?_
  refine j2_callVi x hb dL_ground_5 m_X5_ground hcon wmL_15 jc_9 rfl rfl rfl (Nat.le_of_ble_eq_true rfl) (j_fit_rm (by omega) (by omega) (by omega)) rfl ?_
  refine j_i2l x dL_ground_8 ?_
  refine j2_last x hb dL_ground_9 ?_
  refine j_goto (tgt := 17) x dL_ground_10 (by decide) ?_
  refine j_iconst (v := 0) x dL_ground_17 (by decide) ?_
  exact j_ireturn x hr dL_ground_18 (by omega) (by omega) ⟨rfl, rfl⟩
theorem H_ground_t1 {d mc ms : Nat} {b : SBt} {Y : OUt} {M M1 : MM} (hb : 104 ≤ b.2.1) {u0 u1 : Int32} (hcon : CM d mc ms yX5_ground cX5_ground 4 (some .int) [.ref 0, .int u0, .int u1] b Y M (.inr "java/lang/UnsupportedOperationException") M1) : CMH (d + 1) mc ms yL_ground cL_ground 5 (some .int) [(0, 10, 13, 13)] [.ref 0, .int u0, .int u1, .ref 102] b Y M 1 Y M1 := by
  refine ConH.of (by decide +kernel) (Nat.le_of_ble_eq_true rfl) rfl fun p l e s m args below meth c D tyc A ad0 x hr htab hname => ?_
  change JJ _ _ _ _ _ _ _ _ _ _ _ _ _ _ _ _ _ 0 [some (.ref 0), some (.int u0), some (.int u1), some (.ref 102), none] [] _ 0 0
  refine j_aload_n x dL_ground_0 rfl ?_
  refine j_iconst (v := 0) x dL_ground_1 (by decide) ?_
  refine j_aload_n x dL_ground_2 rfl ?_
  refine j_iload_n x dL_ground_3 rfl ?_
  refine j_iload_n x dL_ground_4 rfl ?_
  refine j2_callC x hb dL_ground_5 m_X5_ground hcon wmL_15 jc_9 rfl rfl rfl (Nat.le_of_ble_eq_true rfl) (j_fit_rm (by omega) (by omega) (by omega)) rfl [] ⟨0, 10, 13, 13⟩ [] htab (fun w hw => by cases hw) (by decide) (by decide) wcL_13 wx_UnsupportedOperationException rfl (fun a => ?_)
  refine j_astoreR x dL_ground_13 (by decide) rfl ?_
  refine j_iconst (v := 1) x dL_ground_15 (by decide) ?_
  exact j_ireturn x hr dL_ground_16 (by omega) (by omega) ⟨rfl, rfl⟩
theorem H_draw_r {d mc ms : Nat} {b : SBt} {Y : OUt} {M M1 : MM} (hb : 104 ≤ b.2.1) {v : Int32} (hcon : CM d mc ms yX5_draw cX5_draw 1 (some .int) [.ref 0] b Y M (.inl (some (.int v))) M1) : CMH (d + 1) mc ms yL_draw cL_draw 3 (some .int) [(0, 8, 11, 13)] [.ref 0, .ref 102] b Y M 0 (ju Y.1 0 v.toInt64, Y.2) M1 := by
  refine ConH.of (by decide +kernel) (Nat.le_of_ble_eq_true rfl) rfl fun p l e s m args below meth c D tyc A ad0 x hr htab hname => ?_
  change JJ _ _ _ _ _ _ _ _ _ _ _ _ _ _ _ _ _ 0 [some (.ref 0), some (.ref 102), none] [] _ 0 0
  refine j_aload_n x dL_draw_0 rfl ?_
  refine j_iconst (v := 0) x dL_draw_1 (by decide) ?_
  refine j_aload_n x dL_draw_2 rfl ?_
  refine j2_callVi x hb dL_draw_3 m_X5_draw hcon wmL_19 jc_9 rfl rfl rfl (Nat.le_of_ble_eq_true rfl) (j_fit_rm (by omega) (by omega) (by omega)) rfl ?_
  refine j_i2l x dL_draw_6 ?_
  refine j2_last x hb dL_draw_7 ?_
  refine j_goto (tgt := 14) x dL_draw_8 (by decide) ?_
  refine j_iconst (v := 0) x dL_draw_14 (by decide) ?_
  exact j_ireturn x hr dL_draw_15 (by omega) (by omega) ⟨rfl, rfl⟩
theorem H_draw_t1 {d mc ms : Nat} {b : SBt} {Y : OUt} {M M1 : MM} (hb : 104 ≤ b.2.1) (hcon : CM d mc ms yX5_draw cX5_draw 1 (some .int) [.ref 0] b Y M (.inr "java/lang/UnsupportedOperationException") M1) : CMH (d + 1) mc ms yL_draw cL_draw 3 (some .int) [(0, 8, 11, 13)] [.ref 0, .ref 102] b Y M 1 Y M1 := by
  refine ConH.of (by decide +kernel) (Nat.le_of_ble_eq_true rfl) rfl fun p l e s m args below meth c D tyc A ad0 x hr htab hname => ?_
  change JJ _ _ _ _ _ _ _ _ _ _ _ _ _ _ _ _ _ 0 [some (.ref 0), some (.ref 102), none] [] _ 0 0
  refine j_aload_n x dL_draw_0 rfl ?_
  refine j_iconst (v := 0) x dL_draw_1 (by decide) ?_
  refine j_aload_n x dL_draw_2 rfl ?_
  refine j2_callC x hb dL_draw_3 m_X5_draw hcon wmL_19 jc_9 rfl rfl rfl (Nat.le_of_ble_eq_true rfl) (j_fit_rm (by omega) (by omega) (by omega)) rfl [] ⟨0, 8, 11, 13⟩ [] htab (fun w hw => by cases hw) (by decide) (by decide) wcL_13 wx_UnsupportedOperationException rfl (fun a => ?_)
  refine j_astore_nR x dL_draw_11 (by decide) rfl ?_
  refine j_iconst (v := 1) x dL_draw_12 (by decide) ?_
  exact j_ireturn x hr dL_draw_13 (by omega) (by omega) ⟨rfl, rfl⟩
theorem H_give_r {d mc ms : Nat} {b : SBt} {Y : OUt} {M M1 : MM} (hb : 104 ≤ b.2.1) {u0 u1 : Int32} {v : Int32} (hcon : CM d mc ms yX5_give cX5_give 4 (some .int) [.ref 0, .int u0, .int u1] b Y M (.inl (some (.int v))) M1) : CMH (d + 1) mc ms yL_give cL_give 5 (some .int) [(0, 10, 13, 13)] [.ref 0, .int u0, .int u1, .ref 102] b Y M 0 (ju Y.1 0 v.toInt64, Y.2) M1 := by
  refine ConH.of (by decide +kernel) (Nat.le_of_ble_eq_true rfl) rfl fun p l e s m args below meth c D tyc A ad0 x hr htab hname => ?_
  change JJ _ _ _ _ _ _ _ _ _ _ _ _ _ _ _ _ _ 0 [some (.ref 0), some (.int u0), some (.int u1), some (.ref 102), none] [] _ 0 0
  refine j_aload_n x dL_give_0 rfl ?_
  refine j_iconst (v := 0) x dL_give_1 (by decide) ?_
  refine j_aload_n x dL_give_2 rfl ?_
  refine j_iload_n x dL_give_3 rfl ?_
  refine j_iload_n x dL_give_4 rfl ?_
  refine j2_callVi x hb dL_give_5 m_X5_give hcon wmL_23 jc_9 rfl rfl rfl (Nat.le_of_ble_eq_true rfl) (j_fit_rm (by omega) (by omega) (by omega)) rfl ?_
  refine j_i2l x dL_give_8 ?_
  refine j2_last x hb dL_give_9 ?_
  refine j_goto (tgt := 17) x dL_give_10 (by decide) ?_
  refine j_iconst (v := 0) x dL_give_17 (by decide) ?_
  exact j_ireturn x hr dL_give_18 (by omega) (by omega) ⟨rfl, rfl⟩
theorem H_give_t1 {d mc ms : Nat} {b : SBt} {Y : OUt} {M M1 : MM} (hb : 104 ≤ b.2.1) {u0 u1 : Int32} (hcon : CM d mc ms yX5_give cX5_give 4 (some .int) [.ref 0, .int u0, .int u1] b Y M (.inr "java/lang/UnsupportedOperationException") M1) : CMH (d + 1) mc ms yL_give cL_give 5 (some .int) [(0, 10, 13, 13)] [.ref 0, .int u0, .int u1, .ref 102] b Y M 1 Y M1 := by
  refine ConH.of (by decide +kernel) (Nat.le_of_ble_eq_true rfl) rfl fun p l e s m args below meth c D tyc A ad0 x hr htab hname => ?_
  change JJ _ _ _ _ _ _ _ _ _ _ _ _ _ _ _ _ _ 0 [some (.ref 0), some (.int u0), some (.int u1), some (.ref 102), none] [] _ 0 0
  refine j_aload_n x dL_give_0 rfl ?_
  refine j_iconst (v := 0) x dL_give_1 (by decide) ?_
  refine j_aload_n x dL_give_2 rfl ?_
  refine j_iload_n x dL_give_3 rfl ?_
  refine j_iload_n x dL_give_4 rfl ?_
  refine j2_callC x hb dL_give_5 m_X5_give hcon wmL_23 jc_9 rfl rfl rfl (Nat.le_of_ble_eq_true rfl) (j_fit_rm (by omega) (by omega) (by omega)) rfl [] ⟨0, 10, 13, 13⟩ [] htab (fun w hw => by cases hw) (by decide) (by decide) wcL_13 wx_UnsupportedOperationException rfl (fun a => ?_)
  refine j_astoreR x dL_give_13 (by decide) rfl ?_
  refine j_iconst (v := 1) x dL_give_15 (by decide) ?_
  exact j_ireturn x hr dL_give_16 (by omega) (by omega) ⟨rfl, rfl⟩
theorem H_rules_r {d mc ms : Nat} {b : SBt} {Y : OUt} {M M1 : MM} (hb : 104 ≤ b.2.1) {u0 u1 u2 : Int32} {v : Int32} (hcon : CM d mc ms yX5_rules cX5_rules 4 (some .int) [.ref 0, .int u0, .int u1, .int u2] b Y M (.inl (some (.int v))) M1) : CMH (d + 1) mc ms yL_rules cL_rules 6 (some .int) [(0, 12, 15, 13)] [.ref 0, .int u0, .int u1, .int u2, .ref 102] b Y M 0 (ju Y.1 0 v.toInt64, Y.2) M1 := by
  refine ConH.of (by decide +kernel) (Nat.le_of_ble_eq_true rfl) rfl fun p l e s m args below meth c D tyc A ad0 x hr htab hname => ?_
  change JJ _ _ _ _ _ _ _ _ _ _ _ _ _ _ _ _ _ 0 [some (.ref 0), some (.int u0), some (.int u1), some (.int u2), some (.ref 102), none] [] _ 0 0
  refine j_aload x dL_rules_0 rfl ?_
  refine j_iconst (v := 0) x dL_rules_2 (by decide) ?_
  refine j_aload_n x dL_rules_3 rfl ?_
  refine j_iload_n x dL_rules_4 rfl ?_
  refine j_iload_n x dL_rules_5 rfl ?_
  refine j_iload_n x dL_rules_6 rfl ?_
  refine j2_callVi x hb dL_rules_7 m_X5_rules hcon wmL_26 jc_9 rfl rfl rfl (Nat.le_of_ble_eq_true rfl) (j_fit_rm (by omega) (by omega) (by omega)) rfl ?_
  refine j_i2l x dL_rules_10 ?_
  refine j2_last x hb dL_rules_11 ?_
  refine j_goto (tgt := 19) x dL_rules_12 (by decide) ?_
  refine j_iconst (v := 0) x dL_rules_19 (by decide) ?_
  exact j_ireturn x hr dL_rules_20 (by omega) (by omega) ⟨rfl, rfl⟩
theorem H_rules_t1 {d mc ms : Nat} {b : SBt} {Y : OUt} {M M1 : MM} (hb : 104 ≤ b.2.1) {u0 u1 u2 : Int32} (hcon : CM d mc ms yX5_rules cX5_rules 4 (some .int) [.ref 0, .int u0, .int u1, .int u2] b Y M (.inr "java/lang/UnsupportedOperationException") M1) : CMH (d + 1) mc ms yL_rules cL_rules 6 (some .int) [(0, 12, 15, 13)] [.ref 0, .int u0, .int u1, .int u2, .ref 102] b Y M 1 Y M1 := by
  refine ConH.of (by decide +kernel) (Nat.le_of_ble_eq_true rfl) rfl fun p l e s m args below meth c D tyc A ad0 x hr htab hname => ?_
  change JJ _ _ _ _ _ _ _ _ _ _ _ _ _ _ _ _ _ 0 [some (.ref 0), some (.int u0), some (.int u1), some (.int u2), some (.ref 102), none] [] _ 0 0
  refine j_aload x dL_rules_0 rfl ?_
  refine j_iconst (v := 0) x dL_rules_2 (by decide) ?_
  refine j_aload_n x dL_rules_3 rfl ?_
  refine j_iload_n x dL_rules_4 rfl ?_
  refine j_iload_n x dL_rules_5 rfl ?_
  refine j_iload_n x dL_rules_6 rfl ?_
  refine j2_callC x hb dL_rules_7 m_X5_rules hcon wmL_26 jc_9 rfl rfl rfl (Nat.le_of_ble_eq_true rfl) (j_fit_rm (by omega) (by omega) (by omega)) rfl [] ⟨0, 12, 15, 13⟩ [] htab (fun w hw => by cases hw) (by decide) (by decide) wcL_13 wx_UnsupportedOperationException rfl (fun a => ?_)
  refine j_astoreR x dL_rules_15 (by decide) rfl ?_
  refine j_iconst (v := 1) x dL_rules_17 (by decide) ?_
  exact j_ireturn x hr dL_rules_18 (by omega) (by omega) ⟨rfl, rfl⟩
theorem H_result_r {d mc ms : Nat} {b : SBt} {Y : OUt} {M M1 : MM} (hb : 104 ≤ b.2.1) {u0 u1 u2 : Int32} {v : Int32} (hcon : CM d mc ms yX5_result cX5_result 4 (some .int) [.ref 0, .int u0, .int u1, .int u2] b Y M (.inl (some (.int v))) M1) : CMH (d + 1) mc ms yL_result cL_result 6 (some .int) [(0, 12, 15, 13)] [.ref 0, .int u0, .int u1, .int u2, .ref 102] b Y M 0 (ju Y.1 0 v.toInt64, Y.2) M1 := by
  refine ConH.of (by decide +kernel) (Nat.le_of_ble_eq_true rfl) rfl fun p l e s m args below meth c D tyc A ad0 x hr htab hname => ?_
  change JJ _ _ _ _ _ _ _ _ _ _ _ _ _ _ _ _ _ 0 [some (.ref 0), some (.int u0), some (.int u1), some (.int u2), some (.ref 102), none] [] _ 0 0
  refine j_aload x dL_result_0 rfl ?_
  refine j_iconst (v := 0) x dL_result_2 (by decide) ?_
  refine j_aload_n x dL_result_3 rfl ?_
  refine j_iload_n x dL_result_4 rfl ?_
  refine j_iload_n x dL_result_5 rfl ?_
  refine j_iload_n x dL_result_6 rfl ?_
  refine j2_callVi x hb dL_result_7 m_X5_result hcon wmL_30 jc_9 rfl rfl rfl (Nat.le_of_ble_eq_true rfl) (j_fit_rm (by omega) (by omega) (by omega)) rfl ?_
  refine j_i2l x dL_result_10 ?_
  refine j2_last x hb dL_result_11 ?_
  refine j_goto (tgt := 19) x dL_result_12 (by decide) ?_
  refine j_iconst (v := 0) x dL_result_19 (by decide) ?_
  exact j_ireturn x hr dL_result_20 (by omega) (by omega) ⟨rfl, rfl⟩
theorem H_result_t1 {d mc ms : Nat} {b : SBt} {Y : OUt} {M M1 : MM} (hb : 104 ≤ b.2.1) {u0 u1 u2 : Int32} (hcon : CM d mc ms yX5_result cX5_result 4 (some .int) [.ref 0, .int u0, .int u1, .int u2] b Y M (.inr "java/lang/UnsupportedOperationException") M1) : CMH (d + 1) mc ms yL_result cL_result 6 (some .int) [(0, 12, 15, 13)] [.ref 0, .int u0, .int u1, .int u2, .ref 102] b Y M 1 Y M1 := by
  refine ConH.of (by decide +kernel) (Nat.le_of_ble_eq_true rfl) rfl fun p l e s m args below meth c D tyc A ad0 x hr htab hname => ?_
  change JJ _ _ _ _ _ _ _ _ _ _ _ _ _ _ _ _ _ 0 [some (.ref 0), some (.int u0), some (.int u1), some (.int u2), some (.ref 102), none] [] _ 0 0
  refine j_aload x dL_result_0 rfl ?_
  refine j_iconst (v := 0) x dL_result_2 (by decide) ?_
  refine j_aload_n x dL_result_3 rfl ?_
  refine j_iload_n x dL_result_4 rfl ?_
  refine j_iload_n x dL_result_5 rfl ?_
  refine j_iload_n x dL_result_6 rfl ?_
  refine j2_callC x hb dL_result_7 m_X5_result hcon wmL_30 jc_9 rfl rfl rfl (Nat.le_of_ble_eq_true rfl) (j_fit_rm (by omega) (by omega) (by omega)) rfl [] ⟨0, 12, 15, 13⟩ [] htab (fun w hw => by cases hw) (by decide) (by decide) wcL_13 wx_UnsupportedOperationException rfl (fun a => ?_)
  refine j_astoreR x dL_result_15 (by decide) rfl ?_
  refine j_iconst (v := 1) x dL_result_17 (by decide) ?_
  exact j_ireturn x hr dL_result_18 (by omega) (by omega) ⟨rfl, rfl⟩
theorem H_back_r {d mc ms : Nat} {b : SBt} {Y : OUt} {M M1 : MM} (hb : 104 ≤ b.2.1) {u0 : Int32} {v : Int32} (hcon : CM d mc ms yX5_back cX5_back 2 (some .int) [.ref 0, .int u0] b Y M (.inl (some (.int v))) M1) : CMH (d + 1) mc ms yL_back cL_back 4 (some .int) [(0, 9, 12, 13)] [.ref 0, .int u0, .ref 102] b Y M 0 (ju Y.1 0 v.toInt64, Y.2) M1 := by
  refine ConH.of (by decide +kernel) (Nat.le_of_ble_eq_true rfl) rfl fun p l e s m args below meth c D tyc A ad0 x hr htab hname => ?_
  change JJ _ _ _ _ _ _ _ _ _ _ _ _ _ _ _ _ _ 0 [some (.ref 0), some (.int u0), some (.ref 102), none] [] _ 0 0
  refine j_aload_n x dL_back_0 rfl ?_
  refine j_iconst (v := 0) x dL_back_1 (by decide) ?_
  refine j_aload_n x dL_back_2 rfl ?_
  refine j_iload_n x dL_back_3 rfl ?_
  refine j2_callVi x hb dL_back_4 m_X5_back hcon wmL_33 jc_9 rfl rfl rfl (Nat.le_of_ble_eq_true rfl) (j_fit_rm (by omega) (by omega) (by omega)) rfl ?_
  refine j_i2l x dL_back_7 ?_
  refine j2_last x hb dL_back_8 ?_
  refine j_goto (tgt := 15) x dL_back_9 (by decide) ?_
  refine j_iconst (v := 0) x dL_back_15 (by decide) ?_
  exact j_ireturn x hr dL_back_16 (by omega) (by omega) ⟨rfl, rfl⟩
theorem H_back_t1 {d mc ms : Nat} {b : SBt} {Y : OUt} {M M1 : MM} (hb : 104 ≤ b.2.1) {u0 : Int32} (hcon : CM d mc ms yX5_back cX5_back 2 (some .int) [.ref 0, .int u0] b Y M (.inr "java/lang/UnsupportedOperationException") M1) : CMH (d + 1) mc ms yL_back cL_back 4 (some .int) [(0, 9, 12, 13)] [.ref 0, .int u0, .ref 102] b Y M 1 Y M1 := by
  refine ConH.of (by decide +kernel) (Nat.le_of_ble_eq_true rfl) rfl fun p l e s m args below meth c D tyc A ad0 x hr htab hname => ?_
  change JJ _ _ _ _ _ _ _ _ _ _ _ _ _ _ _ _ _ 0 [some (.ref 0), some (.int u0), some (.ref 102), none] [] _ 0 0
  refine j_aload_n x dL_back_0 rfl ?_
  refine j_iconst (v := 0) x dL_back_1 (by decide) ?_
  refine j_aload_n x dL_back_2 rfl ?_
  refine j_iload_n x dL_back_3 rfl ?_
  refine j2_callC x hb dL_back_4 m_X5_back hcon wmL_33 jc_9 rfl rfl rfl (Nat.le_of_ble_eq_true rfl) (j_fit_rm (by omega) (by omega) (by omega)) rfl [] ⟨0, 9, 12, 13⟩ [] htab (fun w hw => by cases hw) (by decide) (by decide) wcL_13 wx_UnsupportedOperationException rfl (fun a => ?_)
  refine j_astore_nR x dL_back_12 (by decide) rfl ?_
  refine j_iconst (v := 1) x dL_back_13 (by decide) ?_
  exact j_ireturn x hr dL_back_14 (by omega) (by omega) ⟨rfl, rfl⟩
theorem H_putOff_r {d mc ms : Nat} {b : SBt} {Y : OUt} {M M1 : MM} (hb : 104 ≤ b.2.1) {u0 u1 : Int32} {v : Int32} (hcon : CM d mc ms yX5_putOff cX5_putOff 4 (some .int) [.ref 0, .int u0, .int u1] b Y M (.inl (some (.int v))) M1) : CMH (d + 1) mc ms yL_putOff cL_putOff 5 (some .int) [(0, 10, 13, 13)] [.ref 0, .int u0, .int u1, .ref 102] b Y M 0 (ju Y.1 0 v.toInt64, Y.2) M1 := by
  refine ConH.of (by decide +kernel) (Nat.le_of_ble_eq_true rfl) rfl fun p l e s m args below meth c D tyc A ad0 x hr htab hname => ?_
  change JJ _ _ _ _ _ _ _ _ _ _ _ _ _ _ _ _ _ 0 [some (.ref 0), some (.int u0), some (.int u1), some (.ref 102), none] [] _ 0 0
  refine j_aload_n x dL_putOff_0 rfl ?_
  refine j_iconst (v := 0) x dL_putOff_1 (by decide) ?_
  refine j_aload_n x dL_putOff_2 rfl ?_
  refine j_iload_n x dL_putOff_3 rfl ?_
  refine j_iload_n x dL_putOff_4 rfl ?_
  refine j2_callVi x hb dL_putOff_5 m_X5_putOff hcon wmL_36 jc_9 rfl rfl rfl (Nat.le_of_ble_eq_true rfl) (j_fit_rm (by omega) (by omega) (by omega)) rfl ?_
  refine j_i2l x dL_putOff_8 ?_
  refine j2_last x hb dL_putOff_9 ?_
  refine j_goto (tgt := 17) x dL_putOff_10 (by decide) ?_
  refine j_iconst (v := 0) x dL_putOff_17 (by decide) ?_
  exact j_ireturn x hr dL_putOff_18 (by omega) (by omega) ⟨rfl, rfl⟩
theorem H_putOff_t1 {d mc ms : Nat} {b : SBt} {Y : OUt} {M M1 : MM} (hb : 104 ≤ b.2.1) {u0 u1 : Int32} (hcon : CM d mc ms yX5_putOff cX5_putOff 4 (some .int) [.ref 0, .int u0, .int u1] b Y M (.inr "java/lang/UnsupportedOperationException") M1) : CMH (d + 1) mc ms yL_putOff cL_putOff 5 (some .int) [(0, 10, 13, 13)] [.ref 0, .int u0, .int u1, .ref 102] b Y M 1 Y M1 := by
  refine ConH.of (by decide +kernel) (Nat.le_of_ble_eq_true rfl) rfl fun p l e s m args below meth c D tyc A ad0 x hr htab hname => ?_
  change JJ _ _ _ _ _ _ _ _ _ _ _ _ _ _ _ _ _ 0 [some (.ref 0), some (.int u0), some (.int u1), some (.ref 102), none] [] _ 0 0
  refine j_aload_n x dL_putOff_0 rfl ?_
  refine j_iconst (v := 0) x dL_putOff_1 (by decide) ?_
  refine j_aload_n x dL_putOff_2 rfl ?_
  refine j_iload_n x dL_putOff_3 rfl ?_
  refine j_iload_n x dL_putOff_4 rfl ?_
  refine j2_callC x hb dL_putOff_5 m_X5_putOff hcon wmL_36 jc_9 rfl rfl rfl (Nat.le_of_ble_eq_true rfl) (j_fit_rm (by omega) (by omega) (by omega)) rfl [] ⟨0, 10, 13, 13⟩ [] htab (fun w hw => by cases hw) (by decide) (by decide) wcL_13 wx_UnsupportedOperationException rfl (fun a => ?_)
  refine j_astoreR x dL_putOff_13 (by decide) rfl ?_
  refine j_iconst (v := 1) x dL_putOff_15 (by decide) ?_
  exact j_ireturn x hr dL_putOff_16 (by omega) (by omega) ⟨rfl, rfl⟩
theorem H_next_r {d mc ms : Nat} {b : SBt} {Y : OUt} {M M1 : MM} (hb : 104 ≤ b.2.1) {v : Int32} (hcon : CM d mc ms yX5_next cX5_next 1 (some .int) [.ref 0] b Y M (.inl (some (.int v))) M1) : CMH (d + 1) mc ms yL_next cL_next 3 (some .int) [(0, 8, 11, 13)] [.ref 0, .ref 102] b Y M 0 (ju Y.1 0 v.toInt64, Y.2) M1 := by
  refine ConH.of (by decide +kernel) (Nat.le_of_ble_eq_true rfl) rfl fun p l e s m args below meth c D tyc A ad0 x hr htab hname => ?_
  change JJ _ _ _ _ _ _ _ _ _ _ _ _ _ _ _ _ _ 0 [some (.ref 0), some (.ref 102), none] [] _ 0 0
  refine j_aload_n x dL_next_0 rfl ?_
  refine j_iconst (v := 0) x dL_next_1 (by decide) ?_
  refine j_aload_n x dL_next_2 rfl ?_
  refine j2_callVi x hb dL_next_3 m_X5_next hcon wmL_39 jc_9 rfl rfl rfl (Nat.le_of_ble_eq_true rfl) (j_fit_rm (by omega) (by omega) (by omega)) rfl ?_
  refine j_i2l x dL_next_6 ?_
  refine j2_last x hb dL_next_7 ?_
  refine j_goto (tgt := 14) x dL_next_8 (by decide) ?_
  refine j_iconst (v := 0) x dL_next_14 (by decide) ?_
  exact j_ireturn x hr dL_next_15 (by omega) (by omega) ⟨rfl, rfl⟩
theorem H_next_t1 {d mc ms : Nat} {b : SBt} {Y : OUt} {M M1 : MM} (hb : 104 ≤ b.2.1) (hcon : CM d mc ms yX5_next cX5_next 1 (some .int) [.ref 0] b Y M (.inr "java/lang/UnsupportedOperationException") M1) : CMH (d + 1) mc ms yL_next cL_next 3 (some .int) [(0, 8, 11, 13)] [.ref 0, .ref 102] b Y M 1 Y M1 := by
  refine ConH.of (by decide +kernel) (Nat.le_of_ble_eq_true rfl) rfl fun p l e s m args below meth c D tyc A ad0 x hr htab hname => ?_
  change JJ _ _ _ _ _ _ _ _ _ _ _ _ _ _ _ _ _ 0 [some (.ref 0), some (.ref 102), none] [] _ 0 0
  refine j_aload_n x dL_next_0 rfl ?_
  refine j_iconst (v := 0) x dL_next_1 (by decide) ?_
  refine j_aload_n x dL_next_2 rfl ?_
  refine j2_callC x hb dL_next_3 m_X5_next hcon wmL_39 jc_9 rfl rfl rfl (Nat.le_of_ble_eq_true rfl) (j_fit_rm (by omega) (by omega) (by omega)) rfl [] ⟨0, 8, 11, 13⟩ [] htab (fun w hw => by cases hw) (by decide) (by decide) wcL_13 wx_UnsupportedOperationException rfl (fun a => ?_)
  refine j_astore_nR x dL_next_11 (by decide) rfl ?_
  refine j_iconst (v := 1) x dL_next_12 (by decide) ?_
  exact j_ireturn x hr dL_next_13 (by omega) (by omega) ⟨rfl, rfl⟩
theorem H_teamOf_r {d mc ms : Nat} {b : SBt} {Y : OUt} {M M1 : MM} (hb : 104 ≤ b.2.1) {u0 u1 : Int32} {v : Int32} (hcon : CM d mc ms yX5_teamOf cX5_teamOf 3 (some .int) [.ref 0, .int u0, .int u1] b Y M (.inl (some (.int v))) M1) : CMH (d + 1) mc ms yL_teamOf cL_teamOf 5 (some .int) [(0, 10, 13, 45), (0, 10, 17, 47)] [.ref 0, .int u0, .int u1, .ref 102] b Y M 0 (ju Y.1 0 v.toInt64, Y.2) M1 := by
  refine ConH.of (by decide +kernel) (Nat.le_of_ble_eq_true rfl) rfl fun p l e s m args below meth c D tyc A ad0 x hr htab hname => ?_
  change JJ _ _ _ _ _ _ _ _ _ _ _ _ _ _ _ _ _ 0 [some (.ref 0), some (.int u0), some (.int u1), some (.ref 102), none] [] _ 0 0
  refine j_aload_n x dL_teamOf_0 rfl ?_
  refine j_iconst (v := 0) x dL_teamOf_1 (by decide) ?_
  refine j_aload_n x dL_teamOf_2 rfl ?_
  refine j_iload_n x dL_teamOf_3 rfl ?_
  refine j_iload_n x dL_teamOf_4 rfl ?_
  refine j2_callVi x hb dL_teamOf_5 m_X5_teamOf hcon wmL_42 jc_9 rfl rfl rfl (Nat.le_of_ble_eq_true rfl) (j_fit_rm (by omega) (by omega) (by omega)) rfl ?_
  refine j_i2l x dL_teamOf_8 ?_
  refine j2_last x hb dL_teamOf_9 ?_
  refine j_goto (tgt := 21) x dL_teamOf_10 (by decide) ?_
  refine j_iconst (v := 0) x dL_teamOf_21 (by decide) ?_
  exact j_ireturn x hr dL_teamOf_22 (by omega) (by omega) ⟨rfl, rfl⟩
theorem H_teamOf_t1 {d mc ms : Nat} {b : SBt} {Y : OUt} {M M1 : MM} (hb : 104 ≤ b.2.1) {u0 u1 : Int32} (hcon : CM d mc ms yX5_teamOf cX5_teamOf 3 (some .int) [.ref 0, .int u0, .int u1] b Y M (.inr "java/lang/IndexOutOfBoundsException") M1) : CMH (d + 1) mc ms yL_teamOf cL_teamOf 5 (some .int) [(0, 10, 13, 45), (0, 10, 17, 47)] [.ref 0, .int u0, .int u1, .ref 102] b Y M 1 Y M1 := by
  refine ConH.of (by decide +kernel) (Nat.le_of_ble_eq_true rfl) rfl fun p l e s m args below meth c D tyc A ad0 x hr htab hname => ?_
  change JJ _ _ _ _ _ _ _ _ _ _ _ _ _ _ _ _ _ 0 [some (.ref 0), some (.int u0), some (.int u1), some (.ref 102), none] [] _ 0 0
  refine j_aload_n x dL_teamOf_0 rfl ?_
  refine j_iconst (v := 0) x dL_teamOf_1 (by decide) ?_
  refine j_aload_n x dL_teamOf_2 rfl ?_
  refine j_iload_n x dL_teamOf_3 rfl ?_
  refine j_iload_n x dL_teamOf_4 rfl ?_
  refine j2_callC x hb dL_teamOf_5 m_X5_teamOf hcon wmL_42 jc_9 rfl rfl rfl (Nat.le_of_ble_eq_true rfl) (j_fit_rm (by omega) (by omega) (by omega)) rfl [] ⟨0, 10, 13, 45⟩ [⟨0, 10, 17, 47⟩] htab (fun w hw => by cases hw) (by decide) (by decide) wcL_45 wx_IndexOutOfBoundsException rfl (fun a => ?_)
  refine j_astoreR x dL_teamOf_13 (by decide) rfl ?_
  refine j_iconst (v := 1) x dL_teamOf_15 (by decide) ?_
  exact j_ireturn x hr dL_teamOf_16 (by omega) (by omega) ⟨rfl, rfl⟩
theorem H_teamOf_t2 {d mc ms : Nat} {b : SBt} {Y : OUt} {M M1 : MM} (hb : 104 ≤ b.2.1) {u0 u1 : Int32} (hcon : CM d mc ms yX5_teamOf cX5_teamOf 3 (some .int) [.ref 0, .int u0, .int u1] b Y M (.inr "java/lang/IllegalArgumentException") M1) : CMH (d + 1) mc ms yL_teamOf cL_teamOf 5 (some .int) [(0, 10, 13, 45), (0, 10, 17, 47)] [.ref 0, .int u0, .int u1, .ref 102] b Y M 2 Y M1 := by
  refine ConH.of (by decide +kernel) (Nat.le_of_ble_eq_true rfl) rfl fun p l e s m args below meth c D tyc A ad0 x hr htab hname => ?_
  change JJ _ _ _ _ _ _ _ _ _ _ _ _ _ _ _ _ _ 0 [some (.ref 0), some (.int u0), some (.int u1), some (.ref 102), none] [] _ 0 0
  refine j_aload_n x dL_teamOf_0 rfl ?_
  refine j_iconst (v := 0) x dL_teamOf_1 (by decide) ?_
  refine j_aload_n x dL_teamOf_2 rfl ?_
  refine j_iload_n x dL_teamOf_3 rfl ?_
  refine j_iload_n x dL_teamOf_4 rfl ?_
  refine j2_callC x hb dL_teamOf_5 m_X5_teamOf hcon wmL_42 jc_9 rfl rfl rfl (Nat.le_of_ble_eq_true rfl) (j_fit_rm (by omega) (by omega) (by omega)) rfl [⟨0, 10, 13, 45⟩] ⟨0, 10, 17, 47⟩ [] htab (fun w hw => by rcases List.mem_cons.mp hw with rfl | hw <;> first | exact Or.inr ⟨by decide, _, wcL_45, by decide +kernel⟩ | cases hw) (by decide) (by decide) wcL_47 wx_IllegalArgumentException rfl (fun a => ?_)
  refine j_astoreR x dL_teamOf_17 (by decide) rfl ?_
  refine j_iconst (v := 2) x dL_teamOf_19 (by decide) ?_
  exact j_ireturn x hr dL_teamOf_20 (by omega) (by omega) ⟨rfl, rfl⟩
theorem H_pointsAgain_r {d mc ms : Nat} {b : SBt} {Y : OUt} {M M1 : MM} (hb : 104 ≤ b.2.1) {u0 : Int32} {v : Int32} (hcon : CM d mc ms yX5_pointsAgain cX5_pointsAgain 2 (some .int) [.ref 0, .int u0] b Y M (.inl (some (.int v))) M1) : CMH (d + 1) mc ms yL_pointsAgain cL_pointsAgain 4 (some .int) [(0, 9, 12, 45)] [.ref 0, .int u0, .ref 102] b Y M 0 (ju Y.1 0 v.toInt64, Y.2) M1 := by
  refine ConH.of (by decide +kernel) (Nat.le_of_ble_eq_true rfl) rfl fun p l e s m args below meth c D tyc A ad0 x hr htab hname => ?_
  change JJ _ _ _ _ _ _ _ _ _ _ _ _ _ _ _ _ _ 0 [some (.ref 0), some (.int u0), some (.ref 102), none] [] _ 0 0
  refine j_aload_n x dL_pointsAgain_0 rfl ?_
  refine j_iconst (v := 0) x dL_pointsAgain_1 (by decide) ?_
  refine j_aload_n x dL_pointsAgain_2 rfl ?_
  refine j_iload_n x dL_pointsAgain_3 rfl ?_
  refine j2_callVi x hb dL_pointsAgain_4 m_X5_pointsAgain hcon wmL_49 jc_9 rfl rfl rfl (Nat.le_of_ble_eq_true rfl) (j_fit_rm (by omega) (by omega) (by omega)) rfl ?_
  refine j_i2l x dL_pointsAgain_7 ?_
  refine j2_last x hb dL_pointsAgain_8 ?_
  refine j_goto (tgt := 15) x dL_pointsAgain_9 (by decide) ?_
  refine j_iconst (v := 0) x dL_pointsAgain_15 (by decide) ?_
  exact j_ireturn x hr dL_pointsAgain_16 (by omega) (by omega) ⟨rfl, rfl⟩
theorem H_pointsAgain_t1 {d mc ms : Nat} {b : SBt} {Y : OUt} {M M1 : MM} (hb : 104 ≤ b.2.1) {u0 : Int32} (hcon : CM d mc ms yX5_pointsAgain cX5_pointsAgain 2 (some .int) [.ref 0, .int u0] b Y M (.inr "java/lang/IndexOutOfBoundsException") M1) : CMH (d + 1) mc ms yL_pointsAgain cL_pointsAgain 4 (some .int) [(0, 9, 12, 45)] [.ref 0, .int u0, .ref 102] b Y M 1 Y M1 := by
  refine ConH.of (by decide +kernel) (Nat.le_of_ble_eq_true rfl) rfl fun p l e s m args below meth c D tyc A ad0 x hr htab hname => ?_
  change JJ _ _ _ _ _ _ _ _ _ _ _ _ _ _ _ _ _ 0 [some (.ref 0), some (.int u0), some (.ref 102), none] [] _ 0 0
  refine j_aload_n x dL_pointsAgain_0 rfl ?_
  refine j_iconst (v := 0) x dL_pointsAgain_1 (by decide) ?_
  refine j_aload_n x dL_pointsAgain_2 rfl ?_
  refine j_iload_n x dL_pointsAgain_3 rfl ?_
  refine j2_callC x hb dL_pointsAgain_4 m_X5_pointsAgain hcon wmL_49 jc_9 rfl rfl rfl (Nat.le_of_ble_eq_true rfl) (j_fit_rm (by omega) (by omega) (by omega)) rfl [] ⟨0, 9, 12, 45⟩ [] htab (fun w hw => by cases hw) (by decide) (by decide) wcL_45 wx_IndexOutOfBoundsException rfl (fun a => ?_)
  refine j_astore_nR x dL_pointsAgain_12 (by decide) rfl ?_
  refine j_iconst (v := 1) x dL_pointsAgain_13 (by decide) ?_
  exact j_ireturn x hr dL_pointsAgain_14 (by omega) (by omega) ⟨rfl, rfl⟩
theorem H_meetingOf_r {d mc ms : Nat} {b : SBt} {Y : OUt} {M M1 : MM} (hb : 104 ≤ b.2.1) {u0 u1 : Int32} {v : Int32} (hcon : CM d mc ms yX5_meetingOf cX5_meetingOf 3 (some .int) [.ref 0, .int u0, .int u1] b Y M (.inl (some (.int v))) M1) : CMH (d + 1) mc ms yL_meetingOf cL_meetingOf 5 (some .int) [(0, 10, 13, 45), (0, 10, 17, 47)] [.ref 0, .int u0, .int u1, .ref 102] b Y M 0 (ju Y.1 0 v.toInt64, Y.2) M1 := by
  refine ConH.of (by decide +kernel) (Nat.le_of_ble_eq_true rfl) rfl fun p l e s m args below meth c D tyc A ad0 x hr htab hname => ?_
  change JJ _ _ _ _ _ _ _ _ _ _ _ _ _ _ _ _ _ 0 [some (.ref 0), some (.int u0), some (.int u1), some (.ref 102), none] [] _ 0 0
  refine j_aload_n x dL_meetingOf_0 rfl ?_
  refine j_iconst (v := 0) x dL_meetingOf_1 (by decide) ?_
  refine j_aload_n x dL_meetingOf_2 rfl ?_
  refine j_iload_n x dL_meetingOf_3 rfl ?_
  refine j_iload_n x dL_meetingOf_4 rfl ?_
  refine j2_callVi x hb dL_meetingOf_5 m_X5_meetingOf hcon wmL_52 jc_9 rfl rfl rfl (Nat.le_of_ble_eq_true rfl) (j_fit_rm (by omega) (by omega) (by omega)) rfl ?_
  refine j_i2l x dL_meetingOf_8 ?_
  refine j2_last x hb dL_meetingOf_9 ?_
  refine j_goto (tgt := 21) x dL_meetingOf_10 (by decide) ?_
  refine j_iconst (v := 0) x dL_meetingOf_21 (by decide) ?_
  exact j_ireturn x hr dL_meetingOf_22 (by omega) (by omega) ⟨rfl, rfl⟩
theorem H_meetingOf_t1 {d mc ms : Nat} {b : SBt} {Y : OUt} {M M1 : MM} (hb : 104 ≤ b.2.1) {u0 u1 : Int32} (hcon : CM d mc ms yX5_meetingOf cX5_meetingOf 3 (some .int) [.ref 0, .int u0, .int u1] b Y M (.inr "java/lang/IndexOutOfBoundsException") M1) : CMH (d + 1) mc ms yL_meetingOf cL_meetingOf 5 (some .int) [(0, 10, 13, 45), (0, 10, 17, 47)] [.ref 0, .int u0, .int u1, .ref 102] b Y M 1 Y M1 := by
  refine ConH.of (by decide +kernel) (Nat.le_of_ble_eq_true rfl) rfl fun p l e s m args below meth c D tyc A ad0 x hr htab hname => ?_
  change JJ _ _ _ _ _ _ _ _ _ _ _ _ _ _ _ _ _ 0 [some (.ref 0), some (.int u0), some (.int u1), some (.ref 102), none] [] _ 0 0
  refine j_aload_n x dL_meetingOf_0 rfl ?_
  refine j_iconst (v := 0) x dL_meetingOf_1 (by decide) ?_
  refine j_aload_n x dL_meetingOf_2 rfl ?_
  refine j_iload_n x dL_meetingOf_3 rfl ?_
  refine j_iload_n x dL_meetingOf_4 rfl ?_
  refine j2_callC x hb dL_meetingOf_5 m_X5_meetingOf hcon wmL_52 jc_9 rfl rfl rfl (Nat.le_of_ble_eq_true rfl) (j_fit_rm (by omega) (by omega) (by omega)) rfl [] ⟨0, 10, 13, 45⟩ [⟨0, 10, 17, 47⟩] htab (fun w hw => by cases hw) (by decide) (by decide) wcL_45 wx_IndexOutOfBoundsException rfl (fun a => ?_)
  refine j_astoreR x dL_meetingOf_13 (by decide) rfl ?_
  refine j_iconst (v := 1) x dL_meetingOf_15 (by decide) ?_
  exact j_ireturn x hr dL_meetingOf_16 (by omega) (by omega) ⟨rfl, rfl⟩
theorem H_meetingOf_t2 {d mc ms : Nat} {b : SBt} {Y : OUt} {M M1 : MM} (hb : 104 ≤ b.2.1) {u0 u1 : Int32} (hcon : CM d mc ms yX5_meetingOf cX5_meetingOf 3 (some .int) [.ref 0, .int u0, .int u1] b Y M (.inr "java/lang/IllegalArgumentException") M1) : CMH (d + 1) mc ms yL_meetingOf cL_meetingOf 5 (some .int) [(0, 10, 13, 45), (0, 10, 17, 47)] [.ref 0, .int u0, .int u1, .ref 102] b Y M 2 Y M1 := by
  refine ConH.of (by decide +kernel) (Nat.le_of_ble_eq_true rfl) rfl fun p l e s m args below meth c D tyc A ad0 x hr htab hname => ?_
  change JJ _ _ _ _ _ _ _ _ _ _ _ _ _ _ _ _ _ 0 [some (.ref 0), some (.int u0), some (.int u1), some (.ref 102), none] [] _ 0 0
  refine j_aload_n x dL_meetingOf_0 rfl ?_
  refine j_iconst (v := 0) x dL_meetingOf_1 (by decide) ?_
  refine j_aload_n x dL_meetingOf_2 rfl ?_
  refine j_iload_n x dL_meetingOf_3 rfl ?_
  refine j_iload_n x dL_meetingOf_4 rfl ?_
  refine j2_callC x hb dL_meetingOf_5 m_X5_meetingOf hcon wmL_52 jc_9 rfl rfl rfl (Nat.le_of_ble_eq_true rfl) (j_fit_rm (by omega) (by omega) (by omega)) rfl [⟨0, 10, 13, 45⟩] ⟨0, 10, 17, 47⟩ [] htab (fun w hw => by rcases List.mem_cons.mp hw with rfl | hw <;> first | exact Or.inr ⟨by decide, _, wcL_45, by decide +kernel⟩ | cases hw) (by decide) (by decide) wcL_47 wx_IllegalArgumentException rfl (fun a => ?_)
  refine j_astoreR x dL_meetingOf_17 (by decide) rfl ?_
  refine j_iconst (v := 2) x dL_meetingOf_19 (by decide) ?_
  exact j_ireturn x hr dL_meetingOf_20 (by omega) (by omega) ⟨rfl, rfl⟩
theorem H_find_r {d mc ms : Nat} {b : SBt} {Y : OUt} {M M1 : MM} (hb : 104 ≤ b.2.1) {u0 u1 : Int32} {v : Int32} (hcon : CM d mc ms yX5_find cX5_find 4 (some .int) [.ref 0, .int u0, .int u1] b Y M (.inl (some (.int v))) M1) : CMH (d + 1) mc ms yL_find cL_find 5 (some .int) [(0, 10, 13, 45), (0, 10, 17, 58)] [.ref 0, .int u0, .int u1, .ref 102] b Y M 0 (ju Y.1 0 v.toInt64, Y.2) M1 := by
  refine ConH.of (by decide +kernel) (Nat.le_of_ble_eq_true rfl) rfl fun p l e s m args below meth c D tyc A ad0 x hr htab hname => ?_
  change JJ _ _ _ _ _ _ _ _ _ _ _ _ _ _ _ _ _ 0 [some (.ref 0), some (.int u0), some (.int u1), some (.ref 102), none] [] _ 0 0
  refine j_aload_n x dL_find_0 rfl ?_
  refine j_iconst (v := 0) x dL_find_1 (by decide) ?_
  refine j_aload_n x dL_find_2 rfl ?_
  refine j_iload_n x dL_find_3 rfl ?_
  refine j_iload_n x dL_find_4 rfl ?_
  refine j2_callVi x hb dL_find_5 m_X5_find hcon wmL_55 jc_9 rfl rfl rfl (Nat.le_of_ble_eq_true rfl) (j_fit_rm (by omega) (by omega) (by omega)) rfl ?_
  refine j_i2l x dL_find_8 ?_
  refine j2_last x hb dL_find_9 ?_
  refine j_goto (tgt := 21) x dL_find_10 (by decide) ?_
  refine j_iconst (v := 0) x dL_find_21 (by decide) ?_
  exact j_ireturn x hr dL_find_22 (by omega) (by omega) ⟨rfl, rfl⟩
theorem H_find_t1 {d mc ms : Nat} {b : SBt} {Y : OUt} {M M1 : MM} (hb : 104 ≤ b.2.1) {u0 u1 : Int32} (hcon : CM d mc ms yX5_find cX5_find 4 (some .int) [.ref 0, .int u0, .int u1] b Y M (.inr "java/lang/IndexOutOfBoundsException") M1) : CMH (d + 1) mc ms yL_find cL_find 5 (some .int) [(0, 10, 13, 45), (0, 10, 17, 58)] [.ref 0, .int u0, .int u1, .ref 102] b Y M 1 Y M1 := by
  refine ConH.of (by decide +kernel) (Nat.le_of_ble_eq_true rfl) rfl fun p l e s m args below meth c D tyc A ad0 x hr htab hname => ?_
  change JJ _ _ _ _ _ _ _ _ _ _ _ _ _ _ _ _ _ 0 [some (.ref 0), some (.int u0), some (.int u1), some (.ref 102), none] [] _ 0 0
  refine j_aload_n x dL_find_0 rfl ?_
  refine j_iconst (v := 0) x dL_find_1 (by decide) ?_
  refine j_aload_n x dL_find_2 rfl ?_
  refine j_iload_n x dL_find_3 rfl ?_
  refine j_iload_n x dL_find_4 rfl ?_
  refine j2_callC x hb dL_find_5 m_X5_find hcon wmL_55 jc_9 rfl rfl rfl (Nat.le_of_ble_eq_true rfl) (j_fit_rm (by omega) (by omega) (by omega)) rfl [] ⟨0, 10, 13, 45⟩ [⟨0, 10, 17, 58⟩] htab (fun w hw => by cases hw) (by decide) (by decide) wcL_45 wx_IndexOutOfBoundsException rfl (fun a => ?_)
  refine j_astoreR x dL_find_13 (by decide) rfl ?_
  refine j_iconst (v := 1) x dL_find_15 (by decide) ?_
  exact j_ireturn x hr dL_find_16 (by omega) (by omega) ⟨rfl, rfl⟩
theorem H_find_t2 {d mc ms : Nat} {b : SBt} {Y : OUt} {M M1 : MM} (hb : 104 ≤ b.2.1) {u0 u1 : Int32} (hcon : CM d mc ms yX5_find cX5_find 4 (some .int) [.ref 0, .int u0, .int u1] b Y M (.inr "java/util/NoSuchElementException") M1) : CMH (d + 1) mc ms yL_find cL_find 5 (some .int) [(0, 10, 13, 45), (0, 10, 17, 58)] [.ref 0, .int u0, .int u1, .ref 102] b Y M 2 Y M1 := by
  refine ConH.of (by decide +kernel) (Nat.le_of_ble_eq_true rfl) rfl fun p l e s m args below meth c D tyc A ad0 x hr htab hname => ?_
  change JJ _ _ _ _ _ _ _ _ _ _ _ _ _ _ _ _ _ 0 [some (.ref 0), some (.int u0), some (.int u1), some (.ref 102), none] [] _ 0 0
  refine j_aload_n x dL_find_0 rfl ?_
  refine j_iconst (v := 0) x dL_find_1 (by decide) ?_
  refine j_aload_n x dL_find_2 rfl ?_
  refine j_iload_n x dL_find_3 rfl ?_
  refine j_iload_n x dL_find_4 rfl ?_
  refine j2_callC x hb dL_find_5 m_X5_find hcon wmL_55 jc_9 rfl rfl rfl (Nat.le_of_ble_eq_true rfl) (j_fit_rm (by omega) (by omega) (by omega)) rfl [⟨0, 10, 13, 45⟩] ⟨0, 10, 17, 58⟩ [] htab (fun w hw => by rcases List.mem_cons.mp hw with rfl | hw <;> first | exact Or.inr ⟨by decide, _, wcL_45, by decide +kernel⟩ | cases hw) (by decide) (by decide) wcL_58 wx_NoSuchElementException rfl (fun a => ?_)
  refine j_astoreR x dL_find_17 (by decide) rfl ?_
  refine j_iconst (v := 2) x dL_find_19 (by decide) ?_
  exact j_ireturn x hr dL_find_20 (by omega) (by omega) ⟨rfl, rfl⟩
theorem H_byeIn_r {d mc ms : Nat} {b : SBt} {Y : OUt} {M M1 : MM} (hb : 104 ≤ b.2.1) {u0 : Int32} {v : Int32} (hcon : CM d mc ms yX5_byeIn cX5_byeIn 3 (some .int) [.ref 0, .int u0] b Y M (.inl (some (.int v))) M1) : CMH (d + 1) mc ms yL_byeIn cL_byeIn 4 (some .int) [(0, 9, 12, 45), (0, 9, 15, 58)] [.ref 0, .int u0, .ref 102] b Y M 0 (ju Y.1 0 v.toInt64, Y.2) M1 := by
  refine ConH.of (by decide +kernel) (Nat.le_of_ble_eq_true rfl) rfl fun p l e s m args below meth c D tyc A ad0 x hr htab hname => ?_
  change JJ _ _ _ _ _ _ _ _ _ _ _ _ _ _ _ _ _ 0 [some (.ref 0), some (.int u0), some (.ref 102), none] [] _ 0 0
  refine j_aload_n x dL_byeIn_0 rfl ?_
  refine j_iconst (v := 0) x dL_byeIn_1 (by decide) ?_
  refine j_aload_n x dL_byeIn_2 rfl ?_
  refine j_iload_n x dL_byeIn_3 rfl ?_
  refine j2_callVi x hb dL_byeIn_4 m_X5_byeIn hcon wmL_60 jc_9 rfl rfl rfl (Nat.le_of_ble_eq_true rfl) (j_fit_rm (by omega) (by omega) (by omega)) rfl ?_
  refine j_i2l x dL_byeIn_7 ?_
  refine j2_last x hb dL_byeIn_8 ?_
  refine j_goto (tgt := 18) x dL_byeIn_9 (by decide) ?_
  refine j_iconst (v := 0) x dL_byeIn_18 (by decide) ?_
  exact j_ireturn x hr dL_byeIn_19 (by omega) (by omega) ⟨rfl, rfl⟩
theorem H_byeIn_t1 {d mc ms : Nat} {b : SBt} {Y : OUt} {M M1 : MM} (hb : 104 ≤ b.2.1) {u0 : Int32} (hcon : CM d mc ms yX5_byeIn cX5_byeIn 3 (some .int) [.ref 0, .int u0] b Y M (.inr "java/lang/IndexOutOfBoundsException") M1) : CMH (d + 1) mc ms yL_byeIn cL_byeIn 4 (some .int) [(0, 9, 12, 45), (0, 9, 15, 58)] [.ref 0, .int u0, .ref 102] b Y M 1 Y M1 := by
  refine ConH.of (by decide +kernel) (Nat.le_of_ble_eq_true rfl) rfl fun p l e s m args below meth c D tyc A ad0 x hr htab hname => ?_
  change JJ _ _ _ _ _ _ _ _ _ _ _ _ _ _ _ _ _ 0 [some (.ref 0), some (.int u0), some (.ref 102), none] [] _ 0 0
  refine j_aload_n x dL_byeIn_0 rfl ?_
  refine j_iconst (v := 0) x dL_byeIn_1 (by decide) ?_
  refine j_aload_n x dL_byeIn_2 rfl ?_
  refine j_iload_n x dL_byeIn_3 rfl ?_
  refine j2_callC x hb dL_byeIn_4 m_X5_byeIn hcon wmL_60 jc_9 rfl rfl rfl (Nat.le_of_ble_eq_true rfl) (j_fit_rm (by omega) (by omega) (by omega)) rfl [] ⟨0, 9, 12, 45⟩ [⟨0, 9, 15, 58⟩] htab (fun w hw => by cases hw) (by decide) (by decide) wcL_45 wx_IndexOutOfBoundsException rfl (fun a => ?_)
  refine j_astore_nR x dL_byeIn_12 (by decide) rfl ?_
  refine j_iconst (v := 1) x dL_byeIn_13 (by decide) ?_
  exact j_ireturn x hr dL_byeIn_14 (by omega) (by omega) ⟨rfl, rfl⟩
theorem H_byeIn_t2 {d mc ms : Nat} {b : SBt} {Y : OUt} {M M1 : MM} (hb : 104 ≤ b.2.1) {u0 : Int32} (hcon : CM d mc ms yX5_byeIn cX5_byeIn 3 (some .int) [.ref 0, .int u0] b Y M (.inr "java/util/NoSuchElementException") M1) : CMH (d + 1) mc ms yL_byeIn cL_byeIn 4 (some .int) [(0, 9, 12, 45), (0, 9, 15, 58)] [.ref 0, .int u0, .ref 102] b Y M 2 Y M1 := by
  refine ConH.of (by decide +kernel) (Nat.le_of_ble_eq_true rfl) rfl fun p l e s m args below meth c D tyc A ad0 x hr htab hname => ?_
  change JJ _ _ _ _ _ _ _ _ _ _ _ _ _ _ _ _ _ 0 [some (.ref 0), some (.int u0), some (.ref 102), none] [] _ 0 0
  refine j_aload_n x dL_byeIn_0 rfl ?_
  refine j_iconst (v := 0) x dL_byeIn_1 (by decide) ?_
  refine j_aload_n x dL_byeIn_2 rfl ?_
  refine j_iload_n x dL_byeIn_3 rfl ?_
  refine j2_callC x hb dL_byeIn_4 m_X5_byeIn hcon wmL_60 jc_9 rfl rfl rfl (Nat.le_of_ble_eq_true rfl) (j_fit_rm (by omega) (by omega) (by omega)) rfl [⟨0, 9, 12, 45⟩] ⟨0, 9, 15, 58⟩ [] htab (fun w hw => by rcases List.mem_cons.mp hw with rfl | hw <;> first | exact Or.inr ⟨by decide, _, wcL_45, by decide +kernel⟩ | cases hw) (by decide) (by decide) wcL_58 wx_NoSuchElementException rfl (fun a => ?_)
  refine j_astore_nR x dL_byeIn_15 (by decide) rfl ?_
  refine j_iconst (v := 2) x dL_byeIn_16 (by decide) ?_
  exact j_ireturn x hr dL_byeIn_17 (by omega) (by omega) ⟨rfl, rfl⟩
theorem H_meetingsIn_r {d mc ms : Nat} {b : SBt} {Y : OUt} {M M1 : MM} (hb : 104 ≤ b.2.1) {u0 : Int32} {v : Int32} (hcon : CM d mc ms yX5_meetingsIn cX5_meetingsIn 4 (some .int) [.ref 0, .int u0] b Y M (.inl (some (.int v))) M1) : CMH (d + 1) mc ms yL_meetingsIn cL_meetingsIn 4 (some .int) [(0, 9, 12, 45)] [.ref 0, .int u0, .ref 102] b Y M 0 (ju Y.1 0 v.toInt64, Y.2) M1 := by
  refine ConH.of (by decide +kernel) (Nat.le_of_ble_eq_true rfl) rfl fun p l e s m args below meth c D tyc A ad0 x hr htab hname => ?_
  change JJ _ _ _ _ _ _ _ _ _ _ _ _ _ _ _ _ _ 0 [some (.ref 0), some (.int u0), some (.ref 102), none] [] _ 0 0
  refine j_aload_n x dL_meetingsIn_0 rfl ?_
  refine j_iconst (v := 0) x dL_meetingsIn_1 (by decide) ?_
  refine j_aload_n x dL_meetingsIn_2 rfl ?_
  refine j_iload_n x dL_meetingsIn_3 rfl ?_
  refine j2_callVi x hb dL_meetingsIn_4 m_X5_meetingsIn hcon wmL_63 jc_9 rfl rfl rfl (Nat.le_of_ble_eq_true rfl) (j_fit_rm (by omega) (by omega) (by omega)) rfl ?_
  refine j_i2l x dL_meetingsIn_7 ?_
  refine j2_last x hb dL_meetingsIn_8 ?_
  refine j_goto (tgt := 15) x dL_meetingsIn_9 (by decide) ?_
  refine j_iconst (v := 0) x dL_meetingsIn_15 (by decide) ?_
  exact j_ireturn x hr dL_meetingsIn_16 (by omega) (by omega) ⟨rfl, rfl⟩
theorem H_meetingsIn_t1 {d mc ms : Nat} {b : SBt} {Y : OUt} {M M1 : MM} (hb : 104 ≤ b.2.1) {u0 : Int32} (hcon : CM d mc ms yX5_meetingsIn cX5_meetingsIn 4 (some .int) [.ref 0, .int u0] b Y M (.inr "java/lang/IndexOutOfBoundsException") M1) : CMH (d + 1) mc ms yL_meetingsIn cL_meetingsIn 4 (some .int) [(0, 9, 12, 45)] [.ref 0, .int u0, .ref 102] b Y M 1 Y M1 := by
  refine ConH.of (by decide +kernel) (Nat.le_of_ble_eq_true rfl) rfl fun p l e s m args below meth c D tyc A ad0 x hr htab hname => ?_
  change JJ _ _ _ _ _ _ _ _ _ _ _ _ _ _ _ _ _ 0 [some (.ref 0), some (.int u0), some (.ref 102), none] [] _ 0 0
  refine j_aload_n x dL_meetingsIn_0 rfl ?_
  refine j_iconst (v := 0) x dL_meetingsIn_1 (by decide) ?_
  refine j_aload_n x dL_meetingsIn_2 rfl ?_
  refine j_iload_n x dL_meetingsIn_3 rfl ?_
  refine j2_callC x hb dL_meetingsIn_4 m_X5_meetingsIn hcon wmL_63 jc_9 rfl rfl rfl (Nat.le_of_ble_eq_true rfl) (j_fit_rm (by omega) (by omega) (by omega)) rfl [] ⟨0, 9, 12, 45⟩ [] htab (fun w hw => by cases hw) (by decide) (by decide) wcL_45 wx_IndexOutOfBoundsException rfl (fun a => ?_)
  refine j_astore_nR x dL_meetingsIn_12 (by decide) rfl ?_
  refine j_iconst (v := 1) x dL_meetingsIn_13 (by decide) ?_
  exact j_ireturn x hr dL_meetingsIn_14 (by omega) (by omega) ⟨rfl, rfl⟩
theorem H_clashes_r {d mc ms : Nat} {b : SBt} {Y : OUt} {M M1 : MM} (hb : 104 ≤ b.2.1) {u0 : Int32} {v : Int32} (hcon : CM d mc ms yX5_clashes cX5_clashes 2 (some .int) [.ref 0, .int u0] b Y M (.inl (some (.int v))) M1) : CMH (d + 1) mc ms yL_clashes cL_clashes 4 (some .int) [(0, 9, 12, 45)] [.ref 0, .int u0, .ref 102] b Y M 0 (ju Y.1 0 v.toInt64, Y.2) M1 := by
  refine ConH.of (by decide +kernel) (Nat.le_of_ble_eq_true rfl) rfl fun p l e s m args below meth c D tyc A ad0 x hr htab hname => ?_
  change JJ _ _ _ _ _ _ _ _ _ _ _ _ _ _ _ _ _ 0 [some (.ref 0), some (.int u0), some (.ref 102), none] [] _ 0 0
  refine j_aload_n x dL_clashes_0 rfl ?_
  refine j_iconst (v := 0) x dL_clashes_1 (by decide) ?_
  refine j_aload_n x dL_clashes_2 rfl ?_
  refine j_iload_n x dL_clashes_3 rfl ?_
  refine j2_callVi x hb dL_clashes_4 m_X5_clashes hcon wmL_66 jc_9 rfl rfl rfl (Nat.le_of_ble_eq_true rfl) (j_fit_rm (by omega) (by omega) (by omega)) rfl ?_
  refine j_i2l x dL_clashes_7 ?_
  refine j2_last x hb dL_clashes_8 ?_
  refine j_goto (tgt := 15) x dL_clashes_9 (by decide) ?_
  refine j_iconst (v := 0) x dL_clashes_15 (by decide) ?_
  exact j_ireturn x hr dL_clashes_16 (by omega) (by omega) ⟨rfl, rfl⟩
theorem H_clashes_t1 {d mc ms : Nat} {b : SBt} {Y : OUt} {M M1 : MM} (hb : 104 ≤ b.2.1) {u0 : Int32} (hcon : CM d mc ms yX5_clashes cX5_clashes 2 (some .int) [.ref 0, .int u0] b Y M (.inr "java/lang/IndexOutOfBoundsException") M1) : CMH (d + 1) mc ms yL_clashes cL_clashes 4 (some .int) [(0, 9, 12, 45)] [.ref 0, .int u0, .ref 102] b Y M 1 Y M1 := by
  refine ConH.of (by decide +kernel) (Nat.le_of_ble_eq_true rfl) rfl fun p l e s m args below meth c D tyc A ad0 x hr htab hname => ?_
  change JJ _ _ _ _ _ _ _ _ _ _ _ _ _ _ _ _ _ 0 [some (.ref 0), some (.int u0), some (.ref 102), none] [] _ 0 0
  refine j_aload_n x dL_clashes_0 rfl ?_
  refine j_iconst (v := 0) x dL_clashes_1 (by decide) ?_
  refine j_aload_n x dL_clashes_2 rfl ?_
  refine j_iload_n x dL_clashes_3 rfl ?_
  refine j2_callC x hb dL_clashes_4 m_X5_clashes hcon wmL_66 jc_9 rfl rfl rfl (Nat.le_of_ble_eq_true rfl) (j_fit_rm (by omega) (by omega) (by omega)) rfl [] ⟨0, 9, 12, 45⟩ [] htab (fun w hw => by cases hw) (by decide) (by decide) wcL_45 wx_IndexOutOfBoundsException rfl (fun a => ?_)
  refine j_astore_nR x dL_clashes_12 (by decide) rfl ?_
  refine j_iconst (v := 1) x dL_clashes_13 (by decide) ?_
  exact j_ireturn x hr dL_clashes_14 (by omega) (by omega) ⟨rfl, rfl⟩
theorem H_freeWeek_r {d mc ms : Nat} {b : SBt} {Y : OUt} {M M1 : MM} (hb : 104 ≤ b.2.1) {u0 : Int32} {v : Int32} (hcon : CM d mc ms yX5_freeWeek cX5_freeWeek 3 (some .int) [.ref 0, .int u0] b Y M (.inl (some (.int v))) M1) : CMH (d + 1) mc ms yL_freeWeek cL_freeWeek 4 (some .int) [(0, 9, 12, 45), (0, 9, 15, 58)] [.ref 0, .int u0, .ref 102] b Y M 0 (ju Y.1 0 v.toInt64, Y.2) M1 := by
  refine ConH.of (by decide +kernel) (Nat.le_of_ble_eq_true rfl) rfl fun p l e s m args below meth c D tyc A ad0 x hr htab hname => ?_
  change JJ _ _ _ _ _ _ _ _ _ _ _ _ _ _ _ _ _ 0 [some (.ref 0), some (.int u0), some (.ref 102), none] [] _ 0 0
  refine j_aload_n x dL_freeWeek_0 rfl ?_
  refine j_iconst (v := 0) x dL_freeWeek_1 (by decide) ?_
  refine j_aload_n x dL_freeWeek_2 rfl ?_
  refine j_iload_n x dL_freeWeek_3 rfl ?_
  refine j2_callVi x hb dL_freeWeek_4 m_X5_freeWeek hcon wmL_69 jc_9 rfl rfl rfl (Nat.le_of_ble_eq_true rfl) (j_fit_rm (by omega) (by omega) (by omega)) rfl ?_
  refine j_i2l x dL_freeWeek_7 ?_
  refine j2_last x hb dL_freeWeek_8 ?_
  refine j_goto (tgt := 18) x dL_freeWeek_9 (by decide) ?_
  refine j_iconst (v := 0) x dL_freeWeek_18 (by decide) ?_
  exact j_ireturn x hr dL_freeWeek_19 (by omega) (by omega) ⟨rfl, rfl⟩
theorem H_freeWeek_t1 {d mc ms : Nat} {b : SBt} {Y : OUt} {M M1 : MM} (hb : 104 ≤ b.2.1) {u0 : Int32} (hcon : CM d mc ms yX5_freeWeek cX5_freeWeek 3 (some .int) [.ref 0, .int u0] b Y M (.inr "java/lang/IndexOutOfBoundsException") M1) : CMH (d + 1) mc ms yL_freeWeek cL_freeWeek 4 (some .int) [(0, 9, 12, 45), (0, 9, 15, 58)] [.ref 0, .int u0, .ref 102] b Y M 1 Y M1 := by
  refine ConH.of (by decide +kernel) (Nat.le_of_ble_eq_true rfl) rfl fun p l e s m args below meth c D tyc A ad0 x hr htab hname => ?_
  change JJ _ _ _ _ _ _ _ _ _ _ _ _ _ _ _ _ _ 0 [some (.ref 0), some (.int u0), some (.ref 102), none] [] _ 0 0
  refine j_aload_n x dL_freeWeek_0 rfl ?_
  refine j_iconst (v := 0) x dL_freeWeek_1 (by decide) ?_
  refine j_aload_n x dL_freeWeek_2 rfl ?_
  refine j_iload_n x dL_freeWeek_3 rfl ?_
  refine j2_callC x hb dL_freeWeek_4 m_X5_freeWeek hcon wmL_69 jc_9 rfl rfl rfl (Nat.le_of_ble_eq_true rfl) (j_fit_rm (by omega) (by omega) (by omega)) rfl [] ⟨0, 9, 12, 45⟩ [⟨0, 9, 15, 58⟩] htab (fun w hw => by cases hw) (by decide) (by decide) wcL_45 wx_IndexOutOfBoundsException rfl (fun a => ?_)
  refine j_astore_nR x dL_freeWeek_12 (by decide) rfl ?_
  refine j_iconst (v := 1) x dL_freeWeek_13 (by decide) ?_
  exact j_ireturn x hr dL_freeWeek_14 (by omega) (by omega) ⟨rfl, rfl⟩
theorem H_freeWeek_t2 {d mc ms : Nat} {b : SBt} {Y : OUt} {M M1 : MM} (hb : 104 ≤ b.2.1) {u0 : Int32} (hcon : CM d mc ms yX5_freeWeek cX5_freeWeek 3 (some .int) [.ref 0, .int u0] b Y M (.inr "java/util/NoSuchElementException") M1) : CMH (d + 1) mc ms yL_freeWeek cL_freeWeek 4 (some .int) [(0, 9, 12, 45), (0, 9, 15, 58)] [.ref 0, .int u0, .ref 102] b Y M 2 Y M1 := by
  refine ConH.of (by decide +kernel) (Nat.le_of_ble_eq_true rfl) rfl fun p l e s m args below meth c D tyc A ad0 x hr htab hname => ?_
  change JJ _ _ _ _ _ _ _ _ _ _ _ _ _ _ _ _ _ 0 [some (.ref 0), some (.int u0), some (.ref 102), none] [] _ 0 0
  refine j_aload_n x dL_freeWeek_0 rfl ?_
  refine j_iconst (v := 0) x dL_freeWeek_1 (by decide) ?_
  refine j_aload_n x dL_freeWeek_2 rfl ?_
  refine j_iload_n x dL_freeWeek_3 rfl ?_
  refine j2_callC x hb dL_freeWeek_4 m_X5_freeWeek hcon wmL_69 jc_9 rfl rfl rfl (Nat.le_of_ble_eq_true rfl) (j_fit_rm (by omega) (by omega) (by omega)) rfl [⟨0, 9, 12, 45⟩] ⟨0, 9, 15, 58⟩ [] htab (fun w hw => by rcases List.mem_cons.mp hw with rfl | hw <;> first | exact Or.inr ⟨by decide, _, wcL_45, by decide +kernel⟩ | cases hw) (by decide) (by decide) wcL_58 wx_NoSuchElementException rfl (fun a => ?_)
  refine j_astore_nR x dL_freeWeek_15 (by decide) rfl ?_
  refine j_iconst (v := 2) x dL_freeWeek_16 (by decide) ?_
  exact j_ireturn x hr dL_freeWeek_17 (by omega) (by omega) ⟨rfl, rfl⟩
theorem H_ranked_r {d mc ms : Nat} {b : SBt} {Y : OUt} {M M1 : MM} (hb : 104 ≤ b.2.1) {u0 : Int32} {v : Int32} (hcon : CM d mc ms yX5_ranked cX5_ranked 2 (some .int) [.ref 0, .int u0] b Y M (.inl (some (.int v))) M1) : CMH (d + 1) mc ms yL_ranked cL_ranked 4 (some .int) [(0, 9, 12, 58)] [.ref 0, .int u0, .ref 102] b Y M 0 (ju Y.1 0 v.toInt64, Y.2) M1 := by
  refine ConH.of (by decide +kernel) (Nat.le_of_ble_eq_true rfl) rfl fun p l e s m args below meth c D tyc A ad0 x hr htab hname => ?_
  change JJ _ _ _ _ _ _ _ _ _ _ _ _ _ _ _ _ _ 0 [some (.ref 0), some (.int u0), some (.ref 102), none] [] _ 0 0
  refine j_aload_n x dL_ranked_0 rfl ?_
  refine j_iconst (v := 0) x dL_ranked_1 (by decide) ?_
  refine j_aload_n x dL_ranked_2 rfl ?_
  refine j_iload_n x dL_ranked_3 rfl ?_
  refine j2_callVi x hb dL_ranked_4 m_X5_ranked hcon wmL_72 jc_9 rfl rfl rfl (Nat.le_of_ble_eq_true rfl) (j_fit_rm (by omega) (by omega) (by omega)) rfl ?_
  refine j_i2l x dL_ranked_7 ?_
  refine j2_last x hb dL_ranked_8 ?_
  refine j_goto (tgt := 15) x dL_ranked_9 (by decide) ?_
  refine j_iconst (v := 0) x dL_ranked_15 (by decide) ?_
  exact j_ireturn x hr dL_ranked_16 (by omega) (by omega) ⟨rfl, rfl⟩
theorem H_ranked_t1 {d mc ms : Nat} {b : SBt} {Y : OUt} {M M1 : MM} (hb : 104 ≤ b.2.1) {u0 : Int32} (hcon : CM d mc ms yX5_ranked cX5_ranked 2 (some .int) [.ref 0, .int u0] b Y M (.inr "java/util/NoSuchElementException") M1) : CMH (d + 1) mc ms yL_ranked cL_ranked 4 (some .int) [(0, 9, 12, 58)] [.ref 0, .int u0, .ref 102] b Y M 1 Y M1 := by
  refine ConH.of (by decide +kernel) (Nat.le_of_ble_eq_true rfl) rfl fun p l e s m args below meth c D tyc A ad0 x hr htab hname => ?_
  change JJ _ _ _ _ _ _ _ _ _ _ _ _ _ _ _ _ _ 0 [some (.ref 0), some (.int u0), some (.ref 102), none] [] _ 0 0
  refine j_aload_n x dL_ranked_0 rfl ?_
  refine j_iconst (v := 0) x dL_ranked_1 (by decide) ?_
  refine j_aload_n x dL_ranked_2 rfl ?_
  refine j_iload_n x dL_ranked_3 rfl ?_
  refine j2_callC x hb dL_ranked_4 m_X5_ranked hcon wmL_72 jc_9 rfl rfl rfl (Nat.le_of_ble_eq_true rfl) (j_fit_rm (by omega) (by omega) (by omega)) rfl [] ⟨0, 9, 12, 58⟩ [] htab (fun w hw => by cases hw) (by decide) (by decide) wcL_58 wx_NoSuchElementException rfl (fun a => ?_)
  refine j_astore_nR x dL_ranked_12 (by decide) rfl ?_
  refine j_iconst (v := 1) x dL_ranked_13 (by decide) ?_
  exact j_ireturn x hr dL_ranked_14 (by omega) (by omega) ⟨rfl, rfl⟩
theorem H_placeOf_r {d mc ms : Nat} {b : SBt} {Y : OUt} {M M1 : MM} (hb : 104 ≤ b.2.1) {u0 : Int32} {v : Int32} (hcon : CM d mc ms yX5_placeOf cX5_placeOf 4 (some .int) [.ref 0, .int u0] b Y M (.inl (some (.int v))) M1) : CMH (d + 1) mc ms yL_placeOf cL_placeOf 4 (some .int) [(0, 9, 12, 45)] [.ref 0, .int u0, .ref 102] b Y M 0 (ju Y.1 0 v.toInt64, Y.2) M1 := by
  refine ConH.of (by decide +kernel) (Nat.le_of_ble_eq_true rfl) rfl fun p l e s m args below meth c D tyc A ad0 x hr htab hname => ?_
  change JJ _ _ _ _ _ _ _ _ _ _ _ _ _ _ _ _ _ 0 [some (.ref 0), some (.int u0), some (.ref 102), none] [] _ 0 0
  refine j_aload_n x dL_placeOf_0 rfl ?_
  refine j_iconst (v := 0) x dL_placeOf_1 (by decide) ?_
  refine j_aload_n x dL_placeOf_2 rfl ?_
  refine j_iload_n x dL_placeOf_3 rfl ?_
  refine j2_callVi x hb dL_placeOf_4 m_X5_placeOf hcon wmL_75 jc_9 rfl rfl rfl (Nat.le_of_ble_eq_true rfl) (j_fit_rm (by omega) (by omega) (by omega)) rfl ?_
  refine j_i2l x dL_placeOf_7 ?_
  refine j2_last x hb dL_placeOf_8 ?_
  refine j_goto (tgt := 15) x dL_placeOf_9 (by decide) ?_
  refine j_iconst (v := 0) x dL_placeOf_15 (by decide) ?_
  exact j_ireturn x hr dL_placeOf_16 (by omega) (by omega) ⟨rfl, rfl⟩
theorem H_placeOf_t1 {d mc ms : Nat} {b : SBt} {Y : OUt} {M M1 : MM} (hb : 104 ≤ b.2.1) {u0 : Int32} (hcon : CM d mc ms yX5_placeOf cX5_placeOf 4 (some .int) [.ref 0, .int u0] b Y M (.inr "java/lang/IndexOutOfBoundsException") M1) : CMH (d + 1) mc ms yL_placeOf cL_placeOf 4 (some .int) [(0, 9, 12, 45)] [.ref 0, .int u0, .ref 102] b Y M 1 Y M1 := by
  refine ConH.of (by decide +kernel) (Nat.le_of_ble_eq_true rfl) rfl fun p l e s m args below meth c D tyc A ad0 x hr htab hname => ?_
  change JJ _ _ _ _ _ _ _ _ _ _ _ _ _ _ _ _ _ 0 [some (.ref 0), some (.int u0), some (.ref 102), none] [] _ 0 0
  refine j_aload_n x dL_placeOf_0 rfl ?_
  refine j_iconst (v := 0) x dL_placeOf_1 (by decide) ?_
  refine j_aload_n x dL_placeOf_2 rfl ?_
  refine j_iload_n x dL_placeOf_3 rfl ?_
  refine j2_callC x hb dL_placeOf_4 m_X5_placeOf hcon wmL_75 jc_9 rfl rfl rfl (Nat.le_of_ble_eq_true rfl) (j_fit_rm (by omega) (by omega) (by omega)) rfl [] ⟨0, 9, 12, 45⟩ [] htab (fun w hw => by cases hw) (by decide) (by decide) wcL_45 wx_IndexOutOfBoundsException rfl (fun a => ?_)
  refine j_astore_nR x dL_placeOf_12 (by decide) rfl ?_
  refine j_iconst (v := 1) x dL_placeOf_13 (by decide) ?_
  exact j_ireturn x hr dL_placeOf_14 (by omega) (by omega) ⟨rfl, rfl⟩
theorem H_valueOf_r {d mc ms : Nat} {b : SBt} {Y : OUt} {M M1 : MM} (hb : 104 ≤ b.2.1) {u0 u1 : Int32} {v : Int32} (hcon : CM d mc ms yX5_valueOf cX5_valueOf 3 (some .int) [.ref 0, .int u0, .int u1] b Y M (.inl (some (.int v))) M1) : CMH (d + 1) mc ms yL_valueOf cL_valueOf 5 (some .int) [(0, 10, 13, 45), (0, 10, 17, 47)] [.ref 0, .int u0, .int u1, .ref 102] b Y M 0 (ju Y.1 0 v.toInt64, Y.2) M1 := by
  refine ConH.of (by decide +kernel) (Nat.le_of_ble_eq_true rfl) rfl fun p l e s m args below meth c D tyc A ad0 x hr htab hname => ?_
  change JJ _ _ _ _ _ _ _ _ _ _ _ _ _ _ _ _ _ 0 [some (.ref 0), some (.int u0), some (.int u1), some (.ref 102), none] [] _ 0 0
  refine j_aload_n x dL_valueOf_0 rfl ?_
  refine j_iconst (v := 0) x dL_valueOf_1 (by decide) ?_
  refine j_aload_n x dL_valueOf_2 rfl ?_
  refine j_iload_n x dL_valueOf_3 rfl ?_
  refine j_iload_n x dL_valueOf_4 rfl ?_
  refine j2_callVi x hb dL_valueOf_5 m_X5_valueOf hcon wmL_78 jc_9 rfl rfl rfl (Nat.le_of_ble_eq_true rfl) (j_fit_rm (by omega) (by omega) (by omega)) rfl ?_
  refine j_i2l x dL_valueOf_8 ?_
  refine j2_last x hb dL_valueOf_9 ?_
  refine j_goto (tgt := 21) x dL_valueOf_10 (by decide) ?_
  refine j_iconst (v := 0) x dL_valueOf_21 (by decide) ?_
  exact j_ireturn x hr dL_valueOf_22 (by omega) (by omega) ⟨rfl, rfl⟩
theorem H_valueOf_t1 {d mc ms : Nat} {b : SBt} {Y : OUt} {M M1 : MM} (hb : 104 ≤ b.2.1) {u0 u1 : Int32} (hcon : CM d mc ms yX5_valueOf cX5_valueOf 3 (some .int) [.ref 0, .int u0, .int u1] b Y M (.inr "java/lang/IndexOutOfBoundsException") M1) : CMH (d + 1) mc ms yL_valueOf cL_valueOf 5 (some .int) [(0, 10, 13, 45), (0, 10, 17, 47)] [.ref 0, .int u0, .int u1, .ref 102] b Y M 1 Y M1 := by
  refine ConH.of (by decide +kernel) (Nat.le_of_ble_eq_true rfl) rfl fun p l e s m args below meth c D tyc A ad0 x hr htab hname => ?_
  change JJ _ _ _ _ _ _ _ _ _ _ _ _ _ _ _ _ _ 0 [some (.ref 0), some (.int u0), some (.int u1), some (.ref 102), none] [] _ 0 0
  refine j_aload_n x dL_valueOf_0 rfl ?_
  refine j_iconst (v := 0) x dL_valueOf_1 (by decide) ?_
  refine j_aload_n x dL_valueOf_2 rfl ?_
  refine j_iload_n x dL_valueOf_3 rfl ?_
  refine j_iload_n x dL_valueOf_4 rfl ?_
  refine j2_callC x hb dL_valueOf_5 m_X5_valueOf hcon wmL_78 jc_9 rfl rfl rfl (Nat.le_of_ble_eq_true rfl) (j_fit_rm (by omega) (by omega) (by omega)) rfl [] ⟨0, 10, 13, 45⟩ [⟨0, 10, 17, 47⟩] htab (fun w hw => by cases hw) (by decide) (by decide) wcL_45 wx_IndexOutOfBoundsException rfl (fun a => ?_)
  refine j_astoreR x dL_valueOf_13 (by decide) rfl ?_
  refine j_iconst (v := 1) x dL_valueOf_15 (by decide) ?_
  exact j_ireturn x hr dL_valueOf_16 (by omega) (by omega) ⟨rfl, rfl⟩
theorem H_valueOf_t2 {d mc ms : Nat} {b : SBt} {Y : OUt} {M M1 : MM} (hb : 104 ≤ b.2.1) {u0 u1 : Int32} (hcon : CM d mc ms yX5_valueOf cX5_valueOf 3 (some .int) [.ref 0, .int u0, .int u1] b Y M (.inr "java/lang/IllegalArgumentException") M1) : CMH (d + 1) mc ms yL_valueOf cL_valueOf 5 (some .int) [(0, 10, 13, 45), (0, 10, 17, 47)] [.ref 0, .int u0, .int u1, .ref 102] b Y M 2 Y M1 := by
  refine ConH.of (by decide +kernel) (Nat.le_of_ble_eq_true rfl) rfl fun p l e s m args below meth c D tyc A ad0 x hr htab hname => ?_
  change JJ _ _ _ _ _ _ _ _ _ _ _ _ _ _ _ _ _ 0 [some (.ref 0), some (.int u0), some (.int u1), some (.ref 102), none] [] _ 0 0
  refine j_aload_n x dL_valueOf_0 rfl ?_
  refine j_iconst (v := 0) x dL_valueOf_1 (by decide) ?_
  refine j_aload_n x dL_valueOf_2 rfl ?_
  refine j_iload_n x dL_valueOf_3 rfl ?_
  refine j_iload_n x dL_valueOf_4 rfl ?_
  refine j2_callC x hb dL_valueOf_5 m_X5_valueOf hcon wmL_78 jc_9 rfl rfl rfl (Nat.le_of_ble_eq_true rfl) (j_fit_rm (by omega) (by omega) (by omega)) rfl [⟨0, 10, 13, 45⟩] ⟨0, 10, 17, 47⟩ [] htab (fun w hw => by rcases List.mem_cons.mp hw with rfl | hw <;> first | exact Or.inr ⟨by decide, _, wcL_45, by decide +kernel⟩ | cases hw) (by decide) (by decide) wcL_47 wx_IllegalArgumentException rfl (fun a => ?_)
  refine j_astoreR x dL_valueOf_17 (by decide) rfl ?_
  refine j_iconst (v := 2) x dL_valueOf_19 (by decide) ?_
  exact j_ireturn x hr dL_valueOf_20 (by omega) (by omega) ⟨rfl, rfl⟩
theorem H_tied_r {d mc ms : Nat} {b : SBt} {Y : OUt} {M M1 : MM} (hb : 104 ≤ b.2.1) {u0 : Int32} {v : Int32} (hcon : CM d mc ms yX5_tied cX5_tied 4 (some .int) [.ref 0, .int u0] b Y M (.inl (some (.int v))) M1) : CMH (d + 1) mc ms yL_tied cL_tied 4 (some .int) [(0, 9, 12, 45)] [.ref 0, .int u0, .ref 102] b Y M 0 (ju Y.1 0 v.toInt64, Y.2) M1 := by
  refine ConH.of (by decide +kernel) (Nat.le_of_ble_eq_true rfl) rfl fun p l e s m args below meth c D tyc A ad0 x hr htab hname => ?_
  change JJ _ _ _ _ _ _ _ _ _ _ _ _ _ _ _ _ _ 0 [some (.ref 0), some (.int u0), some (.ref 102), none] [] _ 0 0
  refine j_aload_n x dL_tied_0 rfl ?_
  refine j_iconst (v := 0) x dL_tied_1 (by decide) ?_
  refine j_aload_n x dL_tied_2 rfl ?_
  refine j_iload_n x dL_tied_3 rfl ?_
  refine j2_callVi x hb dL_tied_4 m_X5_tied hcon wmL_81 jc_9 rfl rfl rfl (Nat.le_of_ble_eq_true rfl) (j_fit_rm (by omega) (by omega) (by omega)) rfl ?_
  refine j_i2l x dL_tied_7 ?_
  refine j2_last x hb dL_tied_8 ?_
  refine j_goto (tgt := 15) x dL_tied_9 (by decide) ?_
  refine j_iconst (v := 0) x dL_tied_15 (by decide) ?_
  exact j_ireturn x hr dL_tied_16 (by omega) (by omega) ⟨rfl, rfl⟩
theorem H_tied_t1 {d mc ms : Nat} {b : SBt} {Y : OUt} {M M1 : MM} (hb : 104 ≤ b.2.1) {u0 : Int32} (hcon : CM d mc ms yX5_tied cX5_tied 4 (some .int) [.ref 0, .int u0] b Y M (.inr "java/lang/IndexOutOfBoundsException") M1) : CMH (d + 1) mc ms yL_tied cL_tied 4 (some .int) [(0, 9, 12, 45)] [.ref 0, .int u0, .ref 102] b Y M 1 Y M1 := by
  refine ConH.of (by decide +kernel) (Nat.le_of_ble_eq_true rfl) rfl fun p l e s m args below meth c D tyc A ad0 x hr htab hname => ?_
  change JJ _ _ _ _ _ _ _ _ _ _ _ _ _ _ _ _ _ 0 [some (.ref 0), some (.int u0), some (.ref 102), none] [] _ 0 0
  refine j_aload_n x dL_tied_0 rfl ?_
  refine j_iconst (v := 0) x dL_tied_1 (by decide) ?_
  refine j_aload_n x dL_tied_2 rfl ?_
  refine j_iload_n x dL_tied_3 rfl ?_
  refine j2_callC x hb dL_tied_4 m_X5_tied hcon wmL_81 jc_9 rfl rfl rfl (Nat.le_of_ble_eq_true rfl) (j_fit_rm (by omega) (by omega) (by omega)) rfl [] ⟨0, 9, 12, 45⟩ [] htab (fun w hw => by cases hw) (by decide) (by decide) wcL_45 wx_IndexOutOfBoundsException rfl (fun a => ?_)
  refine j_astore_nR x dL_tied_12 (by decide) rfl ?_
  refine j_iconst (v := 1) x dL_tied_13 (by decide) ?_
  exact j_ireturn x hr dL_tied_14 (by omega) (by omega) ⟨rfl, rfl⟩
theorem H_most_r {d mc ms : Nat} {b : SBt} {Y : OUt} {M M1 : MM} (hb : 104 ≤ b.2.1) {u0 : Int32} {v : Int32} (hcon : CM d mc ms yX5_most cX5_most 2 (some .int) [.ref 0, .int u0] b Y M (.inl (some (.int v))) M1) : CMH (d + 1) mc ms yL_most cL_most 4 (some .int) [(0, 9, 12, 45)] [.ref 0, .int u0, .ref 102] b Y M 0 (ju Y.1 0 v.toInt64, Y.2) M1 := by
  refine ConH.of (by decide +kernel) (Nat.le_of_ble_eq_true rfl) rfl fun p l e s m args below meth c D tyc A ad0 x hr htab hname => ?_
  change JJ _ _ _ _ _ _ _ _ _ _ _ _ _ _ _ _ _ 0 [some (.ref 0), some (.int u0), some (.ref 102), none] [] _ 0 0
  refine j_aload_n x dL_most_0 rfl ?_
  refine j_iconst (v := 0) x dL_most_1 (by decide) ?_
  refine j_aload_n x dL_most_2 rfl ?_
  refine j_iload_n x dL_most_3 rfl ?_
  refine j2_callVi x hb dL_most_4 m_X5_most hcon wmL_84 jc_9 rfl rfl rfl (Nat.le_of_ble_eq_true rfl) (j_fit_rm (by omega) (by omega) (by omega)) rfl ?_
  refine j_i2l x dL_most_7 ?_
  refine j2_last x hb dL_most_8 ?_
  refine j_goto (tgt := 15) x dL_most_9 (by decide) ?_
  refine j_iconst (v := 0) x dL_most_15 (by decide) ?_
  exact j_ireturn x hr dL_most_16 (by omega) (by omega) ⟨rfl, rfl⟩
theorem H_most_t1 {d mc ms : Nat} {b : SBt} {Y : OUt} {M M1 : MM} (hb : 104 ≤ b.2.1) {u0 : Int32} (hcon : CM d mc ms yX5_most cX5_most 2 (some .int) [.ref 0, .int u0] b Y M (.inr "java/lang/IndexOutOfBoundsException") M1) : CMH (d + 1) mc ms yL_most cL_most 4 (some .int) [(0, 9, 12, 45)] [.ref 0, .int u0, .ref 102] b Y M 1 Y M1 := by
  refine ConH.of (by decide +kernel) (Nat.le_of_ble_eq_true rfl) rfl fun p l e s m args below meth c D tyc A ad0 x hr htab hname => ?_
  change JJ _ _ _ _ _ _ _ _ _ _ _ _ _ _ _ _ _ 0 [some (.ref 0), some (.int u0), some (.ref 102), none] [] _ 0 0
  refine j_aload_n x dL_most_0 rfl ?_
  refine j_iconst (v := 0) x dL_most_1 (by decide) ?_
  refine j_aload_n x dL_most_2 rfl ?_
  refine j_iload_n x dL_most_3 rfl ?_
  refine j2_callC x hb dL_most_4 m_X5_most hcon wmL_84 jc_9 rfl rfl rfl (Nat.le_of_ble_eq_true rfl) (j_fit_rm (by omega) (by omega) (by omega)) rfl [] ⟨0, 9, 12, 45⟩ [] htab (fun w hw => by cases hw) (by decide) (by decide) wcL_45 wx_IndexOutOfBoundsException rfl (fun a => ?_)
  refine j_astore_nR x dL_most_12 (by decide) rfl ?_
  refine j_iconst (v := 1) x dL_most_13 (by decide) ?_
  exact j_ireturn x hr dL_most_14 (by omega) (by omega) ⟨rfl, rfl⟩
theorem H_isSafe_r {d mc ms : Nat} {b : SBt} {Y : OUt} {M M1 : MM} (hb : 104 ≤ b.2.1) {u0 : Int32} {v : Int32} (hcon : CM d mc ms yX5_isSafe cX5_isSafe 2 (some .boolean) [.ref 0, .int u0] b Y M (.inl (some (.int v))) M1) : CMH (d + 1) mc ms yL_isSafe cL_isSafe 4 (some .int) [(0, 16, 19, 45)] [.ref 0, .int u0, .ref 102] b Y M 0 (ju Y.1 0 (if v = 0 then 0 else 1), Y.2) M1 := by
  refine ConH.of (by decide +kernel) (Nat.le_of_ble_eq_true rfl) rfl fun p l e s m args below meth c D tyc A ad0 x hr htab hname => ?_
  change JJ _ _ _ _ _ _ _ _ _ _ _ _ _ _ _ _ _ 0 [some (.ref 0), some (.int u0), some (.ref 102), none] [] _ 0 0
  refine j_aload_n x dL_isSafe_0 rfl ?_
  refine j_iconst (v := 0) x dL_isSafe_1 (by decide) ?_
  refine j_aload_n x dL_isSafe_2 rfl ?_
  refine j_iload_n x dL_isSafe_3 rfl ?_
  refine j2_callVi x hb dL_isSafe_4 m_X5_isSafe hcon wmL_87 jc_9 rfl rfl rfl (Nat.le_of_ble_eq_true rfl) (j_fit_rm (by omega) (by omega) (by omega)) rfl ?_
  refine j_if_eq (tgt := 14) x dL_isSafe_7 (by decide) (fun hv => ?_) (fun hv => ?_)
  · refine j_lconst (v := 0) x dL_isSafe_14 (by decide) ?_
    refine j2_last x hb dL_isSafe_15 ?_
    refine j_goto (tgt := 22) x dL_isSafe_16 (by decide) ?_
    refine j_iconst (v := 0) x dL_isSafe_22 (by decide) ?_
    exact j_ireturn x hr dL_isSafe_23 (by omega) (by omega) ⟨rfl, by rw [if_pos hv]⟩
  · refine j_lconst (v := 1) x dL_isSafe_10 (by decide) ?_
    refine j_goto (tgt := 15) x dL_isSafe_11 (by decide) ?_
    refine j2_last x hb dL_isSafe_15 ?_
    refine j_goto (tgt := 22) x dL_isSafe_16 (by decide) ?_
    refine j_iconst (v := 0) x dL_isSafe_22 (by decide) ?_
    exact j_ireturn x hr dL_isSafe_23 (by omega) (by omega) ⟨rfl, by rw [if_neg hv]⟩
theorem H_isSafe_t1 {d mc ms : Nat} {b : SBt} {Y : OUt} {M M1 : MM} (hb : 104 ≤ b.2.1) {u0 : Int32} (hcon : CM d mc ms yX5_isSafe cX5_isSafe 2 (some .boolean) [.ref 0, .int u0] b Y M (.inr "java/lang/IndexOutOfBoundsException") M1) : CMH (d + 1) mc ms yL_isSafe cL_isSafe 4 (some .int) [(0, 16, 19, 45)] [.ref 0, .int u0, .ref 102] b Y M 1 Y M1 := by
  refine ConH.of (by decide +kernel) (Nat.le_of_ble_eq_true rfl) rfl fun p l e s m args below meth c D tyc A ad0 x hr htab hname => ?_
  change JJ _ _ _ _ _ _ _ _ _ _ _ _ _ _ _ _ _ 0 [some (.ref 0), some (.int u0), some (.ref 102), none] [] _ 0 0
  refine j_aload_n x dL_isSafe_0 rfl ?_
  refine j_iconst (v := 0) x dL_isSafe_1 (by decide) ?_
  refine j_aload_n x dL_isSafe_2 rfl ?_
  refine j_iload_n x dL_isSafe_3 rfl ?_
  refine j2_callC x hb dL_isSafe_4 m_X5_isSafe hcon wmL_87 jc_9 rfl rfl rfl (Nat.le_of_ble_eq_true rfl) (j_fit_rm (by omega) (by omega) (by omega)) rfl [] ⟨0, 16, 19, 45⟩ [] htab (fun w hw => by cases hw) (by decide) (by decide) wcL_45 wx_IndexOutOfBoundsException rfl (fun a => ?_)
  refine j_astore_nR x dL_isSafe_19 (by decide) rfl ?_
  refine j_iconst (v := 1) x dL_isSafe_20 (by decide) ?_
  exact j_ireturn x hr dL_isSafe_21 (by omega) (by omega) ⟨rfl, rfl⟩
theorem H_isOut_r {d mc ms : Nat} {b : SBt} {Y : OUt} {M M1 : MM} (hb : 104 ≤ b.2.1) {u0 : Int32} {v : Int32} (hcon : CM d mc ms yX5_isOut cX5_isOut 2 (some .boolean) [.ref 0, .int u0] b Y M (.inl (some (.int v))) M1) : CMH (d + 1) mc ms yL_isOut cL_isOut 4 (some .int) [(0, 16, 19, 45)] [.ref 0, .int u0, .ref 102] b Y M 0 (ju Y.1 0 (if v = 0 then 0 else 1), Y.2) M1 := by
  refine ConH.of (by decide +kernel) (Nat.le_of_ble_eq_true rfl) rfl fun p l e s m args below meth c D tyc A ad0 x hr htab hname => ?_
  change JJ _ _ _ _ _ _ _ _ _ _ _ _ _ _ _ _ _ 0 [some (.ref 0), some (.int u0), some (.ref 102), none] [] _ 0 0
  refine j_aload_n x dL_isOut_0 rfl ?_
  refine j_iconst (v := 0) x dL_isOut_1 (by decide) ?_
  refine j_aload_n x dL_isOut_2 rfl ?_
  refine j_iload_n x dL_isOut_3 rfl ?_
  refine j2_callVi x hb dL_isOut_4 m_X5_isOut hcon wmL_91 jc_9 rfl rfl rfl (Nat.le_of_ble_eq_true rfl) (j_fit_rm (by omega) (by omega) (by omega)) rfl ?_
  refine j_if_eq (tgt := 14) x dL_isOut_7 (by decide) (fun hv => ?_) (fun hv => ?_)
  · refine j_lconst (v := 0) x dL_isOut_14 (by decide) ?_
    refine j2_last x hb dL_isOut_15 ?_
    refine j_goto (tgt := 22) x dL_isOut_16 (by decide) ?_
    refine j_iconst (v := 0) x dL_isOut_22 (by decide) ?_
    exact j_ireturn x hr dL_isOut_23 (by omega) (by omega) ⟨rfl, by rw [if_pos hv]⟩
  · refine j_lconst (v := 1) x dL_isOut_10 (by decide) ?_
    refine j_goto (tgt := 15) x dL_isOut_11 (by decide) ?_
    refine j2_last x hb dL_isOut_15 ?_
    refine j_goto (tgt := 22) x dL_isOut_16 (by decide) ?_
    refine j_iconst (v := 0) x dL_isOut_22 (by decide) ?_
    exact j_ireturn x hr dL_isOut_23 (by omega) (by omega) ⟨rfl, by rw [if_neg hv]⟩
theorem H_isOut_t1 {d mc ms : Nat} {b : SBt} {Y : OUt} {M M1 : MM} (hb : 104 ≤ b.2.1) {u0 : Int32} (hcon : CM d mc ms yX5_isOut cX5_isOut 2 (some .boolean) [.ref 0, .int u0] b Y M (.inr "java/lang/IndexOutOfBoundsException") M1) : CMH (d + 1) mc ms yL_isOut cL_isOut 4 (some .int) [(0, 16, 19, 45)] [.ref 0, .int u0, .ref 102] b Y M 1 Y M1 := by
  refine ConH.of (by decide +kernel) (Nat.le_of_ble_eq_true rfl) rfl fun p l e s m args below meth c D tyc A ad0 x hr htab hname => ?_
  change JJ _ _ _ _ _ _ _ _ _ _ _ _ _ _ _ _ _ 0 [some (.ref 0), some (.int u0), some (.ref 102), none] [] _ 0 0
  refine j_aload_n x dL_isOut_0 rfl ?_
  refine j_iconst (v := 0) x dL_isOut_1 (by decide) ?_
  refine j_aload_n x dL_isOut_2 rfl ?_
  refine j_iload_n x dL_isOut_3 rfl ?_
  refine j2_callC x hb dL_isOut_4 m_X5_isOut hcon wmL_91 jc_9 rfl rfl rfl (Nat.le_of_ble_eq_true rfl) (j_fit_rm (by omega) (by omega) (by omega)) rfl [] ⟨0, 16, 19, 45⟩ [] htab (fun w hw => by cases hw) (by decide) (by decide) wcL_45 wx_IndexOutOfBoundsException rfl (fun a => ?_)
  refine j_astore_nR x dL_isOut_19 (by decide) rfl ?_
  refine j_iconst (v := 1) x dL_isOut_20 (by decide) ?_
  exact j_ireturn x hr dL_isOut_21 (by omega) (by omega) ⟨rfl, rfl⟩
theorem H_run_r {d mc ms : Nat} {b : SBt} {Y : OUt} {M M1 : MM} (hb : 104 ≤ b.2.1) {u0 : Int32} {v : Int32} (hcon : CM d mc ms yX5_run cX5_run 5 (some .int) [.ref 0, .int u0] b Y M (.inl (some (.int v))) M1) : CMH (d + 1) mc ms yL_run cL_run 4 (some .int) [(0, 9, 12, 45)] [.ref 0, .int u0, .ref 102] b Y M 0 (ju Y.1 0 v.toInt64, Y.2) M1 := by
  refine ConH.of (by decide +kernel) (Nat.le_of_ble_eq_true rfl) rfl fun p l e s m args below meth c D tyc A ad0 x hr htab hname => ?_
  change JJ _ _ _ _ _ _ _ _ _ _ _ _ _ _ _ _ _ 0 [some (.ref 0), some (.int u0), some (.ref 102), none] [] _ 0 0
  refine j_aload_n x dL_run_0 rfl ?_
  refine j_iconst (v := 0) x dL_run_1 (by decide) ?_
  refine j_aload_n x dL_run_2 rfl ?_
  refine j_iload_n x dL_run_3 rfl ?_
  refine j2_callVi x hb dL_run_4 m_X5_run hcon wmL_94 jc_9 rfl rfl rfl (Nat.le_of_ble_eq_true rfl) (j_fit_rm (by omega) (by omega) (by omega)) rfl ?_
  refine j_i2l x dL_run_7 ?_
  refine j2_last x hb dL_run_8 ?_
  refine j_goto (tgt := 15) x dL_run_9 (by decide) ?_
  refine j_iconst (v := 0) x dL_run_15 (by decide) ?_
  exact j_ireturn x hr dL_run_16 (by omega) (by omega) ⟨rfl, rfl⟩
theorem H_run_t1 {d mc ms : Nat} {b : SBt} {Y : OUt} {M M1 : MM} (hb : 104 ≤ b.2.1) {u0 : Int32} (hcon : CM d mc ms yX5_run cX5_run 5 (some .int) [.ref 0, .int u0] b Y M (.inr "java/lang/IndexOutOfBoundsException") M1) : CMH (d + 1) mc ms yL_run cL_run 4 (some .int) [(0, 9, 12, 45)] [.ref 0, .int u0, .ref 102] b Y M 1 Y M1 := by
  refine ConH.of (by decide +kernel) (Nat.le_of_ble_eq_true rfl) rfl fun p l e s m args below meth c D tyc A ad0 x hr htab hname => ?_
  change JJ _ _ _ _ _ _ _ _ _ _ _ _ _ _ _ _ _ 0 [some (.ref 0), some (.int u0), some (.ref 102), none] [] _ 0 0
  refine j_aload_n x dL_run_0 rfl ?_
  refine j_iconst (v := 0) x dL_run_1 (by decide) ?_
  refine j_aload_n x dL_run_2 rfl ?_
  refine j_iload_n x dL_run_3 rfl ?_
  refine j2_callC x hb dL_run_4 m_X5_run hcon wmL_94 jc_9 rfl rfl rfl (Nat.le_of_ble_eq_true rfl) (j_fit_rm (by omega) (by omega) (by omega)) rfl [] ⟨0, 9, 12, 45⟩ [] htab (fun w hw => by cases hw) (by decide) (by decide) wcL_45 wx_IndexOutOfBoundsException rfl (fun a => ?_)
  refine j_astore_nR x dL_run_12 (by decide) rfl ?_
  refine j_iconst (v := 1) x dL_run_13 (by decide) ?_
  exact j_ireturn x hr dL_run_14 (by omega) (by omega) ⟨rfl, rfl⟩
theorem H_append_r {d mc ms : Nat} {b : SBt} {Y : OUt} {M M1 : MM} (hb : 104 ≤ b.2.1) {u0 : Int32} {v : Int32} (hcon : CM d mc ms yX5_append cX5_append 2 (some .int) [.ref 0, .int u0] b Y M (.inl (some (.int v))) M1) : CMH (d + 1) mc ms yL_append cL_append 4 (some .int) [(0, 9, 12, 101)] [.ref 0, .int u0, .ref 102] b Y M 0 (ju Y.1 0 v.toInt64, Y.2) M1 := by
  refine ConH.of (by decide +kernel) (Nat.le_of_ble_eq_true rfl) rfl fun p l e s m args below meth c D tyc A ad0 x hr htab hname => ?_
  change JJ _ _ _ _ _ _ _ _ _ _ _ _ _ _ _ _ _ 0 [some (.ref 0), some (.int u0), some (.ref 102), none] [] _ 0 0
  refine j_aload_n x dL_append_0 rfl ?_
  refine j_iconst (v := 0) x dL_append_1 (by decide) ?_
  refine j_aload_n x dL_append_2 rfl ?_
  refine j_iload_n x dL_append_3 rfl ?_
  refine j2_callVi x hb dL_append_4 m_X5_append hcon wmL_97 jc_9 rfl rfl rfl (Nat.le_of_ble_eq_true rfl) (j_fit_rm (by omega) (by omega) (by omega)) rfl ?_
  refine j_i2l x dL_append_7 ?_
  refine j2_last x hb dL_append_8 ?_
  refine j_goto (tgt := 15) x dL_append_9 (by decide) ?_
  refine j_iconst (v := 0) x dL_append_15 (by decide) ?_
  exact j_ireturn x hr dL_append_16 (by omega) (by omega) ⟨rfl, rfl⟩
theorem H_append_t1 {d mc ms : Nat} {b : SBt} {Y : OUt} {M M1 : MM} (hb : 104 ≤ b.2.1) {u0 : Int32} (hcon : CM d mc ms yX5_append cX5_append 2 (some .int) [.ref 0, .int u0] b Y M (.inr "java/lang/IllegalStateException") M1) : CMH (d + 1) mc ms yL_append cL_append 4 (some .int) [(0, 9, 12, 101)] [.ref 0, .int u0, .ref 102] b Y M 1 Y M1 := by
  refine ConH.of (by decide +kernel) (Nat.le_of_ble_eq_true rfl) rfl fun p l e s m args below meth c D tyc A ad0 x hr htab hname => ?_
  change JJ _ _ _ _ _ _ _ _ _ _ _ _ _ _ _ _ _ 0 [some (.ref 0), some (.int u0), some (.ref 102), none] [] _ 0 0
  refine j_aload_n x dL_append_0 rfl ?_
  refine j_iconst (v := 0) x dL_append_1 (by decide) ?_
  refine j_aload_n x dL_append_2 rfl ?_
  refine j_iload_n x dL_append_3 rfl ?_
  refine j2_callC x hb dL_append_4 m_X5_append hcon wmL_97 jc_9 rfl rfl rfl (Nat.le_of_ble_eq_true rfl) (j_fit_rm (by omega) (by omega) (by omega)) rfl [] ⟨0, 9, 12, 101⟩ [] htab (fun w hw => by cases hw) (by decide) (by decide) wcL_101 wx_IllegalStateException rfl (fun a => ?_)
  refine j_astore_nR x dL_append_12 (by decide) rfl ?_
  refine j_iconst (v := 1) x dL_append_13 (by decide) ?_
  exact j_ireturn x hr dL_append_14 (by omega) (by omega) ⟨rfl, rfl⟩
theorem H_commands_r {d mc ms : Nat} {b : SBt} {Y : OUt} {M M1 : MM} (hb : 104 ≤ b.2.1) {v : Int32} (hcon : CM d mc ms yX5_commands cX5_commands 2 (some .int) [.ref 0] b Y M (.inl (some (.int v))) M1) : CMH (d + 1) mc ms yL_commands cL_commands 3 (some .int) [(0, 8, 11, 47), (0, 8, 14, 13)] [.ref 0, .ref 102] b Y M 0 (ju Y.1 0 v.toInt64, Y.2) M1 := by
  refine ConH.of (by decide +kernel) (Nat.le_of_ble_eq_true rfl) rfl fun p l e s m args below meth c D tyc A ad0 x hr htab hname => ?_
  change JJ _ _ _ _ _ _ _ _ _ _ _ _ _ _ _ _ _ 0 [some (.ref 0), some (.ref 102), none] [] _ 0 0
  refine j_aload_n x dL_commands_0 rfl ?_
  refine j_iconst (v := 0) x dL_commands_1 (by decide) ?_
  refine j_aload_n x dL_commands_2 rfl ?_
  refine j2_callVi x hb dL_commands_3 m_X5_commands hcon wmL_103 jc_9 rfl rfl rfl (Nat.le_of_ble_eq_true rfl) (j_fit_rm (by omega) (by omega) (by omega)) rfl ?_
  refine j_i2l x dL_commands_6 ?_
  refine j2_last x hb dL_commands_7 ?_
  refine j_goto (tgt := 17) x dL_commands_8 (by decide) ?_
  refine j_iconst (v := 0) x dL_commands_17 (by decide) ?_
  exact j_ireturn x hr dL_commands_18 (by omega) (by omega) ⟨rfl, rfl⟩
theorem H_commands_t1 {d mc ms : Nat} {b : SBt} {Y : OUt} {M M1 : MM} (hb : 104 ≤ b.2.1) (hcon : CM d mc ms yX5_commands cX5_commands 2 (some .int) [.ref 0] b Y M (.inr "java/lang/IllegalArgumentException") M1) : CMH (d + 1) mc ms yL_commands cL_commands 3 (some .int) [(0, 8, 11, 47), (0, 8, 14, 13)] [.ref 0, .ref 102] b Y M 1 Y M1 := by
  refine ConH.of (by decide +kernel) (Nat.le_of_ble_eq_true rfl) rfl fun p l e s m args below meth c D tyc A ad0 x hr htab hname => ?_
  change JJ _ _ _ _ _ _ _ _ _ _ _ _ _ _ _ _ _ 0 [some (.ref 0), some (.ref 102), none] [] _ 0 0
  refine j_aload_n x dL_commands_0 rfl ?_
  refine j_iconst (v := 0) x dL_commands_1 (by decide) ?_
  refine j_aload_n x dL_commands_2 rfl ?_
  refine j2_callC x hb dL_commands_3 m_X5_commands hcon wmL_103 jc_9 rfl rfl rfl (Nat.le_of_ble_eq_true rfl) (j_fit_rm (by omega) (by omega) (by omega)) rfl [] ⟨0, 8, 11, 47⟩ [⟨0, 8, 14, 13⟩] htab (fun w hw => by cases hw) (by decide) (by decide) wcL_47 wx_IllegalArgumentException rfl (fun a => ?_)
  refine j_astore_nR x dL_commands_11 (by decide) rfl ?_
  refine j_iconst (v := 1) x dL_commands_12 (by decide) ?_
  exact j_ireturn x hr dL_commands_13 (by omega) (by omega) ⟨rfl, rfl⟩
theorem H_commands_t2 {d mc ms : Nat} {b : SBt} {Y : OUt} {M M1 : MM} (hb : 104 ≤ b.2.1) (hcon : CM d mc ms yX5_commands cX5_commands 2 (some .int) [.ref 0] b Y M (.inr "java/lang/UnsupportedOperationException") M1) : CMH (d + 1) mc ms yL_commands cL_commands 3 (some .int) [(0, 8, 11, 47), (0, 8, 14, 13)] [.ref 0, .ref 102] b Y M 2 Y M1 := by
  refine ConH.of (by decide +kernel) (Nat.le_of_ble_eq_true rfl) rfl fun p l e s m args below meth c D tyc A ad0 x hr htab hname => ?_
  change JJ _ _ _ _ _ _ _ _ _ _ _ _ _ _ _ _ _ 0 [some (.ref 0), some (.ref 102), none] [] _ 0 0
  refine j_aload_n x dL_commands_0 rfl ?_
  refine j_iconst (v := 0) x dL_commands_1 (by decide) ?_
  refine j_aload_n x dL_commands_2 rfl ?_
  refine j2_callC x hb dL_commands_3 m_X5_commands hcon wmL_103 jc_9 rfl rfl rfl (Nat.le_of_ble_eq_true rfl) (j_fit_rm (by omega) (by omega) (by omega)) rfl [⟨0, 8, 11, 47⟩] ⟨0, 8, 14, 13⟩ [] htab (fun w hw => by rcases List.mem_cons.mp hw with rfl | hw <;> first | exact Or.inr ⟨by decide, _, wcL_47, by decide +kernel⟩ | cases hw) (by decide) (by decide) wcL_13 wx_UnsupportedOperationException rfl (fun a => ?_)
  refine j_astore_nR x dL_commands_14 (by decide) rfl ?_
  refine j_iconst (v := 2) x dL_commands_15 (by decide) ?_
  exact j_ireturn x hr dL_commands_16 (by omega) (by omega) ⟨rfl, rfl⟩
theorem H_reason_r {d mc ms : Nat} {b : SBt} {Y : OUt} {M M1 : MM} (hb : 104 ≤ b.2.1) {u0 : Int32} {v : Int32} (hcon : CM d mc ms yX5_reason cX5_reason 2 (some .int) [.ref 0, .int u0] b Y M (.inl (some (.int v))) M1) : CMH (d + 1) mc ms yL_reason cL_reason 4 (some .int) [(0, 9, 12, 47), (0, 9, 15, 58)] [.ref 0, .int u0, .ref 102] b Y M 0 (ju Y.1 0 v.toInt64, Y.2) M1 := by
  refine ConH.of (by decide +kernel) (Nat.le_of_ble_eq_true rfl) rfl fun p l e s m args below meth c D tyc A ad0 x hr htab hname => ?_
  change JJ _ _ _ _ _ _ _ _ _ _ _ _ _ _ _ _ _ 0 [some (.ref 0), some (.int u0), some (.ref 102), none] [] _ 0 0
  refine j_aload_n x dL_reason_0 rfl ?_
  refine j_iconst (v := 0) x dL_reason_1 (by decide) ?_
  refine j_aload_n x dL_reason_2 rfl ?_
  refine j_iload_n x dL_reason_3 rfl ?_
  refine j2_callVi x hb dL_reason_4 m_X5_reason hcon wmL_106 jc_9 rfl rfl rfl (Nat.le_of_ble_eq_true rfl) (j_fit_rm (by omega) (by omega) (by omega)) rfl ?_
  refine j_i2l x dL_reason_7 ?_
  refine j2_last x hb dL_reason_8 ?_
  refine j_goto (tgt := 18) x dL_reason_9 (by decide) ?_
  refine j_iconst (v := 0) x dL_reason_18 (by decide) ?_
  exact j_ireturn x hr dL_reason_19 (by omega) (by omega) ⟨rfl, rfl⟩
theorem H_reason_t1 {d mc ms : Nat} {b : SBt} {Y : OUt} {M M1 : MM} (hb : 104 ≤ b.2.1) {u0 : Int32} (hcon : CM d mc ms yX5_reason cX5_reason 2 (some .int) [.ref 0, .int u0] b Y M (.inr "java/lang/IllegalArgumentException") M1) : CMH (d + 1) mc ms yL_reason cL_reason 4 (some .int) [(0, 9, 12, 47), (0, 9, 15, 58)] [.ref 0, .int u0, .ref 102] b Y M 1 Y M1 := by
  refine ConH.of (by decide +kernel) (Nat.le_of_ble_eq_true rfl) rfl fun p l e s m args below meth c D tyc A ad0 x hr htab hname => ?_
  change JJ _ _ _ _ _ _ _ _ _ _ _ _ _ _ _ _ _ 0 [some (.ref 0), some (.int u0), some (.ref 102), none] [] _ 0 0
  refine j_aload_n x dL_reason_0 rfl ?_
  refine j_iconst (v := 0) x dL_reason_1 (by decide) ?_
  refine j_aload_n x dL_reason_2 rfl ?_
  refine j_iload_n x dL_reason_3 rfl ?_
  refine j2_callC x hb dL_reason_4 m_X5_reason hcon wmL_106 jc_9 rfl rfl rfl (Nat.le_of_ble_eq_true rfl) (j_fit_rm (by omega) (by omega) (by omega)) rfl [] ⟨0, 9, 12, 47⟩ [⟨0, 9, 15, 58⟩] htab (fun w hw => by cases hw) (by decide) (by decide) wcL_47 wx_IllegalArgumentException rfl (fun a => ?_)
  refine j_astore_nR x dL_reason_12 (by decide) rfl ?_
  refine j_iconst (v := 1) x dL_reason_13 (by decide) ?_
  exact j_ireturn x hr dL_reason_14 (by omega) (by omega) ⟨rfl, rfl⟩
theorem H_reason_t2 {d mc ms : Nat} {b : SBt} {Y : OUt} {M M1 : MM} (hb : 104 ≤ b.2.1) {u0 : Int32} (hcon : CM d mc ms yX5_reason cX5_reason 2 (some .int) [.ref 0, .int u0] b Y M (.inr "java/util/NoSuchElementException") M1) : CMH (d + 1) mc ms yL_reason cL_reason 4 (some .int) [(0, 9, 12, 47), (0, 9, 15, 58)] [.ref 0, .int u0, .ref 102] b Y M 2 Y M1 := by
  refine ConH.of (by decide +kernel) (Nat.le_of_ble_eq_true rfl) rfl fun p l e s m args below meth c D tyc A ad0 x hr htab hname => ?_
  change JJ _ _ _ _ _ _ _ _ _ _ _ _ _ _ _ _ _ 0 [some (.ref 0), some (.int u0), some (.ref 102), none] [] _ 0 0
  refine j_aload_n x dL_reason_0 rfl ?_
  refine j_iconst (v := 0) x dL_reason_1 (by decide) ?_
  refine j_aload_n x dL_reason_2 rfl ?_
  refine j_iload_n x dL_reason_3 rfl ?_
  refine j2_callC x hb dL_reason_4 m_X5_reason hcon wmL_106 jc_9 rfl rfl rfl (Nat.le_of_ble_eq_true rfl) (j_fit_rm (by omega) (by omega) (by omega)) rfl [⟨0, 9, 12, 47⟩] ⟨0, 9, 15, 58⟩ [] htab (fun w hw => by rcases List.mem_cons.mp hw with rfl | hw <;> first | exact Or.inr ⟨by decide, _, wcL_47, by decide +kernel⟩ | cases hw) (by decide) (by decide) wcL_58 wx_NoSuchElementException rfl (fun a => ?_)
  refine j_astore_nR x dL_reason_15 (by decide) rfl ?_
  refine j_iconst (v := 2) x dL_reason_16 (by decide) ?_
  exact j_ireturn x hr dL_reason_17 (by omega) (by omega) ⟨rfl, rfl⟩
theorem H_line_r {d mc ms : Nat} {b : SBt} {Y : OUt} {M M1 : MM} (hb : 104 ≤ b.2.1) {u0 : Int32} {v : Int32} (hcon : CM d mc ms yX5_line cX5_line 2 (some .int) [.ref 0, .int u0] b Y M (.inl (some (.int v))) M1) : CMH (d + 1) mc ms yL_line cL_line 4 (some .int) [(0, 9, 12, 45)] [.ref 0, .int u0, .ref 102] b Y M 0 (ju Y.1 0 v.toInt64, Y.2) M1 := by
  refine ConH.of (by decide +kernel) (Nat.le_of_ble_eq_true rfl) rfl fun p l e s m args below meth c D tyc A ad0 x hr htab hname => ?_
  change JJ _ _ _ _ _ _ _ _ _ _ _ _ _ _ _ _ _ 0 [some (.ref 0), some (.int u0), some (.ref 102), none] [] _ 0 0
  refine j_aload_n x dL_line_0 rfl ?_
  refine j_iconst (v := 0) x dL_line_1 (by decide) ?_
  refine j_aload_n x dL_line_2 rfl ?_
  refine j_iload_n x dL_line_3 rfl ?_
  refine j2_callVi x hb dL_line_4 m_X5_line hcon wmL_109 jc_9 rfl rfl rfl (Nat.le_of_ble_eq_true rfl) (j_fit_rm (by omega) (by omega) (by omega)) rfl ?_
  refine j_i2l x dL_line_7 ?_
  refine j2_last x hb dL_line_8 ?_
  refine j_goto (tgt := 15) x dL_line_9 (by decide) ?_
  refine j_iconst (v := 0) x dL_line_15 (by decide) ?_
  exact j_ireturn x hr dL_line_16 (by omega) (by omega) ⟨rfl, rfl⟩
theorem H_line_t1 {d mc ms : Nat} {b : SBt} {Y : OUt} {M M1 : MM} (hb : 104 ≤ b.2.1) {u0 : Int32} (hcon : CM d mc ms yX5_line cX5_line 2 (some .int) [.ref 0, .int u0] b Y M (.inr "java/lang/IndexOutOfBoundsException") M1) : CMH (d + 1) mc ms yL_line cL_line 4 (some .int) [(0, 9, 12, 45)] [.ref 0, .int u0, .ref 102] b Y M 1 Y M1 := by
  refine ConH.of (by decide +kernel) (Nat.le_of_ble_eq_true rfl) rfl fun p l e s m args below meth c D tyc A ad0 x hr htab hname => ?_
  change JJ _ _ _ _ _ _ _ _ _ _ _ _ _ _ _ _ _ 0 [some (.ref 0), some (.int u0), some (.ref 102), none] [] _ 0 0
  refine j_aload_n x dL_line_0 rfl ?_
  refine j_iconst (v := 0) x dL_line_1 (by decide) ?_
  refine j_aload_n x dL_line_2 rfl ?_
  refine j_iload_n x dL_line_3 rfl ?_
  refine j2_callC x hb dL_line_4 m_X5_line hcon wmL_109 jc_9 rfl rfl rfl (Nat.le_of_ble_eq_true rfl) (j_fit_rm (by omega) (by omega) (by omega)) rfl [] ⟨0, 9, 12, 45⟩ [] htab (fun w hw => by cases hw) (by decide) (by decide) wcL_45 wx_IndexOutOfBoundsException rfl (fun a => ?_)
  refine j_astore_nR x dL_line_12 (by decide) rfl ?_
  refine j_iconst (v := 1) x dL_line_13 (by decide) ?_
  exact j_ireturn x hr dL_line_14 (by omega) (by omega) ⟨rfl, rfl⟩
theorem H_character_r {d mc ms : Nat} {b : SBt} {Y : OUt} {M M1 : MM} (hb : 104 ≤ b.2.1) {u0 : Int32} {v : Int32} (hcon : CM d mc ms yX5_character cX5_character 2 (some .char) [.ref 0, .int u0] b Y M (.inl (some (.int v))) M1) : CMH (d + 1) mc ms yL_character cL_character 4 (some .int) [(0, 9, 12, 45)] [.ref 0, .int u0, .ref 102] b Y M 0 (ju Y.1 0 v.toInt64, Y.2) M1 := by
  refine ConH.of (by decide +kernel) (Nat.le_of_ble_eq_true rfl) rfl fun p l e s m args below meth c D tyc A ad0 x hr htab hname => ?_
  change JJ _ _ _ _ _ _ _ _ _ _ _ _ _ _ _ _ _ 0 [some (.ref 0), some (.int u0), some (.ref 102), none] [] _ 0 0
  refine j_aload_n x dL_character_0 rfl ?_
  refine j_iconst (v := 0) x dL_character_1 (by decide) ?_
  refine j_aload_n x dL_character_2 rfl ?_
  refine j_iload_n x dL_character_3 rfl ?_
  refine j2_callVi x hb dL_character_4 m_X5_character hcon wmL_112 jc_9 rfl rfl rfl (Nat.le_of_ble_eq_true rfl) (j_fit_rm (by omega) (by omega) (by omega)) rfl ?_
  refine j_i2l x dL_character_7 ?_
  refine j2_last x hb dL_character_8 ?_
  refine j_goto (tgt := 15) x dL_character_9 (by decide) ?_
  refine j_iconst (v := 0) x dL_character_15 (by decide) ?_
  exact j_ireturn x hr dL_character_16 (by omega) (by omega) ⟨rfl, rfl⟩
theorem H_character_t1 {d mc ms : Nat} {b : SBt} {Y : OUt} {M M1 : MM} (hb : 104 ≤ b.2.1) {u0 : Int32} (hcon : CM d mc ms yX5_character cX5_character 2 (some .char) [.ref 0, .int u0] b Y M (.inr "java/lang/IndexOutOfBoundsException") M1) : CMH (d + 1) mc ms yL_character cL_character 4 (some .int) [(0, 9, 12, 45)] [.ref 0, .int u0, .ref 102] b Y M 1 Y M1 := by
  refine ConH.of (by decide +kernel) (Nat.le_of_ble_eq_true rfl) rfl fun p l e s m args below meth c D tyc A ad0 x hr htab hname => ?_
  change JJ _ _ _ _ _ _ _ _ _ _ _ _ _ _ _ _ _ 0 [some (.ref 0), some (.int u0), some (.ref 102), none] [] _ 0 0
  refine j_aload_n x dL_character_0 rfl ?_
  refine j_iconst (v := 0) x dL_character_1 (by decide) ?_
  refine j_aload_n x dL_character_2 rfl ?_
  refine j_iload_n x dL_character_3 rfl ?_
  refine j2_callC x hb dL_character_4 m_X5_character hcon wmL_112 jc_9 rfl rfl rfl (Nat.le_of_ble_eq_true rfl) (j_fit_rm (by omega) (by omega) (by omega)) rfl [] ⟨0, 9, 12, 45⟩ [] htab (fun w hw => by cases hw) (by decide) (by decide) wcL_45 wx_IndexOutOfBoundsException rfl (fun a => ?_)
  refine j_astore_nR x dL_character_12 (by decide) rfl ?_
  refine j_iconst (v := 1) x dL_character_13 (by decide) ?_
  exact j_ireturn x hr dL_character_14 (by omega) (by omega) ⟨rfl, rfl⟩
theorem H_meanGoals_t1 {d mc ms : Nat} {b : SBt} {Y : OUt} {M M1 : MM} (hb : 104 ≤ b.2.1) (hcon : CM d mc ms yX5_meanGoals cX5_meanGoals 1 (some .float) [.ref 0] b Y M (.inr "java/lang/ArithmeticException") M1) : CMH (d + 1) mc ms yL_meanGoals cL_meanGoals 3 (some .int) [(0, 8, 11, 120)] [.ref 0, .ref 103] b Y M 1 Y M1 := by
  refine ConH.of (by decide +kernel) (Nat.le_of_ble_eq_true rfl) rfl fun p l e s m args below meth c D tyc A ad0 x hr htab hname => ?_
  change JJ _ _ _ _ _ _ _ _ _ _ _ _ _ _ _ _ _ 0 [some (.ref 0), some (.ref 103), none] [] _ 0 0
  refine j_aload_n x dL_meanGoals_0 rfl ?_
  refine j_iconst (v := 0) x dL_meanGoals_1 (by decide) ?_
  refine j_aload_n x dL_meanGoals_2 rfl ?_
  refine j2_callC x hb dL_meanGoals_3 m_X5_meanGoals hcon wmL_116 jc_9 rfl rfl rfl (Nat.le_of_ble_eq_true rfl) (j_fit_rm (by omega) (by omega) (by omega)) rfl [] ⟨0, 8, 11, 120⟩ [] htab (fun w hw => by cases hw) (by decide) (by decide) wcL_120 wx_ArithmeticException rfl (fun a => ?_)
  refine j_astore_nR x dL_meanGoals_11 (by decide) rfl ?_
  refine j_iconst (v := 1) x dL_meanGoals_12 (by decide) ?_
  exact j_ireturn x hr dL_meanGoals_13 (by omega) (by omega) ⟨rfl, rfl⟩
theorem H_homeShare_t1 {d mc ms : Nat} {b : SBt} {Y : OUt} {M M1 : MM} (hb : 104 ≤ b.2.1) (hcon : CM d mc ms yX5_homeShare cX5_homeShare 1 (some .double) [.ref 0] b Y M (.inr "java/lang/ArithmeticException") M1) : CMH (d + 1) mc ms yL_homeShare cL_homeShare 3 (some .int) [(0, 7, 10, 120)] [.ref 0, .ref 103] b Y M 1 Y M1 := by
  refine ConH.of (by decide +kernel) (Nat.le_of_ble_eq_true rfl) rfl fun p l e s m args below meth c D tyc A ad0 x hr htab hname => ?_
  change JJ _ _ _ _ _ _ _ _ _ _ _ _ _ _ _ _ _ 0 [some (.ref 0), some (.ref 103), none] [] _ 0 0
  refine j_aload_n x dL_homeShare_0 rfl ?_
  refine j_iconst (v := 0) x dL_homeShare_1 (by decide) ?_
  refine j_aload_n x dL_homeShare_2 rfl ?_
  refine j2_callC x hb dL_homeShare_3 m_X5_homeShare hcon wmL_122 jc_9 rfl rfl rfl (Nat.le_of_ble_eq_true rfl) (j_fit_rm (by omega) (by omega) (by omega)) rfl [] ⟨0, 7, 10, 120⟩ [] htab (fun w hw => by cases hw) (by decide) (by decide) wcL_120 wx_ArithmeticException rfl (fun a => ?_)
  refine j_astore_nR x dL_homeShare_10 (by decide) rfl ?_
  refine j_iconst (v := 1) x dL_homeShare_11 (by decide) ?_
  exact j_ireturn x hr dL_homeShare_12 (by omega) (by omega) ⟨rfl, rfl⟩
theorem H_account_r {d mc ms : Nat} {b : SBt} {Y : OUt} {M M1 : MM} (hb : 104 ≤ b.2.1) {u0 : Int32} {v : Int32} (hcon : CM d mc ms yX5_account cX5_account 2 (some .int) [.ref 0, .int u0] b Y M (.inl (some (.int v))) M1) : CMH (d + 1) mc ms yL_account cL_account 4 (some .int) [(0, 9, 12, 47)] [.ref 0, .int u0, .ref 102] b Y M 0 (ju Y.1 0 v.toInt64, Y.2) M1 := by
  refine ConH.of (by decide +kernel) (Nat.le_of_ble_eq_true rfl) rfl fun p l e s m args below meth c D tyc A ad0 x hr htab hname => ?_
  change JJ _ _ _ _ _ _ _ _ _ _ _ _ _ _ _ _ _ 0 [some (.ref 0), some (.int u0), some (.ref 102), none] [] _ 0 0
  refine j_aload_n x dL_account_0 rfl ?_
  refine j_iconst (v := 0) x dL_account_1 (by decide) ?_
  refine j_aload_n x dL_account_2 rfl ?_
  refine j_iload_n x dL_account_3 rfl ?_
  refine j2_callVi x hb dL_account_4 m_X5_account hcon wmL_126 jc_9 rfl rfl rfl (Nat.le_of_ble_eq_true rfl) (j_fit_rm (by omega) (by omega) (by omega)) rfl ?_
  refine j_i2l x dL_account_7 ?_
  refine j2_last x hb dL_account_8 ?_
  refine j_goto (tgt := 15) x dL_account_9 (by decide) ?_
  refine j_iconst (v := 0) x dL_account_15 (by decide) ?_
  exact j_ireturn x hr dL_account_16 (by omega) (by omega) ⟨rfl, rfl⟩
theorem H_account_t1 {d mc ms : Nat} {b : SBt} {Y : OUt} {M M1 : MM} (hb : 104 ≤ b.2.1) {u0 : Int32} (hcon : CM d mc ms yX5_account cX5_account 2 (some .int) [.ref 0, .int u0] b Y M (.inr "java/lang/IllegalArgumentException") M1) : CMH (d + 1) mc ms yL_account cL_account 4 (some .int) [(0, 9, 12, 47)] [.ref 0, .int u0, .ref 102] b Y M 1 Y M1 := by
  refine ConH.of (by decide +kernel) (Nat.le_of_ble_eq_true rfl) rfl fun p l e s m args below meth c D tyc A ad0 x hr htab hname => ?_
  change JJ _ _ _ _ _ _ _ _ _ _ _ _ _ _ _ _ _ 0 [some (.ref 0), some (.int u0), some (.ref 102), none] [] _ 0 0
  refine j_aload_n x dL_account_0 rfl ?_
  refine j_iconst (v := 0) x dL_account_1 (by decide) ?_
  refine j_aload_n x dL_account_2 rfl ?_
  refine j_iload_n x dL_account_3 rfl ?_
  refine j2_callC x hb dL_account_4 m_X5_account hcon wmL_126 jc_9 rfl rfl rfl (Nat.le_of_ble_eq_true rfl) (j_fit_rm (by omega) (by omega) (by omega)) rfl [] ⟨0, 9, 12, 47⟩ [] htab (fun w hw => by cases hw) (by decide) (by decide) wcL_47 wx_IllegalArgumentException rfl (fun a => ?_)
  refine j_astore_nR x dL_account_12 (by decide) rfl ?_
  refine j_iconst (v := 1) x dL_account_13 (by decide) ?_
  exact j_ireturn x hr dL_account_14 (by omega) (by omega) ⟨rfl, rfl⟩
theorem H_undo_r {d mc ms : Nat} {b : SBt} {Y : OUt} {M M1 : MM} (hb : 104 ≤ b.2.1) {v : Int32} (hcon : CM d mc ms yX5_undo cX5_undo 1 (some .int) [.ref 0] b Y M (.inl (some (.int v))) M1) : CMH (d + 1) mc ms yL_undo cL_undo 3 (some .int) [(0, 8, 11, 101)] [.ref 0, .ref 102] b Y M 0 (ju Y.1 0 v.toInt64, Y.2) M1 := by
  refine ConH.of (by decide +kernel) (Nat.le_of_ble_eq_true rfl) rfl fun p l e s m args below meth c D tyc A ad0 x hr htab hname => ?_
  change JJ _ _ _ _ _ _ _ _ _ _ _ _ _ _ _ _ _ 0 [some (.ref 0), some (.ref 102), none] [] _ 0 0
  refine j_aload_n x dL_undo_0 rfl ?_
  refine j_iconst (v := 0) x dL_undo_1 (by decide) ?_
  refine j_aload_n x dL_undo_2 rfl ?_
  refine j2_callVi x hb dL_undo_3 m_X5_undo hcon wmL_129 jc_9 rfl rfl rfl (Nat.le_of_ble_eq_true rfl) (j_fit_rm (by omega) (by omega) (by omega)) rfl ?_
  refine j_i2l x dL_undo_6 ?_
  refine j2_last x hb dL_undo_7 ?_
  refine j_goto (tgt := 14) x dL_undo_8 (by decide) ?_
  refine j_iconst (v := 0) x dL_undo_14 (by decide) ?_
  exact j_ireturn x hr dL_undo_15 (by omega) (by omega) ⟨rfl, rfl⟩
theorem H_undo_t1 {d mc ms : Nat} {b : SBt} {Y : OUt} {M M1 : MM} (hb : 104 ≤ b.2.1) (hcon : CM d mc ms yX5_undo cX5_undo 1 (some .int) [.ref 0] b Y M (.inr "java/lang/IllegalStateException") M1) : CMH (d + 1) mc ms yL_undo cL_undo 3 (some .int) [(0, 8, 11, 101)] [.ref 0, .ref 102] b Y M 1 Y M1 := by
  refine ConH.of (by decide +kernel) (Nat.le_of_ble_eq_true rfl) rfl fun p l e s m args below meth c D tyc A ad0 x hr htab hname => ?_
  change JJ _ _ _ _ _ _ _ _ _ _ _ _ _ _ _ _ _ 0 [some (.ref 0), some (.ref 102), none] [] _ 0 0
  refine j_aload_n x dL_undo_0 rfl ?_
  refine j_iconst (v := 0) x dL_undo_1 (by decide) ?_
  refine j_aload_n x dL_undo_2 rfl ?_
  refine j2_callC x hb dL_undo_3 m_X5_undo hcon wmL_129 jc_9 rfl rfl rfl (Nat.le_of_ble_eq_true rfl) (j_fit_rm (by omega) (by omega) (by omega)) rfl [] ⟨0, 8, 11, 101⟩ [] htab (fun w hw => by cases hw) (by decide) (by decide) wcL_101 wx_IllegalStateException rfl (fun a => ?_)
  refine j_astore_nR x dL_undo_11 (by decide) rfl ?_
  refine j_iconst (v := 1) x dL_undo_12 (by decide) ?_
  exact j_ireturn x hr dL_undo_13 (by omega) (by omega) ⟨rfl, rfl⟩
theorem H_restore_r {d mc ms : Nat} {b : SBt} {Y : OUt} {M M1 : MM} (hb : 104 ≤ b.2.1) {v : Int32} (hcon : CM d mc ms yX5_restore cX5_restore 1 (some .int) [.ref 0] b Y M (.inl (some (.int v))) M1) : CMH (d + 1) mc ms yL_restore cL_restore 3 (some .int) [(0, 8, 11, 101)] [.ref 0, .ref 102] b Y M 0 (ju Y.1 0 v.toInt64, Y.2) M1 := by
  refine ConH.of (by decide +kernel) (Nat.le_of_ble_eq_true rfl) rfl fun p l e s m args below meth c D tyc A ad0 x hr htab hname => ?_
  change JJ _ _ _ _ _ _ _ _ _ _ _ _ _ _ _ _ _ 0 [some (.ref 0), some (.ref 102), none] [] _ 0 0
  refine j_aload_n x dL_restore_0 rfl ?_
  refine j_iconst (v := 0) x dL_restore_1 (by decide) ?_
  refine j_aload_n x dL_restore_2 rfl ?_
  refine j2_callVi x hb dL_restore_3 m_X5_restore hcon wmL_132 jc_9 rfl rfl rfl (Nat.le_of_ble_eq_true rfl) (j_fit_rm (by omega) (by omega) (by omega)) rfl ?_
  refine j_i2l x dL_restore_6 ?_
  refine j2_last x hb dL_restore_7 ?_
  refine j_goto (tgt := 14) x dL_restore_8 (by decide) ?_
  refine j_iconst (v := 0) x dL_restore_14 (by decide) ?_
  exact j_ireturn x hr dL_restore_15 (by omega) (by omega) ⟨rfl, rfl⟩
theorem H_restore_t1 {d mc ms : Nat} {b : SBt} {Y : OUt} {M M1 : MM} (hb : 104 ≤ b.2.1) (hcon : CM d mc ms yX5_restore cX5_restore 1 (some .int) [.ref 0] b Y M (.inr "java/lang/IllegalStateException") M1) : CMH (d + 1) mc ms yL_restore cL_restore 3 (some .int) [(0, 8, 11, 101)] [.ref 0, .ref 102] b Y M 1 Y M1 := by
  refine ConH.of (by decide +kernel) (Nat.le_of_ble_eq_true rfl) rfl fun p l e s m args below meth c D tyc A ad0 x hr htab hname => ?_
  change JJ _ _ _ _ _ _ _ _ _ _ _ _ _ _ _ _ _ 0 [some (.ref 0), some (.ref 102), none] [] _ 0 0
  refine j_aload_n x dL_restore_0 rfl ?_
  refine j_iconst (v := 0) x dL_restore_1 (by decide) ?_
  refine j_aload_n x dL_restore_2 rfl ?_
  refine j2_callC x hb dL_restore_3 m_X5_restore hcon wmL_132 jc_9 rfl rfl rfl (Nat.le_of_ble_eq_true rfl) (j_fit_rm (by omega) (by omega) (by omega)) rfl [] ⟨0, 8, 11, 101⟩ [] htab (fun w hw => by cases hw) (by decide) (by decide) wcL_101 wx_IllegalStateException rfl (fun a => ?_)
  refine j_astore_nR x dL_restore_11 (by decide) rfl ?_
  refine j_iconst (v := 1) x dL_restore_12 (by decide) ?_
  exact j_ireturn x hr dL_restore_13 (by omega) (by omega) ⟨rfl, rfl⟩
end

section
/-! ===== the store behind the constructors ===== -/
theorem HH_ok {b : SBt} {Y : OUt} {M : MM} (h1 : b.1 < b.2.1) (h2 : 104 ≤ b.2.1) : j_okH (HH b Y M) := by
  have hall : (hRl.all fun l => l.all fun q => decide (q.2 < 104)) = true := by decide +kernel
  have hr : ∀ i k r, hR i k = some r → r < 104 := by
    intro i k r h
    unfold hR at h
    by_cases hi : i < hRl.length
    · rw [List.getD_eq_getElem?_getD, List.getElem?_eq_getElem hi] at h
      have h3 := List.all_eq_true.mp hall _ (List.getElem_mem hi)
      obtain ⟨l1, l2, h4, -⟩ := List.lookup_eq_some_iff.mp h
      have h5 := List.all_eq_true.mp h3 (k, r) (by show (k, r) ∈ hRl[i]; have h4 : hRl[i] = _ := h4; rw [h4]; exact List.mem_append_right _ List.mem_cons_self)
      exact of_decide_eq_true h5
    · rw [List.getD_eq_getElem?_getD, List.getElem?_eq_none (by omega)] at h
      cases h
  intro i hi j k hk
  have hk : hF b Y M i j = .ref k := hk
  show k < b.2.1
  unfold hF at hk
  split at hk
  · cases hk
  · split at hk
    · cases hk
    · split at hk
      · cases hk; exact h1
      · split at hk
        · cases hk
          exact Nat.lt_of_lt_of_le (hr i j k (by assumption)) h2
        · cases hk
theorem j3_eq {p : Program} {l : Launch} {e : Env} {R : Room} {s : State} {m : MethodId} {args : Array Value} {below : List Frame} {meth : Method} {c : Code} {D : va_G} {tyc : Nat → ClassId} {A : Nat → Prop} {n0 : Nat} {ad0 : Nat → Nat} {nL : Nat} {Q : State → Prop} {pc : Nat} {L : List (Option Value)} {st : List Value} {cells slots n : Nat} {f : Nat → Nat → Value} {b : SBt} {Y : OUt} {M : MM}
    (hn : n = b.2.1) (h4 : n = 104) (hb1 : b.1 < b.2.1) (he : ∀ i, i < n → ∀ k, k < hN i → f i k = hF b Y M i k) (kk : JJ p l e R s m args below meth c D tyc A n0 ad0 nL Q pc L st (HH b Y M) cells slots) : JJ p l e R s m args below meth c D tyc A n0 ad0 nL Q pc L st (HS n f) cells slots := by
  have hlen : ∀ i, i < n → hLen b i = hN i := fun i hi => hLen_lo (by omega)
  have hx : ∀ (ad : Nat → Nat) (H : Heap) (i : Nat), i < n → va_at D vwCl (ad i, j_e tyc ad (hT i, hN i, f i)) H → va_at D vwCl (ad i, j_e tyc ad (hT i, hLen b i, hF b Y M i)) H := by
    intro ad H i hi hv
    rw [hlen i hi]
    by_cases ht : hT i < 100
    · rw [j_e_obj (ci := hT i) rfl ht] at hv ⊢
      have e1 : (List.range (hN i)).map (fun k => j_cv ad (f i k)) = (List.range (hN i)).map (fun k => j_cv ad (hF b Y M i k)) := List.map_congr_left fun k hk => by rw [he i hi k (List.mem_range.mp hk)]
      show va_at D vwCl (ad i, .inr (hT i, (List.range (hN i)).map (fun k => j_cv ad (hF b Y M i k)))) H
      rw [← e1]
      exact hv
    · rw [j_e_arr (t := hT i) rfl (by omega)] at hv ⊢
      have key : ∀ (f g : Nat → Value), (∀ k, k < hN i → f k = g k) → vp_cell (tyc (hT i)) (hN i, j_arr ad (hT i) f) = vp_cell (tyc (hT i)) (hN i, j_arr ad (hT i) g) := by
        intro f g hfg
        have arr : ∀ (u v : Nat → Value), (∀ k, k < hN i → u k = v k) → arrV (tyc (hT i)) (hN i) u = arrV (tyc (hT i)) (hN i) v := fun u v huv => by
          unfold arrV
          congr 2
          funext j
          exact huv j.val j.isLt
        unfold j_arr
        split
        · exact arr (fun j => va_rf (j_opt ad (f j))) (fun j => va_rf (j_opt ad (g j))) fun k hk => by show va_rf (j_opt ad (f k)) = va_rf (j_opt ad (g k)); rw [hfg k hk]
        · split
          · exact arr (fun j => .long (j_lng (f j))) (fun j => .long (j_lng (g j))) fun k hk => by show Value.long (j_lng (f k)) = .long (j_lng (g k)); rw [hfg k hk]
          · split
            · exact arr (fun j => .double (j_dbl (f j))) (fun j => .double (j_dbl (g j))) fun k hk => by show Value.double (j_dbl (f k)) = .double (j_dbl (g k)); rw [hfg k hk]
            · exact arr (fun j => .int (j_int (f j))) (fun j => .int (j_int (g j))) fun k hk => by show Value.int (j_int (f k)) = .int (j_int (g k)); rw [hfg k hk]
      have hv : H[ad i]? = some (vp_cell (tyc (hT i)) (hN i, j_arr ad (hT i) (f i))) := hv
      show H[ad i]? = some (vp_cell (tyc (hT i)) (hN i, j_arr ad (hT i) (hF b Y M i)))
      rw [← key _ _ (he i hi)]
      exact hv
  intro ad ls H locs I
  obtain ⟨i1, i2, i3, i4, i5, i6, i7, i8⟩ := I
  have i5 : n0 ≤ n ∧ ∀ i, i < n0 → ad i = ad0 i := i5
  refine kk ad ls H locs ⟨i1, ?_, ?_, i4, ⟨by show n0 ≤ b.2.1; rw [← hn]; exact i5.1, i5.2⟩, HH_ok hb1 (by omega), fun v hv => by show j_ok b.2.1 v; rw [← hn]; exact i7 v hv, fun v hv => by show j_ok b.2.1 v; rw [← hn]; exact i8 v hv⟩
  · intro k q hk
    have hkl : k < b.2.1 := by
      have := (List.getElem?_eq_some_iff.mp hk).1
      rw [j_w_len] at this
      exact this
    rw [j_w_get (h := HH b Y M) hkl] at hk
    cases hk
    exact hx ad H k (by omega) (i2 k _ (j_w_get (h := HS n f) (show k < n by omega)))
  · have same : ∀ (k : Nat) (q : Nat × va_E), (j_w tyc ad (HH b Y M))[k]? = some q → ∃ q0, (j_w tyc ad (HS n f))[k]? = some q0 ∧ q0.1 = q.1 := by
      intro k q hk
      have hkl : k < b.2.1 := by
        have := (List.getElem?_eq_some_iff.mp hk).1
        rw [j_w_len] at this
        exact this
      rw [j_w_get (h := HH b Y M) hkl] at hk
      cases hk
      exact ⟨_, j_w_get (h := HS n f) (show k < n by omega), rfl⟩
    refine ⟨fun i j u v hi hj huv => ?_, fun k q hk => ?_⟩
    · obtain ⟨u0, a1, a2⟩ := same i u hi
      obtain ⟨v0, b1, b2⟩ := same j v hj
      exact i3.1 i j u0 v0 a1 b1 (a2.trans (huv.trans b2.symm))
    · obtain ⟨q0, a1, a2⟩ := same k q hk
      rw [← a2]
      exact i3.2 k q0 a1
/-- the store at the law's loop, before any call -/
def M0 : MM := fun i k => if i = 0 then (if k = 8 then -1 else 0) else if isLg i then (if k = 4 then 3 else if k = 5 then 1 else if k = 6 then 2 else 0) else if isLg (i - 2) then (if k = 1 then 1 else if k = 2 then -1 else 0)
  else if i = 94 then (if k = 13 then -1 else 0) else if i = 95 then (if k = 3 then 3 else if k = 4 then 1 else if k = 5 then 2 else if k = 7 then 1 else 0) else 0
def Y0 : OUt := (fun _ => 0, fun _ => 0)
def b0 : SBt := (93, 104, fun _ => 0)
def F0s : Nat → Nat → Value := fz (fz (fMo (ju (fLT (ju (fun _ _ => .null) 0 fun k => defaultValue (tyX5 k))) 94 fun k => defaultValue (tyX6 k))) 102 (.long 0)) 103 (.double 0)
theorem F0_all : ((List.range 104).all fun i => (List.range (hN i)).all fun k => decide (F0s i k = hF b0 Y0 M0 i k)) = true := by decide +kernel
theorem F0_ok : ∀ i, i < 104 → ∀ k, k < hN i → F0s i k = hF b0 Y0 M0 i k := fun i hi k hk =>
  of_decide_eq_true (List.all_eq_true.mp (List.all_eq_true.mp F0_all i (List.mem_range.mpr hi)) k (List.mem_range.mpr hk))
end
