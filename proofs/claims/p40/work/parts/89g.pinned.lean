/-! ===== contracts of methods that know of something that nobody writes ===== -/
/-- it goes with the tables, and where nobody writes -/
def j_pin (F : (Nat → Prop) → State → Heap → Prop) : Prop :=
  (∀ (A : Nat → Prop) (U : State) (H : Heap) (g : JFrame) (mk : MethodId) (a : Array Value), F A U H → F A (U.calling g mk a) H) ∧
  (∀ (A B : Nat → Prop) (s U : State) (H H1 : Heap), F A s H → s.WarmedH U.vm → (∀ a : Nat, a < H.size → ¬ A a → H1[a]? = H[a]?) → (∀ q, B q → A q) → F B U H1)
def j_BP (D : va_G) (tyc : Nat → ClassId) (ad : Nat → Nat) (h : MH) (sz : Nat) (F : (Nat → Prop) → State → Heap → Prop) (U : State) : Prop := j_B D tyc ad h sz U ∧ F (va_A (j_w tyc ad h) sz) U U.heap
theorem j_BP.blind {D : va_G} {tyc : Nat → ClassId} {ad : Nat → Nat} {h : MH} {sz : Nat} {F : (Nat → Prop) → State → Heap → Prop} {as : List Value} (hF : j_pin F) : FrameBlind (va_Pc as (j_BP D tyc ad h sz F)) := fun a U g mk q => by
  obtain ⟨q0, ⟨q1, qP, qK, qD, qE⟩, qX⟩ := q
  exact ⟨q0, ⟨q1, qP, va_K.moved (u := U) (U := U.calling g mk a) (Vm.Alike.refl U.vm) qK, qD, qE.blind⟩, hF.1 _ _ _ _ _ _ qX⟩
def ConP (d mc ms : Nat) (y : MethodName) (cc : ByteArray) (maxL : Nat) (ret : Option FieldType) (as : List Value) (h : MH) (F : (Nat → Prop) → State → Heap → Prop) (Q : MO → MH → Prop) : Prop :=
  ∀ (l : Launch) (D : va_G) (tyc : Nat → ClassId) (ad : Nat → Nat) (sz : Nat), l.stackTraces = false → j_okH h → (∀ v ∈ as, j_ok h.1 v) →
    vx_Met l y (Cond.code y cc maxL ret :: j_all) (j_rm d mc ms) (va_Pc (as.map (j_cv ad)) (j_BP D tyc ad h sz F)) (j_Qc D tyc (va_A (j_w tyc ad h) sz) h.1 ad Q) (j_XC D tyc (va_A (j_w tyc ad h) sz) h.1 ad Q) mc ms (va_A (j_w tyc ad h) sz)
theorem ConP.mono {d mc ms : Nat} {y : MethodName} {cc : ByteArray} {maxL : Nat} {ret : Option FieldType} {as : List Value} {h : MH} {F : (Nat → Prop) → State → Heap → Prop} {Q Q2 : MO → MH → Prop} (C : ConP d mc ms y cc maxL ret as h F Q) (hq : ∀ o k, Q o k → Q2 o k) : ConP d mc ms y cc maxL ret as h F Q2 := by
  intro l D tyc ad sz hl hh ha p e hA hB hC s m args below hf happ hP hT
  obtain ⟨kk, o, h1, h2, h3, h4⟩ := C l D tyc ad sz hl hh ha p e hA hB hC s m args below hf happ hP hT
  refine ⟨kk, o, h1, h2, h3, ?_⟩
  rcases h4 with ⟨⟨v, k1, ad1, e1, e2, e3, e5⟩, L, e4, e6⟩ | ⟨q, e0, E, ce, Lc, ⟨k1, ad1, e2, e3⟩, e4, e5, e6, e7, e8, e9⟩
  · exact Or.inl ⟨⟨v, k1, ad1, e1, hq _ _ e2, e3, e5⟩, L, e4, e6⟩
  · exact Or.inr ⟨q, e0, E, ce, Lc, ⟨k1, ad1, hq _ _ e2, e3⟩, e4, e5, e6, e7, e8, e9⟩
theorem ConP.of {d mc ms : Nat} {y : MethodName} {cc : ByteArray} {maxL : Nat} {ret : Option FieldType} {as : List Value} {h : MH} {F : (Nat → Prop) → State → Heap → Prop} {Q : MO → MH → Prop} (hy : plainName y.cls = true) (hn : as.length ≤ maxL) (hc : as.all (fun v => v.category == 1) = true)
    (body : ∀ (p : Program) (l : Launch) (e : Env) (s : State) (m : MethodId) (args : Array Value) (below : List Frame) (meth : Method) (c : Code) (D : va_G) (tyc : Nat → ClassId) (A : Nat → Prop) (ad0 : Nat → Nat), j_X p l s m args meth c D tyc A y.cls cc maxL → meth.sig.returnType = ret → (∀ z ∈ c.exceptionTable.toList, False) → meth.name = y.name → F A s s.heap →
      JJ p l e (j_rm d mc ms) s m args below meth c D tyc A h.1 ad0 maxL (vx_MQ below (j_Qc D tyc A h.1 ad0 Q) (j_XC D tyc A h.1 ad0 Q) args s mc ms A) 0 (j_L0 maxL as) [] h 0 0) : ConP d mc ms y cc maxL ret as h F Q := by
  intro l D tyc ad sz hl hh ha
  have hc : ∀ v ∈ as, v.category = 1 := fun v hv => by simpa using List.all_eq_true.mp hc v hv
  refine vx_ofW (cc := cc) (maxL := maxL) (ret := ret) hy rfl ?_
  intro p e s m args below meth c s₁ B hml htab hv
  obtain ⟨rfl, ⟨hsz, hP, hK, hD0, hE⟩, hX⟩ := hv
  have hts := atoms_spec (ws := Cond.code y cc maxL ret :: j_all) B.pre
  subst hsz
  have hD := hD0.self (sz := s.heap.size)
  have hA : ∀ q : Nat, s.heap.size ≤ q → va_A (j_w tyc ad h) s.heap.size q := fun q h => Or.inr h
  have hl0 := lv_entry (as.map (j_cv ad)) (n := maxL) (by
    have e1 : ∀ (vs : List Value), (∀ v ∈ vs, v.category = 1) → (lg_sl (vs.map (j_cv ad))).length = vs.length := by
      intro vs
      induction vs with
      | nil => intro _; rfl
      | cons v vs ih =>
        intro hc
        have hv : ¬ (j_cv ad v).category = 2 := by rw [j_cv_cat, hc v List.mem_cons_self]; decide
        simp only [lg_sl, List.map_cons, List.flatMap_cons, if_neg hv, List.length_append, List.length_cons, List.length_nil]
        have := ih (fun w hw => hc w (List.mem_cons_of_mem _ hw))
        simp only [lg_sl] at this
        omega
    rw [e1 as hc]
    exact hn)
  rw [lg_entry_eq]
  have key := body p l e s m ((as.map (j_cv ad)).toArray) below meth c D tyc (va_A (j_w tyc ad h) s.heap.size) ad ⟨B.exec, B.bytes, hml, findClass_of_methodNamed B.named, fun w hw => hts w (List.mem_cons_of_mem _ hw), hK, hA, B.notSynchronized, hl, hE⟩ B.returns htab (name_of_methodNamed B.named B.method).1 hX
  exact key ad _ s.heap [] ⟨j_L.entry hn hc hl0, hP, hD, va_S.rf, ⟨Nat.le_refl _, fun _ _ => rfl⟩, hh, fun v hv => (by cases hv), fun v hv => ha v (by
    obtain ⟨i, hi⟩ := List.getElem?_of_mem hv
    exact List.mem_of_getElem? (j_L0_get hi))⟩
section JP
variable {p : Program} {l : Launch} {e : Env} {R : Room} {s : State} {m : MethodId} {args : Array Value} {below : List Frame} {meth : Method} {c : Code} {D : va_G} {tyc : Nat → ClassId} {A : Nat → Prop} {n0 : Nat} {ad0 : Nat → Nat} {nL : Nat} {Qs : State → Prop}
variable {own : String} {cc : ByteArray} {pc : Nat} {L : List (Option Value)} {st : List Value} {h : MH} {cells slots : Nat} {d1 mc1 ms1 maxL idx n : Nat} {y : MethodName} {bytes : ByteArray} {ret : Option FieldType} {Q1 : MO → MH → Prop} {as st0 : List Value} {b : Nat}
variable {F : (Nat → Prop) → State → Heap → Prop} {bb : Nat}
theorem j_preP (hF : j_pin F) (hX : F A s s.heap) (x : j_X p l s m args meth c D tyc A own cc nL) {ad : Nat → Nat} {ls : Array Slot} {H : Heap} {locs : List Loc} (I : j_I s D tyc A n0 ad0 nL ad L st h ls H locs) {U : State} (hU : U.heap = H) (hW : s.WarmedH U.vm) : j_BP D tyc ad h H.size F U := by
  refine ⟨j_pre x I hU hW, ?_⟩
  rw [hU]
  refine hF.2 _ _ _ _ _ _ hX hW (fun q q1 q2 => I.2.2.2.1.2.1 q q1 q2) ?_
  intro q hq
  rcases hq with ⟨k, e, hk⟩ | hq
  · exact I.2.2.1.2 k _ hk
  · exact x.2.2.2.2.2.2.1 q (Nat.le_trans I.2.2.2.1.1 hq)
theorem j_callSP (hF : j_pin F) (hX : F A s s.heap) (x : j_X p l s m args meth c D tyc A own cc nL) (hd : decode cc pc = .ok (.invokestatic idx, 3)) (hcon : ConP d1 mc1 ms1 y bytes maxL ret as h F Q1) (hm : j_mS y bytes maxL ret n) (hw : Cond.methodLink own idx y ∈ j_all)
    (hn : as.length = n) (hst : st.length ≤ 4) (hfit : j_fit R d1 mc1 ms1 cells slots) (h0 : st0 = as.reverse ++ st) (hx : ∀ E k, ¬ Q1 (.inr E) k)
    (kk : ∀ (v : Option Value) (h1 : MH), Q1 (.inl v) h1 → JJ p l e R s m args below meth c D tyc A n0 ad0 nL Qs (pc + 3) L (v.toList ++ st) h1 (cells + mc1) (slots + ms1)) : JJ p l e R s m args below meth c D tyc A n0 ad0 nL Qs pc L st0 h cells slots := by
  subst h0
  intro ad ls H locs I
  obtain ⟨w1, w3, w4, w5, w6⟩ := hm
  have e0 : (as.reverse ++ st).map (j_cv ad) = (as.map (j_cv ad)).reverse ++ st.map (j_cv ad) := by rw [List.map_append, List.map_reverse]
  have hargs : ∀ v ∈ as, j_ok h.1 v := fun v hv => I.2.2.2.2.2.2.1 v (List.mem_append_left _ (List.mem_reverse.mpr hv))
  have hM := hcon l D tyc ad H.size x.2.2.2.2.2.2.2.2.1 I.2.2.2.2.2.1 hargs
  rw [e0]
  refine j_run (a := (as.map (j_cv ad)).toArray) x I (vx_runS (As := as.map (j_cv ad)) ⟨x.1, x.2.1, x.2.2.1, x.2.2.2.1, x.2.2.2.2.1⟩ hM (va_cwS n x.2.2.2.2.1 (j_good ?_) rfl rfl rfl w5 (hfit.1 maxL w6)) ⟨j_BP.blind hF, fun U hU hW => ⟨rfl, j_preP hF hX x I hU hW⟩⟩ rfl (by rw [List.length_map]; exact hn) I.1.1 rfl (lv_room (j_room hst)) hd ⟨hfit.2.1, hfit.2.2⟩) (fun E h1 ad1 => j_no hx (H := #[]) E h1 ad1 ls) kk
  exact j_mem_cons (ws := [Cond.static y, Cond.initialized y.cls] ++ (Cond.code y bytes maxL ret :: j_all)) hw (j_mem_cons w1 (j_mem_cons w3 (j_mem_cons w4 fun _ h => h)))
theorem j_callVXP (hF : j_pin F) (hX : F A s s.heap) (x : j_X p l s m args meth c D tyc A own cc nL) {ci : Nat} {q : vw_C} {ty : Nat → FieldType} (hd : decode cc pc = .ok (.invokevirtual idx, 3)) (hcon : ConP d1 mc1 ms1 y bytes maxL ret (.ref b :: as) h F Q1) (hm : j_mV y bytes maxL ret n) (hw : Cond.methodLink own idx y ∈ j_all) (hq : j_cls ci q ty) (hqy : q.1 = y.cls)
    (hb : b < h.1) (htb : (h.2 b).1 = ci) (hn : as.length = n) (hst : st.length ≤ 4) (hfit : j_fit R d1 mc1 ms1 cells slots) (h0 : st0 = as.reverse ++ .ref b :: st)
    (kx : ∀ (E : String) (h1 : MH) (ad1 : Nat → Nat) (ls : Array Slot) (H1 : Heap) (locs1 : List Loc) (q : Addr) (ce : Cell), Q1 (.inr E) h1 → j_I s D tyc A n0 ad0 nL ad1 L st h1 ls H1 locs1 → H1[q]? = some ce → ce.vm = .none → s.vm.findClass E = some ce.cls → vx_W p l e R s m args below meth c H1 locs1 (cells + mc1) (slots + ms1) Qs (F0 m pc ls (st.map (j_cv ad1))) q)
    (kk : ∀ (v : Option Value) (h1 : MH), Q1 (.inl v) h1 → JJ p l e R s m args below meth c D tyc A n0 ad0 nL Qs (pc + 3) L (v.toList ++ st) h1 (cells + mc1) (slots + ms1)) : JJ p l e R s m args below meth c D tyc A n0 ad0 nL Qs pc L st0 h cells slots := by
  subst h0
  intro ad ls H locs I
  obtain ⟨w1, w2, w3, w4, w5, w6⟩ := hm
  have e0 : (as.reverse ++ .ref b :: st).map (j_cv ad) = (as.map (j_cv ad)).reverse ++ Value.ref (ad b) :: st.map (j_cv ad) := by rw [List.map_append, List.map_reverse]; rfl
  have I2 : j_I s D tyc A n0 ad0 nL ad L ((as.reverse ++ [.ref b]) ++ st) h ls H locs := by rw [List.append_assoc]; exact I
  have hargs : ∀ v ∈ Value.ref b :: as, j_ok h.1 v := fun v hv => (List.mem_cons.mp hv).elim (fun e => by rw [e]; exact j_ok_ref hb) (fun hv => I.2.2.2.2.2.2.1 v (List.mem_append_left _ (List.mem_reverse.mpr hv)))
  have hM := hcon l D tyc ad H.size x.2.2.2.2.2.2.2.2.1 I.2.2.2.2.2.1 hargs
  have he : (j_w tyc ad h)[b]? = some (ad b, .inr (ci, (List.range (h.2 b).2.1).map fun k => j_cv ad ((h.2 b).2.2 k))) := by rw [j_w_get hb, j_e_obj htb hq.2.1]
  rw [e0]
  refine j_run (a := (Value.ref (ad b) :: as.map (j_cv ad)).toArray) x I2 (vx_runV (C := q.1) (As := as.map (j_cv ad)) ⟨x.1, x.2.1, x.2.2.1, x.2.2.2.1, x.2.2.2.2.1⟩ hM (cwV n x.2.2.2.2.1 (j_good ?_) rfl rfl rfl ⟨hqy.symm, w5⟩ (hfit.1 maxL w6)) ⟨j_BP.blind hF, va_recv x.2.2.2.2.2.1 I.2.1 hq.1 he, fun U hU hW => ⟨rfl, j_preP hF hX x I hU hW⟩⟩ rfl (by rw [List.length_map]; exact hn) I.1.1 rfl (lv_room (j_room hst)) hd ⟨hfit.2.1, hfit.2.2⟩) (fun E h1 ad1 => kx E h1 ad1 ls) kk
  rw [hqy]
  exact j_mem_cons (ws := [Cond.instanceMethod y, Cond.selects y.cls y y, Cond.initialized y.cls] ++ (Cond.code y bytes maxL ret :: j_all)) hw (j_mem_cons w1 (j_mem_cons w2 (j_mem_cons w3 (j_mem_cons w4 fun _ h => h))))
theorem j_callVUP (hF : j_pin F) (hX : F A s s.heap) (x : j_X p l s m args meth c D tyc A own cc nL) {ci : Nat} {q : vw_C} {ty : Nat → FieldType} (hd : decode cc pc = .ok (.invokevirtual idx, 3)) (hcon : ConP d1 mc1 ms1 y bytes maxL ret (.ref bb :: as) h F Q1)
    (hm : j_mU y bytes maxL ret n) (hw : Cond.methodLink own idx y ∈ j_all) (hq : j_cls ci q ty) (hqy : q.1 = "java/lang/StringBuilder")
    (hb : bb < h.1) (htb : (h.2 bb).1 = ci) (hn : as.length = n) (hst : st.length ≤ 4) (hfit : j_fit R d1 mc1 ms1 cells slots) (h0 : st0 = as.reverse ++ .ref bb :: st) (hx : ∀ E k, ¬ Q1 (.inr E) k)
    (kk : ∀ (v : Option Value) (h1 : MH), Q1 (.inl v) h1 → JJ p l e R s m args below meth c D tyc A n0 ad0 nL Qs (pc + 3) L (v.toList ++ st) h1 (cells + mc1) (slots + ms1)) : JJ p l e R s m args below meth c D tyc A n0 ad0 nL Qs pc L st0 h cells slots := by
  subst h0
  intro ad ls H locs I
  obtain ⟨w1, w2, w3, w4, w5, w6, w7⟩ := hm
  have e0 : (as.reverse ++ .ref bb :: st).map (j_cv ad) = (as.map (j_cv ad)).reverse ++ Value.ref (ad bb) :: st.map (j_cv ad) := by rw [List.map_append, List.map_reverse]; rfl
  have I2 : j_I s D tyc A n0 ad0 nL ad L ((as.reverse ++ [.ref bb]) ++ st) h ls H locs := by rw [List.append_assoc]; exact I
  have hargs : ∀ v ∈ Value.ref bb :: as, j_ok h.1 v := fun v hv => (List.mem_cons.mp hv).elim (fun e => by rw [e]; exact j_ok_ref hb) (fun hv => I.2.2.2.2.2.2.1 v (List.mem_append_left _ (List.mem_reverse.mpr hv)))
  have hM := hcon l D tyc ad H.size x.2.2.2.2.2.2.2.2.1 I.2.2.2.2.2.1 hargs
  have he : (j_w tyc ad h)[bb]? = some (ad bb, .inr (ci, (List.range (h.2 bb).2.1).map fun k => j_cv ad ((h.2 bb).2.2 k))) := by rw [j_w_get hb, j_e_obj htb hq.2.1]
  have hsel : (Cond.selects q.1 y y).before args s = true := by
    rw [hqy]
    exact x.2.2.2.2.1 _ w7
  have hG : GoodIn j_all (Cond.code y bytes maxL ret :: j_all) := j_good (j_mem_cons w4 (fun _ h => h))
  have hdec : va_Decl s y := va_Decl.of (x.2.2.2.2.1 _ w2) (x.2.2.2.2.1 _ w4)
  rw [e0]
  refine j_run (a := (Value.ref (ad bb) :: as.map (j_cv ad)).toArray) x I2 (vx_runU (n := n) (C := q.1) (owner := y.cls) (x := y) (As := as.map (j_cv ad)) ⟨x.1, x.2.1, x.2.2.1, x.2.2.2.1, x.2.2.2.2.1⟩ hM ⟨⟨rfl, rfl, (hfit.1 maxL w6).1, (hfit.1 maxL w6).2, pay_in x.2.2.2.2.1 hG, List.mem_cons_self⟩, x.2.2.2.2.1 _ w4, x.2.2.2.2.1 _ w3, ⟨w5.1, w5.2.1⟩, fun sig hs => ?_, x.2.2.2.2.1 _ hw, x.2.2.2.2.1 _ w1, hdec, hsel, x.2.2.2.2.1 _ w2⟩ ⟨j_BP.blind hF, va_recv x.2.2.2.2.2.1 I.2.1 hq.1 he, fun U hU hW => ⟨rfl, j_preP hF hX x I hU hW⟩⟩ rfl (by rw [List.length_map]; exact hn) I.1.1 rfl (lv_room (j_room hst)) hd ⟨hfit.2.1, hfit.2.2⟩) (fun E h1 ad1 => j_no hx (H := #[]) E h1 ad1 ls) kk
  have h2 := w5.2.2
  rw [hs] at h2
  exact (Option.some.inj h2).symm
/-! ===== the bytes of the line ===== -/
/-- a method that is declared in the super class and taken from the class -/
theorem j_callVO (x : j_X p l s m args meth c D tyc A own cc nL) {ci : Nat} {q : vw_C} {ty : Nat → FieldType} (hd : decode cc pc = .ok (.invokevirtual idx, 3)) (hcon : Con d1 mc1 ms1 y bytes maxL ret (.ref bb :: as) h Q1)
    {z : MethodName} {bz : ByteArray} {mz : Nat} {rz : Option FieldType} (hm : Cond.sameMethod z.cls z.cls z.name z.desc ∈ j_all ∧ Cond.instanceMethod y ∈ j_all ∧ Cond.initialized y.cls ∈ j_all ∧ Cond.code y bytes maxL ret ∈ j_all ∧ (z.cls ≠ "java/lang/invoke/MethodHandle" ∧ z.cls ≠ "java/lang/invoke/VarHandle" ∧ (parseMethodDescriptor z.desc).map (fun d => d.parameters.length) = some n) ∧ maxL ≤ 40 ∧ Cond.selects "java/lang/StringBuilder" z y ∈ j_all) (hz : Cond.instanceMethod z ∈ j_all ∧ Cond.code z bz mz rz ∈ j_all) (hw : Cond.methodLink own idx z ∈ j_all) (hq : j_cls ci q ty) (hqy : q.1 = "java/lang/StringBuilder")
    (hb : bb < h.1) (htb : (h.2 bb).1 = ci) (hn : as.length = n) (hst : st.length ≤ 4) (hfit : j_fit R d1 mc1 ms1 cells slots) (h0 : st0 = as.reverse ++ .ref bb :: st) (hx : ∀ E k, ¬ Q1 (.inr E) k)
    (kk : ∀ (v : Option Value) (h1 : MH), Q1 (.inl v) h1 → JJ p l e R s m args below meth c D tyc A n0 ad0 nL Qs (pc + 3) L (v.toList ++ st) h1 (cells + mc1) (slots + ms1)) : JJ p l e R s m args below meth c D tyc A n0 ad0 nL Qs pc L st0 h cells slots := by
  subst h0
  intro ad ls H locs I
  obtain ⟨w1, w2, w3, w4, w5, w6, w7⟩ := hm
  have e0 : (as.reverse ++ .ref bb :: st).map (j_cv ad) = (as.map (j_cv ad)).reverse ++ Value.ref (ad bb) :: st.map (j_cv ad) := by rw [List.map_append, List.map_reverse]; rfl
  have I2 : j_I s D tyc A n0 ad0 nL ad L ((as.reverse ++ [.ref bb]) ++ st) h ls H locs := by rw [List.append_assoc]; exact I
  have hargs : ∀ v ∈ Value.ref bb :: as, j_ok h.1 v := fun v hv => (List.mem_cons.mp hv).elim (fun e => by rw [e]; exact j_ok_ref hb) (fun hv => I.2.2.2.2.2.2.1 v (List.mem_append_left _ (List.mem_reverse.mpr hv)))
  have hM := hcon l D tyc ad H.size x.2.2.2.2.2.2.2.2.1 I.2.2.2.2.2.1 hargs
  have he : (j_w tyc ad h)[bb]? = some (ad bb, .inr (ci, (List.range (h.2 bb).2.1).map fun k => j_cv ad ((h.2 bb).2.2 k))) := by rw [j_w_get hb, j_e_obj htb hq.2.1]
  have hsel : (Cond.selects q.1 z y).before args s = true := by
    rw [hqy]
    exact x.2.2.2.2.1 _ w7
  have hG : GoodIn j_all (Cond.code y bytes maxL ret :: j_all) := j_good (j_mem_cons w4 (fun _ h => h))
  have hdec : va_Decl s z := va_Decl.of (x.2.2.2.2.1 _ hz.1) (x.2.2.2.2.1 _ hz.2)
  rw [e0]
  refine j_run (a := (Value.ref (ad bb) :: as.map (j_cv ad)).toArray) x I2 (vx_runU (n := n) (C := q.1) (owner := z.cls) (x := z) (As := as.map (j_cv ad)) ⟨x.1, x.2.1, x.2.2.1, x.2.2.2.1, x.2.2.2.2.1⟩ hM ⟨⟨rfl, rfl, (hfit.1 maxL w6).1, (hfit.1 maxL w6).2, pay_in x.2.2.2.2.1 hG, List.mem_cons_self⟩, x.2.2.2.2.1 _ w4, x.2.2.2.2.1 _ w3, ⟨w5.1, w5.2.1⟩, fun sig hs => ?_, x.2.2.2.2.1 _ hw, x.2.2.2.2.1 _ w1, hdec, hsel, x.2.2.2.2.1 _ w2⟩ ⟨j_B.blind, va_recv x.2.2.2.2.2.1 I.2.1 hq.1 he, fun U hU hW => ⟨rfl, j_pre x I hU hW⟩⟩ rfl (by rw [List.length_map]; exact hn) I.1.1 rfl (lv_room (j_room hst)) hd ⟨hfit.2.1, hfit.2.2⟩) (fun E h1 ad1 => j_no hx (H := #[]) E h1 ad1 ls) kk
  have h2 := w5.2.2
  rw [hs] at h2
  exact (Option.some.inj h2).symm
/-! ===== the bytes of the line ===== -/
theorem j_callSUP (hF : j_pin F) (hX : F A s s.heap) (x : j_X p l s m args meth c D tyc A own cc nL) {ci : Nat} {q : vw_C} {ty : Nat → FieldType} (hd : decode cc pc = .ok (.invokespecial idx, 3)) (hcon : ConP d1 mc1 ms1 y bytes maxL ret (.ref b :: as) h F Q1)
    (hm : Cond.sameMethod y.cls y.cls y.name y.desc ∈ j_all ∧ Cond.superclass own y.cls ∈ j_all ∧ Cond.instanceMethod y ∈ j_all ∧ Cond.initialized y.cls ∈ j_all ∧ Cond.code y bytes maxL ret ∈ j_all ∧ (y.name ≠ "<init>" ∧ (parseMethodDescriptor y.desc).map (fun d => d.parameters.length) = some n) ∧ maxL ≤ 40) (hw : Cond.methodLink own idx y ∈ j_all) (hq : j_cls ci q ty)
    (hb : b < h.1) (htb : (h.2 b).1 = ci) (hn : as.length = n) (hst : st.length ≤ 4) (hfit : j_fit R d1 mc1 ms1 cells slots) (h0 : st0 = as.reverse ++ .ref b :: st) (hx : ∀ E k, ¬ Q1 (.inr E) k)
    (kk : ∀ (v : Option Value) (h1 : MH), Q1 (.inl v) h1 → JJ p l e R s m args below meth c D tyc A n0 ad0 nL Qs (pc + 3) L (v.toList ++ st) h1 (cells + mc1) (slots + ms1)) : JJ p l e R s m args below meth c D tyc A n0 ad0 nL Qs pc L st0 h cells slots := by
  subst h0
  intro ad ls H locs I
  obtain ⟨w1, w2, w3, w4, w5, w6, w7⟩ := hm
  have e0 : (as.reverse ++ .ref b :: st).map (j_cv ad) = (as.map (j_cv ad)).reverse ++ Value.ref (ad b) :: st.map (j_cv ad) := by rw [List.map_append, List.map_reverse]; rfl
  have I2 : j_I s D tyc A n0 ad0 nL ad L ((as.reverse ++ [.ref b]) ++ st) h ls H locs := by rw [List.append_assoc]; exact I
  have hargs : ∀ v ∈ Value.ref b :: as, j_ok h.1 v := fun v hv => (List.mem_cons.mp hv).elim (fun e => by rw [e]; exact j_ok_ref hb) (fun hv => I.2.2.2.2.2.2.1 v (List.mem_append_left _ (List.mem_reverse.mpr hv)))
  have hM := hcon l D tyc ad H.size x.2.2.2.2.2.2.2.2.1 I.2.2.2.2.2.1 hargs
  have he : (j_w tyc ad h)[b]? = some (ad b, .inr (ci, (List.range (h.2 b).2.1).map fun k => j_cv ad ((h.2 b).2.2 k))) := by rw [j_w_get hb, j_e_obj htb hq.2.1]
  rw [e0]
  refine j_run (a := (Value.ref (ad b) :: as.map (j_cv ad)).toArray) x I2 (vx_runSU (C := q.1) (As := as.map (j_cv ad)) (x.2.2.2.2.2.1.1 ci q hq.1).2 ⟨x.1, x.2.1, x.2.2.1, x.2.2.2.1, x.2.2.2.2.1⟩ hM (va_cwSU n x.2.2.2.2.1 (j_good ?_) rfl rfl rfl w6 (hfit.1 maxL w7)) ⟨j_BP.blind hF, va_recv x.2.2.2.2.2.1 I.2.1 hq.1 he, fun U hU hW => ⟨rfl, j_preP hF hX x I hU hW⟩⟩ rfl (by rw [List.length_map]; exact hn) I.1.1 rfl (lv_room (j_room hst)) hd ⟨hfit.2.1, hfit.2.2⟩) (fun E h1 ad1 => j_no hx (H := #[]) E h1 ad1 ls) kk
  exact j_mem_cons (ws := [Cond.sameMethod y.cls y.cls y.name y.desc, Cond.superclass own y.cls, Cond.instanceMethod y, Cond.initialized y.cls] ++ (Cond.code y bytes maxL ret :: j_all)) hw (j_mem_cons w1 (j_mem_cons w2 (j_mem_cons w3 (j_mem_cons w4 (j_mem_cons w5 fun _ h => h)))))
theorem j_callRP (hF : j_pin F) (hX : F A s s.heap) (x : j_X p l s m args meth c D tyc A own cc nL) (hd : decode cc pc = .ok (.invokevirtual idx, 3)) (hcon : ConP d1 mc1 ms1 y bytes maxL ret (.retAddr b :: as) h F Q1) (hm : j_mV y bytes maxL ret n) (hw : Cond.methodLink own idx y ∈ j_all)
    (hrec : ∀ (H : Heap) (locs : List Loc), va_S A s.heap H locs → ∃ cell : Cell, H[b]? = some cell ∧ cell.vm.isStatics = false ∧ s.vm.findClass y.cls = some cell.cls) (hn : as.length = n) (hst : st.length ≤ 4) (hfit : j_fit R d1 mc1 ms1 cells slots) (h0 : st0 = as.reverse ++ .retAddr b :: st)
    (kx : ∀ (E : String) (h1 : MH) (ad1 : Nat → Nat) (ls : Array Slot) (H1 : Heap) (locs1 : List Loc) (q : Addr) (ce : Cell), Q1 (.inr E) h1 → j_I s D tyc A n0 ad0 nL ad1 L st h1 ls H1 locs1 → H1[q]? = some ce → ce.vm = .none → s.vm.findClass E = some ce.cls → vx_W p l e R s m args below meth c H1 locs1 (cells + mc1) (slots + ms1) Qs (F0 m pc ls (st.map (j_cv ad1))) q)
    (kk : ∀ (v : Option Value) (h1 : MH), Q1 (.inl v) h1 → JJ p l e R s m args below meth c D tyc A n0 ad0 nL Qs (pc + 3) L (v.toList ++ st) h1 (cells + mc1) (slots + ms1)) : JJ p l e R s m args below meth c D tyc A n0 ad0 nL Qs pc L st0 h cells slots := by
  subst h0
  intro ad ls H locs I
  obtain ⟨w1, w2, w3, w4, w5, w6⟩ := hm
  have e0 : (as.reverse ++ .retAddr b :: st).map (j_cv ad) = (as.map (j_cv ad)).reverse ++ Value.ref b :: st.map (j_cv ad) := by rw [List.map_append, List.map_reverse]; rfl
  have I2 : j_I s D tyc A n0 ad0 nL ad L ((as.reverse ++ [.retAddr b]) ++ st) h ls H locs := by rw [List.append_assoc]; exact I
  have hargs : ∀ v ∈ Value.retAddr b :: as, j_ok h.1 v := fun v hv => (List.mem_cons.mp hv).elim (fun e => by rw [e]; exact j_ok_raw) (fun hv => I.2.2.2.2.2.2.1 v (List.mem_append_left _ (List.mem_reverse.mpr hv)))
  have hM := hcon l D tyc ad H.size x.2.2.2.2.2.2.2.2.1 I.2.2.2.2.2.1 hargs
  rw [e0]
  refine j_run (a := (Value.ref b :: as.map (j_cv ad)).toArray) x I2 (vx_runV (C := y.cls) (As := as.map (j_cv ad)) ⟨x.1, x.2.1, x.2.2.1, x.2.2.2.1, x.2.2.2.2.1⟩ hM (cwV n x.2.2.2.2.1 (j_good ?_) rfl rfl rfl ⟨rfl, w5⟩ (hfit.1 maxL w6)) ⟨j_BP.blind hF, hrec H locs I.2.2.2.1, fun U hU hW => ⟨rfl, j_preP hF hX x I hU hW⟩⟩ rfl (by rw [List.length_map]; exact hn) I.1.1 rfl (lv_room (j_room hst)) hd ⟨hfit.2.1, hfit.2.2⟩) (fun E h1 ad1 => kx E h1 ad1 ls) kk
  exact j_mem_cons (ws := [Cond.instanceMethod y, Cond.selects y.cls y y, Cond.initialized y.cls] ++ (Cond.code y bytes maxL ret :: j_all)) hw (j_mem_cons w1 (j_mem_cons w2 (j_mem_cons w3 (j_mem_cons w4 fun _ h => h))))
end JP
theorem ConP.at {d mc ms : Nat} {y : MethodName} {cc : ByteArray} {maxL : Nat} {ret : Option FieldType} {as : List Value} {h k : MH} {F : (Nat → Prop) → State → Heap → Prop} {Q : MO → MH → Prop} {a : Nat} (hF : j_pin F) (C : ConP d mc ms y cc maxL ret as h F Q) (hin : j_in a h k) (hh : j_okH h) (ha : ∀ v ∈ as, j_ok h.1 v) (hg : ∀ o h1, Q o h1 → h1.1 = h.1 ∨ k.1 = a + h.1) : ConP d mc ms y cc maxL ret (as.map (j_shv a)) k F (j_atQ a h k Q) := by
  intro l D tyc ad sz hl hk hak p e hA hB hC s m args below hf happ hP hT
  have hP1 : va_Pc (as.map (j_cv fun i => ad (a + i))) (j_BP D tyc (fun i => ad (a + i)) h sz F) args s := ⟨by rw [← j_at_args]; exact hP.1, j_in_B hin hP.2.1, hF.2 _ _ _ _ _ _ hP.2.2 (State.WarmedH.refl s) (fun _ _ _ => rfl) (fun q hq => j_in_A hin q hq)⟩
  obtain ⟨kk, o, h1, h2, h3, h4⟩ := C l D tyc (fun i => ad (a + i)) sz hl hh ha p e hA hB hC s m args below hf happ hP1 hT
  have hE0 : ∀ k1 ad1 t, h.1 ≤ k1.1 → (k1.1 = h.1 ∨ k.1 = a + h.1) → j_E D tyc (va_A (j_w tyc (fun i => ad (a + i)) h) sz) h.1 (fun i => ad (a + i)) k1 ad1 s t → j_E D tyc (va_A (j_w tyc ad k) sz) k.1 ad (j_rep a h.1 k1 k) (fun i => if a ≤ i ∧ i < a + k1.1 then ad1 (i - a) else ad i) s t := fun k1 ad1 t _ hgk hE => j_E_at hin hk hP.2.1.1 (by exact hP.2.1.2.1) hP.2.1.2.2.2.1 hgk hE
  refine ⟨kk, o, h1, h2, h3, ?_⟩
  rcases h4 with ⟨⟨v, k1, ad1, e1, e2, e3, e5⟩, L, e4, e6⟩ | ⟨q, e0, E, ce, Lc, ⟨k1, ad1, e2, e3⟩, e4, e5, e6, e7, e8, e9⟩
  · exact Or.inl ⟨⟨v.map (j_shv a), j_rep a h.1 k1 k, _, by rw [e1, j_at_v (ad := ad) (a := a) e3], ⟨.inl v, k1, e2, e5.1.1, rfl, rfl⟩, fun w hw => by
      cases v with
      | none => cases hw
      | some u => cases hw; exact j_at_ok (e3 u rfl) (by show a + k1.1 ≤ k.1 + (k1.1 - h.1); have := e5.1.1; have := hin.1; omega), hE0 k1 ad1 _ e5.1.1 (hg _ _ e2) e5⟩, L, e4, fun q hq => j_in_A hin _ (e6 q hq)⟩
  · exact Or.inr ⟨q, e0, E, ce, Lc, ⟨j_rep a h.1 k1 k, _, ⟨.inr E, k1, e2, e3.1.1, rfl, rfl⟩, hE0 k1 ad1 _ e3.1.1 (hg _ _ e2) e3⟩, e4, e5, e6, e7, e8, fun z hz => j_in_A hin _ (e9 z hz)⟩
