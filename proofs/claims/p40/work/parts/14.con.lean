/-! ===== contracts ===== -/
/-- the room that a method of height d has: frames and words enough for what it calls, cells and slots as it says -/
def j_rm (d mc ms : Nat) : Room := { frames := 12 + d, cells := mc, slots := ms, locals := 150 + 60 * d }
def j_E (D : va_G) (tyc : Nat → ClassId) (A : Nat → Prop) (n0 : Nat) (ad0 : Nat → Nat) (h1 : MH) (ad1 : Nat → Nat) (s t : State) : Prop :=
  (n0 ≤ h1.1 ∧ ∀ i, i < n0 → ad1 i = ad0 i) ∧ va_P D vwCl (j_w tyc ad1 h1) t.heap ∧ va_D A (j_w tyc ad1 h1) ∧ j_okH h1 ∧ va_F A s t
def j_Qc (D : va_G) (tyc : Nat → ClassId) (A : Nat → Prop) (n0 : Nat) (ad0 : Nat → Nat) (Q : MO → MH → Prop) : Array Value → State → Outcome → State → Prop := fun _ s oc t =>
  ∃ (v : Option Value) (h1 : MH) (ad1 : Nat → Nat), oc = .returned (v.map (j_cv ad1)) ∧ Q (.inl v) h1 ∧ (∀ w, v = some w → j_ok h1.1 w) ∧ j_E D tyc A n0 ad0 h1 ad1 s t
def j_XC (D : va_G) (tyc : Nat → ClassId) (A : Nat → Prop) (n0 : Nat) (ad0 : Nat → Nat) (Q : MO → MH → Prop) : String → State → State → Prop := fun E s t =>
  ∃ (h1 : MH) (ad1 : Nat → Nat), Q (.inr E) h1 ∧ j_E D tyc A n0 ad0 h1 ad1 s t
def j_B (D : va_G) (tyc : Nat → ClassId) (ad : Nat → Nat) (h : MH) (sz : Nat) (U : State) : Prop := U.heap.size = sz ∧ va_P D vwCl (j_w tyc ad h) U.heap ∧ va_K D vwCl (j_tys tyc) U ∧ va_D (fun _ => True) (j_w tyc ad h) ∧ j_env (va_A (j_w tyc ad h) sz) U U.heap
theorem j_B.blind {D : va_G} {tyc : Nat → ClassId} {ad : Nat → Nat} {h : MH} {sz : Nat} {as : List Value} : FrameBlind (va_Pc as (j_B D tyc ad h sz)) := fun a U g mk q => by
  obtain ⟨q0, q1, qP, qK, qD, qE⟩ := q
  exact ⟨q0, q1, qP, va_K.moved (u := U) (U := U.calling g mk a) (Vm.Alike.refl U.vm) qK, qD, qE.blind⟩
/-- a contract: from the store h and the arguments as, method y comes to an end (.inl v: it returns v; .inr E: it throws an E) and a store of which Q holds -/
def Con (d mc ms : Nat) (y : MethodName) (cc : ByteArray) (maxL : Nat) (ret : Option FieldType) (as : List Value) (h : MH) (Q : MO → MH → Prop) : Prop :=
  ∀ (l : Launch) (D : va_G) (tyc : Nat → ClassId) (ad : Nat → Nat) (sz : Nat), l.stackTraces = false → j_okH h → (∀ v ∈ as, j_ok h.1 v) →
    vx_Met l y (Cond.code y cc maxL ret :: j_all) (j_rm d mc ms) (va_Pc (as.map (j_cv ad)) (j_B D tyc ad h sz)) (j_Qc D tyc (va_A (j_w tyc ad h) sz) h.1 ad Q) (j_XC D tyc (va_A (j_w tyc ad h) sz) h.1 ad Q) mc ms (va_A (j_w tyc ad h) sz)
/-- a method with a table of its own -/
def ConH (d mc ms : Nat) (y : MethodName) (cc : ByteArray) (maxL : Nat) (ret : Option FieldType) (hh : List (Nat × Nat × Nat × Nat)) (as : List Value) (h : MH) (Q : MO → MH → Prop) : Prop :=
  ∀ (l : Launch) (D : va_G) (tyc : Nat → ClassId) (ad : Nat → Nat) (sz : Nat), l.stackTraces = false → j_okH h → (∀ v ∈ as, j_ok h.1 v) →
    vx_Met l y (Cond.codeWith y cc maxL ret hh :: j_all) (j_rm d mc ms) (va_Pc (as.map (j_cv ad)) (j_B D tyc ad h sz)) (j_Qc D tyc (va_A (j_w tyc ad h) sz) h.1 ad Q) (j_XC D tyc (va_A (j_w tyc ad h) sz) h.1 ad Q) mc ms (va_A (j_w tyc ad h) sz)
theorem Con.mono {d mc ms : Nat} {y : MethodName} {cc : ByteArray} {maxL : Nat} {ret : Option FieldType} {as : List Value} {h : MH} {Q Q2 : MO → MH → Prop} (C : Con d mc ms y cc maxL ret as h Q) (hQ : ∀ o k, Q o k → Q2 o k) : Con d mc ms y cc maxL ret as h Q2 := by
  intro l D tyc ad sz hl hh ha p e hA hB hC s m args below hf happ hP hT
  obtain ⟨k, o, h1, h2, h3, h4⟩ := C l D tyc ad sz hl hh ha p e hA hB hC s m args below hf happ hP hT
  refine ⟨k, o, h1, h2, h3, ?_⟩
  rcases h4 with ⟨⟨v, k1, ad1, e1, e2, e3⟩, e4⟩ | ⟨q, e0, E, ce, Lc, ⟨k1, ad1, e2, e3⟩, e4⟩
  · exact Or.inl ⟨⟨v, k1, ad1, e1, hQ _ _ e2, e3⟩, e4⟩
  · exact Or.inr ⟨q, e0, E, ce, Lc, ⟨k1, ad1, hQ _ _ e2, e3⟩, e4⟩
theorem Con.of {d mc ms : Nat} {y : MethodName} {cc : ByteArray} {maxL : Nat} {ret : Option FieldType} {as : List Value} {h : MH} {Q : MO → MH → Prop} (hy : plainName y.cls = true) (hn : as.length ≤ maxL) (hc : as.all (fun v => v.category == 1) = true)
    (body : ∀ (p : Program) (l : Launch) (e : Env) (s : State) (m : MethodId) (args : Array Value) (below : List Frame) (meth : Method) (c : Code) (D : va_G) (tyc : Nat → ClassId) (A : Nat → Prop) (ad0 : Nat → Nat), j_X p l s m args meth c D tyc A y.cls cc maxL → meth.sig.returnType = ret → (∀ z ∈ c.exceptionTable.toList, False) → meth.name = y.name →
      JJ p l e (j_rm d mc ms) s m args below meth c D tyc A h.1 ad0 maxL (vx_MQ below (j_Qc D tyc A h.1 ad0 Q) (j_XC D tyc A h.1 ad0 Q) args s mc ms A) 0 (j_L0 maxL as) [] h 0 0) : Con d mc ms y cc maxL ret as h Q := by
  intro l D tyc ad sz hl hh ha
  have hc : ∀ v ∈ as, v.category = 1 := fun v hv => by simpa using List.all_eq_true.mp hc v hv
  refine vx_ofW (cc := cc) (maxL := maxL) (ret := ret) hy rfl ?_
  intro p e s m args below meth c s₁ B hml htab hv
  obtain ⟨rfl, hsz, hP, hK, hD0, hE⟩ := hv
  have hts := atoms_spec (ws := Cond.code y cc maxL ret :: j_all) B.pre
  subst hsz
  have hD := hD0.self (sz := s.heap.size)
  have hA : ∀ q : Nat, s.heap.size ≤ q → va_A (j_w tyc ad h) s.heap.size q := fun q h => Or.inr h
  have hl0 := lv_entry (as.map (j_cv ad)) (n := maxL) (by
    have e1 : ∀ (vs : List Value), (∀ v ∈ vs, v.category = 1) → (lg_sl (vs.map (j_cv ad))).length = vs.length := by
      intro vs
      induction vs with
      | nil => intro _; rfl
      | cons v vs ih =>
        intro hc
        have hv : ¬ (j_cv ad v).category = 2 := by rw [j_cv_cat, hc v List.mem_cons_self]; decide
        simp only [lg_sl, List.map_cons, List.flatMap_cons, if_neg hv, List.length_append, List.length_cons, List.length_nil]
        have := ih (fun w hw => hc w (List.mem_cons_of_mem _ hw))
        simp only [lg_sl] at this
        omega
    rw [e1 as hc]
    exact hn)
  rw [lg_entry_eq]
  have key := body p l e s m ((as.map (j_cv ad)).toArray) below meth c D tyc (va_A (j_w tyc ad h) s.heap.size) ad ⟨B.exec, B.bytes, hml, findClass_of_methodNamed B.named, fun w hw => hts w (List.mem_cons_of_mem _ hw), hK, hA, B.notSynchronized, hl, hE⟩ B.returns htab (name_of_methodNamed B.named B.method).1
  exact key ad _ s.heap [] ⟨j_L.entry hn hc hl0, hP, hD, va_S.rf, ⟨Nat.le_refl _, fun _ _ => rfl⟩, hh, fun v hv => (by cases hv), fun v hv => ha v (by
    obtain ⟨i, hi⟩ := List.getElem?_of_mem hv
    exact List.mem_of_getElem? (j_L0_get hi))⟩
section JC
variable {p : Program} {l : Launch} {e : Env} {R : Room} {s : State} {m : MethodId} {args : Array Value} {below : List Frame} {meth : Method} {c : Code} {D : va_G} {tyc : Nat → ClassId} {A : Nat → Prop} {n0 : Nat} {ad0 : Nat → Nat} {nL : Nat} {Qs : State → Prop}
variable {own : String} {cc : ByteArray} {pc : Nat} {L : List (Option Value)} {st : List Value} {h : MH} {cells slots mc ms : Nat} {Q : MO → MH → Prop}
theorem j_E.of {ad : Nat → Nat} {ls : Array Slot} {H : Heap} {locs : List Loc} {t : State} (I : j_I s D tyc A n0 ad0 nL ad L st h ls H locs) (ht : t.heap = H) : j_E D tyc A n0 ad0 h ad s t :=
  ⟨I.2.2.2.2.1, by rw [ht]; exact I.2.1, I.2.2.1, I.2.2.2.2.2.1, I.2.2.2.1.F ht⟩
theorem j_ireturn (x : j_X p l s m args meth c D tyc A own cc nL) {v : Int32} (hr : meth.sig.returnType = some .int) (hd : decode cc pc = .ok (.ireturn, 1)) (hc : cells ≤ mc) (hs : slots ≤ ms) (hq : Q (.inl (some (.int v))) h) : JJ p l e R s m args below meth c D tyc A n0 ad0 nL (vx_MQ below (j_Qc D tyc A n0 ad0 Q) (j_XC D tyc A n0 ad0 Q) args s mc ms A) pc L [.int v] h cells slots := by
  intro ad ls H locs I
  refine vx_ret (W.widen hc hs ?_)
  exact W.iret x.1 x.2.1 hr (fun t ht hW => ⟨some (.int v), h, ad, rfl, hq, fun w hw => by cases hw; exact j_ok_int, .of I ht⟩) I.2.2.2.1.2.2 hd x.2.2.2.2.2.2.2.1
theorem j_zreturn (x : j_X p l s m args meth c D tyc A own cc nL) {v : Int32} {ty : FieldType} (hr : meth.sig.returnType = some ty) (hd : decode cc pc = .ok (.ireturn, 1)) (hn : narrow ty (.int v) = .int v) (hc : cells ≤ mc) (hs : slots ≤ ms) (hq : Q (.inl (some (.int v))) h) : JJ p l e R s m args below meth c D tyc A n0 ad0 nL (vx_MQ below (j_Qc D tyc A n0 ad0 Q) (j_XC D tyc A n0 ad0 Q) args s mc ms A) pc L [.int v] h cells slots := by
  intro ad ls H locs I
  refine vx_ret (W.widen hc hs ?_)
  exact W.zret x.1 x.2.1 hr hn (fun t ht hW => ⟨some (.int v), h, ad, rfl, hq, fun w hw => by cases hw; exact j_ok_int, .of I ht⟩) I.2.2.2.1.2.2 hd x.2.2.2.2.2.2.2.1
theorem j_return (x : j_X p l s m args meth c D tyc A own cc nL) (hr : meth.sig.returnType = none) (hd : decode cc pc = .ok (.return_, 1)) (hc : cells ≤ mc) (hs : slots ≤ ms) (hq : Q (.inl none) h) : JJ p l e R s m args below meth c D tyc A n0 ad0 nL (vx_MQ below (j_Qc D tyc A n0 ad0 Q) (j_XC D tyc A n0 ad0 Q) args s mc ms A) pc L [] h cells slots := by
  intro ad ls H locs I
  refine vx_ret (W.widen hc hs ?_)
  exact W.vret x.1 x.2.1 hr (fun t ht hW => ⟨none, h, ad, rfl, hq, fun w hw => (by cases hw), .of I ht⟩) I.2.2.2.1.2.2 hd x.2.2.2.2.2.2.2.1
theorem j_areturn (x : j_X p l s m args meth c D tyc A own cc nL) {a : Nat} {rt : FieldType} (hr : meth.sig.returnType = some rt) (hrt : (∃ n, rt = .object n) ∨ ∃ t, rt = .array t) (hd : decode cc pc = .ok (.areturn, 1)) (hc : cells ≤ mc) (hs : slots ≤ ms) (hq : Q (.inl (some (.ref a))) h) : JJ p l e R s m args below meth c D tyc A n0 ad0 nL (vx_MQ below (j_Qc D tyc A n0 ad0 Q) (j_XC D tyc A n0 ad0 Q) args s mc ms A) pc L [.ref a] h cells slots := by
  intro ad ls H locs I
  refine vx_ret (W.widen hc hs ?_)
  exact W.aret x.1 x.2.1 hr hrt (Or.inr ⟨_, rfl⟩) (fun t ht hW => ⟨some (.ref a), h, ad, rfl, hq, fun w hw => by cases hw; exact I.2.2.2.2.2.2.1 _ List.mem_cons_self, .of I ht⟩) I.2.2.2.1.2.2 hd x.2.2.2.2.2.2.2.1
/-- behind a call -/
theorem j_run (x : j_X p l s m args meth c D tyc A own cc nL) {ad : Nat → Nat} {ls : Array Slot} {H : Heap} {locs : List Loc} {as : List Value} {a : Array Value} {mc1 ms1 : Nat} {Q1 : MO → MH → Prop} (I : j_I s D tyc A n0 ad0 nL ad L (as ++ st) h ls H locs) {st0 : List Value}
    (hr : vx_Run p l e R s m args below meth c H locs cells slots mc1 ms1 (F0 m pc ls st0) (st.map (j_cv ad)) (j_Qc D tyc (va_A (j_w tyc ad h) H.size) h.1 ad Q1 a) (j_XC D tyc (va_A (j_w tyc ad h) H.size) h.1 ad Q1) (va_A (j_w tyc ad h) H.size))
    (kx : ∀ (E : String) (h1 : MH) (ad1 : Nat → Nat) (H1 : Heap) (locs1 : List Loc) (q : Addr) (ce : Cell), Q1 (.inr E) h1 → j_I s D tyc A n0 ad0 nL ad1 L st h1 ls H1 locs1 → H1[q]? = some ce → ce.vm = .none → s.vm.findClass E = some ce.cls → vx_W p l e R s m args below meth c H1 locs1 (cells + mc1) (slots + ms1) Qs (F0 m pc ls (st.map (j_cv ad1))) q)
    (kk : ∀ (v : Option Value) (h1 : MH), Q1 (.inl v) h1 → JJ p l e R s m args below meth c D tyc A n0 ad0 nL Qs (pc + 3) L (v.toList ++ st) h1 (cells + mc1) (slots + ms1)) : W p l e R s m args below meth c H locs cells slots Qs (F0 m pc ls st0) := by
  have hA : ∀ q, va_A (j_w tyc ad h) H.size q → A q := by
    intro q hq
    rcases hq with ⟨k, e, hk⟩ | hq
    · exact I.2.2.1.2 k _ hk
    · exact x.2.2.2.2.2.2.1 q (Nat.le_trans I.2.2.2.1.1 hq)
  have hst : ∀ v ∈ st, j_ok h.1 v := fun v hv => I.2.2.2.2.2.2.1 v (List.mem_append_right _ hv)
  -- the invariant behind the call
  have next : ∀ (h1 : MH) (ad1 : Nat → Nat) (st₀ t T' : State) (Lc : List Loc) (w : List Value), st₀.heap = H → T'.heap = t.heap → (∀ q ∈ Lc, va_A (j_w tyc ad h) H.size q.base) → (∀ v ∈ w, j_ok h1.1 v) → j_E D tyc (va_A (j_w tyc ad h) H.size) h.1 ad h1 ad1 st₀ t → j_I s D tyc A n0 ad0 nL ad1 L (w ++ st) h1 ls T'.heap (locs ++ Lc) := by
    intro h1 ad1 st₀ t T' Lc w h0 e1 hLc hw E
    obtain ⟨⟨hn, had⟩, hP, hD, hok, hF⟩ := E
    have hS := I.2.2.2.1
    obtain ⟨k1, k2⟩ := hF
    rw [h0] at k1 k2
    refine ⟨I.1.ad had I.2.2.2.2.2.2.2, by rw [e1]; exact hP, hD.weaken (fun _ _ _ hq => hA _ hq), ⟨Nat.le_trans hS.1 (by rw [e1]; exact k1), fun q q1 q2 => ?_, fun q hq => ?_⟩, ⟨Nat.le_trans I.2.2.2.2.1.1 hn, fun i hi => ?_⟩, hok, fun v hv => ?_, fun v hv => j_ok_mono (I.2.2.2.2.2.2.2 v hv) hn⟩
    · rw [e1, k2 q (Nat.lt_of_lt_of_le q1 hS.1) (fun z => q2 (hA q z))]
      exact hS.2.1 q q1 q2
    · rcases List.mem_append.mp hq with hq | hq
      · exact hS.2.2 q hq
      · exact hA _ (hLc q hq)
    · rw [had i (Nat.lt_of_lt_of_le hi I.2.2.2.2.1.1)]
      exact I.2.2.2.2.1.2 i hi
    · rcases List.mem_append.mp hv with hv | hv
      · exact hw v hv
      · exact j_ok_mono (hst v hv) hn
  intro T hT X
  rcases hr T hT X with ⟨v0, st₀, t, T', Lc, h0, X', hLc, e1, e2, ⟨v, h1, ad1, ev, hq, hok, E⟩, go⟩ | ⟨q, st₀, t, T', Lc, E, ce, h0, X', hLc, e1, e2, ⟨h1, ad1, hq, E9⟩, hce, hcv, hcl, go⟩
  · have ev : v0 = v.map (j_cv ad1) := Outcome.returned.inj ev
    have I2 := next h1 ad1 st₀ t T' Lc v.toList h0 e1 hLc (fun w hw => hok w (by cases v with
      | none => cases hw
      | some u => rw [Option.toList_some, List.mem_singleton] at hw; rw [hw])) E
    obtain ⟨tt, a1, b1⟩ := kk v h1 hq ad1 ls T'.heap (locs ++ Lc) I2 T' rfl X'
    refine ⟨tt, go tt ?_, b1⟩
    have es : v0.toList ++ st.map (j_cv ad) = (v.toList ++ st).map (j_cv ad1) := by
      rw [ev, List.map_append]
      congr 1
      · cases v <;> rfl
      · exact List.map_congr_left fun w hw => (j_cv_eq E.1.2 (hst w hw)).symm
    rw [es]
    exact a1
  · have I2 := next h1 ad1 st₀ t T' Lc [] h0 e1 hLc (fun w hw => by cases hw) E9
    obtain ⟨tt, a1, b1⟩ := kx E h1 ad1 T'.heap (locs ++ Lc) q ce hq I2 (by rw [e1]; exact hce) hcv hcl T' rfl X'
    refine ⟨tt, go.trans ?_, b1⟩
    have es : st.map (j_cv ad) = st.map (j_cv ad1) := List.map_congr_left fun w hw => (j_cv_eq E9.1.2 (hst w hw)).symm
    rw [es]
    exact a1
/-- what a callee's start asks -/
theorem j_pre (x : j_X p l s m args meth c D tyc A own cc nL) {ad : Nat → Nat} {ls : Array Slot} {H : Heap} {locs : List Loc} (I : j_I s D tyc A n0 ad0 nL ad L st h ls H locs) {U : State} (hU : U.heap = H) (hW : s.WarmedH U.vm) : j_B D tyc ad h H.size U := by
  refine ⟨by rw [hU], by rw [hU]; exact I.2.1, va_K.moved hW.alike x.2.2.2.2.2.1, I.2.2.1.weaken (fun _ _ _ _ => trivial), ?_⟩
  rw [hU]
  refine x.2.2.2.2.2.2.2.2.2.go hW (fun q q1 q2 => I.2.2.2.1.2.1 q q1 q2) ?_
  intro q hq
  rcases hq with ⟨k, e, hk⟩ | hq
  · exact I.2.2.1.2 k _ hk
  · exact x.2.2.2.2.2.2.1 q (Nat.le_trans I.2.2.2.1.1 hq)
end JC
