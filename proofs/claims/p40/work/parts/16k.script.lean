/-! ===== contracts of methods that read the script: an int row at the address a, which nobody writes ===== -/
def j_scr (a N : Nat) (xs : Nat → Int32) (A : Nat → Prop) (U : State) (H : Heap) : Prop := va_X a N xs U H ∧ a < H.size ∧ ¬ A a
def j_BS (D : va_G) (tyc : Nat → ClassId) (ad : Nat → Nat) (h : MH) (sz a N : Nat) (xs : Nat → Int32) (U : State) : Prop := j_B D tyc ad h sz U ∧ j_scr a N xs (va_A (j_w tyc ad h) sz) U U.heap
theorem j_BS.blind {D : va_G} {tyc : Nat → ClassId} {ad : Nat → Nat} {h : MH} {sz a N : Nat} {xs : Nat → Int32} {as : List Value} : FrameBlind (va_Pc as (j_BS D tyc ad h sz a N xs)) := fun a U g mk q => by
  obtain ⟨q0, ⟨q1, qP, qK, qD, qE⟩, qX, qs, qA⟩ := q
  exact ⟨q0, ⟨q1, qP, va_K.moved (u := U) (U := U.calling g mk a) (Vm.Alike.refl U.vm) qK, qD, qE.blind⟩, va_X.moved (u := U) (U := U.calling g mk a) (Vm.Alike.refl U.vm) qX, qs, qA⟩
def ConS (d mc ms : Nat) (y : MethodName) (cc : ByteArray) (maxL : Nat) (ret : Option FieldType) (as : List Value) (h : MH) (a N : Nat) (xs : Nat → Int32) (Q : MO → MH → Prop) : Prop :=
  ∀ (l : Launch) (D : va_G) (tyc : Nat → ClassId) (ad : Nat → Nat) (sz : Nat), l.stackTraces = false → j_okH h → (∀ v ∈ as, j_ok h.1 v) →
    vx_Met l y (Cond.code y cc maxL ret :: j_all) (j_rm d mc ms) (va_Pc (as.map (j_cv ad)) (j_BS D tyc ad h sz a N xs)) (j_Qc D tyc (va_A (j_w tyc ad h) sz) h.1 ad Q) (j_XC D tyc (va_A (j_w tyc ad h) sz) h.1 ad Q) mc ms (va_A (j_w tyc ad h) sz)
theorem ConS.of {d mc ms : Nat} {y : MethodName} {cc : ByteArray} {maxL : Nat} {ret : Option FieldType} {as : List Value} {h : MH} {a N : Nat} {xs : Nat → Int32} {Q : MO → MH → Prop} (hy : plainName y.cls = true) (hn : as.length ≤ maxL) (hc : as.all (fun v => v.category == 1) = true)
    (body : ∀ (p : Program) (l : Launch) (e : Env) (s : State) (m : MethodId) (args : Array Value) (below : List Frame) (meth : Method) (c : Code) (D : va_G) (tyc : Nat → ClassId) (A : Nat → Prop) (ad0 : Nat → Nat), j_X p l s m args meth c D tyc A y.cls cc maxL → meth.sig.returnType = ret → (∀ z ∈ c.exceptionTable.toList, False) → meth.name = y.name → j_scr a N xs A s s.heap →
      JJ p l e (j_rm d mc ms) s m args below meth c D tyc A h.1 ad0 maxL (vx_MQ below (j_Qc D tyc A h.1 ad0 Q) (j_XC D tyc A h.1 ad0 Q) args s mc ms A) 0 (j_L0 maxL as) [] h 0 0) : ConS d mc ms y cc maxL ret as h a N xs Q := by
  intro l D tyc ad sz hl hh ha
  have hc : ∀ v ∈ as, v.category = 1 := fun v hv => by simpa using List.all_eq_true.mp hc v hv
  refine vx_ofW (cc := cc) (maxL := maxL) (ret := ret) hy rfl ?_
  intro p e s m args below meth c s₁ B hml htab hv
  obtain ⟨rfl, ⟨hsz, hP, hK, hD0, hE⟩, hX⟩ := hv
  have hts := atoms_spec (ws := Cond.code y cc maxL ret :: j_all) B.pre
  subst hsz
  have hD := hD0.self (sz := s.heap.size)
  have hA : ∀ q : Nat, s.heap.size ≤ q → va_A (j_w tyc ad h) s.heap.size q := fun q h => Or.inr h
  have hl0 := lv_entry (as.map (j_cv ad)) (n := maxL) (by
    have e1 : ∀ (vs : List Value), (∀ v ∈ vs, v.category = 1) → (lg_sl (vs.map (j_cv ad))).length = vs.length := by
      intro vs
      induction vs with
      | nil => intro _; rfl
      | cons v vs ih =>
        intro hc
        have hv : ¬ (j_cv ad v).category = 2 := by rw [j_cv_cat, hc v List.mem_cons_self]; decide
        simp only [lg_sl, List.map_cons, List.flatMap_cons, if_neg hv, List.length_append, List.length_cons, List.length_nil]
        have := ih (fun w hw => hc w (List.mem_cons_of_mem _ hw))
        simp only [lg_sl] at this
        omega
    rw [e1 as hc]
    exact hn)
  rw [lg_entry_eq]
  have key := body p l e s m ((as.map (j_cv ad)).toArray) below meth c D tyc (va_A (j_w tyc ad h) s.heap.size) ad ⟨B.exec, B.bytes, hml, findClass_of_methodNamed B.named, fun w hw => hts w (List.mem_cons_of_mem _ hw), hK, hA, B.notSynchronized, hl, hE⟩ B.returns htab (name_of_methodNamed B.named B.method).1 hX
  exact key ad _ s.heap [] ⟨j_L.entry hn hc hl0, hP, hD, va_S.rf, ⟨Nat.le_refl _, fun _ _ => rfl⟩, hh, fun v hv => (by cases hv), fun v hv => ha v (by
    obtain ⟨i, hi⟩ := List.getElem?_of_mem hv
    exact List.mem_of_getElem? (j_L0_get hi))⟩
section JScr
variable {p : Program} {l : Launch} {e : Env} {R : Room} {s : State} {m : MethodId} {args : Array Value} {below : List Frame} {meth : Method} {c : Code} {D : va_G} {tyc : Nat → ClassId} {A : Nat → Prop} {n0 : Nat} {ad0 : Nat → Nat} {nL : Nat} {Qs : State → Prop}
variable {own : String} {cc : ByteArray} {pc : Nat} {L : List (Option Value)} {st : List Value} {h : MH} {cells slots d1 mc1 ms1 maxL idx n a N : Nat} {xs : Nat → Int32} {y : MethodName} {bytes : ByteArray} {ret : Option FieldType} {Q1 : MO → MH → Prop} {as st0 : List Value}
/-- a static method that reads the script -/
theorem j_callSS (x : j_X p l s m args meth c D tyc A own cc nL) (hX : j_scr a N xs A s s.heap) (hd : decode cc pc = .ok (.invokestatic idx, 3)) (hcon : ConS d1 mc1 ms1 y bytes maxL ret as h a N xs Q1) (hm : j_mS y bytes maxL ret n) (hw : Cond.methodLink own idx y ∈ j_all)
    (hn : as.length = n) (hst : st.length ≤ 4) (hfit : j_fit R d1 mc1 ms1 cells slots) (h0 : st0 = as.reverse ++ st) (hx : ∀ E k, ¬ Q1 (.inr E) k)
    (kk : ∀ (v : Option Value) (h1 : MH), Q1 (.inl v) h1 → JJ p l e R s m args below meth c D tyc A n0 ad0 nL Qs (pc + 3) L (v.toList ++ st) h1 (cells + mc1) (slots + ms1)) : JJ p l e R s m args below meth c D tyc A n0 ad0 nL Qs pc L st0 h cells slots := by
  subst h0
  intro ad ls H locs I
  obtain ⟨w1, w3, w4, w5, w6⟩ := hm
  have e0 : (as.reverse ++ st).map (j_cv ad) = (as.map (j_cv ad)).reverse ++ st.map (j_cv ad) := by rw [List.map_append, List.map_reverse]
  have hargs : ∀ v ∈ as, j_ok h.1 v := fun v hv => I.2.2.2.2.2.2.1 v (List.mem_append_left _ (List.mem_reverse.mpr hv))
  have hM := hcon l D tyc ad H.size x.2.2.2.2.2.2.2.2.1 I.2.2.2.2.2.1 hargs
  obtain ⟨x1, x2, x3⟩ := hX
  have hHa : H[a]? = s.heap[a]? := I.2.2.2.1.2.1 a x2 x3
  have hsc : j_scr a N xs (va_A (j_w tyc ad h) H.size) s H := ⟨x1.kept hHa, Nat.lt_of_lt_of_le x2 I.2.2.2.1.1, fun hq => by
    rcases hq with ⟨k, e, hk⟩ | hq
    · exact x3 (I.2.2.1.2 k _ hk)
    · exact absurd (Nat.lt_of_lt_of_le x2 I.2.2.2.1.1) (Nat.not_lt.mpr hq)⟩
  rw [e0]
  refine j_run (a := (as.map (j_cv ad)).toArray) x I (vx_runS (As := as.map (j_cv ad)) ⟨x.1, x.2.1, x.2.2.1, x.2.2.2.1, x.2.2.2.2.1⟩ hM (va_cwS n x.2.2.2.2.1 (j_good ?_) rfl rfl rfl w5 (hfit.1 maxL w6)) ⟨j_BS.blind, fun U hU hW => ⟨rfl, j_pre x I hU hW, by rw [hU]; exact va_X.moved hW.alike hsc.1, by rw [hU]; exact hsc.2.1, hsc.2.2⟩⟩ rfl (by rw [List.length_map]; exact hn) I.1.1 rfl (lv_room (j_room hst)) hd ⟨hfit.2.1, hfit.2.2⟩) (fun E h1 ad1 => j_no hx (H := #[]) E h1 ad1 ls) kk
  exact j_mem_cons (ws := [Cond.static y, Cond.initialized y.cls] ++ (Cond.code y bytes maxL ret :: j_all)) hw (j_mem_cons w1 (j_mem_cons w3 (j_mem_cons w4 fun _ h => h)))
end JScr
