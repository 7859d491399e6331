/-! ===== a static method whose one argument is a double ===== -/
def j_L0D (nL : Nat) (v : UInt64) : List (Option Value) := some (.double v) :: List.replicate (nL - 1) none
theorem j_L.entryD {ls : Array Slot} {nL : Nat} {ad : Nat → Nat} {v : UInt64} (hn : 2 ≤ nL) (h : lv_has ls nL (lv_args 0 [Value.double v])) : j_L ls nL ad (j_L0D nL v) := by
  refine ⟨h.1, h.2.1, by simp [j_L0D]; omega, fun i w hw => ?_⟩
  cases i with
  | zero =>
    simp only [j_L0D, List.getElem?_cons_zero, Option.some.injEq] at hw
    subst hw
    exact h.2.2 (0, .double v) List.mem_cons_self
  | succ i =>
    rw [j_L0D, List.getElem?_cons_succ] at hw
    have := List.eq_of_mem_replicate (List.mem_of_getElem? hw)
    cases this
theorem Con.ofD {d mc ms : Nat} {y : MethodName} {cc : ByteArray} {maxL : Nat} {ret : Option FieldType} {v : UInt64} {h : MH} {Q : MO → MH → Prop} (hy : plainName y.cls = true) (hn : 2 ≤ maxL)
    (body : ∀ (p : Program) (l : Launch) (e : Env) (s : State) (m : MethodId) (args : Array Value) (below : List Frame) (meth : Method) (c : Code) (D : va_G) (tyc : Nat → ClassId) (A : Nat → Prop) (ad0 : Nat → Nat), j_X p l s m args meth c D tyc A y.cls cc maxL → meth.sig.returnType = ret → (∀ z ∈ c.exceptionTable.toList, False) → meth.name = y.name →
      JJ p l e (j_rm d mc ms) s m args below meth c D tyc A h.1 ad0 maxL (vx_MQ below (j_Qc D tyc A h.1 ad0 Q) (j_XC D tyc A h.1 ad0 Q) args s mc ms A) 0 (j_L0D maxL v) [] h 0 0) : Con d mc ms y cc maxL ret [.double v] h Q := by
  intro l D tyc ad sz hl hh ha
  refine vx_ofW (cc := cc) (maxL := maxL) (ret := ret) hy rfl ?_
  intro p e s m args below meth c s₁ B hml htab hv
  obtain ⟨rfl, hsz, hP, hK, hD0, hE⟩ := hv
  have hts := atoms_spec (ws := Cond.code y cc maxL ret :: j_all) B.pre
  subst hsz
  have hD := hD0.self (sz := s.heap.size)
  have hA : ∀ q : Nat, s.heap.size ≤ q → va_A (j_w tyc ad h) s.heap.size q := fun q h => Or.inr h
  have hl0 := lv_entry [Value.double v] (n := maxL) (show 2 ≤ maxL from hn)
  rw [lg_entry_eq]
  have key := body p l e s m (([Value.double v].map (j_cv ad)).toArray) below meth c D tyc (va_A (j_w tyc ad h) s.heap.size) ad ⟨B.exec, B.bytes, hml, findClass_of_methodNamed B.named, fun w hw => hts w (List.mem_cons_of_mem _ hw), hK, hA, B.notSynchronized, hl, hE⟩ B.returns htab (name_of_methodNamed B.named B.method).1
  exact key ad _ s.heap [] ⟨j_L.entryD hn hl0, hP, hD, va_S.rf, ⟨Nat.le_refl _, fun _ _ => rfl⟩, hh, fun v hv => (by cases hv), fun w hw => (List.mem_cons.mp hw).elim (fun e => by cases e; exact j_ok_double) (fun e => by have := List.eq_of_mem_replicate e; cases this)⟩
