/-! ===== calls on one of two parts of the store ===== -/
section JCat
variable {p : Program} {l : Launch} {e : Env} {R : Room} {s : State} {m : MethodId} {args : Array Value} {below : List Frame} {meth : Method} {c : Code} {D : va_G} {tyc : Nat → ClassId} {A : Nat → Prop} {n0 : Nat} {ad0 : Nat → Nat} {nL : Nat} {Qs : State → Prop}
variable {own : String} {cc : ByteArray} {pc : Nat} {L : List (Option Value)} {st : List Value} {g h : MH} {cells slots d1 mc1 ms1 maxL idx n : Nat} {y : MethodName} {bytes : ByteArray} {ret : Option FieldType} {Q1 : MO → MH → Prop} {as st0 : List Value}
/-- a static method with handlers, called on the second part -/
theorem j_callHR (x : j_X p l s m args meth c D tyc A own cc nL) {hh : List (Nat × Nat × Nat × Nat)} (hd : decode cc pc = .ok (.invokestatic idx, 3)) (hcon : ConH d1 mc1 ms1 y bytes maxL ret hh as h Q1) (hm : j_mH y bytes maxL ret hh n) (hw : Cond.methodLink own idx y ∈ j_all)
    (ha : ∀ v ∈ as, j_ok h.1 v) (hn : as.length = n) (hst : st.length ≤ 4) (hfit : j_fit R d1 mc1 ms1 cells slots) (h0 : st0 = (as.map (j_shv g.1)).reverse ++ st) (hx : ∀ E k, ¬ Q1 (.inr E) k)
    (kk : ∀ (v : Option Value) (h1 : MH), Q1 (.inl v) h1 → JJ p l e R s m args below meth c D tyc A n0 ad0 nL Qs (pc + 3) L ((v.map (j_shv g.1)).toList ++ st) (jcat g h1) (cells + mc1) (slots + ms1)) : JJ p l e R s m args below meth c D tyc A n0 ad0 nL Qs pc L st0 (jcat g h) cells slots := by
  refine j_okd fun k1 _ _ => ?_
  refine j_callSH x hd (ConH.at (a := g.1) hcon jcat_R (jcat_okR k1) ha (fun _ _ _ => Or.inr rfl)) hm hw (by rw [List.length_map]; exact hn) hst hfit h0 (fun E k z => ?_) (fun v k z => ?_)
  · obtain ⟨o1, h1, q1, q2, q3, -⟩ := z
    cases o1 with
    | inl v => cases q3
    | inr E1 => exact hx E1 h1 q1
  · obtain ⟨o1, h1, q1, q2, q3, rfl⟩ := z
    cases o1 with
    | inr E1 => cases q3
    | inl v1 =>
      cases q3
      obtain ⟨r1, r2⟩ := jrep_R (g := g) q2
      exact j_same r1.symm (by rw [r1]; exact r2) (kk v1 h1 q1)
/-- a static method, called on the second part -/
theorem j_callR (x : j_X p l s m args meth c D tyc A own cc nL) (hd : decode cc pc = .ok (.invokestatic idx, 3)) (hcon : Con d1 mc1 ms1 y bytes maxL ret as h Q1) (hm : j_mS y bytes maxL ret n) (hw : Cond.methodLink own idx y ∈ j_all)
    (ha : ∀ v ∈ as, j_ok h.1 v) (hn : as.length = n) (hst : st.length ≤ 4) (hfit : j_fit R d1 mc1 ms1 cells slots) (h0 : st0 = (as.map (j_shv g.1)).reverse ++ st) (hx : ∀ E k, ¬ Q1 (.inr E) k)
    (kk : ∀ (v : Option Value) (h1 : MH), Q1 (.inl v) h1 → JJ p l e R s m args below meth c D tyc A n0 ad0 nL Qs (pc + 3) L ((v.map (j_shv g.1)).toList ++ st) (jcat g h1) (cells + mc1) (slots + ms1)) : JJ p l e R s m args below meth c D tyc A n0 ad0 nL Qs pc L st0 (jcat g h) cells slots := by
  refine j_okd fun k1 _ _ => ?_
  refine j_callS x hd (Con.at (a := g.1) hcon jcat_R (jcat_okR k1) ha (fun _ _ _ => Or.inr rfl)) hm hw (by rw [List.length_map]; exact hn) hst hfit h0 (fun E k z => ?_) (fun v k z => ?_)
  · obtain ⟨o1, h1, q1, q2, q3, -⟩ := z
    cases o1 with
    | inl v => cases q3
    | inr E1 => exact hx E1 h1 q1
  · obtain ⟨o1, h1, q1, q2, q3, rfl⟩ := z
    cases o1 with
    | inr E1 => cases q3
    | inl v1 =>
      cases q3
      obtain ⟨r1, r2⟩ := jrep_R (g := g) q2
      exact j_same r1.symm (by rw [r1]; exact r2) (kk v1 h1 q1)
/-- a static method with handlers, called on the first part, which does not grow -/
theorem j_callHL (x : j_X p l s m args meth c D tyc A own cc nL) {hh : List (Nat × Nat × Nat × Nat)} (hd : decode cc pc = .ok (.invokestatic idx, 3)) (hcon : ConH d1 mc1 ms1 y bytes maxL ret hh as g Q1) (hm : j_mH y bytes maxL ret hh n) (hw : Cond.methodLink own idx y ∈ j_all)
    (hg : j_okH g) (ha : ∀ v ∈ as, j_ok g.1 v) (hn : as.length = n) (hst : st.length ≤ 4) (hfit : j_fit R d1 mc1 ms1 cells slots) (h0 : st0 = as.reverse ++ st) (hx : ∀ E k, ¬ Q1 (.inr E) k) (h1 : ∀ o k, Q1 o k → k.1 = g.1)
    (kk : ∀ (v : Option Value) (g1 : MH), Q1 (.inl v) g1 → JJ p l e R s m args below meth c D tyc A n0 ad0 nL Qs (pc + 3) L (v.toList ++ st) (jcat g1 h) (cells + mc1) (slots + ms1)) : JJ p l e R s m args below meth c D tyc A n0 ad0 nL Qs pc L st0 (jcat g h) cells slots := by
  have e0 : as.map (j_shv 0) = as := by
    rw [show j_shv 0 = id from funext fun v => j_shv_0, List.map_id]
  refine j_callSH x hd (ConH.at (a := 0) hcon jcat_L hg ha (fun o k z => Or.inl (h1 o k z))) hm hw (by rw [List.length_map]; exact hn) hst hfit (by rw [e0]; exact h0) (fun E k z => ?_) (fun v k z => ?_)
  · obtain ⟨o1, h1, q1, q2, q3, -⟩ := z
    cases o1 with
    | inl v => cases q3
    | inr E1 => exact hx E1 h1 q1
  · obtain ⟨o1, g1, q1, q2, q3, rfl⟩ := z
    cases o1 with
    | inr E1 => cases q3
    | inl v1 =>
      cases q3
      have e1 : (v1.map (j_shv 0)) = v1 := by cases v1 with
        | none => rfl
        | some w => exact congrArg some j_shv_0
      rw [e1]
      obtain ⟨r1, r2⟩ := jrep_L (h := h) (h1 _ _ q1)
      exact j_same r1.symm (by rw [r1]; exact r2) (kk v1 g1 q1)
end JCat
