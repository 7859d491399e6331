/-! ===== the raw bits of a double, of a float: the two natives ===== -/
section JBits
variable {p : Program} {l : Launch} {e : Env} {R : Room} {s : State} {m : MethodId} {args : Array Value} {below : List Frame} {meth : Method} {c : Code} {D : va_G} {tyc : Nat → ClassId} {A : Nat → Prop} {n0 : Nat} {ad0 : Nat → Nat} {nL : Nat} {Q : State → Prop}
variable {own : String} {cc : ByteArray} {pc idx : Nat} {L : List (Option Value)} {st : List Value} {h : MH} {cells slots : Nat}
theorem j_d2l (x : j_X p l s m args meth c D tyc A own cc nL) {v : UInt64} (hd : decode cc pc = .ok (.invokestatic idx, 3)) (hw : Cond.methodLink own idx ⟨"java/lang/Double", "doubleToRawLongBits", "(D)J"⟩ ∈ j_all) (hw2 : Cond.native ⟨"java/lang/Double", "doubleToRawLongBits", "(D)J"⟩ ∈ j_all) (hw3 : Cond.static ⟨"java/lang/Double", "doubleToRawLongBits", "(D)J"⟩ ∈ j_all) (hw4 : Cond.initialized "java/lang/Double" ∈ j_all)
    (hst : st.length ≤ 4) (hR : 1 ≤ R.frames ∧ 23 ≤ R.locals) (kk : JJ p l e R s m args below meth c D tyc A n0 ad0 nL Q (pc + 3) L (.long v.toInt64 :: st) h cells slots) : JJ p l e R s m args below meth c D tyc A n0 ad0 nL Q pc L (.double v :: st) h cells slots := by
  intro ad ls H locs I
  have h8 := j_room (ad := ad) hst
  exact vn_d2l x.1 x.2.1 (x.2.2.1.trans I.1.1.symm) x.2.2.2.1 (x.2.2.2.2.1 _ hw) (x.2.2.2.2.1 _ hw2) (x.2.2.2.2.1 _ hw3) (x.2.2.2.2.1 _ hw4) hR.1 (by have := hR.2; omega) hd (kk ad ls H locs (I.st fun hs => j_ok_cons j_ok_long (j_ok_tl hs)))
theorem j_f2i (x : j_X p l s m args meth c D tyc A own cc nL) {v : UInt32} (hd : decode cc pc = .ok (.invokestatic idx, 3)) (hw : Cond.methodLink own idx ⟨"java/lang/Float", "floatToRawIntBits", "(F)I"⟩ ∈ j_all) (hw2 : Cond.native ⟨"java/lang/Float", "floatToRawIntBits", "(F)I"⟩ ∈ j_all) (hw3 : Cond.static ⟨"java/lang/Float", "floatToRawIntBits", "(F)I"⟩ ∈ j_all) (hw4 : Cond.initialized "java/lang/Float" ∈ j_all)
    (hst : st.length ≤ 4) (hR : 1 ≤ R.frames ∧ 23 ≤ R.locals) (kk : JJ p l e R s m args below meth c D tyc A n0 ad0 nL Q (pc + 3) L (.int v.toInt32 :: st) h cells slots) : JJ p l e R s m args below meth c D tyc A n0 ad0 nL Q pc L (.float v :: st) h cells slots := by
  intro ad ls H locs I
  have h8 := j_room (ad := ad) hst
  exact vn_f2i x.1 x.2.1 (x.2.2.1.trans I.1.1.symm) x.2.2.2.1 (x.2.2.2.2.1 _ hw) (x.2.2.2.2.1 _ hw2) (x.2.2.2.2.1 _ hw3) (x.2.2.2.2.1 _ hw4) hR.1 (by have := hR.2; omega) hd (kk ad ls H locs (I.st fun hs => j_ok_cons j_ok_int (j_ok_tl hs)))
end JBits
theorem j_rm_23 {d mc ms : Nat} : 1 ≤ (j_rm d mc ms).frames ∧ 23 ≤ (j_rm d mc ms).locals := by
  simp only [j_rm]
  omega
