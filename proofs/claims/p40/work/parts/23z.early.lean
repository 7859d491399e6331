theorem vp_c {k : Int32} {n : Nat} (h : ¬ (k < 0 ∨ n ≤ k.toNatClampNeg)) : vp_in k n := h
section J3
variable {p : Program} {l : Launch} {e : Env} {R : Room} {s : State} {m : MethodId} {args : Array Value} {below : List Frame} {meth : Method} {c : Code} {D : va_G} {tyc : Nat → ClassId} {A : Nat → Prop} {n0 : Nat} {ad0 : Nat → Nat} {nL : Nat} {Q : State → Prop}
variable {own : String} {cc : ByteArray} {pc : Nat} {L : List (Option Value)} {st : List Value} {b : SBt} {Y : OUt} {M : MM} {cells slots : Nat}
theorem j_freturn (x : j_X p l s m args meth c D tyc A own cc nL) {mc ms : Nat} {Q : MO → MH → Prop} {h : MH} {v : UInt32} (hr : meth.sig.returnType = some .float) (hd : decode cc pc = .ok (.freturn, 1)) (hc : cells ≤ mc) (hs : slots ≤ ms) (hq : Q (.inl (some (.float v))) h) : JJ p l e R s m args below meth c D tyc A n0 ad0 nL (vx_MQ below (j_Qc D tyc A n0 ad0 Q) (j_XC D tyc A n0 ad0 Q) args s mc ms A) pc L [.float v] h cells slots := by
  intro ad ls H locs I
  refine vx_ret (W.widen hc hs ?_)
  exact W.fret x.1 x.2.1 hr (fun t ht hW => ⟨some (.float v), h, ad, rfl, hq, fun w hw => by cases hw; exact j_ok_float, .of I ht⟩) I.2.2.2.1.2.2 hd x.2.2.2.2.2.2.2.1
theorem j_dreturn (x : j_X p l s m args meth c D tyc A own cc nL) {mc ms : Nat} {Q : MO → MH → Prop} {h : MH} {v : UInt64} (hr : meth.sig.returnType = some .double) (hd : decode cc pc = .ok (.dreturn, 1)) (hc : cells ≤ mc) (hs : slots ≤ ms) (hq : Q (.inl (some (.double v))) h) : JJ p l e R s m args below meth c D tyc A n0 ad0 nL (vx_MQ below (j_Qc D tyc A n0 ad0 Q) (j_XC D tyc A n0 ad0 Q) args s mc ms A) pc L [.double v] h cells slots := by
  intro ad ls H locs I
  refine vx_ret (W.widen hc hs ?_)
  exact W.dret x.1 x.2.1 hr (fun t ht hW => ⟨some (.double v), h, ad, rfl, hq, fun w hw => by cases hw; exact j_ok_double, .of I ht⟩) I.2.2.2.1.2.2 hd x.2.2.2.2.2.2.2.1
end J3
