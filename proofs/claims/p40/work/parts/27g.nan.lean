/-! ===== isNaN, doubleToLongBits, floatToIntBits: by their bytes, whatever their names ===== -/
section JDCQ
variable {p : Program} {l : Launch} {e : Env} {R : Room} {s : State} {m : MethodId} {args : Array Value} {below : List Frame} {meth : Method} {c : Code} {D : va_G} {tyc : Nat → ClassId} {A : Nat → Prop} {n0 : Nat} {ad0 : Nat → Nat} {nL : Nat} {Qs : State → Prop}
variable {own : String} {cc : ByteArray} {pc : Nat} {L : List (Option Value)} {st : List Value} {h : MH} {cells slots : Nat}
theorem j_dcmpQ (x : j_X p l s m args meth c D tyc A own cc nL) {v w : UInt64} {op : CmpOp} (hd : decode cc pc = .ok (.dcmp op, 1)) (kk : JJ p l e R s m args below meth c D tyc A n0 ad0 nL Qs (pc + 1) L (.int (Op.cmpValue (FP.dcmp v w) op) :: st) h cells slots) : JJ p l e R s m args below meth c D tyc A n0 ad0 nL Qs pc L (.double w :: .double v :: st) h cells slots := by
  intro ad ls H locs I
  exact lv_dcmp x.1 x.2.1 hd (kk ad ls H locs (I.st fun hs => j_ok_cons j_ok_int (j_ok_tl (j_ok_tl hs))))
theorem j_fcmpQ (x : j_X p l s m args meth c D tyc A own cc nL) {v w : UInt32} {op : CmpOp} (hd : decode cc pc = .ok (.fcmp op, 1)) (kk : JJ p l e R s m args below meth c D tyc A n0 ad0 nL Qs (pc + 1) L (.int (Op.cmpValue (FP.fcmp v w) op) :: st) h cells slots) : JJ p l e R s m args below meth c D tyc A n0 ad0 nL Qs pc L (.float w :: .float v :: st) h cells slots := by
  intro ad ls H locs I
  exact lv_fcmp x.1 x.2.1 hd (kk ad ls H locs (I.st fun hs => j_ok_cons j_ok_int (j_ok_tl (j_ok_tl hs))))
end JDCQ
def nanD (v : UInt64) : Int32 := if Op.cmpValue (FP.dcmp v v) .l = 0 then 0 else 1
def nanF (v : UInt32) : Int32 := if Op.cmpValue (FP.fcmp v v) .l = 0 then 0 else 1
theorem nanD_n {v : UInt64} : narrow .boolean (.int (nanD v)) = .int (nanD v) := by unfold nanD; by_cases c : Op.cmpValue (FP.dcmp v v) .l = 0 <;> simp [c, narrow]
theorem nanF_n {v : UInt32} : narrow .boolean (.int (nanF v)) = .int (nanF v) := by unfold nanF; by_cases c : Op.cmpValue (FP.fcmp v v) .l = 0 <;> simp [c, narrow]
def dlb (v : UInt64) : Int64 := if nanD v = 0 then v.toInt64 else 9221120237041090560
def flb (v : UInt32) : Int32 := if nanF v = 0 then v.toInt32 else 2143289344
theorem c_nanD {d : Nat} {h : MH} {v : UInt64} {y : MethodName} {cc : ByteArray} (hy : plainName y.cls = true) (d0 : decode cc 0 = .ok (.dload_n 0, 1)) (d1 : decode cc 1 = .ok (.dload_n 0, 1)) (d2 : decode cc 2 = .ok (.dcmp .l, 1)) (d3 : decode cc 3 = .ok (.ifCond .eq 7, 3)) (d6 : decode cc 6 = .ok (.iconst 1, 1)) (d7 : decode cc 7 = .ok (.goto 4, 3)) (d10 : decode cc 10 = .ok (.iconst 0, 1)) (d11 : decode cc 11 = .ok (.ireturn, 1)) :
    Con d 0 0 y cc 2 (some .boolean) [.double v] h (fun o k => o = .inl (some (.int (nanD v))) ∧ k = h) := by
  refine Con.ofD hy (Nat.le_of_ble_eq_true rfl) fun p l e s m args below meth c D tyc A ad0 x hr htab hname => ?_
  change JJ _ _ _ _ _ _ _ _ _ _ _ _ _ _ _ _ _ 0 [some (.double v), none] [] _ 0 0
  refine j_dload_n x d0 rfl ?_
  refine j_dload_n x d1 rfl ?_
  refine j_dcmpQ x d2 ?_
  refine j_if_eq (tgt := 10) x d3 (by decide) (fun g => ?_) (fun g => ?_)
  · refine j_iconst (v := 0) x d10 (by decide) ?_
    exact j_zreturn x hr d11 rfl (Nat.le_refl _) (Nat.le_refl _) ⟨by rw [nanD, if_pos g], rfl⟩
  · refine j_iconst (v := 1) x d6 (by decide) ?_
    refine j_goto (tgt := 11) x d7 (by decide) ?_
    exact j_zreturn x hr d11 rfl (Nat.le_refl _) (Nat.le_refl _) ⟨by rw [nanD, if_neg g], rfl⟩
theorem c_nanF {d : Nat} {h : MH} {v : UInt32} {y : MethodName} {cc : ByteArray} (hy : plainName y.cls = true) (d0 : decode cc 0 = .ok (.fload_n 0, 1)) (d1 : decode cc 1 = .ok (.fload_n 0, 1)) (d2 : decode cc 2 = .ok (.fcmp .l, 1)) (d3 : decode cc 3 = .ok (.ifCond .eq 7, 3)) (d6 : decode cc 6 = .ok (.iconst 1, 1)) (d7 : decode cc 7 = .ok (.goto 4, 3)) (d10 : decode cc 10 = .ok (.iconst 0, 1)) (d11 : decode cc 11 = .ok (.ireturn, 1)) :
    Con d 0 0 y cc 1 (some .boolean) [.float v] h (fun o k => o = .inl (some (.int (nanF v))) ∧ k = h) := by
  refine Con.of hy (Nat.le_of_ble_eq_true rfl) rfl fun p l e s m args below meth c D tyc A ad0 x hr htab hname => ?_
  change JJ _ _ _ _ _ _ _ _ _ _ _ _ _ _ _ _ _ 0 [some (.float v)] [] _ 0 0
  refine j_fload_n x d0 rfl ?_
  refine j_fload_n x d1 rfl ?_
  refine j_fcmpQ x d2 ?_
  refine j_if_eq (tgt := 10) x d3 (by decide) (fun g => ?_) (fun g => ?_)
  · refine j_iconst (v := 0) x d10 (by decide) ?_
    exact j_zreturn x hr d11 rfl (Nat.le_refl _) (Nat.le_refl _) ⟨by rw [nanF, if_pos g], rfl⟩
  · refine j_iconst (v := 1) x d6 (by decide) ?_
    refine j_goto (tgt := 11) x d7 (by decide) ?_
    exact j_zreturn x hr d11 rfl (Nat.le_refl _) (Nat.le_refl _) ⟨by rw [nanF, if_neg g], rfl⟩
