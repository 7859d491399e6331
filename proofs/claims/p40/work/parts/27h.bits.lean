/-! ===== doubleToLongBits, floatToIntBits, by their bytes ===== -/
theorem c_dlb {d : Nat} {h : MH} {v : UInt64} {y yN : MethodName} {cc cN : ByteArray} {k1 k2 k3 : Nat} (hy : plainName y.cls = true) (d0 : decode cc 0 = .ok (.dload_n 0, 1)) (d1 : decode cc 1 = .ok (.invokestatic k1, 3)) (d4 : decode cc 4 = .ok (.ifCond .ne 8, 3)) (d7 : decode cc 7 = .ok (.dload_n 0, 1)) (d8 : decode cc 8 = .ok (.invokestatic k2, 3)) (d11 : decode cc 11 = .ok (.lreturn, 1)) (d12 : decode cc 12 = .ok (.ldc2_w k3, 3)) (d15 : decode cc 15 = .ok (.lreturn, 1))
    (hN : Con d 0 0 yN cN 2 (some .boolean) [.double v] h (fun o k => o = .inl (some (.int (nanD v))) ∧ k = h)) (mN : j_mS yN cN 2 (some .boolean) 1) (w1 : Cond.methodLink y.cls k1 yN ∈ j_all) (w2 : Cond.methodLink y.cls k2 ⟨"java/lang/Double", "doubleToRawLongBits", "(D)J"⟩ ∈ j_all) (w3 : Cond.native ⟨"java/lang/Double", "doubleToRawLongBits", "(D)J"⟩ ∈ j_all) (w4 : Cond.static ⟨"java/lang/Double", "doubleToRawLongBits", "(D)J"⟩ ∈ j_all) (w5 : Cond.initialized "java/lang/Double" ∈ j_all) (w6 : Cond.constantLong y.cls k3 9221120237041090560 ∈ j_all) :
    Con (d + 1) 0 0 y cc 2 (some .long) [.double v] h (fun o k => o = .inl (some (.long (dlb v))) ∧ k = h) := by
  refine Con.ofD hy (Nat.le_of_ble_eq_true rfl) fun p l e s m args below meth c D tyc A ad0 x hr htab hname => ?_
  change JJ _ _ _ _ _ _ _ _ _ _ _ _ _ _ _ _ _ 0 [some (.double v), none] [] _ 0 0
  refine j_dload_n x d0 rfl ?_
  refine j_callS x d1 hN mN w1 rfl (st := []) (Nat.zero_le _) (j_fit_rm (by omega) (by omega) (by omega)) rfl (fun E k z => by cases z.1) (fun r h1 hQ => ?_)
  obtain ⟨ho, rfl⟩ := hQ
  cases ho
  change JJ _ _ _ _ _ _ _ _ _ _ _ _ _ _ _ _ _ 4 [some (.double v), none] (.int (nanD v) :: []) _ _ _
  refine j_if_ne (tgt := 12) x d4 (by decide) (fun g => ?_) (fun g => ?_)
  · refine j_ldc2 x d12 w6 ?_
    exact j_lreturn x hr d15 (Nat.le_refl _) (Nat.le_refl _) ⟨by rw [dlb, if_neg g], rfl⟩
  · refine j_dload_n x d7 rfl ?_
    refine j_d2l x d8 w2 w3 w4 w5 (Nat.zero_le _) j_rm_23 ?_
    exact j_lreturn x hr d11 (Nat.le_refl _) (Nat.le_refl _) ⟨by rw [dlb, if_pos g], rfl⟩
theorem c_flb {d : Nat} {h : MH} {v : UInt32} {y yN : MethodName} {cc cN : ByteArray} {k1 k2 k3 : Nat} (hy : plainName y.cls = true) (d0 : decode cc 0 = .ok (.fload_n 0, 1)) (d1 : decode cc 1 = .ok (.invokestatic k1, 3)) (d4 : decode cc 4 = .ok (.ifCond .ne 8, 3)) (d7 : decode cc 7 = .ok (.fload_n 0, 1)) (d8 : decode cc 8 = .ok (.invokestatic k2, 3)) (d11 : decode cc 11 = .ok (.ireturn, 1)) (d12 : decode cc 12 = .ok (.ldc k3, 2)) (d14 : decode cc 14 = .ok (.ireturn, 1))
    (hN : Con d 0 0 yN cN 1 (some .boolean) [.float v] h (fun o k => o = .inl (some (.int (nanF v))) ∧ k = h)) (mN : j_mS yN cN 1 (some .boolean) 1) (w1 : Cond.methodLink y.cls k1 yN ∈ j_all) (w2 : Cond.methodLink y.cls k2 ⟨"java/lang/Float", "floatToRawIntBits", "(F)I"⟩ ∈ j_all) (w3 : Cond.native ⟨"java/lang/Float", "floatToRawIntBits", "(F)I"⟩ ∈ j_all) (w4 : Cond.static ⟨"java/lang/Float", "floatToRawIntBits", "(F)I"⟩ ∈ j_all) (w5 : Cond.initialized "java/lang/Float" ∈ j_all) (w6 : Cond.constant y.cls k3 2143289344 ∈ j_all) :
    Con (d + 1) 0 0 y cc 1 (some .int) [.float v] h (fun o k => o = .inl (some (.int (flb v))) ∧ k = h) := by
  refine Con.of hy (Nat.le_of_ble_eq_true rfl) rfl fun p l e s m args below meth c D tyc A ad0 x hr htab hname => ?_
  change JJ _ _ _ _ _ _ _ _ _ _ _ _ _ _ _ _ _ 0 [some (.float v)] [] _ 0 0
  refine j_fload_n x d0 rfl ?_
  refine j_callS x d1 hN mN w1 rfl (st := []) (Nat.zero_le _) (j_fit_rm (by omega) (by omega) (by omega)) rfl (fun E k z => by cases z.1) (fun r h1 hQ => ?_)
  obtain ⟨ho, rfl⟩ := hQ
  cases ho
  change JJ _ _ _ _ _ _ _ _ _ _ _ _ _ _ _ _ _ 4 [some (.float v)] (.int (nanF v) :: []) _ _ _
  refine j_if_ne (tgt := 12) x d4 (by decide) (fun g => ?_) (fun g => ?_)
  · refine j_ldci x d12 w6 ?_
    exact j_ireturn x hr d14 (Nat.le_refl _) (Nat.le_refl _) ⟨by rw [flb, if_neg g], rfl⟩
  · refine j_fload_n x d7 rfl ?_
    refine j_f2i x d8 w2 w3 w4 w5 (Nat.zero_le _) j_rm_23 ?_
    exact j_ireturn x hr d11 (Nat.le_refl _) (Nat.le_refl _) ⟨by rw [flb, if_pos g], rfl⟩
