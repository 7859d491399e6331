/-! ===== the law's small methods: some, at ===== -/
def sm (v w : Int32) : Int32 := if v - v / w * w < 0 then v - v / w * w + w else v - v / w * w
theorem sm_ofInt {v : Int32} {n : Nat} (hn : n < 2 ^ 31) : v - v / nI n * nI n = Int32.ofInt (v.toInt.tmod n) := by
  have h1 : Int32.ofInt (v.toInt.tdiv n) = v / nI n := (Int32.ofInt_eq_iff_bmod_eq_toInt _ _).mpr (by rw [Int32.toInt_div, nI_toInt hn])
  have h2 : Int32.ofInt (n : Int) = nI n := Int32.ofInt_eq_ofNat
  have h3 : v.toInt.tmod n = v.toInt - v.toInt.tdiv n * n := by
    have := Int.tdiv_mul_add_tmod v.toInt n
    omega
  rw [← h1, h3, Int32.ofInt_sub, Int32.ofInt_mul, Int32.ofInt_toInt, h2]
theorem sm_in (v : Int32) {n : Nat} (h0 : 0 < n) (hn : n < 1000) : ∃ q, q < n ∧ sm v (nI n) = nI q := by
  have h1 := Int.tmod_lt_of_pos v.toInt (b := (n : Int)) (by omega)
  have h2 := Int.lt_tmod_of_pos v.toInt (b := (n : Int)) (by omega)
  unfold sm
  rw [sm_ofInt (by omega)]
  generalize v.toInt.tmod n = r at h1 h2 ⊢
  have h3 : (Int32.ofInt r).toInt = r := Int32.toInt_ofInt_of_le (by omega) (by omega)
  have h4 : ∀ q : Nat, nI q = Int32.ofInt (q : Int) := fun q => Int32.ofInt_eq_ofNat.symm
  by_cases c : r < 0
  · refine ⟨(r + n).toNat, by omega, ?_⟩
    rw [if_pos (Int32.lt_iff_toInt_lt.mpr (by rw [h3, Int32.toInt_zero]; exact c)), h4 n, ← Int32.ofInt_add, h4, Int.toNat_of_nonneg (by omega)]
  · refine ⟨r.toNat, by omega, ?_⟩
    rw [if_neg (fun z => c (by have := Int32.lt_iff_toInt_lt.mp z; rw [h3, Int32.toInt_zero] at this; exact this)), h4, Int.toNat_of_nonneg (by omega)]
theorem c_some {d : Nat} {h : MH} {v w : Int32} (h0 : ¬ w = 0) : Con d 0 0 yL_some cL_some 3 (some .int) [.int v, .int w] h (fun o k => o = .inl (some (.int (sm v w))) ∧ k = h) := by
  refine Con.of (by decide +kernel) (Nat.le_of_ble_eq_true rfl) rfl fun p l e s m args below meth c D tyc A ad0 x hr htab hname => ?_
  change JJ _ _ _ _ _ _ _ _ _ _ _ _ _ _ _ _ _ 0 [some (.int v), some (.int w), none] [] _ 0 0
  refine j_iload_n x dL_some_0 rfl ?_
  refine j_iload_n x dL_some_1 rfl ?_
  refine j_irem x dL_some_2 h0 ?_
  refine j_istore_n x dL_some_3 (by decide) rfl ?_
  refine j_iload_n x dL_some_4 rfl ?_
  refine j_if_ge (tgt := 14) x dL_some_5 (by decide) (fun hc => ?_) (fun hc => ?_)
  · refine j_iload_n x dL_some_14 rfl ?_
    exact j_ireturn x hr dL_some_15 (by omega) (by omega) ⟨by unfold sm; rw [if_neg (Int32.not_lt.mpr hc)], rfl⟩
  · refine j_iload_n x dL_some_8 rfl ?_
    refine j_iload_n x dL_some_9 rfl ?_
    refine j_iadd x dL_some_10 ?_
    refine j_goto (tgt := 15) x dL_some_11 (by decide) ?_
    exact j_ireturn x hr dL_some_15 (by omega) (by omega) ⟨by unfold sm; rw [if_pos (Int32.not_le.mp hc)], rfl⟩
def scr (N : Nat) (xs : Nat → Int32) (j : Nat) : Int32 := if j < N then xs j else 0
theorem c_atS {d : Nat} {h : MH} {a N : Nat} {xs : Nat → Int32} {j : Nat} (hN : N < 1000) (hj : j < 1000) : ConS d 0 0 yL_at cL_at 2 (some .int) [.retAddr a, .int (nI j)] h a N xs (fun o k => o = .inl (some (.int (scr N xs j))) ∧ k = h) := by
  refine ConS.of (by decide +kernel) (Nat.le_of_ble_eq_true rfl) rfl fun p l e s m args below meth c D tyc A ad0 x hr htab hname hS => ?_
  obtain ⟨hX, hbl, hbA⟩ := hS
  change JJ _ _ _ _ _ _ _ _ _ _ _ _ _ _ _ _ _ 0 [some (.retAddr a), some (.int (nI j))] [] _ 0 0
  refine j_iload_n x dL_at_0 rfl ?_
  refine j_aload_nR x dL_at_1 rfl ?_
  refine j_slen x hX hbl hbA dL_at_2 ?_
  refine j_icmp_ge (tgt := 12) x dL_at_3 (by decide) (fun hc => ?_) (fun hc => ?_)
  · refine j_iconst (v := 0) x dL_at_12 (by decide) ?_
    exact j_ireturn x hr dL_at_13 (by omega) (by omega) ⟨by unfold scr; rw [if_neg (fun z => nI_ge z (by omega) hc)], rfl⟩
  · have hlt : j < N := Nat.lt_of_not_le (fun z => hc (nI_le z (by omega)))
    refine j_aload_nR x dL_at_6 rfl ?_
    refine j_iload_n x dL_at_7 rfl ?_
    refine j_sld x hX hbl hbA dL_at_8 (vp_in_nI hlt (by omega)) (nI_clamp (by omega)) ?_
    refine j_goto (tgt := 13) x dL_at_9 (by decide) ?_
    exact j_ireturn x hr dL_at_13 (by omega) (by omega) ⟨by unfold scr; rw [if_pos hlt], rfl⟩
