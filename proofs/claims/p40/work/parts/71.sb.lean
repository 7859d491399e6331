/-! ===== the StringBuilder: its methods (Latin-1 alone) ===== -/
def sbI (b : SBt) (M : MM) (n : Nat) : Prop := isB b.1 ∧ b.1 < b.2.1 ∧ 94 ≤ b.2.1 ∧ hLen b b.1 = n ∧ M 92 1 = 0 ∧ ∀ k, fits .byte (.int (M b.1 k)) = true
theorem fit_n (v : Int32) : fits .byte (.int (vp_nar .byte v)) = true := pk_fb v
theorem fit_jm {M : MM} {i a : Nat} {v : Int32} (h : ∀ k, fits .byte (.int (M i k)) = true) : ∀ k, fits .byte (.int (jm M i a (vp_nar .byte v) i k)) = true := fun k => by
  by_cases e : k = a
  · subst e; rw [jm_s]; exact fit_n v
  · rw [jm_n (by omega)]; exact h k
theorem c_isLatin1 {d : Nat} {b : SBt} {Y : OUt} {M : MM} (hb : 94 ≤ b.2.1) (hc0 : M 92 1 = 0) : CM (d) 0 0 yJ5_isLatin1_aae02 cJ5_isLatin1_aae02 1 (some .boolean) [.ref 92] b Y M (.inl (some (.int 1))) (M) := by
  refine Con.of (by decide +kernel) (Nat.le_of_ble_eq_true rfl) rfl fun p l e s m args below meth c D tyc A ad0 x hr htab hname => ?_
  change JJ _ _ _ _ _ _ _ _ _ _ _ _ _ _ _ _ _ 0 [some (.ref 92)] [] _ 0 0
  refine j_gets x dJ5_isLatin1_aae02_0 x.2.2.2.2.2.2.2.2.2.2.2.2.2.2.1 wfJ5_18 ?_
  refine j_if_eq (tgt := 17) x dJ5_isLatin1_aae02_3 (by decide) (fun hc => absurd hc (by decide)) (fun hc => ?_)
  refine j_aload_n x dJ5_isLatin1_aae02_6 rfl ?_
  refine j2_geti (k := 1) x hb dJ5_isLatin1_aae02_7 jc_1 wfJ5_22 (by decide) rfl ?_
  refine j_if_ne (tgt := 17) x dJ5_isLatin1_aae02_10 (by decide) (fun hc => absurd hc (fun q => q hc0)) (fun hc => ?_)
  refine j_iconst (v := 1) x dJ5_isLatin1_aae02_13 (by decide) ?_
  refine j_goto (tgt := 18) x dJ5_isLatin1_aae02_14 (by decide) ?_
  exact j_zreturn x hr dJ5_isLatin1_aae02_18 (by first | decide | with_reducible exact jb_nar | with_reducible exact jisS_nar | with_reducible exact gno_nar) (by omega) (by omega) ⟨rfl, rfl⟩
theorem neg_le {v k : Nat} (hv : v < 2 ^ 31) (hk : k < 2 ^ 31) : -nI v ≤ -nI k ↔ k ≤ v := by
  have h1 : (-nI v).toInt = -(v : Int) := by
    rw [Int32.toInt_neg, nI_toInt hv]
    exact Int.bmod_eq_of_le (by omega) (by omega)
  have h2 : (-nI k).toInt = -(k : Int) := by
    rw [Int32.toInt_neg, nI_toInt hk]
    exact Int.bmod_eq_of_le (by omega) (by omega)
  rw [Int32.le_iff_toInt_le, h1, h2]
  omega
theorem neg_div100 {v : Nat} (hv : v < 2 ^ 31) : -nI v / 100 = -nI (v / 100) := by
  apply Int32.toInt_inj.mp
  have h1 : (-nI v).toInt = -(v : Int) := by
    rw [Int32.toInt_neg, nI_toInt hv]
    exact Int.bmod_eq_of_le (by omega) (by omega)
  have h2 : (-nI (v / 100)).toInt = -((v / 100 : Nat) : Int) := by
    rw [Int32.toInt_neg, nI_toInt (by omega)]
    exact Int.bmod_eq_of_le (by omega) (by omega)
  rw [Int32.toInt_div, h1, h2, show (100 : Int32).toInt = 100 from rfl, Int.neg_tdiv, Int.tdiv_eq_ediv_of_nonneg (by omega)]
  have e : (v : Int) / 100 = ((v / 100 : Nat) : Int) := by omega
  rw [e]
  exact Int.bmod_eq_of_le (by omega) (by omega)
theorem neg_mod100 {v : Nat} (hv : v < 2 ^ 31) : -nI (v / 100) * 100 - -nI v = nI (v % 100) := by
  have h1 : nI v = nI (v / 100) * 100 + nI (v % 100) := by
    rw [show (100 : Int32) = nI 100 from rfl, nI_mul, nI_add]
    congr 1
    omega
  rw [h1, Int32.neg_mul, Int32.sub_neg, ← Int32.add_assoc, Int32.add_left_neg, Int32.zero_add]
def dg (v : Nat) : Nat := if v < 10 then 1 else if v < 100 then 2 else if v < 1000 then 3 else 4
theorem dg_le (v : Nat) : 1 ≤ dg v ∧ dg v ≤ 4 := by unfold dg; split <;> (try split) <;> (try split) <;> omega
theorem c_stringSize_1 {d : Nat} {b : SBt} {Y : OUt} {M : MM} (hb : 94 ≤ b.2.1) {v : Nat} (hv : v < 10) : CM (d) 0 0 yJ6_stringSize_0f7a4 cJ6_stringSize_0f7a4 4 (some .int) [.int (nI v)] b Y M (.inl (some (.int (nI 1)))) (M) := by
  refine Con.of (by decide +kernel) (Nat.le_of_ble_eq_true rfl) rfl fun p l e s m args below meth c D tyc A ad0 x hr htab hname => ?_
  change JJ _ _ _ _ _ _ _ _ _ _ _ _ _ _ _ _ _ 0 [some (.int (nI v)), none, none, none] [] _ 0 0
  refine j_iconst (v := 1) x dJ6_stringSize_0f7a4_0 (by decide) ?_
  refine j_istore_n x dJ6_stringSize_0f7a4_1 (by decide) rfl ?_
  refine j_iload_n x dJ6_stringSize_0f7a4_2 rfl ?_
  refine j_if_lt (tgt := 11) x dJ6_stringSize_0f7a4_3 (by decide) (fun hc => absurd hc (nI_pos (by omega))) (fun hc => ?_)
  refine j_iconst (v := 0) x dJ6_stringSize_0f7a4_6 (by decide) ?_
  refine j_istore_n x dJ6_stringSize_0f7a4_7 (by decide) rfl ?_
  refine j_iload_n x dJ6_stringSize_0f7a4_8 rfl ?_
  refine j_ineg x dJ6_stringSize_0f7a4_9 ?_
  refine j_istore_n x dJ6_stringSize_0f7a4_10 (by decide) rfl ?_
  refine j_bipush (v := (-10)) x dJ6_stringSize_0f7a4_11 (by decide) ?_
  refine j_istore_n x dJ6_stringSize_0f7a4_13 (by decide) rfl ?_
  refine j_iconst (v := 1) x dJ6_stringSize_0f7a4_14 (by decide) ?_
  refine j_istore_n x dJ6_stringSize_0f7a4_15 (by decide) rfl ?_
  refine j_iload_n x dJ6_stringSize_0f7a4_16 rfl ?_
  refine j_bipush (v := 10) x dJ6_stringSize_0f7a4_17 (by decide) ?_
  refine j_icmp_ge (tgt := 42) x dJ6_stringSize_0f7a4_19 (by decide) (fun hc => absurd hc (by decide)) (fun hc => ?_)
  refine j_iload_n x dJ6_stringSize_0f7a4_22 rfl ?_
  refine j_iload_n x dJ6_stringSize_0f7a4_23 rfl ?_
  refine j_icmp_le (tgt := 31) x dJ6_stringSize_0f7a4_24 (by decide) (fun hc => absurd hc (fun q => absurd ((neg_le (v := v) (by omega) (k := 10) (by decide)).mp q) (by omega))) (fun hc => ?_)
  refine j_iload_n x dJ6_stringSize_0f7a4_27 rfl ?_
  refine j_iload_n x dJ6_stringSize_0f7a4_28 rfl ?_
  refine j_iadd x dJ6_stringSize_0f7a4_29 ?_
  exact j_ireturn x hr dJ6_stringSize_0f7a4_30 (by omega) (by omega) ⟨congrArg (fun z => Sum.inl (some (Value.int z))) (by decide), rfl⟩
theorem c_stringSize_2 {d : Nat} {b : SBt} {Y : OUt} {M : MM} (hb : 94 ≤ b.2.1) {v : Nat} (h0 : 10 ≤ v) (hv : v < 100) : CM (d) 0 0 yJ6_stringSize_0f7a4 cJ6_stringSize_0f7a4 4 (some .int) [.int (nI v)] b Y M (.inl (some (.int (nI 2)))) (M) := by
  refine Con.of (by decide +kernel) (Nat.le_of_ble_eq_true rfl) rfl fun p l e s m args below meth c D tyc A ad0 x hr htab hname => ?_
  change JJ _ _ _ _ _ _ _ _ _ _ _ _ _ _ _ _ _ 0 [some (.int (nI v)), none, none, none] [] _ 0 0
  refine j_iconst (v := 1) x dJ6_stringSize_0f7a4_0 (by decide) ?_
  refine j_istore_n x dJ6_stringSize_0f7a4_1 (by decide) rfl ?_
  refine j_iload_n x dJ6_stringSize_0f7a4_2 rfl ?_
  refine j_if_lt (tgt := 11) x dJ6_stringSize_0f7a4_3 (by decide) (fun hc => absurd hc (nI_pos (by omega))) (fun hc => ?_)
  refine j_iconst (v := 0) x dJ6_stringSize_0f7a4_6 (by decide) ?_
  refine j_istore_n x dJ6_stringSize_0f7a4_7 (by decide) rfl ?_
  refine j_iload_n x dJ6_stringSize_0f7a4_8 rfl ?_
  refine j_ineg x dJ6_stringSize_0f7a4_9 ?_
  refine j_istore_n x dJ6_stringSize_0f7a4_10 (by decide) rfl ?_
  refine j_bipush (v := (-10)) x dJ6_stringSize_0f7a4_11 (by decide) ?_
  refine j_istore_n x dJ6_stringSize_0f7a4_13 (by decide) rfl ?_
  refine j_iconst (v := 1) x dJ6_stringSize_0f7a4_14 (by decide) ?_
  refine j_istore_n x dJ6_stringSize_0f7a4_15 (by decide) rfl ?_
  refine j_iload_n x dJ6_stringSize_0f7a4_16 rfl ?_
  refine j_bipush (v := 10) x dJ6_stringSize_0f7a4_17 (by decide) ?_
  refine j_icmp_ge (tgt := 42) x dJ6_stringSize_0f7a4_19 (by decide) (fun hc => absurd hc (by decide)) (fun hc => ?_)
  refine j_iload_n x dJ6_stringSize_0f7a4_22 rfl ?_
  refine j_iload_n x dJ6_stringSize_0f7a4_23 rfl ?_
  refine j_icmp_le (tgt := 31) x dJ6_stringSize_0f7a4_24 (by decide) (fun hc => ?_) (fun hc => absurd ((neg_le (v := v) (by omega) (k := 10) (by decide)).mpr (by omega)) hc)
  refine j_bipush (v := 10) x dJ6_stringSize_0f7a4_31 (by decide) ?_
  refine j_iload_n x dJ6_stringSize_0f7a4_33 rfl ?_
  refine j_imul x dJ6_stringSize_0f7a4_34 ?_; rw [show (10 : Int32) * -10 = -100 from by decide]
  refine j_istore_n x dJ6_stringSize_0f7a4_35 (by decide) rfl ?_
  refine j_iinc x dJ6_stringSize_0f7a4_36 rfl (by decide) rfl ?_
  refine j_goto (tgt := 16) x dJ6_stringSize_0f7a4_39 (by decide) ?_
  refine j_iload_n x dJ6_stringSize_0f7a4_16 rfl ?_
  refine j_bipush (v := 10) x dJ6_stringSize_0f7a4_17 (by decide) ?_
  refine j_icmp_ge (tgt := 42) x dJ6_stringSize_0f7a4_19 (by decide) (fun hc => absurd hc (by decide)) (fun hc => ?_)
  refine j_iload_n x dJ6_stringSize_0f7a4_22 rfl ?_
  refine j_iload_n x dJ6_stringSize_0f7a4_23 rfl ?_
  refine j_icmp_le (tgt := 31) x dJ6_stringSize_0f7a4_24 (by decide) (fun hc => absurd hc (fun q => absurd ((neg_le (v := v) (by omega) (k := 100) (by decide)).mp q) (by omega))) (fun hc => ?_)
  refine j_iload_n x dJ6_stringSize_0f7a4_27 rfl ?_
  refine j_iload_n x dJ6_stringSize_0f7a4_28 rfl ?_
  refine j_iadd x dJ6_stringSize_0f7a4_29 ?_
  exact j_ireturn x hr dJ6_stringSize_0f7a4_30 (by omega) (by omega) ⟨congrArg (fun z => Sum.inl (some (Value.int z))) (by decide), rfl⟩
theorem c_stringSize_3 {d : Nat} {b : SBt} {Y : OUt} {M : MM} (hb : 94 ≤ b.2.1) {v : Nat} (h0 : 100 ≤ v) (hv : v < 1000) : CM (d) 0 0 yJ6_stringSize_0f7a4 cJ6_stringSize_0f7a4 4 (some .int) [.int (nI v)] b Y M (.inl (some (.int (nI 3)))) (M) := by
  refine Con.of (by decide +kernel) (Nat.le_of_ble_eq_true rfl) rfl fun p l e s m args below meth c D tyc A ad0 x hr htab hname => ?_
  change JJ _ _ _ _ _ _ _ _ _ _ _ _ _ _ _ _ _ 0 [some (.int (nI v)), none, none, none] [] _ 0 0
  refine j_iconst (v := 1) x dJ6_stringSize_0f7a4_0 (by decide) ?_
  refine j_istore_n x dJ6_stringSize_0f7a4_1 (by decide) rfl ?_
  refine j_iload_n x dJ6_stringSize_0f7a4_2 rfl ?_
  refine j_if_lt (tgt := 11) x dJ6_stringSize_0f7a4_3 (by decide) (fun hc => absurd hc (nI_pos (by omega))) (fun hc => ?_)
  refine j_iconst (v := 0) x dJ6_stringSize_0f7a4_6 (by decide) ?_
  refine j_istore_n x dJ6_stringSize_0f7a4_7 (by decide) rfl ?_
  refine j_iload_n x dJ6_stringSize_0f7a4_8 rfl ?_
  refine j_ineg x dJ6_stringSize_0f7a4_9 ?_
  refine j_istore_n x dJ6_stringSize_0f7a4_10 (by decide) rfl ?_
  refine j_bipush (v := (-10)) x dJ6_stringSize_0f7a4_11 (by decide) ?_
  refine j_istore_n x dJ6_stringSize_0f7a4_13 (by decide) rfl ?_
  refine j_iconst (v := 1) x dJ6_stringSize_0f7a4_14 (by decide) ?_
  refine j_istore_n x dJ6_stringSize_0f7a4_15 (by decide) rfl ?_
  refine j_iload_n x dJ6_stringSize_0f7a4_16 rfl ?_
  refine j_bipush (v := 10) x dJ6_stringSize_0f7a4_17 (by decide) ?_
  refine j_icmp_ge (tgt := 42) x dJ6_stringSize_0f7a4_19 (by decide) (fun hc => absurd hc (by decide)) (fun hc => ?_)
  refine j_iload_n x dJ6_stringSize_0f7a4_22 rfl ?_
  refine j_iload_n x dJ6_stringSize_0f7a4_23 rfl ?_
  refine j_icmp_le (tgt := 31) x dJ6_stringSize_0f7a4_24 (by decide) (fun hc => ?_) (fun hc => absurd ((neg_le (v := v) (by omega) (k := 10) (by decide)).mpr (by omega)) hc)
  refine j_bipush (v := 10) x dJ6_stringSize_0f7a4_31 (by decide) ?_
  refine j_iload_n x dJ6_stringSize_0f7a4_33 rfl ?_
  refine j_imul x dJ6_stringSize_0f7a4_34 ?_; rw [show (10 : Int32) * -10 = -100 from by decide]
  refine j_istore_n x dJ6_stringSize_0f7a4_35 (by decide) rfl ?_
  refine j_iinc x dJ6_stringSize_0f7a4_36 rfl (by decide) rfl ?_
  refine j_goto (tgt := 16) x dJ6_stringSize_0f7a4_39 (by decide) ?_
  refine j_iload_n x dJ6_stringSize_0f7a4_16 rfl ?_
  refine j_bipush (v := 10) x dJ6_stringSize_0f7a4_17 (by decide) ?_
  refine j_icmp_ge (tgt := 42) x dJ6_stringSize_0f7a4_19 (by decide) (fun hc => absurd hc (by decide)) (fun hc => ?_)
  refine j_iload_n x dJ6_stringSize_0f7a4_22 rfl ?_
  refine j_iload_n x dJ6_stringSize_0f7a4_23 rfl ?_
  refine j_icmp_le (tgt := 31) x dJ6_stringSize_0f7a4_24 (by decide) (fun hc => ?_) (fun hc => absurd ((neg_le (v := v) (by omega) (k := 100) (by decide)).mpr (by omega)) hc)
  refine j_bipush (v := 10) x dJ6_stringSize_0f7a4_31 (by decide) ?_
  refine j_iload_n x dJ6_stringSize_0f7a4_33 rfl ?_
  refine j_imul x dJ6_stringSize_0f7a4_34 ?_; rw [show (10 : Int32) * -100 = -1000 from by decide]
  refine j_istore_n x dJ6_stringSize_0f7a4_35 (by decide) rfl ?_
  refine j_iinc x dJ6_stringSize_0f7a4_36 rfl (by decide) rfl ?_
  refine j_goto (tgt := 16) x dJ6_stringSize_0f7a4_39 (by decide) ?_
  refine j_iload_n x dJ6_stringSize_0f7a4_16 rfl ?_
  refine j_bipush (v := 10) x dJ6_stringSize_0f7a4_17 (by decide) ?_
  refine j_icmp_ge (tgt := 42) x dJ6_stringSize_0f7a4_19 (by decide) (fun hc => absurd hc (by decide)) (fun hc => ?_)
  refine j_iload_n x dJ6_stringSize_0f7a4_22 rfl ?_
  refine j_iload_n x dJ6_stringSize_0f7a4_23 rfl ?_
  refine j_icmp_le (tgt := 31) x dJ6_stringSize_0f7a4_24 (by decide) (fun hc => absurd hc (fun q => absurd ((neg_le (v := v) (by omega) (k := 1000) (by decide)).mp q) (by omega))) (fun hc => ?_)
  refine j_iload_n x dJ6_stringSize_0f7a4_27 rfl ?_
  refine j_iload_n x dJ6_stringSize_0f7a4_28 rfl ?_
  refine j_iadd x dJ6_stringSize_0f7a4_29 ?_
  exact j_ireturn x hr dJ6_stringSize_0f7a4_30 (by omega) (by omega) ⟨congrArg (fun z => Sum.inl (some (Value.int z))) (by decide), rfl⟩
theorem c_stringSize_4 {d : Nat} {b : SBt} {Y : OUt} {M : MM} (hb : 94 ≤ b.2.1) {v : Nat} (h0 : 1000 ≤ v) (hv : v < 10000) : CM (d) 0 0 yJ6_stringSize_0f7a4 cJ6_stringSize_0f7a4 4 (some .int) [.int (nI v)] b Y M (.inl (some (.int (nI 4)))) (M) := by
  refine Con.of (by decide +kernel) (Nat.le_of_ble_eq_true rfl) rfl fun p l e s m args below meth c D tyc A ad0 x hr htab hname => ?_
  change JJ _ _ _ _ _ _ _ _ _ _ _ _ _ _ _ _ _ 0 [some (.int (nI v)), none, none, none] [] _ 0 0
  refine j_iconst (v := 1) x dJ6_stringSize_0f7a4_0 (by decide) ?_
  refine j_istore_n x dJ6_stringSize_0f7a4_1 (by decide) rfl ?_
  refine j_iload_n x dJ6_stringSize_0f7a4_2 rfl ?_
  refine j_if_lt (tgt := 11) x dJ6_stringSize_0f7a4_3 (by decide) (fun hc => absurd hc (nI_pos (by omega))) (fun hc => ?_)
  refine j_iconst (v := 0) x dJ6_stringSize_0f7a4_6 (by decide) ?_
  refine j_istore_n x dJ6_stringSize_0f7a4_7 (by decide) rfl ?_
  refine j_iload_n x dJ6_stringSize_0f7a4_8 rfl ?_
  refine j_ineg x dJ6_stringSize_0f7a4_9 ?_
  refine j_istore_n x dJ6_stringSize_0f7a4_10 (by decide) rfl ?_
  refine j_bipush (v := (-10)) x dJ6_stringSize_0f7a4_11 (by decide) ?_
  refine j_istore_n x dJ6_stringSize_0f7a4_13 (by decide) rfl ?_
  refine j_iconst (v := 1) x dJ6_stringSize_0f7a4_14 (by decide) ?_
  refine j_istore_n x dJ6_stringSize_0f7a4_15 (by decide) rfl ?_
  refine j_iload_n x dJ6_stringSize_0f7a4_16 rfl ?_
  refine j_bipush (v := 10) x dJ6_stringSize_0f7a4_17 (by decide) ?_
  refine j_icmp_ge (tgt := 42) x dJ6_stringSize_0f7a4_19 (by decide) (fun hc => absurd hc (by decide)) (fun hc => ?_)
  refine j_iload_n x dJ6_stringSize_0f7a4_22 rfl ?_
  refine j_iload_n x dJ6_stringSize_0f7a4_23 rfl ?_
  refine j_icmp_le (tgt := 31) x dJ6_stringSize_0f7a4_24 (by decide) (fun hc => ?_) (fun hc => absurd ((neg_le (v := v) (by omega) (k := 10) (by decide)).mpr (by omega)) hc)
  refine j_bipush (v := 10) x dJ6_stringSize_0f7a4_31 (by decide) ?_
  refine j_iload_n x dJ6_stringSize_0f7a4_33 rfl ?_
  refine j_imul x dJ6_stringSize_0f7a4_34 ?_; rw [show (10 : Int32) * -10 = -100 from by decide]
  refine j_istore_n x dJ6_stringSize_0f7a4_35 (by decide) rfl ?_
  refine j_iinc x dJ6_stringSize_0f7a4_36 rfl (by decide) rfl ?_
  refine j_goto (tgt := 16) x dJ6_stringSize_0f7a4_39 (by decide) ?_
  refine j_iload_n x dJ6_stringSize_0f7a4_16 rfl ?_
  refine j_bipush (v := 10) x dJ6_stringSize_0f7a4_17 (by decide) ?_
  refine j_icmp_ge (tgt := 42) x dJ6_stringSize_0f7a4_19 (by decide) (fun hc => absurd hc (by decide)) (fun hc => ?_)
  refine j_iload_n x dJ6_stringSize_0f7a4_22 rfl ?_
  refine j_iload_n x dJ6_stringSize_0f7a4_23 rfl ?_
  refine j_icmp_le (tgt := 31) x dJ6_stringSize_0f7a4_24 (by decide) (fun hc => ?_) (fun hc => absurd ((neg_le (v := v) (by omega) (k := 100) (by decide)).mpr (by omega)) hc)
  refine j_bipush (v := 10) x dJ6_stringSize_0f7a4_31 (by decide) ?_
  refine j_iload_n x dJ6_stringSize_0f7a4_33 rfl ?_
  refine j_imul x dJ6_stringSize_0f7a4_34 ?_; rw [show (10 : Int32) * -100 = -1000 from by decide]
  refine j_istore_n x dJ6_stringSize_0f7a4_35 (by decide) rfl ?_
  refine j_iinc x dJ6_stringSize_0f7a4_36 rfl (by decide) rfl ?_
  refine j_goto (tgt := 16) x dJ6_stringSize_0f7a4_39 (by decide) ?_
  refine j_iload_n x dJ6_stringSize_0f7a4_16 rfl ?_
  refine j_bipush (v := 10) x dJ6_stringSize_0f7a4_17 (by decide) ?_
  refine j_icmp_ge (tgt := 42) x dJ6_stringSize_0f7a4_19 (by decide) (fun hc => absurd hc (by decide)) (fun hc => ?_)
  refine j_iload_n x dJ6_stringSize_0f7a4_22 rfl ?_
  refine j_iload_n x dJ6_stringSize_0f7a4_23 rfl ?_
  refine j_icmp_le (tgt := 31) x dJ6_stringSize_0f7a4_24 (by decide) (fun hc => ?_) (fun hc => absurd ((neg_le (v := v) (by omega) (k := 1000) (by decide)).mpr (by omega)) hc)
  refine j_bipush (v := 10) x dJ6_stringSize_0f7a4_31 (by decide) ?_
  refine j_iload_n x dJ6_stringSize_0f7a4_33 rfl ?_
  refine j_imul x dJ6_stringSize_0f7a4_34 ?_; rw [show (10 : Int32) * -1000 = -10000 from by decide]
  refine j_istore_n x dJ6_stringSize_0f7a4_35 (by decide) rfl ?_
  refine j_iinc x dJ6_stringSize_0f7a4_36 rfl (by decide) rfl ?_
  refine j_goto (tgt := 16) x dJ6_stringSize_0f7a4_39 (by decide) ?_
  refine j_iload_n x dJ6_stringSize_0f7a4_16 rfl ?_
  refine j_bipush (v := 10) x dJ6_stringSize_0f7a4_17 (by decide) ?_
  refine j_icmp_ge (tgt := 42) x dJ6_stringSize_0f7a4_19 (by decide) (fun hc => absurd hc (by decide)) (fun hc => ?_)
  refine j_iload_n x dJ6_stringSize_0f7a4_22 rfl ?_
  refine j_iload_n x dJ6_stringSize_0f7a4_23 rfl ?_
  refine j_icmp_le (tgt := 31) x dJ6_stringSize_0f7a4_24 (by decide) (fun hc => absurd hc (fun q => absurd ((neg_le (v := v) (by omega) (k := 10000) (by decide)).mp q) (by omega))) (fun hc => ?_)
  refine j_iload_n x dJ6_stringSize_0f7a4_27 rfl ?_
  refine j_iload_n x dJ6_stringSize_0f7a4_28 rfl ?_
  refine j_iadd x dJ6_stringSize_0f7a4_29 ?_
  exact j_ireturn x hr dJ6_stringSize_0f7a4_30 (by omega) (by omega) ⟨congrArg (fun z => Sum.inl (some (Value.int z))) (by decide), rfl⟩
theorem c_stringSize {d : Nat} {b : SBt} {Y : OUt} {M : MM} (hb : 94 ≤ b.2.1) {v : Nat} (hv : v < 10000) : CM d 0 0 yJ6_stringSize_0f7a4 cJ6_stringSize_0f7a4 4 (some .int) [.int (nI v)] b Y M (.inl (some (.int (nI (dg v))))) M := by
  unfold dg
  split
  · exact c_stringSize_1 hb (by omega)
  · split
    · exact c_stringSize_2 hb (by omega) (by omega)
    · split
      · exact c_stringSize_3 hb (by omega) (by omega)
      · exact c_stringSize_4 hb (by omega) (by omega)
theorem nI_dn3 {e : Nat} (h : 0 < e) : nI e + Int32.ofInt (-1) = nI (e - 1) := by
  obtain ⟨k, rfl⟩ : ∃ k, e = k + 1 := ⟨e - 1, by omega⟩
  exact nI_dn2 k
theorem neg_lt {v k : Nat} (hv : v < 2 ^ 31) (hk : k < 2 ^ 31) : -nI k < -nI v ↔ v < k := by
  rw [← Int32.not_le, neg_le hv hk]; omega
theorem shl0 (v : Int32) : v <<< ((0 : Int32) &&& 31) = v := by rw [show (0 : Int32) &&& 31 = 0 from by decide]; exact Int32.shiftLeft_zero
theorem shr0 (v : Int32) : v >>> ((0 : Int32) &&& 31) = v := by rw [show (0 : Int32) &&& 31 = 0 from by decide]; exact Int32.shiftRight_zero
theorem nI_subS {a d : Nat} (h : d ≤ a) : nI a - nI d = nI (a - d) := nI_sub h
theorem c_getChars_1 {d : Nat} {b : SBt} {Y : OUt} {M : MM} (hb : 94 ≤ b.2.1) {v e1 n : Nat} (hI : sbI b M n) (hn : n < 1000) (he : 1 ≤ e1) (hen : e1 ≤ n) (hv : v < 10) : CM (d) 0 0 yJ6_getChars_ba4f3 cJ6_getChars_ba4f3 7 (some .int) [.int (nI v), .int (nI e1), .ref b.1] b Y M (.inl (some (.int (nI (e1 - 1))))) (jm (M) b.1 (e1 - 1) (vp_nar .byte (j_ones (v)))) := by
  refine Con.of (by decide +kernel) (Nat.le_of_ble_eq_true rfl) rfl fun p l e s m args below meth c D tyc A ad0 x hr htab hname => ?_
  change JJ _ _ _ _ _ _ _ _ _ _ _ _ _ _ _ _ _ 0 [some (.int (nI v)), some (.int (nI e1)), some (.ref b.1), none, none, none, none] [] _ 0 0
  obtain ⟨hB, hlt, -, hl, -⟩ := hI
  obtain ⟨ta, hZa, hTa⟩ := j_tabT x.2.2.2.2.2.2.2.2.2.2.2.2.2.2.2.2.2.1
  obtain ⟨tb, hZb, hTb⟩ := j_tabT x.2.2.2.2.2.2.2.2.2.2.2.2.2.2.2.2.2.2.1
  refine j_iload_n x dJ6_getChars_ba4f3_0 rfl ?_
  refine j_istore x dJ6_getChars_ba4f3_1 (by decide) rfl ?_
  refine j_iload_n x dJ6_getChars_ba4f3_3 rfl ?_
  refine j_if_ge (tgt := 11) x dJ6_getChars_ba4f3_4 (by decide) (fun hc => ?_) (fun hc => absurd (nI_pos' (by omega)) hc)
  refine j_iconst (v := 0) x dJ6_getChars_ba4f3_11 (by decide) ?_
  refine j_istore x dJ6_getChars_ba4f3_12 (by decide) rfl ?_
  refine j_iload x dJ6_getChars_ba4f3_14 rfl ?_
  refine j_if_ne (tgt := 22) x dJ6_getChars_ba4f3_16 (by decide) (fun hc => absurd hc (fun q => q rfl)) (fun hc => ?_)
  refine j_iload_n x dJ6_getChars_ba4f3_19 rfl ?_
  refine j_ineg x dJ6_getChars_ba4f3_20 ?_
  refine j_istore_n x dJ6_getChars_ba4f3_21 (by decide) rfl ?_
  refine j_iload_n x dJ6_getChars_ba4f3_22 rfl ?_
  refine j_bipush (v := (-100)) x dJ6_getChars_ba4f3_23 (by decide) ?_
  refine j_icmp_gt (tgt := 72) x dJ6_getChars_ba4f3_25 (by decide) (fun hc => ?_) (fun hc => absurd ((neg_lt (v := v) (by omega) (k := 100) (by decide)).mpr (by omega)) hc)
  refine j_aload_n x dJ6_getChars_ba4f3_72 rfl ?_
  refine j_iinc x dJ6_getChars_ba4f3_73 rfl (by decide) rfl ?_; rw [nI_dn3 (by omega)]
  refine j_iload x dJ6_getChars_ba4f3_76 rfl ?_
  refine j_getsR x dJ6_getChars_ba4f3_78 hZa wfJ6_83 ?_
  refine j_iload_n x dJ6_getChars_ba4f3_81 rfl ?_
  refine j_ineg x dJ6_getChars_ba4f3_82 ?_; rw [Int32.neg_neg]
  refine j_tld x hTa (k := v) (by omega) dJ6_getChars_ba4f3_83 ?_
  refine j2_bst x hB hlt hl dJ6_getChars_ba4f3_84 (vp_in_nI (by omega) (by omega)) rfl ?_; rw [nI_clamp (by omega)]
  refine j_iload_n x dJ6_getChars_ba4f3_85 rfl ?_
  refine j_bipush (v := (-9)) x dJ6_getChars_ba4f3_86 (by decide) ?_
  refine j_icmp_ge (tgt := 104) x dJ6_getChars_ba4f3_88 (by decide) (fun hc => ?_) (fun hc => absurd ((neg_le (v := 9) (by decide) (k := v) (by omega)).mpr (by omega)) hc)
  refine j_iload x dJ6_getChars_ba4f3_104 rfl ?_
  refine j_if_eq (tgt := 118) x dJ6_getChars_ba4f3_106 (by decide) (fun hc => ?_) (fun hc => absurd (rfl) hc)
  refine j_iload x dJ6_getChars_ba4f3_118 rfl ?_
  exact j_ireturn x hr dJ6_getChars_ba4f3_120 (by omega) (by omega) ⟨rfl, rfl⟩
theorem c_getChars_2 {d : Nat} {b : SBt} {Y : OUt} {M : MM} (hb : 94 ≤ b.2.1) {v e1 n : Nat} (hI : sbI b M n) (hn : n < 1000) (he : 2 ≤ e1) (hen : e1 ≤ n) (h0 : 10 ≤ v) (hv : v < 100) : CM (d) 0 0 yJ6_getChars_ba4f3 cJ6_getChars_ba4f3 7 (some .int) [.int (nI v), .int (nI e1), .ref b.1] b Y M (.inl (some (.int (nI (e1 - 1 - 1))))) (jm (jm (M) b.1 (e1 - 1) (vp_nar .byte (j_ones (v)))) b.1 (e1 - 1 - 1) (vp_nar .byte (j_tens (v)))) := by
  refine Con.of (by decide +kernel) (Nat.le_of_ble_eq_true rfl) rfl fun p l e s m args below meth c D tyc A ad0 x hr htab hname => ?_
  change JJ _ _ _ _ _ _ _ _ _ _ _ _ _ _ _ _ _ 0 [some (.int (nI v)), some (.int (nI e1)), some (.ref b.1), none, none, none, none] [] _ 0 0
  obtain ⟨hB, hlt, -, hl, -⟩ := hI
  obtain ⟨ta, hZa, hTa⟩ := j_tabT x.2.2.2.2.2.2.2.2.2.2.2.2.2.2.2.2.2.1
  obtain ⟨tb, hZb, hTb⟩ := j_tabT x.2.2.2.2.2.2.2.2.2.2.2.2.2.2.2.2.2.2.1
  refine j_iload_n x dJ6_getChars_ba4f3_0 rfl ?_
  refine j_istore x dJ6_getChars_ba4f3_1 (by decide) rfl ?_
  refine j_iload_n x dJ6_getChars_ba4f3_3 rfl ?_
  refine j_if_ge (tgt := 11) x dJ6_getChars_ba4f3_4 (by decide) (fun hc => ?_) (fun hc => absurd (nI_pos' (by omega)) hc)
  refine j_iconst (v := 0) x dJ6_getChars_ba4f3_11 (by decide) ?_
  refine j_istore x dJ6_getChars_ba4f3_12 (by decide) rfl ?_
  refine j_iload x dJ6_getChars_ba4f3_14 rfl ?_
  refine j_if_ne (tgt := 22) x dJ6_getChars_ba4f3_16 (by decide) (fun hc => absurd hc (fun q => q rfl)) (fun hc => ?_)
  refine j_iload_n x dJ6_getChars_ba4f3_19 rfl ?_
  refine j_ineg x dJ6_getChars_ba4f3_20 ?_
  refine j_istore_n x dJ6_getChars_ba4f3_21 (by decide) rfl ?_
  refine j_iload_n x dJ6_getChars_ba4f3_22 rfl ?_
  refine j_bipush (v := (-100)) x dJ6_getChars_ba4f3_23 (by decide) ?_
  refine j_icmp_gt (tgt := 72) x dJ6_getChars_ba4f3_25 (by decide) (fun hc => ?_) (fun hc => absurd ((neg_lt (v := v) (by omega) (k := 100) (by decide)).mpr (by omega)) hc)
  refine j_aload_n x dJ6_getChars_ba4f3_72 rfl ?_
  refine j_iinc x dJ6_getChars_ba4f3_73 rfl (by decide) rfl ?_; rw [nI_dn3 (by omega)]
  refine j_iload x dJ6_getChars_ba4f3_76 rfl ?_
  refine j_getsR x dJ6_getChars_ba4f3_78 hZa wfJ6_83 ?_
  refine j_iload_n x dJ6_getChars_ba4f3_81 rfl ?_
  refine j_ineg x dJ6_getChars_ba4f3_82 ?_; rw [Int32.neg_neg]
  refine j_tld x hTa (k := v) (by omega) dJ6_getChars_ba4f3_83 ?_
  refine j2_bst x hB hlt hl dJ6_getChars_ba4f3_84 (vp_in_nI (by omega) (by omega)) rfl ?_; rw [nI_clamp (by omega)]
  refine j_iload_n x dJ6_getChars_ba4f3_85 rfl ?_
  refine j_bipush (v := (-9)) x dJ6_getChars_ba4f3_86 (by decide) ?_
  refine j_icmp_ge (tgt := 104) x dJ6_getChars_ba4f3_88 (by decide) (fun hc => absurd hc (fun q => absurd ((neg_le (v := 9) (by decide) (k := v) (by omega)).mp q) (by omega))) (fun hc => ?_)
  refine j_aload_n x dJ6_getChars_ba4f3_91 rfl ?_
  refine j_iinc x dJ6_getChars_ba4f3_92 rfl (by decide) rfl ?_; rw [nI_dn3 (by omega)]
  refine j_iload x dJ6_getChars_ba4f3_95 rfl ?_
  refine j_getsR x dJ6_getChars_ba4f3_97 hZb wfJ6_87 ?_
  refine j_iload_n x dJ6_getChars_ba4f3_100 rfl ?_
  refine j_ineg x dJ6_getChars_ba4f3_101 ?_; rw [Int32.neg_neg]
  refine j_tld x hTb (k := v) (by omega) dJ6_getChars_ba4f3_102 ?_
  refine j2_bst x hB hlt hl dJ6_getChars_ba4f3_103 (vp_in_nI (by omega) (by omega)) rfl ?_; rw [nI_clamp (by omega)]
  refine j_iload x dJ6_getChars_ba4f3_104 rfl ?_
  refine j_if_eq (tgt := 118) x dJ6_getChars_ba4f3_106 (by decide) (fun hc => ?_) (fun hc => absurd (rfl) hc)
  refine j_iload x dJ6_getChars_ba4f3_118 rfl ?_
  exact j_ireturn x hr dJ6_getChars_ba4f3_120 (by omega) (by omega) ⟨rfl, rfl⟩
theorem c_getChars_3 {d : Nat} {b : SBt} {Y : OUt} {M : MM} (hb : 94 ≤ b.2.1) {v e1 n : Nat} (hI : sbI b M n) (hn : n < 1000) (he : 3 ≤ e1) (hen : e1 ≤ n) (h0 : 100 ≤ v) (hv : v < 1000) : CM (d) 0 0 yJ6_getChars_ba4f3 cJ6_getChars_ba4f3 7 (some .int) [.int (nI v), .int (nI e1), .ref b.1] b Y M (.inl (some (.int (nI (e1 - 1 - 1 - 1))))) (jm (jm (jm (M) b.1 (e1 - 1) (vp_nar .byte (j_ones (v % 100)))) b.1 (e1 - 1 - 1) (vp_nar .byte (j_tens (v % 100)))) b.1 (e1 - 1 - 1 - 1) (vp_nar .byte (j_ones (v / 100)))) := by
  refine Con.of (by decide +kernel) (Nat.le_of_ble_eq_true rfl) rfl fun p l e s m args below meth c D tyc A ad0 x hr htab hname => ?_
  change JJ _ _ _ _ _ _ _ _ _ _ _ _ _ _ _ _ _ 0 [some (.int (nI v)), some (.int (nI e1)), some (.ref b.1), none, none, none, none] [] _ 0 0
  obtain ⟨hB, hlt, -, hl, -⟩ := hI
  obtain ⟨ta, hZa, hTa⟩ := j_tabT x.2.2.2.2.2.2.2.2.2.2.2.2.2.2.2.2.2.1
  obtain ⟨tb, hZb, hTb⟩ := j_tabT x.2.2.2.2.2.2.2.2.2.2.2.2.2.2.2.2.2.2.1
  refine j_iload_n x dJ6_getChars_ba4f3_0 rfl ?_
  refine j_istore x dJ6_getChars_ba4f3_1 (by decide) rfl ?_
  refine j_iload_n x dJ6_getChars_ba4f3_3 rfl ?_
  refine j_if_ge (tgt := 11) x dJ6_getChars_ba4f3_4 (by decide) (fun hc => ?_) (fun hc => absurd (nI_pos' (by omega)) hc)
  refine j_iconst (v := 0) x dJ6_getChars_ba4f3_11 (by decide) ?_
  refine j_istore x dJ6_getChars_ba4f3_12 (by decide) rfl ?_
  refine j_iload x dJ6_getChars_ba4f3_14 rfl ?_
  refine j_if_ne (tgt := 22) x dJ6_getChars_ba4f3_16 (by decide) (fun hc => absurd hc (fun q => q rfl)) (fun hc => ?_)
  refine j_iload_n x dJ6_getChars_ba4f3_19 rfl ?_
  refine j_ineg x dJ6_getChars_ba4f3_20 ?_
  refine j_istore_n x dJ6_getChars_ba4f3_21 (by decide) rfl ?_
  refine j_iload_n x dJ6_getChars_ba4f3_22 rfl ?_
  refine j_bipush (v := (-100)) x dJ6_getChars_ba4f3_23 (by decide) ?_
  refine j_icmp_gt (tgt := 72) x dJ6_getChars_ba4f3_25 (by decide) (fun hc => absurd hc (fun q => absurd ((neg_lt (v := v) (by omega) (k := 100) (by decide)).mp q) (by omega))) (fun hc => ?_)
  refine j_iload_n x dJ6_getChars_ba4f3_28 rfl ?_
  refine j_bipush (v := 100) x dJ6_getChars_ba4f3_29 (by decide) ?_
  refine j_idiv x dJ6_getChars_ba4f3_31 (by decide) ?_; rw [neg_div100 (by omega)]
  refine j_istore_n x dJ6_getChars_ba4f3_32 (by decide) rfl ?_
  refine j_iload_n x dJ6_getChars_ba4f3_33 rfl ?_
  refine j_bipush (v := 100) x dJ6_getChars_ba4f3_34 (by decide) ?_
  refine j_imul x dJ6_getChars_ba4f3_36 ?_
  refine j_iload_n x dJ6_getChars_ba4f3_37 rfl ?_
  refine j_isub x dJ6_getChars_ba4f3_38 ?_; rw [neg_mod100 (by omega)]
  refine j_istore x dJ6_getChars_ba4f3_39 (by decide) rfl ?_
  refine j_iload_n x dJ6_getChars_ba4f3_41 rfl ?_
  refine j_istore_n x dJ6_getChars_ba4f3_42 (by decide) rfl ?_
  refine j_aload_n x dJ6_getChars_ba4f3_43 rfl ?_
  refine j_iinc x dJ6_getChars_ba4f3_44 rfl (by decide) rfl ?_; rw [nI_dn3 (by omega)]
  refine j_iload x dJ6_getChars_ba4f3_47 rfl ?_
  refine j_getsR x dJ6_getChars_ba4f3_49 hZa wfJ6_83 ?_
  refine j_iload x dJ6_getChars_ba4f3_52 rfl ?_
  refine j_tld x hTa (k := v % 100) (by omega) dJ6_getChars_ba4f3_54 ?_
  refine j2_bst x hB hlt hl dJ6_getChars_ba4f3_55 (vp_in_nI (by omega) (by omega)) rfl ?_; rw [nI_clamp (by omega)]
  refine j_aload_n x dJ6_getChars_ba4f3_56 rfl ?_
  refine j_iinc x dJ6_getChars_ba4f3_57 rfl (by decide) rfl ?_; rw [nI_dn3 (by omega)]
  refine j_iload x dJ6_getChars_ba4f3_60 rfl ?_
  refine j_getsR x dJ6_getChars_ba4f3_62 hZb wfJ6_87 ?_
  refine j_iload x dJ6_getChars_ba4f3_65 rfl ?_
  refine j_tld x hTb (k := v % 100) (by omega) dJ6_getChars_ba4f3_67 ?_
  refine j2_bst x hB hlt hl dJ6_getChars_ba4f3_68 (vp_in_nI (by omega) (by omega)) rfl ?_; rw [nI_clamp (by omega)]
  refine j_goto (tgt := 22) x dJ6_getChars_ba4f3_69 (by decide) ?_
  refine j_iload_n x dJ6_getChars_ba4f3_22 rfl ?_
  refine j_bipush (v := (-100)) x dJ6_getChars_ba4f3_23 (by decide) ?_
  refine j_icmp_gt (tgt := 72) x dJ6_getChars_ba4f3_25 (by decide) (fun hc => ?_) (fun hc => absurd ((neg_lt (v := v / 100) (by omega) (k := 100) (by decide)).mpr (by omega)) hc)
  refine j_aload_n x dJ6_getChars_ba4f3_72 rfl ?_
  refine j_iinc x dJ6_getChars_ba4f3_73 rfl (by decide) rfl ?_; rw [nI_dn3 (by omega)]
  refine j_iload x dJ6_getChars_ba4f3_76 rfl ?_
  refine j_getsR x dJ6_getChars_ba4f3_78 hZa wfJ6_83 ?_
  refine j_iload_n x dJ6_getChars_ba4f3_81 rfl ?_
  refine j_ineg x dJ6_getChars_ba4f3_82 ?_; rw [Int32.neg_neg]
  refine j_tld x hTa (k := v / 100) (by omega) dJ6_getChars_ba4f3_83 ?_
  refine j2_bst x hB hlt hl dJ6_getChars_ba4f3_84 (vp_in_nI (by omega) (by omega)) rfl ?_; rw [nI_clamp (by omega)]
  refine j_iload_n x dJ6_getChars_ba4f3_85 rfl ?_
  refine j_bipush (v := (-9)) x dJ6_getChars_ba4f3_86 (by decide) ?_
  refine j_icmp_ge (tgt := 104) x dJ6_getChars_ba4f3_88 (by decide) (fun hc => ?_) (fun hc => absurd ((neg_le (v := 9) (by decide) (k := v / 100) (by omega)).mpr (by omega)) hc)
  refine j_iload x dJ6_getChars_ba4f3_104 rfl ?_
  refine j_if_eq (tgt := 118) x dJ6_getChars_ba4f3_106 (by decide) (fun hc => ?_) (fun hc => absurd (rfl) hc)
  refine j_iload x dJ6_getChars_ba4f3_118 rfl ?_
  exact j_ireturn x hr dJ6_getChars_ba4f3_120 (by omega) (by omega) ⟨rfl, rfl⟩
theorem c_getChars_4 {d : Nat} {b : SBt} {Y : OUt} {M : MM} (hb : 94 ≤ b.2.1) {v e1 n : Nat} (hI : sbI b M n) (hn : n < 1000) (he : 4 ≤ e1) (hen : e1 ≤ n) (h0 : 1000 ≤ v) (hv : v < 10000) : CM (d) 0 0 yJ6_getChars_ba4f3 cJ6_getChars_ba4f3 7 (some .int) [.int (nI v), .int (nI e1), .ref b.1] b Y M (.inl (some (.int (nI (e1 - 1 - 1 - 1 - 1))))) (jm (jm (jm (jm (M) b.1 (e1 - 1) (vp_nar .byte (j_ones (v % 100)))) b.1 (e1 - 1 - 1) (vp_nar .byte (j_tens (v % 100)))) b.1 (e1 - 1 - 1 - 1) (vp_nar .byte (j_ones (v / 100)))) b.1 (e1 - 1 - 1 - 1 - 1) (vp_nar .byte (j_tens (v / 100)))) := by
  refine Con.of (by decide +kernel) (Nat.le_of_ble_eq_true rfl) rfl fun p l e s m args below meth c D tyc A ad0 x hr htab hname => ?_
  change JJ _ _ _ _ _ _ _ _ _ _ _ _ _ _ _ _ _ 0 [some (.int (nI v)), some (.int (nI e1)), some (.ref b.1), none, none, none, none] [] _ 0 0
  obtain ⟨hB, hlt, -, hl, -⟩ := hI
  obtain ⟨ta, hZa, hTa⟩ := j_tabT x.2.2.2.2.2.2.2.2.2.2.2.2.2.2.2.2.2.1
  obtain ⟨tb, hZb, hTb⟩ := j_tabT x.2.2.2.2.2.2.2.2.2.2.2.2.2.2.2.2.2.2.1
  refine j_iload_n x dJ6_getChars_ba4f3_0 rfl ?_
  refine j_istore x dJ6_getChars_ba4f3_1 (by decide) rfl ?_
  refine j_iload_n x dJ6_getChars_ba4f3_3 rfl ?_
  refine j_if_ge (tgt := 11) x dJ6_getChars_ba4f3_4 (by decide) (fun hc => ?_) (fun hc => absurd (nI_pos' (by omega)) hc)
  refine j_iconst (v := 0) x dJ6_getChars_ba4f3_11 (by decide) ?_
  refine j_istore x dJ6_getChars_ba4f3_12 (by decide) rfl ?_
  refine j_iload x dJ6_getChars_ba4f3_14 rfl ?_
  refine j_if_ne (tgt := 22) x dJ6_getChars_ba4f3_16 (by decide) (fun hc => absurd hc (fun q => q rfl)) (fun hc => ?_)
  refine j_iload_n x dJ6_getChars_ba4f3_19 rfl ?_
  refine j_ineg x dJ6_getChars_ba4f3_20 ?_
  refine j_istore_n x dJ6_getChars_ba4f3_21 (by decide) rfl ?_
  refine j_iload_n x dJ6_getChars_ba4f3_22 rfl ?_
  refine j_bipush (v := (-100)) x dJ6_getChars_ba4f3_23 (by decide) ?_
  refine j_icmp_gt (tgt := 72) x dJ6_getChars_ba4f3_25 (by decide) (fun hc => absurd hc (fun q => absurd ((neg_lt (v := v) (by omega) (k := 100) (by decide)).mp q) (by omega))) (fun hc => ?_)
  refine j_iload_n x dJ6_getChars_ba4f3_28 rfl ?_
  refine j_bipush (v := 100) x dJ6_getChars_ba4f3_29 (by decide) ?_
  refine j_idiv x dJ6_getChars_ba4f3_31 (by decide) ?_; rw [neg_div100 (by omega)]
  refine j_istore_n x dJ6_getChars_ba4f3_32 (by decide) rfl ?_
  refine j_iload_n x dJ6_getChars_ba4f3_33 rfl ?_
  refine j_bipush (v := 100) x dJ6_getChars_ba4f3_34 (by decide) ?_
  refine j_imul x dJ6_getChars_ba4f3_36 ?_
  refine j_iload_n x dJ6_getChars_ba4f3_37 rfl ?_
  refine j_isub x dJ6_getChars_ba4f3_38 ?_; rw [neg_mod100 (by omega)]
  refine j_istore x dJ6_getChars_ba4f3_39 (by decide) rfl ?_
  refine j_iload_n x dJ6_getChars_ba4f3_41 rfl ?_
  refine j_istore_n x dJ6_getChars_ba4f3_42 (by decide) rfl ?_
  refine j_aload_n x dJ6_getChars_ba4f3_43 rfl ?_
  refine j_iinc x dJ6_getChars_ba4f3_44 rfl (by decide) rfl ?_; rw [nI_dn3 (by omega)]
  refine j_iload x dJ6_getChars_ba4f3_47 rfl ?_
  refine j_getsR x dJ6_getChars_ba4f3_49 hZa wfJ6_83 ?_
  refine j_iload x dJ6_getChars_ba4f3_52 rfl ?_
  refine j_tld x hTa (k := v % 100) (by omega) dJ6_getChars_ba4f3_54 ?_
  refine j2_bst x hB hlt hl dJ6_getChars_ba4f3_55 (vp_in_nI (by omega) (by omega)) rfl ?_; rw [nI_clamp (by omega)]
  refine j_aload_n x dJ6_getChars_ba4f3_56 rfl ?_
  refine j_iinc x dJ6_getChars_ba4f3_57 rfl (by decide) rfl ?_; rw [nI_dn3 (by omega)]
  refine j_iload x dJ6_getChars_ba4f3_60 rfl ?_
  refine j_getsR x dJ6_getChars_ba4f3_62 hZb wfJ6_87 ?_
  refine j_iload x dJ6_getChars_ba4f3_65 rfl ?_
  refine j_tld x hTb (k := v % 100) (by omega) dJ6_getChars_ba4f3_67 ?_
  refine j2_bst x hB hlt hl dJ6_getChars_ba4f3_68 (vp_in_nI (by omega) (by omega)) rfl ?_; rw [nI_clamp (by omega)]
  refine j_goto (tgt := 22) x dJ6_getChars_ba4f3_69 (by decide) ?_
  refine j_iload_n x dJ6_getChars_ba4f3_22 rfl ?_
  refine j_bipush (v := (-100)) x dJ6_getChars_ba4f3_23 (by decide) ?_
  refine j_icmp_gt (tgt := 72) x dJ6_getChars_ba4f3_25 (by decide) (fun hc => ?_) (fun hc => absurd ((neg_lt (v := v / 100) (by omega) (k := 100) (by decide)).mpr (by omega)) hc)
  refine j_aload_n x dJ6_getChars_ba4f3_72 rfl ?_
  refine j_iinc x dJ6_getChars_ba4f3_73 rfl (by decide) rfl ?_; rw [nI_dn3 (by omega)]
  refine j_iload x dJ6_getChars_ba4f3_76 rfl ?_
  refine j_getsR x dJ6_getChars_ba4f3_78 hZa wfJ6_83 ?_
  refine j_iload_n x dJ6_getChars_ba4f3_81 rfl ?_
  refine j_ineg x dJ6_getChars_ba4f3_82 ?_; rw [Int32.neg_neg]
  refine j_tld x hTa (k := v / 100) (by omega) dJ6_getChars_ba4f3_83 ?_
  refine j2_bst x hB hlt hl dJ6_getChars_ba4f3_84 (vp_in_nI (by omega) (by omega)) rfl ?_; rw [nI_clamp (by omega)]
  refine j_iload_n x dJ6_getChars_ba4f3_85 rfl ?_
  refine j_bipush (v := (-9)) x dJ6_getChars_ba4f3_86 (by decide) ?_
  refine j_icmp_ge (tgt := 104) x dJ6_getChars_ba4f3_88 (by decide) (fun hc => absurd hc (fun q => absurd ((neg_le (v := 9) (by decide) (k := v / 100) (by omega)).mp q) (by omega))) (fun hc => ?_)
  refine j_aload_n x dJ6_getChars_ba4f3_91 rfl ?_
  refine j_iinc x dJ6_getChars_ba4f3_92 rfl (by decide) rfl ?_; rw [nI_dn3 (by omega)]
  refine j_iload x dJ6_getChars_ba4f3_95 rfl ?_
  refine j_getsR x dJ6_getChars_ba4f3_97 hZb wfJ6_87 ?_
  refine j_iload_n x dJ6_getChars_ba4f3_100 rfl ?_
  refine j_ineg x dJ6_getChars_ba4f3_101 ?_; rw [Int32.neg_neg]
  refine j_tld x hTb (k := v / 100) (by omega) dJ6_getChars_ba4f3_102 ?_
  refine j2_bst x hB hlt hl dJ6_getChars_ba4f3_103 (vp_in_nI (by omega) (by omega)) rfl ?_; rw [nI_clamp (by omega)]
  refine j_iload x dJ6_getChars_ba4f3_104 rfl ?_
  refine j_if_eq (tgt := 118) x dJ6_getChars_ba4f3_106 (by decide) (fun hc => ?_) (fun hc => absurd (rfl) hc)
  refine j_iload x dJ6_getChars_ba4f3_118 rfl ?_
  exact j_ireturn x hr dJ6_getChars_ba4f3_120 (by omega) (by omega) ⟨rfl, rfl⟩
def dgB (v j : Nat) : Int32 :=
  if v < 10 then vp_nar .byte (j_ones v)
  else if v < 100 then (if j = 0 then vp_nar .byte (j_tens v) else vp_nar .byte (j_ones v))
  else if v < 1000 then (if j = 0 then vp_nar .byte (j_ones (v / 100)) else if j = 1 then vp_nar .byte (j_tens (v % 100)) else vp_nar .byte (j_ones (v % 100)))
  else (if j = 0 then vp_nar .byte (j_tens (v / 100)) else if j = 1 then vp_nar .byte (j_ones (v / 100)) else if j = 2 then vp_nar .byte (j_tens (v % 100)) else vp_nar .byte (j_ones (v % 100)))
theorem gc_row1 {M : MM} {r e1 v : Nat} (he : 1 ≤ e1) (h : v < 10) : ∀ k, jm M r (e1 - 1) (vp_nar .byte (j_ones v)) r k = if e1 - 1 ≤ k ∧ k < e1 then dgB v (k - (e1 - 1)) else M r k := by
  intro k
  by_cases c : k = e1 - 1
  · subst c; rw [jm_s, if_pos (by omega)]; unfold dgB; rw [if_pos h]
  · rw [jm_n (by omega), if_neg (by omega)]
theorem gc_row2 {M : MM} {r e1 v : Nat} (he : 2 ≤ e1) (h0 : 10 ≤ v) (h : v < 100) : ∀ k, jm (jm M r (e1 - 1) (vp_nar .byte (j_ones v))) r (e1 - 1 - 1) (vp_nar .byte (j_tens v)) r k = if e1 - 2 ≤ k ∧ k < e1 then dgB v (k - (e1 - 2)) else M r k := by
  intro k
  unfold dgB
  rw [if_neg (show ¬ v < 10 by omega), if_pos h]
  by_cases c : k = e1 - 1 - 1
  · subst c; rw [jm_s, if_pos (by omega), if_pos (by omega)]
  · rw [jm_n (by omega)]
    by_cases c2 : k = e1 - 1
    · subst c2; rw [jm_s, if_pos (by omega), if_neg (by omega)]
    · rw [jm_n (by omega), if_neg (by omega)]
theorem gc_row3 {M : MM} {r e1 v : Nat} (he : 3 ≤ e1) (h0 : 100 ≤ v) (h : v < 1000) : ∀ k, jm (jm (jm M r (e1 - 1) (vp_nar .byte (j_ones (v % 100)))) r (e1 - 1 - 1) (vp_nar .byte (j_tens (v % 100)))) r (e1 - 1 - 1 - 1) (vp_nar .byte (j_ones (v / 100))) r k = if e1 - 3 ≤ k ∧ k < e1 then dgB v (k - (e1 - 3)) else M r k := by
  intro k
  unfold dgB
  rw [if_neg (show ¬ v < 10 by omega), if_neg (show ¬ v < 100 by omega), if_pos h]
  by_cases c : k = e1 - 1 - 1 - 1
  · subst c; rw [jm_s, if_pos (by omega), if_pos (by omega)]
  · rw [jm_n (by omega)]
    by_cases c2 : k = e1 - 1 - 1
    · subst c2; rw [jm_s, if_pos (by omega), if_neg (by omega), if_pos (by omega)]
    · rw [jm_n (by omega)]
      by_cases c3 : k = e1 - 1
      · subst c3; rw [jm_s, if_pos (by omega), if_neg (by omega), if_neg (by omega)]
      · rw [jm_n (by omega), if_neg (by omega)]
theorem gc_row4 {M : MM} {r e1 v : Nat} (he : 4 ≤ e1) (h0 : 1000 ≤ v) : ∀ k, jm (jm (jm (jm M r (e1 - 1) (vp_nar .byte (j_ones (v % 100)))) r (e1 - 1 - 1) (vp_nar .byte (j_tens (v % 100)))) r (e1 - 1 - 1 - 1) (vp_nar .byte (j_ones (v / 100)))) r (e1 - 1 - 1 - 1 - 1) (vp_nar .byte (j_tens (v / 100))) r k = if e1 - 4 ≤ k ∧ k < e1 then dgB v (k - (e1 - 4)) else M r k := by
  intro k
  unfold dgB
  rw [if_neg (show ¬ v < 10 by omega), if_neg (show ¬ v < 100 by omega), if_neg (show ¬ v < 1000 by omega)]
  by_cases c : k = e1 - 1 - 1 - 1 - 1
  · subst c; rw [jm_s, if_pos (by omega), if_pos (by omega)]
  · rw [jm_n (by omega)]
    by_cases c1 : k = e1 - 1 - 1 - 1
    · subst c1; rw [jm_s, if_pos (by omega), if_neg (by omega), if_pos (by omega)]
    · rw [jm_n (by omega)]
      by_cases c2 : k = e1 - 1 - 1
      · subst c2; rw [jm_s, if_pos (by omega), if_neg (by omega), if_neg (by omega), if_pos (by omega)]
      · rw [jm_n (by omega)]
        by_cases c3 : k = e1 - 1
        · subst c3; rw [jm_s, if_pos (by omega), if_neg (by omega), if_neg (by omega), if_neg (by omega)]
        · rw [jm_n (by omega), if_neg (by omega)]
theorem c_getChars {d : Nat} {b : SBt} {Y : OUt} {M : MM} (hb : 94 ≤ b.2.1) {v e1 n : Nat} (hI : sbI b M n) (hn : n < 1000) (he : dg v ≤ e1) (hen : e1 ≤ n) (hv : v < 10000) : ∃ N w, (∀ i k, i ≠ b.1 → N i k = M i k) ∧ (∀ k, fits .byte (.int (N b.1 k)) = true) ∧ (∀ k, N b.1 k = if e1 - dg v ≤ k ∧ k < e1 then dgB v (k - (e1 - dg v)) else M b.1 k) ∧ CM d 0 0 yJ6_getChars_ba4f3 cJ6_getChars_ba4f3 7 (some .int) [.int (nI v), .int (nI e1), .ref b.1] b Y M (.inl (some (.int w))) N := by
  unfold dg at he
  by_cases h1 : v < 10
  · rw [if_pos h1] at he
    exact ⟨_, _, fun i k h => by rw [jm_n (by omega)], fit_jm (hI.2.2.2.2.2), (by rw [show dg v = 1 from by unfold dg; rw [if_pos h1]]; exact gc_row1 he h1), c_getChars_1 hb hI hn he hen h1⟩
  · rw [if_neg h1] at he
    by_cases h2 : v < 100
    · rw [if_pos h2] at he
      exact ⟨_, _, fun i k h => by rw [jm_n (by omega), jm_n (by omega)], fit_jm (fit_jm (hI.2.2.2.2.2)), (by rw [show dg v = 2 from by unfold dg; rw [if_neg h1, if_pos h2]]; exact gc_row2 he (by omega) h2), c_getChars_2 hb hI hn he hen (by omega) h2⟩
    · rw [if_neg h2] at he
      by_cases h3 : v < 1000
      · rw [if_pos h3] at he
        exact ⟨_, _, fun i k h => by rw [jm_n (by omega), jm_n (by omega), jm_n (by omega)], fit_jm (fit_jm (fit_jm (hI.2.2.2.2.2))), (by rw [show dg v = 3 from by unfold dg; rw [if_neg h1, if_neg h2, if_pos h3]]; exact gc_row3 he (by omega) h3), c_getChars_3 hb hI hn he hen (by omega) h3⟩
      · rw [if_neg h3] at he
        exact ⟨_, _, fun i k h => by rw [jm_n (by omega), jm_n (by omega), jm_n (by omega), jm_n (by omega)], fit_jm (fit_jm (fit_jm (fit_jm (hI.2.2.2.2.2)))), (by rw [show dg v = 4 from by unfold dg; rw [if_neg h1, if_neg h2, if_neg h3]]; exact gc_row4 he (by omega)), c_getChars_4 hb hI hn he hen (by omega) hv⟩
theorem if_mx {a c : Nat} (ha : a < 2 ^ 31) (hc : c < 2 ^ 31) : (if nI a < nI c then nI c else nI a) = nI (if a < c then c else a) := by
  by_cases h : a < c
  · rw [if_pos h, if_pos (nI_lt h hc)]
  · rw [if_neg h, if_neg (nI_nlt (by omega) ha)]
def sbc (n m : Nat) : Nat := n + (if m - n < n + 2 then n + 2 else m - n)
theorem c_newLength {d : Nat} {b : SBt} {Y : OUt} {M : MM} (hb : 94 ≤ b.2.1) {n m1 : Nat} (hm : n < m1) (hm2 : m1 < 1000) : CM (d) 0 0 yJ8_newLength_cabcc cJ8_newLength_cabcc 4 (some .int) [.int (nI n), .int (nI (m1 - n)), .int (nI (n + 2))] b Y M (.inl (some (.int (nI (sbc n m1))))) (M) := by
  have hc1 : 0 < sbc n m1 ∧ sbc n m1 < 3000 := by unfold sbc; split <;> omega
  obtain ⟨hc1, hc2⟩ := hc1
  refine Con.of (by decide +kernel) (Nat.le_of_ble_eq_true rfl) rfl fun p l e s m args below meth c D tyc A ad0 x hr htab hname => ?_
  change JJ _ _ _ _ _ _ _ _ _ _ _ _ _ _ _ _ _ 0 [some (.int (nI n)), some (.int (nI (m1 - n))), some (.int (nI (n + 2))), none] [] _ 0 0
  refine j_iload_n x dJ8_newLength_cabcc_0 rfl ?_
  refine j_iload_n x dJ8_newLength_cabcc_1 rfl ?_
  refine j_iload_n x dJ8_newLength_cabcc_2 rfl ?_
  refine j_max x wmath dJ8_newLength_cabcc_3 wmJ8_194 (Nat.le_of_ble_eq_true rfl) (Nat.zero_le _) (Nat.zero_le _) ?_; rw [if_mx (show m1 - n < 2 ^ 31 by omega) (show n + 2 < 2 ^ 31 by omega)]
  refine j_iadd x dJ8_newLength_cabcc_6 ?_; rw [nI_add, show n + (if m1 - n < n + 2 then n + 2 else m1 - n) = sbc n m1 from rfl]
  refine j_istore_n x dJ8_newLength_cabcc_7 (by decide) rfl ?_
  refine j_iconst (v := 0) x dJ8_newLength_cabcc_8 (by decide) ?_
  refine j_iload_n x dJ8_newLength_cabcc_9 rfl ?_
  refine j_icmp_ge (tgt := 21) x dJ8_newLength_cabcc_10 (by decide) (fun hc => absurd hc (nI_nle hc1 (by omega))) (fun hc => ?_)
  refine j_iload_n x dJ8_newLength_cabcc_13 rfl ?_
  refine j_ldci x dJ8_newLength_cabcc_14 wkJ8_200 ?_
  refine j_icmp_gt (tgt := 21) x dJ8_newLength_cabcc_16 (by decide) (fun hc => absurd hc (show ¬ nI 2147483639 < nI (sbc n m1) from nI_nlt (by omega) (by decide))) (fun hc => ?_)
  refine j_iload_n x dJ8_newLength_cabcc_19 rfl ?_
  exact j_ireturn x hr dJ8_newLength_cabcc_20 (by omega) (by omega) ⟨rfl, rfl⟩
theorem c_newCapacity {d : Nat} {b : SBt} {Y : OUt} {M : MM} (hb : 94 ≤ b.2.1) {n : Nat} (hI : sbI b M n) {m1 : Nat} (hm : n < m1) (hm2 : m1 < 1000) : CM (d + 1) 0 0 yJ5_newCapacity_0f7a4 cJ5_newCapacity_0f7a4 6 (some .int) [.ref 92, .int (nI m1)] b Y M (.inl (some (.int (nI (sbc n m1))))) (M) := by
  have hc1 : 0 < sbc n m1 ∧ sbc n m1 < 3000 := by unfold sbc; split <;> omega
  refine Con.of (by decide +kernel) (Nat.le_of_ble_eq_true rfl) rfl fun p l e s m args below meth c D tyc A ad0 x hr htab hname => ?_
  change JJ _ _ _ _ _ _ _ _ _ _ _ _ _ _ _ _ _ 0 [some (.ref 92), some (.int (nI m1)), none, none, none, none] [] _ 0 0
  refine j_aload_n x dJ5_newCapacity_0f7a4_0 rfl ?_
  refine j2_vget x hb dJ5_newCapacity_0f7a4_1 wfJ5_15 ?_
  refine j2_blen x hI.1 hI.2.1 hI.2.2.2.1 dJ5_newCapacity_0f7a4_4 ?_
  refine j_istore_n x dJ5_newCapacity_0f7a4_5 (by decide) rfl ?_
  refine j_iload_n x dJ5_newCapacity_0f7a4_6 rfl ?_
  refine j_aload_n x dJ5_newCapacity_0f7a4_7 rfl ?_
  refine j2_geti (k := 1) x hb dJ5_newCapacity_0f7a4_8 jc_1 wfJ5_22 (by decide) rfl ?_; rw [hI.2.2.2.2.1]
  refine j_ishl x dJ5_newCapacity_0f7a4_11 ?_; rw [shl0]
  refine j_istore_n x dJ5_newCapacity_0f7a4_12 (by decide) rfl ?_
  refine j_iload_n x dJ5_newCapacity_0f7a4_13 rfl ?_
  refine j_iload_n x dJ5_newCapacity_0f7a4_14 rfl ?_
  refine j_isub x dJ5_newCapacity_0f7a4_15 ?_; rw [nI_sub (Nat.le_of_lt hm)]
  refine j_istore x dJ5_newCapacity_0f7a4_16 (by decide) rfl ?_
  refine j_iload_n x dJ5_newCapacity_0f7a4_18 rfl ?_
  refine j_iload x dJ5_newCapacity_0f7a4_19 rfl ?_
  refine j_iload_n x dJ5_newCapacity_0f7a4_21 rfl ?_
  refine j_iconst (v := 2) x dJ5_newCapacity_0f7a4_22 (by decide) ?_
  refine j_aload_n x dJ5_newCapacity_0f7a4_23 rfl ?_
  refine j2_geti (k := 1) x hb dJ5_newCapacity_0f7a4_24 jc_1 wfJ5_22 (by decide) rfl ?_; rw [hI.2.2.2.2.1]
  refine j_ishl x dJ5_newCapacity_0f7a4_27 ?_; rw [shl0]
  refine j_iadd x dJ5_newCapacity_0f7a4_28 ?_; rw [show (2 : Int32) = nI 2 from rfl, nI_add]
  refine j2_callSi x hb dJ5_newCapacity_0f7a4_29 m_J8_newLength_cabcc (c_newLength (d := d) hb hm hm2) wmJ5_114 rfl (Nat.le_of_ble_eq_true rfl) (j_fit_rm (by omega) (by omega) (by omega)) rfl ?_
  refine j_istore x dJ5_newCapacity_0f7a4_32 (by decide) rfl ?_
  refine j_iload x dJ5_newCapacity_0f7a4_34 rfl ?_
  refine j_ldci x dJ5_newCapacity_0f7a4_36 wkJ5_39 ?_
  refine j_icmp_ne (tgt := 51) x dJ5_newCapacity_0f7a4_38 (by decide) (fun hc => ?_) (fun hc => absurd hc (fun q => absurd ((nI_eq (by omega) (by decide)).mp (show nI (sbc n m1) = nI 2147483647 from q)) (by omega)))
  refine j_iload x dJ5_newCapacity_0f7a4_51 rfl ?_
  refine j_aload_n x dJ5_newCapacity_0f7a4_53 rfl ?_
  refine j2_geti (k := 1) x hb dJ5_newCapacity_0f7a4_54 jc_1 wfJ5_22 (by decide) rfl ?_; rw [hI.2.2.2.2.1]
  refine j_ishr x dJ5_newCapacity_0f7a4_57 ?_; rw [shr0]
  exact j_ireturn x hr dJ5_newCapacity_0f7a4_58 (by omega) (by omega) ⟨rfl, rfl⟩
theorem hLen_sbp {b : SBt} {c1 i : Nat} (h : i < b.2.1) : hLen (sbp b c1) i = hLen b i := by
  unfold hLen sbp
  split
  · rfl
  · exact if_neg (by omega)
theorem hLen_new {b : SBt} {c1 : Nat} (hb : 94 ≤ b.2.1) : hLen (sbp b c1) b.2.1 = c1 := by
  unfold hLen sbp
  rw [if_neg (by omega)]
  exact if_pos rfl
def sbN (b : SBt) (M : MM) (n : Nat) : MM := mz (mz M b.2.1 fun _ => 0) b.2.1 fun k => if k < n then (mz M b.2.1 fun _ => 0) b.1 k else (mz M b.2.1 fun _ => 0) b.2.1 k
theorem sbN_n {b : SBt} {M : MM} {n i k : Nat} (h : i ≠ b.2.1) : sbN b M n i k = M i k := by rw [sbN, mz_n h, mz_n h]
theorem sbN_fit {b : SBt} {M : MM} {n : Nat} (hI : sbI b M n) : ∀ k, fits .byte (.int (sbN b M n b.2.1 k)) = true := fun k => by
  rw [sbN, mz_s]
  split
  · rw [mz_n (Nat.ne_of_lt hI.2.1)]; exact hI.2.2.2.2.2 k
  · rw [mz_s]; decide
theorem c_copyOf {d : Nat} {b : SBt} {Y : OUt} {M : MM} (hb : 94 ≤ b.2.1) {n : Nat} (hI : sbI b M n) {c1 : Nat} (hcc : n < c1) (hc2 : c1 ≤ 202) : Con (d) 1 202 yJ7_copyOf_9075b cJ7_copyOf_9075b 3 (some (FieldType.array FieldType.byte)) [.ref b.1, .int (nI c1)] (HH b Y M) (fun o k => o = .inl (some (.ref b.2.1)) ∧ k = HH (sbp b c1) Y (sbN b M n)) := by
  refine Con.of (by decide +kernel) (Nat.le_of_ble_eq_true rfl) rfl fun p l e s m args below meth c D tyc A ad0 x hr htab hname => ?_
  change JJ _ _ _ _ _ _ _ _ _ _ _ _ _ _ _ _ _ 0 [some (.ref b.1), some (.int (nI c1)), none] [] _ 0 0
  refine j_iload_n x dJ7_copyOf_9075b_0 rfl ?_
  refine j_aload_n x dJ7_copyOf_9075b_1 rfl ?_
  refine j2_blen x hI.1 hI.2.1 hI.2.2.2.1 dJ7_copyOf_9075b_2 ?_
  refine j_icmp_ne (tgt := 14) x dJ7_copyOf_9075b_3 (by decide) (fun hc => ?_) (fun hc => absurd hc (fun q => absurd ((nI_eq (by omega) (by omega)).mp q) (by omega)))
  refine j_iload_n x dJ7_copyOf_9075b_14 rfl ?_
  refine j2_bnew x hb dJ7_copyOf_9075b_15 wa_byte (by omega) (Nat.le_of_ble_eq_true rfl) (by simp only [j_rm]; omega) ?_
  refine j_astore_n x dJ7_copyOf_9075b_17 (by decide) rfl ?_
  refine j_aload_n x dJ7_copyOf_9075b_18 rfl ?_
  refine j_iconst (v := 0) x dJ7_copyOf_9075b_19 (by decide) ?_
  refine j_aload_n x dJ7_copyOf_9075b_20 rfl ?_
  refine j_iconst (v := 0) x dJ7_copyOf_9075b_21 (by decide) ?_
  refine j_aload_n x dJ7_copyOf_9075b_22 rfl ?_
  refine j2_blen (n := n) x hI.1 (show b.1 < b.2.1 + 1 from Nat.lt_succ_of_lt hI.2.1) ((hLen_sbp hI.2.1).trans hI.2.2.2.1) dJ7_copyOf_9075b_23 ?_
  refine j_iload_n x dJ7_copyOf_9075b_24 rfl ?_
  refine j_min x wmath dJ7_copyOf_9075b_25 wmJ7_304 (Nat.le_of_ble_eq_true rfl) (Nat.le_of_ble_eq_true rfl) (by omega) ?_; rw [if_neg (nI_nlt (Nat.le_of_lt hcc) (by omega))]
  refine j_copyB x dJ7_copyOf_9075b_28 wmJ7_150 (Nat.le_of_ble_eq_true rfl) (show b.1 < b.2.1 + 1 from Nat.lt_succ_of_lt hI.2.1) (isB_t hI.1) (show b.2.1 < b.2.1 + 1 from Nat.lt_succ_self _) (isB_t (Or.inr hb)) (fun k => by show fits .byte (.int (j_int (hF _ Y _ b.1 k))) = true; rw [isB_f hI.1]; show fits .byte (.int (mz M b.2.1 (fun _ => 0) b.1 k)) = true; rw [mz_n (Nat.ne_of_lt hI.2.1)]; exact hI.2.2.2.2.2 k) (nI_pos (by omega)) (by rw [nI_clamp (by omega)]; show n ≤ hLen (sbp b c1) b.1; rw [hLen_sbp hI.2.1, hI.2.2.2.1]; exact Nat.le_refl _) (by rw [nI_clamp (by omega)]; show n ≤ hLen (sbp b c1) b.2.1; rw [hLen_new hb]; omega) ?_; rw [nI_clamp (by omega), HH_cpb hI.1 (Or.inr hb)]
  refine j_aload_n x dJ7_copyOf_9075b_31 rfl ?_
  exact j_areturn x hr (Or.inr ⟨_, rfl⟩) dJ7_copyOf_9075b_32 (Nat.le_of_ble_eq_true rfl) (by omega) ⟨rfl, rfl⟩
def sbF (M N : MM) : Prop := ∀ i k, (i < 92 ∨ (93 < i ∧ i < 94) ∨ (i = 92 ∧ k = 3)) → N i k = M i k
theorem sbF_t {M N N2 : MM} (h : sbF M N) (h2 : sbF N N2) : sbF M N2 := fun i k z => (h2 i k z).trans (h i k z)
theorem sbF_0 {M : MM} : sbF M M := fun _ _ _ => rfl
theorem mU_ensure : j_mU yJ5_ensureCapacityInternal_d00df cJ5_ensureCapacityInternal_d00df 3 none 1 := ⟨wsame_J5_ensureCapacityInternal_d00df, t_J5_ensureCapacityInternal_d00df, wi_java_lang_AbstractStringBuilder, q_J5_ensureCapacityInternal_d00df, ⟨by decide +kernel, by decide +kernel, by decide +kernel⟩, by decide, j_wx 0 rfl rfl⟩
theorem mU_newCap : j_mU yJ5_newCapacity_0f7a4 cJ5_newCapacity_0f7a4 6 (some .int) 1 := ⟨wsame_J5_newCapacity_0f7a4, t_J5_newCapacity_0f7a4, wi_java_lang_AbstractStringBuilder, q_J5_newCapacity_0f7a4, ⟨by decide +kernel, by decide +kernel, by decide +kernel⟩, by decide, j_wx 1 rfl rfl⟩
theorem mU_latin : j_mU yJ5_isLatin1_aae02 cJ5_isLatin1_aae02 1 (some .boolean) 0 := ⟨wsame_J5_isLatin1_aae02, t_J5_isLatin1_aae02, wi_java_lang_AbstractStringBuilder, q_J5_isLatin1_aae02, ⟨by decide +kernel, by decide +kernel, by decide +kernel⟩, by decide, j_wd 1232 (by decide +kernel) rfl⟩
theorem sub_le0 {a c : Nat} (h : a ≤ c) (hc : c < 2 ^ 31) : nI a - nI c ≤ 0 := by
  rw [Int32.le_iff_toInt_le, Int32.toInt_sub, nI_toInt (by omega), nI_toInt hc, Int32.toInt_zero, Int.bmod_def]
  split <;> omega
theorem c_ensure_no {d : Nat} {b : SBt} {Y : OUt} {M : MM} (hb : 94 ≤ b.2.1) {n : Nat} (hI : sbI b M n) {m1 : Nat} (hm : m1 ≤ n) (hm2 : n < 1000) : CM (d) 0 0 yJ5_ensureCapacityInternal_d00df cJ5_ensureCapacityInternal_d00df 3 none [.ref 92, .int (nI m1)] b Y M (.inl none) (M) := by
  refine Con.of (by decide +kernel) (Nat.le_of_ble_eq_true rfl) rfl fun p l e s m args below meth c D tyc A ad0 x hr htab hname => ?_
  change JJ _ _ _ _ _ _ _ _ _ _ _ _ _ _ _ _ _ 0 [some (.ref 92), some (.int (nI m1)), none] [] _ 0 0
  refine j_aload_n x dJ5_ensureCapacityInternal_d00df_0 rfl ?_
  refine j2_vget x hb dJ5_ensureCapacityInternal_d00df_1 wfJ5_15 ?_
  refine j2_blen x hI.1 hI.2.1 hI.2.2.2.1 dJ5_ensureCapacityInternal_d00df_4 ?_
  refine j_aload_n x dJ5_ensureCapacityInternal_d00df_5 rfl ?_
  refine j2_geti (k := 1) x hb dJ5_ensureCapacityInternal_d00df_6 jc_1 wfJ5_22 (by decide) rfl ?_; rw [hI.2.2.2.2.1]
  refine j_ishr x dJ5_ensureCapacityInternal_d00df_9 ?_; rw [shr0]
  refine j_istore_n x dJ5_ensureCapacityInternal_d00df_10 (by decide) rfl ?_
  refine j_iload_n x dJ5_ensureCapacityInternal_d00df_11 rfl ?_
  refine j_iload_n x dJ5_ensureCapacityInternal_d00df_12 rfl ?_
  refine j_isub x dJ5_ensureCapacityInternal_d00df_13 ?_
  refine j_if_le (tgt := 38) x dJ5_ensureCapacityInternal_d00df_14 (by decide) (fun hc => ?_) (fun hc => absurd (sub_le0 hm (by omega)) hc)
  exact j_return x hr dJ5_ensureCapacityInternal_d00df_38 (by omega) (by omega) ⟨rfl, rfl⟩
theorem c_ensure_up {d : Nat} {b : SBt} {Y : OUt} {M : MM} (hb : 94 ≤ b.2.1) {n : Nat} (hI : sbI b M n) {m1 : Nat} (hm : n < m1) (hm2 : m1 < 1000) (hm3 : m1 ≤ 100) : Con (d + 3) 1 202 yJ5_ensureCapacityInternal_d00df cJ5_ensureCapacityInternal_d00df 3 none [.ref 92, .int (nI m1)] (HH b Y M) (fun o k => o = .inl none ∧ ∃ b2 N n2, k = HH b2 Y N ∧ sbI b2 N n2 ∧ m1 ≤ n2 ∧ n2 ≤ 202 ∧ sbF M N ∧ ∀ k, k < n → N b2.1 k = M b.1 k) := by
  refine Con.of (by decide +kernel) (Nat.le_of_ble_eq_true rfl) rfl fun p l e s m args below meth c D tyc A ad0 x hr htab hname => ?_
  change JJ _ _ _ _ _ _ _ _ _ _ _ _ _ _ _ _ _ 0 [some (.ref 92), some (.int (nI m1)), none] [] _ 0 0
  have hc9 : n < sbc n m1 ∧ sbc n m1 < 1000 := by unfold sbc; split <;> omega
  have hc8 : m1 ≤ sbc n m1 := by unfold sbc; split <;> omega
  have hc7 : sbc n m1 ≤ 202 := by unfold sbc; split <;> omega
  refine j_aload_n x dJ5_ensureCapacityInternal_d00df_0 rfl ?_
  refine j2_vget x hb dJ5_ensureCapacityInternal_d00df_1 wfJ5_15 ?_
  refine j2_blen x hI.1 hI.2.1 hI.2.2.2.1 dJ5_ensureCapacityInternal_d00df_4 ?_
  refine j_aload_n x dJ5_ensureCapacityInternal_d00df_5 rfl ?_
  refine j2_geti (k := 1) x hb dJ5_ensureCapacityInternal_d00df_6 jc_1 wfJ5_22 (by decide) rfl ?_; rw [hI.2.2.2.2.1]
  refine j_ishr x dJ5_ensureCapacityInternal_d00df_9 ?_; rw [shr0]
  refine j_istore_n x dJ5_ensureCapacityInternal_d00df_10 (by decide) rfl ?_
  refine j_iload_n x dJ5_ensureCapacityInternal_d00df_11 rfl ?_
  refine j_iload_n x dJ5_ensureCapacityInternal_d00df_12 rfl ?_
  refine j_isub x dJ5_ensureCapacityInternal_d00df_13 ?_; rw [nI_sub (Nat.le_of_lt hm)]
  refine j_if_le (tgt := 38) x dJ5_ensureCapacityInternal_d00df_14 (by decide) (fun hc => absurd hc (nI_nle (by omega) (by omega))) (fun hc => ?_)
  refine j_aload_n x dJ5_ensureCapacityInternal_d00df_17 rfl ?_
  refine j_aload_n x dJ5_ensureCapacityInternal_d00df_18 rfl ?_
  refine j2_vget x hb dJ5_ensureCapacityInternal_d00df_19 wfJ5_15 ?_
  refine j_aload_n x dJ5_ensureCapacityInternal_d00df_22 rfl ?_
  refine j_iload_n x dJ5_ensureCapacityInternal_d00df_23 rfl ?_
  refine j_callVU x dJ5_ensureCapacityInternal_d00df_24 (c_newCapacity (d := d + 1) hb hI hm hm2) mU_newCap wmJ5_104 jc_1 rfl (show 92 < _ from Nat.lt_of_lt_of_le (by decide) hb) rfl rfl (Nat.le_of_ble_eq_true rfl) (j_fit_rm (by omega) (by omega) (by omega)) rfl jres_no (fun v h1 hQ => ?_)
  obtain ⟨rfl, rfl⟩ : v = some (.int (nI (sbc n m1))) ∧ h1 = HH b Y M := ⟨by have := hQ.1; cases this; rfl, hQ.2⟩
  change JJ _ _ _ _ _ _ _ _ _ _ _ _ _ _ _ _ _ _ _ (.int (nI (sbc n m1)) :: _) (HH b Y M) _ _
  refine j_aload_n x dJ5_ensureCapacityInternal_d00df_27 rfl ?_
  refine j2_geti (k := 1) x hb dJ5_ensureCapacityInternal_d00df_28 jc_1 wfJ5_22 (by decide) rfl ?_; rw [hI.2.2.2.2.1]
  refine j_ishl x dJ5_ensureCapacityInternal_d00df_31 ?_; rw [shl0]
  refine j_callS x dJ5_ensureCapacityInternal_d00df_32 (c_copyOf (d := d + 1) (Y := Y) hb hI hc9.1 hc7) m_J7_copyOf_9075b wmJ5_108 rfl (Nat.le_of_ble_eq_true rfl) (j_fit_rm (by omega) (Nat.le_of_ble_eq_true rfl) (Nat.le_of_ble_eq_true rfl)) rfl (fun E k z => by cases z.1) (fun v h1 hQ => ?_)
  obtain ⟨rfl, rfl⟩ : v = some (.ref b.2.1) ∧ h1 = HH (sbp b (sbc n m1)) Y (sbN b M n) := ⟨by have := hQ.1; cases this; rfl, hQ.2⟩
  change JJ _ _ _ _ _ _ _ _ _ _ _ _ _ _ _ _ _ _ _ (.ref b.2.1 :: .ref 92 :: _) (HH (sbp b (sbc n m1)) Y (sbN b M n)) _ _
  refine j2_vput x (show 94 ≤ b.2.1 + 1 by omega) dJ5_ensureCapacityInternal_d00df_35 wfJ5_15 ?_
  exact j_return x hr dJ5_ensureCapacityInternal_d00df_38 (Nat.le_of_ble_eq_true rfl) (Nat.le_of_ble_eq_true rfl) ⟨rfl, _, _, sbc n m1, rfl, ⟨Or.inr hb, Nat.lt_succ_self _, Nat.le_succ_of_le hb, hLen_new hb, (sbN_n (by omega)).trans hI.2.2.2.2.1, sbN_fit hI⟩, hc8, hc7, fun i k h => sbN_n (by omega), fun k hk => by show sbN b M n b.2.1 k = M b.1 k; rw [sbN, mz_s, if_pos hk, mz_n (Nat.ne_of_lt hI.2.1)]⟩
theorem Con.wide {d mc ms mc2 ms2 : Nat} {y : MethodName} {cc : ByteArray} {maxL : Nat} {ret : Option FieldType} {as : List Value} {h : MH} {Q : MO → MH → Prop} (C : Con d mc ms y cc maxL ret as h Q) (h1 : mc = mc2) (h2 : ms = ms2) : Con d mc2 ms2 y cc maxL ret as h Q := by
  subst h1; subst h2; exact C
theorem c_ensure_n1 {d : Nat} {b : SBt} {Y : OUt} {M : MM} (hb : 94 ≤ b.2.1) {n : Nat} (hI : sbI b M n) {m1 : Nat} (hm : m1 ≤ n) (hm2 : n ≤ 202) : Con (d + 3) 1 202 yJ5_ensureCapacityInternal_d00df cJ5_ensureCapacityInternal_d00df 3 none [.ref 92, .int (nI m1)] (HH b Y M) (fun o k => o = .inl none ∧ ∃ b2 N n2, k = HH b2 Y N ∧ sbI b2 N n2 ∧ m1 ≤ n2 ∧ n2 ≤ 202 ∧ sbF M N ∧ ∀ k, k < n → N b2.1 k = M b.1 k) := by
  refine Con.of (by decide +kernel) (Nat.le_of_ble_eq_true rfl) rfl fun p l e s m args below meth c D tyc A ad0 x hr htab hname => ?_
  change JJ _ _ _ _ _ _ _ _ _ _ _ _ _ _ _ _ _ 0 [some (.ref 92), some (.int (nI m1)), none] [] _ 0 0
  refine j_aload_n x dJ5_ensureCapacityInternal_d00df_0 rfl ?_
  refine j2_vget x hb dJ5_ensureCapacityInternal_d00df_1 wfJ5_15 ?_
  refine j2_blen x hI.1 hI.2.1 hI.2.2.2.1 dJ5_ensureCapacityInternal_d00df_4 ?_
  refine j_aload_n x dJ5_ensureCapacityInternal_d00df_5 rfl ?_
  refine j2_geti (k := 1) x hb dJ5_ensureCapacityInternal_d00df_6 jc_1 wfJ5_22 (by decide) rfl ?_; rw [hI.2.2.2.2.1]
  refine j_ishr x dJ5_ensureCapacityInternal_d00df_9 ?_; rw [shr0]
  refine j_istore_n x dJ5_ensureCapacityInternal_d00df_10 (by decide) rfl ?_
  refine j_iload_n x dJ5_ensureCapacityInternal_d00df_11 rfl ?_
  refine j_iload_n x dJ5_ensureCapacityInternal_d00df_12 rfl ?_
  refine j_isub x dJ5_ensureCapacityInternal_d00df_13 ?_
  refine j_if_le (tgt := 38) x dJ5_ensureCapacityInternal_d00df_14 (by decide) (fun hc => ?_) (fun hc => absurd (sub_le0 hm (by omega)) hc)
  exact j_return x hr dJ5_ensureCapacityInternal_d00df_38 (by omega) (by omega) ⟨rfl, b, M, n, rfl, hI, hm, hm2, sbF_0, fun _ _ => rfl⟩
theorem c_ensure {d : Nat} {b : SBt} {Y : OUt} {M : MM} (hb : 94 ≤ b.2.1) {n : Nat} (hI : sbI b M n) (hn : n ≤ 202) {m1 : Nat} (hm3 : m1 ≤ 100) : Con (d + 3) 1 202 yJ5_ensureCapacityInternal_d00df cJ5_ensureCapacityInternal_d00df 3 none [.ref 92, .int (nI m1)] (HH b Y M) (fun o k => o = .inl none ∧ ∃ b2 N n2, k = HH b2 Y N ∧ sbI b2 N n2 ∧ m1 ≤ n2 ∧ n2 ≤ 202 ∧ sbF M N ∧ ∀ k, k < n → N b2.1 k = M b.1 k) := by
  by_cases h : m1 ≤ n
  · exact c_ensure_n1 hb hI h hn
  · exact c_ensure_up hb hI (by omega) (by omega) hm3
