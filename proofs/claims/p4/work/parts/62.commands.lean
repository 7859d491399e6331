/-! ===== the reference: commands ===== -/
theorem cx_isNext_end {d : Nat} {b : SBt} {Y : OUt} {M : MM} (hb : 104 ≤ b.2.1) {ch : Int32} {a n : Nat} (hn : n ≤ 60) (h9 : M 94 9 = nI n) (hat : M 94 10 = nI a) (ha : a = n) : CM (d) 0 0 yX6_isNext cX6_isNext 2 (some .boolean) [.ref 94, .int ch] b Y M (.inl (some (.int (0)))) (M) := by
  refine Con.of (by decide +kernel) (Nat.le_of_ble_eq_true rfl) rfl fun p l e s m args below meth c D tyc A ad0 x hr htab hname => ?_
  change JJ _ _ _ _ _ _ _ _ _ _ _ _ _ _ _ _ _ 0 [some (.ref 94), some (.int ch)] [] _ 0 0
  refine j_aload_n x dX6_isNext_0 rfl ?_
  refine j2_geti (k := 10) x hb dX6_isNext_1 jc_10 wfX6_188 (by decide) rfl ?_
  refine j_aload_n x dX6_isNext_4 rfl ?_
  refine j2_geti (k := 9) x hb dX6_isNext_5 jc_10 wfX6_185 (by decide) rfl ?_
  refine j_icmp_eq (tgt := 24) x dX6_isNext_8 (by decide) (fun hc => ?_) (fun hc => absurd (by rw [hat, h9, ha]) hc)
  refine j_iconst (v := 0) x dX6_isNext_24 (by decide) ?_
  exact j_zreturn x hr dX6_isNext_25 (by first | decide | with_reducible exact jb_nar | with_reducible exact jisS_nar | with_reducible exact gno_nar) (by omega) (by omega) ⟨rfl, rfl⟩
theorem cx_isNext_no {d : Nat} {b : SBt} {Y : OUt} {M : MM} (hb : 104 ≤ b.2.1) {ch : Int32} {a n : Nat} (hn : n ≤ 60) (h9 : M 94 9 = nI n) (hat : M 94 10 = nI a) (ha : a < n) (hne : ¬ M 100 a = ch) : CM (d) 0 0 yX6_isNext cX6_isNext 2 (some .boolean) [.ref 94, .int ch] b Y M (.inl (some (.int (0)))) (M) := by
  refine Con.of (by decide +kernel) (Nat.le_of_ble_eq_true rfl) rfl fun p l e s m args below meth c D tyc A ad0 x hr htab hname => ?_
  change JJ _ _ _ _ _ _ _ _ _ _ _ _ _ _ _ _ _ 0 [some (.ref 94), some (.int ch)] [] _ 0 0
  refine j_aload_n x dX6_isNext_0 rfl ?_
  refine j2_geti (k := 10) x hb dX6_isNext_1 jc_10 wfX6_188 (by decide) rfl ?_
  refine j_aload_n x dX6_isNext_4 rfl ?_
  refine j2_geti (k := 9) x hb dX6_isNext_5 jc_10 wfX6_185 (by decide) rfl ?_
  refine j_icmp_eq (tgt := 24) x dX6_isNext_8 (by decide) (fun hc => absurd hc (by rw [hat, h9]; exact fun q => by have := congrArg Int32.toNatClampNeg q; rw [nI_clamp (by omega), nI_clamp (by omega)] at this; omega)) (fun hc => ?_)
  refine j_aload_n x dX6_isNext_11 rfl ?_
  refine j2_getr (k := 8) (r := 100) x hb dX6_isNext_12 jc_10 wfX6_25 (by decide) rfl ?_
  refine j_aload_n x dX6_isNext_15 rfl ?_
  refine j2_geti (k := 10) x hb dX6_isNext_16 jc_10 wfX6_188 (by decide) rfl ?_
  refine j2_cald x hb dX6_isNext_19 rfl (n := 60) (k := M 94 10) (v := M 100 a) (by rw [hat]; exact vp_in_nI (by omega) (by decide)) (by rw [hat, nI_clamp (by omega)]) ?_
  refine j_iload_n x dX6_isNext_20 rfl ?_
  refine j_icmp_eq (tgt := 26) x dX6_isNext_21 (by decide) (fun hc => absurd hc (hne)) (fun hc => ?_)
  refine j_iconst (v := 0) x dX6_isNext_24 (by decide) ?_
  exact j_zreturn x hr dX6_isNext_25 (by first | decide | with_reducible exact jb_nar | with_reducible exact jisS_nar | with_reducible exact gno_nar) (by omega) (by omega) ⟨rfl, rfl⟩
theorem cx_isNext_yes {d : Nat} {b : SBt} {Y : OUt} {M : MM} (hb : 104 ≤ b.2.1) {ch : Int32} {a n : Nat} (hn : n ≤ 60) (h9 : M 94 9 = nI n) (hat : M 94 10 = nI a) (ha : a < n) (he : M 100 a = ch) : CM (d) 0 0 yX6_isNext cX6_isNext 2 (some .boolean) [.ref 94, .int ch] b Y M (.inl (some (.int (1)))) (jm M 94 10 (nI (a + 1))) := by
  refine Con.of (by decide +kernel) (Nat.le_of_ble_eq_true rfl) rfl fun p l e s m args below meth c D tyc A ad0 x hr htab hname => ?_
  change JJ _ _ _ _ _ _ _ _ _ _ _ _ _ _ _ _ _ 0 [some (.ref 94), some (.int ch)] [] _ 0 0
  refine j_aload_n x dX6_isNext_0 rfl ?_
  refine j2_geti (k := 10) x hb dX6_isNext_1 jc_10 wfX6_188 (by decide) rfl ?_
  refine j_aload_n x dX6_isNext_4 rfl ?_
  refine j2_geti (k := 9) x hb dX6_isNext_5 jc_10 wfX6_185 (by decide) rfl ?_
  refine j_icmp_eq (tgt := 24) x dX6_isNext_8 (by decide) (fun hc => absurd hc (by rw [hat, h9]; exact fun q => by have := congrArg Int32.toNatClampNeg q; rw [nI_clamp (by omega), nI_clamp (by omega)] at this; omega)) (fun hc => ?_)
  refine j_aload_n x dX6_isNext_11 rfl ?_
  refine j2_getr (k := 8) (r := 100) x hb dX6_isNext_12 jc_10 wfX6_25 (by decide) rfl ?_
  refine j_aload_n x dX6_isNext_15 rfl ?_
  refine j2_geti (k := 10) x hb dX6_isNext_16 jc_10 wfX6_188 (by decide) rfl ?_
  refine j2_cald x hb dX6_isNext_19 rfl (n := 60) (k := M 94 10) (v := M 100 a) (by rw [hat]; exact vp_in_nI (by omega) (by decide)) (by rw [hat, nI_clamp (by omega)]) ?_
  refine j_iload_n x dX6_isNext_20 rfl ?_
  refine j_icmp_eq (tgt := 26) x dX6_isNext_21 (by decide) (fun hc => ?_) (fun hc => absurd (he) hc)
  refine j_aload_n x dX6_isNext_26 rfl ?_
  refine j_dup x dX6_isNext_27 rfl ?_
  refine j2_geti (k := 10) x hb dX6_isNext_28 jc_10 wfX6_188 (by decide) rfl ?_
  refine j_iconst (v := 1) x dX6_isNext_31 (by decide) ?_
  refine j_iadd x dX6_isNext_32 ?_
  refine j2_puti (k := 10) x hb dX6_isNext_33 jc_10 wfX6_188 (by decide) rfl rfl rfl rfl ?_
  refine j_iconst (v := 1) x dX6_isNext_36 (by decide) ?_
  exact j_zreturn x hr dX6_isNext_37 (by first | decide | with_reducible exact jb_nar | with_reducible exact jisS_nar | with_reducible exact gno_nar) (by omega) (by omega) ⟨rfl, by rw [hat, nI_1]⟩
def gN0 (M : MM) (k : Nat) : MM := jm M 101 k 0
def gN1 (M : MM) (k a : Nat) : MM := jm (jm (gN0 M k) 94 10 ((gN0 M k) 94 10 + 1)) 101 k (10 * (gN0 M k) 101 k + M 100 a - 48)
abbrev isD (lo hi v : Int32) : Prop := ¬ v < lo ∧ ¬ hi < v
theorem gN0_at {M : MM} {k : Nat} : gN0 M k 94 10 = M 94 10 := jm_n (by omega)
theorem gN0_len {M : MM} {k : Nat} : gN0 M k 94 9 = M 94 9 := jm_n (by omega)
theorem gN0_tx {M : MM} {k a : Nat} : gN0 M k 100 a = M 100 a := jm_n (by omega)
theorem gN1_at {M : MM} {k a c1 : Nat} (hat : M 94 10 = nI c1) : gN1 M k a 94 10 = nI (c1 + 1) := by unfold gN1; rw [jm_n (by omega), jm_s, gN0_at, hat, nI_1]
theorem gN1_len {M : MM} {k a : Nat} : gN1 M k a 94 9 = M 94 9 := by unfold gN1; rw [jm_n (by omega), jm_n (by omega), gN0_len]
theorem gN1_tx {M : MM} {k a c1 : Nat} : gN1 M k a 100 c1 = M 100 c1 := by unfold gN1; rw [jm_n (by omega), jm_n (by omega), gN0_tx]
theorem cx_number_end {d : Nat} {b : SBt} {Y : OUt} {M : MM} (hb : 104 ≤ b.2.1) {k : Nat} (hk : k < 3) {a n : Nat} (hn : n ≤ 60) (h9 : M 94 9 = nI n) (hat : M 94 10 = nI a) (ha : a = n) : CM (d) 0 0 yX6_number cX6_number 3 (some .boolean) [.ref 94, .int (nI k)] b Y M (.inl (some (.int (0)))) (gN0 M k) := by
  refine Con.of (by decide +kernel) (Nat.le_of_ble_eq_true rfl) rfl fun p l e s m args below meth c D tyc A ad0 x hr htab hname => ?_
  change JJ _ _ _ _ _ _ _ _ _ _ _ _ _ _ _ _ _ 0 [some (.ref 94), some (.int (nI k)), none] [] _ 0 0
  refine j_iconst (v := 0) x dX6_number_0 (by decide) ?_
  refine j_istore_n x dX6_number_1 (by decide) rfl ?_
  refine j_aload_n x dX6_number_2 rfl ?_
  refine j2_getr (k := 12) (r := 101) x hb dX6_number_3 jc_10 wfX6_29 (by decide) rfl ?_
  refine j_iload_n x dX6_number_6 rfl ?_
  refine j_iconst (v := 0) x dX6_number_7 (by decide) ?_
  refine j2_iasn x hb dX6_number_8 fa_101 (j := k) (vp_in_nI (by omega) (by decide)) (nI_clamp (by omega)) ?_
  refine j_iload_n x dX6_number_9 rfl ?_
  refine j_iconst (v := 2) x dX6_number_10 (by decide) ?_
  refine j_icmp_ge (tgt := 85) x dX6_number_11 (by decide) (fun hc => absurd hc (by decide)) (fun hc => ?_)
  refine j_aload_n x dX6_number_14 rfl ?_
  refine j2_geti (k := 10) x hb dX6_number_15 jc_10 wfX6_188 (by decide) rfl ?_
  refine j_aload_n x dX6_number_18 rfl ?_
  refine j2_geti (k := 9) x hb dX6_number_19 jc_10 wfX6_185 (by decide) rfl ?_
  refine j_icmp_ge (tgt := 85) x dX6_number_22 (by decide) (fun hc => ?_) (fun hc => absurd (by rw [jm_n (by omega), jm_n (by omega), hat, h9, ha]; exact nI_le (Nat.le_refl _) (by omega)) hc)
  refine j_iload_n x dX6_number_85 rfl ?_
  refine j_if_le (tgt := 93) x dX6_number_86 (by decide) (fun hc => ?_) (fun hc => absurd (by decide) hc)
  refine j_iconst (v := 0) x dX6_number_93 (by decide) ?_
  exact j_zreturn x hr dX6_number_94 (by first | decide | with_reducible exact jb_nar | with_reducible exact jisS_nar | with_reducible exact gno_nar) (by omega) (by omega) ⟨rfl, rfl⟩
theorem cx_number_no {d : Nat} {b : SBt} {Y : OUt} {M : MM} (hb : 104 ≤ b.2.1) {k : Nat} (hk : k < 3) {a n : Nat} (hn : n ≤ 60) (h9 : M 94 9 = nI n) (hat : M 94 10 = nI a) (ha : a < n) (hd : ¬ isD 48 57 (M 100 a)) : CM (d + 1) 0 0 yX6_number cX6_number 3 (some .boolean) [.ref 94, .int (nI k)] b Y M (.inl (some (.int (0)))) (gN0 M k) := by
  refine Con.of (by decide +kernel) (Nat.le_of_ble_eq_true rfl) rfl fun p l e s m args below meth c D tyc A ad0 x hr htab hname => ?_
  change JJ _ _ _ _ _ _ _ _ _ _ _ _ _ _ _ _ _ 0 [some (.ref 94), some (.int (nI k)), none] [] _ 0 0
  refine j_iconst (v := 0) x dX6_number_0 (by decide) ?_
  refine j_istore_n x dX6_number_1 (by decide) rfl ?_
  refine j_aload_n x dX6_number_2 rfl ?_
  refine j2_getr (k := 12) (r := 101) x hb dX6_number_3 jc_10 wfX6_29 (by decide) rfl ?_
  refine j_iload_n x dX6_number_6 rfl ?_
  refine j_iconst (v := 0) x dX6_number_7 (by decide) ?_
  refine j2_iasn x hb dX6_number_8 fa_101 (j := k) (vp_in_nI (by omega) (by decide)) (nI_clamp (by omega)) ?_
  refine j_iload_n x dX6_number_9 rfl ?_
  refine j_iconst (v := 2) x dX6_number_10 (by decide) ?_
  refine j_icmp_ge (tgt := 85) x dX6_number_11 (by decide) (fun hc => absurd hc (by decide)) (fun hc => ?_)
  refine j_aload_n x dX6_number_14 rfl ?_
  refine j2_geti (k := 10) x hb dX6_number_15 jc_10 wfX6_188 (by decide) rfl ?_
  refine j_aload_n x dX6_number_18 rfl ?_
  refine j2_geti (k := 9) x hb dX6_number_19 jc_10 wfX6_185 (by decide) rfl ?_
  refine j_icmp_ge (tgt := 85) x dX6_number_22 (by decide) (fun hc => absurd hc (by rw [jm_n (by omega), jm_n (by omega), hat, h9]; exact nI_ge ha (by omega))) (fun hc => ?_)
  refine j_aload_n x dX6_number_25 rfl ?_
  refine j2_getr (k := 8) (r := 100) x hb dX6_number_26 jc_10 wfX6_25 (by decide) rfl ?_
  refine j_aload_n x dX6_number_29 rfl ?_
  refine j2_geti (k := 10) x hb dX6_number_30 jc_10 wfX6_188 (by decide) rfl ?_
  refine j2_cald x hb dX6_number_33 rfl (n := 60) (v := M 100 a) (by rw [jm_n (by omega), hat]; exact vp_in_nI (by omega) (by decide)) (by rw [jm_n (by omega), jm_n (by omega), hat, nI_clamp (by omega)]) ?_
  refine j_bipush (v := 48) x dX6_number_34 (by decide) ?_
  refine j_bipush (v := 57) x dX6_number_36 (by decide) ?_
  refine j2_callSi x hb dX6_number_38 m_X6_in (CM_v (cx_in (d := d) hb) (jb_f hd)) wmX6_64 rfl (Nat.le_of_ble_eq_true rfl) (j_fit_rm (by omega) (by omega) (by omega)) rfl ?_
  refine j_if_eq (tgt := 85) x dX6_number_41 (by decide) (fun hc => ?_) (fun hc => absurd (rfl) hc)
  refine j_iload_n x dX6_number_85 rfl ?_
  refine j_if_le (tgt := 93) x dX6_number_86 (by decide) (fun hc => ?_) (fun hc => absurd (by decide) hc)
  refine j_iconst (v := 0) x dX6_number_93 (by decide) ?_
  exact j_zreturn x hr dX6_number_94 (by first | decide | with_reducible exact jb_nar | with_reducible exact jisS_nar | with_reducible exact gno_nar) (by omega) (by omega) ⟨rfl, rfl⟩
theorem cx_number_1e {d : Nat} {b : SBt} {Y : OUt} {M : MM} (hb : 104 ≤ b.2.1) {k : Nat} (hk : k < 3) {a n : Nat} (hn : n ≤ 60) (h9 : M 94 9 = nI n) (hat : M 94 10 = nI a) (ha : a < n) (hd : isD 48 57 (M 100 a)) (he : a + 1 = n) : CM (d + 1) 0 0 yX6_number cX6_number 3 (some .boolean) [.ref 94, .int (nI k)] b Y M (.inl (some (.int (1)))) (gN1 M k a) := by
  refine Con.of (by decide +kernel) (Nat.le_of_ble_eq_true rfl) rfl fun p l e s m args below meth c D tyc A ad0 x hr htab hname => ?_
  change JJ _ _ _ _ _ _ _ _ _ _ _ _ _ _ _ _ _ 0 [some (.ref 94), some (.int (nI k)), none] [] _ 0 0
  refine j_iconst (v := 0) x dX6_number_0 (by decide) ?_
  refine j_istore_n x dX6_number_1 (by decide) rfl ?_
  refine j_aload_n x dX6_number_2 rfl ?_
  refine j2_getr (k := 12) (r := 101) x hb dX6_number_3 jc_10 wfX6_29 (by decide) rfl ?_
  refine j_iload_n x dX6_number_6 rfl ?_
  refine j_iconst (v := 0) x dX6_number_7 (by decide) ?_
  refine j2_iasn x hb dX6_number_8 fa_101 (j := k) (vp_in_nI (by omega) (by decide)) (nI_clamp (by omega)) ?_
  refine j_iload_n x dX6_number_9 rfl ?_
  refine j_iconst (v := 2) x dX6_number_10 (by decide) ?_
  refine j_icmp_ge (tgt := 85) x dX6_number_11 (by decide) (fun hc => absurd hc (by decide)) (fun hc => ?_)
  refine j_aload_n x dX6_number_14 rfl ?_
  refine j2_geti (k := 10) x hb dX6_number_15 jc_10 wfX6_188 (by decide) rfl ?_
  refine j_aload_n x dX6_number_18 rfl ?_
  refine j2_geti (k := 9) x hb dX6_number_19 jc_10 wfX6_185 (by decide) rfl ?_
  refine j_icmp_ge (tgt := 85) x dX6_number_22 (by decide) (fun hc => absurd hc (by rw [jm_n (by omega), jm_n (by omega), hat, h9]; exact nI_ge ha (by omega))) (fun hc => ?_)
  refine j_aload_n x dX6_number_25 rfl ?_
  refine j2_getr (k := 8) (r := 100) x hb dX6_number_26 jc_10 wfX6_25 (by decide) rfl ?_
  refine j_aload_n x dX6_number_29 rfl ?_
  refine j2_geti (k := 10) x hb dX6_number_30 jc_10 wfX6_188 (by decide) rfl ?_
  refine j2_cald x hb dX6_number_33 rfl (n := 60) (v := M 100 a) (by rw [jm_n (by omega), hat]; exact vp_in_nI (by omega) (by decide)) (by rw [jm_n (by omega), jm_n (by omega), hat, nI_clamp (by omega)]) ?_
  refine j_bipush (v := 48) x dX6_number_34 (by decide) ?_
  refine j_bipush (v := 57) x dX6_number_36 (by decide) ?_
  refine j2_callSi x hb dX6_number_38 m_X6_in (CM_v (cx_in (d := d) hb) (jb_t hd)) wmX6_64 rfl (Nat.le_of_ble_eq_true rfl) (j_fit_rm (by omega) (by omega) (by omega)) rfl ?_
  refine j_if_eq (tgt := 85) x dX6_number_41 (by decide) (fun hc => absurd hc (by decide)) (fun hc => ?_)
  refine j_aload_n x dX6_number_44 rfl ?_
  refine j2_getr (k := 12) (r := 101) x hb dX6_number_45 jc_10 wfX6_29 (by decide) rfl ?_
  refine j_iload_n x dX6_number_48 rfl ?_
  refine j_bipush (v := 10) x dX6_number_49 (by decide) ?_
  refine j_aload_n x dX6_number_51 rfl ?_
  refine j2_getr (k := 12) (r := 101) x hb dX6_number_52 jc_10 wfX6_29 (by decide) rfl ?_
  refine j_iload_n x dX6_number_55 rfl ?_
  refine j2_ialn x hb dX6_number_56 fa_101 (j := k) (vp_in_nI (by omega) (by decide)) (nI_clamp (by omega)) ?_
  refine j_imul x dX6_number_57 ?_
  refine j_aload_n x dX6_number_58 rfl ?_
  refine j2_getr (k := 8) (r := 100) x hb dX6_number_59 jc_10 wfX6_25 (by decide) rfl ?_
  refine j_aload_n x dX6_number_62 rfl ?_
  refine j_dup x dX6_number_63 rfl ?_
  refine j2_geti (k := 10) x hb dX6_number_64 jc_10 wfX6_188 (by decide) rfl ?_
  refine j_dup_x1 x dX6_number_67 rfl rfl ?_
  refine j_iconst (v := 1) x dX6_number_68 (by decide) ?_
  refine j_iadd x dX6_number_69 ?_
  refine j2_puti (k := 10) x hb dX6_number_70 jc_10 wfX6_188 (by decide) rfl rfl rfl rfl ?_
  refine j2_cald x hb dX6_number_73 rfl (n := 60) (v := M 100 a) (by rw [jm_n (by omega), hat]; exact vp_in_nI (by omega) (by decide)) (by rw [jm_n (by omega), jm_n (by omega), jm_n (by omega), hat, nI_clamp (by omega)]) ?_
  refine j_iadd x dX6_number_74 ?_
  refine j_bipush (v := 48) x dX6_number_75 (by decide) ?_
  refine j_isub x dX6_number_77 ?_
  refine j2_iasn x hb dX6_number_78 fa_101 (j := k) (vp_in_nI (by omega) (by decide)) (nI_clamp (by omega)) ?_
  refine j_iinc x dX6_number_79 rfl (by decide) rfl ?_
  refine j_goto (tgt := 9) x dX6_number_82 (by decide) ?_
  refine j_iload_n x dX6_number_9 rfl ?_
  refine j_iconst (v := 2) x dX6_number_10 (by decide) ?_
  refine j_icmp_ge (tgt := 85) x dX6_number_11 (by decide) (fun hc => absurd hc (by decide)) (fun hc => ?_)
  refine j_aload_n x dX6_number_14 rfl ?_
  refine j2_geti (k := 10) x hb dX6_number_15 jc_10 wfX6_188 (by decide) rfl ?_
  refine j_aload_n x dX6_number_18 rfl ?_
  refine j2_geti (k := 9) x hb dX6_number_19 jc_10 wfX6_185 (by decide) rfl ?_
  refine j_icmp_ge (tgt := 85) x dX6_number_22 (by decide) (fun hc => ?_) (fun hc => absurd (by change gN1 M k a 94 9 ≤ gN1 M k a 94 10; rw [gN1_len (M := M) (k := k) (a := a), gN1_at (M := M) (k := k) (a := a) hat, h9, he]; exact nI_le (Nat.le_refl _) (by omega)) hc)
  refine j_iload_n x dX6_number_85 rfl ?_
  refine j_if_le (tgt := 93) x dX6_number_86 (by decide) (fun hc => absurd hc (by decide)) (fun hc => ?_)
  refine j_iconst (v := 1) x dX6_number_89 (by decide) ?_
  refine j_goto (tgt := 94) x dX6_number_90 (by decide) ?_
  exact j_zreturn x hr dX6_number_94 (by first | decide | with_reducible exact jb_nar | with_reducible exact jisS_nar | with_reducible exact gno_nar) (by omega) (by omega) ⟨rfl, rfl⟩
def gN2 (M : MM) (k a : Nat) : MM := jm (jm (gN1 M k a) 94 10 ((gN1 M k a) 94 10 + 1)) 101 k (10 * (gN1 M k a) 101 k + M 100 (a + 1) - 48)
theorem cx_number_1n {d : Nat} {b : SBt} {Y : OUt} {M : MM} (hb : 104 ≤ b.2.1) {k : Nat} (hk : k < 3) {a n : Nat} (hn : n ≤ 60) (h9 : M 94 9 = nI n) (hat : M 94 10 = nI a) (ha : a < n) (hd : isD 48 57 (M 100 a)) (he : a + 1 < n) (hd2 : ¬ isD 48 57 (M 100 (a + 1))) : CM (d + 1) 0 0 yX6_number cX6_number 3 (some .boolean) [.ref 94, .int (nI k)] b Y M (.inl (some (.int (1)))) (gN1 M k a) := by
  refine Con.of (by decide +kernel) (Nat.le_of_ble_eq_true rfl) rfl fun p l e s m args below meth c D tyc A ad0 x hr htab hname => ?_
  change JJ _ _ _ _ _ _ _ _ _ _ _ _ _ _ _ _ _ 0 [some (.ref 94), some (.int (nI k)), none] [] _ 0 0
  refine j_iconst (v := 0) x dX6_number_0 (by decide) ?_
  refine j_istore_n x dX6_number_1 (by decide) rfl ?_
  refine j_aload_n x dX6_number_2 rfl ?_
  refine j2_getr (k := 12) (r := 101) x hb dX6_number_3 jc_10 wfX6_29 (by decide) rfl ?_
  refine j_iload_n x dX6_number_6 rfl ?_
  refine j_iconst (v := 0) x dX6_number_7 (by decide) ?_
  refine j2_iasn x hb dX6_number_8 fa_101 (j := k) (vp_in_nI (by omega) (by decide)) (nI_clamp (by omega)) ?_
  refine j_iload_n x dX6_number_9 rfl ?_
  refine j_iconst (v := 2) x dX6_number_10 (by decide) ?_
  refine j_icmp_ge (tgt := 85) x dX6_number_11 (by decide) (fun hc => absurd hc (by decide)) (fun hc => ?_)
  refine j_aload_n x dX6_number_14 rfl ?_
  refine j2_geti (k := 10) x hb dX6_number_15 jc_10 wfX6_188 (by decide) rfl ?_
  refine j_aload_n x dX6_number_18 rfl ?_
  refine j2_geti (k := 9) x hb dX6_number_19 jc_10 wfX6_185 (by decide) rfl ?_
  refine j_icmp_ge (tgt := 85) x dX6_number_22 (by decide) (fun hc => absurd hc (by rw [jm_n (by omega), jm_n (by omega), hat, h9]; exact nI_ge ha (by omega))) (fun hc => ?_)
  refine j_aload_n x dX6_number_25 rfl ?_
  refine j2_getr (k := 8) (r := 100) x hb dX6_number_26 jc_10 wfX6_25 (by decide) rfl ?_
  refine j_aload_n x dX6_number_29 rfl ?_
  refine j2_geti (k := 10) x hb dX6_number_30 jc_10 wfX6_188 (by decide) rfl ?_
  refine j2_cald x hb dX6_number_33 rfl (n := 60) (v := M 100 a) (by rw [jm_n (by omega), hat]; exact vp_in_nI (by omega) (by decide)) (by rw [jm_n (by omega), jm_n (by omega), hat, nI_clamp (by omega)]) ?_
  refine j_bipush (v := 48) x dX6_number_34 (by decide) ?_
  refine j_bipush (v := 57) x dX6_number_36 (by decide) ?_
  refine j2_callSi x hb dX6_number_38 m_X6_in (CM_v (cx_in (d := d) hb) (jb_t hd)) wmX6_64 rfl (Nat.le_of_ble_eq_true rfl) (j_fit_rm (by omega) (by omega) (by omega)) rfl ?_
  refine j_if_eq (tgt := 85) x dX6_number_41 (by decide) (fun hc => absurd hc (by decide)) (fun hc => ?_)
  refine j_aload_n x dX6_number_44 rfl ?_
  refine j2_getr (k := 12) (r := 101) x hb dX6_number_45 jc_10 wfX6_29 (by decide) rfl ?_
  refine j_iload_n x dX6_number_48 rfl ?_
  refine j_bipush (v := 10) x dX6_number_49 (by decide) ?_
  refine j_aload_n x dX6_number_51 rfl ?_
  refine j2_getr (k := 12) (r := 101) x hb dX6_number_52 jc_10 wfX6_29 (by decide) rfl ?_
  refine j_iload_n x dX6_number_55 rfl ?_
  refine j2_ialn x hb dX6_number_56 fa_101 (j := k) (vp_in_nI (by omega) (by decide)) (nI_clamp (by omega)) ?_
  refine j_imul x dX6_number_57 ?_
  refine j_aload_n x dX6_number_58 rfl ?_
  refine j2_getr (k := 8) (r := 100) x hb dX6_number_59 jc_10 wfX6_25 (by decide) rfl ?_
  refine j_aload_n x dX6_number_62 rfl ?_
  refine j_dup x dX6_number_63 rfl ?_
  refine j2_geti (k := 10) x hb dX6_number_64 jc_10 wfX6_188 (by decide) rfl ?_
  refine j_dup_x1 x dX6_number_67 rfl rfl ?_
  refine j_iconst (v := 1) x dX6_number_68 (by decide) ?_
  refine j_iadd x dX6_number_69 ?_
  refine j2_puti (k := 10) x hb dX6_number_70 jc_10 wfX6_188 (by decide) rfl rfl rfl rfl ?_
  refine j2_cald x hb dX6_number_73 rfl (n := 60) (v := M 100 a) (by rw [jm_n (by omega), hat]; exact vp_in_nI (by omega) (by decide)) (by rw [jm_n (by omega), jm_n (by omega), jm_n (by omega), hat, nI_clamp (by omega)]) ?_
  refine j_iadd x dX6_number_74 ?_
  refine j_bipush (v := 48) x dX6_number_75 (by decide) ?_
  refine j_isub x dX6_number_77 ?_
  refine j2_iasn x hb dX6_number_78 fa_101 (j := k) (vp_in_nI (by omega) (by decide)) (nI_clamp (by omega)) ?_
  refine j_iinc x dX6_number_79 rfl (by decide) rfl ?_
  refine j_goto (tgt := 9) x dX6_number_82 (by decide) ?_
  refine j_iload_n x dX6_number_9 rfl ?_
  refine j_iconst (v := 2) x dX6_number_10 (by decide) ?_
  refine j_icmp_ge (tgt := 85) x dX6_number_11 (by decide) (fun hc => absurd hc (by decide)) (fun hc => ?_)
  refine j_aload_n x dX6_number_14 rfl ?_
  refine j2_geti (k := 10) x hb dX6_number_15 jc_10 wfX6_188 (by decide) rfl ?_
  refine j_aload_n x dX6_number_18 rfl ?_
  refine j2_geti (k := 9) x hb dX6_number_19 jc_10 wfX6_185 (by decide) rfl ?_
  refine j_icmp_ge (tgt := 85) x dX6_number_22 (by decide) (fun hc => absurd hc (by change ¬ gN1 M k a 94 9 ≤ gN1 M k a 94 10; rw [gN1_len (M := M) (k := k) (a := a), gN1_at (M := M) (k := k) (a := a) hat, h9]; exact nI_ge he (by omega))) (fun hc => ?_)
  refine j_aload_n x dX6_number_25 rfl ?_
  refine j2_getr (k := 8) (r := 100) x hb dX6_number_26 jc_10 wfX6_25 (by decide) rfl ?_
  refine j_aload_n x dX6_number_29 rfl ?_
  refine j2_geti (k := 10) x hb dX6_number_30 jc_10 wfX6_188 (by decide) rfl ?_
  refine j2_cald x hb dX6_number_33 rfl (n := 60) (k := gN1 M k a 94 10) (v := M 100 (a + 1)) (by rw [gN1_at (M := M) (k := k) (a := a) hat]; exact vp_in_nI (by omega) (by decide)) (show gN1 M k a 100 (gN1 M k a 94 10).toNatClampNeg = _ from by rw [gN1_at (M := M) (k := k) (a := a) hat, nI_clamp (by omega), gN1_tx (M := M) (k := k) (a := a)]) ?_
  refine j_bipush (v := 48) x dX6_number_34 (by decide) ?_
  refine j_bipush (v := 57) x dX6_number_36 (by decide) ?_
  refine j2_callSi x hb dX6_number_38 m_X6_in (CM_v (cx_in (d := d) hb) (jb_f hd2)) wmX6_64 rfl (Nat.le_of_ble_eq_true rfl) (j_fit_rm (by omega) (by omega) (by omega)) rfl ?_
  refine j_if_eq (tgt := 85) x dX6_number_41 (by decide) (fun hc => ?_) (fun hc => absurd (rfl) hc)
  refine j_iload_n x dX6_number_85 rfl ?_
  refine j_if_le (tgt := 93) x dX6_number_86 (by decide) (fun hc => absurd hc (by decide)) (fun hc => ?_)
  refine j_iconst (v := 1) x dX6_number_89 (by decide) ?_
  refine j_goto (tgt := 94) x dX6_number_90 (by decide) ?_
  exact j_zreturn x hr dX6_number_94 (by first | decide | with_reducible exact jb_nar | with_reducible exact jisS_nar | with_reducible exact gno_nar) (by omega) (by omega) ⟨rfl, rfl⟩
theorem cx_number_2 {d : Nat} {b : SBt} {Y : OUt} {M : MM} (hb : 104 ≤ b.2.1) {k : Nat} (hk : k < 3) {a n : Nat} (hn : n ≤ 60) (h9 : M 94 9 = nI n) (hat : M 94 10 = nI a) (ha : a < n) (hd : isD 48 57 (M 100 a)) (he : a + 1 < n) (hd2 : isD 48 57 (M 100 (a + 1))) : CM (d + 1) 0 0 yX6_number cX6_number 3 (some .boolean) [.ref 94, .int (nI k)] b Y M (.inl (some (.int (1)))) (gN2 M k a) := by
  refine Con.of (by decide +kernel) (Nat.le_of_ble_eq_true rfl) rfl fun p l e s m args below meth c D tyc A ad0 x hr htab hname => ?_
  change JJ _ _ _ _ _ _ _ _ _ _ _ _ _ _ _ _ _ 0 [some (.ref 94), some (.int (nI k)), none] [] _ 0 0
  refine j_iconst (v := 0) x dX6_number_0 (by decide) ?_
  refine j_istore_n x dX6_number_1 (by decide) rfl ?_
  refine j_aload_n x dX6_number_2 rfl ?_
  refine j2_getr (k := 12) (r := 101) x hb dX6_number_3 jc_10 wfX6_29 (by decide) rfl ?_
  refine j_iload_n x dX6_number_6 rfl ?_
  refine j_iconst (v := 0) x dX6_number_7 (by decide) ?_
  refine j2_iasn x hb dX6_number_8 fa_101 (j := k) (vp_in_nI (by omega) (by decide)) (nI_clamp (by omega)) ?_
  refine j_iload_n x dX6_number_9 rfl ?_
  refine j_iconst (v := 2) x dX6_number_10 (by decide) ?_
  refine j_icmp_ge (tgt := 85) x dX6_number_11 (by decide) (fun hc => absurd hc (by decide)) (fun hc => ?_)
  refine j_aload_n x dX6_number_14 rfl ?_
  refine j2_geti (k := 10) x hb dX6_number_15 jc_10 wfX6_188 (by decide) rfl ?_
  refine j_aload_n x dX6_number_18 rfl ?_
  refine j2_geti (k := 9) x hb dX6_number_19 jc_10 wfX6_185 (by decide) rfl ?_
  refine j_icmp_ge (tgt := 85) x dX6_number_22 (by decide) (fun hc => absurd hc (by rw [jm_n (by omega), jm_n (by omega), hat, h9]; exact nI_ge ha (by omega))) (fun hc => ?_)
  refine j_aload_n x dX6_number_25 rfl ?_
  refine j2_getr (k := 8) (r := 100) x hb dX6_number_26 jc_10 wfX6_25 (by decide) rfl ?_
  refine j_aload_n x dX6_number_29 rfl ?_
  refine j2_geti (k := 10) x hb dX6_number_30 jc_10 wfX6_188 (by decide) rfl ?_
  refine j2_cald x hb dX6_number_33 rfl (n := 60) (v := M 100 a) (by rw [jm_n (by omega), hat]; exact vp_in_nI (by omega) (by decide)) (by rw [jm_n (by omega), jm_n (by omega), hat, nI_clamp (by omega)]) ?_
  refine j_bipush (v := 48) x dX6_number_34 (by decide) ?_
  refine j_bipush (v := 57) x dX6_number_36 (by decide) ?_
  refine j2_callSi x hb dX6_number_38 m_X6_in (CM_v (cx_in (d := d) hb) (jb_t hd)) wmX6_64 rfl (Nat.le_of_ble_eq_true rfl) (j_fit_rm (by omega) (by omega) (by omega)) rfl ?_
  refine j_if_eq (tgt := 85) x dX6_number_41 (by decide) (fun hc => absurd hc (by decide)) (fun hc => ?_)
  refine j_aload_n x dX6_number_44 rfl ?_
  refine j2_getr (k := 12) (r := 101) x hb dX6_number_45 jc_10 wfX6_29 (by decide) rfl ?_
  refine j_iload_n x dX6_number_48 rfl ?_
  refine j_bipush (v := 10) x dX6_number_49 (by decide) ?_
  refine j_aload_n x dX6_number_51 rfl ?_
  refine j2_getr (k := 12) (r := 101) x hb dX6_number_52 jc_10 wfX6_29 (by decide) rfl ?_
  refine j_iload_n x dX6_number_55 rfl ?_
  refine j2_ialn x hb dX6_number_56 fa_101 (j := k) (vp_in_nI (by omega) (by decide)) (nI_clamp (by omega)) ?_
  refine j_imul x dX6_number_57 ?_
  refine j_aload_n x dX6_number_58 rfl ?_
  refine j2_getr (k := 8) (r := 100) x hb dX6_number_59 jc_10 wfX6_25 (by decide) rfl ?_
  refine j_aload_n x dX6_number_62 rfl ?_
  refine j_dup x dX6_number_63 rfl ?_
  refine j2_geti (k := 10) x hb dX6_number_64 jc_10 wfX6_188 (by decide) rfl ?_
  refine j_dup_x1 x dX6_number_67 rfl rfl ?_
  refine j_iconst (v := 1) x dX6_number_68 (by decide) ?_
  refine j_iadd x dX6_number_69 ?_
  refine j2_puti (k := 10) x hb dX6_number_70 jc_10 wfX6_188 (by decide) rfl rfl rfl rfl ?_
  refine j2_cald x hb dX6_number_73 rfl (n := 60) (v := M 100 a) (by rw [jm_n (by omega), hat]; exact vp_in_nI (by omega) (by decide)) (by rw [jm_n (by omega), jm_n (by omega), jm_n (by omega), hat, nI_clamp (by omega)]) ?_
  refine j_iadd x dX6_number_74 ?_
  refine j_bipush (v := 48) x dX6_number_75 (by decide) ?_
  refine j_isub x dX6_number_77 ?_
  refine j2_iasn x hb dX6_number_78 fa_101 (j := k) (vp_in_nI (by omega) (by decide)) (nI_clamp (by omega)) ?_
  refine j_iinc x dX6_number_79 rfl (by decide) rfl ?_
  refine j_goto (tgt := 9) x dX6_number_82 (by decide) ?_
  refine j_iload_n x dX6_number_9 rfl ?_
  refine j_iconst (v := 2) x dX6_number_10 (by decide) ?_
  refine j_icmp_ge (tgt := 85) x dX6_number_11 (by decide) (fun hc => absurd hc (by decide)) (fun hc => ?_)
  refine j_aload_n x dX6_number_14 rfl ?_
  refine j2_geti (k := 10) x hb dX6_number_15 jc_10 wfX6_188 (by decide) rfl ?_
  refine j_aload_n x dX6_number_18 rfl ?_
  refine j2_geti (k := 9) x hb dX6_number_19 jc_10 wfX6_185 (by decide) rfl ?_
  refine j_icmp_ge (tgt := 85) x dX6_number_22 (by decide) (fun hc => absurd hc (by change ¬ gN1 M k a 94 9 ≤ gN1 M k a 94 10; rw [gN1_len (M := M) (k := k) (a := a), gN1_at (M := M) (k := k) (a := a) hat, h9]; exact nI_ge he (by omega))) (fun hc => ?_)
  refine j_aload_n x dX6_number_25 rfl ?_
  refine j2_getr (k := 8) (r := 100) x hb dX6_number_26 jc_10 wfX6_25 (by decide) rfl ?_
  refine j_aload_n x dX6_number_29 rfl ?_
  refine j2_geti (k := 10) x hb dX6_number_30 jc_10 wfX6_188 (by decide) rfl ?_
  refine j2_cald x hb dX6_number_33 rfl (n := 60) (k := gN1 M k a 94 10) (v := M 100 (a + 1)) (by rw [gN1_at (M := M) (k := k) (a := a) hat]; exact vp_in_nI (by omega) (by decide)) (show gN1 M k a 100 (gN1 M k a 94 10).toNatClampNeg = _ from by rw [gN1_at (M := M) (k := k) (a := a) hat, nI_clamp (by omega), gN1_tx (M := M) (k := k) (a := a)]) ?_
  refine j_bipush (v := 48) x dX6_number_34 (by decide) ?_
  refine j_bipush (v := 57) x dX6_number_36 (by decide) ?_
  refine j2_callSi x hb dX6_number_38 m_X6_in (CM_v (cx_in (d := d) hb) (jb_t hd2)) wmX6_64 rfl (Nat.le_of_ble_eq_true rfl) (j_fit_rm (by omega) (by omega) (by omega)) rfl ?_
  refine j_if_eq (tgt := 85) x dX6_number_41 (by decide) (fun hc => absurd hc (by decide)) (fun hc => ?_)
  refine j_aload_n x dX6_number_44 rfl ?_
  refine j2_getr (k := 12) (r := 101) x hb dX6_number_45 jc_10 wfX6_29 (by decide) rfl ?_
  refine j_iload_n x dX6_number_48 rfl ?_
  refine j_bipush (v := 10) x dX6_number_49 (by decide) ?_
  refine j_aload_n x dX6_number_51 rfl ?_
  refine j2_getr (k := 12) (r := 101) x hb dX6_number_52 jc_10 wfX6_29 (by decide) rfl ?_
  refine j_iload_n x dX6_number_55 rfl ?_
  refine j2_ialn x hb dX6_number_56 fa_101 (j := k) (vp_in_nI (by omega) (by decide)) (nI_clamp (by omega)) ?_
  refine j_imul x dX6_number_57 ?_
  refine j_aload_n x dX6_number_58 rfl ?_
  refine j2_getr (k := 8) (r := 100) x hb dX6_number_59 jc_10 wfX6_25 (by decide) rfl ?_
  refine j_aload_n x dX6_number_62 rfl ?_
  refine j_dup x dX6_number_63 rfl ?_
  refine j2_geti (k := 10) x hb dX6_number_64 jc_10 wfX6_188 (by decide) rfl ?_
  refine j_dup_x1 x dX6_number_67 rfl rfl ?_
  refine j_iconst (v := 1) x dX6_number_68 (by decide) ?_
  refine j_iadd x dX6_number_69 ?_
  refine j2_puti (k := 10) x hb dX6_number_70 jc_10 wfX6_188 (by decide) rfl rfl rfl rfl ?_
  refine j2_cald x hb dX6_number_73 rfl (n := 60) (k := gN1 M k a 94 10) (v := M 100 (a + 1)) (by rw [gN1_at (M := M) (k := k) (a := a) hat]; exact vp_in_nI (by omega) (by decide)) (show jm (gN1 M k a) 94 10 (gN1 M k a 94 10 + 1) 100 (gN1 M k a 94 10).toNatClampNeg = _ from by rw [jm_n (by omega), gN1_at (M := M) (k := k) (a := a) hat, nI_clamp (by omega), gN1_tx (M := M) (k := k) (a := a)]) ?_
  refine j_iadd x dX6_number_74 ?_
  refine j_bipush (v := 48) x dX6_number_75 (by decide) ?_
  refine j_isub x dX6_number_77 ?_
  refine j2_iasn x hb dX6_number_78 fa_101 (j := k) (vp_in_nI (by omega) (by decide)) (nI_clamp (by omega)) ?_
  refine j_iinc x dX6_number_79 rfl (by decide) rfl ?_
  refine j_goto (tgt := 9) x dX6_number_82 (by decide) ?_
  refine j_iload_n x dX6_number_9 rfl ?_
  refine j_iconst (v := 2) x dX6_number_10 (by decide) ?_
  refine j_icmp_ge (tgt := 85) x dX6_number_11 (by decide) (fun hc => ?_) (fun hc => absurd (by decide) hc)
  refine j_iload_n x dX6_number_85 rfl ?_
  refine j_if_le (tgt := 93) x dX6_number_86 (by decide) (fun hc => absurd hc (by decide)) (fun hc => ?_)
  refine j_iconst (v := 1) x dX6_number_89 (by decide) ?_
  refine j_goto (tgt := 94) x dX6_number_90 (by decide) ?_
  exact j_zreturn x hr dX6_number_94 (by first | decide | with_reducible exact jb_nar | with_reducible exact jisS_nar | with_reducible exact gno_nar) (by omega) (by omega) ⟨rfl, rfl⟩
def gDa (M : MM) (n a : Nat) : Nat → Nat
  | 0 => a
  | j + 1 => if gDa M n a j < n ∧ isD 48 52 (M 100 (gDa M n a j)) then gDa M n a j + 1 else gDa M n a j
def gDs (M : MM) (n a : Nat) : Nat → MM
  | 0 => M
  | j + 1 => if gDa M n a j < n ∧ isD 48 52 (M 100 (gDa M n a j)) then jm (jm (gDs M n a j) 94 10 ((gDs M n a j) 94 10 + 1)) 101 j (M 100 (gDa M n a j) - 48) else jm (gDs M n a j) 101 j (-1)
theorem gDa_le {M : MM} {n a : Nat} (ha : a ≤ n) : ∀ j, gDa M n a j ≤ n
  | 0 => ha
  | j + 1 => by have h := gDa_le (M := M) ha j; rw [gDa]; split <;> omega
theorem gDs_at {M : MM} {n a : Nat} (hat : M 94 10 = nI a) : ∀ j, gDs M n a j 94 10 = nI (gDa M n a j)
  | 0 => hat
  | j + 1 => by
    have h := gDs_at (n := n) hat j
    rw [gDs, gDa]; split
    · rw [jm_n (by omega), jm_s, h, nI_1]
    · rw [jm_n (by omega), h]
theorem gDs_len {M : MM} {n a : Nat} : ∀ j, gDs M n a j 94 9 = M 94 9
  | 0 => rfl
  | j + 1 => by
    have h := gDs_len (M := M) (n := n) (a := a) j
    rw [gDs]; split
    · rw [jm_n (by omega), jm_n (by omega), h]
    · rw [jm_n (by omega), h]
theorem gDs_tx {M : MM} {n a i : Nat} : ∀ j, gDs M n a j 100 i = M 100 i
  | 0 => rfl
  | j + 1 => by
    have h := gDs_tx (M := M) (n := n) (a := a) (i := i) j
    rw [gDs]; split
    · rw [jm_n (by omega), jm_n (by omega), h]
    · rw [jm_n (by omega), h]
theorem cx_digits {d : Nat} {b : SBt} {Y : OUt} {M : MM} (hb : 104 ≤ b.2.1) {a n : Nat} (hn : n ≤ 60) (h9 : M 94 9 = nI n) (hat : M 94 10 = nI a) (ha : a ≤ n) : CM (d + 1) 0 0 yX6_digits cX6_digits 2 (some .boolean) [.ref 94] b Y M (.inl (some (.int (1)))) (gDs M n a 3) := by
  refine Con.of (by decide +kernel) (Nat.le_of_ble_eq_true rfl) rfl fun p l e s m args below meth c D tyc A ad0 x hr htab hname => ?_
  change JJ _ _ _ _ _ _ _ _ _ _ _ _ _ _ _ _ _ 0 [some (.ref 94), none] [] _ 0 0
  refine j_iconst (v := 0) x dX6_digits_0 (by decide) ?_
  refine j_istore_n x dX6_digits_1 (by decide) rfl ?_
  refine j_for (3) (fun z0 => [some (.ref 94), some (.int (nI z0))]) (fun z0 => gDs M n a z0) (fun z0 => True) (rfl) (rfl) (trivial) (fun j hj hP ih => ?_) (fun hP => ?_)
  · have hle := gDa_le (M := M) ha j
    have hA := gDs_at (n := n) hat j
    have hN := gDs_len (M := M) (n := n) (a := a) j
    have hT := gDs_tx (M := M) (n := n) (a := a) (i := gDa M n a j) j
    refine j_iload_n x dX6_digits_2 rfl ?_
    refine j_iconst (v := 3) x dX6_digits_3 (by decide) ?_
    refine j_icmp_ge (tgt := 72) x dX6_digits_4 (by decide) (fun hc => absurd hc (nI_ge hj (by decide))) (fun hc => ?_)
    refine j_aload_n x dX6_digits_7 rfl ?_
    refine j2_getr (k := 12) (r := 101) x hb dX6_digits_8 jc_10 wfX6_29 (by decide) rfl ?_
    refine j_iload_n x dX6_digits_11 rfl ?_
    refine j_aload_n x dX6_digits_12 rfl ?_
    refine j2_geti (k := 10) x hb dX6_digits_13 jc_10 wfX6_188 (by decide) rfl ?_
    refine j_aload_n x dX6_digits_16 rfl ?_
    refine j2_geti (k := 9) x hb dX6_digits_17 jc_10 wfX6_185 (by decide) rfl ?_
    refine j_icmp_ge (tgt := 64) x dX6_digits_20 (by decide) (fun h1 => ?_) (fun h1 => ?_)
    · refine j_iconst (v := (-1)) x dX6_digits_64 (by decide) ?_
      refine j2_iasn x hb dX6_digits_65 fa_101 (j := j) (vp_in_nI (by omega) (by decide)) (nI_clamp (by omega)) ?_
      refine j_iinc x dX6_digits_66 rfl (by decide) rfl ?_
      refine j_goto (tgt := 2) x dX6_digits_69 (by decide) ?_
      exact j_goal (ih (trivial)) (wk_c rfl (wk_c (congrArg (fun z => some (Value.int z)) (nI_1 _)) (wk_0))) (if_neg (fun q => absurd h1 (by rw [hN, hA, h9]; exact nI_ge q.1 (by omega))))
    · refine j_aload_n x dX6_digits_23 rfl ?_
      refine j2_getr (k := 8) (r := 100) x hb dX6_digits_24 jc_10 wfX6_25 (by decide) rfl ?_
      refine j_aload_n x dX6_digits_27 rfl ?_
      refine j2_geti (k := 10) x hb dX6_digits_28 jc_10 wfX6_188 (by decide) rfl ?_
      refine j2_cald x hb dX6_digits_31 rfl (n := 60) (v := M 100 (gDa M n a j)) (by have q1 : gDa M n a j < n := Nat.lt_of_not_le (fun q => h1 (by rw [hN, hA, h9]; exact nI_le q (by omega))); rw [hA]; exact vp_in_nI (by omega) (by decide)) (by rw [hA, nI_clamp (by omega), hT]) ?_
      refine j_bipush (v := 48) x dX6_digits_32 (by decide) ?_
      refine j_bipush (v := 52) x dX6_digits_34 (by decide) ?_
      refine j2_callSi x hb dX6_digits_36 m_X6_in (cx_in (d := d) hb) wmX6_64 rfl (Nat.le_of_ble_eq_true rfl) (j_fit_rm (by omega) (by omega) (by omega)) rfl ?_
      refine j_if_eq (tgt := 64) x dX6_digits_39 (by decide) (fun h2 => ?_) (fun h2 => ?_)
      · refine j_iconst (v := (-1)) x dX6_digits_64 (by decide) ?_
        refine j2_iasn x hb dX6_digits_65 fa_101 (j := j) (vp_in_nI (by omega) (by decide)) (nI_clamp (by omega)) ?_
        refine j_iinc x dX6_digits_66 rfl (by decide) rfl ?_
        refine j_goto (tgt := 2) x dX6_digits_69 (by decide) ?_
        exact j_goal (ih (trivial)) (wk_c rfl (wk_c (congrArg (fun z => some (Value.int z)) (nI_1 _)) (wk_0))) (if_neg (fun q => jb_0.mp h2 q.2))
      · refine j_aload_n x dX6_digits_42 rfl ?_
        refine j2_getr (k := 8) (r := 100) x hb dX6_digits_43 jc_10 wfX6_25 (by decide) rfl ?_
        refine j_aload_n x dX6_digits_46 rfl ?_
        refine j_dup x dX6_digits_47 rfl ?_
        refine j2_geti (k := 10) x hb dX6_digits_48 jc_10 wfX6_188 (by decide) rfl ?_
        refine j_dup_x1 x dX6_digits_51 rfl rfl ?_
        refine j_iconst (v := 1) x dX6_digits_52 (by decide) ?_
        refine j_iadd x dX6_digits_53 ?_
        refine j2_puti (k := 10) x hb dX6_digits_54 jc_10 wfX6_188 (by decide) rfl rfl rfl rfl ?_
        refine j2_cald x hb dX6_digits_57 rfl (n := 60) (v := M 100 (gDa M n a j)) (by have q1 : gDa M n a j < n := Nat.lt_of_not_le (fun q => h1 (by rw [hN, hA, h9]; exact nI_le q (by omega))); rw [hA]; exact vp_in_nI (by omega) (by decide)) (by rw [jm_n (by omega), hA, nI_clamp (by omega), hT]) ?_
        refine j_bipush (v := 48) x dX6_digits_58 (by decide) ?_
        refine j_isub x dX6_digits_60 ?_
        refine j_goto (tgt := 65) x dX6_digits_61 (by decide) ?_
        refine j2_iasn x hb dX6_digits_65 fa_101 (j := j) (vp_in_nI (by omega) (by decide)) (nI_clamp (by omega)) ?_
        refine j_iinc x dX6_digits_66 rfl (by decide) rfl ?_
        refine j_goto (tgt := 2) x dX6_digits_69 (by decide) ?_
        exact j_goal (ih (trivial)) (wk_c rfl (wk_c (congrArg (fun z => some (Value.int z)) (nI_1 _)) (wk_0))) (by have q1 : gDa M n a j < n := Nat.lt_of_not_le (fun q => h1 (by rw [hN, hA, h9]; exact nI_le q (by omega))); exact if_pos ⟨q1, jb_nz.mp h2⟩)
  refine j_iload_n x dX6_digits_2 rfl ?_
  refine j_iconst (v := 3) x dX6_digits_3 (by decide) ?_
  refine j_icmp_ge (tgt := 72) x dX6_digits_4 (by decide) (fun hc => ?_) (fun hc => absurd (by decide) hc)
  refine j_iconst (v := 1) x dX6_digits_72 (by decide) ?_
  exact j_zreturn x hr dX6_digits_73 (by first | decide | with_reducible exact jb_nar | with_reducible exact jisS_nar | with_reducible exact gno_nar) (by omega) (by omega) ⟨rfl, rfl⟩
def gW (M : MM) (q v : Nat) : MM := jm (jm M 94 7 (nI (q + 1))) 99 q (nI (48 + v % 10))
theorem cx_writesNumber_1 {d : Nat} {b : SBt} {Y : OUt} {M : MM} (hb : 104 ≤ b.2.1) {q v : Nat} (hq : q < 40) (h7 : M 94 7 = nI q) (hv : v < 10) : CM (d) 0 0 yX6_writesNumber cX6_writesNumber 2 none [.ref 94, .int (nI v)] b Y M (.inl none) (gW M q v) := by
  refine Con.of (by decide +kernel) (Nat.le_of_ble_eq_true rfl) rfl fun p l e s m args below meth c D tyc A ad0 x hr htab hname => ?_
  change JJ _ _ _ _ _ _ _ _ _ _ _ _ _ _ _ _ _ 0 [some (.ref 94), some (.int (nI v))] [] _ 0 0
  refine j_iload_n x dX6_writesNumber_0 rfl ?_
  refine j_bipush (v := 9) x dX6_writesNumber_1 (by decide) ?_
  refine j_icmp_le (tgt := 14) x dX6_writesNumber_3 (by decide) (fun hc => ?_) (fun hc => absurd (show nI v ≤ nI 9 from nI_le (by omega) (by omega)) hc)
  refine j_aload_n x dX6_writesNumber_14 rfl ?_
  refine j2_getr (k := 6) (r := 99) x hb dX6_writesNumber_15 jc_10 wfX6_22 (by decide) rfl ?_
  refine j_aload_n x dX6_writesNumber_18 rfl ?_
  refine j_dup x dX6_writesNumber_19 rfl ?_
  refine j2_geti (k := 7) x hb dX6_writesNumber_20 jc_10 wfX6_218 (by decide) rfl ?_
  refine j_dup_x1 x dX6_writesNumber_23 rfl rfl ?_
  refine j_iconst (v := 1) x dX6_writesNumber_24 (by decide) ?_
  refine j_iadd x dX6_writesNumber_25 ?_
  refine j2_puti (k := 7) x hb dX6_writesNumber_26 jc_10 wfX6_218 (by decide) rfl rfl rfl rfl ?_
  refine j_bipush (v := 48) x dX6_writesNumber_29 (by decide) ?_
  refine j_iload_n x dX6_writesNumber_31 rfl ?_
  refine j_bipush (v := 10) x dX6_writesNumber_32 (by decide) ?_
  refine j_irem x dX6_writesNumber_34 (by decide) ?_; rw [show (10 : Int32) = nI 10 from rfl, nI_rem (by omega) (by omega) (by omega)]
  refine j_iadd x dX6_writesNumber_35 ?_; rw [show (48 : Int32) = nI 48 from rfl, nI_add]
  refine j2_iasn x hb dX6_writesNumber_36 fa_99 (j := q) (by rw [h7]; exact vp_in_nI (by omega) (by decide)) (by rw [h7]; exact nI_clamp (by omega)) ?_
  exact j_return x hr dX6_writesNumber_37 (by omega) (by omega) ⟨rfl, by rw [h7, nI_1]; rfl⟩
theorem cx_writesNumber_2 {d : Nat} {b : SBt} {Y : OUt} {M : MM} (hb : 104 ≤ b.2.1) {q v : Nat} (hq : q + 1 < 40) (h7 : M 94 7 = nI q) (hv : 9 < v) (hv2 : v < 100) : CM (d + 1) 0 0 yX6_writesNumber cX6_writesNumber 2 none [.ref 94, .int (nI v)] b Y M (.inl none) (gW (gW M q (v / 10)) (q + 1) v) := by
  refine Con.of (by decide +kernel) (Nat.le_of_ble_eq_true rfl) rfl fun p l e s m args below meth c D tyc A ad0 x hr htab hname => ?_
  change JJ _ _ _ _ _ _ _ _ _ _ _ _ _ _ _ _ _ 0 [some (.ref 94), some (.int (nI v))] [] _ 0 0
  refine j_iload_n x dX6_writesNumber_0 rfl ?_
  refine j_bipush (v := 9) x dX6_writesNumber_1 (by decide) ?_
  refine j_icmp_le (tgt := 14) x dX6_writesNumber_3 (by decide) (fun hc => absurd hc (show ¬ nI v ≤ nI 9 from nI_ge (by omega) (by omega))) (fun hc => ?_)
  refine j_aload_n x dX6_writesNumber_6 rfl ?_
  refine j_iload_n x dX6_writesNumber_7 rfl ?_
  refine j_bipush (v := 10) x dX6_writesNumber_8 (by decide) ?_
  refine j_idiv x dX6_writesNumber_10 (by decide) ?_; rw [show (10 : Int32) = nI 10 from rfl, nI_div2 (by omega) (by omega) (by omega)]
  refine j2_callVv x hb dX6_writesNumber_11 m_X6_writesNumber (cx_writesNumber_1 (d := d) hb (by omega) h7 (by omega)) wmX6_214 jc_10 rfl rfl rfl (Nat.le_of_ble_eq_true rfl) (j_fit_rm (by omega) (by omega) (by omega)) rfl ?_
  refine j_aload_n x dX6_writesNumber_14 rfl ?_
  refine j2_getr (k := 6) (r := 99) x hb dX6_writesNumber_15 jc_10 wfX6_22 (by decide) rfl ?_
  refine j_aload_n x dX6_writesNumber_18 rfl ?_
  refine j_dup x dX6_writesNumber_19 rfl ?_
  refine j2_geti (k := 7) x hb dX6_writesNumber_20 jc_10 wfX6_218 (by decide) rfl ?_
  refine j_dup_x1 x dX6_writesNumber_23 rfl rfl ?_
  refine j_iconst (v := 1) x dX6_writesNumber_24 (by decide) ?_
  refine j_iadd x dX6_writesNumber_25 ?_
  refine j2_puti (k := 7) x hb dX6_writesNumber_26 jc_10 wfX6_218 (by decide) rfl rfl rfl rfl ?_
  refine j_bipush (v := 48) x dX6_writesNumber_29 (by decide) ?_
  refine j_iload_n x dX6_writesNumber_31 rfl ?_
  refine j_bipush (v := 10) x dX6_writesNumber_32 (by decide) ?_
  refine j_irem x dX6_writesNumber_34 (by decide) ?_; rw [show (10 : Int32) = nI 10 from rfl, nI_rem (by omega) (by omega) (by omega)]
  refine j_iadd x dX6_writesNumber_35 ?_; rw [show (48 : Int32) = nI 48 from rfl, nI_add]
  refine j2_iasn x hb dX6_writesNumber_36 fa_99 (j := q + 1) (by rw [(show gW M q (v / 10) 94 7 = nI (q + 1) from by rw [gW, jm_n (by omega), jm_s])]; exact vp_in_nI (by omega) (by decide)) (by rw [(show gW M q (v / 10) 94 7 = nI (q + 1) from by rw [gW, jm_n (by omega), jm_s])]; exact nI_clamp (by omega)) ?_
  exact j_return x hr dX6_writesNumber_37 (by omega) (by omega) ⟨rfl, by rw [(show gW M q (v / 10) 94 7 = nI (q + 1) from by rw [gW, jm_n (by omega), jm_s]), nI_1]; rfl⟩
theorem cx_character_bad {d : Nat} {b : SBt} {Y : OUt} {M : MM} (hb : 104 ≤ b.2.1) {t : Int32} (hT : ¬ (¬ t < 0 ∧ ¬ M 94 7 - 1 < t)) : CM (d + 1) 0 0 yX6_character cX6_character 2 (some .char) [.ref 94, .int t] b Y M (.inl (some (.int (97)))) (jm M 94 19 1) := by
  refine Con.of (by decide +kernel) (Nat.le_of_ble_eq_true rfl) rfl fun p l e s m args below meth c D tyc A ad0 x hr htab hname => ?_
  change JJ _ _ _ _ _ _ _ _ _ _ _ _ _ _ _ _ _ 0 [some (.ref 94), some (.int t)] [] _ 0 0
  refine j_aload_n x dX6_character_0 rfl ?_
  refine j_iload_n x dX6_character_1 rfl ?_
  refine j_iconst (v := 0) x dX6_character_2 (by decide) ?_
  refine j_aload_n x dX6_character_3 rfl ?_
  refine j2_geti (k := 7) x hb dX6_character_4 jc_10 wfX6_218 (by decide) rfl ?_
  refine j_iconst (v := 1) x dX6_character_7 (by decide) ?_
  refine j_isub x dX6_character_8 ?_
  refine j2_callSi x hb dX6_character_9 m_X6_in (CM_v (cx_in (d := d) hb) (jb_f hT)) wmX6_64 rfl (Nat.le_of_ble_eq_true rfl) (j_fit_rm (by omega) (by omega) (by omega)) rfl ?_
  refine j_if_eq (tgt := 19) x dX6_character_12 (by decide) (fun hc => ?_) (fun hc => absurd (rfl) hc)
  refine j_iconst (v := 1) x dX6_character_19 (by decide) ?_
  refine j2_puti (k := 19) x hb dX6_character_20 jc_10 wfX6_36 (by decide) rfl rfl rfl rfl ?_
  refine j_aload_n x dX6_character_23 rfl ?_
  refine j2_geti (k := 19) x hb dX6_character_24 jc_10 wfX6_36 (by decide) rfl ?_
  refine j_if_ne (tgt := 40) x dX6_character_27 (by decide) (fun hc => ?_) (fun hc => absurd hc (by rw [jm_s]; decide))
  refine j_bipush (v := 97) x dX6_character_40 (by decide) ?_
  exact j_zreturn x hr dX6_character_42 (by first | decide | with_reducible exact jb_nar | with_reducible exact jisS_nar | with_reducible exact gno_nar) (by omega) (by omega) ⟨rfl, rfl⟩
theorem cx_character_ok {d : Nat} {b : SBt} {Y : OUt} {M : MM} (hb : 104 ≤ b.2.1) {i : Nat} {w : Int32} (hi : i < 40) (hT : ¬ nI i < 0 ∧ ¬ M 94 7 - 1 < nI i) (hw : ((M 99 i).toUInt32 % 65536).toInt32 = w) (hnar : narrow .char (.int w) = .int w) : CM (d + 1) 0 0 yX6_character cX6_character 2 (some .char) [.ref 94, .int (nI i)] b Y M (.inl (some (.int (w)))) (jm M 94 19 0) := by
  refine Con.of (by decide +kernel) (Nat.le_of_ble_eq_true rfl) rfl fun p l e s m args below meth c D tyc A ad0 x hr htab hname => ?_
  change JJ _ _ _ _ _ _ _ _ _ _ _ _ _ _ _ _ _ 0 [some (.ref 94), some (.int (nI i))] [] _ 0 0
  refine j_aload_n x dX6_character_0 rfl ?_
  refine j_iload_n x dX6_character_1 rfl ?_
  refine j_iconst (v := 0) x dX6_character_2 (by decide) ?_
  refine j_aload_n x dX6_character_3 rfl ?_
  refine j2_geti (k := 7) x hb dX6_character_4 jc_10 wfX6_218 (by decide) rfl ?_
  refine j_iconst (v := 1) x dX6_character_7 (by decide) ?_
  refine j_isub x dX6_character_8 ?_
  refine j2_callSi x hb dX6_character_9 m_X6_in (CM_v (cx_in (d := d) hb) (jb_t hT)) wmX6_64 rfl (Nat.le_of_ble_eq_true rfl) (j_fit_rm (by omega) (by omega) (by omega)) rfl ?_
  refine j_if_eq (tgt := 19) x dX6_character_12 (by decide) (fun hc => absurd hc (by decide)) (fun hc => ?_)
  refine j_iconst (v := 0) x dX6_character_15 (by decide) ?_
  refine j_goto (tgt := 20) x dX6_character_16 (by decide) ?_
  refine j2_puti (k := 19) x hb dX6_character_20 jc_10 wfX6_36 (by decide) rfl rfl rfl rfl ?_
  refine j_aload_n x dX6_character_23 rfl ?_
  refine j2_geti (k := 19) x hb dX6_character_24 jc_10 wfX6_36 (by decide) rfl ?_
  refine j_if_ne (tgt := 40) x dX6_character_27 (by decide) (fun hc => absurd hc (fun q => q (by rw [jm_s]))) (fun hc => ?_)
  refine j_aload_n x dX6_character_30 rfl ?_
  refine j2_getr (k := 6) (r := 99) x hb dX6_character_31 jc_10 wfX6_22 (by decide) rfl ?_
  refine j_iload_n x dX6_character_34 rfl ?_
  refine j2_ialn x hb dX6_character_35 fa_99 (j := i) (vp_in_nI (by omega) (by decide)) (nI_clamp (by omega)) ?_
  refine j_i2c x dX6_character_36 ?_; rw [jm_n (by omega), hw]
  refine j_goto (tgt := 42) x dX6_character_37 (by decide) ?_
  exact j_zreturn x hr dX6_character_42 hnar (by omega) (by omega) ⟨rfl, rfl⟩
