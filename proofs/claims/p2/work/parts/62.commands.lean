/-! ===== the reference: commands ===== -/
theorem cx_isNext_end {d : Nat} {b : SBt} {Y : OUt} {M : MM} (hb : 104 ≤ b.2.1) {ch : Int32} {a n : Nat} (hn : n ≤ 60) (h9 : M 94 9 = nI n) (hat : M 94 10 = nI a) (ha : a = n) : CM (d) 0 0 yX6_isNext cX6_isNext 2 (some .boolean) [.ref 94, .int ch] b Y M (.inl (some (.int (0)))) (M) := by
  refine Con.of (by decide +kernel) (Nat.le_of_ble_eq_true rfl) rfl fun p l e s m args below meth c D tyc A ad0 x hr htab hname => ?_
  change JJ _ _ _ _ _ _ _ _ _ _ _ _ _ _ _ _ _ 0 [some (.ref 94), some (.int ch)] [] _ 0 0
  refine j_aload_n x dX6_isNext_0 rfl ?_
  refine j2_geti (k := 10) x hb dX6_isNext_1 jc_10 wfX6_188 (by decide) rfl ?_
  refine j_aload_n x dX6_isNext_4 rfl ?_
  refine j2_geti (k := 9) x hb dX6_isNext_5 jc_10 wfX6_185 (by decide) rfl ?_
  refine j_icmp_eq (tgt := 24) x dX6_isNext_8 (by decide) (fun hc => ?_) (fun hc => absurd (by rw [hat, h9, ha]) hc)
  refine j_iconst (v := 0) x dX6_isNext_24 (by decide) ?_
  exact j_zreturn x hr dX6_isNext_25 (by first | decide | with_reducible exact jb_nar | with_reducible exact jisS_nar | with_reducible exact gno_nar) (by omega) (by omega) ⟨rfl, rfl⟩
theorem cx_isNext_no {d : Nat} {b : SBt} {Y : OUt} {M : MM} (hb : 104 ≤ b.2.1) {ch : Int32} {a n : Nat} (hn : n ≤ 60) (h9 : M 94 9 = nI n) (hat : M 94 10 = nI a) (ha : a < n) (hne : ¬ M 100 a = ch) : CM (d) 0 0 yX6_isNext cX6_isNext 2 (some .boolean) [.ref 94, .int ch] b Y M (.inl (some (.int (0)))) (M) := by
  refine Con.of (by decide +kernel) (Nat.le_of_ble_eq_true rfl) rfl fun p l e s m args below meth c D tyc A ad0 x hr htab hname => ?_
  change JJ _ _ _ _ _ _ _ _ _ _ _ _ _ _ _ _ _ 0 [some (.ref 94), some (.int ch)] [] _ 0 0
  refine j_aload_n x dX6_isNext_0 rfl ?_
  refine j2_geti (k := 10) x hb dX6_isNext_1 jc_10 wfX6_188 (by decide) rfl ?_
  refine j_aload_n x dX6_isNext_4 rfl ?_
  refine j2_geti (k := 9) x hb dX6_isNext_5 jc_10 wfX6_185 (by decide) rfl ?_
  refine j_icmp_eq (tgt := 24) x dX6_isNext_8 (by decide) (fun hc => absurd hc (by rw [hat, h9]; exact fun q => by have := congrArg Int32.toNatClampNeg q; rw [nI_clamp (by omega), nI_clamp (by omega)] at this; omega)) (fun hc => ?_)
  refine j_aload_n x dX6_isNext_11 rfl ?_
  refine j2_getr (k := 8) (r := 100) x hb dX6_isNext_12 jc_10 wfX6_25 (by decide) rfl ?_
  refine j_aload_n x dX6_isNext_15 rfl ?_
  refine j2_geti (k := 10) x hb dX6_isNext_16 jc_10 wfX6_188 (by decide) rfl ?_
  refine j2_cald x hb dX6_isNext_19 rfl (n := 60) (k := M 94 10) (v := M 100 a) (by rw [hat]; exact vp_in_nI (by omega) (by decide)) (by rw [hat, nI_clamp (by omega)]) ?_
  refine j_iload_n x dX6_isNext_20 rfl ?_
  refine j_icmp_eq (tgt := 26) x dX6_isNext_21 (by decide) (fun hc => absurd hc (hne)) (fun hc => ?_)
  refine j_iconst (v := 0) x dX6_isNext_24 (by decide) ?_
  exact j_zreturn x hr dX6_isNext_25 (by first | decide | with_reducible exact jb_nar | with_reducible exact jisS_nar | with_reducible exact gno_nar) (by omega) (by omega) ⟨rfl, rfl⟩
theorem cx_isNext_yes {d : Nat} {b : SBt} {Y : OUt} {M : MM} (hb : 104 ≤ b.2.1) {ch : Int32} {a n : Nat} (hn : n ≤ 60) (h9 : M 94 9 = nI n) (hat : M 94 10 = nI a) (ha : a < n) (he : M 100 a = ch) : CM (d) 0 0 yX6_isNext cX6_isNext 2 (some .boolean) [.ref 94, .int ch] b Y M (.inl (some (.int (1)))) (jm M 94 10 (nI (a + 1))) := by
  refine Con.of (by decide +kernel) (Nat.le_of_ble_eq_true rfl) rfl fun p l e s m args below meth c D tyc A ad0 x hr htab hname => ?_
  change JJ _ _ _ _ _ _ _ _ _ _ _ _ _ _ _ _ _ 0 [some (.ref 94), some (.int ch)] [] _ 0 0
  refine j_aload_n x dX6_isNext_0 rfl ?_
  refine j2_geti (k := 10) x hb dX6_isNext_1 jc_10 wfX6_188 (by decide) rfl ?_
  refine j_aload_n x dX6_isNext_4 rfl ?_
  refine j2_geti (k := 9) x hb dX6_isNext_5 jc_10 wfX6_185 (by decide) rfl ?_
  refine j_icmp_eq (tgt := 24) x dX6_isNext_8 (by decide) (fun hc => absurd hc (by rw [hat, h9]; exact fun q => by have := congrArg Int32.toNatClampNeg q; rw [nI_clamp (by omega), nI_clamp (by omega)] at this; omega)) (fun hc => ?_)
  refine j_aload_n x dX6_isNext_11 rfl ?_
  refine j2_getr (k := 8) (r := 100) x hb dX6_isNext_12 jc_10 wfX6_25 (by decide) rfl ?_
  refine j_aload_n x dX6_isNext_15 rfl ?_
  refine j2_geti (k := 10) x hb dX6_isNext_16 jc_10 wfX6_188 (by decide) rfl ?_
  refine j2_cald x hb dX6_isNext_19 rfl (n := 60) (k := M 94 10) (v := M 100 a) (by rw [hat]; exact vp_in_nI (by omega) (by decide)) (by rw [hat, nI_clamp (by omega)]) ?_
  refine j_iload_n x dX6_isNext_20 rfl ?_
  refine j_icmp_eq (tgt := 26) x dX6_isNext_21 (by decide) (fun hc => ?_) (fun hc => absurd (he) hc)
  refine j_aload_n x dX6_isNext_26 rfl ?_
  refine j_dup x dX6_isNext_27 rfl ?_
  refine j2_geti (k := 10) x hb dX6_isNext_28 jc_10 wfX6_188 (by decide) rfl ?_
  refine j_iconst (v := 1) x dX6_isNext_31 (by decide) ?_
  refine j_iadd x dX6_isNext_32 ?_
  refine j2_puti (k := 10) x hb dX6_isNext_33 jc_10 wfX6_188 (by decide) rfl rfl rfl rfl ?_
  refine j_iconst (v := 1) x dX6_isNext_36 (by decide) ?_
  exact j_zreturn x hr dX6_isNext_37 (by first | decide | with_reducible exact jb_nar | with_reducible exact jisS_nar | with_reducible exact gno_nar) (by omega) (by omega) ⟨rfl, by rw [hat, nI_1]⟩
