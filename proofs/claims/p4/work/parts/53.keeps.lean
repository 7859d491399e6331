/-! ===== the reference: what it keeps, its changes at any store ===== -/
def jkp8 (M : MM) : MM := jkp (jm (jcp M 97 466 97 0 3262) 94 3 (nI 7)) 7
def jkpg (M : MM) (k : Nat) : MM := if k < 8 then jkp M k else jkp8 M
theorem cx_keeps_8 {d : Nat} {b : SBt} {Y : OUt} {M : MM} (hb : 104 ≤ b.2.1) {v : Int32} (h0 : M 94 3 = nI 8) : CM (d) 0 0 yX6_keeps cX6_keeps 3 (some .int) [.ref 94, .int v] b Y M (.inl (some (.int (v)))) (jkp8 M) := by
  refine Con.of (by decide +kernel) (Nat.le_of_ble_eq_true rfl) rfl fun p l e s m args below meth c D tyc A ad0 x hr htab hname => ?_
  change JJ _ _ _ _ _ _ _ _ _ _ _ _ _ _ _ _ _ 0 [some (.ref 94), some (.int v), none] [] _ 0 0
  refine j_aload_n x dX6_keeps_0 rfl ?_
  refine j2_geti (k := 3) x hb dX6_keeps_1 jc_10 wfX6_42 (by decide) rfl ?_
  refine j_bipush (v := 8) x dX6_keeps_4 (by decide) ?_
  refine j_icmp_ne (tgt := 50) x dX6_keeps_6 (by decide) (fun hc => absurd hc (fun q => q h0)) (fun hc => ?_)
  refine j_iconst (v := 0) x dX6_keeps_9 (by decide) ?_
  refine j_istore_n x dX6_keeps_10 (by decide) rfl ?_
  refine j2_cpl 97 466 97 0 3262 (fun j => [some (.ref 94), some (.int v), some (.int (nI j))]) (Or.inr (by decide)) rfl (fun j hj M1 hM ih => ?_) ?_
  · refine j_iload_n x dX6_keeps_11 rfl ?_
    refine j_sipush (v := 3262) x dX6_keeps_12 (by decide) ?_
    refine j_icmp_ge (tgt := 40) x dX6_keeps_15 (by decide) (fun hc => absurd hc (nI_ge (b := 3262) hj (by decide))) (fun hc => ?_)
    refine j_aload_n x dX6_keeps_18 rfl ?_
    refine j2_getr (k := 2) (r := 97) x hb dX6_keeps_19 jc_10 wfX6_16 (by decide) rfl ?_
    refine j_iload_n x dX6_keeps_22 rfl ?_
    refine j_aload_n x dX6_keeps_23 rfl ?_
    refine j2_getr (k := 2) (r := 97) x hb dX6_keeps_24 jc_10 wfX6_16 (by decide) rfl ?_
    refine j_sipush (v := 466) x dX6_keeps_27 (by decide) ?_
    refine j_iload_n x dX6_keeps_30 rfl ?_
    refine j_iadd x dX6_keeps_31 ?_
    refine j2_ialn x hb dX6_keeps_32 fa_97 (j := 466 + j) (by rw [show (466 : Int32) + nI j = nI (466 + j) from nI_add 466 j]; exact vp_in_nI (by omega) (by decide)) (by rw [show (466 : Int32) + nI j = nI (466 + j) from nI_add 466 j]; exact nI_clamp (by omega)) ?_
    refine j2_iasn x hb dX6_keeps_33 fa_97 (j := j) (vp_in_nI (by omega) (by decide)) (nI_clamp (by omega)) ?_
    refine j_iinc x dX6_keeps_34 rfl (by decide) rfl ?_
    refine j_goto (tgt := 11) x dX6_keeps_37 (by decide) ?_
    have h9 := ih
    simp only [Nat.zero_add] at h9
    rw [← nI_1 j] at h9
    exact h9
  refine j_iload_n x dX6_keeps_11 rfl ?_
  refine j_sipush (v := 3262) x dX6_keeps_12 (by decide) ?_
  refine j_icmp_ge (tgt := 40) x dX6_keeps_15 (by decide) (fun hc => ?_) (fun hc => absurd (nI_le (Nat.le_refl 3262) (by decide)) hc)
  refine j_aload_n x dX6_keeps_40 rfl ?_
  refine j_dup x dX6_keeps_41 rfl ?_
  refine j2_geti (k := 3) x hb dX6_keeps_42 jc_10 wfX6_42 (by decide) rfl ?_
  refine j_iconst (v := 1) x dX6_keeps_45 (by decide) ?_
  refine j_isub x dX6_keeps_46 ?_; rw [jcp_n (by omega), h0, show (nI 8 : Int32) - 1 = nI 7 from nI_sub (a := 8) (d := 1) (by decide)]
  refine j2_puti (k := 3) x hb dX6_keeps_47 jc_10 wfX6_42 (by decide) rfl rfl rfl rfl ?_
  refine j_iconst (v := 0) x dX6_keeps_50 (by decide) ?_
  refine j_istore_n x dX6_keeps_51 (by decide) rfl ?_
  refine j2_cpl 96 0 97 (466 * 7) 466 (fun j => [some (.ref 94), some (.int v), some (.int (nI j))]) (Or.inl (by decide)) rfl (fun j hj M1 hM ih => ?_) ?_
  · have h3 : M1 94 3 = nI 7 := by rw [hM, jcp_n (by omega), jm_s]
    have hix : (466 : Int32) * M1 94 3 + nI j = nI (466 * 7 + j) := by rw [h3, ← nI_add]; congr 1
    refine j_iload_n x dX6_keeps_52 rfl ?_
    refine j_sipush (v := 466) x dX6_keeps_53 (by decide) ?_
    refine j_icmp_ge (tgt := 86) x dX6_keeps_56 (by decide) (fun hc => absurd hc (nI_ge (b := 466) hj (by decide))) (fun hc => ?_)
    refine j_aload_n x dX6_keeps_59 rfl ?_
    refine j2_getr (k := 2) (r := 97) x hb dX6_keeps_60 jc_10 wfX6_16 (by decide) rfl ?_
    refine j_sipush (v := 466) x dX6_keeps_63 (by decide) ?_
    refine j_aload_n x dX6_keeps_66 rfl ?_
    refine j2_geti (k := 3) x hb dX6_keeps_67 jc_10 wfX6_42 (by decide) rfl ?_
    refine j_imul x dX6_keeps_70 ?_
    refine j_iload_n x dX6_keeps_71 rfl ?_
    refine j_iadd x dX6_keeps_72 ?_
    refine j_aload_n x dX6_keeps_73 rfl ?_
    refine j2_getr (k := 1) (r := 96) x hb dX6_keeps_74 jc_10 wfX6_13 (by decide) rfl ?_
    refine j_iload_n x dX6_keeps_77 rfl ?_
    refine j2_ialn x hb dX6_keeps_78 fa_96 (j := j) (vp_in_nI hj (by decide)) (nI_clamp (by omega)) ?_
    refine j2_iasn x hb dX6_keeps_79 fa_97 (j := 466 * 7 + j) (by rw [hix]; exact vp_in_nI (by omega) (by decide)) (by rw [hix]; exact nI_clamp (by omega)) ?_
    refine j_iinc x dX6_keeps_80 rfl (by decide) rfl ?_
    refine j_goto (tgt := 52) x dX6_keeps_83 (by decide) ?_
    have h9 := ih
    simp only [Nat.zero_add] at h9
    rw [← nI_1 j] at h9
    exact h9
  refine j_iload_n x dX6_keeps_52 rfl ?_
  refine j_sipush (v := 466) x dX6_keeps_53 (by decide) ?_
  refine j_icmp_ge (tgt := 86) x dX6_keeps_56 (by decide) (fun hc => ?_) (fun hc => absurd (nI_le (Nat.le_refl 466) (by decide)) hc)
  refine j_aload_n x dX6_keeps_86 rfl ?_
  refine j_dup x dX6_keeps_87 rfl ?_
  refine j2_geti (k := 3) x hb dX6_keeps_88 jc_10 wfX6_42 (by decide) rfl ?_
  refine j_iconst (v := 1) x dX6_keeps_91 (by decide) ?_
  refine j_iadd x dX6_keeps_92 ?_
  rw [jcp_n (by omega), jm_s, nI_1]; refine j2_puti (k := 3) x hb dX6_keeps_93 jc_10 wfX6_42 (by decide) rfl rfl rfl rfl ?_
  refine j_iload_n x dX6_keeps_96 rfl ?_
  exact j_ireturn x hr dX6_keeps_97 (by omega) (by omega) ⟨rfl, rfl⟩
theorem cx_keepsG {d : Nat} {b : SBt} {Y : OUt} {M : MM} (hb : 104 ≤ b.2.1) {v : Int32} {k : Nat} (hk : k ≤ 8) (h0 : M 94 3 = nI k) : CM d 0 0 yX6_keeps cX6_keeps 3 (some .int) [.ref 94, .int v] b Y M (.inl (some (.int v))) (jkpg M k) := by
  by_cases h : k < 8
  · rw [jkpg, if_pos h]
    exact cx_keeps hb h h0
  · rw [jkpg, if_neg h]
    exact cx_keeps_8 hb (by rw [h0, show k = 8 by omega])
theorem cx_ends_G {d : Nat} {b : SBt} {Y : OUt} {M : MM} (hb : 104 ≤ b.2.1) {k : Nat} (hk : k ≤ 8) (h0 : M 94 3 = nI k) : CM (d + 1) 0 0 yX6_ends cX6_ends 2 (some .int) [.ref 94, .int 1] b Y M (.inl (some (.int (M 94 18)))) (jkpg M k) := by
  refine Con.of (by decide +kernel) (Nat.le_of_ble_eq_true rfl) rfl fun p l e s m args below meth c D tyc A ad0 x hr htab hname => ?_
  change JJ _ _ _ _ _ _ _ _ _ _ _ _ _ _ _ _ _ 0 [some (.ref 94), some (.int 1)] [] _ 0 0
  refine j_iload_n x dX6_ends_0 rfl ?_
  refine j_if_eq (tgt := 15) x dX6_ends_1 (by decide) (fun hc => absurd hc (by decide)) (fun hc => ?_)
  refine j_aload_n x dX6_ends_4 rfl ?_
  refine j_aload_n x dX6_ends_5 rfl ?_
  refine j2_geti (k := 18) x hb dX6_ends_6 jc_10 wfX6_54 (by decide) rfl ?_
  refine j2_callVi x hb dX6_ends_9 m_X6_keeps (cx_keepsG (d := d) hb hk h0) wmX6_57 jc_10 rfl rfl rfl (Nat.le_of_ble_eq_true rfl) (j_fit_rm (by omega) (by omega) (by omega)) rfl ?_
  refine j_goto (tgt := 20) x dX6_ends_12 (by decide) ?_
  exact j_ireturn x hr dX6_ends_20 (by omega) (by omega) ⟨rfl, rfl⟩
