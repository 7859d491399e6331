/-! ===== the reference: undo, restore, its questions ===== -/
def gUndo (M : MM) (k : Nat) : MM := jcp (jm (jm M 94 19 0) 94 3 (nI k)) 97 (466 * k) 95 0 466
theorem cx_undo_ok {d : Nat} {b : SBt} {Y : OUt} {M : MM} (hb : 104 ≤ b.2.1) {k : Nat} (hk : k < 8) (h3 : M 94 3 = nI (k + 1)) : CM (d + 1) 0 0 yX6_undo cX6_undo 2 (some .int) [.ref 94] b Y M (.inl (some (.int (nI k)))) (gUndo M k) := by
  refine Con.of (by decide +kernel) (Nat.le_of_ble_eq_true rfl) rfl fun p l e s m args below meth c D tyc A ad0 x hr htab hname => ?_
  change JJ _ _ _ _ _ _ _ _ _ _ _ _ _ _ _ _ _ 0 [some (.ref 94), none] [] _ 0 0
  refine j_aload_n x dX6_undo_0 rfl ?_
  refine j_iconst (v := 0) x dX6_undo_1 (by decide) ?_
  refine j2_puti (k := 19) x hb dX6_undo_2 jc_10 wfX6_36 (by decide) rfl rfl rfl rfl ?_
  refine j_aload_n x dX6_undo_5 rfl ?_
  refine j2_geti (k := 3) x hb dX6_undo_6 jc_10 wfX6_42 (by decide) rfl ?_
  refine j_if_ne (tgt := 18) x dX6_undo_9 (by decide) (fun hc => ?_) (fun hc => absurd hc (by rw [jm_n (by omega), h3]; exact nI_ne0 (by omega) (by omega)))
  refine j_aload_n x dX6_undo_18 rfl ?_
  refine j_dup x dX6_undo_19 rfl ?_
  refine j2_geti (k := 3) x hb dX6_undo_20 jc_10 wfX6_42 (by decide) rfl ?_
  refine j_iconst (v := 1) x dX6_undo_23 (by decide) ?_
  refine j_isub x dX6_undo_24 ?_; rw [jm_n (by omega), h3, nI_pred]
  refine j2_puti (k := 3) x hb dX6_undo_25 jc_10 wfX6_42 (by decide) rfl rfl rfl rfl ?_
  refine j_iconst (v := 0) x dX6_undo_28 (by decide) ?_
  refine j_istore_n x dX6_undo_29 (by decide) rfl ?_
  refine j2_cpl 97 (466 * k) 95 0 466 (fun j => [some (.ref 94), some (.int (nI j))]) (Or.inl (by decide)) rfl (fun j hj M1 hM ih => ?_) ?_
  · have h9 : M1 94 3 = nI k := by rw [hM, jcp_n (by omega), jm_s]
    have hix : (466 : Int32) * M1 94 3 + nI j = nI (466 * k + j) := by rw [h9, ← nI_add]; congr 1; exact (Int32.ofNat_mul 466 k).symm
    refine j_iload_n x dX6_undo_30 rfl ?_
    refine j_sipush (v := 466) x dX6_undo_31 (by decide) ?_
    refine j_icmp_ge (tgt := 64) x dX6_undo_34 (by decide) (fun hc => absurd hc (nI_ge (b := 466) hj (by decide))) (fun hc => ?_)
    refine j_aload_n x dX6_undo_37 rfl ?_
    refine j2_getr (k := 0) (r := 95) x hb dX6_undo_38 jc_10 wfX6_9 (by decide) rfl ?_
    refine j_iload_n x dX6_undo_41 rfl ?_
    refine j_aload_n x dX6_undo_42 rfl ?_
    refine j2_getr (k := 2) (r := 97) x hb dX6_undo_43 jc_10 wfX6_16 (by decide) rfl ?_
    refine j_sipush (v := 466) x dX6_undo_46 (by decide) ?_
    refine j_aload_n x dX6_undo_49 rfl ?_
    refine j2_geti (k := 3) x hb dX6_undo_50 jc_10 wfX6_42 (by decide) rfl ?_
    refine j_imul x dX6_undo_53 ?_
    refine j_iload_n x dX6_undo_54 rfl ?_
    refine j_iadd x dX6_undo_55 ?_
    refine j2_ialn x hb dX6_undo_56 fa_97 (j := 466 * k + j) (by rw [hix]; exact vp_in_nI (by omega) (by decide)) (by rw [hix]; exact nI_clamp (by omega)) ?_
    refine j2_iasn x hb dX6_undo_57 fa_95 (j := j) (vp_in_nI (by omega) (by decide)) (nI_clamp (by omega)) ?_
    refine j_iinc x dX6_undo_58 rfl (by decide) rfl ?_
    refine j_goto (tgt := 30) x dX6_undo_61 (by decide) ?_
    have h9 := ih
    simp only [Nat.zero_add] at h9
    rw [← nI_1 j] at h9
    exact h9
  refine j_iload_n x dX6_undo_30 rfl ?_
  refine j_sipush (v := 466) x dX6_undo_31 (by decide) ?_
  refine j_icmp_ge (tgt := 64) x dX6_undo_34 (by decide) (fun hc => ?_) (fun hc => absurd (nI_le (Nat.le_refl 466) (by decide)) hc)
  refine j_aload_n x dX6_undo_64 rfl ?_
  refine j2_geti (k := 3) x hb dX6_undo_65 jc_10 wfX6_42 (by decide) rfl ?_
  exact j_ireturn x hr dX6_undo_68 (by omega) (by omega) ⟨by rw [jcp_n (by omega), jm_s], rfl⟩
def gRest (M : MM) : MM := jm (jcp (jm M 94 19 0) 98 0 95 0 466) 94 3 0
theorem cx_restore_ok {d : Nat} {b : SBt} {Y : OUt} {M : MM} (hb : 104 ≤ b.2.1) (h5 : ¬ M 94 5 = 0) : CM (d + 1) 0 0 yX6_restore cX6_restore 2 (some .int) [.ref 94] b Y M (.inl (some (.int (gRest M 95 0)))) (gRest M) := by
  refine Con.of (by decide +kernel) (Nat.le_of_ble_eq_true rfl) rfl fun p l e s m args below meth c D tyc A ad0 x hr htab hname => ?_
  change JJ _ _ _ _ _ _ _ _ _ _ _ _ _ _ _ _ _ 0 [some (.ref 94), none] [] _ 0 0
  refine j_aload_n x dX6_restore_0 rfl ?_
  refine j_iconst (v := 0) x dX6_restore_1 (by decide) ?_
  refine j2_puti (k := 19) x hb dX6_restore_2 jc_10 wfX6_36 (by decide) rfl rfl rfl rfl ?_
  refine j_aload_n x dX6_restore_5 rfl ?_
  refine j2_geti (k := 5) x hb dX6_restore_6 jc_10 wfX6_224 (by decide) rfl ?_
  refine j_if_ne (tgt := 18) x dX6_restore_9 (by decide) (fun hc => ?_) (fun hc => absurd hc ((by rw [jm_n (by omega)]; exact h5)))
  refine j_iconst (v := 0) x dX6_restore_18 (by decide) ?_
  refine j_istore_n x dX6_restore_19 (by decide) rfl ?_
  refine j2_cpl 98 0 95 0 466 (fun j => [some (.ref 94), some (.int (nI j))]) (Or.inl (by decide)) rfl (fun j hj M1 hM ih => ?_) ?_
  · refine j_iload_n x dX6_restore_20 rfl ?_
    refine j_sipush (v := 466) x dX6_restore_21 (by decide) ?_
    refine j_icmp_ge (tgt := 45) x dX6_restore_24 (by decide) (fun hc => absurd hc (nI_ge (b := 466) hj (by decide))) (fun hc => ?_)
    refine j_aload_n x dX6_restore_27 rfl ?_
    refine j2_getr (k := 0) (r := 95) x hb dX6_restore_28 jc_10 wfX6_9 (by decide) rfl ?_
    refine j_iload_n x dX6_restore_31 rfl ?_
    refine j_aload_n x dX6_restore_32 rfl ?_
    refine j2_getr (k := 4) (r := 98) x hb dX6_restore_33 jc_10 wfX6_19 (by decide) rfl ?_
    refine j_iload_n x dX6_restore_36 rfl ?_
    refine j2_ialn x hb dX6_restore_37 fa_98 (j := j) (vp_in_nI (by omega) (by decide)) (nI_clamp (by omega)) ?_
    refine j2_iasn x hb dX6_restore_38 fa_95 (j := j) (vp_in_nI (by omega) (by decide)) (nI_clamp (by omega)) ?_
    refine j_iinc x dX6_restore_39 rfl (by decide) rfl ?_
    refine j_goto (tgt := 20) x dX6_restore_42 (by decide) ?_
    have h9 := ih
    simp only [Nat.zero_add] at h9
    rw [← nI_1 j] at h9
    exact h9
  refine j_iload_n x dX6_restore_20 rfl ?_
  refine j_sipush (v := 466) x dX6_restore_21 (by decide) ?_
  refine j_icmp_ge (tgt := 45) x dX6_restore_24 (by decide) (fun hc => ?_) (fun hc => absurd (nI_le (Nat.le_refl 466) (by decide)) hc)
  refine j_aload_n x dX6_restore_45 rfl ?_
  refine j_iconst (v := 0) x dX6_restore_46 (by decide) ?_
  refine j2_puti (k := 3) x hb dX6_restore_47 jc_10 wfX6_42 (by decide) rfl rfl rfl rfl ?_
  refine j_aload_n x dX6_restore_50 rfl ?_
  refine j2_getr (k := 0) (r := 95) x hb dX6_restore_51 jc_10 wfX6_9 (by decide) rfl ?_
  refine j_iconst (v := 0) x dX6_restore_54 (by decide) ?_
  refine j2_ialn x hb dX6_restore_55 fa_95 (j := 0) (vp_c (by decide)) (by decide) ?_
  exact j_ireturn x hr dX6_restore_56 (by omega) (by omega) ⟨rfl, rfl⟩
theorem cx_append_full {d : Nat} {b : SBt} {Y : OUt} {M : MM} (hb : 104 ≤ b.2.1) {v : Int32} (h9 : M 94 9 = 60) : CM (d + 1) 0 0 yX6_append cX6_append 2 (some .int) [.ref 94, .int v] b Y M (.inl (some (.int (0)))) (jrai (jm M 94 19 0) 1) := by
  refine Con.of (by decide +kernel) (Nat.le_of_ble_eq_true rfl) rfl fun p l e s m args below meth c D tyc A ad0 x hr htab hname => ?_
  change JJ _ _ _ _ _ _ _ _ _ _ _ _ _ _ _ _ _ 0 [some (.ref 94), some (.int v)] [] _ 0 0
  refine j_aload_n x dX6_append_0 rfl ?_
  refine j_iconst (v := 0) x dX6_append_1 (by decide) ?_
  refine j2_puti (k := 19) x hb dX6_append_2 jc_10 wfX6_36 (by decide) rfl rfl rfl rfl ?_
  refine j_aload_n x dX6_append_5 rfl ?_
  refine j2_geti (k := 9) x hb dX6_append_6 jc_10 wfX6_185 (by decide) rfl ?_
  refine j_bipush (v := 60) x dX6_append_9 (by decide) ?_
  refine j_icmp_ne (tgt := 20) x dX6_append_11 (by decide) (fun hc => absurd hc (fun q => q (by rw [jm_n (by omega)]; exact h9))) (fun hc => ?_)
  refine j_aload_n x dX6_append_14 rfl ?_
  refine j_iconst (v := 1) x dX6_append_15 (by decide) ?_
  refine j2_callVi x hb dX6_append_16 m_X6_raises (cx_raises (d := d) hb) wmX6_61 jc_10 rfl rfl rfl (Nat.le_of_ble_eq_true rfl) (j_fit_rm (by omega) (by omega) (by omega)) rfl ?_
  exact j_ireturn x hr dX6_append_19 (by omega) (by omega) ⟨rfl, rfl⟩
theorem cx_reason_k0 {d : Nat} {b : SBt} {Y : OUt} {M : MM} (hb : 104 ≤ b.2.1) (h0 : ¬ M 94 14 = 0) : CM (d + 1) 0 0 yX6_reason cX6_reason 2 (some .int) [.ref 94, .int 0] b Y M (.inl (some (.int ((jm M 94 19 0) 94 14)))) ((jm M 94 19 0)) := by
  refine Con.of (by decide +kernel) (Nat.le_of_ble_eq_true rfl) rfl fun p l e s m args below meth c D tyc A ad0 x hr htab hname => ?_
  change JJ _ _ _ _ _ _ _ _ _ _ _ _ _ _ _ _ _ 0 [some (.ref 94), some (.int 0)] [] _ 0 0
  refine j_aload_n x dX6_reason_0 rfl ?_
  refine j_iconst (v := 0) x dX6_reason_1 (by decide) ?_
  refine j2_puti (k := 19) x hb dX6_reason_2 jc_10 wfX6_36 (by decide) rfl rfl rfl rfl ?_
  refine j_iload_n x dX6_reason_5 rfl ?_
  refine j_iconst (v := 0) x dX6_reason_6 (by decide) ?_
  refine j_iconst (v := 2) x dX6_reason_7 (by decide) ?_
  refine j2_callSi x hb dX6_reason_8 m_X6_in (CM_v (cx_in (d := d) hb) (jb_t (by decide))) wmX6_64 rfl (Nat.le_of_ble_eq_true rfl) (j_fit_rm (by omega) (by omega) (by omega)) rfl ?_
  refine j_if_ne (tgt := 20) x dX6_reason_11 (by decide) (fun hc => ?_) (fun hc => absurd hc (by decide))
  refine j_aload_n x dX6_reason_20 rfl ?_
  refine j2_geti (k := 14) x hb dX6_reason_21 jc_10 wfX6_45 (by decide) rfl ?_
  refine j_if_ne (tgt := 33) x dX6_reason_24 (by decide) (fun hc => ?_) (fun hc => absurd hc ((by rw [jm_n (by omega)]; exact h0)))
  refine j_iload_n x dX6_reason_33 rfl ?_
  refine j_if_ne (tgt := 44) x dX6_reason_34 (by decide) (fun hc => absurd hc (fun q => q rfl)) (fun hc => ?_)
  refine j_aload_n x dX6_reason_37 rfl ?_
  refine j2_geti (k := 14) x hb dX6_reason_38 jc_10 wfX6_45 (by decide) rfl ?_
  refine j_goto (tgt := 60) x dX6_reason_41 (by decide) ?_
  exact j_ireturn x hr dX6_reason_60 (by omega) (by omega) ⟨rfl, rfl⟩
theorem cx_reason_k1 {d : Nat} {b : SBt} {Y : OUt} {M : MM} (hb : 104 ≤ b.2.1) (h0 : ¬ M 94 14 = 0) : CM (d + 1) 0 0 yX6_reason cX6_reason 2 (some .int) [.ref 94, .int 1] b Y M (.inl (some (.int ((jm M 94 19 0) 94 15)))) ((jm M 94 19 0)) := by
  refine Con.of (by decide +kernel) (Nat.le_of_ble_eq_true rfl) rfl fun p l e s m args below meth c D tyc A ad0 x hr htab hname => ?_
  change JJ _ _ _ _ _ _ _ _ _ _ _ _ _ _ _ _ _ 0 [some (.ref 94), some (.int 1)] [] _ 0 0
  refine j_aload_n x dX6_reason_0 rfl ?_
  refine j_iconst (v := 0) x dX6_reason_1 (by decide) ?_
  refine j2_puti (k := 19) x hb dX6_reason_2 jc_10 wfX6_36 (by decide) rfl rfl rfl rfl ?_
  refine j_iload_n x dX6_reason_5 rfl ?_
  refine j_iconst (v := 0) x dX6_reason_6 (by decide) ?_
  refine j_iconst (v := 2) x dX6_reason_7 (by decide) ?_
  refine j2_callSi x hb dX6_reason_8 m_X6_in (CM_v (cx_in (d := d) hb) (jb_t (by decide))) wmX6_64 rfl (Nat.le_of_ble_eq_true rfl) (j_fit_rm (by omega) (by omega) (by omega)) rfl ?_
  refine j_if_ne (tgt := 20) x dX6_reason_11 (by decide) (fun hc => ?_) (fun hc => absurd hc (by decide))
  refine j_aload_n x dX6_reason_20 rfl ?_
  refine j2_geti (k := 14) x hb dX6_reason_21 jc_10 wfX6_45 (by decide) rfl ?_
  refine j_if_ne (tgt := 33) x dX6_reason_24 (by decide) (fun hc => ?_) (fun hc => absurd hc ((by rw [jm_n (by omega)]; exact h0)))
  refine j_iload_n x dX6_reason_33 rfl ?_
  refine j_if_ne (tgt := 44) x dX6_reason_34 (by decide) (fun hc => ?_) (fun hc => absurd hc (by decide))
  refine j_iload_n x dX6_reason_44 rfl ?_
  refine j_iconst (v := 1) x dX6_reason_45 (by decide) ?_
  refine j_icmp_ne (tgt := 56) x dX6_reason_46 (by decide) (fun hc => absurd hc (fun q => q rfl)) (fun hc => ?_)
  refine j_aload_n x dX6_reason_49 rfl ?_
  refine j2_geti (k := 15) x hb dX6_reason_50 jc_10 wfX6_48 (by decide) rfl ?_
  refine j_goto (tgt := 60) x dX6_reason_53 (by decide) ?_
  exact j_ireturn x hr dX6_reason_60 (by omega) (by omega) ⟨rfl, rfl⟩
theorem cx_reason_k2 {d : Nat} {b : SBt} {Y : OUt} {M : MM} (hb : 104 ≤ b.2.1) (h0 : ¬ M 94 14 = 0) : CM (d + 1) 0 0 yX6_reason cX6_reason 2 (some .int) [.ref 94, .int 2] b Y M (.inl (some (.int ((jm M 94 19 0) 94 17)))) ((jm M 94 19 0)) := by
  refine Con.of (by decide +kernel) (Nat.le_of_ble_eq_true rfl) rfl fun p l e s m args below meth c D tyc A ad0 x hr htab hname => ?_
  change JJ _ _ _ _ _ _ _ _ _ _ _ _ _ _ _ _ _ 0 [some (.ref 94), some (.int 2)] [] _ 0 0
  refine j_aload_n x dX6_reason_0 rfl ?_
  refine j_iconst (v := 0) x dX6_reason_1 (by decide) ?_
  refine j2_puti (k := 19) x hb dX6_reason_2 jc_10 wfX6_36 (by decide) rfl rfl rfl rfl ?_
  refine j_iload_n x dX6_reason_5 rfl ?_
  refine j_iconst (v := 0) x dX6_reason_6 (by decide) ?_
  refine j_iconst (v := 2) x dX6_reason_7 (by decide) ?_
  refine j2_callSi x hb dX6_reason_8 m_X6_in (CM_v (cx_in (d := d) hb) (jb_t (by decide))) wmX6_64 rfl (Nat.le_of_ble_eq_true rfl) (j_fit_rm (by omega) (by omega) (by omega)) rfl ?_
  refine j_if_ne (tgt := 20) x dX6_reason_11 (by decide) (fun hc => ?_) (fun hc => absurd hc (by decide))
  refine j_aload_n x dX6_reason_20 rfl ?_
  refine j2_geti (k := 14) x hb dX6_reason_21 jc_10 wfX6_45 (by decide) rfl ?_
  refine j_if_ne (tgt := 33) x dX6_reason_24 (by decide) (fun hc => ?_) (fun hc => absurd hc ((by rw [jm_n (by omega)]; exact h0)))
  refine j_iload_n x dX6_reason_33 rfl ?_
  refine j_if_ne (tgt := 44) x dX6_reason_34 (by decide) (fun hc => ?_) (fun hc => absurd hc (by decide))
  refine j_iload_n x dX6_reason_44 rfl ?_
  refine j_iconst (v := 1) x dX6_reason_45 (by decide) ?_
  refine j_icmp_ne (tgt := 56) x dX6_reason_46 (by decide) (fun hc => ?_) (fun hc => absurd hc (by decide))
  refine j_aload_n x dX6_reason_56 rfl ?_
  refine j2_geti (k := 17) x hb dX6_reason_57 jc_10 wfX6_51 (by decide) rfl ?_
  exact j_ireturn x hr dX6_reason_60 (by omega) (by omega) ⟨rfl, rfl⟩
theorem cx_teamOf_nt {d : Nat} {b : SBt} {Y : OUt} {M : MM} (hb : 104 ≤ b.2.1) {t u : Int32} (hT : ¬ (¬ t < 0 ∧ ¬ M 95 0 - 1 < t)) : CM (d + 2) 0 0 yX6_teamOf cX6_teamOf 3 (some .int) [.ref 94, .int t, .int u] b Y M (.inl (some (.int (0)))) (jrai (jm M 94 19 0) 1) := by
  refine Con.of (by decide +kernel) (Nat.le_of_ble_eq_true rfl) rfl fun p l e s m args below meth c D tyc A ad0 x hr htab hname => ?_
  change JJ _ _ _ _ _ _ _ _ _ _ _ _ _ _ _ _ _ 0 [some (.ref 94), some (.int t), some (.int u)] [] _ 0 0
  refine j_aload_n x dX6_teamOf_0 rfl ?_
  refine j_iconst (v := 0) x dX6_teamOf_1 (by decide) ?_
  refine j2_puti (k := 19) x hb dX6_teamOf_2 jc_10 wfX6_36 (by decide) rfl rfl rfl rfl ?_
  refine j_aload_n x dX6_teamOf_5 rfl ?_
  refine j_iload_n x dX6_teamOf_6 rfl ?_
  refine j2_callVi x hb dX6_teamOf_7 m_X6_isTeam (CM_v (cx_isTeam (d := d) hb) (jb_f (by rw [jm_n (by omega)]; exact hT))) wmX6_91 jc_10 rfl rfl rfl (Nat.le_of_ble_eq_true rfl) (j_fit_rm (by omega) (by omega) (by omega)) rfl ?_
  refine j_if_ne (tgt := 19) x dX6_teamOf_10 (by decide) (fun hc => absurd hc (fun q => q rfl)) (fun hc => ?_)
  refine j_aload_n x dX6_teamOf_13 rfl ?_
  refine j_iconst (v := 1) x dX6_teamOf_14 (by decide) ?_
  refine j2_callVi x hb dX6_teamOf_15 m_X6_raises (cx_raises (d := d) hb) wmX6_61 jc_10 rfl rfl rfl (Nat.le_of_ble_eq_true rfl) (j_fit_rm (by omega) (by omega) (by omega)) rfl ?_
  exact j_ireturn x hr dX6_teamOf_18 (by omega) (by omega) ⟨rfl, rfl⟩
theorem cx_pointsAgain_nt {d : Nat} {b : SBt} {Y : OUt} {M : MM} (hb : 104 ≤ b.2.1) {t : Int32} (hT : ¬ (¬ t < 0 ∧ ¬ M 95 0 - 1 < t)) : CM (d + 2) 0 0 yX6_pointsAgain cX6_pointsAgain 2 (some .int) [.ref 94, .int t] b Y M (.inl (some (.int (0)))) (jrai (jm M 94 19 0) 1) := by
  refine Con.of (by decide +kernel) (Nat.le_of_ble_eq_true rfl) rfl fun p l e s m args below meth c D tyc A ad0 x hr htab hname => ?_
  change JJ _ _ _ _ _ _ _ _ _ _ _ _ _ _ _ _ _ 0 [some (.ref 94), some (.int t)] [] _ 0 0
  refine j_aload_n x dX6_pointsAgain_0 rfl ?_
  refine j_iconst (v := 0) x dX6_pointsAgain_1 (by decide) ?_
  refine j2_puti (k := 19) x hb dX6_pointsAgain_2 jc_10 wfX6_36 (by decide) rfl rfl rfl rfl ?_
  refine j_aload_n x dX6_pointsAgain_5 rfl ?_
  refine j_iload_n x dX6_pointsAgain_6 rfl ?_
  refine j2_callVi x hb dX6_pointsAgain_7 m_X6_isTeam (CM_v (cx_isTeam (d := d) hb) (jb_f (by rw [jm_n (by omega)]; exact hT))) wmX6_91 jc_10 rfl rfl rfl (Nat.le_of_ble_eq_true rfl) (j_fit_rm (by omega) (by omega) (by omega)) rfl ?_
  refine j_if_eq (tgt := 22) x dX6_pointsAgain_10 (by decide) (fun hc => ?_) (fun hc => absurd (rfl) hc)
  refine j_aload_n x dX6_pointsAgain_22 rfl ?_
  refine j_iconst (v := 1) x dX6_pointsAgain_23 (by decide) ?_
  refine j2_callVi x hb dX6_pointsAgain_24 m_X6_raises (cx_raises (d := d) hb) wmX6_61 jc_10 rfl rfl rfl (Nat.le_of_ble_eq_true rfl) (j_fit_rm (by omega) (by omega) (by omega)) rfl ?_
  exact j_ireturn x hr dX6_pointsAgain_27 (by omega) (by omega) ⟨rfl, rfl⟩
theorem cx_placeOf_nt {d : Nat} {b : SBt} {Y : OUt} {M : MM} (hb : 104 ≤ b.2.1) {t : Int32} (hT : ¬ (¬ t < 0 ∧ ¬ M 95 0 - 1 < t)) : CM (d + 2) 0 0 yX6_placeOf cX6_placeOf 2 (some .int) [.ref 94, .int t] b Y M (.inl (some (.int (0)))) (jrai (jm M 94 19 0) 1) := by
  refine Con.of (by decide +kernel) (Nat.le_of_ble_eq_true rfl) rfl fun p l e s m args below meth c D tyc A ad0 x hr htab hname => ?_
  change JJ _ _ _ _ _ _ _ _ _ _ _ _ _ _ _ _ _ 0 [some (.ref 94), some (.int t)] [] _ 0 0
  refine j_aload_n x dX6_placeOf_0 rfl ?_
  refine j_iconst (v := 0) x dX6_placeOf_1 (by decide) ?_
  refine j2_puti (k := 19) x hb dX6_placeOf_2 jc_10 wfX6_36 (by decide) rfl rfl rfl rfl ?_
  refine j_aload_n x dX6_placeOf_5 rfl ?_
  refine j_iload_n x dX6_placeOf_6 rfl ?_
  refine j2_callVi x hb dX6_placeOf_7 m_X6_isTeam (CM_v (cx_isTeam (d := d) hb) (jb_f (by rw [jm_n (by omega)]; exact hT))) wmX6_91 jc_10 rfl rfl rfl (Nat.le_of_ble_eq_true rfl) (j_fit_rm (by omega) (by omega) (by omega)) rfl ?_
  refine j_if_eq (tgt := 21) x dX6_placeOf_10 (by decide) (fun hc => ?_) (fun hc => absurd (rfl) hc)
  refine j_aload_n x dX6_placeOf_21 rfl ?_
  refine j_iconst (v := 1) x dX6_placeOf_22 (by decide) ?_
  refine j2_callVi x hb dX6_placeOf_23 m_X6_raises (cx_raises (d := d) hb) wmX6_61 jc_10 rfl rfl rfl (Nat.le_of_ble_eq_true rfl) (j_fit_rm (by omega) (by omega) (by omega)) rfl ?_
  exact j_ireturn x hr dX6_placeOf_26 (by omega) (by omega) ⟨rfl, rfl⟩
theorem cx_valueOf_nt {d : Nat} {b : SBt} {Y : OUt} {M : MM} (hb : 104 ≤ b.2.1) {t u : Int32} (hT : ¬ (¬ t < 0 ∧ ¬ M 95 0 - 1 < t)) : CM (d + 2) 0 0 yX6_valueOf cX6_valueOf 3 (some .int) [.ref 94, .int t, .int u] b Y M (.inl (some (.int (0)))) (jrai (jm M 94 19 0) 1) := by
  refine Con.of (by decide +kernel) (Nat.le_of_ble_eq_true rfl) rfl fun p l e s m args below meth c D tyc A ad0 x hr htab hname => ?_
  change JJ _ _ _ _ _ _ _ _ _ _ _ _ _ _ _ _ _ 0 [some (.ref 94), some (.int t), some (.int u)] [] _ 0 0
  refine j_aload_n x dX6_valueOf_0 rfl ?_
  refine j_iconst (v := 0) x dX6_valueOf_1 (by decide) ?_
  refine j2_puti (k := 19) x hb dX6_valueOf_2 jc_10 wfX6_36 (by decide) rfl rfl rfl rfl ?_
  refine j_aload_n x dX6_valueOf_5 rfl ?_
  refine j_iload_n x dX6_valueOf_6 rfl ?_
  refine j2_callVi x hb dX6_valueOf_7 m_X6_isTeam (CM_v (cx_isTeam (d := d) hb) (jb_f (by rw [jm_n (by omega)]; exact hT))) wmX6_91 jc_10 rfl rfl rfl (Nat.le_of_ble_eq_true rfl) (j_fit_rm (by omega) (by omega) (by omega)) rfl ?_
  refine j_if_ne (tgt := 19) x dX6_valueOf_10 (by decide) (fun hc => absurd hc (fun q => q rfl)) (fun hc => ?_)
  refine j_aload_n x dX6_valueOf_13 rfl ?_
  refine j_iconst (v := 1) x dX6_valueOf_14 (by decide) ?_
  refine j2_callVi x hb dX6_valueOf_15 m_X6_raises (cx_raises (d := d) hb) wmX6_61 jc_10 rfl rfl rfl (Nat.le_of_ble_eq_true rfl) (j_fit_rm (by omega) (by omega) (by omega)) rfl ?_
  exact j_ireturn x hr dX6_valueOf_18 (by omega) (by omega) ⟨rfl, rfl⟩
theorem cx_tied_nt {d : Nat} {b : SBt} {Y : OUt} {M : MM} (hb : 104 ≤ b.2.1) {t : Int32} (hT : ¬ (¬ t < 0 ∧ ¬ M 95 0 - 1 < t)) : CM (d + 2) 0 0 yX6_tied cX6_tied 2 (some .int) [.ref 94, .int t] b Y M (.inl (some (.int (0)))) (jrai (jm M 94 19 0) 1) := by
  refine Con.of (by decide +kernel) (Nat.le_of_ble_eq_true rfl) rfl fun p l e s m args below meth c D tyc A ad0 x hr htab hname => ?_
  change JJ _ _ _ _ _ _ _ _ _ _ _ _ _ _ _ _ _ 0 [some (.ref 94), some (.int t)] [] _ 0 0
  refine j_aload_n x dX6_tied_0 rfl ?_
  refine j_iconst (v := 0) x dX6_tied_1 (by decide) ?_
  refine j2_puti (k := 19) x hb dX6_tied_2 jc_10 wfX6_36 (by decide) rfl rfl rfl rfl ?_
  refine j_aload_n x dX6_tied_5 rfl ?_
  refine j_iload_n x dX6_tied_6 rfl ?_
  refine j2_callVi x hb dX6_tied_7 m_X6_isTeam (CM_v (cx_isTeam (d := d) hb) (jb_f (by rw [jm_n (by omega)]; exact hT))) wmX6_91 jc_10 rfl rfl rfl (Nat.le_of_ble_eq_true rfl) (j_fit_rm (by omega) (by omega) (by omega)) rfl ?_
  refine j_if_eq (tgt := 21) x dX6_tied_10 (by decide) (fun hc => ?_) (fun hc => absurd (rfl) hc)
  refine j_aload_n x dX6_tied_21 rfl ?_
  refine j_iconst (v := 1) x dX6_tied_22 (by decide) ?_
  refine j2_callVi x hb dX6_tied_23 m_X6_raises (cx_raises (d := d) hb) wmX6_61 jc_10 rfl rfl rfl (Nat.le_of_ble_eq_true rfl) (j_fit_rm (by omega) (by omega) (by omega)) rfl ?_
  exact j_ireturn x hr dX6_tied_26 (by omega) (by omega) ⟨rfl, rfl⟩
theorem cx_most_nt {d : Nat} {b : SBt} {Y : OUt} {M : MM} (hb : 104 ≤ b.2.1) {t : Int32} (hT : ¬ (¬ t < 0 ∧ ¬ M 95 0 - 1 < t)) : CM (d + 2) 0 0 yX6_most cX6_most 2 (some .int) [.ref 94, .int t] b Y M (.inl (some (.int (0)))) (jrai (jm M 94 19 0) 1) := by
  refine Con.of (by decide +kernel) (Nat.le_of_ble_eq_true rfl) rfl fun p l e s m args below meth c D tyc A ad0 x hr htab hname => ?_
  change JJ _ _ _ _ _ _ _ _ _ _ _ _ _ _ _ _ _ 0 [some (.ref 94), some (.int t)] [] _ 0 0
  refine j_aload_n x dX6_most_0 rfl ?_
  refine j_iconst (v := 0) x dX6_most_1 (by decide) ?_
  refine j2_puti (k := 19) x hb dX6_most_2 jc_10 wfX6_36 (by decide) rfl rfl rfl rfl ?_
  refine j_aload_n x dX6_most_5 rfl ?_
  refine j_iload_n x dX6_most_6 rfl ?_
  refine j2_callVi x hb dX6_most_7 m_X6_isTeam (CM_v (cx_isTeam (d := d) hb) (jb_f (by rw [jm_n (by omega)]; exact hT))) wmX6_91 jc_10 rfl rfl rfl (Nat.le_of_ble_eq_true rfl) (j_fit_rm (by omega) (by omega) (by omega)) rfl ?_
  refine j_if_eq (tgt := 21) x dX6_most_10 (by decide) (fun hc => ?_) (fun hc => absurd (rfl) hc)
  refine j_aload_n x dX6_most_21 rfl ?_
  refine j_iconst (v := 1) x dX6_most_22 (by decide) ?_
  refine j2_callVi x hb dX6_most_23 m_X6_raises (cx_raises (d := d) hb) wmX6_61 jc_10 rfl rfl rfl (Nat.le_of_ble_eq_true rfl) (j_fit_rm (by omega) (by omega) (by omega)) rfl ?_
  exact j_ireturn x hr dX6_most_26 (by omega) (by omega) ⟨rfl, rfl⟩
theorem cx_run_nt {d : Nat} {b : SBt} {Y : OUt} {M : MM} (hb : 104 ≤ b.2.1) {t : Int32} (hT : ¬ (¬ t < 0 ∧ ¬ M 95 0 - 1 < t)) : CM (d + 2) 0 0 yX6_run cX6_run 8 (some .int) [.ref 94, .int t] b Y M (.inl (some (.int (0)))) (jrai (jm M 94 19 0) 1) := by
  refine Con.of (by decide +kernel) (Nat.le_of_ble_eq_true rfl) rfl fun p l e s m args below meth c D tyc A ad0 x hr htab hname => ?_
  change JJ _ _ _ _ _ _ _ _ _ _ _ _ _ _ _ _ _ 0 [some (.ref 94), some (.int t), none, none, none, none, none, none] [] _ 0 0
  refine j_aload_n x dX6_run_0 rfl ?_
  refine j_iconst (v := 0) x dX6_run_1 (by decide) ?_
  refine j2_puti (k := 19) x hb dX6_run_2 jc_10 wfX6_36 (by decide) rfl rfl rfl rfl ?_
  refine j_aload_n x dX6_run_5 rfl ?_
  refine j_iload_n x dX6_run_6 rfl ?_
  refine j2_callVi x hb dX6_run_7 m_X6_isTeam (CM_v (cx_isTeam (d := d) hb) (jb_f (by rw [jm_n (by omega)]; exact hT))) wmX6_91 jc_10 rfl rfl rfl (Nat.le_of_ble_eq_true rfl) (j_fit_rm (by omega) (by omega) (by omega)) rfl ?_
  refine j_if_ne (tgt := 19) x dX6_run_10 (by decide) (fun hc => absurd hc (fun q => q rfl)) (fun hc => ?_)
  refine j_aload_n x dX6_run_13 rfl ?_
  refine j_iconst (v := 1) x dX6_run_14 (by decide) ?_
  refine j2_callVi x hb dX6_run_15 m_X6_raises (cx_raises (d := d) hb) wmX6_61 jc_10 rfl rfl rfl (Nat.le_of_ble_eq_true rfl) (j_fit_rm (by omega) (by omega) (by omega)) rfl ?_
  exact j_ireturn x hr dX6_run_18 (by omega) (by omega) ⟨rfl, rfl⟩
theorem cx_line_nt {d : Nat} {b : SBt} {Y : OUt} {M : MM} (hb : 104 ≤ b.2.1) {t : Int32} (hT : ¬ (¬ t < 0 ∧ ¬ M 95 0 - 1 < t)) : CM (d + 2) 0 0 yX6_line cX6_line 3 (some .int) [.ref 94, .int t] b Y M (.inl (some (.int (0)))) (jrai (jm M 94 19 0) 1) := by
  refine Con.of (by decide +kernel) (Nat.le_of_ble_eq_true rfl) rfl fun p l e s m args below meth c D tyc A ad0 x hr htab hname => ?_
  change JJ _ _ _ _ _ _ _ _ _ _ _ _ _ _ _ _ _ 0 [some (.ref 94), some (.int t), none] [] _ 0 0
  refine j_aload_n x dX6_line_0 rfl ?_
  refine j_iconst (v := 0) x dX6_line_1 (by decide) ?_
  refine j2_puti (k := 19) x hb dX6_line_2 jc_10 wfX6_36 (by decide) rfl rfl rfl rfl ?_
  refine j_aload_n x dX6_line_5 rfl ?_
  refine j_iload_n x dX6_line_6 rfl ?_
  refine j2_callVi x hb dX6_line_7 m_X6_isTeam (CM_v (cx_isTeam (d := d) hb) (jb_f (by rw [jm_n (by omega)]; exact hT))) wmX6_91 jc_10 rfl rfl rfl (Nat.le_of_ble_eq_true rfl) (j_fit_rm (by omega) (by omega) (by omega)) rfl ?_
  refine j_if_ne (tgt := 19) x dX6_line_10 (by decide) (fun hc => absurd hc (fun q => q rfl)) (fun hc => ?_)
  refine j_aload_n x dX6_line_13 rfl ?_
  refine j_iconst (v := 1) x dX6_line_14 (by decide) ?_
  refine j2_callVi x hb dX6_line_15 m_X6_raises (cx_raises (d := d) hb) wmX6_61 jc_10 rfl rfl rfl (Nat.le_of_ble_eq_true rfl) (j_fit_rm (by omega) (by omega) (by omega)) rfl ?_
  exact j_ireturn x hr dX6_line_18 (by omega) (by omega) ⟨rfl, rfl⟩
theorem cx_meetingOf_nt {d : Nat} {b : SBt} {Y : OUt} {M : MM} (hb : 104 ≤ b.2.1) {t u : Int32} (hT : ¬ (¬ t < 0 ∧ ¬ M 95 9 - 1 < t)) : CM (d + 2) 0 0 yX6_meetingOf cX6_meetingOf 3 (some .int) [.ref 94, .int t, .int u] b Y M (.inl (some (.int (0)))) (jrai (jm M 94 19 0) 1) := by
  refine Con.of (by decide +kernel) (Nat.le_of_ble_eq_true rfl) rfl fun p l e s m args below meth c D tyc A ad0 x hr htab hname => ?_
  change JJ _ _ _ _ _ _ _ _ _ _ _ _ _ _ _ _ _ 0 [some (.ref 94), some (.int t), some (.int u)] [] _ 0 0
  refine j_aload_n x dX6_meetingOf_0 rfl ?_
  refine j_iconst (v := 0) x dX6_meetingOf_1 (by decide) ?_
  refine j2_puti (k := 19) x hb dX6_meetingOf_2 jc_10 wfX6_36 (by decide) rfl rfl rfl rfl ?_
  refine j_aload_n x dX6_meetingOf_5 rfl ?_
  refine j_iload_n x dX6_meetingOf_6 rfl ?_
  refine j2_callVi x hb dX6_meetingOf_7 m_X6_isMeeting (CM_v (cx_isMeeting (d := d) hb) (jb_f (by rw [jm_n (by omega)]; exact hT))) wmX6_122 jc_10 rfl rfl rfl (Nat.le_of_ble_eq_true rfl) (j_fit_rm (by omega) (by omega) (by omega)) rfl ?_
  refine j_if_ne (tgt := 19) x dX6_meetingOf_10 (by decide) (fun hc => absurd hc (fun q => q rfl)) (fun hc => ?_)
  refine j_aload_n x dX6_meetingOf_13 rfl ?_
  refine j_iconst (v := 1) x dX6_meetingOf_14 (by decide) ?_
  refine j2_callVi x hb dX6_meetingOf_15 m_X6_raises (cx_raises (d := d) hb) wmX6_61 jc_10 rfl rfl rfl (Nat.le_of_ble_eq_true rfl) (j_fit_rm (by omega) (by omega) (by omega)) rfl ?_
  exact j_ireturn x hr dX6_meetingOf_18 (by omega) (by omega) ⟨rfl, rfl⟩
theorem cx_freeWeek_nt {d : Nat} {b : SBt} {Y : OUt} {M : MM} (hb : 104 ≤ b.2.1) {t : Int32} (hT : ¬ (¬ t < 0 ∧ ¬ M 95 9 - 1 < t)) : CM (d + 2) 0 0 yX6_freeWeek cX6_freeWeek 3 (some .int) [.ref 94, .int t] b Y M (.inl (some (.int (0)))) (jrai (jm M 94 19 0) 1) := by
  refine Con.of (by decide +kernel) (Nat.le_of_ble_eq_true rfl) rfl fun p l e s m args below meth c D tyc A ad0 x hr htab hname => ?_
  change JJ _ _ _ _ _ _ _ _ _ _ _ _ _ _ _ _ _ 0 [some (.ref 94), some (.int t), none] [] _ 0 0
  refine j_aload_n x dX6_freeWeek_0 rfl ?_
  refine j_iconst (v := 0) x dX6_freeWeek_1 (by decide) ?_
  refine j2_puti (k := 19) x hb dX6_freeWeek_2 jc_10 wfX6_36 (by decide) rfl rfl rfl rfl ?_
  refine j_aload_n x dX6_freeWeek_5 rfl ?_
  refine j_iload_n x dX6_freeWeek_6 rfl ?_
  refine j2_callVi x hb dX6_freeWeek_7 m_X6_isMeeting (CM_v (cx_isMeeting (d := d) hb) (jb_f (by rw [jm_n (by omega)]; exact hT))) wmX6_122 jc_10 rfl rfl rfl (Nat.le_of_ble_eq_true rfl) (j_fit_rm (by omega) (by omega) (by omega)) rfl ?_
  refine j_if_ne (tgt := 19) x dX6_freeWeek_10 (by decide) (fun hc => absurd hc (fun q => q rfl)) (fun hc => ?_)
  refine j_aload_n x dX6_freeWeek_13 rfl ?_
  refine j_iconst (v := 1) x dX6_freeWeek_14 (by decide) ?_
  refine j2_callVi x hb dX6_freeWeek_15 m_X6_raises (cx_raises (d := d) hb) wmX6_61 jc_10 rfl rfl rfl (Nat.le_of_ble_eq_true rfl) (j_fit_rm (by omega) (by omega) (by omega)) rfl ?_
  exact j_ireturn x hr dX6_freeWeek_18 (by omega) (by omega) ⟨rfl, rfl⟩
theorem cx_byeIn_nt {d : Nat} {b : SBt} {Y : OUt} {M : MM} (hb : 104 ≤ b.2.1) {t : Int32} (hT : ¬ (¬ t < 0 ∧ ¬ M 95 1 - 1 < t)) : CM (d + 2) 0 0 yX6_byeIn cX6_byeIn 2 (some .int) [.ref 94, .int t] b Y M (.inl (some (.int (0)))) (jrai (jm M 94 19 0) 1) := by
  refine Con.of (by decide +kernel) (Nat.le_of_ble_eq_true rfl) rfl fun p l e s m args below meth c D tyc A ad0 x hr htab hname => ?_
  change JJ _ _ _ _ _ _ _ _ _ _ _ _ _ _ _ _ _ 0 [some (.ref 94), some (.int t)] [] _ 0 0
  refine j_aload_n x dX6_byeIn_0 rfl ?_
  refine j_iconst (v := 0) x dX6_byeIn_1 (by decide) ?_
  refine j2_puti (k := 19) x hb dX6_byeIn_2 jc_10 wfX6_36 (by decide) rfl rfl rfl rfl ?_
  refine j_aload_n x dX6_byeIn_5 rfl ?_
  refine j_iload_n x dX6_byeIn_6 rfl ?_
  refine j2_callVi x hb dX6_byeIn_7 m_X6_isWeek (CM_v (cx_isWeek (d := d) hb) (jb_f (by rw [jm_n (by omega)]; exact hT))) wmX6_140 jc_10 rfl rfl rfl (Nat.le_of_ble_eq_true rfl) (j_fit_rm (by omega) (by omega) (by omega)) rfl ?_
  refine j_if_ne (tgt := 19) x dX6_byeIn_10 (by decide) (fun hc => absurd hc (fun q => q rfl)) (fun hc => ?_)
  refine j_aload_n x dX6_byeIn_13 rfl ?_
  refine j_iconst (v := 1) x dX6_byeIn_14 (by decide) ?_
  refine j2_callVi x hb dX6_byeIn_15 m_X6_raises (cx_raises (d := d) hb) wmX6_61 jc_10 rfl rfl rfl (Nat.le_of_ble_eq_true rfl) (j_fit_rm (by omega) (by omega) (by omega)) rfl ?_
  exact j_ireturn x hr dX6_byeIn_18 (by omega) (by omega) ⟨rfl, rfl⟩
theorem cx_meetingsIn_nt {d : Nat} {b : SBt} {Y : OUt} {M : MM} (hb : 104 ≤ b.2.1) {t : Int32} (hT : ¬ (¬ t < 0 ∧ ¬ M 95 1 - 1 < t)) : CM (d + 2) 0 0 yX6_meetingsIn cX6_meetingsIn 4 (some .int) [.ref 94, .int t] b Y M (.inl (some (.int (0)))) (jrai (jm M 94 19 0) 1) := by
  refine Con.of (by decide +kernel) (Nat.le_of_ble_eq_true rfl) rfl fun p l e s m args below meth c D tyc A ad0 x hr htab hname => ?_
  change JJ _ _ _ _ _ _ _ _ _ _ _ _ _ _ _ _ _ 0 [some (.ref 94), some (.int t), none, none] [] _ 0 0
  refine j_aload_n x dX6_meetingsIn_0 rfl ?_
  refine j_iconst (v := 0) x dX6_meetingsIn_1 (by decide) ?_
  refine j2_puti (k := 19) x hb dX6_meetingsIn_2 jc_10 wfX6_36 (by decide) rfl rfl rfl rfl ?_
  refine j_aload_n x dX6_meetingsIn_5 rfl ?_
  refine j_iload_n x dX6_meetingsIn_6 rfl ?_
  refine j2_callVi x hb dX6_meetingsIn_7 m_X6_isWeek (CM_v (cx_isWeek (d := d) hb) (jb_f (by rw [jm_n (by omega)]; exact hT))) wmX6_140 jc_10 rfl rfl rfl (Nat.le_of_ble_eq_true rfl) (j_fit_rm (by omega) (by omega) (by omega)) rfl ?_
  refine j_if_ne (tgt := 19) x dX6_meetingsIn_10 (by decide) (fun hc => absurd hc (fun q => q rfl)) (fun hc => ?_)
  refine j_aload_n x dX6_meetingsIn_13 rfl ?_
  refine j_iconst (v := 1) x dX6_meetingsIn_14 (by decide) ?_
  refine j2_callVi x hb dX6_meetingsIn_15 m_X6_raises (cx_raises (d := d) hb) wmX6_61 jc_10 rfl rfl rfl (Nat.le_of_ble_eq_true rfl) (j_fit_rm (by omega) (by omega) (by omega)) rfl ?_
  exact j_ireturn x hr dX6_meetingsIn_18 (by omega) (by omega) ⟨rfl, rfl⟩
theorem cx_clashes_nt {d : Nat} {b : SBt} {Y : OUt} {M : MM} (hb : 104 ≤ b.2.1) {t : Int32} (hT : ¬ (¬ t < 0 ∧ ¬ M 95 1 - 1 < t)) : CM (d + 2) 0 0 yX6_clashes_ cX6_clashes_ 2 (some .int) [.ref 94, .int t] b Y M (.inl (some (.int (0)))) (jrai (jm M 94 19 0) 1) := by
  refine Con.of (by decide +kernel) (Nat.le_of_ble_eq_true rfl) rfl fun p l e s m args below meth c D tyc A ad0 x hr htab hname => ?_
  change JJ _ _ _ _ _ _ _ _ _ _ _ _ _ _ _ _ _ 0 [some (.ref 94), some (.int t)] [] _ 0 0
  refine j_aload_n x dX6_clashes__0 rfl ?_
  refine j_iconst (v := 0) x dX6_clashes__1 (by decide) ?_
  refine j2_puti (k := 19) x hb dX6_clashes__2 jc_10 wfX6_36 (by decide) rfl rfl rfl rfl ?_
  refine j_aload_n x dX6_clashes__5 rfl ?_
  refine j_iload_n x dX6_clashes__6 rfl ?_
  refine j2_callVi x hb dX6_clashes__7 m_X6_isWeek (CM_v (cx_isWeek (d := d) hb) (jb_f (by rw [jm_n (by omega)]; exact hT))) wmX6_140 jc_10 rfl rfl rfl (Nat.le_of_ble_eq_true rfl) (j_fit_rm (by omega) (by omega) (by omega)) rfl ?_
  refine j_if_eq (tgt := 21) x dX6_clashes__10 (by decide) (fun hc => ?_) (fun hc => absurd (rfl) hc)
  refine j_aload_n x dX6_clashes__21 rfl ?_
  refine j_iconst (v := 1) x dX6_clashes__22 (by decide) ?_
  refine j2_callVi x hb dX6_clashes__23 m_X6_raises (cx_raises (d := d) hb) wmX6_61 jc_10 rfl rfl rfl (Nat.le_of_ble_eq_true rfl) (j_fit_rm (by omega) (by omega) (by omega)) rfl ?_
  exact j_ireturn x hr dX6_clashes__26 (by omega) (by omega) ⟨rfl, rfl⟩
theorem cx_isSafe_nt {d : Nat} {b : SBt} {Y : OUt} {M : MM} (hb : 104 ≤ b.2.1) {t : Int32} (hT : ¬ (¬ t < 0 ∧ ¬ M 95 0 - 1 < t)) : CM (d + 2) 0 0 yX6_isSafe cX6_isSafe 2 (some .boolean) [.ref 94, .int t] b Y M (.inl (some (.int (0)))) (jm M 94 19 1) := by
  refine Con.of (by decide +kernel) (Nat.le_of_ble_eq_true rfl) rfl fun p l e s m args below meth c D tyc A ad0 x hr htab hname => ?_
  change JJ _ _ _ _ _ _ _ _ _ _ _ _ _ _ _ _ _ 0 [some (.ref 94), some (.int t)] [] _ 0 0
  refine j_aload_n x dX6_isSafe_0 rfl ?_
  refine j_aload_n x dX6_isSafe_1 rfl ?_
  refine j_iload_n x dX6_isSafe_2 rfl ?_
  refine j2_callVi x hb dX6_isSafe_3 m_X6_isTeam (CM_v (cx_isTeam (d := d) hb) (jb_f hT)) wmX6_91 jc_10 rfl rfl rfl (Nat.le_of_ble_eq_true rfl) (j_fit_rm (by omega) (by omega) (by omega)) rfl ?_
  refine j_if_eq (tgt := 13) x dX6_isSafe_6 (by decide) (fun hc => ?_) (fun hc => absurd (rfl) hc)
  refine j_iconst (v := 1) x dX6_isSafe_13 (by decide) ?_
  refine j2_puti (k := 19) x hb dX6_isSafe_14 jc_10 wfX6_36 (by decide) rfl rfl rfl rfl ?_
  refine j_aload_n x dX6_isSafe_17 rfl ?_
  refine j2_geti (k := 19) x hb dX6_isSafe_18 jc_10 wfX6_36 (by decide) rfl ?_
  refine j_if_ne (tgt := 36) x dX6_isSafe_21 (by decide) (fun hc => ?_) (fun hc => absurd hc (by rw [jm_s]; decide))
  refine j_iconst (v := 0) x dX6_isSafe_36 (by decide) ?_
  exact j_zreturn x hr dX6_isSafe_37 (by first | decide | with_reducible exact jb_nar | with_reducible exact jisS_nar | with_reducible exact gno_nar) (by omega) (by omega) ⟨rfl, rfl⟩
theorem cx_isOut_nt {d : Nat} {b : SBt} {Y : OUt} {M : MM} (hb : 104 ≤ b.2.1) {t : Int32} (hT : ¬ (¬ t < 0 ∧ ¬ M 95 0 - 1 < t)) : CM (d + 2) 0 0 yX6_isOut cX6_isOut 2 (some .boolean) [.ref 94, .int t] b Y M (.inl (some (.int (0)))) (jm M 94 19 1) := by
  refine Con.of (by decide +kernel) (Nat.le_of_ble_eq_true rfl) rfl fun p l e s m args below meth c D tyc A ad0 x hr htab hname => ?_
  change JJ _ _ _ _ _ _ _ _ _ _ _ _ _ _ _ _ _ 0 [some (.ref 94), some (.int t)] [] _ 0 0
  refine j_aload_n x dX6_isOut_0 rfl ?_
  refine j_aload_n x dX6_isOut_1 rfl ?_
  refine j_iload_n x dX6_isOut_2 rfl ?_
  refine j2_callVi x hb dX6_isOut_3 m_X6_isTeam (CM_v (cx_isTeam (d := d) hb) (jb_f hT)) wmX6_91 jc_10 rfl rfl rfl (Nat.le_of_ble_eq_true rfl) (j_fit_rm (by omega) (by omega) (by omega)) rfl ?_
  refine j_if_eq (tgt := 13) x dX6_isOut_6 (by decide) (fun hc => ?_) (fun hc => absurd (rfl) hc)
  refine j_iconst (v := 1) x dX6_isOut_13 (by decide) ?_
  refine j2_puti (k := 19) x hb dX6_isOut_14 jc_10 wfX6_36 (by decide) rfl rfl rfl rfl ?_
  refine j_aload_n x dX6_isOut_17 rfl ?_
  refine j2_geti (k := 19) x hb dX6_isOut_18 jc_10 wfX6_36 (by decide) rfl ?_
  refine j_if_ne (tgt := 36) x dX6_isOut_21 (by decide) (fun hc => ?_) (fun hc => absurd hc (by rw [jm_s]; decide))
  refine j_iconst (v := 0) x dX6_isOut_36 (by decide) ?_
  exact j_zreturn x hr dX6_isOut_37 (by first | decide | with_reducible exact jb_nar | with_reducible exact jisS_nar | with_reducible exact gno_nar) (by omega) (by omega) ⟨rfl, rfl⟩
theorem cx_teamOf_bad {d : Nat} {b : SBt} {Y : OUt} {M : MM} (hb : 104 ≤ b.2.1) {t u : Int32} (hT : ¬ t < 0 ∧ ¬ M 95 0 - 1 < t) (hx : ¬ (¬ u < 0 ∧ ¬ 8 < u)) : CM (d + 2) 0 0 yX6_teamOf cX6_teamOf 3 (some .int) [.ref 94, .int t, .int u] b Y M (.inl (some (.int (0)))) (jrai (jm M 94 19 0) 2) := by
  refine Con.of (by decide +kernel) (Nat.le_of_ble_eq_true rfl) rfl fun p l e s m args below meth c D tyc A ad0 x hr htab hname => ?_
  change JJ _ _ _ _ _ _ _ _ _ _ _ _ _ _ _ _ _ 0 [some (.ref 94), some (.int t), some (.int u)] [] _ 0 0
  refine j_aload_n x dX6_teamOf_0 rfl ?_
  refine j_iconst (v := 0) x dX6_teamOf_1 (by decide) ?_
  refine j2_puti (k := 19) x hb dX6_teamOf_2 jc_10 wfX6_36 (by decide) rfl rfl rfl rfl ?_
  refine j_aload_n x dX6_teamOf_5 rfl ?_
  refine j_iload_n x dX6_teamOf_6 rfl ?_
  refine j2_callVi x hb dX6_teamOf_7 m_X6_isTeam (CM_v (cx_isTeam (d := d) hb) (jb_t (by rw [jm_n (by omega)]; exact hT))) wmX6_91 jc_10 rfl rfl rfl (Nat.le_of_ble_eq_true rfl) (j_fit_rm (by omega) (by omega) (by omega)) rfl ?_
  refine j_if_ne (tgt := 19) x dX6_teamOf_10 (by decide) (fun hc => ?_) (fun hc => absurd hc (by decide))
  refine j_iload_n x dX6_teamOf_19 rfl ?_
  refine j_iconst (v := 0) x dX6_teamOf_20 (by decide) ?_
  refine j_bipush (v := 8) x dX6_teamOf_21 (by decide) ?_
  refine j2_callSi x hb dX6_teamOf_23 m_X6_in (CM_v (cx_in (d := d) hb) (jb_f hx)) wmX6_64 rfl (Nat.le_of_ble_eq_true rfl) (j_fit_rm (by omega) (by omega) (by omega)) rfl ?_
  refine j_if_ne (tgt := 35) x dX6_teamOf_26 (by decide) (fun hc => absurd hc (fun q => q rfl)) (fun hc => ?_)
  refine j_aload_n x dX6_teamOf_29 rfl ?_
  refine j_iconst (v := 2) x dX6_teamOf_30 (by decide) ?_
  refine j2_callVi x hb dX6_teamOf_31 m_X6_raises (cx_raises (d := d) hb) wmX6_61 jc_10 rfl rfl rfl (Nat.le_of_ble_eq_true rfl) (j_fit_rm (by omega) (by omega) (by omega)) rfl ?_
  exact j_ireturn x hr dX6_teamOf_34 (by omega) (by omega) ⟨rfl, rfl⟩
theorem cx_teamOf_k1 {d : Nat} {b : SBt} {Y : OUt} {M : MM} (hb : 104 ≤ b.2.1) {t : Int32} (hT : ¬ t < 0 ∧ ¬ M 95 0 - 1 < t) {n : Nat} (hn : n ≤ 56) (hct : M 95 9 = nI n) : CM (d + 4) 0 0 yX6_teamOf cX6_teamOf 3 (some .int) [.ref 94, .int t, .int 1] b Y M (.inl (some (.int (gH (jm M 94 19 0) n t 1)))) ((jm M 94 19 0)) := by
  refine Con.of (by decide +kernel) (Nat.le_of_ble_eq_true rfl) rfl fun p l e s m args below meth c D tyc A ad0 x hr htab hname => ?_
  change JJ _ _ _ _ _ _ _ _ _ _ _ _ _ _ _ _ _ 0 [some (.ref 94), some (.int t), some (.int 1)] [] _ 0 0
  refine j_aload_n x dX6_teamOf_0 rfl ?_
  refine j_iconst (v := 0) x dX6_teamOf_1 (by decide) ?_
  refine j2_puti (k := 19) x hb dX6_teamOf_2 jc_10 wfX6_36 (by decide) rfl rfl rfl rfl ?_
  refine j_aload_n x dX6_teamOf_5 rfl ?_
  refine j_iload_n x dX6_teamOf_6 rfl ?_
  refine j2_callVi x hb dX6_teamOf_7 m_X6_isTeam (CM_v (cx_isTeam (d := d) hb) (jb_t (by rw [jm_n (by omega)]; exact hT))) wmX6_91 jc_10 rfl rfl rfl (Nat.le_of_ble_eq_true rfl) (j_fit_rm (by omega) (by omega) (by omega)) rfl ?_
  refine j_if_ne (tgt := 19) x dX6_teamOf_10 (by decide) (fun hc => ?_) (fun hc => absurd hc (by decide))
  refine j_iload_n x dX6_teamOf_19 rfl ?_
  refine j_iconst (v := 0) x dX6_teamOf_20 (by decide) ?_
  refine j_bipush (v := 8) x dX6_teamOf_21 (by decide) ?_
  refine j2_callSi x hb dX6_teamOf_23 m_X6_in (CM_v (cx_in (d := d) hb) (jb_t (by decide))) wmX6_64 rfl (Nat.le_of_ble_eq_true rfl) (j_fit_rm (by omega) (by omega) (by omega)) rfl ?_
  refine j_if_ne (tgt := 35) x dX6_teamOf_26 (by decide) (fun hc => ?_) (fun hc => absurd hc (by decide))
  refine j_iload_n x dX6_teamOf_35 rfl ?_
  refine j_if_ne (tgt := 51) x dX6_teamOf_36 (by decide) (fun hc => ?_) (fun hc => absurd hc (by decide))
  refine j_aload_n x dX6_teamOf_51 rfl ?_
  refine j_iload_n x dX6_teamOf_52 rfl ?_
  refine j_iload_n x dX6_teamOf_53 rfl ?_
  refine j2_callVi x hb dX6_teamOf_54 m_X6_has_ (cx_has2_1 (d := d) hb hn (by rw [jm_n (by omega)]; exact hct)) wmX6_156 jc_10 rfl rfl rfl (Nat.le_of_ble_eq_true rfl) (j_fit_rm (by omega) (by omega) (by omega)) rfl ?_
  exact j_ireturn x hr dX6_teamOf_57 (by omega) (by omega) ⟨rfl, rfl⟩
theorem cx_teamOf_k2 {d : Nat} {b : SBt} {Y : OUt} {M : MM} (hb : 104 ≤ b.2.1) {t : Int32} (hT : ¬ t < 0 ∧ ¬ M 95 0 - 1 < t) {n : Nat} (hn : n ≤ 56) (hct : M 95 9 = nI n) : CM (d + 4) 0 0 yX6_teamOf cX6_teamOf 3 (some .int) [.ref 94, .int t, .int 2] b Y M (.inl (some (.int (gH (jm M 94 19 0) n t 2)))) ((jm M 94 19 0)) := by
  refine Con.of (by decide +kernel) (Nat.le_of_ble_eq_true rfl) rfl fun p l e s m args below meth c D tyc A ad0 x hr htab hname => ?_
  change JJ _ _ _ _ _ _ _ _ _ _ _ _ _ _ _ _ _ 0 [some (.ref 94), some (.int t), some (.int 2)] [] _ 0 0
  refine j_aload_n x dX6_teamOf_0 rfl ?_
  refine j_iconst (v := 0) x dX6_teamOf_1 (by decide) ?_
  refine j2_puti (k := 19) x hb dX6_teamOf_2 jc_10 wfX6_36 (by decide) rfl rfl rfl rfl ?_
  refine j_aload_n x dX6_teamOf_5 rfl ?_
  refine j_iload_n x dX6_teamOf_6 rfl ?_
  refine j2_callVi x hb dX6_teamOf_7 m_X6_isTeam (CM_v (cx_isTeam (d := d) hb) (jb_t (by rw [jm_n (by omega)]; exact hT))) wmX6_91 jc_10 rfl rfl rfl (Nat.le_of_ble_eq_true rfl) (j_fit_rm (by omega) (by omega) (by omega)) rfl ?_
  refine j_if_ne (tgt := 19) x dX6_teamOf_10 (by decide) (fun hc => ?_) (fun hc => absurd hc (by decide))
  refine j_iload_n x dX6_teamOf_19 rfl ?_
  refine j_iconst (v := 0) x dX6_teamOf_20 (by decide) ?_
  refine j_bipush (v := 8) x dX6_teamOf_21 (by decide) ?_
  refine j2_callSi x hb dX6_teamOf_23 m_X6_in (CM_v (cx_in (d := d) hb) (jb_t (by decide))) wmX6_64 rfl (Nat.le_of_ble_eq_true rfl) (j_fit_rm (by omega) (by omega) (by omega)) rfl ?_
  refine j_if_ne (tgt := 35) x dX6_teamOf_26 (by decide) (fun hc => ?_) (fun hc => absurd hc (by decide))
  refine j_iload_n x dX6_teamOf_35 rfl ?_
  refine j_if_ne (tgt := 51) x dX6_teamOf_36 (by decide) (fun hc => ?_) (fun hc => absurd hc (by decide))
  refine j_aload_n x dX6_teamOf_51 rfl ?_
  refine j_iload_n x dX6_teamOf_52 rfl ?_
  refine j_iload_n x dX6_teamOf_53 rfl ?_
  refine j2_callVi x hb dX6_teamOf_54 m_X6_has_ (cx_has2_2 (d := d) hb hn (by rw [jm_n (by omega)]; exact hct)) wmX6_156 jc_10 rfl rfl rfl (Nat.le_of_ble_eq_true rfl) (j_fit_rm (by omega) (by omega) (by omega)) rfl ?_
  exact j_ireturn x hr dX6_teamOf_57 (by omega) (by omega) ⟨rfl, rfl⟩
theorem cx_teamOf_k3 {d : Nat} {b : SBt} {Y : OUt} {M : MM} (hb : 104 ≤ b.2.1) {t : Int32} (hT : ¬ t < 0 ∧ ¬ M 95 0 - 1 < t) {n : Nat} (hn : n ≤ 56) (hct : M 95 9 = nI n) : CM (d + 4) 0 0 yX6_teamOf cX6_teamOf 3 (some .int) [.ref 94, .int t, .int 3] b Y M (.inl (some (.int (gH (jm M 94 19 0) n t 3)))) ((jm M 94 19 0)) := by
  refine Con.of (by decide +kernel) (Nat.le_of_ble_eq_true rfl) rfl fun p l e s m args below meth c D tyc A ad0 x hr htab hname => ?_
  change JJ _ _ _ _ _ _ _ _ _ _ _ _ _ _ _ _ _ 0 [some (.ref 94), some (.int t), some (.int 3)] [] _ 0 0
  refine j_aload_n x dX6_teamOf_0 rfl ?_
  refine j_iconst (v := 0) x dX6_teamOf_1 (by decide) ?_
  refine j2_puti (k := 19) x hb dX6_teamOf_2 jc_10 wfX6_36 (by decide) rfl rfl rfl rfl ?_
  refine j_aload_n x dX6_teamOf_5 rfl ?_
  refine j_iload_n x dX6_teamOf_6 rfl ?_
  refine j2_callVi x hb dX6_teamOf_7 m_X6_isTeam (CM_v (cx_isTeam (d := d) hb) (jb_t (by rw [jm_n (by omega)]; exact hT))) wmX6_91 jc_10 rfl rfl rfl (Nat.le_of_ble_eq_true rfl) (j_fit_rm (by omega) (by omega) (by omega)) rfl ?_
  refine j_if_ne (tgt := 19) x dX6_teamOf_10 (by decide) (fun hc => ?_) (fun hc => absurd hc (by decide))
  refine j_iload_n x dX6_teamOf_19 rfl ?_
  refine j_iconst (v := 0) x dX6_teamOf_20 (by decide) ?_
  refine j_bipush (v := 8) x dX6_teamOf_21 (by decide) ?_
  refine j2_callSi x hb dX6_teamOf_23 m_X6_in (CM_v (cx_in (d := d) hb) (jb_t (by decide))) wmX6_64 rfl (Nat.le_of_ble_eq_true rfl) (j_fit_rm (by omega) (by omega) (by omega)) rfl ?_
  refine j_if_ne (tgt := 35) x dX6_teamOf_26 (by decide) (fun hc => ?_) (fun hc => absurd hc (by decide))
  refine j_iload_n x dX6_teamOf_35 rfl ?_
  refine j_if_ne (tgt := 51) x dX6_teamOf_36 (by decide) (fun hc => ?_) (fun hc => absurd hc (by decide))
  refine j_aload_n x dX6_teamOf_51 rfl ?_
  refine j_iload_n x dX6_teamOf_52 rfl ?_
  refine j_iload_n x dX6_teamOf_53 rfl ?_
  refine j2_callVi x hb dX6_teamOf_54 m_X6_has_ (cx_has2_3 (d := d) hb hn (by rw [jm_n (by omega)]; exact hct)) wmX6_156 jc_10 rfl rfl rfl (Nat.le_of_ble_eq_true rfl) (j_fit_rm (by omega) (by omega) (by omega)) rfl ?_
  exact j_ireturn x hr dX6_teamOf_57 (by omega) (by omega) ⟨rfl, rfl⟩
theorem cx_teamOf_k4 {d : Nat} {b : SBt} {Y : OUt} {M : MM} (hb : 104 ≤ b.2.1) {t : Int32} (hT : ¬ t < 0 ∧ ¬ M 95 0 - 1 < t) {n : Nat} (hn : n ≤ 56) (hct : M 95 9 = nI n) : CM (d + 4) 0 0 yX6_teamOf cX6_teamOf 3 (some .int) [.ref 94, .int t, .int 4] b Y M (.inl (some (.int (gH (jm M 94 19 0) n t 4)))) ((jm M 94 19 0)) := by
  refine Con.of (by decide +kernel) (Nat.le_of_ble_eq_true rfl) rfl fun p l e s m args below meth c D tyc A ad0 x hr htab hname => ?_
  change JJ _ _ _ _ _ _ _ _ _ _ _ _ _ _ _ _ _ 0 [some (.ref 94), some (.int t), some (.int 4)] [] _ 0 0
  refine j_aload_n x dX6_teamOf_0 rfl ?_
  refine j_iconst (v := 0) x dX6_teamOf_1 (by decide) ?_
  refine j2_puti (k := 19) x hb dX6_teamOf_2 jc_10 wfX6_36 (by decide) rfl rfl rfl rfl ?_
  refine j_aload_n x dX6_teamOf_5 rfl ?_
  refine j_iload_n x dX6_teamOf_6 rfl ?_
  refine j2_callVi x hb dX6_teamOf_7 m_X6_isTeam (CM_v (cx_isTeam (d := d) hb) (jb_t (by rw [jm_n (by omega)]; exact hT))) wmX6_91 jc_10 rfl rfl rfl (Nat.le_of_ble_eq_true rfl) (j_fit_rm (by omega) (by omega) (by omega)) rfl ?_
  refine j_if_ne (tgt := 19) x dX6_teamOf_10 (by decide) (fun hc => ?_) (fun hc => absurd hc (by decide))
  refine j_iload_n x dX6_teamOf_19 rfl ?_
  refine j_iconst (v := 0) x dX6_teamOf_20 (by decide) ?_
  refine j_bipush (v := 8) x dX6_teamOf_21 (by decide) ?_
  refine j2_callSi x hb dX6_teamOf_23 m_X6_in (CM_v (cx_in (d := d) hb) (jb_t (by decide))) wmX6_64 rfl (Nat.le_of_ble_eq_true rfl) (j_fit_rm (by omega) (by omega) (by omega)) rfl ?_
  refine j_if_ne (tgt := 35) x dX6_teamOf_26 (by decide) (fun hc => ?_) (fun hc => absurd hc (by decide))
  refine j_iload_n x dX6_teamOf_35 rfl ?_
  refine j_if_ne (tgt := 51) x dX6_teamOf_36 (by decide) (fun hc => ?_) (fun hc => absurd hc (by decide))
  refine j_aload_n x dX6_teamOf_51 rfl ?_
  refine j_iload_n x dX6_teamOf_52 rfl ?_
  refine j_iload_n x dX6_teamOf_53 rfl ?_
  refine j2_callVi x hb dX6_teamOf_54 m_X6_has_ (cx_has2_4 (d := d) hb hn (by rw [jm_n (by omega)]; exact hct)) wmX6_156 jc_10 rfl rfl rfl (Nat.le_of_ble_eq_true rfl) (j_fit_rm (by omega) (by omega) (by omega)) rfl ?_
  exact j_ireturn x hr dX6_teamOf_57 (by omega) (by omega) ⟨rfl, rfl⟩
theorem cx_teamOf_k5 {d : Nat} {b : SBt} {Y : OUt} {M : MM} (hb : 104 ≤ b.2.1) {t : Int32} (hT : ¬ t < 0 ∧ ¬ M 95 0 - 1 < t) {n : Nat} (hn : n ≤ 56) (hct : M 95 9 = nI n) : CM (d + 4) 0 0 yX6_teamOf cX6_teamOf 3 (some .int) [.ref 94, .int t, .int 5] b Y M (.inl (some (.int (gH (jm M 94 19 0) n t 5)))) ((jm M 94 19 0)) := by
  refine Con.of (by decide +kernel) (Nat.le_of_ble_eq_true rfl) rfl fun p l e s m args below meth c D tyc A ad0 x hr htab hname => ?_
  change JJ _ _ _ _ _ _ _ _ _ _ _ _ _ _ _ _ _ 0 [some (.ref 94), some (.int t), some (.int 5)] [] _ 0 0
  refine j_aload_n x dX6_teamOf_0 rfl ?_
  refine j_iconst (v := 0) x dX6_teamOf_1 (by decide) ?_
  refine j2_puti (k := 19) x hb dX6_teamOf_2 jc_10 wfX6_36 (by decide) rfl rfl rfl rfl ?_
  refine j_aload_n x dX6_teamOf_5 rfl ?_
  refine j_iload_n x dX6_teamOf_6 rfl ?_
  refine j2_callVi x hb dX6_teamOf_7 m_X6_isTeam (CM_v (cx_isTeam (d := d) hb) (jb_t (by rw [jm_n (by omega)]; exact hT))) wmX6_91 jc_10 rfl rfl rfl (Nat.le_of_ble_eq_true rfl) (j_fit_rm (by omega) (by omega) (by omega)) rfl ?_
  refine j_if_ne (tgt := 19) x dX6_teamOf_10 (by decide) (fun hc => ?_) (fun hc => absurd hc (by decide))
  refine j_iload_n x dX6_teamOf_19 rfl ?_
  refine j_iconst (v := 0) x dX6_teamOf_20 (by decide) ?_
  refine j_bipush (v := 8) x dX6_teamOf_21 (by decide) ?_
  refine j2_callSi x hb dX6_teamOf_23 m_X6_in (CM_v (cx_in (d := d) hb) (jb_t (by decide))) wmX6_64 rfl (Nat.le_of_ble_eq_true rfl) (j_fit_rm (by omega) (by omega) (by omega)) rfl ?_
  refine j_if_ne (tgt := 35) x dX6_teamOf_26 (by decide) (fun hc => ?_) (fun hc => absurd hc (by decide))
  refine j_iload_n x dX6_teamOf_35 rfl ?_
  refine j_if_ne (tgt := 51) x dX6_teamOf_36 (by decide) (fun hc => ?_) (fun hc => absurd hc (by decide))
  refine j_aload_n x dX6_teamOf_51 rfl ?_
  refine j_iload_n x dX6_teamOf_52 rfl ?_
  refine j_iload_n x dX6_teamOf_53 rfl ?_
  refine j2_callVi x hb dX6_teamOf_54 m_X6_has_ (cx_has2_5 (d := d) hb hn (by rw [jm_n (by omega)]; exact hct)) wmX6_156 jc_10 rfl rfl rfl (Nat.le_of_ble_eq_true rfl) (j_fit_rm (by omega) (by omega) (by omega)) rfl ?_
  exact j_ireturn x hr dX6_teamOf_57 (by omega) (by omega) ⟨rfl, rfl⟩
theorem cx_teamOf_k6 {d : Nat} {b : SBt} {Y : OUt} {M : MM} (hb : 104 ≤ b.2.1) {t : Int32} (hT : ¬ t < 0 ∧ ¬ M 95 0 - 1 < t) {n : Nat} (hn : n ≤ 56) (hct : M 95 9 = nI n) : CM (d + 4) 0 0 yX6_teamOf cX6_teamOf 3 (some .int) [.ref 94, .int t, .int 6] b Y M (.inl (some (.int (gH (jm M 94 19 0) n t 6)))) ((jm M 94 19 0)) := by
  refine Con.of (by decide +kernel) (Nat.le_of_ble_eq_true rfl) rfl fun p l e s m args below meth c D tyc A ad0 x hr htab hname => ?_
  change JJ _ _ _ _ _ _ _ _ _ _ _ _ _ _ _ _ _ 0 [some (.ref 94), some (.int t), some (.int 6)] [] _ 0 0
  refine j_aload_n x dX6_teamOf_0 rfl ?_
  refine j_iconst (v := 0) x dX6_teamOf_1 (by decide) ?_
  refine j2_puti (k := 19) x hb dX6_teamOf_2 jc_10 wfX6_36 (by decide) rfl rfl rfl rfl ?_
  refine j_aload_n x dX6_teamOf_5 rfl ?_
  refine j_iload_n x dX6_teamOf_6 rfl ?_
  refine j2_callVi x hb dX6_teamOf_7 m_X6_isTeam (CM_v (cx_isTeam (d := d) hb) (jb_t (by rw [jm_n (by omega)]; exact hT))) wmX6_91 jc_10 rfl rfl rfl (Nat.le_of_ble_eq_true rfl) (j_fit_rm (by omega) (by omega) (by omega)) rfl ?_
  refine j_if_ne (tgt := 19) x dX6_teamOf_10 (by decide) (fun hc => ?_) (fun hc => absurd hc (by decide))
  refine j_iload_n x dX6_teamOf_19 rfl ?_
  refine j_iconst (v := 0) x dX6_teamOf_20 (by decide) ?_
  refine j_bipush (v := 8) x dX6_teamOf_21 (by decide) ?_
  refine j2_callSi x hb dX6_teamOf_23 m_X6_in (CM_v (cx_in (d := d) hb) (jb_t (by decide))) wmX6_64 rfl (Nat.le_of_ble_eq_true rfl) (j_fit_rm (by omega) (by omega) (by omega)) rfl ?_
  refine j_if_ne (tgt := 35) x dX6_teamOf_26 (by decide) (fun hc => ?_) (fun hc => absurd hc (by decide))
  refine j_iload_n x dX6_teamOf_35 rfl ?_
  refine j_if_ne (tgt := 51) x dX6_teamOf_36 (by decide) (fun hc => ?_) (fun hc => absurd hc (by decide))
  refine j_aload_n x dX6_teamOf_51 rfl ?_
  refine j_iload_n x dX6_teamOf_52 rfl ?_
  refine j_iload_n x dX6_teamOf_53 rfl ?_
  refine j2_callVi x hb dX6_teamOf_54 m_X6_has_ (cx_has2_6 (d := d) hb hn (by rw [jm_n (by omega)]; exact hct)) wmX6_156 jc_10 rfl rfl rfl (Nat.le_of_ble_eq_true rfl) (j_fit_rm (by omega) (by omega) (by omega)) rfl ?_
  exact j_ireturn x hr dX6_teamOf_57 (by omega) (by omega) ⟨rfl, rfl⟩
theorem cx_teamOf_k7 {d : Nat} {b : SBt} {Y : OUt} {M : MM} (hb : 104 ≤ b.2.1) {t : Int32} (hT : ¬ t < 0 ∧ ¬ M 95 0 - 1 < t) {n : Nat} (hn : n ≤ 56) (hct : M 95 9 = nI n) : CM (d + 4) 0 0 yX6_teamOf cX6_teamOf 3 (some .int) [.ref 94, .int t, .int 7] b Y M (.inl (some (.int (gH (jm M 94 19 0) n t 7)))) ((jm M 94 19 0)) := by
  refine Con.of (by decide +kernel) (Nat.le_of_ble_eq_true rfl) rfl fun p l e s m args below meth c D tyc A ad0 x hr htab hname => ?_
  change JJ _ _ _ _ _ _ _ _ _ _ _ _ _ _ _ _ _ 0 [some (.ref 94), some (.int t), some (.int 7)] [] _ 0 0
  refine j_aload_n x dX6_teamOf_0 rfl ?_
  refine j_iconst (v := 0) x dX6_teamOf_1 (by decide) ?_
  refine j2_puti (k := 19) x hb dX6_teamOf_2 jc_10 wfX6_36 (by decide) rfl rfl rfl rfl ?_
  refine j_aload_n x dX6_teamOf_5 rfl ?_
  refine j_iload_n x dX6_teamOf_6 rfl ?_
  refine j2_callVi x hb dX6_teamOf_7 m_X6_isTeam (CM_v (cx_isTeam (d := d) hb) (jb_t (by rw [jm_n (by omega)]; exact hT))) wmX6_91 jc_10 rfl rfl rfl (Nat.le_of_ble_eq_true rfl) (j_fit_rm (by omega) (by omega) (by omega)) rfl ?_
  refine j_if_ne (tgt := 19) x dX6_teamOf_10 (by decide) (fun hc => ?_) (fun hc => absurd hc (by decide))
  refine j_iload_n x dX6_teamOf_19 rfl ?_
  refine j_iconst (v := 0) x dX6_teamOf_20 (by decide) ?_
  refine j_bipush (v := 8) x dX6_teamOf_21 (by decide) ?_
  refine j2_callSi x hb dX6_teamOf_23 m_X6_in (CM_v (cx_in (d := d) hb) (jb_t (by decide))) wmX6_64 rfl (Nat.le_of_ble_eq_true rfl) (j_fit_rm (by omega) (by omega) (by omega)) rfl ?_
  refine j_if_ne (tgt := 35) x dX6_teamOf_26 (by decide) (fun hc => ?_) (fun hc => absurd hc (by decide))
  refine j_iload_n x dX6_teamOf_35 rfl ?_
  refine j_if_ne (tgt := 51) x dX6_teamOf_36 (by decide) (fun hc => ?_) (fun hc => absurd hc (by decide))
  refine j_aload_n x dX6_teamOf_51 rfl ?_
  refine j_iload_n x dX6_teamOf_52 rfl ?_
  refine j_iload_n x dX6_teamOf_53 rfl ?_
  refine j2_callVi x hb dX6_teamOf_54 m_X6_has_ (cx_has2_7 (d := d) hb hn (by rw [jm_n (by omega)]; exact hct)) wmX6_156 jc_10 rfl rfl rfl (Nat.le_of_ble_eq_true rfl) (j_fit_rm (by omega) (by omega) (by omega)) rfl ?_
  exact j_ireturn x hr dX6_teamOf_57 (by omega) (by omega) ⟨rfl, rfl⟩
theorem cx_teamOf_k8 {d : Nat} {b : SBt} {Y : OUt} {M : MM} (hb : 104 ≤ b.2.1) {t : Int32} (hT : ¬ t < 0 ∧ ¬ M 95 0 - 1 < t) {n : Nat} (hn : n ≤ 56) (hct : M 95 9 = nI n) : CM (d + 4) 0 0 yX6_teamOf cX6_teamOf 3 (some .int) [.ref 94, .int t, .int 8] b Y M (.inl (some (.int (gH (jm M 94 19 0) n t 8)))) ((jm M 94 19 0)) := by
  refine Con.of (by decide +kernel) (Nat.le_of_ble_eq_true rfl) rfl fun p l e s m args below meth c D tyc A ad0 x hr htab hname => ?_
  change JJ _ _ _ _ _ _ _ _ _ _ _ _ _ _ _ _ _ 0 [some (.ref 94), some (.int t), some (.int 8)] [] _ 0 0
  refine j_aload_n x dX6_teamOf_0 rfl ?_
  refine j_iconst (v := 0) x dX6_teamOf_1 (by decide) ?_
  refine j2_puti (k := 19) x hb dX6_teamOf_2 jc_10 wfX6_36 (by decide) rfl rfl rfl rfl ?_
  refine j_aload_n x dX6_teamOf_5 rfl ?_
  refine j_iload_n x dX6_teamOf_6 rfl ?_
  refine j2_callVi x hb dX6_teamOf_7 m_X6_isTeam (CM_v (cx_isTeam (d := d) hb) (jb_t (by rw [jm_n (by omega)]; exact hT))) wmX6_91 jc_10 rfl rfl rfl (Nat.le_of_ble_eq_true rfl) (j_fit_rm (by omega) (by omega) (by omega)) rfl ?_
  refine j_if_ne (tgt := 19) x dX6_teamOf_10 (by decide) (fun hc => ?_) (fun hc => absurd hc (by decide))
  refine j_iload_n x dX6_teamOf_19 rfl ?_
  refine j_iconst (v := 0) x dX6_teamOf_20 (by decide) ?_
  refine j_bipush (v := 8) x dX6_teamOf_21 (by decide) ?_
  refine j2_callSi x hb dX6_teamOf_23 m_X6_in (CM_v (cx_in (d := d) hb) (jb_t (by decide))) wmX6_64 rfl (Nat.le_of_ble_eq_true rfl) (j_fit_rm (by omega) (by omega) (by omega)) rfl ?_
  refine j_if_ne (tgt := 35) x dX6_teamOf_26 (by decide) (fun hc => ?_) (fun hc => absurd hc (by decide))
  refine j_iload_n x dX6_teamOf_35 rfl ?_
  refine j_if_ne (tgt := 51) x dX6_teamOf_36 (by decide) (fun hc => ?_) (fun hc => absurd hc (by decide))
  refine j_aload_n x dX6_teamOf_51 rfl ?_
  refine j_iload_n x dX6_teamOf_52 rfl ?_
  refine j_iload_n x dX6_teamOf_53 rfl ?_
  refine j2_callVi x hb dX6_teamOf_54 m_X6_has_ (cx_has2_8 (d := d) hb hn (by rw [jm_n (by omega)]; exact hct)) wmX6_156 jc_10 rfl rfl rfl (Nat.le_of_ble_eq_true rfl) (j_fit_rm (by omega) (by omega) (by omega)) rfl ?_
  exact j_ireturn x hr dX6_teamOf_57 (by omega) (by omega) ⟨rfl, rfl⟩
theorem cx_teamOf_k0 {d : Nat} {b : SBt} {Y : OUt} {M : MM} (hb : 104 ≤ b.2.1) {t1 : Nat} {w : Nat} (hw : w ≤ 8) (h0 : M 95 0 = nI w) (ht : t1 < w) : CM (d + 4) 0 0 yX6_teamOf cX6_teamOf 3 (some .int) [.ref 94, .int (nI t1), .int 0] b Y M (.inl (some (.int ((jm M 94 19 0) 95 (10 + t1))))) ((jm M 94 19 0)) := by
  refine Con.of (by decide +kernel) (Nat.le_of_ble_eq_true rfl) rfl fun p l e s m args below meth c D tyc A ad0 x hr htab hname => ?_
  change JJ _ _ _ _ _ _ _ _ _ _ _ _ _ _ _ _ _ 0 [some (.ref 94), some (.int (nI t1)), some (.int 0)] [] _ 0 0
  refine j_aload_n x dX6_teamOf_0 rfl ?_
  refine j_iconst (v := 0) x dX6_teamOf_1 (by decide) ?_
  refine j2_puti (k := 19) x hb dX6_teamOf_2 jc_10 wfX6_36 (by decide) rfl rfl rfl rfl ?_
  refine j_aload_n x dX6_teamOf_5 rfl ?_
  refine j_iload_n x dX6_teamOf_6 rfl ?_
  refine j2_callVi x hb dX6_teamOf_7 m_X6_isTeam (CM_v (cx_isTeam (d := d) hb) (jb_t ⟨nI_pos (by omega), by rw [jm_n (by omega), h0, show (nI w - 1 : Int32) = nI (w - 1) from nI_sub (d := 1) (by omega)]; exact nI_nlt (by omega) (by omega)⟩)) wmX6_91 jc_10 rfl rfl rfl (Nat.le_of_ble_eq_true rfl) (j_fit_rm (by omega) (by omega) (by omega)) rfl ?_
  refine j_if_ne (tgt := 19) x dX6_teamOf_10 (by decide) (fun hc => ?_) (fun hc => absurd hc (by decide))
  refine j_iload_n x dX6_teamOf_19 rfl ?_
  refine j_iconst (v := 0) x dX6_teamOf_20 (by decide) ?_
  refine j_bipush (v := 8) x dX6_teamOf_21 (by decide) ?_
  refine j2_callSi x hb dX6_teamOf_23 m_X6_in (CM_v (cx_in (d := d) hb) (jb_t (by decide))) wmX6_64 rfl (Nat.le_of_ble_eq_true rfl) (j_fit_rm (by omega) (by omega) (by omega)) rfl ?_
  refine j_if_ne (tgt := 35) x dX6_teamOf_26 (by decide) (fun hc => ?_) (fun hc => absurd hc (by decide))
  refine j_iload_n x dX6_teamOf_35 rfl ?_
  refine j_if_ne (tgt := 51) x dX6_teamOf_36 (by decide) (fun hc => absurd hc (fun q => q rfl)) (fun hc => ?_)
  refine j_aload_n x dX6_teamOf_39 rfl ?_
  refine j2_getr (k := 0) (r := 95) x hb dX6_teamOf_40 jc_10 wfX6_9 (by decide) rfl ?_
  refine j_bipush (v := 10) x dX6_teamOf_43 (by decide) ?_
  refine j_iload_n x dX6_teamOf_45 rfl ?_
  refine j_iadd x dX6_teamOf_46 ?_
  refine j2_ialn x hb dX6_teamOf_47 fa_95 (j := 10 + t1) (by rw [show (10 : Int32) + nI t1 = nI (10 + t1) from nI_add 10 t1]; exact vp_in_nI (by omega) (by decide)) (by rw [show (10 : Int32) + nI t1 = nI (10 + t1) from nI_add 10 t1]; exact nI_clamp (by omega)) ?_
  refine j_goto (tgt := 57) x dX6_teamOf_48 (by decide) ?_
  exact j_ireturn x hr dX6_teamOf_57 (by omega) (by omega) ⟨rfl, rfl⟩
theorem cx_pointsAgain {d : Nat} {b : SBt} {Y : OUt} {M : MM} (hb : 104 ≤ b.2.1) {t : Int32} (hT : ¬ t < 0 ∧ ¬ M 95 0 - 1 < t) {n : Nat} (hn : n ≤ 56) (hct : M 95 9 = nI n) : CM (d + 4) 0 0 yX6_pointsAgain cX6_pointsAgain 2 (some .int) [.ref 94, .int t] b Y M (.inl (some (.int (gH (jm M 94 19 0) n t 1)))) ((jm M 94 19 0)) := by
  refine Con.of (by decide +kernel) (Nat.le_of_ble_eq_true rfl) rfl fun p l e s m args below meth c D tyc A ad0 x hr htab hname => ?_
  change JJ _ _ _ _ _ _ _ _ _ _ _ _ _ _ _ _ _ 0 [some (.ref 94), some (.int t)] [] _ 0 0
  refine j_aload_n x dX6_pointsAgain_0 rfl ?_
  refine j_iconst (v := 0) x dX6_pointsAgain_1 (by decide) ?_
  refine j2_puti (k := 19) x hb dX6_pointsAgain_2 jc_10 wfX6_36 (by decide) rfl rfl rfl rfl ?_
  refine j_aload_n x dX6_pointsAgain_5 rfl ?_
  refine j_iload_n x dX6_pointsAgain_6 rfl ?_
  refine j2_callVi x hb dX6_pointsAgain_7 m_X6_isTeam (CM_v (cx_isTeam (d := d) hb) (jb_t (by rw [jm_n (by omega)]; exact hT))) wmX6_91 jc_10 rfl rfl rfl (Nat.le_of_ble_eq_true rfl) (j_fit_rm (by omega) (by omega) (by omega)) rfl ?_
  refine j_if_eq (tgt := 22) x dX6_pointsAgain_10 (by decide) (fun hc => absurd hc (by decide)) (fun hc => ?_)
  refine j_aload_n x dX6_pointsAgain_13 rfl ?_
  refine j_iload_n x dX6_pointsAgain_14 rfl ?_
  refine j_iconst (v := 1) x dX6_pointsAgain_15 (by decide) ?_
  refine j2_callVi x hb dX6_pointsAgain_16 m_X6_has_ (cx_has2_1 (d := d) hb hn (by rw [jm_n (by omega)]; exact hct)) wmX6_156 jc_10 rfl rfl rfl (Nat.le_of_ble_eq_true rfl) (j_fit_rm (by omega) (by omega) (by omega)) rfl ?_
  refine j_goto (tgt := 27) x dX6_pointsAgain_19 (by decide) ?_
  exact j_ireturn x hr dX6_pointsAgain_27 (by omega) (by omega) ⟨rfl, rfl⟩
theorem cx_placeOf {d : Nat} {b : SBt} {Y : OUt} {M : MM} (hb : 104 ≤ b.2.1) {t : Int32} (hT : ¬ t < 0 ∧ ¬ M 95 0 - 1 < t) {n : Nat} (hn : n ≤ 56) (hct : M 95 9 = nI n) {w : Nat} (hw : w ≤ 8) (h0 : M 95 0 = nI w) {r : Nat} (hr3 : r ≤ 3) (h5 : M 95 5 = nI r) (hru : ∀ i, i < r → M 95 (6 + i) = 0 ∨ M 95 (6 + i) = 1 ∨ M 95 (6 + i) = 2 ∨ M 95 (6 + i) = 3 ∨ M 95 (6 + i) = 4) : CM (d + 8) 0 0 yX6_placeOf cX6_placeOf 2 (some .int) [.ref 94, .int t] b Y M (.inl (some (.int (jsum (fgPl (jm M 94 19 0) n w r t) w)))) ((jm M 94 19 0)) := by
  refine Con.of (by decide +kernel) (Nat.le_of_ble_eq_true rfl) rfl fun p l e s m args below meth c D tyc A ad0 x hr htab hname => ?_
  change JJ _ _ _ _ _ _ _ _ _ _ _ _ _ _ _ _ _ 0 [some (.ref 94), some (.int t)] [] _ 0 0
  refine j_aload_n x dX6_placeOf_0 rfl ?_
  refine j_iconst (v := 0) x dX6_placeOf_1 (by decide) ?_
  refine j2_puti (k := 19) x hb dX6_placeOf_2 jc_10 wfX6_36 (by decide) rfl rfl rfl rfl ?_
  refine j_aload_n x dX6_placeOf_5 rfl ?_
  refine j_iload_n x dX6_placeOf_6 rfl ?_
  refine j2_callVi x hb dX6_placeOf_7 m_X6_isTeam (CM_v (cx_isTeam (d := d) hb) (jb_t (by rw [jm_n (by omega)]; exact hT))) wmX6_91 jc_10 rfl rfl rfl (Nat.le_of_ble_eq_true rfl) (j_fit_rm (by omega) (by omega) (by omega)) rfl ?_
  refine j_if_eq (tgt := 21) x dX6_placeOf_10 (by decide) (fun hc => absurd hc (by decide)) (fun hc => ?_)
  refine j_aload_n x dX6_placeOf_13 rfl ?_
  refine j_iload_n x dX6_placeOf_14 rfl ?_
  refine j2_callVi x hb dX6_placeOf_15 m_X6_placeIn (cx_placeIn (d := d) hb hn (by rw [jm_n (by omega)]; exact hct) hw (by rw [jm_n (by omega)]; exact h0) hr3 (by rw [jm_n (by omega)]; exact h5) (fun i hi => by rw [jm_n (by omega)]; exact hru i hi)) wmX6_170 jc_10 rfl rfl rfl (Nat.le_of_ble_eq_true rfl) (j_fit_rm (by omega) (by omega) (by omega)) rfl ?_
  refine j_goto (tgt := 26) x dX6_placeOf_18 (by decide) ?_
  exact j_ireturn x hr dX6_placeOf_26 (by omega) (by omega) ⟨rfl, rfl⟩
theorem cx_tied {d : Nat} {b : SBt} {Y : OUt} {M : MM} (hb : 104 ≤ b.2.1) {t : Int32} (hT : ¬ t < 0 ∧ ¬ M 95 0 - 1 < t) {n : Nat} (hn : n ≤ 56) (hct : M 95 9 = nI n) {w : Nat} (hw : w ≤ 8) (h0 : M 95 0 = nI w) : CM (d + 5) 0 0 yX6_tied cX6_tied 2 (some .int) [.ref 94, .int t] b Y M (.inl (some (.int (gTied (jm M 94 19 0) n t w)))) ((jm M 94 19 0)) := by
  refine Con.of (by decide +kernel) (Nat.le_of_ble_eq_true rfl) rfl fun p l e s m args below meth c D tyc A ad0 x hr htab hname => ?_
  change JJ _ _ _ _ _ _ _ _ _ _ _ _ _ _ _ _ _ 0 [some (.ref 94), some (.int t)] [] _ 0 0
  refine j_aload_n x dX6_tied_0 rfl ?_
  refine j_iconst (v := 0) x dX6_tied_1 (by decide) ?_
  refine j2_puti (k := 19) x hb dX6_tied_2 jc_10 wfX6_36 (by decide) rfl rfl rfl rfl ?_
  refine j_aload_n x dX6_tied_5 rfl ?_
  refine j_iload_n x dX6_tied_6 rfl ?_
  refine j2_callVi x hb dX6_tied_7 m_X6_isTeam (CM_v (cx_isTeam (d := d) hb) (jb_t (by rw [jm_n (by omega)]; exact hT))) wmX6_91 jc_10 rfl rfl rfl (Nat.le_of_ble_eq_true rfl) (j_fit_rm (by omega) (by omega) (by omega)) rfl ?_
  refine j_if_eq (tgt := 21) x dX6_tied_10 (by decide) (fun hc => absurd hc (by decide)) (fun hc => ?_)
  refine j_aload_n x dX6_tied_13 rfl ?_
  refine j_iload_n x dX6_tied_14 rfl ?_
  refine j2_callVi x hb dX6_tied_15 m_X6_tiedWith (cx_tiedWith (d := d) hb hn (by rw [jm_n (by omega)]; exact hct) hw (by rw [jm_n (by omega)]; exact h0)) wmX6_161 jc_10 rfl rfl rfl (Nat.le_of_ble_eq_true rfl) (j_fit_rm (by omega) (by omega) (by omega)) rfl ?_
  refine j_goto (tgt := 26) x dX6_tied_18 (by decide) ?_
  exact j_ireturn x hr dX6_tied_26 (by omega) (by omega) ⟨rfl, rfl⟩
theorem cx_most {d : Nat} {b : SBt} {Y : OUt} {M : MM} (hb : 104 ≤ b.2.1) {t : Int32} (hT : ¬ t < 0 ∧ ¬ M 95 0 - 1 < t) {n : Nat} (hn : n ≤ 56) (hct : M 95 9 = nI n) : CM (d + 5) 0 0 yX6_most cX6_most 2 (some .int) [.ref 94, .int t] b Y M (.inl (some (.int (gMost (jm M 94 19 0) n t)))) ((jm M 94 19 0)) := by
  refine Con.of (by decide +kernel) (Nat.le_of_ble_eq_true rfl) rfl fun p l e s m args below meth c D tyc A ad0 x hr htab hname => ?_
  change JJ _ _ _ _ _ _ _ _ _ _ _ _ _ _ _ _ _ 0 [some (.ref 94), some (.int t)] [] _ 0 0
  refine j_aload_n x dX6_most_0 rfl ?_
  refine j_iconst (v := 0) x dX6_most_1 (by decide) ?_
  refine j2_puti (k := 19) x hb dX6_most_2 jc_10 wfX6_36 (by decide) rfl rfl rfl rfl ?_
  refine j_aload_n x dX6_most_5 rfl ?_
  refine j_iload_n x dX6_most_6 rfl ?_
  refine j2_callVi x hb dX6_most_7 m_X6_isTeam (CM_v (cx_isTeam (d := d) hb) (jb_t (by rw [jm_n (by omega)]; exact hT))) wmX6_91 jc_10 rfl rfl rfl (Nat.le_of_ble_eq_true rfl) (j_fit_rm (by omega) (by omega) (by omega)) rfl ?_
  refine j_if_eq (tgt := 21) x dX6_most_10 (by decide) (fun hc => absurd hc (by decide)) (fun hc => ?_)
  refine j_aload_n x dX6_most_13 rfl ?_
  refine j_iload_n x dX6_most_14 rfl ?_
  refine j2_callVi x hb dX6_most_15 m_X6_mostOf (cx_mostOf (d := d) hb hn (by rw [jm_n (by omega)]; exact hct)) wmX6_173 jc_10 rfl rfl rfl (Nat.le_of_ble_eq_true rfl) (j_fit_rm (by omega) (by omega) (by omega)) rfl ?_
  refine j_goto (tgt := 26) x dX6_most_18 (by decide) ?_
  exact j_ireturn x hr dX6_most_26 (by omega) (by omega) ⟨rfl, rfl⟩
