/-! ===== the reference: more questions ===== -/
theorem cx_valueOf_bad {d : Nat} {b : SBt} {Y : OUt} {M : MM} (hb : 104 ≤ b.2.1) {t u : Int32} (hT : ¬ t < 0 ∧ ¬ M 95 0 - 1 < t) (hx : ¬ (¬ u < 0 ∧ ¬ 4 < u)) : CM (d + 2) 0 0 yX6_valueOf cX6_valueOf 3 (some .int) [.ref 94, .int t, .int u] b Y M (.inl (some (.int (0)))) (jrai (jm M 94 19 0) 2) := by
  refine Con.of (by decide +kernel) (Nat.le_of_ble_eq_true rfl) rfl fun p l e s m args below meth c D tyc A ad0 x hr htab hname => ?_
  change JJ _ _ _ _ _ _ _ _ _ _ _ _ _ _ _ _ _ 0 [some (.ref 94), some (.int t), some (.int u)] [] _ 0 0
  refine j_aload_n x dX6_valueOf_0 rfl ?_
  refine j_iconst (v := 0) x dX6_valueOf_1 (by decide) ?_
  refine j2_puti (k := 19) x hb dX6_valueOf_2 jc_10 wfX6_36 (by decide) rfl rfl rfl rfl ?_
  refine j_aload_n x dX6_valueOf_5 rfl ?_
  refine j_iload_n x dX6_valueOf_6 rfl ?_
  refine j2_callVi x hb dX6_valueOf_7 m_X6_isTeam (CM_v (cx_isTeam (d := d) hb) (jb_t (by rw [jm_n (by omega)]; exact hT))) wmX6_91 jc_10 rfl rfl rfl (Nat.le_of_ble_eq_true rfl) (j_fit_rm (by omega) (by omega) (by omega)) rfl ?_
  refine j_if_ne (tgt := 19) x dX6_valueOf_10 (by decide) (fun hc => ?_) (fun hc => absurd hc (by decide))
  refine j_iload_n x dX6_valueOf_19 rfl ?_
  refine j_iconst (v := 0) x dX6_valueOf_20 (by decide) ?_
  refine j_iconst (v := 4) x dX6_valueOf_21 (by decide) ?_
  refine j2_callSi x hb dX6_valueOf_22 m_X6_in (CM_v (cx_in (d := d) hb) (jb_f hx)) wmX6_64 rfl (Nat.le_of_ble_eq_true rfl) (j_fit_rm (by omega) (by omega) (by omega)) rfl ?_
  refine j_if_eq (tgt := 37) x dX6_valueOf_25 (by decide) (fun hc => ?_) (fun hc => absurd (rfl) hc)
  refine j_aload_n x dX6_valueOf_37 rfl ?_
  refine j_iconst (v := 2) x dX6_valueOf_38 (by decide) ?_
  refine j2_callVi x hb dX6_valueOf_39 m_X6_raises (cx_raises (d := d) hb) wmX6_61 jc_10 rfl rfl rfl (Nat.le_of_ble_eq_true rfl) (j_fit_rm (by omega) (by omega) (by omega)) rfl ?_
  exact j_ireturn x hr dX6_valueOf_42 (by omega) (by omega) ⟨rfl, rfl⟩
theorem cx_valueOf {d : Nat} {b : SBt} {Y : OUt} {M : MM} (hb : 104 ≤ b.2.1) {t u : Int32} (hT : ¬ t < 0 ∧ ¬ M 95 0 - 1 < t) {n : Nat} (hn : n ≤ 56) (hct : M 95 9 = nI n) {w : Nat} (hw : w ≤ 8) (h0 : M 95 0 = nI w) (hx : ¬ u < 0 ∧ ¬ 4 < u) (hu : u = 0 ∨ u = 1 ∨ u = 2 ∨ u = 3 ∨ u = 4) : CM (d + 6) 0 0 yX6_valueOf cX6_valueOf 3 (some .int) [.ref 94, .int t, .int u] b Y M (.inl (some (.int (gRule (jm M 94 19 0) n w t u)))) ((jm M 94 19 0)) := by
  refine Con.of (by decide +kernel) (Nat.le_of_ble_eq_true rfl) rfl fun p l e s m args below meth c D tyc A ad0 x hr htab hname => ?_
  change JJ _ _ _ _ _ _ _ _ _ _ _ _ _ _ _ _ _ 0 [some (.ref 94), some (.int t), some (.int u)] [] _ 0 0
  refine j_aload_n x dX6_valueOf_0 rfl ?_
  refine j_iconst (v := 0) x dX6_valueOf_1 (by decide) ?_
  refine j2_puti (k := 19) x hb dX6_valueOf_2 jc_10 wfX6_36 (by decide) rfl rfl rfl rfl ?_
  refine j_aload_n x dX6_valueOf_5 rfl ?_
  refine j_iload_n x dX6_valueOf_6 rfl ?_
  refine j2_callVi x hb dX6_valueOf_7 m_X6_isTeam (CM_v (cx_isTeam (d := d) hb) (jb_t (by rw [jm_n (by omega)]; exact hT))) wmX6_91 jc_10 rfl rfl rfl (Nat.le_of_ble_eq_true rfl) (j_fit_rm (by omega) (by omega) (by omega)) rfl ?_
  refine j_if_ne (tgt := 19) x dX6_valueOf_10 (by decide) (fun hc => ?_) (fun hc => absurd hc (by decide))
  refine j_iload_n x dX6_valueOf_19 rfl ?_
  refine j_iconst (v := 0) x dX6_valueOf_20 (by decide) ?_
  refine j_iconst (v := 4) x dX6_valueOf_21 (by decide) ?_
  refine j2_callSi x hb dX6_valueOf_22 m_X6_in (CM_v (cx_in (d := d) hb) (jb_t hx)) wmX6_64 rfl (Nat.le_of_ble_eq_true rfl) (j_fit_rm (by omega) (by omega) (by omega)) rfl ?_
  refine j_if_eq (tgt := 37) x dX6_valueOf_25 (by decide) (fun hc => absurd hc (by decide)) (fun hc => ?_)
  refine j_aload_n x dX6_valueOf_28 rfl ?_
  refine j_iload_n x dX6_valueOf_29 rfl ?_
  refine j_iload_n x dX6_valueOf_30 rfl ?_
  refine j2_callVi x hb dX6_valueOf_31 m_X6_byRule (cx_byRule (d := d) hb hn (by rw [jm_n (by omega)]; exact hct) hw (by rw [jm_n (by omega)]; exact h0) hu) wmX6_164 jc_10 rfl rfl rfl (Nat.le_of_ble_eq_true rfl) (j_fit_rm (by omega) (by omega) (by omega)) rfl ?_
  refine j_goto (tgt := 42) x dX6_valueOf_34 (by decide) ?_
  exact j_ireturn x hr dX6_valueOf_42 (by omega) (by omega) ⟨rfl, rfl⟩
theorem cx_isSafe {d : Nat} {b : SBt} {Y : OUt} {M : MM} (hb : 104 ≤ b.2.1) {t : Int32} (hT : ¬ t < 0 ∧ ¬ M 95 0 - 1 < t) {n : Nat} (hn : n ≤ 56) (hct : M 95 9 = nI n) {w : Nat} (hw : w ≤ 8) (h0 : M 95 0 = nI w) : CM (d + 6) 0 0 yX6_isSafe cX6_isSafe 2 (some .boolean) [.ref 94, .int t] b Y M (.inl (some (.int (jb (jfst (fgS (jm M 94 19 0) n t) w = -1))))) ((jm M 94 19 0)) := by
  refine Con.of (by decide +kernel) (Nat.le_of_ble_eq_true rfl) rfl fun p l e s m args below meth c D tyc A ad0 x hr htab hname => ?_
  change JJ _ _ _ _ _ _ _ _ _ _ _ _ _ _ _ _ _ 0 [some (.ref 94), some (.int t)] [] _ 0 0
  refine j_aload_n x dX6_isSafe_0 rfl ?_
  refine j_aload_n x dX6_isSafe_1 rfl ?_
  refine j_iload_n x dX6_isSafe_2 rfl ?_
  refine j2_callVi x hb dX6_isSafe_3 m_X6_isTeam (CM_v (cx_isTeam (d := d) hb) (jb_t hT)) wmX6_91 jc_10 rfl rfl rfl (Nat.le_of_ble_eq_true rfl) (j_fit_rm (by omega) (by omega) (by omega)) rfl ?_
  refine j_if_eq (tgt := 13) x dX6_isSafe_6 (by decide) (fun hc => absurd hc (by decide)) (fun hc => ?_)
  refine j_iconst (v := 0) x dX6_isSafe_9 (by decide) ?_
  refine j_goto (tgt := 14) x dX6_isSafe_10 (by decide) ?_
  refine j2_puti (k := 19) x hb dX6_isSafe_14 jc_10 wfX6_36 (by decide) rfl rfl rfl rfl ?_
  refine j_aload_n x dX6_isSafe_17 rfl ?_
  refine j2_geti (k := 19) x hb dX6_isSafe_18 jc_10 wfX6_36 (by decide) rfl ?_
  refine j_if_ne (tgt := 36) x dX6_isSafe_21 (by decide) (fun hc => absurd hc (fun q => q jm_s)) (fun hc => ?_)
  refine j_aload_n x dX6_isSafe_24 rfl ?_
  refine j_iload_n x dX6_isSafe_25 rfl ?_
  refine j2_callVi x hb dX6_isSafe_26 m_X6_isSafeNow (cx_isSafeNow (d := d) hb hn (by rw [jm_n (by omega)]; exact hct) hw (by rw [jm_n (by omega)]; exact h0)) wmX6_176 jc_10 rfl rfl rfl (Nat.le_of_ble_eq_true rfl) (j_fit_rm (by omega) (by omega) (by omega)) rfl ?_
  refine j_if_eq (tgt := 36) x dX6_isSafe_29 (by decide) (fun h9 => ?_) (fun h9 => ?_)
  · refine j_iconst (v := 0) x dX6_isSafe_36 (by decide) ?_
    exact j_zreturn x hr dX6_isSafe_37 (by first | decide | with_reducible exact jb_nar | with_reducible exact jisS_nar | with_reducible exact gno_nar) (by omega) (by omega) ⟨by rw [jb_0.mp h9 |> fun z => jb_f z], rfl⟩
  · refine j_iconst (v := 1) x dX6_isSafe_32 (by decide) ?_
    refine j_goto (tgt := 37) x dX6_isSafe_33 (by decide) ?_
    exact j_zreturn x hr dX6_isSafe_37 (by first | decide | with_reducible exact jb_nar | with_reducible exact jisS_nar | with_reducible exact gno_nar) (by omega) (by omega) ⟨by rw [jb_t (jb_nz.mp h9)], rfl⟩
theorem cx_isOut {d : Nat} {b : SBt} {Y : OUt} {M : MM} (hb : 104 ≤ b.2.1) {t : Int32} (hT : ¬ t < 0 ∧ ¬ M 95 0 - 1 < t) {n : Nat} (hn : n ≤ 56) (hct : M 95 9 = nI n) {w : Nat} (hw : w ≤ 8) (h0 : M 95 0 = nI w) : CM (d + 6) 0 0 yX6_isOut cX6_isOut 2 (some .boolean) [.ref 94, .int t] b Y M (.inl (some (.int (jb (¬ jfst (fgO (jm M 94 19 0) n t) w = -1))))) ((jm M 94 19 0)) := by
  refine Con.of (by decide +kernel) (Nat.le_of_ble_eq_true rfl) rfl fun p l e s m args below meth c D tyc A ad0 x hr htab hname => ?_
  change JJ _ _ _ _ _ _ _ _ _ _ _ _ _ _ _ _ _ 0 [some (.ref 94), some (.int t)] [] _ 0 0
  refine j_aload_n x dX6_isOut_0 rfl ?_
  refine j_aload_n x dX6_isOut_1 rfl ?_
  refine j_iload_n x dX6_isOut_2 rfl ?_
  refine j2_callVi x hb dX6_isOut_3 m_X6_isTeam (CM_v (cx_isTeam (d := d) hb) (jb_t hT)) wmX6_91 jc_10 rfl rfl rfl (Nat.le_of_ble_eq_true rfl) (j_fit_rm (by omega) (by omega) (by omega)) rfl ?_
  refine j_if_eq (tgt := 13) x dX6_isOut_6 (by decide) (fun hc => absurd hc (by decide)) (fun hc => ?_)
  refine j_iconst (v := 0) x dX6_isOut_9 (by decide) ?_
  refine j_goto (tgt := 14) x dX6_isOut_10 (by decide) ?_
  refine j2_puti (k := 19) x hb dX6_isOut_14 jc_10 wfX6_36 (by decide) rfl rfl rfl rfl ?_
  refine j_aload_n x dX6_isOut_17 rfl ?_
  refine j2_geti (k := 19) x hb dX6_isOut_18 jc_10 wfX6_36 (by decide) rfl ?_
  refine j_if_ne (tgt := 36) x dX6_isOut_21 (by decide) (fun hc => absurd hc (fun q => q jm_s)) (fun hc => ?_)
  refine j_aload_n x dX6_isOut_24 rfl ?_
  refine j_iload_n x dX6_isOut_25 rfl ?_
  refine j2_callVi x hb dX6_isOut_26 m_X6_isOutNow (cx_isOutNow (d := d) hb hn (by rw [jm_n (by omega)]; exact hct) hw (by rw [jm_n (by omega)]; exact h0)) wmX6_179 jc_10 rfl rfl rfl (Nat.le_of_ble_eq_true rfl) (j_fit_rm (by omega) (by omega) (by omega)) rfl ?_
  refine j_if_eq (tgt := 36) x dX6_isOut_29 (by decide) (fun h9 => ?_) (fun h9 => ?_)
  · refine j_iconst (v := 0) x dX6_isOut_36 (by decide) ?_
    exact j_zreturn x hr dX6_isOut_37 (by first | decide | with_reducible exact jb_nar | with_reducible exact jisS_nar | with_reducible exact gno_nar) (by omega) (by omega) ⟨by rw [jb_0.mp h9 |> fun z => jb_f z], rfl⟩
  · refine j_iconst (v := 1) x dX6_isOut_32 (by decide) ?_
    refine j_goto (tgt := 37) x dX6_isOut_33 (by decide) ?_
    exact j_zreturn x hr dX6_isOut_37 (by first | decide | with_reducible exact jb_nar | with_reducible exact jisS_nar | with_reducible exact gno_nar) (by omega) (by omega) ⟨by rw [jb_t (jb_nz.mp h9)], rfl⟩
def gBet (M : MM) (u v : Int32) (m : Nat) : Int32 := jb (jof M m 0 = u ∧ jof M m 1 = v)
theorem cx_find_no {d : Nat} {b : SBt} {Y : OUt} {M : MM} (hb : 104 ≤ b.2.1) {t u : Int32} (hT : ¬ t < 0 ∧ ¬ M 95 0 - 1 < t) (hU : ¬ u < 0 ∧ ¬ M 95 0 - 1 < u) {n : Nat} (hn : n ≤ 56) (hct : M 95 9 = nI n) (h : jfst (gBet (jm M 94 19 0) t u) n = -1) : CM (d + 2) 0 0 yX6_find cX6_find 4 (some .int) [.ref 94, .int t, .int u] b Y M (.inl (some (.int (0)))) (jrai (jm M 94 19 0) 2) := by
  refine Con.of (by decide +kernel) (Nat.le_of_ble_eq_true rfl) rfl fun p l e s m args below meth c D tyc A ad0 x hr htab hname => ?_
  change JJ _ _ _ _ _ _ _ _ _ _ _ _ _ _ _ _ _ 0 [some (.ref 94), some (.int t), some (.int u), none] [] _ 0 0
  refine j_aload_n x dX6_find_0 rfl ?_
  refine j_iconst (v := 0) x dX6_find_1 (by decide) ?_
  refine j2_puti (k := 19) x hb dX6_find_2 jc_10 wfX6_36 (by decide) rfl rfl rfl rfl ?_
  refine j_aload_n x dX6_find_5 rfl ?_
  refine j_iload_n x dX6_find_6 rfl ?_
  refine j2_callVi x hb dX6_find_7 m_X6_isTeam (CM_v (cx_isTeam (d := d) hb) (jb_t (by rw [jm_n (by omega)]; exact hT))) wmX6_91 jc_10 rfl rfl rfl (Nat.le_of_ble_eq_true rfl) (j_fit_rm (by omega) (by omega) (by omega)) rfl ?_
  refine j_if_eq (tgt := 21) x dX6_find_10 (by decide) (fun hc => absurd hc (by decide)) (fun hc => ?_)
  refine j_aload_n x dX6_find_13 rfl ?_
  refine j_iload_n x dX6_find_14 rfl ?_
  refine j2_callVi x hb dX6_find_15 m_X6_isTeam (CM_v (cx_isTeam (d := d) hb) (jb_t (by rw [jm_n (by omega)]; exact hU))) wmX6_91 jc_10 rfl rfl rfl (Nat.le_of_ble_eq_true rfl) (j_fit_rm (by omega) (by omega) (by omega)) rfl ?_
  refine j_if_ne (tgt := 27) x dX6_find_18 (by decide) (fun hc => ?_) (fun hc => absurd hc (by decide))
  refine j_iconst (v := 0) x dX6_find_27 (by decide) ?_
  refine j_istore_n x dX6_find_28 (by decide) rfl ?_
  refine j_for (n) (fun z0 => [some (.ref 94), some (.int t), some (.int u), some (.int (nI z0))]) (fun z0 => (jm M 94 19 0)) (fun z0 => jfst (gBet (jm M 94 19 0) t u) z0 = -1) (rfl) (rfl) (rfl) (fun j hj hP ih => ?_) (fun hP => ?_)
  · refine j_iload_n x dX6_find_29 rfl ?_
    refine j_aload_n x dX6_find_30 rfl ?_
    refine j2_getr (k := 0) (r := 95) x hb dX6_find_31 jc_10 wfX6_9 (by decide) rfl ?_
    refine j_bipush (v := 9) x dX6_find_34 (by decide) ?_
    refine j2_ialn x hb dX6_find_36 fa_95 (j := 9) (vp_c (by decide)) (by decide) ?_; rw [jm_n (by omega), hct]
    refine j_icmp_ge (tgt := 68) x dX6_find_37 (by decide) (fun hc => absurd hc (nI_ge hj (by omega))) (fun hc => ?_)
    refine j_aload_n x dX6_find_40 rfl ?_
    refine j_iload_n x dX6_find_41 rfl ?_
    refine j_iconst (v := 0) x dX6_find_42 (by decide) ?_
    refine j2_callVi x hb dX6_find_43 m_X6_of (cx_of (d := d) hb (m1 := j) (w1 := 0) (by omega) (by decide)) wmX6_68 jc_10 rfl rfl rfl (Nat.le_of_ble_eq_true rfl) (j_fit_rm (by omega) (by omega) (by omega)) rfl ?_
    refine j_iload_n x dX6_find_46 rfl ?_
    refine j_icmp_ne (tgt := 62) x dX6_find_47 (by decide) (fun h1 => ?_) (fun h1 => ?_)
    · refine j_iinc x dX6_find_62 rfl (by decide) rfl ?_
      refine j_goto (tgt := 29) x dX6_find_65 (by decide) ?_
      exact j_goal (ih (jfst_no hP (fun q => absurd ((show gBet (jm M 94 19 0) t u j = 0 from jb_f (fun q => h1 q.1)).symm.trans q) (by decide)))) (wk_c rfl (wk_c rfl (wk_c rfl (wk_c (congrArg (fun z => some (Value.int z)) (nI_1 _)) (wk_0))))) (rfl)
    · refine j_aload_n x dX6_find_50 rfl ?_
      refine j_iload_n x dX6_find_51 rfl ?_
      refine j_iconst (v := 1) x dX6_find_52 (by decide) ?_
      refine j2_callVi x hb dX6_find_53 m_X6_of (cx_of (d := d) hb (m1 := j) (w1 := 1) (by omega) (by decide)) wmX6_68 jc_10 rfl rfl rfl (Nat.le_of_ble_eq_true rfl) (j_fit_rm (by omega) (by omega) (by omega)) rfl ?_
      refine j_iload_n x dX6_find_56 rfl ?_
      refine j_icmp_ne (tgt := 62) x dX6_find_57 (by decide) (fun h2 => ?_) (fun h2 => ?_)
      · refine j_iinc x dX6_find_62 rfl (by decide) rfl ?_
        refine j_goto (tgt := 29) x dX6_find_65 (by decide) ?_
        exact j_goal (ih (jfst_no hP (fun q => absurd ((show gBet (jm M 94 19 0) t u j = 0 from jb_f (fun q => h2 q.2)).symm.trans q) (by decide)))) (wk_c rfl (wk_c rfl (wk_c rfl (wk_c (congrArg (fun z => some (Value.int z)) (nI_1 _)) (wk_0))))) (rfl)
      · refine j_iload_n x dX6_find_60 rfl ?_
        exact j_ireturn x hr dX6_find_61 (by omega) (by omega) ⟨absurd ((jfst_at hP (show gBet (jm M 94 19 0) t u j = 1 from jb_t ⟨h1, h2⟩) (by omega) hj).symm.trans h) (nI_nm1 (by omega)), absurd ((jfst_at hP (show gBet (jm M 94 19 0) t u j = 1 from jb_t ⟨h1, h2⟩) (by omega) hj).symm.trans h) (nI_nm1 (by omega))⟩
  refine j_iload_n x dX6_find_29 rfl ?_
  refine j_aload_n x dX6_find_30 rfl ?_
  refine j2_getr (k := 0) (r := 95) x hb dX6_find_31 jc_10 wfX6_9 (by decide) rfl ?_
  refine j_bipush (v := 9) x dX6_find_34 (by decide) ?_
  refine j2_ialn x hb dX6_find_36 fa_95 (j := 9) (vp_c (by decide)) (by decide) ?_; rw [jm_n (by omega), hct]
  refine j_icmp_ge (tgt := 68) x dX6_find_37 (by decide) (fun hc => ?_) (fun hc => absurd (nI_le (Nat.le_refl _) (by omega)) hc)
  refine j_aload_n x dX6_find_68 rfl ?_
  refine j_iconst (v := 2) x dX6_find_69 (by decide) ?_
  refine j2_callVi x hb dX6_find_70 m_X6_raises (cx_raises (d := d) hb) wmX6_61 jc_10 rfl rfl rfl (Nat.le_of_ble_eq_true rfl) (j_fit_rm (by omega) (by omega) (by omega)) rfl ?_
  exact j_ireturn x hr dX6_find_73 (by omega) (by omega) ⟨rfl, rfl⟩
theorem cx_find_ok {d : Nat} {b : SBt} {Y : OUt} {M : MM} (hb : 104 ≤ b.2.1) {t u : Int32} (hT : ¬ t < 0 ∧ ¬ M 95 0 - 1 < t) (hU : ¬ u < 0 ∧ ¬ M 95 0 - 1 < u) {n : Nat} (hn : n ≤ 56) (hct : M 95 9 = nI n) (h : ¬ jfst (gBet (jm M 94 19 0) t u) n = -1) : CM (d + 2) 0 0 yX6_find cX6_find 4 (some .int) [.ref 94, .int t, .int u] b Y M (.inl (some (.int (jfst (gBet (jm M 94 19 0) t u) n)))) ((jm M 94 19 0)) := by
  refine Con.of (by decide +kernel) (Nat.le_of_ble_eq_true rfl) rfl fun p l e s m args below meth c D tyc A ad0 x hr htab hname => ?_
  change JJ _ _ _ _ _ _ _ _ _ _ _ _ _ _ _ _ _ 0 [some (.ref 94), some (.int t), some (.int u), none] [] _ 0 0
  refine j_aload_n x dX6_find_0 rfl ?_
  refine j_iconst (v := 0) x dX6_find_1 (by decide) ?_
  refine j2_puti (k := 19) x hb dX6_find_2 jc_10 wfX6_36 (by decide) rfl rfl rfl rfl ?_
  refine j_aload_n x dX6_find_5 rfl ?_
  refine j_iload_n x dX6_find_6 rfl ?_
  refine j2_callVi x hb dX6_find_7 m_X6_isTeam (CM_v (cx_isTeam (d := d) hb) (jb_t (by rw [jm_n (by omega)]; exact hT))) wmX6_91 jc_10 rfl rfl rfl (Nat.le_of_ble_eq_true rfl) (j_fit_rm (by omega) (by omega) (by omega)) rfl ?_
  refine j_if_eq (tgt := 21) x dX6_find_10 (by decide) (fun hc => absurd hc (by decide)) (fun hc => ?_)
  refine j_aload_n x dX6_find_13 rfl ?_
  refine j_iload_n x dX6_find_14 rfl ?_
  refine j2_callVi x hb dX6_find_15 m_X6_isTeam (CM_v (cx_isTeam (d := d) hb) (jb_t (by rw [jm_n (by omega)]; exact hU))) wmX6_91 jc_10 rfl rfl rfl (Nat.le_of_ble_eq_true rfl) (j_fit_rm (by omega) (by omega) (by omega)) rfl ?_
  refine j_if_ne (tgt := 27) x dX6_find_18 (by decide) (fun hc => ?_) (fun hc => absurd hc (by decide))
  refine j_iconst (v := 0) x dX6_find_27 (by decide) ?_
  refine j_istore_n x dX6_find_28 (by decide) rfl ?_
  refine j_for (n) (fun z0 => [some (.ref 94), some (.int t), some (.int u), some (.int (nI z0))]) (fun z0 => (jm M 94 19 0)) (fun z0 => jfst (gBet (jm M 94 19 0) t u) z0 = -1) (rfl) (rfl) (rfl) (fun j hj hP ih => ?_) (fun hP => ?_)
  · refine j_iload_n x dX6_find_29 rfl ?_
    refine j_aload_n x dX6_find_30 rfl ?_
    refine j2_getr (k := 0) (r := 95) x hb dX6_find_31 jc_10 wfX6_9 (by decide) rfl ?_
    refine j_bipush (v := 9) x dX6_find_34 (by decide) ?_
    refine j2_ialn x hb dX6_find_36 fa_95 (j := 9) (vp_c (by decide)) (by decide) ?_; rw [jm_n (by omega), hct]
    refine j_icmp_ge (tgt := 68) x dX6_find_37 (by decide) (fun hc => absurd hc (nI_ge hj (by omega))) (fun hc => ?_)
    refine j_aload_n x dX6_find_40 rfl ?_
    refine j_iload_n x dX6_find_41 rfl ?_
    refine j_iconst (v := 0) x dX6_find_42 (by decide) ?_
    refine j2_callVi x hb dX6_find_43 m_X6_of (cx_of (d := d) hb (m1 := j) (w1 := 0) (by omega) (by decide)) wmX6_68 jc_10 rfl rfl rfl (Nat.le_of_ble_eq_true rfl) (j_fit_rm (by omega) (by omega) (by omega)) rfl ?_
    refine j_iload_n x dX6_find_46 rfl ?_
    refine j_icmp_ne (tgt := 62) x dX6_find_47 (by decide) (fun h1 => ?_) (fun h1 => ?_)
    · refine j_iinc x dX6_find_62 rfl (by decide) rfl ?_
      refine j_goto (tgt := 29) x dX6_find_65 (by decide) ?_
      exact j_goal (ih (jfst_no hP (fun q => absurd ((show gBet (jm M 94 19 0) t u j = 0 from jb_f (fun q => h1 q.1)).symm.trans q) (by decide)))) (wk_c rfl (wk_c rfl (wk_c rfl (wk_c (congrArg (fun z => some (Value.int z)) (nI_1 _)) (wk_0))))) (rfl)
    · refine j_aload_n x dX6_find_50 rfl ?_
      refine j_iload_n x dX6_find_51 rfl ?_
      refine j_iconst (v := 1) x dX6_find_52 (by decide) ?_
      refine j2_callVi x hb dX6_find_53 m_X6_of (cx_of (d := d) hb (m1 := j) (w1 := 1) (by omega) (by decide)) wmX6_68 jc_10 rfl rfl rfl (Nat.le_of_ble_eq_true rfl) (j_fit_rm (by omega) (by omega) (by omega)) rfl ?_
      refine j_iload_n x dX6_find_56 rfl ?_
      refine j_icmp_ne (tgt := 62) x dX6_find_57 (by decide) (fun h2 => ?_) (fun h2 => ?_)
      · refine j_iinc x dX6_find_62 rfl (by decide) rfl ?_
        refine j_goto (tgt := 29) x dX6_find_65 (by decide) ?_
        exact j_goal (ih (jfst_no hP (fun q => absurd ((show gBet (jm M 94 19 0) t u j = 0 from jb_f (fun q => h2 q.2)).symm.trans q) (by decide)))) (wk_c rfl (wk_c rfl (wk_c rfl (wk_c (congrArg (fun z => some (Value.int z)) (nI_1 _)) (wk_0))))) (rfl)
      · refine j_iload_n x dX6_find_60 rfl ?_
        exact j_ireturn x hr dX6_find_61 (by omega) (by omega) ⟨by rw [jfst_at hP (show gBet (jm M 94 19 0) t u j = 1 from jb_t ⟨h1, h2⟩) (by omega) hj], rfl⟩
  refine j_iload_n x dX6_find_29 rfl ?_
  refine j_aload_n x dX6_find_30 rfl ?_
  refine j2_getr (k := 0) (r := 95) x hb dX6_find_31 jc_10 wfX6_9 (by decide) rfl ?_
  refine j_bipush (v := 9) x dX6_find_34 (by decide) ?_
  refine j2_ialn x hb dX6_find_36 fa_95 (j := 9) (vp_c (by decide)) (by decide) ?_; rw [jm_n (by omega), hct]
  refine j_icmp_ge (tgt := 68) x dX6_find_37 (by decide) (fun hc => ?_) (fun hc => absurd (nI_le (Nat.le_refl _) (by omega)) hc)
  exact absurd hP h
theorem cx_find_nt {d : Nat} {b : SBt} {Y : OUt} {M : MM} (hb : 104 ≤ b.2.1) {t u : Int32} (hT : ¬ ((¬ t < 0 ∧ ¬ M 95 0 - 1 < t) ∧ (¬ u < 0 ∧ ¬ M 95 0 - 1 < u))) : CM (d + 2) 0 0 yX6_find cX6_find 4 (some .int) [.ref 94, .int t, .int u] b Y M (.inl (some (.int (0)))) (jrai (jm M 94 19 0) 1) := by
  refine Con.of (by decide +kernel) (Nat.le_of_ble_eq_true rfl) rfl fun p l e s m args below meth c D tyc A ad0 x hr htab hname => ?_
  change JJ _ _ _ _ _ _ _ _ _ _ _ _ _ _ _ _ _ 0 [some (.ref 94), some (.int t), some (.int u), none] [] _ 0 0
  refine j_aload_n x dX6_find_0 rfl ?_
  refine j_iconst (v := 0) x dX6_find_1 (by decide) ?_
  refine j2_puti (k := 19) x hb dX6_find_2 jc_10 wfX6_36 (by decide) rfl rfl rfl rfl ?_
  refine j_aload_n x dX6_find_5 rfl ?_
  refine j_iload_n x dX6_find_6 rfl ?_
  refine j2_callVi x hb dX6_find_7 m_X6_isTeam (show CM (d + 1) 0 0 _ _ _ _ _ b Y (jm M 94 19 0) (.inl (some (.int (jb (¬ t < 0 ∧ ¬ M 95 0 - 1 < t))))) (jm M 94 19 0) from by have z := cx_isTeam (d := d) (Y := Y) (M := (jm M 94 19 0)) (t := t) hb; rw [jm_n (by omega)] at z; exact z) wmX6_91 jc_10 rfl rfl rfl (Nat.le_of_ble_eq_true rfl) (j_fit_rm (by omega) (by omega) (by omega)) rfl ?_
  refine j_if_eq (tgt := 21) x dX6_find_10 (by decide) (fun h1 => ?_) (fun h1 => ?_)
  · refine j_aload_n x dX6_find_21 rfl ?_
    refine j_iconst (v := 1) x dX6_find_22 (by decide) ?_
    refine j2_callVi x hb dX6_find_23 m_X6_raises (cx_raises (d := d) hb) wmX6_61 jc_10 rfl rfl rfl (Nat.le_of_ble_eq_true rfl) (j_fit_rm (by omega) (by omega) (by omega)) rfl ?_
    exact j_ireturn x hr dX6_find_26 (by omega) (by omega) ⟨rfl, rfl⟩
  · refine j_aload_n x dX6_find_13 rfl ?_
    refine j_iload_n x dX6_find_14 rfl ?_
    refine j2_callVi x hb dX6_find_15 m_X6_isTeam (show CM (d + 1) 0 0 _ _ _ _ _ b Y (jm M 94 19 0) (.inl (some (.int (jb (¬ u < 0 ∧ ¬ M 95 0 - 1 < u))))) (jm M 94 19 0) from by have z := cx_isTeam (d := d) (Y := Y) (M := (jm M 94 19 0)) (t := u) hb; rw [jm_n (by omega)] at z; exact z) wmX6_91 jc_10 rfl rfl rfl (Nat.le_of_ble_eq_true rfl) (j_fit_rm (by omega) (by omega) (by omega)) rfl ?_
    refine j_if_ne (tgt := 27) x dX6_find_18 (by decide) (fun hc => absurd hc (fun q => hT ⟨jb_nz.mp h1, jb_nz.mp q⟩)) (fun hc => ?_)
    refine j_aload_n x dX6_find_21 rfl ?_
    refine j_iconst (v := 1) x dX6_find_22 (by decide) ?_
    refine j2_callVi x hb dX6_find_23 m_X6_raises (cx_raises (d := d) hb) wmX6_61 jc_10 rfl rfl rfl (Nat.le_of_ble_eq_true rfl) (j_fit_rm (by omega) (by omega) (by omega)) rfl ?_
    exact j_ireturn x hr dX6_find_26 (by omega) (by omega) ⟨rfl, rfl⟩
