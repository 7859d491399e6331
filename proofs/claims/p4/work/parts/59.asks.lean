/-! ===== the reference: weeks, runs, accounts ===== -/
theorem cx_byeIn_no {d : Nat} {b : SBt} {Y : OUt} {M : MM} (hb : 104 ≤ b.2.1) {t : Int32} {w : Nat} (hT : ¬ t < 0 ∧ ¬ M 95 1 - 1 < t) (h0 : M 95 0 = nI w) (h2 : nI w - nI w / 2 * 2 = 0) : CM (d + 2) 0 0 yX6_byeIn cX6_byeIn 2 (some .int) [.ref 94, .int t] b Y M (.inl (some (.int (0)))) (jrai (jm M 94 19 0) 2) := by
  refine Con.of (by decide +kernel) (Nat.le_of_ble_eq_true rfl) rfl fun p l e s m args below meth c D tyc A ad0 x hr htab hname => ?_
  change JJ _ _ _ _ _ _ _ _ _ _ _ _ _ _ _ _ _ 0 [some (.ref 94), some (.int t)] [] _ 0 0
  refine j_aload_n x dX6_byeIn_0 rfl ?_
  refine j_iconst (v := 0) x dX6_byeIn_1 (by decide) ?_
  refine j2_puti (k := 19) x hb dX6_byeIn_2 jc_10 wfX6_36 (by decide) rfl rfl rfl rfl ?_
  refine j_aload_n x dX6_byeIn_5 rfl ?_
  refine j_iload_n x dX6_byeIn_6 rfl ?_
  refine j2_callVi x hb dX6_byeIn_7 m_X6_isWeek (CM_v (cx_isWeek (d := d) hb) (jb_t (by rw [jm_n (by omega)]; exact hT))) wmX6_140 jc_10 rfl rfl rfl (Nat.le_of_ble_eq_true rfl) (j_fit_rm (by omega) (by omega) (by omega)) rfl ?_
  refine j_if_ne (tgt := 19) x dX6_byeIn_10 (by decide) (fun hc => ?_) (fun hc => absurd hc (by decide))
  refine j_aload_n x dX6_byeIn_19 rfl ?_
  refine j2_getr (k := 0) (r := 95) x hb dX6_byeIn_20 jc_10 wfX6_9 (by decide) rfl ?_
  refine j_iconst (v := 0) x dX6_byeIn_23 (by decide) ?_
  refine j2_ialn x hb dX6_byeIn_24 fa_95 (j := 0) (vp_c (by decide)) (by decide) ?_; rw [jm_n (by omega), h0]
  refine j_iconst (v := 2) x dX6_byeIn_25 (by decide) ?_
  refine j_irem x dX6_byeIn_26 (by decide) ?_
  refine j_if_ne (tgt := 36) x dX6_byeIn_27 (by decide) (fun hc => absurd hc (fun q => q h2)) (fun hc => ?_)
  refine j_aload_n x dX6_byeIn_30 rfl ?_
  refine j_iconst (v := 2) x dX6_byeIn_31 (by decide) ?_
  refine j2_callVi x hb dX6_byeIn_32 m_X6_raises (cx_raises (d := d) hb) wmX6_61 jc_10 rfl rfl rfl (Nat.le_of_ble_eq_true rfl) (j_fit_rm (by omega) (by omega) (by omega)) rfl ?_
  exact j_ireturn x hr dX6_byeIn_35 (by omega) (by omega) ⟨rfl, rfl⟩
theorem cx_byeIn_ok {d : Nat} {b : SBt} {Y : OUt} {M : MM} (hb : 104 ≤ b.2.1) {t : Int32} {w : Nat} (hT : ¬ t < 0 ∧ ¬ M 95 1 - 1 < t) (h0 : M 95 0 = nI w) (h2 : ¬ nI w - nI w / 2 * 2 = 0) (hp : ¬ gpl (nI w) - 1 = 0) : CM (d + 2) 0 0 yX6_byeIn cX6_byeIn 2 (some .int) [.ref 94, .int t] b Y M (.inl (some (.int (t - t / (gpl (nI w) - 1) * (gpl (nI w) - 1))))) ((jm M 94 19 0)) := by
  refine Con.of (by decide +kernel) (Nat.le_of_ble_eq_true rfl) rfl fun p l e s m args below meth c D tyc A ad0 x hr htab hname => ?_
  change JJ _ _ _ _ _ _ _ _ _ _ _ _ _ _ _ _ _ 0 [some (.ref 94), some (.int t)] [] _ 0 0
  refine j_aload_n x dX6_byeIn_0 rfl ?_
  refine j_iconst (v := 0) x dX6_byeIn_1 (by decide) ?_
  refine j2_puti (k := 19) x hb dX6_byeIn_2 jc_10 wfX6_36 (by decide) rfl rfl rfl rfl ?_
  refine j_aload_n x dX6_byeIn_5 rfl ?_
  refine j_iload_n x dX6_byeIn_6 rfl ?_
  refine j2_callVi x hb dX6_byeIn_7 m_X6_isWeek (CM_v (cx_isWeek (d := d) hb) (jb_t (by rw [jm_n (by omega)]; exact hT))) wmX6_140 jc_10 rfl rfl rfl (Nat.le_of_ble_eq_true rfl) (j_fit_rm (by omega) (by omega) (by omega)) rfl ?_
  refine j_if_ne (tgt := 19) x dX6_byeIn_10 (by decide) (fun hc => ?_) (fun hc => absurd hc (by decide))
  refine j_aload_n x dX6_byeIn_19 rfl ?_
  refine j2_getr (k := 0) (r := 95) x hb dX6_byeIn_20 jc_10 wfX6_9 (by decide) rfl ?_
  refine j_iconst (v := 0) x dX6_byeIn_23 (by decide) ?_
  refine j2_ialn x hb dX6_byeIn_24 fa_95 (j := 0) (vp_c (by decide)) (by decide) ?_; rw [jm_n (by omega), h0]
  refine j_iconst (v := 2) x dX6_byeIn_25 (by decide) ?_
  refine j_irem x dX6_byeIn_26 (by decide) ?_
  refine j_if_ne (tgt := 36) x dX6_byeIn_27 (by decide) (fun hc => ?_) (fun hc => absurd hc (h2))
  refine j_iload_n x dX6_byeIn_36 rfl ?_
  refine j_aload_n x dX6_byeIn_37 rfl ?_
  refine j2_callVi x hb dX6_byeIn_38 m_X6_places (CM_v (cx_places (d := d) hb) (show _ = gpl (nI w) by rw [jm_n (by omega), h0]; rfl)) wmX6_94 jc_10 rfl rfl rfl (Nat.le_of_ble_eq_true rfl) (j_fit_rm (by omega) (by omega) (by omega)) rfl ?_
  refine j_iconst (v := 1) x dX6_byeIn_41 (by decide) ?_
  refine j_isub x dX6_byeIn_42 ?_
  refine j_irem x dX6_byeIn_43 hp ?_
  exact j_ireturn x hr dX6_byeIn_44 (by omega) (by omega) ⟨rfl, rfl⟩
def gIn (M : MM) (t : Int32) (m : Nat) : Int32 := jb (jof M m 2 = t)
theorem cx_meetingsIn {d : Nat} {b : SBt} {Y : OUt} {M : MM} (hb : 104 ≤ b.2.1) {t : Int32} (hT : ¬ t < 0 ∧ ¬ M 95 1 - 1 < t) {n : Nat} (hn : n ≤ 56) (hct : M 95 9 = nI n) : CM (d + 2) 0 0 yX6_meetingsIn cX6_meetingsIn 4 (some .int) [.ref 94, .int t] b Y M (.inl (some (.int (jsum (gIn (jm M 94 19 0) t) n)))) ((jm M 94 19 0)) := by
  refine Con.of (by decide +kernel) (Nat.le_of_ble_eq_true rfl) rfl fun p l e s m args below meth c D tyc A ad0 x hr htab hname => ?_
  change JJ _ _ _ _ _ _ _ _ _ _ _ _ _ _ _ _ _ 0 [some (.ref 94), some (.int t), none, none] [] _ 0 0
  refine j_aload_n x dX6_meetingsIn_0 rfl ?_
  refine j_iconst (v := 0) x dX6_meetingsIn_1 (by decide) ?_
  refine j2_puti (k := 19) x hb dX6_meetingsIn_2 jc_10 wfX6_36 (by decide) rfl rfl rfl rfl ?_
  refine j_aload_n x dX6_meetingsIn_5 rfl ?_
  refine j_iload_n x dX6_meetingsIn_6 rfl ?_
  refine j2_callVi x hb dX6_meetingsIn_7 m_X6_isWeek (CM_v (cx_isWeek (d := d) hb) (jb_t (by rw [jm_n (by omega)]; exact hT))) wmX6_140 jc_10 rfl rfl rfl (Nat.le_of_ble_eq_true rfl) (j_fit_rm (by omega) (by omega) (by omega)) rfl ?_
  refine j_if_ne (tgt := 19) x dX6_meetingsIn_10 (by decide) (fun hc => ?_) (fun hc => absurd hc (by decide))
  refine j_iconst (v := 0) x dX6_meetingsIn_19 (by decide) ?_
  refine j_istore_n x dX6_meetingsIn_20 (by decide) rfl ?_
  refine j_iconst (v := 0) x dX6_meetingsIn_21 (by decide) ?_
  refine j_istore_n x dX6_meetingsIn_22 (by decide) rfl ?_
  refine j_for (n) (fun z0 => [some (.ref 94), some (.int t), some (.int (jsum (gIn (jm M 94 19 0) t) z0)), some (.int (nI z0))]) (fun z0 => (jm M 94 19 0)) (fun z0 => True) (rfl) (rfl) (trivial) (fun j hj hP ih => ?_) (fun hP => ?_)
  · refine j_iload_n x dX6_meetingsIn_23 rfl ?_
    refine j_aload_n x dX6_meetingsIn_24 rfl ?_
    refine j2_getr (k := 0) (r := 95) x hb dX6_meetingsIn_25 jc_10 wfX6_9 (by decide) rfl ?_
    refine j_bipush (v := 9) x dX6_meetingsIn_28 (by decide) ?_
    refine j2_ialn x hb dX6_meetingsIn_30 fa_95 (j := 9) (vp_c (by decide)) (by decide) ?_; rw [jm_n (by omega), hct]
    refine j_icmp_ge (tgt := 53) x dX6_meetingsIn_31 (by decide) (fun hc => absurd hc (nI_ge hj (by omega))) (fun hc => ?_)
    refine j_aload_n x dX6_meetingsIn_34 rfl ?_
    refine j_iload_n x dX6_meetingsIn_35 rfl ?_
    refine j_iconst (v := 2) x dX6_meetingsIn_36 (by decide) ?_
    refine j2_callVi x hb dX6_meetingsIn_37 m_X6_of (cx_of (d := d) hb (m1 := j) (w1 := 2) (by omega) (by decide)) wmX6_68 jc_10 rfl rfl rfl (Nat.le_of_ble_eq_true rfl) (j_fit_rm (by omega) (by omega) (by omega)) rfl ?_
    refine j_iload_n x dX6_meetingsIn_40 rfl ?_
    refine j_icmp_ne (tgt := 47) x dX6_meetingsIn_41 (by decide) (fun h1 => ?_) (fun h1 => ?_)
    · refine j_iinc x dX6_meetingsIn_47 rfl (by decide) rfl ?_
      refine j_goto (tgt := 23) x dX6_meetingsIn_50 (by decide) ?_
      exact j_goal (ih (trivial)) (wk_c rfl (wk_c rfl (wk_c (congrArg (fun z => some (Value.int z)) (jsum_f (jb_f h1))) (wk_c (congrArg (fun z => some (Value.int z)) (nI_1 _)) (wk_0))))) (rfl)
    · refine j_iinc x dX6_meetingsIn_44 rfl (by decide) rfl ?_
      refine j_iinc x dX6_meetingsIn_47 rfl (by decide) rfl ?_
      refine j_goto (tgt := 23) x dX6_meetingsIn_50 (by decide) ?_
      exact j_goal (ih (trivial)) (wk_c rfl (wk_c rfl (wk_c (congrArg (fun z => some (Value.int z)) (jsum_v (jb_t h1))) (wk_c (congrArg (fun z => some (Value.int z)) (nI_1 _)) (wk_0))))) (rfl)
  refine j_iload_n x dX6_meetingsIn_23 rfl ?_
  refine j_aload_n x dX6_meetingsIn_24 rfl ?_
  refine j2_getr (k := 0) (r := 95) x hb dX6_meetingsIn_25 jc_10 wfX6_9 (by decide) rfl ?_
  refine j_bipush (v := 9) x dX6_meetingsIn_28 (by decide) ?_
  refine j2_ialn x hb dX6_meetingsIn_30 fa_95 (j := 9) (vp_c (by decide)) (by decide) ?_; rw [jm_n (by omega), hct]
  refine j_icmp_ge (tgt := 53) x dX6_meetingsIn_31 (by decide) (fun hc => ?_) (fun hc => absurd (nI_le (Nat.le_refl _) (by omega)) hc)
  refine j_iload_n x dX6_meetingsIn_53 rfl ?_
  exact j_ireturn x hr dX6_meetingsIn_54 (by omega) (by omega) ⟨rfl, rfl⟩
theorem cx_clashesW {d : Nat} {b : SBt} {Y : OUt} {M : MM} (hb : 104 ≤ b.2.1) {t : Int32} (hT : ¬ t < 0 ∧ ¬ M 95 1 - 1 < t) {n : Nat} (hn : n ≤ 56) (hct : M 95 9 = nI n) (hho : ∀ i, i < n → ∃ h, h < 8 ∧ jof M i 0 = nI h) : CM (d + 4) 0 0 yX6_clashes_ cX6_clashes_ 2 (some .int) [.ref 94, .int t] b Y M (.inl (some (.int (gpairs (jm M 94 19 0) n t)))) ((jm M 94 19 0)) := by
  refine Con.of (by decide +kernel) (Nat.le_of_ble_eq_true rfl) rfl fun p l e s m args below meth c D tyc A ad0 x hr htab hname => ?_
  change JJ _ _ _ _ _ _ _ _ _ _ _ _ _ _ _ _ _ 0 [some (.ref 94), some (.int t)] [] _ 0 0
  refine j_aload_n x dX6_clashes__0 rfl ?_
  refine j_iconst (v := 0) x dX6_clashes__1 (by decide) ?_
  refine j2_puti (k := 19) x hb dX6_clashes__2 jc_10 wfX6_36 (by decide) rfl rfl rfl rfl ?_
  refine j_aload_n x dX6_clashes__5 rfl ?_
  refine j_iload_n x dX6_clashes__6 rfl ?_
  refine j2_callVi x hb dX6_clashes__7 m_X6_isWeek (CM_v (cx_isWeek (d := d) hb) (jb_t (by rw [jm_n (by omega)]; exact hT))) wmX6_140 jc_10 rfl rfl rfl (Nat.le_of_ble_eq_true rfl) (j_fit_rm (by omega) (by omega) (by omega)) rfl ?_
  refine j_if_eq (tgt := 21) x dX6_clashes__10 (by decide) (fun hc => absurd hc (by decide)) (fun hc => ?_)
  refine j_aload_n x dX6_clashes__13 rfl ?_
  refine j_iload_n x dX6_clashes__14 rfl ?_
  refine j2_callVi x hb dX6_clashes__15 m_X6_clashesIn (cx_clashesIn (d := d) hb hn (by rw [jm_n (by omega)]; exact hct) (fun i hi => by have z := hho i hi; unfold jof at z ⊢; rw [jm_n (by omega)]; exact z)) wmX6_158 jc_10 rfl rfl rfl (Nat.le_of_ble_eq_true rfl) (j_fit_rm (by omega) (by omega) (by omega)) rfl ?_
  refine j_goto (tgt := 26) x dX6_clashes__18 (by decide) ?_
  exact j_ireturn x hr dX6_clashes__26 (by omega) (by omega) ⟨rfl, rfl⟩
def gfree (M : MM) (n z q0 q : Nat) : Int32 := if jfst (fun i => jb (jsum (gCl (jm M 94 19 0) q (nI (q0 + 1 + i))) n = 0)) (z - (q0 + 1)) = -1 then -1 else nI (q0 + 1) + jfst (fun i => jb (jsum (gCl (jm M 94 19 0) q (nI (q0 + 1 + i))) n = 0)) (z - (q0 + 1))
theorem cx_freeWeek_ok {d : Nat} {b : SBt} {Y : OUt} {M : MM} (hb : 104 ≤ b.2.1) {n q : Nat} (hn : n ≤ 56) (hct : M 95 9 = nI n) (hq : q < n) (hho : ∀ i, i < n → ∃ h, h < 8 ∧ jof M i 0 = nI h) {z q0 : Nat} (hz : z ≤ 14) (hz1 : M 95 1 = nI z) (hq2 : jof M q 2 = nI q0) (hq0 : q0 < z) (h : ¬ gfree M n z q0 q = -1) : CM (d + 3) 0 0 yX6_freeWeek cX6_freeWeek 3 (some .int) [.ref 94, .int (nI q)] b Y M (.inl (some (.int (gfree M n z q0 q)))) ((jm M 94 19 0)) := by
  refine Con.of (by decide +kernel) (Nat.le_of_ble_eq_true rfl) rfl fun p l e s m args below meth c D tyc A ad0 x hr htab hname => ?_
  change JJ _ _ _ _ _ _ _ _ _ _ _ _ _ _ _ _ _ 0 [some (.ref 94), some (.int (nI q)), none] [] _ 0 0
  refine j_aload_n x dX6_freeWeek_0 rfl ?_
  refine j_iconst (v := 0) x dX6_freeWeek_1 (by decide) ?_
  refine j2_puti (k := 19) x hb dX6_freeWeek_2 jc_10 wfX6_36 (by decide) rfl rfl rfl rfl ?_
  refine j_aload_n x dX6_freeWeek_5 rfl ?_
  refine j_iload_n x dX6_freeWeek_6 rfl ?_
  refine j2_callVi x hb dX6_freeWeek_7 m_X6_isMeeting (CM_v (cx_isMeeting (d := d) hb) (jb_t ⟨nI_pos (by omega), by rw [jm_n (by omega), hct, show (nI n - 1 : Int32) = nI (n - 1) from nI_sub (d := 1) (by omega)]; exact nI_nlt (by omega) (by omega)⟩)) wmX6_122 jc_10 rfl rfl rfl (Nat.le_of_ble_eq_true rfl) (j_fit_rm (by omega) (by omega) (by omega)) rfl ?_
  refine j_if_ne (tgt := 19) x dX6_freeWeek_10 (by decide) (fun hc => ?_) (fun hc => absurd hc (by decide))
  refine j_aload_n x dX6_freeWeek_19 rfl ?_
  refine j_iload_n x dX6_freeWeek_20 rfl ?_
  refine j_iconst (v := 2) x dX6_freeWeek_21 (by decide) ?_
  refine j2_callVi x hb dX6_freeWeek_22 m_X6_of (cx_of (d := d) hb (m1 := q) (w1 := 2) (by omega) (by decide)) wmX6_68 jc_10 rfl rfl rfl (Nat.le_of_ble_eq_true rfl) (j_fit_rm (by omega) (by omega) (by omega)) rfl ?_
  refine j_iconst (v := 1) x dX6_freeWeek_25 (by decide) ?_
  rw [show jof (jm M 94 19 0) q 2 = nI q0 from (by unfold jof at hq2 ⊢; rw [jm_n (by omega)]; exact hq2)]; refine j_iadd x dX6_freeWeek_26 ?_; rw [nI_1]
  refine j_istore_n x dX6_freeWeek_27 (by decide) rfl ?_
  refine j_for (z - (q0 + 1)) (fun z0 => [some (.ref 94), some (.int (nI q)), some (.int (nI (q0 + 1 + z0)))]) (fun z0 => (jm M 94 19 0)) (fun z0 => jfst (fun i => jb (jsum (gCl (jm M 94 19 0) q (nI (q0 + 1 + i))) n = 0)) z0 = -1) (rfl) (rfl) (rfl) (fun j hj hP ih => ?_) (fun hP => ?_)
  · refine j_iload_n x dX6_freeWeek_28 rfl ?_
    refine j_aload_n x dX6_freeWeek_29 rfl ?_
    refine j2_getr (k := 0) (r := 95) x hb dX6_freeWeek_30 jc_10 wfX6_9 (by decide) rfl ?_
    refine j_iconst (v := 1) x dX6_freeWeek_33 (by decide) ?_
    refine j2_ialn x hb dX6_freeWeek_34 fa_95 (j := 1) (vp_c (by decide)) (by decide) ?_; rw [jm_n (by omega), hz1]
    refine j_icmp_ge (tgt := 55) x dX6_freeWeek_35 (by decide) (fun hc => absurd hc (nI_ge (by omega) (by omega))) (fun hc => ?_)
    refine j_aload_n x dX6_freeWeek_38 rfl ?_
    refine j_iload_n x dX6_freeWeek_39 rfl ?_
    refine j_iload_n x dX6_freeWeek_40 rfl ?_
    refine j2_callVi x hb dX6_freeWeek_41 m_X6_clashes (cx_clashesOf (d := d) hb hn (by rw [jm_n (by omega)]; exact hct) hq (fun i hi => by have z := hho i hi; unfold jof at z ⊢; rw [jm_n (by omega)]; exact z)) wmX6_143 jc_10 rfl rfl rfl (Nat.le_of_ble_eq_true rfl) (j_fit_rm (by omega) (by omega) (by omega)) rfl ?_
    refine j_if_ne (tgt := 49) x dX6_freeWeek_44 (by decide) (fun h1 => ?_) (fun h1 => ?_)
    · refine j_iinc x dX6_freeWeek_49 rfl (by decide) rfl ?_
      refine j_goto (tgt := 28) x dX6_freeWeek_52 (by decide) ?_
      exact j_goal (ih (jfst_no hP (fun y => absurd ((show (fun i => jb (jsum (gCl (jm M 94 19 0) q (nI (q0 + 1 + i))) n = 0)) j = 0 from jb_f h1).symm.trans y) (by decide)))) (wk_c rfl (wk_c rfl (wk_c (congrArg (fun z => some (Value.int z)) (nI_1 (q0 + 1 + j))) (wk_0)))) (rfl)
    · refine j_iload_n x dX6_freeWeek_47 rfl ?_
      exact j_ireturn x hr dX6_freeWeek_48 (by omega) (by omega) ⟨by unfold gfree; rw [jfst_at hP (show (fun i => jb (jsum (gCl (jm M 94 19 0) q (nI (q0 + 1 + i))) n = 0)) j = 1 from jb_t h1) (by omega) hj, if_neg (nI_nm1 (by omega)), nI_add], rfl⟩
  refine j_iload_n x dX6_freeWeek_28 rfl ?_
  refine j_aload_n x dX6_freeWeek_29 rfl ?_
  refine j2_getr (k := 0) (r := 95) x hb dX6_freeWeek_30 jc_10 wfX6_9 (by decide) rfl ?_
  refine j_iconst (v := 1) x dX6_freeWeek_33 (by decide) ?_
  refine j2_ialn x hb dX6_freeWeek_34 fa_95 (j := 1) (vp_c (by decide)) (by decide) ?_; rw [jm_n (by omega), hz1]
  refine j_icmp_ge (tgt := 55) x dX6_freeWeek_35 (by decide) (fun hc => ?_) (fun hc => absurd (by rw [show q0 + 1 + (z - (q0 + 1)) = z from by omega]; exact nI_le (Nat.le_refl _) (by omega)) hc)
  exact absurd (show gfree M n z q0 q = -1 from if_pos hP) h
theorem cx_freeWeek_no {d : Nat} {b : SBt} {Y : OUt} {M : MM} (hb : 104 ≤ b.2.1) {n q : Nat} (hn : n ≤ 56) (hct : M 95 9 = nI n) (hq : q < n) (hho : ∀ i, i < n → ∃ h, h < 8 ∧ jof M i 0 = nI h) {z q0 : Nat} (hz : z ≤ 14) (hz1 : M 95 1 = nI z) (hq2 : jof M q 2 = nI q0) (hq0 : q0 < z) (h : gfree M n z q0 q = -1) : CM (d + 3) 0 0 yX6_freeWeek cX6_freeWeek 3 (some .int) [.ref 94, .int (nI q)] b Y M (.inl (some (.int (0)))) (jrai (jm M 94 19 0) 2) := by
  refine Con.of (by decide +kernel) (Nat.le_of_ble_eq_true rfl) rfl fun p l e s m args below meth c D tyc A ad0 x hr htab hname => ?_
  change JJ _ _ _ _ _ _ _ _ _ _ _ _ _ _ _ _ _ 0 [some (.ref 94), some (.int (nI q)), none] [] _ 0 0
  refine j_aload_n x dX6_freeWeek_0 rfl ?_
  refine j_iconst (v := 0) x dX6_freeWeek_1 (by decide) ?_
  refine j2_puti (k := 19) x hb dX6_freeWeek_2 jc_10 wfX6_36 (by decide) rfl rfl rfl rfl ?_
  refine j_aload_n x dX6_freeWeek_5 rfl ?_
  refine j_iload_n x dX6_freeWeek_6 rfl ?_
  refine j2_callVi x hb dX6_freeWeek_7 m_X6_isMeeting (CM_v (cx_isMeeting (d := d) hb) (jb_t ⟨nI_pos (by omega), by rw [jm_n (by omega), hct, show (nI n - 1 : Int32) = nI (n - 1) from nI_sub (d := 1) (by omega)]; exact nI_nlt (by omega) (by omega)⟩)) wmX6_122 jc_10 rfl rfl rfl (Nat.le_of_ble_eq_true rfl) (j_fit_rm (by omega) (by omega) (by omega)) rfl ?_
  refine j_if_ne (tgt := 19) x dX6_freeWeek_10 (by decide) (fun hc => ?_) (fun hc => absurd hc (by decide))
  refine j_aload_n x dX6_freeWeek_19 rfl ?_
  refine j_iload_n x dX6_freeWeek_20 rfl ?_
  refine j_iconst (v := 2) x dX6_freeWeek_21 (by decide) ?_
  refine j2_callVi x hb dX6_freeWeek_22 m_X6_of (cx_of (d := d) hb (m1 := q) (w1 := 2) (by omega) (by decide)) wmX6_68 jc_10 rfl rfl rfl (Nat.le_of_ble_eq_true rfl) (j_fit_rm (by omega) (by omega) (by omega)) rfl ?_
  refine j_iconst (v := 1) x dX6_freeWeek_25 (by decide) ?_
  rw [show jof (jm M 94 19 0) q 2 = nI q0 from (by unfold jof at hq2 ⊢; rw [jm_n (by omega)]; exact hq2)]; refine j_iadd x dX6_freeWeek_26 ?_; rw [nI_1]
  refine j_istore_n x dX6_freeWeek_27 (by decide) rfl ?_
  refine j_for (z - (q0 + 1)) (fun z0 => [some (.ref 94), some (.int (nI q)), some (.int (nI (q0 + 1 + z0)))]) (fun z0 => (jm M 94 19 0)) (fun z0 => jfst (fun i => jb (jsum (gCl (jm M 94 19 0) q (nI (q0 + 1 + i))) n = 0)) z0 = -1) (rfl) (rfl) (rfl) (fun j hj hP ih => ?_) (fun hP => ?_)
  · refine j_iload_n x dX6_freeWeek_28 rfl ?_
    refine j_aload_n x dX6_freeWeek_29 rfl ?_
    refine j2_getr (k := 0) (r := 95) x hb dX6_freeWeek_30 jc_10 wfX6_9 (by decide) rfl ?_
    refine j_iconst (v := 1) x dX6_freeWeek_33 (by decide) ?_
    refine j2_ialn x hb dX6_freeWeek_34 fa_95 (j := 1) (vp_c (by decide)) (by decide) ?_; rw [jm_n (by omega), hz1]
    refine j_icmp_ge (tgt := 55) x dX6_freeWeek_35 (by decide) (fun hc => absurd hc (nI_ge (by omega) (by omega))) (fun hc => ?_)
    refine j_aload_n x dX6_freeWeek_38 rfl ?_
    refine j_iload_n x dX6_freeWeek_39 rfl ?_
    refine j_iload_n x dX6_freeWeek_40 rfl ?_
    refine j2_callVi x hb dX6_freeWeek_41 m_X6_clashes (cx_clashesOf (d := d) hb hn (by rw [jm_n (by omega)]; exact hct) hq (fun i hi => by have z := hho i hi; unfold jof at z ⊢; rw [jm_n (by omega)]; exact z)) wmX6_143 jc_10 rfl rfl rfl (Nat.le_of_ble_eq_true rfl) (j_fit_rm (by omega) (by omega) (by omega)) rfl ?_
    refine j_if_ne (tgt := 49) x dX6_freeWeek_44 (by decide) (fun h1 => ?_) (fun h1 => ?_)
    · refine j_iinc x dX6_freeWeek_49 rfl (by decide) rfl ?_
      refine j_goto (tgt := 28) x dX6_freeWeek_52 (by decide) ?_
      exact j_goal (ih (jfst_no hP (fun y => absurd ((show (fun i => jb (jsum (gCl (jm M 94 19 0) q (nI (q0 + 1 + i))) n = 0)) j = 0 from jb_f h1).symm.trans y) (by decide)))) (wk_c rfl (wk_c rfl (wk_c (congrArg (fun z => some (Value.int z)) (nI_1 (q0 + 1 + j))) (wk_0)))) (rfl)
    · refine j_iload_n x dX6_freeWeek_47 rfl ?_
      exact j_ireturn x hr dX6_freeWeek_48 (by omega) (by omega) ⟨absurd (show gfree M n z q0 q = nI (q0 + 1 + j) by unfold gfree; rw [jfst_at hP (show (fun i => jb (jsum (gCl (jm M 94 19 0) q (nI (q0 + 1 + i))) n = 0)) j = 1 from jb_t h1) (by omega) hj, if_neg (nI_nm1 (by omega)), nI_add]) (by rw [h]; exact fun y => nI_nm1 (n := q0 + 1 + j) (by omega) y.symm), absurd (show gfree M n z q0 q = nI (q0 + 1 + j) by unfold gfree; rw [jfst_at hP (show (fun i => jb (jsum (gCl (jm M 94 19 0) q (nI (q0 + 1 + i))) n = 0)) j = 1 from jb_t h1) (by omega) hj, if_neg (nI_nm1 (by omega)), nI_add]) (by rw [h]; exact fun y => nI_nm1 (n := q0 + 1 + j) (by omega) y.symm)⟩
  refine j_iload_n x dX6_freeWeek_28 rfl ?_
  refine j_aload_n x dX6_freeWeek_29 rfl ?_
  refine j2_getr (k := 0) (r := 95) x hb dX6_freeWeek_30 jc_10 wfX6_9 (by decide) rfl ?_
  refine j_iconst (v := 1) x dX6_freeWeek_33 (by decide) ?_
  refine j2_ialn x hb dX6_freeWeek_34 fa_95 (j := 1) (vp_c (by decide)) (by decide) ?_; rw [jm_n (by omega), hz1]
  refine j_icmp_ge (tgt := 55) x dX6_freeWeek_35 (by decide) (fun hc => ?_) (fun hc => absurd (by rw [show q0 + 1 + (z - (q0 + 1)) = z from by omega]; exact nI_le (Nat.le_refl _) (by omega)) hc)
  refine j_aload_n x dX6_freeWeek_55 rfl ?_
  refine j_iconst (v := 2) x dX6_freeWeek_56 (by decide) ?_
  refine j2_callVi x hb dX6_freeWeek_57 m_X6_raises (cx_raises (d := d) hb) wmX6_61 jc_10 rfl rfl rfl (Nat.le_of_ble_eq_true rfl) (j_fit_rm (by omega) (by omega) (by omega)) rfl ?_
  exact j_ireturn x hr dX6_freeWeek_60 (by omega) (by omega) ⟨rfl, rfl⟩
