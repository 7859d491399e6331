/-! ===== the reference: accounts, means ===== -/
def gGoals (M : MM) (m : Nat) : Int32 := if jof M m 4 = 1 then jof M m 6 + jof M m 7 else 0
theorem cx_goals {d : Nat} {b : SBt} {Y : OUt} {M : MM} (hb : 104 ≤ b.2.1) {n : Nat} (hn : n ≤ 56) (hct : M 95 9 = nI n) : CM (d + 2) 0 0 yX6_goals cX6_goals 3 (some .int) [.ref 94] b Y M (.inl (some (.int (jsum (gGoals M) n)))) (M) := by
  refine Con.of (by decide +kernel) (Nat.le_of_ble_eq_true rfl) rfl fun p l e s m args below meth c D tyc A ad0 x hr htab hname => ?_
  change JJ _ _ _ _ _ _ _ _ _ _ _ _ _ _ _ _ _ 0 [some (.ref 94), none, none] [] _ 0 0
  refine j_iconst (v := 0) x dX6_goals_0 (by decide) ?_
  refine j_istore_n x dX6_goals_1 (by decide) rfl ?_
  refine j_iconst (v := 0) x dX6_goals_2 (by decide) ?_
  refine j_istore_n x dX6_goals_3 (by decide) rfl ?_
  refine j_for (n) (fun z0 => [some (.ref 94), some (.int (jsum (gGoals M) z0)), some (.int (nI z0))]) (fun z0 => M) (fun z0 => True) (rfl) (rfl) (trivial) (fun j hj hP ih => ?_) (fun hP => ?_)
  · refine j_iload_n x dX6_goals_4 rfl ?_
    refine j_aload_n x dX6_goals_5 rfl ?_
    refine j2_getr (k := 0) (r := 95) x hb dX6_goals_6 jc_10 wfX6_9 (by decide) rfl ?_
    refine j_bipush (v := 9) x dX6_goals_9 (by decide) ?_
    refine j2_ialn x hb dX6_goals_11 fa_95 (j := 9) (vp_c (by decide)) (by decide) ?_; rw [hct]
    refine j_icmp_ge (tgt := 47) x dX6_goals_12 (by decide) (fun hc => absurd hc (nI_ge hj (by omega))) (fun hc => ?_)
    refine j_aload_n x dX6_goals_15 rfl ?_
    refine j_iload_n x dX6_goals_16 rfl ?_
    refine j2_callVi x hb dX6_goals_17 m_X6_isPlayed (cx_isPlayed (d := d) hb (m1 := j) (by omega)) wmX6_72 jc_10 rfl rfl rfl (Nat.le_of_ble_eq_true rfl) (j_fit_rm (by omega) (by omega) (by omega)) rfl ?_
    refine j_if_eq (tgt := 41) x dX6_goals_20 (by decide) (fun h1 => ?_) (fun h1 => ?_)
    · refine j_iinc x dX6_goals_41 rfl (by decide) rfl ?_
      refine j_goto (tgt := 4) x dX6_goals_44 (by decide) ?_
      exact j_goal (ih (trivial)) (wk_c rfl (wk_c (congrArg (fun z => some (Value.int z)) (jsum_f (if_neg (jb_0.mp h1)))) (wk_c (congrArg (fun z => some (Value.int z)) (nI_1 _)) (wk_0)))) (rfl)
    · refine j_iload_n x dX6_goals_23 rfl ?_
      refine j_aload_n x dX6_goals_24 rfl ?_
      refine j_iload_n x dX6_goals_25 rfl ?_
      refine j_bipush (v := 6) x dX6_goals_26 (by decide) ?_
      refine j2_callVi x hb dX6_goals_28 m_X6_of (cx_of (d := d) hb (m1 := j) (w1 := 6) (by omega) (by decide)) wmX6_68 jc_10 rfl rfl rfl (Nat.le_of_ble_eq_true rfl) (j_fit_rm (by omega) (by omega) (by omega)) rfl ?_
      refine j_aload_n x dX6_goals_31 rfl ?_
      refine j_iload_n x dX6_goals_32 rfl ?_
      refine j_bipush (v := 7) x dX6_goals_33 (by decide) ?_
      refine j2_callVi x hb dX6_goals_35 m_X6_of (cx_of (d := d) hb (m1 := j) (w1 := 7) (by omega) (by decide)) wmX6_68 jc_10 rfl rfl rfl (Nat.le_of_ble_eq_true rfl) (j_fit_rm (by omega) (by omega) (by omega)) rfl ?_
      refine j_iadd x dX6_goals_38 ?_
      refine j_iadd x dX6_goals_39 ?_
      refine j_istore_n x dX6_goals_40 (by decide) rfl ?_
      refine j_iinc x dX6_goals_41 rfl (by decide) rfl ?_
      refine j_goto (tgt := 4) x dX6_goals_44 (by decide) ?_
      exact j_goal (ih (trivial)) (wk_c rfl (wk_c (congrArg (fun z => some (Value.int z)) (jsum_v (if_pos (jb_nz.mp h1)))) (wk_c (congrArg (fun z => some (Value.int z)) (nI_1 _)) (wk_0)))) (rfl)
  refine j_iload_n x dX6_goals_4 rfl ?_
  refine j_aload_n x dX6_goals_5 rfl ?_
  refine j2_getr (k := 0) (r := 95) x hb dX6_goals_6 jc_10 wfX6_9 (by decide) rfl ?_
  refine j_bipush (v := 9) x dX6_goals_9 (by decide) ?_
  refine j2_ialn x hb dX6_goals_11 fa_95 (j := 9) (vp_c (by decide)) (by decide) ?_; rw [hct]
  refine j_icmp_ge (tgt := 47) x dX6_goals_12 (by decide) (fun hc => ?_) (fun hc => absurd (nI_le (Nat.le_refl _) (by omega)) hc)
  refine j_iload_n x dX6_goals_47 rfl ?_
  exact j_ireturn x hr dX6_goals_48 (by omega) (by omega) ⟨rfl, rfl⟩
theorem cx_meanGoals_no {d : Nat} {b : SBt} {Y : OUt} {M : MM} (hb : 104 ≤ b.2.1) {n : Nat} (hn : n ≤ 56) (hct : M 95 9 = nI n) (h : jsum (fun m => jof (jm M 94 19 0) m 4) n = 0) : CM (d + 2) 0 0 yX6_meanGoals cX6_meanGoals 1 (some .float) [.ref 94] b Y M (.inl (some (.float (FP.i2f 0)))) (jrai (jm M 94 19 0) 1) := by
  refine Con.of (by decide +kernel) (Nat.le_of_ble_eq_true rfl) rfl fun p l e s m args below meth c D tyc A ad0 x hr htab hname => ?_
  change JJ _ _ _ _ _ _ _ _ _ _ _ _ _ _ _ _ _ 0 [some (.ref 94)] [] _ 0 0
  refine j_aload_n x dX6_meanGoals_0 rfl ?_
  refine j_iconst (v := 0) x dX6_meanGoals_1 (by decide) ?_
  refine j2_puti (k := 19) x hb dX6_meanGoals_2 jc_10 wfX6_36 (by decide) rfl rfl rfl rfl ?_
  refine j_aload_n x dX6_meanGoals_5 rfl ?_
  refine j2_callVi x hb dX6_meanGoals_6 m_X6_played (cx_played (d := d) hb hn (by rw [jm_n (by omega)]; exact hct)) wmX6_113 jc_10 rfl rfl rfl (Nat.le_of_ble_eq_true rfl) (j_fit_rm (by omega) (by omega) (by omega)) rfl ?_
  refine j_if_ne (tgt := 21) x dX6_meanGoals_9 (by decide) (fun hc => absurd hc (fun q => q h)) (fun hc => ?_)
  refine j_aload_n x dX6_meanGoals_12 rfl ?_
  refine j_iconst (v := 1) x dX6_meanGoals_13 (by decide) ?_
  refine j2_callVi x hb dX6_meanGoals_14 m_X6_raises (cx_raises (d := d) hb) wmX6_61 jc_10 rfl rfl rfl (Nat.le_of_ble_eq_true rfl) (j_fit_rm (by omega) (by omega) (by omega)) rfl ?_
  refine j_i2f x dX6_meanGoals_17 ?_
  refine j_goto (tgt := 32) x dX6_meanGoals_18 (by decide) ?_
  exact j_freturn x hr dX6_meanGoals_32 (by omega) (by omega) ⟨rfl, rfl⟩
theorem cx_homeShare_no {d : Nat} {b : SBt} {Y : OUt} {M : MM} (hb : 104 ≤ b.2.1) {n : Nat} (hn : n ≤ 56) (hct : M 95 9 = nI n) (h : jsum (fun m => jof (jm M 94 19 0) m 4) n = 0) : CM (d + 2) 0 0 yX6_homeShare cX6_homeShare 3 (some .double) [.ref 94] b Y M (.inl (some (.double (FP.i2d 0)))) (jrai (jm M 94 19 0) 1) := by
  refine Con.of (by decide +kernel) (Nat.le_of_ble_eq_true rfl) rfl fun p l e s m args below meth c D tyc A ad0 x hr htab hname => ?_
  change JJ _ _ _ _ _ _ _ _ _ _ _ _ _ _ _ _ _ 0 [some (.ref 94), none, none] [] _ 0 0
  refine j_aload_n x dX6_homeShare_0 rfl ?_
  refine j_iconst (v := 0) x dX6_homeShare_1 (by decide) ?_
  refine j2_puti (k := 19) x hb dX6_homeShare_2 jc_10 wfX6_36 (by decide) rfl rfl rfl rfl ?_
  refine j_aload_n x dX6_homeShare_5 rfl ?_
  refine j2_callVi x hb dX6_homeShare_6 m_X6_played (cx_played (d := d) hb hn (by rw [jm_n (by omega)]; exact hct)) wmX6_113 jc_10 rfl rfl rfl (Nat.le_of_ble_eq_true rfl) (j_fit_rm (by omega) (by omega) (by omega)) rfl ?_
  refine j_if_ne (tgt := 19) x dX6_homeShare_9 (by decide) (fun hc => absurd hc (fun q => q h)) (fun hc => ?_)
  refine j_aload_n x dX6_homeShare_12 rfl ?_
  refine j_iconst (v := 1) x dX6_homeShare_13 (by decide) ?_
  refine j2_callVi x hb dX6_homeShare_14 m_X6_raises (cx_raises (d := d) hb) wmX6_61 jc_10 rfl rfl rfl (Nat.le_of_ble_eq_true rfl) (j_fit_rm (by omega) (by omega) (by omega)) rfl ?_
  refine j_i2d x dX6_homeShare_17 ?_
  exact j_dreturn x hr dX6_homeShare_18 (by omega) (by omega) ⟨rfl, rfl⟩
theorem cx_account_q0 {d : Nat} {b : SBt} {Y : OUt} {M : MM} (hb : 104 ≤ b.2.1)  : CM (d + 3) 0 0 yX6_account cX6_account 4 (some .int) [.ref 94, .int 0] b Y M (.inl (some (.int ((jm M 94 19 0) 95 0)))) ((jm M 94 19 0)) := by
  refine Con.of (by decide +kernel) (Nat.le_of_ble_eq_true rfl) rfl fun p l e s m args below meth c D tyc A ad0 x hr htab hname => ?_
  change JJ _ _ _ _ _ _ _ _ _ _ _ _ _ _ _ _ _ 0 [some (.ref 94), some (.int 0), none, none] [] _ 0 0
  refine j_aload_n x dX6_account_0 rfl ?_
  refine j_iconst (v := 0) x dX6_account_1 (by decide) ?_
  refine j2_puti (k := 19) x hb dX6_account_2 jc_10 wfX6_36 (by decide) rfl rfl rfl rfl ?_
  refine j_iconst (v := 0) x dX6_account_5 (by decide) ?_
  refine j_istore_n x dX6_account_6 (by decide) rfl ?_
  refine j_iload_n x dX6_account_7 rfl ?_
  refine j_tableIn (tgt := 84) x dX6_account_8 (by decide) (by decide) rfl (by decide) ?_
  refine j_aload_n x dX6_account_84 rfl ?_
  refine j2_getr (k := 0) (r := 95) x hb dX6_account_85 jc_10 wfX6_9 (by decide) rfl ?_
  refine j_iconst (v := 0) x dX6_account_88 (by decide) ?_
  refine j2_ialn x hb dX6_account_89 fa_95 (j := 0) (vp_c (by decide)) (by decide) ?_
  exact j_ireturn x hr dX6_account_90 (by omega) (by omega) ⟨rfl, rfl⟩
theorem cx_account_q1 {d : Nat} {b : SBt} {Y : OUt} {M : MM} (hb : 104 ≤ b.2.1)  : CM (d + 3) 0 0 yX6_account cX6_account 4 (some .int) [.ref 94, .int 1] b Y M (.inl (some (.int (jb (¬ (jm M 94 19 0) 95 1 ≤ 0))))) ((jm M 94 19 0)) := by
  refine Con.of (by decide +kernel) (Nat.le_of_ble_eq_true rfl) rfl fun p l e s m args below meth c D tyc A ad0 x hr htab hname => ?_
  change JJ _ _ _ _ _ _ _ _ _ _ _ _ _ _ _ _ _ 0 [some (.ref 94), some (.int 1), none, none] [] _ 0 0
  refine j_aload_n x dX6_account_0 rfl ?_
  refine j_iconst (v := 0) x dX6_account_1 (by decide) ?_
  refine j2_puti (k := 19) x hb dX6_account_2 jc_10 wfX6_36 (by decide) rfl rfl rfl rfl ?_
  refine j_iconst (v := 0) x dX6_account_5 (by decide) ?_
  refine j_istore_n x dX6_account_6 (by decide) rfl ?_
  refine j_iload_n x dX6_account_7 rfl ?_
  refine j_tableIn (tgt := 91) x dX6_account_8 (by decide) (by decide) rfl (by decide) ?_
  refine j_aload_n x dX6_account_91 rfl ?_
  refine j2_callVi x hb dX6_account_92 m_X6_isDrawn (cx_isDrawn (d := d) hb) wmX6_87 jc_10 rfl rfl rfl (Nat.le_of_ble_eq_true rfl) (j_fit_rm (by omega) (by omega) (by omega)) rfl ?_
  refine j_if_eq (tgt := 102) x dX6_account_95 (by decide) (fun h9 => ?_) (fun h9 => ?_)
  · refine j_iconst (v := 0) x dX6_account_102 (by decide) ?_
    exact j_ireturn x hr dX6_account_103 (by omega) (by omega) ⟨by rw [jb_f (jb_0.mp h9)], rfl⟩
  · refine j_iconst (v := 1) x dX6_account_98 (by decide) ?_
    refine j_goto (tgt := 103) x dX6_account_99 (by decide) ?_
    exact j_ireturn x hr dX6_account_103 (by omega) (by omega) ⟨by rw [jb_t (jb_nz.mp h9)], rfl⟩
theorem cx_account_q2 {d : Nat} {b : SBt} {Y : OUt} {M : MM} (hb : 104 ≤ b.2.1)  : CM (d + 3) 0 0 yX6_account cX6_account 4 (some .int) [.ref 94, .int 2] b Y M (.inl (some (.int ((jm M 94 19 0) 95 1)))) ((jm M 94 19 0)) := by
  refine Con.of (by decide +kernel) (Nat.le_of_ble_eq_true rfl) rfl fun p l e s m args below meth c D tyc A ad0 x hr htab hname => ?_
  change JJ _ _ _ _ _ _ _ _ _ _ _ _ _ _ _ _ _ 0 [some (.ref 94), some (.int 2), none, none] [] _ 0 0
  refine j_aload_n x dX6_account_0 rfl ?_
  refine j_iconst (v := 0) x dX6_account_1 (by decide) ?_
  refine j2_puti (k := 19) x hb dX6_account_2 jc_10 wfX6_36 (by decide) rfl rfl rfl rfl ?_
  refine j_iconst (v := 0) x dX6_account_5 (by decide) ?_
  refine j_istore_n x dX6_account_6 (by decide) rfl ?_
  refine j_iload_n x dX6_account_7 rfl ?_
  refine j_tableIn (tgt := 104) x dX6_account_8 (by decide) (by decide) rfl (by decide) ?_
  refine j_aload_n x dX6_account_104 rfl ?_
  refine j2_getr (k := 0) (r := 95) x hb dX6_account_105 jc_10 wfX6_9 (by decide) rfl ?_
  refine j_iconst (v := 1) x dX6_account_108 (by decide) ?_
  refine j2_ialn x hb dX6_account_109 fa_95 (j := 1) (vp_c (by decide)) (by decide) ?_
  exact j_ireturn x hr dX6_account_110 (by omega) (by omega) ⟨rfl, rfl⟩
theorem cx_account_q3 {d : Nat} {b : SBt} {Y : OUt} {M : MM} (hb : 104 ≤ b.2.1)  : CM (d + 3) 0 0 yX6_account cX6_account 4 (some .int) [.ref 94, .int 3] b Y M (.inl (some (.int ((jm M 94 19 0) 95 2)))) ((jm M 94 19 0)) := by
  refine Con.of (by decide +kernel) (Nat.le_of_ble_eq_true rfl) rfl fun p l e s m args below meth c D tyc A ad0 x hr htab hname => ?_
  change JJ _ _ _ _ _ _ _ _ _ _ _ _ _ _ _ _ _ 0 [some (.ref 94), some (.int 3), none, none] [] _ 0 0
  refine j_aload_n x dX6_account_0 rfl ?_
  refine j_iconst (v := 0) x dX6_account_1 (by decide) ?_
  refine j2_puti (k := 19) x hb dX6_account_2 jc_10 wfX6_36 (by decide) rfl rfl rfl rfl ?_
  refine j_iconst (v := 0) x dX6_account_5 (by decide) ?_
  refine j_istore_n x dX6_account_6 (by decide) rfl ?_
  refine j_iload_n x dX6_account_7 rfl ?_
  refine j_tableIn (tgt := 111) x dX6_account_8 (by decide) (by decide) rfl (by decide) ?_
  refine j_aload_n x dX6_account_111 rfl ?_
  refine j2_getr (k := 0) (r := 95) x hb dX6_account_112 jc_10 wfX6_9 (by decide) rfl ?_
  refine j_iconst (v := 2) x dX6_account_115 (by decide) ?_
  refine j2_ialn x hb dX6_account_116 fa_95 (j := 2) (vp_c (by decide)) (by decide) ?_
  exact j_ireturn x hr dX6_account_117 (by omega) (by omega) ⟨rfl, rfl⟩
theorem cx_account_q4 {d : Nat} {b : SBt} {Y : OUt} {M : MM} (hb : 104 ≤ b.2.1)  : CM (d + 3) 0 0 yX6_account cX6_account 4 (some .int) [.ref 94, .int 4] b Y M (.inl (some (.int ((jm M 94 19 0) 95 9)))) ((jm M 94 19 0)) := by
  refine Con.of (by decide +kernel) (Nat.le_of_ble_eq_true rfl) rfl fun p l e s m args below meth c D tyc A ad0 x hr htab hname => ?_
  change JJ _ _ _ _ _ _ _ _ _ _ _ _ _ _ _ _ _ 0 [some (.ref 94), some (.int 4), none, none] [] _ 0 0
  refine j_aload_n x dX6_account_0 rfl ?_
  refine j_iconst (v := 0) x dX6_account_1 (by decide) ?_
  refine j2_puti (k := 19) x hb dX6_account_2 jc_10 wfX6_36 (by decide) rfl rfl rfl rfl ?_
  refine j_iconst (v := 0) x dX6_account_5 (by decide) ?_
  refine j_istore_n x dX6_account_6 (by decide) rfl ?_
  refine j_iload_n x dX6_account_7 rfl ?_
  refine j_tableIn (tgt := 118) x dX6_account_8 (by decide) (by decide) rfl (by decide) ?_
  refine j_aload_n x dX6_account_118 rfl ?_
  refine j2_getr (k := 0) (r := 95) x hb dX6_account_119 jc_10 wfX6_9 (by decide) rfl ?_
  refine j_bipush (v := 9) x dX6_account_122 (by decide) ?_
  refine j2_ialn x hb dX6_account_124 fa_95 (j := 9) (vp_c (by decide)) (by decide) ?_
  exact j_ireturn x hr dX6_account_125 (by omega) (by omega) ⟨rfl, rfl⟩
theorem cx_account_q5 {d : Nat} {b : SBt} {Y : OUt} {M : MM} (hb : 104 ≤ b.2.1) {n : Nat} (hn : n ≤ 56) (hct : M 95 9 = nI n) : CM (d + 3) 0 0 yX6_account cX6_account 4 (some .int) [.ref 94, .int 5] b Y M (.inl (some (.int (jsum (fun m => jof (jm M 94 19 0) m 4) n)))) ((jm M 94 19 0)) := by
  refine Con.of (by decide +kernel) (Nat.le_of_ble_eq_true rfl) rfl fun p l e s m args below meth c D tyc A ad0 x hr htab hname => ?_
  change JJ _ _ _ _ _ _ _ _ _ _ _ _ _ _ _ _ _ 0 [some (.ref 94), some (.int 5), none, none] [] _ 0 0
  refine j_aload_n x dX6_account_0 rfl ?_
  refine j_iconst (v := 0) x dX6_account_1 (by decide) ?_
  refine j2_puti (k := 19) x hb dX6_account_2 jc_10 wfX6_36 (by decide) rfl rfl rfl rfl ?_
  refine j_iconst (v := 0) x dX6_account_5 (by decide) ?_
  refine j_istore_n x dX6_account_6 (by decide) rfl ?_
  refine j_iload_n x dX6_account_7 rfl ?_
  refine j_tableIn (tgt := 126) x dX6_account_8 (by decide) (by decide) rfl (by decide) ?_
  refine j_aload_n x dX6_account_126 rfl ?_
  refine j2_callVi x hb dX6_account_127 m_X6_played (cx_played (d := d) hb hn (by rw [jm_n (by omega)]; exact hct)) wmX6_113 jc_10 rfl rfl rfl (Nat.le_of_ble_eq_true rfl) (j_fit_rm (by omega) (by omega) (by omega)) rfl ?_
  exact j_ireturn x hr dX6_account_130 (by omega) (by omega) ⟨rfl, rfl⟩
theorem cx_account_q7 {d : Nat} {b : SBt} {Y : OUt} {M : MM} (hb : 104 ≤ b.2.1)  : CM (d + 3) 0 0 yX6_account cX6_account 4 (some .int) [.ref 94, .int 7] b Y M (.inl (some (.int ((jm M 94 19 0) 95 3)))) ((jm M 94 19 0)) := by
  refine Con.of (by decide +kernel) (Nat.le_of_ble_eq_true rfl) rfl fun p l e s m args below meth c D tyc A ad0 x hr htab hname => ?_
  change JJ _ _ _ _ _ _ _ _ _ _ _ _ _ _ _ _ _ 0 [some (.ref 94), some (.int 7), none, none] [] _ 0 0
  refine j_aload_n x dX6_account_0 rfl ?_
  refine j_iconst (v := 0) x dX6_account_1 (by decide) ?_
  refine j2_puti (k := 19) x hb dX6_account_2 jc_10 wfX6_36 (by decide) rfl rfl rfl rfl ?_
  refine j_iconst (v := 0) x dX6_account_5 (by decide) ?_
  refine j_istore_n x dX6_account_6 (by decide) rfl ?_
  refine j_iload_n x dX6_account_7 rfl ?_
  refine j_tableIn (tgt := 164) x dX6_account_8 (by decide) (by decide) rfl (by decide) ?_
  refine j_aload_n x dX6_account_164 rfl ?_
  refine j2_getr (k := 0) (r := 95) x hb dX6_account_165 jc_10 wfX6_9 (by decide) rfl ?_
  refine j_iconst (v := 3) x dX6_account_168 (by decide) ?_
  refine j2_ialn x hb dX6_account_169 fa_95 (j := 3) (vp_c (by decide)) (by decide) ?_
  exact j_ireturn x hr dX6_account_170 (by omega) (by omega) ⟨rfl, rfl⟩
theorem cx_account_q8 {d : Nat} {b : SBt} {Y : OUt} {M : MM} (hb : 104 ≤ b.2.1)  : CM (d + 3) 0 0 yX6_account cX6_account 4 (some .int) [.ref 94, .int 8] b Y M (.inl (some (.int ((jm M 94 19 0) 95 4)))) ((jm M 94 19 0)) := by
  refine Con.of (by decide +kernel) (Nat.le_of_ble_eq_true rfl) rfl fun p l e s m args below meth c D tyc A ad0 x hr htab hname => ?_
  change JJ _ _ _ _ _ _ _ _ _ _ _ _ _ _ _ _ _ 0 [some (.ref 94), some (.int 8), none, none] [] _ 0 0
  refine j_aload_n x dX6_account_0 rfl ?_
  refine j_iconst (v := 0) x dX6_account_1 (by decide) ?_
  refine j2_puti (k := 19) x hb dX6_account_2 jc_10 wfX6_36 (by decide) rfl rfl rfl rfl ?_
  refine j_iconst (v := 0) x dX6_account_5 (by decide) ?_
  refine j_istore_n x dX6_account_6 (by decide) rfl ?_
  refine j_iload_n x dX6_account_7 rfl ?_
  refine j_tableIn (tgt := 171) x dX6_account_8 (by decide) (by decide) rfl (by decide) ?_
  refine j_aload_n x dX6_account_171 rfl ?_
  refine j2_getr (k := 0) (r := 95) x hb dX6_account_172 jc_10 wfX6_9 (by decide) rfl ?_
  refine j_iconst (v := 4) x dX6_account_175 (by decide) ?_
  refine j2_ialn x hb dX6_account_176 fa_95 (j := 4) (vp_c (by decide)) (by decide) ?_
  exact j_ireturn x hr dX6_account_177 (by omega) (by omega) ⟨rfl, rfl⟩
theorem cx_account_q9 {d : Nat} {b : SBt} {Y : OUt} {M : MM} (hb : 104 ≤ b.2.1)  : CM (d + 3) 0 0 yX6_account cX6_account 4 (some .int) [.ref 94, .int 9] b Y M (.inl (some (.int ((jm M 94 19 0) 95 5)))) ((jm M 94 19 0)) := by
  refine Con.of (by decide +kernel) (Nat.le_of_ble_eq_true rfl) rfl fun p l e s m args below meth c D tyc A ad0 x hr htab hname => ?_
  change JJ _ _ _ _ _ _ _ _ _ _ _ _ _ _ _ _ _ 0 [some (.ref 94), some (.int 9), none, none] [] _ 0 0
  refine j_aload_n x dX6_account_0 rfl ?_
  refine j_iconst (v := 0) x dX6_account_1 (by decide) ?_
  refine j2_puti (k := 19) x hb dX6_account_2 jc_10 wfX6_36 (by decide) rfl rfl rfl rfl ?_
  refine j_iconst (v := 0) x dX6_account_5 (by decide) ?_
  refine j_istore_n x dX6_account_6 (by decide) rfl ?_
  refine j_iload_n x dX6_account_7 rfl ?_
  refine j_tableIn (tgt := 178) x dX6_account_8 (by decide) (by decide) rfl (by decide) ?_
  refine j_aload_n x dX6_account_178 rfl ?_
  refine j2_getr (k := 0) (r := 95) x hb dX6_account_179 jc_10 wfX6_9 (by decide) rfl ?_
  refine j_iconst (v := 5) x dX6_account_182 (by decide) ?_
  refine j2_ialn x hb dX6_account_183 fa_95 (j := 5) (vp_c (by decide)) (by decide) ?_
  exact j_ireturn x hr dX6_account_184 (by omega) (by omega) ⟨rfl, rfl⟩
theorem cx_account_q10 {d : Nat} {b : SBt} {Y : OUt} {M : MM} (hb : 104 ≤ b.2.1) {n : Nat} (hn : n ≤ 56) (hct : M 95 9 = nI n) : CM (d + 3) 0 0 yX6_account cX6_account 4 (some .int) [.ref 94, .int 10] b Y M (.inl (some (.int (jsum (gGoals (jm M 94 19 0)) n)))) ((jm M 94 19 0)) := by
  refine Con.of (by decide +kernel) (Nat.le_of_ble_eq_true rfl) rfl fun p l e s m args below meth c D tyc A ad0 x hr htab hname => ?_
  change JJ _ _ _ _ _ _ _ _ _ _ _ _ _ _ _ _ _ 0 [some (.ref 94), some (.int 10), none, none] [] _ 0 0
  refine j_aload_n x dX6_account_0 rfl ?_
  refine j_iconst (v := 0) x dX6_account_1 (by decide) ?_
  refine j2_puti (k := 19) x hb dX6_account_2 jc_10 wfX6_36 (by decide) rfl rfl rfl rfl ?_
  refine j_iconst (v := 0) x dX6_account_5 (by decide) ?_
  refine j_istore_n x dX6_account_6 (by decide) rfl ?_
  refine j_iload_n x dX6_account_7 rfl ?_
  refine j_tableIn (tgt := 185) x dX6_account_8 (by decide) (by decide) rfl (by decide) ?_
  refine j_aload_n x dX6_account_185 rfl ?_
  refine j2_callVi x hb dX6_account_186 m_X6_goals (cx_goals (d := d) hb hn (by rw [jm_n (by omega)]; exact hct)) wmX6_221 jc_10 rfl rfl rfl (Nat.le_of_ble_eq_true rfl) (j_fit_rm (by omega) (by omega) (by omega)) rfl ?_
  exact j_ireturn x hr dX6_account_189 (by omega) (by omega) ⟨rfl, rfl⟩
theorem cx_account_q13 {d : Nat} {b : SBt} {Y : OUt} {M : MM} (hb : 104 ≤ b.2.1)  : CM (d + 3) 0 0 yX6_account cX6_account 4 (some .int) [.ref 94, .int 13] b Y M (.inl (some (.int ((jm M 94 19 0) 94 3)))) ((jm M 94 19 0)) := by
  refine Con.of (by decide +kernel) (Nat.le_of_ble_eq_true rfl) rfl fun p l e s m args below meth c D tyc A ad0 x hr htab hname => ?_
  change JJ _ _ _ _ _ _ _ _ _ _ _ _ _ _ _ _ _ 0 [some (.ref 94), some (.int 13), none, none] [] _ 0 0
  refine j_aload_n x dX6_account_0 rfl ?_
  refine j_iconst (v := 0) x dX6_account_1 (by decide) ?_
  refine j2_puti (k := 19) x hb dX6_account_2 jc_10 wfX6_36 (by decide) rfl rfl rfl rfl ?_
  refine j_iconst (v := 0) x dX6_account_5 (by decide) ?_
  refine j_istore_n x dX6_account_6 (by decide) rfl ?_
  refine j_iload_n x dX6_account_7 rfl ?_
  refine j_tableIn (tgt := 247) x dX6_account_8 (by decide) (by decide) rfl (by decide) ?_
  refine j_aload_n x dX6_account_247 rfl ?_
  refine j2_geti (k := 3) x hb dX6_account_248 jc_10 wfX6_42 (by decide) rfl ?_
  exact j_ireturn x hr dX6_account_251 (by omega) (by omega) ⟨rfl, rfl⟩
theorem cx_account_q14 {d : Nat} {b : SBt} {Y : OUt} {M : MM} (hb : 104 ≤ b.2.1)  : CM (d + 3) 0 0 yX6_account cX6_account 4 (some .int) [.ref 94, .int 14] b Y M (.inl (some (.int ((jm M 94 19 0) 94 9)))) ((jm M 94 19 0)) := by
  refine Con.of (by decide +kernel) (Nat.le_of_ble_eq_true rfl) rfl fun p l e s m args below meth c D tyc A ad0 x hr htab hname => ?_
  change JJ _ _ _ _ _ _ _ _ _ _ _ _ _ _ _ _ _ 0 [some (.ref 94), some (.int 14), none, none] [] _ 0 0
  refine j_aload_n x dX6_account_0 rfl ?_
  refine j_iconst (v := 0) x dX6_account_1 (by decide) ?_
  refine j2_puti (k := 19) x hb dX6_account_2 jc_10 wfX6_36 (by decide) rfl rfl rfl rfl ?_
  refine j_iconst (v := 0) x dX6_account_5 (by decide) ?_
  refine j_istore_n x dX6_account_6 (by decide) rfl ?_
  refine j_iload_n x dX6_account_7 rfl ?_
  refine j_tableIn (tgt := 252) x dX6_account_8 (by decide) (by decide) rfl (by decide) ?_
  refine j_aload_n x dX6_account_252 rfl ?_
  refine j2_geti (k := 9) x hb dX6_account_253 jc_10 wfX6_185 (by decide) rfl ?_
  exact j_ireturn x hr dX6_account_256 (by omega) (by omega) ⟨rfl, rfl⟩
def gPutC (M : MM) (m : Nat) : Int32 := jb (jhow M m = 2)
theorem cx_account_q6 {d : Nat} {b : SBt} {Y : OUt} {M : MM} (hb : 104 ≤ b.2.1) {n : Nat} (hn : n ≤ 56) (hct : M 95 9 = nI n) : CM (d + 3) 0 0 yX6_account cX6_account 4 (some .int) [.ref 94, .int 6] b Y M (.inl (some (.int (jsum (gPutC (jm M 94 19 0)) n)))) ((jm M 94 19 0)) := by
  refine Con.of (by decide +kernel) (Nat.le_of_ble_eq_true rfl) rfl fun p l e s m args below meth c D tyc A ad0 x hr htab hname => ?_
  change JJ _ _ _ _ _ _ _ _ _ _ _ _ _ _ _ _ _ 0 [some (.ref 94), some (.int 6), none, none] [] _ 0 0
  refine j_aload_n x dX6_account_0 rfl ?_
  refine j_iconst (v := 0) x dX6_account_1 (by decide) ?_
  refine j2_puti (k := 19) x hb dX6_account_2 jc_10 wfX6_36 (by decide) rfl rfl rfl rfl ?_
  refine j_iconst (v := 0) x dX6_account_5 (by decide) ?_
  refine j_istore_n x dX6_account_6 (by decide) rfl ?_
  refine j_iload_n x dX6_account_7 rfl ?_
  refine j_tableIn (tgt := 131) x dX6_account_8 (by decide) (by decide) rfl (by decide) ?_
  refine j_iconst (v := 0) x dX6_account_131 (by decide) ?_
  refine j_istore_n x dX6_account_132 (by decide) rfl ?_
  refine j_for (n) (fun z0 => [some (.ref 94), some (.int 6), some (.int (jsum (gPutC (jm M 94 19 0)) z0)), some (.int (nI z0))]) (fun z0 => (jm M 94 19 0)) (fun z0 => True) (rfl) (rfl) (trivial) (fun j hj hP ih => ?_) (fun hP => ?_)
  · refine j_iload_n x dX6_account_133 rfl ?_
    refine j_aload_n x dX6_account_134 rfl ?_
    refine j2_getr (k := 0) (r := 95) x hb dX6_account_135 jc_10 wfX6_9 (by decide) rfl ?_
    refine j_bipush (v := 9) x dX6_account_138 (by decide) ?_
    refine j2_ialn x hb dX6_account_140 fa_95 (j := 9) (vp_c (by decide)) (by decide) ?_; rw [jm_n (by omega), hct]
    refine j_icmp_ge (tgt := 162) x dX6_account_141 (by decide) (fun hc => absurd hc (nI_ge hj (by omega))) (fun hc => ?_)
    refine j_aload_n x dX6_account_144 rfl ?_
    refine j_iload_n x dX6_account_145 rfl ?_
    refine j2_callVi x hb dX6_account_146 m_X6_how (cx_how (d := d) hb (m1 := j) (by omega)) wmX6_131 jc_10 rfl rfl rfl (Nat.le_of_ble_eq_true rfl) (j_fit_rm (by omega) (by omega) (by omega)) rfl ?_
    refine j_iconst (v := 2) x dX6_account_149 (by decide) ?_
    refine j_icmp_ne (tgt := 156) x dX6_account_150 (by decide) (fun h1 => ?_) (fun h1 => ?_)
    · refine j_iinc x dX6_account_156 rfl (by decide) rfl ?_
      refine j_goto (tgt := 133) x dX6_account_159 (by decide) ?_
      exact j_goal (ih (trivial)) (wk_c rfl (wk_c rfl (wk_c (congrArg (fun z => some (Value.int z)) (jsum_f (jb_f h1))) (wk_c (congrArg (fun z => some (Value.int z)) (nI_1 _)) (wk_0))))) (rfl)
    · refine j_iinc x dX6_account_153 rfl (by decide) rfl ?_
      refine j_iinc x dX6_account_156 rfl (by decide) rfl ?_
      refine j_goto (tgt := 133) x dX6_account_159 (by decide) ?_
      exact j_goal (ih (trivial)) (wk_c rfl (wk_c rfl (wk_c (congrArg (fun z => some (Value.int z)) (jsum_v (jb_t h1))) (wk_c (congrArg (fun z => some (Value.int z)) (nI_1 _)) (wk_0))))) (rfl)
  refine j_iload_n x dX6_account_133 rfl ?_
  refine j_aload_n x dX6_account_134 rfl ?_
  refine j2_getr (k := 0) (r := 95) x hb dX6_account_135 jc_10 wfX6_9 (by decide) rfl ?_
  refine j_bipush (v := 9) x dX6_account_138 (by decide) ?_
  refine j2_ialn x hb dX6_account_140 fa_95 (j := 9) (vp_c (by decide)) (by decide) ?_; rw [jm_n (by omega), hct]
  refine j_icmp_ge (tgt := 162) x dX6_account_141 (by decide) (fun hc => ?_) (fun hc => absurd (nI_le (Nat.le_refl _) (by omega)) hc)
  refine j_iload_n x dX6_account_162 rfl ?_
  exact j_ireturn x hr dX6_account_163 (by omega) (by omega) ⟨rfl, rfl⟩
theorem cx_account_q11 {d : Nat} {b : SBt} {Y : OUt} {M : MM} (hb : 104 ≤ b.2.1) {n : Nat} (hn : n ≤ 56) (hct : M 95 9 = nI n) {w : Nat} (hw : w ≤ 8) (h0 : M 95 0 = nI w) : CM (d + 4) 0 0 yX6_account cX6_account 4 (some .int) [.ref 94, .int 11] b Y M (.inl (some (.int (jsum (fun i => gH (jm M 94 19 0) n (nI i) 1) w)))) ((jm M 94 19 0)) := by
  refine Con.of (by decide +kernel) (Nat.le_of_ble_eq_true rfl) rfl fun p l e s m args below meth c D tyc A ad0 x hr htab hname => ?_
  change JJ _ _ _ _ _ _ _ _ _ _ _ _ _ _ _ _ _ 0 [some (.ref 94), some (.int 11), none, none] [] _ 0 0
  refine j_aload_n x dX6_account_0 rfl ?_
  refine j_iconst (v := 0) x dX6_account_1 (by decide) ?_
  refine j2_puti (k := 19) x hb dX6_account_2 jc_10 wfX6_36 (by decide) rfl rfl rfl rfl ?_
  refine j_iconst (v := 0) x dX6_account_5 (by decide) ?_
  refine j_istore_n x dX6_account_6 (by decide) rfl ?_
  refine j_iload_n x dX6_account_7 rfl ?_
  refine j_tableIn (tgt := 190) x dX6_account_8 (by decide) (by decide) rfl (by decide) ?_
  refine j_iconst (v := 0) x dX6_account_190 (by decide) ?_
  refine j_istore_n x dX6_account_191 (by decide) rfl ?_
  refine j_for (w) (fun z0 => [some (.ref 94), some (.int 11), some (.int (jsum (fun i => gH (jm M 94 19 0) n (nI i) 1) z0)), some (.int (nI z0))]) (fun z0 => (jm M 94 19 0)) (fun z0 => True) (rfl) (rfl) (trivial) (fun j hj hP ih => ?_) (fun hP => ?_)
  · refine j_iload_n x dX6_account_192 rfl ?_
    refine j_aload_n x dX6_account_193 rfl ?_
    refine j2_getr (k := 0) (r := 95) x hb dX6_account_194 jc_10 wfX6_9 (by decide) rfl ?_
    refine j_iconst (v := 0) x dX6_account_197 (by decide) ?_
    refine j2_ialn x hb dX6_account_198 fa_95 (j := 0) (vp_c (by decide)) (by decide) ?_; rw [jm_n (by omega), h0]
    refine j_icmp_ge (tgt := 217) x dX6_account_199 (by decide) (fun hc => absurd hc (nI_ge hj (by omega))) (fun hc => ?_)
    refine j_iload_n x dX6_account_202 rfl ?_
    refine j_aload_n x dX6_account_203 rfl ?_
    refine j_iload_n x dX6_account_204 rfl ?_
    refine j_iconst (v := 1) x dX6_account_205 (by decide) ?_
    refine j2_callVi x hb dX6_account_206 m_X6_has_ (cx_has2_1 (d := d) hb hn (by rw [jm_n (by omega)]; exact hct)) wmX6_156 jc_10 rfl rfl rfl (Nat.le_of_ble_eq_true rfl) (j_fit_rm (by omega) (by omega) (by omega)) rfl ?_
    refine j_iadd x dX6_account_209 ?_
    refine j_istore_n x dX6_account_210 (by decide) rfl ?_
    refine j_iinc x dX6_account_211 rfl (by decide) rfl ?_
    refine j_goto (tgt := 192) x dX6_account_214 (by decide) ?_
    exact j_goal (ih (trivial)) (wk_c rfl (wk_c rfl (wk_c (congrArg (fun z => some (Value.int z)) (jsum_v rfl)) (wk_c (congrArg (fun z => some (Value.int z)) (nI_1 _)) (wk_0))))) (rfl)
  refine j_iload_n x dX6_account_192 rfl ?_
  refine j_aload_n x dX6_account_193 rfl ?_
  refine j2_getr (k := 0) (r := 95) x hb dX6_account_194 jc_10 wfX6_9 (by decide) rfl ?_
  refine j_iconst (v := 0) x dX6_account_197 (by decide) ?_
  refine j2_ialn x hb dX6_account_198 fa_95 (j := 0) (vp_c (by decide)) (by decide) ?_; rw [jm_n (by omega), h0]
  refine j_icmp_ge (tgt := 217) x dX6_account_199 (by decide) (fun hc => ?_) (fun hc => absurd (nI_le (Nat.le_refl _) (by omega)) hc)
  refine j_iload_n x dX6_account_217 rfl ?_
  exact j_ireturn x hr dX6_account_218 (by omega) (by omega) ⟨rfl, rfl⟩
theorem cx_account_q12 {d : Nat} {b : SBt} {Y : OUt} {M : MM} (hb : 104 ≤ b.2.1) {n : Nat} (hn : n ≤ 56) (hct : M 95 9 = nI n) (hho : ∀ i, i < n → ∃ h, h < 8 ∧ jof M i 0 = nI h) {z : Nat} (hz : z ≤ 14) (hz1 : M 95 1 = nI z) : CM (d + 4) 0 0 yX6_account cX6_account 4 (some .int) [.ref 94, .int 12] b Y M (.inl (some (.int (jsum (fun i => gpairs (jm M 94 19 0) n (nI i)) z)))) ((jm M 94 19 0)) := by
  refine Con.of (by decide +kernel) (Nat.le_of_ble_eq_true rfl) rfl fun p l e s m args below meth c D tyc A ad0 x hr htab hname => ?_
  change JJ _ _ _ _ _ _ _ _ _ _ _ _ _ _ _ _ _ 0 [some (.ref 94), some (.int 12), none, none] [] _ 0 0
  refine j_aload_n x dX6_account_0 rfl ?_
  refine j_iconst (v := 0) x dX6_account_1 (by decide) ?_
  refine j2_puti (k := 19) x hb dX6_account_2 jc_10 wfX6_36 (by decide) rfl rfl rfl rfl ?_
  refine j_iconst (v := 0) x dX6_account_5 (by decide) ?_
  refine j_istore_n x dX6_account_6 (by decide) rfl ?_
  refine j_iload_n x dX6_account_7 rfl ?_
  refine j_tableIn (tgt := 219) x dX6_account_8 (by decide) (by decide) rfl (by decide) ?_
  refine j_iconst (v := 0) x dX6_account_219 (by decide) ?_
  refine j_istore_n x dX6_account_220 (by decide) rfl ?_
  refine j_for (z) (fun z0 => [some (.ref 94), some (.int 12), some (.int (jsum (fun i => gpairs (jm M 94 19 0) n (nI i)) z0)), some (.int (nI z0))]) (fun z0 => (jm M 94 19 0)) (fun z0 => True) (rfl) (rfl) (trivial) (fun j hj hP ih => ?_) (fun hP => ?_)
  · refine j_iload_n x dX6_account_221 rfl ?_
    refine j_aload_n x dX6_account_222 rfl ?_
    refine j2_getr (k := 0) (r := 95) x hb dX6_account_223 jc_10 wfX6_9 (by decide) rfl ?_
    refine j_iconst (v := 1) x dX6_account_226 (by decide) ?_
    refine j2_ialn x hb dX6_account_227 fa_95 (j := 1) (vp_c (by decide)) (by decide) ?_; rw [jm_n (by omega), hz1]
    refine j_icmp_ge (tgt := 245) x dX6_account_228 (by decide) (fun hc => absurd hc (nI_ge hj (by omega))) (fun hc => ?_)
    refine j_iload_n x dX6_account_231 rfl ?_
    refine j_aload_n x dX6_account_232 rfl ?_
    refine j_iload_n x dX6_account_233 rfl ?_
    refine j2_callVi x hb dX6_account_234 m_X6_clashesIn (cx_clashesIn (d := d) hb hn (by rw [jm_n (by omega)]; exact hct) (fun i hi => by have z := hho i hi; unfold jof at z ⊢; rw [jm_n (by omega)]; exact z)) wmX6_158 jc_10 rfl rfl rfl (Nat.le_of_ble_eq_true rfl) (j_fit_rm (by omega) (by omega) (by omega)) rfl ?_
    refine j_iadd x dX6_account_237 ?_
    refine j_istore_n x dX6_account_238 (by decide) rfl ?_
    refine j_iinc x dX6_account_239 rfl (by decide) rfl ?_
    refine j_goto (tgt := 221) x dX6_account_242 (by decide) ?_
    exact j_goal (ih (trivial)) (wk_c rfl (wk_c rfl (wk_c (congrArg (fun z => some (Value.int z)) (jsum_v rfl)) (wk_c (congrArg (fun z => some (Value.int z)) (nI_1 _)) (wk_0))))) (rfl)
  refine j_iload_n x dX6_account_221 rfl ?_
  refine j_aload_n x dX6_account_222 rfl ?_
  refine j2_getr (k := 0) (r := 95) x hb dX6_account_223 jc_10 wfX6_9 (by decide) rfl ?_
  refine j_iconst (v := 1) x dX6_account_226 (by decide) ?_
  refine j2_ialn x hb dX6_account_227 fa_95 (j := 1) (vp_c (by decide)) (by decide) ?_; rw [jm_n (by omega), hz1]
  refine j_icmp_ge (tgt := 245) x dX6_account_228 (by decide) (fun hc => ?_) (fun hc => absurd (nI_le (Nat.le_refl _) (by omega)) hc)
  refine j_iload_n x dX6_account_245 rfl ?_
  exact j_ireturn x hr dX6_account_246 (by omega) (by omega) ⟨rfl, rfl⟩
