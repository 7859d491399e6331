/-! ===== the reference: its calls (of a league with no teams and no weeks where the text says so) ===== -/
theorem i_neg1 {u : Int32} (h : ¬ u < -1) (h1 : u < 0) : u = -1 := by
  rw [Int32.lt_iff_toInt_lt] at h h1
  apply Int32.toInt_inj.mp
  have e1 : (-1 : Int32).toInt = -1 := by decide
  have e0 : (0 : Int32).toInt = 0 := by decide
  omega
theorem no_x {t v : Int32} (h : v = 0) : jb (¬ t < 0 ∧ ¬ v - 1 < t) = 0 := jb_f (fun q => by
  subst h
  have h1 := q.1
  have h2 := q.2
  rw [Int32.lt_iff_toInt_lt] at h1 h2
  have e1 : (0 - 1 : Int32).toInt = -1 := by decide
  have e0 : (0 : Int32).toInt = 0 := by decide
  omega)
theorem no_w {v : Int32} (h : v = 0) : jb (¬ v ≤ 0) = 0 := jb_f (fun q => q (by rw [h]; decide))
theorem cx_team_no {d : Nat} {b : SBt} {Y : OUt} {M : MM} (hb : 104 ≤ b.2.1) {u : Int32} (hx : ¬ (¬ u < 0 ∧ ¬ 9 < u)) : CM (d + 2) 0 0 yX6_team cX6_team 3 (some .int) [.ref 94, .int u] b Y M (.inl (some (.int (0)))) (jrai (jrefu (jtr M) 1 0) 1) := by
  refine Con.of (by decide +kernel) (Nat.le_of_ble_eq_true rfl) rfl fun p l e s m args below meth c D tyc A ad0 x hr htab hname => ?_
  change JJ _ _ _ _ _ _ _ _ _ _ _ _ _ _ _ _ _ 0 [some (.ref 94), some (.int u), none] [] _ 0 0
  refine j_aload_n x dX6_team_0 rfl ?_
  refine j2_callVv x hb dX6_team_1 m_X6_tries (cx_tries (d := d) hb) wmX6_76 jc_10 rfl rfl rfl (Nat.le_of_ble_eq_true rfl) (j_fit_rm (by omega) (by omega) (by omega)) rfl ?_
  refine j_iload_n x dX6_team_4 rfl ?_
  refine j_iconst (v := 0) x dX6_team_5 (by decide) ?_
  refine j_bipush (v := 9) x dX6_team_6 (by decide) ?_
  refine j2_callSi x hb dX6_team_8 m_X6_in (CM_v (cx_in (d := d) hb) (jb_f hx)) wmX6_64 rfl (Nat.le_of_ble_eq_true rfl) (j_fit_rm (by omega) (by omega) (by omega)) rfl ?_
  refine j_if_ne (tgt := 25) x dX6_team_11 (by decide) (fun hc => absurd hc (fun q => q rfl)) (fun hc => ?_)
  refine j_aload_n x dX6_team_14 rfl ?_
  refine j_aload_n x dX6_team_15 rfl ?_
  refine j_iconst (v := 1) x dX6_team_16 (by decide) ?_
  refine j_iconst (v := 0) x dX6_team_17 (by decide) ?_
  refine j2_callVi x hb dX6_team_18 m_X6_refuses (cx_refuses (d := d) hb) wmX6_79 jc_10 rfl rfl rfl (Nat.le_of_ble_eq_true rfl) (j_fit_rm (by omega) (by omega) (by omega)) rfl ?_
  refine j2_callVi x hb dX6_team_21 m_X6_ends (cx_ends_0 (d := d) hb) wmX6_83 jc_10 rfl rfl rfl (Nat.le_of_ble_eq_true rfl) (j_fit_rm (by omega) (by omega) (by omega)) rfl ?_
  exact j_ireturn x hr dX6_team_24 (by omega) (by omega) ⟨rfl, rfl⟩
theorem cx_team_ok {d : Nat} {b : SBt} {Y : OUt} {M : MM} (hb : 104 ≤ b.2.1) {u : Int32} {t k : Nat} (hx : ¬ u < 0 ∧ ¬ 9 < u) (h0 : M 95 1 = 0) (h1 : M 95 0 = nI t) (ht : t < 8) (h3 : M 94 3 = nI k) (hk : k < 8) : CM (d + 2) 0 0 yX6_team cX6_team 3 (some .int) [.ref 94, .int u] b Y M (.inl (some (.int (nI t)))) (jkp (jm (jm (jtr M) 95 0 (nI (t + 1))) 95 (10 + t) u) k) := by
  refine Con.of (by decide +kernel) (Nat.le_of_ble_eq_true rfl) rfl fun p l e s m args below meth c D tyc A ad0 x hr htab hname => ?_
  change JJ _ _ _ _ _ _ _ _ _ _ _ _ _ _ _ _ _ 0 [some (.ref 94), some (.int u), none] [] _ 0 0
  refine j_aload_n x dX6_team_0 rfl ?_
  refine j2_callVv x hb dX6_team_1 m_X6_tries (cx_tries (d := d) hb) wmX6_76 jc_10 rfl rfl rfl (Nat.le_of_ble_eq_true rfl) (j_fit_rm (by omega) (by omega) (by omega)) rfl ?_
  refine j_iload_n x dX6_team_4 rfl ?_
  refine j_iconst (v := 0) x dX6_team_5 (by decide) ?_
  refine j_bipush (v := 9) x dX6_team_6 (by decide) ?_
  refine j2_callSi x hb dX6_team_8 m_X6_in (CM_v (cx_in (d := d) hb) (jb_t hx)) wmX6_64 rfl (Nat.le_of_ble_eq_true rfl) (j_fit_rm (by omega) (by omega) (by omega)) rfl ?_
  refine j_if_ne (tgt := 25) x dX6_team_11 (by decide) (fun hc => ?_) (fun hc => absurd hc (by decide))
  refine j_aload_n x dX6_team_25 rfl ?_
  refine j2_callVi x hb dX6_team_26 m_X6_isDrawn (CM_v (cx_isDrawn (d := d) hb) (no_w (by rw [jtr_n (by omega)]; exact h0))) wmX6_87 jc_10 rfl rfl rfl (Nat.le_of_ble_eq_true rfl) (j_fit_rm (by omega) (by omega) (by omega)) rfl ?_
  refine j_if_eq (tgt := 43) x dX6_team_29 (by decide) (fun hc => ?_) (fun hc => absurd (rfl) hc)
  refine j_aload_n x dX6_team_43 rfl ?_
  refine j2_getr (k := 0) (r := 95) x hb dX6_team_44 jc_10 wfX6_9 (by decide) rfl ?_
  refine j_iconst (v := 0) x dX6_team_47 (by decide) ?_
  refine j2_ialn x hb dX6_team_48 fa_95 (j := 0) (vp_c (by decide)) (by decide) ?_
  rw [jtr_n (by omega), h1]; refine j_istore_n x dX6_team_49 (by decide) rfl ?_
  refine j_iload_n x dX6_team_50 rfl ?_
  refine j_bipush (v := 8) x dX6_team_51 (by decide) ?_
  refine j_icmp_ne (tgt := 68) x dX6_team_53 (by decide) (fun hc => ?_) (fun hc => absurd hc (fun q => absurd ((nI_eq (by omega) (by decide)).mp (show nI t = nI 8 from q)) (by omega)))
  refine j_aload_n x dX6_team_68 rfl ?_
  refine j2_getr (k := 0) (r := 95) x hb dX6_team_69 jc_10 wfX6_9 (by decide) rfl ?_
  refine j_iconst (v := 0) x dX6_team_72 (by decide) ?_
  refine j_dup2 x dX6_team_73 rfl rfl ?_
  refine j2_ialn x hb dX6_team_74 fa_95 (j := 0) (vp_c (by decide)) (by decide) ?_
  refine j_iconst (v := 1) x dX6_team_75 (by decide) ?_
  refine j_iadd x dX6_team_76 ?_
  refine j2_iasn x hb dX6_team_77 fa_95 (j := 0) (vp_c (by decide)) (by decide) ?_
  rw [jtr_n (by omega), h1, nI_1]; refine j_aload_n x dX6_team_78 rfl ?_
  refine j2_getr (k := 0) (r := 95) x hb dX6_team_79 jc_10 wfX6_9 (by decide) rfl ?_
  refine j_bipush (v := 10) x dX6_team_82 (by decide) ?_
  refine j_iload_n x dX6_team_84 rfl ?_
  refine j_iadd x dX6_team_85 ?_
  refine j_iload_n x dX6_team_86 rfl ?_
  refine j2_iasn x hb dX6_team_87 fa_95 (j := 10 + t) (by rw [show (10 : Int32) + nI t = nI (10 + t) from nI_add 10 t]; exact vp_in_nI (by omega) (by decide)) (by rw [show (10 : Int32) + nI t = nI (10 + t) from nI_add 10 t]; exact nI_clamp (by omega)) ?_
  refine j_aload_n x dX6_team_88 rfl ?_
  refine j_iload_n x dX6_team_89 rfl ?_
  refine j2_callVi x hb dX6_team_90 m_X6_keeps (cx_keeps (d := d) hb hk (by rw [jm_n (by omega), jm_n (by omega), jtr_f (by omega) (by omega)]; exact h3)) wmX6_57 jc_10 rfl rfl rfl (Nat.le_of_ble_eq_true rfl) (j_fit_rm (by omega) (by omega) (by omega)) rfl ?_
  exact j_ireturn x hr dX6_team_93 (by omega) (by omega) ⟨rfl, rfl⟩
theorem cx_ground_no {d : Nat} {b : SBt} {Y : OUt} {M : MM} (hb : 104 ≤ b.2.1) {t u : Int32} (h0 : M 95 0 = 0) : CM (d + 2) 0 0 yX6_ground cX6_ground 4 (some .int) [.ref 94, .int t, .int u] b Y M (.inl (some (.int (0)))) (jrai (jrefu (jtr M) 3 t) 1) := by
  refine Con.of (by decide +kernel) (Nat.le_of_ble_eq_true rfl) rfl fun p l e s m args below meth c D tyc A ad0 x hr htab hname => ?_
  change JJ _ _ _ _ _ _ _ _ _ _ _ _ _ _ _ _ _ 0 [some (.ref 94), some (.int t), some (.int u), none] [] _ 0 0
  refine j_aload_n x dX6_ground_0 rfl ?_
  refine j2_callVv x hb dX6_ground_1 m_X6_tries (cx_tries (d := d) hb) wmX6_76 jc_10 rfl rfl rfl (Nat.le_of_ble_eq_true rfl) (j_fit_rm (by omega) (by omega) (by omega)) rfl ?_
  refine j_aload_n x dX6_ground_4 rfl ?_
  refine j_iload_n x dX6_ground_5 rfl ?_
  refine j2_callVi x hb dX6_ground_6 m_X6_isTeam (CM_v (cx_isTeam (d := d) hb) (no_x (by rw [jtr_n (by omega)]; exact h0))) wmX6_91 jc_10 rfl rfl rfl (Nat.le_of_ble_eq_true rfl) (j_fit_rm (by omega) (by omega) (by omega)) rfl ?_
  refine j_if_ne (tgt := 23) x dX6_ground_9 (by decide) (fun hc => absurd hc (fun q => q rfl)) (fun hc => ?_)
  refine j_aload_n x dX6_ground_12 rfl ?_
  refine j_aload_n x dX6_ground_13 rfl ?_
  refine j_iconst (v := 3) x dX6_ground_14 (by decide) ?_
  refine j_iload_n x dX6_ground_15 rfl ?_
  refine j2_callVi x hb dX6_ground_16 m_X6_refuses (cx_refuses (d := d) hb) wmX6_79 jc_10 rfl rfl rfl (Nat.le_of_ble_eq_true rfl) (j_fit_rm (by omega) (by omega) (by omega)) rfl ?_
  refine j2_callVi x hb dX6_ground_19 m_X6_ends (cx_ends_0 (d := d) hb) wmX6_83 jc_10 rfl rfl rfl (Nat.le_of_ble_eq_true rfl) (j_fit_rm (by omega) (by omega) (by omega)) rfl ?_
  exact j_ireturn x hr dX6_ground_22 (by omega) (by omega) ⟨rfl, rfl⟩
theorem cx_draw_few {d : Nat} {b : SBt} {Y : OUt} {M : MM} (hb : 104 ≤ b.2.1) (h1 : M 95 1 = 0) (h0 : M 95 0 < 2) : CM (d + 2) 0 0 yX6_draw cX6_draw 9 (some .int) [.ref 94] b Y M (.inl (some (.int (0)))) (jrai (jrefu (jtr M) 6 (jtr M 95 0)) 1) := by
  refine Con.of (by decide +kernel) (Nat.le_of_ble_eq_true rfl) rfl fun p l e s m args below meth c D tyc A ad0 x hr htab hname => ?_
  change JJ _ _ _ _ _ _ _ _ _ _ _ _ _ _ _ _ _ 0 [some (.ref 94), none, none, none, none, none, none, none, none] [] _ 0 0
  refine j_aload_n x dX6_draw_0 rfl ?_
  refine j2_callVv x hb dX6_draw_1 m_X6_tries (cx_tries (d := d) hb) wmX6_76 jc_10 rfl rfl rfl (Nat.le_of_ble_eq_true rfl) (j_fit_rm (by omega) (by omega) (by omega)) rfl ?_
  refine j_aload_n x dX6_draw_4 rfl ?_
  refine j2_callVi x hb dX6_draw_5 m_X6_isDrawn (CM_v (cx_isDrawn (d := d) hb) (no_w (by rw [jtr_n (by omega)]; exact h1))) wmX6_87 jc_10 rfl rfl rfl (Nat.le_of_ble_eq_true rfl) (j_fit_rm (by omega) (by omega) (by omega)) rfl ?_
  refine j_if_eq (tgt := 22) x dX6_draw_8 (by decide) (fun hc => ?_) (fun hc => absurd (rfl) hc)
  refine j_aload_n x dX6_draw_22 rfl ?_
  refine j2_callVi x hb dX6_draw_23 m_X6_places (cx_places (d := d) hb) wmX6_94 jc_10 rfl rfl rfl (Nat.le_of_ble_eq_true rfl) (j_fit_rm (by omega) (by omega) (by omega)) rfl ?_
  refine j_istore_n x dX6_draw_26 (by decide) rfl ?_
  refine j_aload_n x dX6_draw_27 rfl ?_
  refine j2_getr (k := 0) (r := 95) x hb dX6_draw_28 jc_10 wfX6_9 (by decide) rfl ?_
  refine j_iconst (v := 0) x dX6_draw_31 (by decide) ?_
  refine j2_ialn x hb dX6_draw_32 fa_95 (j := 0) (vp_c (by decide)) (by decide) ?_
  refine j_iconst (v := 2) x dX6_draw_33 (by decide) ?_
  refine j_icmp_ge (tgt := 54) x dX6_draw_34 (by decide) (fun hc => absurd hc (by rw [jtr_n (by omega)]; exact Int32.not_le.mpr h0)) (fun hc => ?_)
  refine j_aload_n x dX6_draw_37 rfl ?_
  refine j_aload_n x dX6_draw_38 rfl ?_
  refine j_bipush (v := 6) x dX6_draw_39 (by decide) ?_
  refine j_aload_n x dX6_draw_41 rfl ?_
  refine j2_getr (k := 0) (r := 95) x hb dX6_draw_42 jc_10 wfX6_9 (by decide) rfl ?_
  refine j_iconst (v := 0) x dX6_draw_45 (by decide) ?_
  refine j2_ialn x hb dX6_draw_46 fa_95 (j := 0) (vp_c (by decide)) (by decide) ?_
  refine j2_callVi x hb dX6_draw_47 m_X6_refuses (cx_refuses (d := d) hb) wmX6_79 jc_10 rfl rfl rfl (Nat.le_of_ble_eq_true rfl) (j_fit_rm (by omega) (by omega) (by omega)) rfl ?_
  refine j2_callVi x hb dX6_draw_50 m_X6_ends (cx_ends_0 (d := d) hb) wmX6_83 jc_10 rfl rfl rfl (Nat.le_of_ble_eq_true rfl) (j_fit_rm (by omega) (by omega) (by omega)) rfl ?_
  exact j_ireturn x hr dX6_draw_53 (by omega) (by omega) ⟨rfl, rfl⟩
theorem cx_give_no {d : Nat} {b : SBt} {Y : OUt} {M : MM} (hb : 104 ≤ b.2.1) {t u : Int32} (hx : ¬ (¬ t < 1 ∧ ¬ 5 < t) ∨ ¬ (¬ u < 0 ∧ ¬ 3 < u)) : CM (d + 2) 0 0 yX6_give cX6_give 4 (some .int) [.ref 94, .int t, .int u] b Y M (.inl (some (.int (0)))) (jrai (jrefu (jtr M) 1 0) 1) := by
  refine Con.of (by decide +kernel) (Nat.le_of_ble_eq_true rfl) rfl fun p l e s m args below meth c D tyc A ad0 x hr htab hname => ?_
  change JJ _ _ _ _ _ _ _ _ _ _ _ _ _ _ _ _ _ 0 [some (.ref 94), some (.int t), some (.int u), none] [] _ 0 0
  refine j_aload_n x dX6_give_0 rfl ?_
  refine j2_callVv x hb dX6_give_1 m_X6_tries (cx_tries (d := d) hb) wmX6_76 jc_10 rfl rfl rfl (Nat.le_of_ble_eq_true rfl) (j_fit_rm (by omega) (by omega) (by omega)) rfl ?_
  refine j_iload_n x dX6_give_4 rfl ?_
  refine j_iconst (v := 1) x dX6_give_5 (by decide) ?_
  refine j_iconst (v := 5) x dX6_give_6 (by decide) ?_
  refine j2_callSi x hb dX6_give_7 m_X6_in (cx_in (d := d) hb) wmX6_64 rfl (Nat.le_of_ble_eq_true rfl) (j_fit_rm (by omega) (by omega) (by omega)) rfl ?_
  refine j_if_eq (tgt := 22) x dX6_give_10 (by decide) (fun h1 => ?_) (fun h1 => ?_)
  · refine j_aload_n x dX6_give_22 rfl ?_
    refine j_aload_n x dX6_give_23 rfl ?_
    refine j_iconst (v := 1) x dX6_give_24 (by decide) ?_
    refine j_iconst (v := 0) x dX6_give_25 (by decide) ?_
    refine j2_callVi x hb dX6_give_26 m_X6_refuses (cx_refuses (d := d) hb) wmX6_79 jc_10 rfl rfl rfl (Nat.le_of_ble_eq_true rfl) (j_fit_rm (by omega) (by omega) (by omega)) rfl ?_
    refine j2_callVi x hb dX6_give_29 m_X6_ends (cx_ends_0 (d := d) hb) wmX6_83 jc_10 rfl rfl rfl (Nat.le_of_ble_eq_true rfl) (j_fit_rm (by omega) (by omega) (by omega)) rfl ?_
    exact j_ireturn x hr dX6_give_32 (by omega) (by omega) ⟨rfl, rfl⟩
  · refine j_iload_n x dX6_give_13 rfl ?_
    refine j_iconst (v := 0) x dX6_give_14 (by decide) ?_
    refine j_iconst (v := 3) x dX6_give_15 (by decide) ?_
    refine j2_callSi x hb dX6_give_16 m_X6_in (cx_in (d := d) hb) wmX6_64 rfl (Nat.le_of_ble_eq_true rfl) (j_fit_rm (by omega) (by omega) (by omega)) rfl ?_
    refine j_if_ne (tgt := 33) x dX6_give_19 (by decide) (fun hc => absurd hc (fun q => q (jb_f (hx.resolve_left (fun z => z (jb_nz.mp h1)))))) (fun hc => ?_)
    refine j_aload_n x dX6_give_22 rfl ?_
    refine j_aload_n x dX6_give_23 rfl ?_
    refine j_iconst (v := 1) x dX6_give_24 (by decide) ?_
    refine j_iconst (v := 0) x dX6_give_25 (by decide) ?_
    refine j2_callVi x hb dX6_give_26 m_X6_refuses (cx_refuses (d := d) hb) wmX6_79 jc_10 rfl rfl rfl (Nat.le_of_ble_eq_true rfl) (j_fit_rm (by omega) (by omega) (by omega)) rfl ?_
    refine j2_callVi x hb dX6_give_29 m_X6_ends (cx_ends_0 (d := d) hb) wmX6_83 jc_10 rfl rfl rfl (Nat.le_of_ble_eq_true rfl) (j_fit_rm (by omega) (by omega) (by omega)) rfl ?_
    exact j_ireturn x hr dX6_give_32 (by omega) (by omega) ⟨rfl, rfl⟩
theorem cx_give_ok {d : Nat} {b : SBt} {Y : OUt} {M : MM} (hb : 104 ≤ b.2.1) {t u : Int32} {k : Nat} (hx : (¬ t < 1 ∧ ¬ 5 < t) ∧ (¬ u < 0 ∧ ¬ 3 < u)) (h9 : M 95 9 = 0) (h3 : M 94 3 = nI k) (hk : k < 8) : CM (d + 2) 0 0 yX6_give cX6_give 4 (some .int) [.ref 94, .int t, .int u] b Y M (.inl (some (.int (10 * jtr M 95 3 + jtr M 95 4)))) (jkp (jm (jm (jtr M) 95 3 t) 95 4 u) k) := by
  refine Con.of (by decide +kernel) (Nat.le_of_ble_eq_true rfl) rfl fun p l e s m args below meth c D tyc A ad0 x hr htab hname => ?_
  change JJ _ _ _ _ _ _ _ _ _ _ _ _ _ _ _ _ _ 0 [some (.ref 94), some (.int t), some (.int u), none] [] _ 0 0
  refine j_aload_n x dX6_give_0 rfl ?_
  refine j2_callVv x hb dX6_give_1 m_X6_tries (cx_tries (d := d) hb) wmX6_76 jc_10 rfl rfl rfl (Nat.le_of_ble_eq_true rfl) (j_fit_rm (by omega) (by omega) (by omega)) rfl ?_
  refine j_iload_n x dX6_give_4 rfl ?_
  refine j_iconst (v := 1) x dX6_give_5 (by decide) ?_
  refine j_iconst (v := 5) x dX6_give_6 (by decide) ?_
  refine j2_callSi x hb dX6_give_7 m_X6_in (CM_v (cx_in (d := d) hb) (jb_t hx.1)) wmX6_64 rfl (Nat.le_of_ble_eq_true rfl) (j_fit_rm (by omega) (by omega) (by omega)) rfl ?_
  refine j_if_eq (tgt := 22) x dX6_give_10 (by decide) (fun hc => absurd hc (by decide)) (fun hc => ?_)
  refine j_iload_n x dX6_give_13 rfl ?_
  refine j_iconst (v := 0) x dX6_give_14 (by decide) ?_
  refine j_iconst (v := 3) x dX6_give_15 (by decide) ?_
  refine j2_callSi x hb dX6_give_16 m_X6_in (CM_v (cx_in (d := d) hb) (jb_t hx.2)) wmX6_64 rfl (Nat.le_of_ble_eq_true rfl) (j_fit_rm (by omega) (by omega) (by omega)) rfl ?_
  refine j_if_ne (tgt := 33) x dX6_give_19 (by decide) (fun hc => ?_) (fun hc => absurd hc (by decide))
  refine j_aload_n x dX6_give_33 rfl ?_
  refine j2_callVi x hb dX6_give_34 m_X6_played (cx_played_0 (d := d) hb (by rw [jtr_n (by omega)]; exact h9)) wmX6_113 jc_10 rfl rfl rfl (Nat.le_of_ble_eq_true rfl) (j_fit_rm (by omega) (by omega) (by omega)) rfl ?_
  refine j_if_le (tgt := 55) x dX6_give_37 (by decide) (fun hc => ?_) (fun hc => absurd (by decide) hc)
  refine j_bipush (v := 10) x dX6_give_55 (by decide) ?_
  refine j_aload_n x dX6_give_57 rfl ?_
  refine j2_getr (k := 0) (r := 95) x hb dX6_give_58 jc_10 wfX6_9 (by decide) rfl ?_
  refine j_iconst (v := 3) x dX6_give_61 (by decide) ?_
  refine j2_ialn x hb dX6_give_62 fa_95 (j := 3) (vp_c (by decide)) (by decide) ?_
  refine j_imul x dX6_give_63 ?_
  refine j_aload_n x dX6_give_64 rfl ?_
  refine j2_getr (k := 0) (r := 95) x hb dX6_give_65 jc_10 wfX6_9 (by decide) rfl ?_
  refine j_iconst (v := 4) x dX6_give_68 (by decide) ?_
  refine j2_ialn x hb dX6_give_69 fa_95 (j := 4) (vp_c (by decide)) (by decide) ?_
  refine j_iadd x dX6_give_70 ?_
  refine j_istore_n x dX6_give_71 (by decide) rfl ?_
  refine j_aload_n x dX6_give_72 rfl ?_
  refine j2_getr (k := 0) (r := 95) x hb dX6_give_73 jc_10 wfX6_9 (by decide) rfl ?_
  refine j_iconst (v := 3) x dX6_give_76 (by decide) ?_
  refine j_iload_n x dX6_give_77 rfl ?_
  refine j2_iasn x hb dX6_give_78 fa_95 (j := 3) (vp_c (by decide)) (by decide) ?_
  refine j_aload_n x dX6_give_79 rfl ?_
  refine j2_getr (k := 0) (r := 95) x hb dX6_give_80 jc_10 wfX6_9 (by decide) rfl ?_
  refine j_iconst (v := 4) x dX6_give_83 (by decide) ?_
  refine j_iload_n x dX6_give_84 rfl ?_
  refine j2_iasn x hb dX6_give_85 fa_95 (j := 4) (vp_c (by decide)) (by decide) ?_
  refine j_aload_n x dX6_give_86 rfl ?_
  refine j_iload_n x dX6_give_87 rfl ?_
  refine j2_callVi x hb dX6_give_88 m_X6_keeps (cx_keeps (d := d) hb hk (by rw [jm_n (by omega), jm_n (by omega), jtr_f (by omega) (by omega)]; exact h3)) wmX6_57 jc_10 rfl rfl rfl (Nat.le_of_ble_eq_true rfl) (j_fit_rm (by omega) (by omega) (by omega)) rfl ?_
  exact j_ireturn x hr dX6_give_91 (by omega) (by omega) ⟨rfl, rfl⟩
def jxr (M : MM) (t : Int32) : MM := if t < 0 then M else jm (jm M 95 5 (M 95 5 + 1)) 95 (6 + (M 95 5).toNatClampNeg) t
theorem jxr_m {M : MM} {t : Int32} (h : t < 0) : M = jxr M t := by rw [jxr, if_pos h]
def c5 (n : Nat) (M : MM) : Prop := ∃ c, c ≤ n ∧ M 95 5 = nI c
theorem c5_0 {M : MM} : c5 0 (jm M 95 5 0) := ⟨0, Nat.le_refl _, by rw [jm_s]; rfl⟩
theorem c5_s {M : MM} {n : Nat} {t : Int32} (h : c5 n M) : c5 (n + 1) (jxr M t) := by
  obtain ⟨c, h1, h2⟩ := h
  by_cases ht : t < 0
  · exact ⟨c, by omega, by rw [jxr, if_pos ht]; exact h2⟩
  · refine ⟨c + 1, by omega, ?_⟩
    by_cases hn : n < 100
    · rw [jxr, if_neg ht, h2, nI_clamp (by omega), jm_n (by omega), jm_s, nI_1]
    · rw [jxr, if_neg ht, jm_n (by omega), jm_s, h2, nI_1]
theorem j2_rule {p : Program} {l : Launch} {e : Env} {R : Room} {s : State} {m : MethodId} {args : Array Value} {below : List Frame} {meth : Method} {c : Code} {D : va_G} {tyc : Nat → ClassId} {A : Nat → Prop} {n0 : Nat} {ad0 : Nat → Nat} {nL : Nat} {Q : State → Prop}
    {own : String} {cc : ByteArray} {pc : Nat} {L : List (Option Value)} {st : List Value} {b : SBt} {Y : OUt} {M : MM} {cells slots : Nat} (x : j_X p l s m args meth c D tyc A own cc nL) (hb : 104 ≤ b.2.1) {n : Nat} {t : Int32} (hd : decode cc pc = .ok (.iastore, 1)) (h5 : c5 n M) (hn : n ≤ 2) (ht : ¬ t < 0)
    (kk : JJ p l e R s m args below meth c D tyc A n0 ad0 nL Q (pc + 1) L st (HH b Y (jxr M t)) cells slots) : JJ p l e R s m args below meth c D tyc A n0 ad0 nL Q pc L (.int t :: .int (6 + M 95 5) :: .ref 95 :: st) (HH b Y (jm M 95 5 (M 95 5 + 1))) cells slots := by
  obtain ⟨q, h1, h2⟩ := h5
  have e6 : (6 : Int32) + M 95 5 = nI (6 + q) := by rw [h2]; exact nI_add 6 q
  refine j2_iasn x hb (j := 6 + q) hd fa_95 (by rw [e6]; exact vp_in_nI (by omega) (by decide)) (by rw [e6]; exact nI_clamp (by omega)) ?_
  have e : jm (jm M 95 5 (M 95 5 + 1)) 95 (6 + q) t = jxr M t := by rw [jxr, if_neg ht, h2, nI_clamp (by omega)]
  rw [e]
  exact kk
theorem j2_ceq {p : Program} {l : Launch} {e : Env} {R : Room} {s : State} {m : MethodId} {args : Array Value} {below : List Frame} {meth : Method} {c : Code} {D : va_G} {tyc : Nat → ClassId} {A : Nat → Prop} {n0 : Nat} {ad0 : Nat → Nat} {nL : Nat} {Q : State → Prop}
    {pc : Nat} {L : List (Option Value)} {st : List Value} {b : SBt} {Y : OUt} {M M1 : MM} {cells slots : Nat} (he : M = M1)
    (kk : JJ p l e R s m args below meth c D tyc A n0 ad0 nL Q pc L st (HH b Y M1) cells slots) : JJ p l e R s m args below meth c D tyc A n0 ad0 nL Q pc L st (HH b Y M) cells slots := by
  subst he
  exact kk
def jxR (M : MM) (t u v : Int32) : MM := jxr (jxr (jxr (jm M 95 5 0) t) u) v
def jxno (q : Option (Int32 × Int32)) : Int32 := match q with
  | some _ => 0
  | none => 1
def jxt (M : MM) (t u v : Int32) (q : Option (Int32 × Int32)) : MM := match q with
  | some z => jrefu M z.1 z.2
  | none => jm (jxR M t u v) 94 18 (jxR M t u v 95 5)
theorem cx_takesRules {d : Nat} {b : SBt} {Y : OUt} {M : MM} (hb : 104 ≤ b.2.1) {t u v : Int32} : CM (d + 1) 0 0 yX6_takesRules cX6_takesRules 6 (some .boolean) [.ref 94, .int t, .int u, .int v] b Y M (.inl (some (.int (jxno (rRules t u v))))) (jxt M t u v (rRules t u v)) := by
  refine Con.of (by decide +kernel) (Nat.le_of_ble_eq_true rfl) rfl fun p l e s m args below meth c D tyc A ad0 x hr htab hname => ?_
  change JJ _ _ _ _ _ _ _ _ _ _ _ _ _ _ _ _ _ 0 [some (.ref 94), some (.int t), some (.int u), some (.int v), none, none] [] _ 0 0
  have tail : rRules t u v = none → JJ p l e (j_rm (d + 1) 0 0) s m args below meth c D tyc A (HH b Y M).1 ad0 6 (vx_MQ below (j_Qc D tyc A (HH b Y M).1 ad0 (jres b Y (.inl (some (.int (jxno (rRules t u v))))) (jxt M t u v (rRules t u v)))) (j_XC D tyc A (HH b Y M).1 ad0 (jres b Y (.inl (some (.int (jxno (rRules t u v))))) (jxt M t u v (rRules t u v)))) args s 0 0 A) 73 [some (.ref 94), some (.int t), some (.int u), some (.int v), none, none] [] (HH b Y M) 0 0 := by
    intro hq
    refine j_aload_n x dX6_takesRules_73 rfl ?_
    refine j2_getr (k := 0) (r := 95) x hb dX6_takesRules_74 jc_10 wfX6_9 (by decide) rfl ?_
    refine j_iconst (v := 5) x dX6_takesRules_77 (by decide) ?_
    refine j_iconst (v := 0) x dX6_takesRules_78 (by decide) ?_
    refine j2_iasn x hb dX6_takesRules_79 fa_95 (j := 5) (vp_c (by decide)) (by decide) ?_
    refine j_iconst (v := 0) x dX6_takesRules_80 (by decide) ?_
    refine j_istore x dX6_takesRules_81 (by decide) rfl ?_
    refine j_iload x dX6_takesRules_83 rfl ?_
    refine j_iconst (v := 3) x dX6_takesRules_85 (by decide) ?_
    refine j_icmp_ge (tgt := 143) x dX6_takesRules_86 (by decide) (fun hc => absurd hc (by decide)) (fun hc => ?_)
    refine j_iload x dX6_takesRules_89 rfl ?_
    refine j_if_ne (tgt := 98) x dX6_takesRules_91 (by decide) (fun hc => absurd hc (fun q => q rfl)) (fun hc => ?_)
    refine j_iload_n x dX6_takesRules_94 rfl ?_
    refine j_goto (tgt := 109) x dX6_takesRules_95 (by decide) ?_
    refine j_istore x dX6_takesRules_109 (by decide) rfl ?_
    refine j_iload x dX6_takesRules_111 rfl ?_
    refine j_if_lt (tgt := 137) x dX6_takesRules_113 (by decide) (fun g0 => ?_) (fun g0 => ?_)
    · refine j2_ceq (jxr_m g0) ?_
      refine j_iinc x dX6_takesRules_137 rfl (by decide) rfl ?_
      refine j_goto (tgt := 83) x dX6_takesRules_140 (by decide) ?_
      refine j_iload x dX6_takesRules_83 rfl ?_
      refine j_iconst (v := 3) x dX6_takesRules_85 (by decide) ?_
      refine j_icmp_ge (tgt := 143) x dX6_takesRules_86 (by decide) (fun hc => absurd hc (by decide)) (fun hc => ?_)
      refine j_iload x dX6_takesRules_89 rfl ?_
      refine j_if_ne (tgt := 98) x dX6_takesRules_91 (by decide) (fun hc => ?_) (fun hc => absurd hc (by decide))
      refine j_iload x dX6_takesRules_98 rfl ?_
      refine j_iconst (v := 1) x dX6_takesRules_100 (by decide) ?_
      refine j_icmp_ne (tgt := 108) x dX6_takesRules_101 (by decide) (fun hc => absurd hc (fun q => q rfl)) (fun hc => ?_)
      refine j_iload_n x dX6_takesRules_104 rfl ?_
      refine j_goto (tgt := 109) x dX6_takesRules_105 (by decide) ?_
      refine j_istore x dX6_takesRules_109 (by decide) rfl ?_
      refine j_iload x dX6_takesRules_111 rfl ?_
      refine j_if_lt (tgt := 137) x dX6_takesRules_113 (by decide) (fun g1 => ?_) (fun g1 => ?_)
      · refine j2_ceq (jxr_m g1) ?_
        refine j_iinc x dX6_takesRules_137 rfl (by decide) rfl ?_
        refine j_goto (tgt := 83) x dX6_takesRules_140 (by decide) ?_
        refine j_iload x dX6_takesRules_83 rfl ?_
        refine j_iconst (v := 3) x dX6_takesRules_85 (by decide) ?_
        refine j_icmp_ge (tgt := 143) x dX6_takesRules_86 (by decide) (fun hc => absurd hc (by decide)) (fun hc => ?_)
        refine j_iload x dX6_takesRules_89 rfl ?_
        refine j_if_ne (tgt := 98) x dX6_takesRules_91 (by decide) (fun hc => ?_) (fun hc => absurd hc (by decide))
        refine j_iload x dX6_takesRules_98 rfl ?_
        refine j_iconst (v := 1) x dX6_takesRules_100 (by decide) ?_
        refine j_icmp_ne (tgt := 108) x dX6_takesRules_101 (by decide) (fun hc => ?_) (fun hc => absurd hc (by decide))
        refine j_iload_n x dX6_takesRules_108 rfl ?_
        refine j_istore x dX6_takesRules_109 (by decide) rfl ?_
        refine j_iload x dX6_takesRules_111 rfl ?_
        refine j_if_lt (tgt := 137) x dX6_takesRules_113 (by decide) (fun g2 => ?_) (fun g2 => ?_)
        · refine j2_ceq (jxr_m g2) ?_
          refine j_iinc x dX6_takesRules_137 rfl (by decide) rfl ?_
          refine j_goto (tgt := 83) x dX6_takesRules_140 (by decide) ?_
          refine j_iload x dX6_takesRules_83 rfl ?_
          refine j_iconst (v := 3) x dX6_takesRules_85 (by decide) ?_
          refine j_icmp_ge (tgt := 143) x dX6_takesRules_86 (by decide) (fun hc => ?_) (fun hc => absurd (by decide) hc)
          refine j_aload_n x dX6_takesRules_143 rfl ?_
          refine j_aload_n x dX6_takesRules_144 rfl ?_
          refine j2_getr (k := 0) (r := 95) x hb dX6_takesRules_145 jc_10 wfX6_9 (by decide) rfl ?_
          refine j_iconst (v := 5) x dX6_takesRules_148 (by decide) ?_
          refine j2_ialn x hb dX6_takesRules_149 fa_95 (j := 5) (vp_c (by decide)) (by decide) ?_
          refine j2_callVi x hb dX6_takesRules_150 m_X6_does (cx_does (d := d) hb) wmX6_116 jc_10 rfl rfl rfl (Nat.le_of_ble_eq_true rfl) (j_fit_rm (by omega) (by omega) (by omega)) rfl ?_
          exact j_zreturn x hr dX6_takesRules_153 (by first | decide | exact jb_nar) (by omega) (by omega) ⟨by rw [hq]; rfl, by rw [hq]; rfl⟩
        · refine j_aload_n x dX6_takesRules_116 rfl ?_
          refine j2_getr (k := 0) (r := 95) x hb dX6_takesRules_117 jc_10 wfX6_9 (by decide) rfl ?_
          refine j_bipush (v := 6) x dX6_takesRules_120 (by decide) ?_
          refine j_aload_n x dX6_takesRules_122 rfl ?_
          refine j2_getr (k := 0) (r := 95) x hb dX6_takesRules_123 jc_10 wfX6_9 (by decide) rfl ?_
          refine j_iconst (v := 5) x dX6_takesRules_126 (by decide) ?_
          refine j_dup2 x dX6_takesRules_127 rfl rfl ?_
          refine j2_ialn x hb dX6_takesRules_128 fa_95 (j := 5) (vp_c (by decide)) (by decide) ?_
          refine j_dup_x2 x dX6_takesRules_129 rfl rfl rfl ?_
          refine j_iconst (v := 1) x dX6_takesRules_130 (by decide) ?_
          refine j_iadd x dX6_takesRules_131 ?_
          refine j2_iasn x hb dX6_takesRules_132 fa_95 (j := 5) (vp_c (by decide)) (by decide) ?_
          refine j_iadd x dX6_takesRules_133 ?_
          refine j_iload x dX6_takesRules_134 rfl ?_
          refine j2_rule (n := 2) x hb dX6_takesRules_136 (c5_s (c5_s c5_0)) (by decide) g2 ?_
          refine j_iinc x dX6_takesRules_137 rfl (by decide) rfl ?_
          refine j_goto (tgt := 83) x dX6_takesRules_140 (by decide) ?_
          refine j_iload x dX6_takesRules_83 rfl ?_
          refine j_iconst (v := 3) x dX6_takesRules_85 (by decide) ?_
          refine j_icmp_ge (tgt := 143) x dX6_takesRules_86 (by decide) (fun hc => ?_) (fun hc => absurd (by decide) hc)
          refine j_aload_n x dX6_takesRules_143 rfl ?_
          refine j_aload_n x dX6_takesRules_144 rfl ?_
          refine j2_getr (k := 0) (r := 95) x hb dX6_takesRules_145 jc_10 wfX6_9 (by decide) rfl ?_
          refine j_iconst (v := 5) x dX6_takesRules_148 (by decide) ?_
          refine j2_ialn x hb dX6_takesRules_149 fa_95 (j := 5) (vp_c (by decide)) (by decide) ?_
          refine j2_callVi x hb dX6_takesRules_150 m_X6_does (cx_does (d := d) hb) wmX6_116 jc_10 rfl rfl rfl (Nat.le_of_ble_eq_true rfl) (j_fit_rm (by omega) (by omega) (by omega)) rfl ?_
          exact j_zreturn x hr dX6_takesRules_153 (by first | decide | exact jb_nar) (by omega) (by omega) ⟨by rw [hq]; rfl, by rw [hq]; rfl⟩
      · refine j_aload_n x dX6_takesRules_116 rfl ?_
        refine j2_getr (k := 0) (r := 95) x hb dX6_takesRules_117 jc_10 wfX6_9 (by decide) rfl ?_
        refine j_bipush (v := 6) x dX6_takesRules_120 (by decide) ?_
        refine j_aload_n x dX6_takesRules_122 rfl ?_
        refine j2_getr (k := 0) (r := 95) x hb dX6_takesRules_123 jc_10 wfX6_9 (by decide) rfl ?_
        refine j_iconst (v := 5) x dX6_takesRules_126 (by decide) ?_
        refine j_dup2 x dX6_takesRules_127 rfl rfl ?_
        refine j2_ialn x hb dX6_takesRules_128 fa_95 (j := 5) (vp_c (by decide)) (by decide) ?_
        refine j_dup_x2 x dX6_takesRules_129 rfl rfl rfl ?_
        refine j_iconst (v := 1) x dX6_takesRules_130 (by decide) ?_
        refine j_iadd x dX6_takesRules_131 ?_
        refine j2_iasn x hb dX6_takesRules_132 fa_95 (j := 5) (vp_c (by decide)) (by decide) ?_
        refine j_iadd x dX6_takesRules_133 ?_
        refine j_iload x dX6_takesRules_134 rfl ?_
        refine j2_rule (n := 1) x hb dX6_takesRules_136 (c5_s c5_0) (by decide) g1 ?_
        refine j_iinc x dX6_takesRules_137 rfl (by decide) rfl ?_
        refine j_goto (tgt := 83) x dX6_takesRules_140 (by decide) ?_
        refine j_iload x dX6_takesRules_83 rfl ?_
        refine j_iconst (v := 3) x dX6_takesRules_85 (by decide) ?_
        refine j_icmp_ge (tgt := 143) x dX6_takesRules_86 (by decide) (fun hc => absurd hc (by decide)) (fun hc => ?_)
        refine j_iload x dX6_takesRules_89 rfl ?_
        refine j_if_ne (tgt := 98) x dX6_takesRules_91 (by decide) (fun hc => ?_) (fun hc => absurd hc (by decide))
        refine j_iload x dX6_takesRules_98 rfl ?_
        refine j_iconst (v := 1) x dX6_takesRules_100 (by decide) ?_
        refine j_icmp_ne (tgt := 108) x dX6_takesRules_101 (by decide) (fun hc => ?_) (fun hc => absurd hc (by decide))
        refine j_iload_n x dX6_takesRules_108 rfl ?_
        refine j_istore x dX6_takesRules_109 (by decide) rfl ?_
        refine j_iload x dX6_takesRules_111 rfl ?_
        refine j_if_lt (tgt := 137) x dX6_takesRules_113 (by decide) (fun g2 => ?_) (fun g2 => ?_)
        · refine j2_ceq (jxr_m g2) ?_
          refine j_iinc x dX6_takesRules_137 rfl (by decide) rfl ?_
          refine j_goto (tgt := 83) x dX6_takesRules_140 (by decide) ?_
          refine j_iload x dX6_takesRules_83 rfl ?_
          refine j_iconst (v := 3) x dX6_takesRules_85 (by decide) ?_
          refine j_icmp_ge (tgt := 143) x dX6_takesRules_86 (by decide) (fun hc => ?_) (fun hc => absurd (by decide) hc)
          refine j_aload_n x dX6_takesRules_143 rfl ?_
          refine j_aload_n x dX6_takesRules_144 rfl ?_
          refine j2_getr (k := 0) (r := 95) x hb dX6_takesRules_145 jc_10 wfX6_9 (by decide) rfl ?_
          refine j_iconst (v := 5) x dX6_takesRules_148 (by decide) ?_
          refine j2_ialn x hb dX6_takesRules_149 fa_95 (j := 5) (vp_c (by decide)) (by decide) ?_
          refine j2_callVi x hb dX6_takesRules_150 m_X6_does (cx_does (d := d) hb) wmX6_116 jc_10 rfl rfl rfl (Nat.le_of_ble_eq_true rfl) (j_fit_rm (by omega) (by omega) (by omega)) rfl ?_
          exact j_zreturn x hr dX6_takesRules_153 (by first | decide | exact jb_nar) (by omega) (by omega) ⟨by rw [hq]; rfl, by rw [hq]; rfl⟩
        · refine j_aload_n x dX6_takesRules_116 rfl ?_
          refine j2_getr (k := 0) (r := 95) x hb dX6_takesRules_117 jc_10 wfX6_9 (by decide) rfl ?_
          refine j_bipush (v := 6) x dX6_takesRules_120 (by decide) ?_
          refine j_aload_n x dX6_takesRules_122 rfl ?_
          refine j2_getr (k := 0) (r := 95) x hb dX6_takesRules_123 jc_10 wfX6_9 (by decide) rfl ?_
          refine j_iconst (v := 5) x dX6_takesRules_126 (by decide) ?_
          refine j_dup2 x dX6_takesRules_127 rfl rfl ?_
          refine j2_ialn x hb dX6_takesRules_128 fa_95 (j := 5) (vp_c (by decide)) (by decide) ?_
          refine j_dup_x2 x dX6_takesRules_129 rfl rfl rfl ?_
          refine j_iconst (v := 1) x dX6_takesRules_130 (by decide) ?_
          refine j_iadd x dX6_takesRules_131 ?_
          refine j2_iasn x hb dX6_takesRules_132 fa_95 (j := 5) (vp_c (by decide)) (by decide) ?_
          refine j_iadd x dX6_takesRules_133 ?_
          refine j_iload x dX6_takesRules_134 rfl ?_
          refine j2_rule (n := 2) x hb dX6_takesRules_136 (c5_s (c5_s c5_0)) (by decide) g2 ?_
          refine j_iinc x dX6_takesRules_137 rfl (by decide) rfl ?_
          refine j_goto (tgt := 83) x dX6_takesRules_140 (by decide) ?_
          refine j_iload x dX6_takesRules_83 rfl ?_
          refine j_iconst (v := 3) x dX6_takesRules_85 (by decide) ?_
          refine j_icmp_ge (tgt := 143) x dX6_takesRules_86 (by decide) (fun hc => ?_) (fun hc => absurd (by decide) hc)
          refine j_aload_n x dX6_takesRules_143 rfl ?_
          refine j_aload_n x dX6_takesRules_144 rfl ?_
          refine j2_getr (k := 0) (r := 95) x hb dX6_takesRules_145 jc_10 wfX6_9 (by decide) rfl ?_
          refine j_iconst (v := 5) x dX6_takesRules_148 (by decide) ?_
          refine j2_ialn x hb dX6_takesRules_149 fa_95 (j := 5) (vp_c (by decide)) (by decide) ?_
          refine j2_callVi x hb dX6_takesRules_150 m_X6_does (cx_does (d := d) hb) wmX6_116 jc_10 rfl rfl rfl (Nat.le_of_ble_eq_true rfl) (j_fit_rm (by omega) (by omega) (by omega)) rfl ?_
          exact j_zreturn x hr dX6_takesRules_153 (by first | decide | exact jb_nar) (by omega) (by omega) ⟨by rw [hq]; rfl, by rw [hq]; rfl⟩
    · refine j_aload_n x dX6_takesRules_116 rfl ?_
      refine j2_getr (k := 0) (r := 95) x hb dX6_takesRules_117 jc_10 wfX6_9 (by decide) rfl ?_
      refine j_bipush (v := 6) x dX6_takesRules_120 (by decide) ?_
      refine j_aload_n x dX6_takesRules_122 rfl ?_
      refine j2_getr (k := 0) (r := 95) x hb dX6_takesRules_123 jc_10 wfX6_9 (by decide) rfl ?_
      refine j_iconst (v := 5) x dX6_takesRules_126 (by decide) ?_
      refine j_dup2 x dX6_takesRules_127 rfl rfl ?_
      refine j2_ialn x hb dX6_takesRules_128 fa_95 (j := 5) (vp_c (by decide)) (by decide) ?_
      refine j_dup_x2 x dX6_takesRules_129 rfl rfl rfl ?_
      refine j_iconst (v := 1) x dX6_takesRules_130 (by decide) ?_
      refine j_iadd x dX6_takesRules_131 ?_
      refine j2_iasn x hb dX6_takesRules_132 fa_95 (j := 5) (vp_c (by decide)) (by decide) ?_
      refine j_iadd x dX6_takesRules_133 ?_
      refine j_iload x dX6_takesRules_134 rfl ?_
      refine j2_rule (n := 0) x hb dX6_takesRules_136 c5_0 (by decide) g0 ?_
      refine j_iinc x dX6_takesRules_137 rfl (by decide) rfl ?_
      refine j_goto (tgt := 83) x dX6_takesRules_140 (by decide) ?_
      refine j_iload x dX6_takesRules_83 rfl ?_
      refine j_iconst (v := 3) x dX6_takesRules_85 (by decide) ?_
      refine j_icmp_ge (tgt := 143) x dX6_takesRules_86 (by decide) (fun hc => absurd hc (by decide)) (fun hc => ?_)
      refine j_iload x dX6_takesRules_89 rfl ?_
      refine j_if_ne (tgt := 98) x dX6_takesRules_91 (by decide) (fun hc => ?_) (fun hc => absurd hc (by decide))
      refine j_iload x dX6_takesRules_98 rfl ?_
      refine j_iconst (v := 1) x dX6_takesRules_100 (by decide) ?_
      refine j_icmp_ne (tgt := 108) x dX6_takesRules_101 (by decide) (fun hc => absurd hc (fun q => q rfl)) (fun hc => ?_)
      refine j_iload_n x dX6_takesRules_104 rfl ?_
      refine j_goto (tgt := 109) x dX6_takesRules_105 (by decide) ?_
      refine j_istore x dX6_takesRules_109 (by decide) rfl ?_
      refine j_iload x dX6_takesRules_111 rfl ?_
      refine j_if_lt (tgt := 137) x dX6_takesRules_113 (by decide) (fun g1 => ?_) (fun g1 => ?_)
      · refine j2_ceq (jxr_m g1) ?_
        refine j_iinc x dX6_takesRules_137 rfl (by decide) rfl ?_
        refine j_goto (tgt := 83) x dX6_takesRules_140 (by decide) ?_
        refine j_iload x dX6_takesRules_83 rfl ?_
        refine j_iconst (v := 3) x dX6_takesRules_85 (by decide) ?_
        refine j_icmp_ge (tgt := 143) x dX6_takesRules_86 (by decide) (fun hc => absurd hc (by decide)) (fun hc => ?_)
        refine j_iload x dX6_takesRules_89 rfl ?_
        refine j_if_ne (tgt := 98) x dX6_takesRules_91 (by decide) (fun hc => ?_) (fun hc => absurd hc (by decide))
        refine j_iload x dX6_takesRules_98 rfl ?_
        refine j_iconst (v := 1) x dX6_takesRules_100 (by decide) ?_
        refine j_icmp_ne (tgt := 108) x dX6_takesRules_101 (by decide) (fun hc => ?_) (fun hc => absurd hc (by decide))
        refine j_iload_n x dX6_takesRules_108 rfl ?_
        refine j_istore x dX6_takesRules_109 (by decide) rfl ?_
        refine j_iload x dX6_takesRules_111 rfl ?_
        refine j_if_lt (tgt := 137) x dX6_takesRules_113 (by decide) (fun g2 => ?_) (fun g2 => ?_)
        · refine j2_ceq (jxr_m g2) ?_
          refine j_iinc x dX6_takesRules_137 rfl (by decide) rfl ?_
          refine j_goto (tgt := 83) x dX6_takesRules_140 (by decide) ?_
          refine j_iload x dX6_takesRules_83 rfl ?_
          refine j_iconst (v := 3) x dX6_takesRules_85 (by decide) ?_
          refine j_icmp_ge (tgt := 143) x dX6_takesRules_86 (by decide) (fun hc => ?_) (fun hc => absurd (by decide) hc)
          refine j_aload_n x dX6_takesRules_143 rfl ?_
          refine j_aload_n x dX6_takesRules_144 rfl ?_
          refine j2_getr (k := 0) (r := 95) x hb dX6_takesRules_145 jc_10 wfX6_9 (by decide) rfl ?_
          refine j_iconst (v := 5) x dX6_takesRules_148 (by decide) ?_
          refine j2_ialn x hb dX6_takesRules_149 fa_95 (j := 5) (vp_c (by decide)) (by decide) ?_
          refine j2_callVi x hb dX6_takesRules_150 m_X6_does (cx_does (d := d) hb) wmX6_116 jc_10 rfl rfl rfl (Nat.le_of_ble_eq_true rfl) (j_fit_rm (by omega) (by omega) (by omega)) rfl ?_
          exact j_zreturn x hr dX6_takesRules_153 (by first | decide | exact jb_nar) (by omega) (by omega) ⟨by rw [hq]; rfl, by rw [hq]; rfl⟩
        · refine j_aload_n x dX6_takesRules_116 rfl ?_
          refine j2_getr (k := 0) (r := 95) x hb dX6_takesRules_117 jc_10 wfX6_9 (by decide) rfl ?_
          refine j_bipush (v := 6) x dX6_takesRules_120 (by decide) ?_
          refine j_aload_n x dX6_takesRules_122 rfl ?_
          refine j2_getr (k := 0) (r := 95) x hb dX6_takesRules_123 jc_10 wfX6_9 (by decide) rfl ?_
          refine j_iconst (v := 5) x dX6_takesRules_126 (by decide) ?_
          refine j_dup2 x dX6_takesRules_127 rfl rfl ?_
          refine j2_ialn x hb dX6_takesRules_128 fa_95 (j := 5) (vp_c (by decide)) (by decide) ?_
          refine j_dup_x2 x dX6_takesRules_129 rfl rfl rfl ?_
          refine j_iconst (v := 1) x dX6_takesRules_130 (by decide) ?_
          refine j_iadd x dX6_takesRules_131 ?_
          refine j2_iasn x hb dX6_takesRules_132 fa_95 (j := 5) (vp_c (by decide)) (by decide) ?_
          refine j_iadd x dX6_takesRules_133 ?_
          refine j_iload x dX6_takesRules_134 rfl ?_
          refine j2_rule (n := 2) x hb dX6_takesRules_136 (c5_s (c5_s c5_0)) (by decide) g2 ?_
          refine j_iinc x dX6_takesRules_137 rfl (by decide) rfl ?_
          refine j_goto (tgt := 83) x dX6_takesRules_140 (by decide) ?_
          refine j_iload x dX6_takesRules_83 rfl ?_
          refine j_iconst (v := 3) x dX6_takesRules_85 (by decide) ?_
          refine j_icmp_ge (tgt := 143) x dX6_takesRules_86 (by decide) (fun hc => ?_) (fun hc => absurd (by decide) hc)
          refine j_aload_n x dX6_takesRules_143 rfl ?_
          refine j_aload_n x dX6_takesRules_144 rfl ?_
          refine j2_getr (k := 0) (r := 95) x hb dX6_takesRules_145 jc_10 wfX6_9 (by decide) rfl ?_
          refine j_iconst (v := 5) x dX6_takesRules_148 (by decide) ?_
          refine j2_ialn x hb dX6_takesRules_149 fa_95 (j := 5) (vp_c (by decide)) (by decide) ?_
          refine j2_callVi x hb dX6_takesRules_150 m_X6_does (cx_does (d := d) hb) wmX6_116 jc_10 rfl rfl rfl (Nat.le_of_ble_eq_true rfl) (j_fit_rm (by omega) (by omega) (by omega)) rfl ?_
          exact j_zreturn x hr dX6_takesRules_153 (by first | decide | exact jb_nar) (by omega) (by omega) ⟨by rw [hq]; rfl, by rw [hq]; rfl⟩
      · refine j_aload_n x dX6_takesRules_116 rfl ?_
        refine j2_getr (k := 0) (r := 95) x hb dX6_takesRules_117 jc_10 wfX6_9 (by decide) rfl ?_
        refine j_bipush (v := 6) x dX6_takesRules_120 (by decide) ?_
        refine j_aload_n x dX6_takesRules_122 rfl ?_
        refine j2_getr (k := 0) (r := 95) x hb dX6_takesRules_123 jc_10 wfX6_9 (by decide) rfl ?_
        refine j_iconst (v := 5) x dX6_takesRules_126 (by decide) ?_
        refine j_dup2 x dX6_takesRules_127 rfl rfl ?_
        refine j2_ialn x hb dX6_takesRules_128 fa_95 (j := 5) (vp_c (by decide)) (by decide) ?_
        refine j_dup_x2 x dX6_takesRules_129 rfl rfl rfl ?_
        refine j_iconst (v := 1) x dX6_takesRules_130 (by decide) ?_
        refine j_iadd x dX6_takesRules_131 ?_
        refine j2_iasn x hb dX6_takesRules_132 fa_95 (j := 5) (vp_c (by decide)) (by decide) ?_
        refine j_iadd x dX6_takesRules_133 ?_
        refine j_iload x dX6_takesRules_134 rfl ?_
        refine j2_rule (n := 1) x hb dX6_takesRules_136 (c5_s c5_0) (by decide) g1 ?_
        refine j_iinc x dX6_takesRules_137 rfl (by decide) rfl ?_
        refine j_goto (tgt := 83) x dX6_takesRules_140 (by decide) ?_
        refine j_iload x dX6_takesRules_83 rfl ?_
        refine j_iconst (v := 3) x dX6_takesRules_85 (by decide) ?_
        refine j_icmp_ge (tgt := 143) x dX6_takesRules_86 (by decide) (fun hc => absurd hc (by decide)) (fun hc => ?_)
        refine j_iload x dX6_takesRules_89 rfl ?_
        refine j_if_ne (tgt := 98) x dX6_takesRules_91 (by decide) (fun hc => ?_) (fun hc => absurd hc (by decide))
        refine j_iload x dX6_takesRules_98 rfl ?_
        refine j_iconst (v := 1) x dX6_takesRules_100 (by decide) ?_
        refine j_icmp_ne (tgt := 108) x dX6_takesRules_101 (by decide) (fun hc => ?_) (fun hc => absurd hc (by decide))
        refine j_iload_n x dX6_takesRules_108 rfl ?_
        refine j_istore x dX6_takesRules_109 (by decide) rfl ?_
        refine j_iload x dX6_takesRules_111 rfl ?_
        refine j_if_lt (tgt := 137) x dX6_takesRules_113 (by decide) (fun g2 => ?_) (fun g2 => ?_)
        · refine j2_ceq (jxr_m g2) ?_
          refine j_iinc x dX6_takesRules_137 rfl (by decide) rfl ?_
          refine j_goto (tgt := 83) x dX6_takesRules_140 (by decide) ?_
          refine j_iload x dX6_takesRules_83 rfl ?_
          refine j_iconst (v := 3) x dX6_takesRules_85 (by decide) ?_
          refine j_icmp_ge (tgt := 143) x dX6_takesRules_86 (by decide) (fun hc => ?_) (fun hc => absurd (by decide) hc)
          refine j_aload_n x dX6_takesRules_143 rfl ?_
          refine j_aload_n x dX6_takesRules_144 rfl ?_
          refine j2_getr (k := 0) (r := 95) x hb dX6_takesRules_145 jc_10 wfX6_9 (by decide) rfl ?_
          refine j_iconst (v := 5) x dX6_takesRules_148 (by decide) ?_
          refine j2_ialn x hb dX6_takesRules_149 fa_95 (j := 5) (vp_c (by decide)) (by decide) ?_
          refine j2_callVi x hb dX6_takesRules_150 m_X6_does (cx_does (d := d) hb) wmX6_116 jc_10 rfl rfl rfl (Nat.le_of_ble_eq_true rfl) (j_fit_rm (by omega) (by omega) (by omega)) rfl ?_
          exact j_zreturn x hr dX6_takesRules_153 (by first | decide | exact jb_nar) (by omega) (by omega) ⟨by rw [hq]; rfl, by rw [hq]; rfl⟩
        · refine j_aload_n x dX6_takesRules_116 rfl ?_
          refine j2_getr (k := 0) (r := 95) x hb dX6_takesRules_117 jc_10 wfX6_9 (by decide) rfl ?_
          refine j_bipush (v := 6) x dX6_takesRules_120 (by decide) ?_
          refine j_aload_n x dX6_takesRules_122 rfl ?_
          refine j2_getr (k := 0) (r := 95) x hb dX6_takesRules_123 jc_10 wfX6_9 (by decide) rfl ?_
          refine j_iconst (v := 5) x dX6_takesRules_126 (by decide) ?_
          refine j_dup2 x dX6_takesRules_127 rfl rfl ?_
          refine j2_ialn x hb dX6_takesRules_128 fa_95 (j := 5) (vp_c (by decide)) (by decide) ?_
          refine j_dup_x2 x dX6_takesRules_129 rfl rfl rfl ?_
          refine j_iconst (v := 1) x dX6_takesRules_130 (by decide) ?_
          refine j_iadd x dX6_takesRules_131 ?_
          refine j2_iasn x hb dX6_takesRules_132 fa_95 (j := 5) (vp_c (by decide)) (by decide) ?_
          refine j_iadd x dX6_takesRules_133 ?_
          refine j_iload x dX6_takesRules_134 rfl ?_
          refine j2_rule (n := 2) x hb dX6_takesRules_136 (c5_s (c5_s c5_0)) (by decide) g2 ?_
          refine j_iinc x dX6_takesRules_137 rfl (by decide) rfl ?_
          refine j_goto (tgt := 83) x dX6_takesRules_140 (by decide) ?_
          refine j_iload x dX6_takesRules_83 rfl ?_
          refine j_iconst (v := 3) x dX6_takesRules_85 (by decide) ?_
          refine j_icmp_ge (tgt := 143) x dX6_takesRules_86 (by decide) (fun hc => ?_) (fun hc => absurd (by decide) hc)
          refine j_aload_n x dX6_takesRules_143 rfl ?_
          refine j_aload_n x dX6_takesRules_144 rfl ?_
          refine j2_getr (k := 0) (r := 95) x hb dX6_takesRules_145 jc_10 wfX6_9 (by decide) rfl ?_
          refine j_iconst (v := 5) x dX6_takesRules_148 (by decide) ?_
          refine j2_ialn x hb dX6_takesRules_149 fa_95 (j := 5) (vp_c (by decide)) (by decide) ?_
          refine j2_callVi x hb dX6_takesRules_150 m_X6_does (cx_does (d := d) hb) wmX6_116 jc_10 rfl rfl rfl (Nat.le_of_ble_eq_true rfl) (j_fit_rm (by omega) (by omega) (by omega)) rfl ?_
          exact j_zreturn x hr dX6_takesRules_153 (by first | decide | exact jb_nar) (by omega) (by omega) ⟨by rw [hq]; rfl, by rw [hq]; rfl⟩
  refine j_iload_n x dX6_takesRules_0 rfl ?_
  refine j_iconst (v := (-1)) x dX6_takesRules_1 (by decide) ?_
  refine j_iconst (v := 4) x dX6_takesRules_2 (by decide) ?_
  refine j2_callSi x hb dX6_takesRules_3 m_X6_in (cx_in (d := d) hb) wmX6_64 rfl (Nat.le_of_ble_eq_true rfl) (j_fit_rm (by omega) (by omega) (by omega)) rfl ?_
  refine j_if_eq (tgt := 27) x dX6_takesRules_6 (by decide) (fun h1 => ?_) (fun h1 => ?_)
  · refine j_aload_n x dX6_takesRules_27 rfl ?_
    refine j_iconst (v := 1) x dX6_takesRules_28 (by decide) ?_
    refine j_iconst (v := 0) x dX6_takesRules_29 (by decide) ?_
    refine j2_callVi x hb dX6_takesRules_30 m_X6_refuses (cx_refuses (d := d) hb) wmX6_79 jc_10 rfl rfl rfl (Nat.le_of_ble_eq_true rfl) (j_fit_rm (by omega) (by omega) (by omega)) rfl ?_
    exact j_zreturn x hr dX6_takesRules_33 (by first | decide | exact jb_nar) (by omega) (by omega) ⟨by rw [show rRules t u v = some (1, 0) from if_pos (fun q => jb_0.mp h1 q.1)]; rfl, by rw [show rRules t u v = some (1, 0) from if_pos (fun q => jb_0.mp h1 q.1)]; rfl⟩
  · refine j_iload_n x dX6_takesRules_9 rfl ?_
    refine j_iconst (v := (-1)) x dX6_takesRules_10 (by decide) ?_
    refine j_iconst (v := 4) x dX6_takesRules_11 (by decide) ?_
    refine j2_callSi x hb dX6_takesRules_12 m_X6_in (cx_in (d := d) hb) wmX6_64 rfl (Nat.le_of_ble_eq_true rfl) (j_fit_rm (by omega) (by omega) (by omega)) rfl ?_
    refine j_if_eq (tgt := 27) x dX6_takesRules_15 (by decide) (fun h2 => ?_) (fun h2 => ?_)
    · refine j_aload_n x dX6_takesRules_27 rfl ?_
      refine j_iconst (v := 1) x dX6_takesRules_28 (by decide) ?_
      refine j_iconst (v := 0) x dX6_takesRules_29 (by decide) ?_
      refine j2_callVi x hb dX6_takesRules_30 m_X6_refuses (cx_refuses (d := d) hb) wmX6_79 jc_10 rfl rfl rfl (Nat.le_of_ble_eq_true rfl) (j_fit_rm (by omega) (by omega) (by omega)) rfl ?_
      exact j_zreturn x hr dX6_takesRules_33 (by first | decide | exact jb_nar) (by omega) (by omega) ⟨by rw [show rRules t u v = some (1, 0) from if_pos (fun q => jb_0.mp h2 q.2.1)]; rfl, by rw [show rRules t u v = some (1, 0) from if_pos (fun q => jb_0.mp h2 q.2.1)]; rfl⟩
    · refine j_iload_n x dX6_takesRules_18 rfl ?_
      refine j_iconst (v := (-1)) x dX6_takesRules_19 (by decide) ?_
      refine j_iconst (v := 4) x dX6_takesRules_20 (by decide) ?_
      refine j2_callSi x hb dX6_takesRules_21 m_X6_in (cx_in (d := d) hb) wmX6_64 rfl (Nat.le_of_ble_eq_true rfl) (j_fit_rm (by omega) (by omega) (by omega)) rfl ?_
      refine j_if_ne (tgt := 34) x dX6_takesRules_24 (by decide) (fun h3 => ?_) (fun h3 => ?_)
      · refine j_iload_n x dX6_takesRules_34 rfl ?_
        refine j_if_lt (tgt := 56) x dX6_takesRules_35 (by decide) (fun h4 => ?_) (fun h4 => ?_)
        · refine j_iload_n x dX6_takesRules_56 rfl ?_
          refine j_if_lt (tgt := 73) x dX6_takesRules_57 (by decide) (fun h7 => ?_) (fun h7 => ?_)
          · exact tail ((if_neg (fun q => q ⟨jb_nz.mp h1, jb_nz.mp h2, jb_nz.mp h3⟩)).trans ((if_neg (fun z => z.1 (i_neg1 (jb_nz.mp h1).1 h4))).trans (if_neg (fun z => z.1 (i_neg1 (jb_nz.mp h2).1 h7)))))
          · refine j_iload_n x dX6_takesRules_60 rfl ?_
            refine j_iload_n x dX6_takesRules_61 rfl ?_
            refine j_icmp_ne (tgt := 73) x dX6_takesRules_62 (by decide) (fun h8 => ?_) (fun h8 => ?_)
            · exact tail ((if_neg (fun q => q ⟨jb_nz.mp h1, jb_nz.mp h2, jb_nz.mp h3⟩)).trans ((if_neg (fun z => z.1 (i_neg1 (jb_nz.mp h1).1 h4))).trans (if_neg (fun z => h8 z.2))))
            · refine j_aload_n x dX6_takesRules_65 rfl ?_
              refine j_bipush (v := 13) x dX6_takesRules_66 (by decide) ?_
              refine j_iload_n x dX6_takesRules_68 rfl ?_
              refine j2_callVi x hb dX6_takesRules_69 m_X6_refuses (cx_refuses (d := d) hb) wmX6_79 jc_10 rfl rfl rfl (Nat.le_of_ble_eq_true rfl) (j_fit_rm (by omega) (by omega) (by omega)) rfl ?_
              exact j_zreturn x hr dX6_takesRules_72 (by first | decide | exact jb_nar) (by omega) (by omega) ⟨by rw [show rRules t u v = some (13, u) from (if_neg (fun q => q ⟨jb_nz.mp h1, jb_nz.mp h2, jb_nz.mp h3⟩)).trans ((if_neg (fun z => z.1 (i_neg1 (jb_nz.mp h1).1 h4))).trans (if_pos ⟨fun z => h7 (by rw [z]; decide), h8⟩))]; rfl, by rw [show rRules t u v = some (13, u) from (if_neg (fun q => q ⟨jb_nz.mp h1, jb_nz.mp h2, jb_nz.mp h3⟩)).trans ((if_neg (fun z => z.1 (i_neg1 (jb_nz.mp h1).1 h4))).trans (if_pos ⟨fun z => h7 (by rw [z]; decide), h8⟩))]; rfl⟩
        · refine j_iload_n x dX6_takesRules_38 rfl ?_
          refine j_iload_n x dX6_takesRules_39 rfl ?_
          refine j_icmp_eq (tgt := 48) x dX6_takesRules_40 (by decide) (fun h5 => ?_) (fun h5 => ?_)
          · refine j_aload_n x dX6_takesRules_48 rfl ?_
            refine j_bipush (v := 13) x dX6_takesRules_49 (by decide) ?_
            refine j_iload_n x dX6_takesRules_51 rfl ?_
            refine j2_callVi x hb dX6_takesRules_52 m_X6_refuses (cx_refuses (d := d) hb) wmX6_79 jc_10 rfl rfl rfl (Nat.le_of_ble_eq_true rfl) (j_fit_rm (by omega) (by omega) (by omega)) rfl ?_
            exact j_zreturn x hr dX6_takesRules_55 (by first | decide | exact jb_nar) (by omega) (by omega) ⟨by rw [show rRules t u v = some (13, t) from (if_neg (fun q => q ⟨jb_nz.mp h1, jb_nz.mp h2, jb_nz.mp h3⟩)).trans (if_pos ⟨fun z => h4 (by rw [z]; decide), Or.inl h5⟩)]; rfl, by rw [show rRules t u v = some (13, t) from (if_neg (fun q => q ⟨jb_nz.mp h1, jb_nz.mp h2, jb_nz.mp h3⟩)).trans (if_pos ⟨fun z => h4 (by rw [z]; decide), Or.inl h5⟩)]; rfl⟩
          · refine j_iload_n x dX6_takesRules_43 rfl ?_
            refine j_iload_n x dX6_takesRules_44 rfl ?_
            refine j_icmp_ne (tgt := 56) x dX6_takesRules_45 (by decide) (fun h6 => ?_) (fun h6 => ?_)
            · refine j_iload_n x dX6_takesRules_56 rfl ?_
              refine j_if_lt (tgt := 73) x dX6_takesRules_57 (by decide) (fun h7 => ?_) (fun h7 => ?_)
              · exact tail ((if_neg (fun q => q ⟨jb_nz.mp h1, jb_nz.mp h2, jb_nz.mp h3⟩)).trans ((if_neg (fun z => z.2.elim h5 h6)).trans (if_neg (fun z => z.1 (i_neg1 (jb_nz.mp h2).1 h7)))))
              · refine j_iload_n x dX6_takesRules_60 rfl ?_
                refine j_iload_n x dX6_takesRules_61 rfl ?_
                refine j_icmp_ne (tgt := 73) x dX6_takesRules_62 (by decide) (fun h8 => ?_) (fun h8 => ?_)
                · exact tail ((if_neg (fun q => q ⟨jb_nz.mp h1, jb_nz.mp h2, jb_nz.mp h3⟩)).trans ((if_neg (fun z => z.2.elim h5 h6)).trans (if_neg (fun z => h8 z.2))))
                · refine j_aload_n x dX6_takesRules_65 rfl ?_
                  refine j_bipush (v := 13) x dX6_takesRules_66 (by decide) ?_
                  refine j_iload_n x dX6_takesRules_68 rfl ?_
                  refine j2_callVi x hb dX6_takesRules_69 m_X6_refuses (cx_refuses (d := d) hb) wmX6_79 jc_10 rfl rfl rfl (Nat.le_of_ble_eq_true rfl) (j_fit_rm (by omega) (by omega) (by omega)) rfl ?_
                  exact j_zreturn x hr dX6_takesRules_72 (by first | decide | exact jb_nar) (by omega) (by omega) ⟨by rw [show rRules t u v = some (13, u) from (if_neg (fun q => q ⟨jb_nz.mp h1, jb_nz.mp h2, jb_nz.mp h3⟩)).trans ((if_neg (fun z => z.2.elim h5 h6)).trans (if_pos ⟨fun z => h7 (by rw [z]; decide), h8⟩))]; rfl, by rw [show rRules t u v = some (13, u) from (if_neg (fun q => q ⟨jb_nz.mp h1, jb_nz.mp h2, jb_nz.mp h3⟩)).trans ((if_neg (fun z => z.2.elim h5 h6)).trans (if_pos ⟨fun z => h7 (by rw [z]; decide), h8⟩))]; rfl⟩
            · refine j_aload_n x dX6_takesRules_48 rfl ?_
              refine j_bipush (v := 13) x dX6_takesRules_49 (by decide) ?_
              refine j_iload_n x dX6_takesRules_51 rfl ?_
              refine j2_callVi x hb dX6_takesRules_52 m_X6_refuses (cx_refuses (d := d) hb) wmX6_79 jc_10 rfl rfl rfl (Nat.le_of_ble_eq_true rfl) (j_fit_rm (by omega) (by omega) (by omega)) rfl ?_
              exact j_zreturn x hr dX6_takesRules_55 (by first | decide | exact jb_nar) (by omega) (by omega) ⟨by rw [show rRules t u v = some (13, t) from (if_neg (fun q => q ⟨jb_nz.mp h1, jb_nz.mp h2, jb_nz.mp h3⟩)).trans (if_pos ⟨fun z => h4 (by rw [z]; decide), Or.inr h6⟩)]; rfl, by rw [show rRules t u v = some (13, t) from (if_neg (fun q => q ⟨jb_nz.mp h1, jb_nz.mp h2, jb_nz.mp h3⟩)).trans (if_pos ⟨fun z => h4 (by rw [z]; decide), Or.inr h6⟩)]; rfl⟩
      · refine j_aload_n x dX6_takesRules_27 rfl ?_
        refine j_iconst (v := 1) x dX6_takesRules_28 (by decide) ?_
        refine j_iconst (v := 0) x dX6_takesRules_29 (by decide) ?_
        refine j2_callVi x hb dX6_takesRules_30 m_X6_refuses (cx_refuses (d := d) hb) wmX6_79 jc_10 rfl rfl rfl (Nat.le_of_ble_eq_true rfl) (j_fit_rm (by omega) (by omega) (by omega)) rfl ?_
        exact j_zreturn x hr dX6_takesRules_33 (by first | decide | exact jb_nar) (by omega) (by omega) ⟨by rw [show rRules t u v = some (1, 0) from if_pos (fun q => jb_0.mp h3 q.2.2)]; rfl, by rw [show rRules t u v = some (1, 0) from if_pos (fun q => jb_0.mp h3 q.2.2)]; rfl⟩
theorem cx_rules_no {d : Nat} {b : SBt} {Y : OUt} {M : MM} (hb : 104 ≤ b.2.1) {t u v r z : Int32} (h : rRules t u v = some (r, z)) : CM (d + 2) 0 0 yX6_rules cX6_rules 4 (some .int) [.ref 94, .int t, .int u, .int v] b Y M (.inl (some (.int (0)))) (jrai (jrefu (jtr M) r z) 1) := by
  refine Con.of (by decide +kernel) (Nat.le_of_ble_eq_true rfl) rfl fun p l e s m args below meth c D tyc A ad0 x hr htab hname => ?_
  change JJ _ _ _ _ _ _ _ _ _ _ _ _ _ _ _ _ _ 0 [some (.ref 94), some (.int t), some (.int u), some (.int v)] [] _ 0 0
  refine j_aload_n x dX6_rules_0 rfl ?_
  refine j2_callVv x hb dX6_rules_1 m_X6_tries (cx_tries (d := d) hb) wmX6_76 jc_10 rfl rfl rfl (Nat.le_of_ble_eq_true rfl) (j_fit_rm (by omega) (by omega) (by omega)) rfl ?_
  refine j_aload_n x dX6_rules_4 rfl ?_
  refine j_aload_n x dX6_rules_5 rfl ?_
  refine j_iload_n x dX6_rules_6 rfl ?_
  refine j_iload_n x dX6_rules_7 rfl ?_
  refine j_iload_n x dX6_rules_8 rfl ?_
  refine j2_callVi x hb dX6_rules_9 m_X6_takesRules (show CM _ 0 0 _ _ _ _ _ b Y (jtr M) (.inl (some (.int 0))) (jrefu (jtr M) r z) from by have q := cx_takesRules (d := d) (Y := Y) (M := jtr M) hb (t := t) (u := u) (v := v); rw [h] at q; exact q) wmX6_119 jc_10 rfl rfl rfl (Nat.le_of_ble_eq_true rfl) (j_fit_rm (by omega) (by omega) (by omega)) rfl ?_
  refine j2_callVi x hb dX6_rules_12 m_X6_ends (cx_ends_0 (d := d) hb) wmX6_83 jc_10 rfl rfl rfl (Nat.le_of_ble_eq_true rfl) (j_fit_rm (by omega) (by omega) (by omega)) rfl ?_
  exact j_ireturn x hr dX6_rules_15 (by omega) (by omega) ⟨rfl, rfl⟩
theorem cx_rules_ok {d : Nat} {b : SBt} {Y : OUt} {M : MM} (hb : 104 ≤ b.2.1) {t u v : Int32} {k : Nat} (h : rRules t u v = none) (h3 : M 94 3 = nI k) (hk : k < 8) (hM : ∀ N : MM, jxR N t u v 94 3 = N 94 3) : CM (d + 2) 0 0 yX6_rules cX6_rules 4 (some .int) [.ref 94, .int t, .int u, .int v] b Y M (.inl (some (.int (jxR (jtr M) t u v 95 5)))) (jkp (jm (jxR (jtr M) t u v) 94 18 (jxR (jtr M) t u v 95 5)) k) := by
  refine Con.of (by decide +kernel) (Nat.le_of_ble_eq_true rfl) rfl fun p l e s m args below meth c D tyc A ad0 x hr htab hname => ?_
  change JJ _ _ _ _ _ _ _ _ _ _ _ _ _ _ _ _ _ 0 [some (.ref 94), some (.int t), some (.int u), some (.int v)] [] _ 0 0
  refine j_aload_n x dX6_rules_0 rfl ?_
  refine j2_callVv x hb dX6_rules_1 m_X6_tries (cx_tries (d := d) hb) wmX6_76 jc_10 rfl rfl rfl (Nat.le_of_ble_eq_true rfl) (j_fit_rm (by omega) (by omega) (by omega)) rfl ?_
  refine j_aload_n x dX6_rules_4 rfl ?_
  refine j_aload_n x dX6_rules_5 rfl ?_
  refine j_iload_n x dX6_rules_6 rfl ?_
  refine j_iload_n x dX6_rules_7 rfl ?_
  refine j_iload_n x dX6_rules_8 rfl ?_
  refine j2_callVi x hb dX6_rules_9 m_X6_takesRules (show CM _ 0 0 _ _ _ _ _ b Y (jtr M) (.inl (some (.int 1))) (jm (jxR (jtr M) t u v) 94 18 (jxR (jtr M) t u v 95 5)) from by have q := cx_takesRules (d := d) (Y := Y) (M := jtr M) hb (t := t) (u := u) (v := v); rw [h] at q; exact q) wmX6_119 jc_10 rfl rfl rfl (Nat.le_of_ble_eq_true rfl) (j_fit_rm (by omega) (by omega) (by omega)) rfl ?_
  refine j2_callVi x hb dX6_rules_12 m_X6_ends (CM_v (cx_ends_1 (d := d) hb hk (by rw [jm_n (by omega), hM, jtr_f (by omega) (by omega)]; exact h3)) jm_s) wmX6_83 jc_10 rfl rfl rfl (Nat.le_of_ble_eq_true rfl) (j_fit_rm (by omega) (by omega) (by omega)) rfl ?_
  exact j_ireturn x hr dX6_rules_15 (by omega) (by omega) ⟨rfl, rfl⟩
theorem cx_results_0 {d : Nat} {b : SBt} {Y : OUt} {M : MM} (hb : 104 ≤ b.2.1) {t u v : Int32} (h1 : M 95 1 = 0) : CM (d + 1) 0 0 yX6_results cX6_results 4 (some .boolean) [.ref 94, .int t, .int u, .int v] b Y M (.inl (some (.int (0)))) (jrefu M 5 0) := by
  refine Con.of (by decide +kernel) (Nat.le_of_ble_eq_true rfl) rfl fun p l e s m args below meth c D tyc A ad0 x hr htab hname => ?_
  change JJ _ _ _ _ _ _ _ _ _ _ _ _ _ _ _ _ _ 0 [some (.ref 94), some (.int t), some (.int u), some (.int v)] [] _ 0 0
  refine j_aload_n x dX6_results_0 rfl ?_
  refine j2_callVi x hb dX6_results_1 m_X6_isDrawn (CM_v (cx_isDrawn (d := d) hb) (no_w h1)) wmX6_87 jc_10 rfl rfl rfl (Nat.le_of_ble_eq_true rfl) (j_fit_rm (by omega) (by omega) (by omega)) rfl ?_
  refine j_if_ne (tgt := 14) x dX6_results_4 (by decide) (fun hc => absurd hc (fun q => q rfl)) (fun hc => ?_)
  refine j_aload_n x dX6_results_7 rfl ?_
  refine j_iconst (v := 5) x dX6_results_8 (by decide) ?_
  refine j_iconst (v := 0) x dX6_results_9 (by decide) ?_
  refine j2_callVi x hb dX6_results_10 m_X6_refuses (cx_refuses (d := d) hb) wmX6_79 jc_10 rfl rfl rfl (Nat.le_of_ble_eq_true rfl) (j_fit_rm (by omega) (by omega) (by omega)) rfl ?_
  exact j_zreturn x hr dX6_results_13 (by first | decide | exact jb_nar) (by omega) (by omega) ⟨rfl, rfl⟩
theorem cx_result_0 {d : Nat} {b : SBt} {Y : OUt} {M : MM} (hb : 104 ≤ b.2.1) {t u v : Int32} (h1 : M 95 1 = 0) : CM (d + 2) 0 0 yX6_result cX6_result 4 (some .int) [.ref 94, .int t, .int u, .int v] b Y M (.inl (some (.int (0)))) (jrai (jrefu (jtr M) 5 0) 1) := by
  refine Con.of (by decide +kernel) (Nat.le_of_ble_eq_true rfl) rfl fun p l e s m args below meth c D tyc A ad0 x hr htab hname => ?_
  change JJ _ _ _ _ _ _ _ _ _ _ _ _ _ _ _ _ _ 0 [some (.ref 94), some (.int t), some (.int u), some (.int v)] [] _ 0 0
  refine j_aload_n x dX6_result_0 rfl ?_
  refine j2_callVv x hb dX6_result_1 m_X6_tries (cx_tries (d := d) hb) wmX6_76 jc_10 rfl rfl rfl (Nat.le_of_ble_eq_true rfl) (j_fit_rm (by omega) (by omega) (by omega)) rfl ?_
  refine j_aload_n x dX6_result_4 rfl ?_
  refine j_aload_n x dX6_result_5 rfl ?_
  refine j_iload_n x dX6_result_6 rfl ?_
  refine j_iload_n x dX6_result_7 rfl ?_
  refine j_iload_n x dX6_result_8 rfl ?_
  refine j2_callVi x hb dX6_result_9 m_X6_results (cx_results_0 (d := d) hb (by rw [jtr_n (by omega)]; exact h1)) wmX6_128 jc_10 rfl rfl rfl (Nat.le_of_ble_eq_true rfl) (j_fit_rm (by omega) (by omega) (by omega)) rfl ?_
  refine j2_callVi x hb dX6_result_12 m_X6_ends (cx_ends_0 (d := d) hb) wmX6_83 jc_10 rfl rfl rfl (Nat.le_of_ble_eq_true rfl) (j_fit_rm (by omega) (by omega) (by omega)) rfl ?_
  exact j_ireturn x hr dX6_result_15 (by omega) (by omega) ⟨rfl, rfl⟩
theorem cx_takesBack_0 {d : Nat} {b : SBt} {Y : OUt} {M : MM} (hb : 104 ≤ b.2.1) {t : Int32} (h1 : M 95 1 = 0) : CM (d + 1) 0 0 yX6_takesBack cX6_takesBack 2 (some .boolean) [.ref 94, .int t] b Y M (.inl (some (.int (0)))) (jrefu M 5 0) := by
  refine Con.of (by decide +kernel) (Nat.le_of_ble_eq_true rfl) rfl fun p l e s m args below meth c D tyc A ad0 x hr htab hname => ?_
  change JJ _ _ _ _ _ _ _ _ _ _ _ _ _ _ _ _ _ 0 [some (.ref 94), some (.int t)] [] _ 0 0
  refine j_aload_n x dX6_takesBack_0 rfl ?_
  refine j2_callVi x hb dX6_takesBack_1 m_X6_isDrawn (CM_v (cx_isDrawn (d := d) hb) (no_w h1)) wmX6_87 jc_10 rfl rfl rfl (Nat.le_of_ble_eq_true rfl) (j_fit_rm (by omega) (by omega) (by omega)) rfl ?_
  refine j_if_ne (tgt := 14) x dX6_takesBack_4 (by decide) (fun hc => absurd hc (fun q => q rfl)) (fun hc => ?_)
  refine j_aload_n x dX6_takesBack_7 rfl ?_
  refine j_iconst (v := 5) x dX6_takesBack_8 (by decide) ?_
  refine j_iconst (v := 0) x dX6_takesBack_9 (by decide) ?_
  refine j2_callVi x hb dX6_takesBack_10 m_X6_refuses (cx_refuses (d := d) hb) wmX6_79 jc_10 rfl rfl rfl (Nat.le_of_ble_eq_true rfl) (j_fit_rm (by omega) (by omega) (by omega)) rfl ?_
  exact j_zreturn x hr dX6_takesBack_13 (by first | decide | exact jb_nar) (by omega) (by omega) ⟨rfl, rfl⟩
theorem cx_back_0 {d : Nat} {b : SBt} {Y : OUt} {M : MM} (hb : 104 ≤ b.2.1) {t : Int32} (h1 : M 95 1 = 0) : CM (d + 2) 0 0 yX6_back cX6_back 2 (some .int) [.ref 94, .int t] b Y M (.inl (some (.int (0)))) (jrai (jrefu (jtr M) 5 0) 1) := by
  refine Con.of (by decide +kernel) (Nat.le_of_ble_eq_true rfl) rfl fun p l e s m args below meth c D tyc A ad0 x hr htab hname => ?_
  change JJ _ _ _ _ _ _ _ _ _ _ _ _ _ _ _ _ _ 0 [some (.ref 94), some (.int t)] [] _ 0 0
  refine j_aload_n x dX6_back_0 rfl ?_
  refine j2_callVv x hb dX6_back_1 m_X6_tries (cx_tries (d := d) hb) wmX6_76 jc_10 rfl rfl rfl (Nat.le_of_ble_eq_true rfl) (j_fit_rm (by omega) (by omega) (by omega)) rfl ?_
  refine j_aload_n x dX6_back_4 rfl ?_
  refine j_aload_n x dX6_back_5 rfl ?_
  refine j_iload_n x dX6_back_6 rfl ?_
  refine j2_callVi x hb dX6_back_7 m_X6_takesBack (cx_takesBack_0 (d := d) hb (by rw [jtr_n (by omega)]; exact h1)) wmX6_134 jc_10 rfl rfl rfl (Nat.le_of_ble_eq_true rfl) (j_fit_rm (by omega) (by omega) (by omega)) rfl ?_
  refine j2_callVi x hb dX6_back_10 m_X6_ends (cx_ends_0 (d := d) hb) wmX6_83 jc_10 rfl rfl rfl (Nat.le_of_ble_eq_true rfl) (j_fit_rm (by omega) (by omega) (by omega)) rfl ?_
  exact j_ireturn x hr dX6_back_13 (by omega) (by omega) ⟨rfl, rfl⟩
theorem cx_putsOff_0 {d : Nat} {b : SBt} {Y : OUt} {M : MM} (hb : 104 ≤ b.2.1) {t u : Int32} (h1 : M 95 1 = 0) : CM (d + 1) 0 0 yX6_putsOff cX6_putsOff 4 (some .boolean) [.ref 94, .int t, .int u] b Y M (.inl (some (.int (0)))) (jrefu M 5 0) := by
  refine Con.of (by decide +kernel) (Nat.le_of_ble_eq_true rfl) rfl fun p l e s m args below meth c D tyc A ad0 x hr htab hname => ?_
  change JJ _ _ _ _ _ _ _ _ _ _ _ _ _ _ _ _ _ 0 [some (.ref 94), some (.int t), some (.int u), none] [] _ 0 0
  refine j_aload_n x dX6_putsOff_0 rfl ?_
  refine j2_callVi x hb dX6_putsOff_1 m_X6_isDrawn (CM_v (cx_isDrawn (d := d) hb) (no_w h1)) wmX6_87 jc_10 rfl rfl rfl (Nat.le_of_ble_eq_true rfl) (j_fit_rm (by omega) (by omega) (by omega)) rfl ?_
  refine j_if_ne (tgt := 14) x dX6_putsOff_4 (by decide) (fun hc => absurd hc (fun q => q rfl)) (fun hc => ?_)
  refine j_aload_n x dX6_putsOff_7 rfl ?_
  refine j_iconst (v := 5) x dX6_putsOff_8 (by decide) ?_
  refine j_iconst (v := 0) x dX6_putsOff_9 (by decide) ?_
  refine j2_callVi x hb dX6_putsOff_10 m_X6_refuses (cx_refuses (d := d) hb) wmX6_79 jc_10 rfl rfl rfl (Nat.le_of_ble_eq_true rfl) (j_fit_rm (by omega) (by omega) (by omega)) rfl ?_
  exact j_zreturn x hr dX6_putsOff_13 (by first | decide | exact jb_nar) (by omega) (by omega) ⟨rfl, rfl⟩
theorem cx_putOff_0 {d : Nat} {b : SBt} {Y : OUt} {M : MM} (hb : 104 ≤ b.2.1) {t u : Int32} (h1 : M 95 1 = 0) : CM (d + 2) 0 0 yX6_putOff cX6_putOff 3 (some .int) [.ref 94, .int t, .int u] b Y M (.inl (some (.int (0)))) (jrai (jrefu (jtr M) 5 0) 1) := by
  refine Con.of (by decide +kernel) (Nat.le_of_ble_eq_true rfl) rfl fun p l e s m args below meth c D tyc A ad0 x hr htab hname => ?_
  change JJ _ _ _ _ _ _ _ _ _ _ _ _ _ _ _ _ _ 0 [some (.ref 94), some (.int t), some (.int u)] [] _ 0 0
  refine j_aload_n x dX6_putOff_0 rfl ?_
  refine j2_callVv x hb dX6_putOff_1 m_X6_tries (cx_tries (d := d) hb) wmX6_76 jc_10 rfl rfl rfl (Nat.le_of_ble_eq_true rfl) (j_fit_rm (by omega) (by omega) (by omega)) rfl ?_
  refine j_aload_n x dX6_putOff_4 rfl ?_
  refine j_aload_n x dX6_putOff_5 rfl ?_
  refine j_iload_n x dX6_putOff_6 rfl ?_
  refine j_iload_n x dX6_putOff_7 rfl ?_
  refine j2_callVi x hb dX6_putOff_8 m_X6_putsOff (cx_putsOff_0 (d := d) hb (by rw [jtr_n (by omega)]; exact h1)) wmX6_146 jc_10 rfl rfl rfl (Nat.le_of_ble_eq_true rfl) (j_fit_rm (by omega) (by omega) (by omega)) rfl ?_
  refine j2_callVi x hb dX6_putOff_11 m_X6_ends (cx_ends_0 (d := d) hb) wmX6_83 jc_10 rfl rfl rfl (Nat.le_of_ble_eq_true rfl) (j_fit_rm (by omega) (by omega) (by omega)) rfl ?_
  exact j_ireturn x hr dX6_putOff_14 (by omega) (by omega) ⟨rfl, rfl⟩
theorem cx_comesNext_0 {d : Nat} {b : SBt} {Y : OUt} {M : MM} (hb : 104 ≤ b.2.1)  (h1 : M 95 1 = 0) : CM (d + 1) 0 0 yX6_comesNext cX6_comesNext 2 (some .boolean) [.ref 94] b Y M (.inl (some (.int (0)))) (jrefu M 5 0) := by
  refine Con.of (by decide +kernel) (Nat.le_of_ble_eq_true rfl) rfl fun p l e s m args below meth c D tyc A ad0 x hr htab hname => ?_
  change JJ _ _ _ _ _ _ _ _ _ _ _ _ _ _ _ _ _ 0 [some (.ref 94), none] [] _ 0 0
  refine j_aload_n x dX6_comesNext_0 rfl ?_
  refine j2_callVi x hb dX6_comesNext_1 m_X6_isDrawn (CM_v (cx_isDrawn (d := d) hb) (no_w h1)) wmX6_87 jc_10 rfl rfl rfl (Nat.le_of_ble_eq_true rfl) (j_fit_rm (by omega) (by omega) (by omega)) rfl ?_
  refine j_if_ne (tgt := 14) x dX6_comesNext_4 (by decide) (fun hc => absurd hc (fun q => q rfl)) (fun hc => ?_)
  refine j_aload_n x dX6_comesNext_7 rfl ?_
  refine j_iconst (v := 5) x dX6_comesNext_8 (by decide) ?_
  refine j_iconst (v := 0) x dX6_comesNext_9 (by decide) ?_
  refine j2_callVi x hb dX6_comesNext_10 m_X6_refuses (cx_refuses (d := d) hb) wmX6_79 jc_10 rfl rfl rfl (Nat.le_of_ble_eq_true rfl) (j_fit_rm (by omega) (by omega) (by omega)) rfl ?_
  exact j_zreturn x hr dX6_comesNext_13 (by first | decide | exact jb_nar) (by omega) (by omega) ⟨rfl, rfl⟩
theorem cx_next_0 {d : Nat} {b : SBt} {Y : OUt} {M : MM} (hb : 104 ≤ b.2.1)  (h1 : M 95 1 = 0) : CM (d + 2) 0 0 yX6_next cX6_next 1 (some .int) [.ref 94] b Y M (.inl (some (.int (0)))) (jrai (jrefu (jtr M) 5 0) 1) := by
  refine Con.of (by decide +kernel) (Nat.le_of_ble_eq_true rfl) rfl fun p l e s m args below meth c D tyc A ad0 x hr htab hname => ?_
  change JJ _ _ _ _ _ _ _ _ _ _ _ _ _ _ _ _ _ 0 [some (.ref 94)] [] _ 0 0
  refine j_aload_n x dX6_next_0 rfl ?_
  refine j2_callVv x hb dX6_next_1 m_X6_tries (cx_tries (d := d) hb) wmX6_76 jc_10 rfl rfl rfl (Nat.le_of_ble_eq_true rfl) (j_fit_rm (by omega) (by omega) (by omega)) rfl ?_
  refine j_aload_n x dX6_next_4 rfl ?_
  refine j_aload_n x dX6_next_5 rfl ?_
  refine j2_callVi x hb dX6_next_6 m_X6_comesNext (cx_comesNext_0 (d := d) hb (by rw [jtr_n (by omega)]; exact h1)) wmX6_149 jc_10 rfl rfl rfl (Nat.le_of_ble_eq_true rfl) (j_fit_rm (by omega) (by omega) (by omega)) rfl ?_
  refine j2_callVi x hb dX6_next_9 m_X6_ends (cx_ends_0 (d := d) hb) wmX6_83 jc_10 rfl rfl rfl (Nat.le_of_ble_eq_true rfl) (j_fit_rm (by omega) (by omega) (by omega)) rfl ?_
  exact j_ireturn x hr dX6_next_12 (by omega) (by omega) ⟨rfl, rfl⟩
theorem cx_teamOf_0 {d : Nat} {b : SBt} {Y : OUt} {M : MM} (hb : 104 ≤ b.2.1) {t u : Int32} (h0 : M 95 0 = 0) : CM (d + 2) 0 0 yX6_teamOf cX6_teamOf 3 (some .int) [.ref 94, .int t, .int u] b Y M (.inl (some (.int (0)))) (jrai (jm M 94 19 0) 1) := by
  refine Con.of (by decide +kernel) (Nat.le_of_ble_eq_true rfl) rfl fun p l e s m args below meth c D tyc A ad0 x hr htab hname => ?_
  change JJ _ _ _ _ _ _ _ _ _ _ _ _ _ _ _ _ _ 0 [some (.ref 94), some (.int t), some (.int u)] [] _ 0 0
  refine j_aload_n x dX6_teamOf_0 rfl ?_
  refine j_iconst (v := 0) x dX6_teamOf_1 (by decide) ?_
  refine j2_puti (k := 19) x hb dX6_teamOf_2 jc_10 wfX6_36 (by decide) rfl rfl rfl rfl ?_
  refine j_aload_n x dX6_teamOf_5 rfl ?_
  refine j_iload_n x dX6_teamOf_6 rfl ?_
  refine j2_callVi x hb dX6_teamOf_7 m_X6_isTeam (CM_v (cx_isTeam (d := d) hb) (no_x (by rw [jm_n (by omega)]; exact h0))) wmX6_91 jc_10 rfl rfl rfl (Nat.le_of_ble_eq_true rfl) (j_fit_rm (by omega) (by omega) (by omega)) rfl ?_
  refine j_if_ne (tgt := 19) x dX6_teamOf_10 (by decide) (fun hc => absurd hc (fun q => q rfl)) (fun hc => ?_)
  refine j_aload_n x dX6_teamOf_13 rfl ?_
  refine j_iconst (v := 1) x dX6_teamOf_14 (by decide) ?_
  refine j2_callVi x hb dX6_teamOf_15 m_X6_raises (cx_raises (d := d) hb) wmX6_61 jc_10 rfl rfl rfl (Nat.le_of_ble_eq_true rfl) (j_fit_rm (by omega) (by omega) (by omega)) rfl ?_
  exact j_ireturn x hr dX6_teamOf_18 (by omega) (by omega) ⟨rfl, rfl⟩
theorem cx_pointsAgain_0 {d : Nat} {b : SBt} {Y : OUt} {M : MM} (hb : 104 ≤ b.2.1) {t : Int32} (h0 : M 95 0 = 0) : CM (d + 2) 0 0 yX6_pointsAgain cX6_pointsAgain 2 (some .int) [.ref 94, .int t] b Y M (.inl (some (.int (0)))) (jrai (jm M 94 19 0) 1) := by
  refine Con.of (by decide +kernel) (Nat.le_of_ble_eq_true rfl) rfl fun p l e s m args below meth c D tyc A ad0 x hr htab hname => ?_
  change JJ _ _ _ _ _ _ _ _ _ _ _ _ _ _ _ _ _ 0 [some (.ref 94), some (.int t)] [] _ 0 0
  refine j_aload_n x dX6_pointsAgain_0 rfl ?_
  refine j_iconst (v := 0) x dX6_pointsAgain_1 (by decide) ?_
  refine j2_puti (k := 19) x hb dX6_pointsAgain_2 jc_10 wfX6_36 (by decide) rfl rfl rfl rfl ?_
  refine j_aload_n x dX6_pointsAgain_5 rfl ?_
  refine j_iload_n x dX6_pointsAgain_6 rfl ?_
  refine j2_callVi x hb dX6_pointsAgain_7 m_X6_isTeam (CM_v (cx_isTeam (d := d) hb) (no_x (by rw [jm_n (by omega)]; exact h0))) wmX6_91 jc_10 rfl rfl rfl (Nat.le_of_ble_eq_true rfl) (j_fit_rm (by omega) (by omega) (by omega)) rfl ?_
  refine j_if_eq (tgt := 22) x dX6_pointsAgain_10 (by decide) (fun hc => ?_) (fun hc => absurd (rfl) hc)
  refine j_aload_n x dX6_pointsAgain_22 rfl ?_
  refine j_iconst (v := 1) x dX6_pointsAgain_23 (by decide) ?_
  refine j2_callVi x hb dX6_pointsAgain_24 m_X6_raises (cx_raises (d := d) hb) wmX6_61 jc_10 rfl rfl rfl (Nat.le_of_ble_eq_true rfl) (j_fit_rm (by omega) (by omega) (by omega)) rfl ?_
  exact j_ireturn x hr dX6_pointsAgain_27 (by omega) (by omega) ⟨rfl, rfl⟩
theorem cx_placeOf_0 {d : Nat} {b : SBt} {Y : OUt} {M : MM} (hb : 104 ≤ b.2.1) {t : Int32} (h0 : M 95 0 = 0) : CM (d + 2) 0 0 yX6_placeOf cX6_placeOf 2 (some .int) [.ref 94, .int t] b Y M (.inl (some (.int (0)))) (jrai (jm M 94 19 0) 1) := by
  refine Con.of (by decide +kernel) (Nat.le_of_ble_eq_true rfl) rfl fun p l e s m args below meth c D tyc A ad0 x hr htab hname => ?_
  change JJ _ _ _ _ _ _ _ _ _ _ _ _ _ _ _ _ _ 0 [some (.ref 94), some (.int t)] [] _ 0 0
  refine j_aload_n x dX6_placeOf_0 rfl ?_
  refine j_iconst (v := 0) x dX6_placeOf_1 (by decide) ?_
  refine j2_puti (k := 19) x hb dX6_placeOf_2 jc_10 wfX6_36 (by decide) rfl rfl rfl rfl ?_
  refine j_aload_n x dX6_placeOf_5 rfl ?_
  refine j_iload_n x dX6_placeOf_6 rfl ?_
  refine j2_callVi x hb dX6_placeOf_7 m_X6_isTeam (CM_v (cx_isTeam (d := d) hb) (no_x (by rw [jm_n (by omega)]; exact h0))) wmX6_91 jc_10 rfl rfl rfl (Nat.le_of_ble_eq_true rfl) (j_fit_rm (by omega) (by omega) (by omega)) rfl ?_
  refine j_if_eq (tgt := 21) x dX6_placeOf_10 (by decide) (fun hc => ?_) (fun hc => absurd (rfl) hc)
  refine j_aload_n x dX6_placeOf_21 rfl ?_
  refine j_iconst (v := 1) x dX6_placeOf_22 (by decide) ?_
  refine j2_callVi x hb dX6_placeOf_23 m_X6_raises (cx_raises (d := d) hb) wmX6_61 jc_10 rfl rfl rfl (Nat.le_of_ble_eq_true rfl) (j_fit_rm (by omega) (by omega) (by omega)) rfl ?_
  exact j_ireturn x hr dX6_placeOf_26 (by omega) (by omega) ⟨rfl, rfl⟩
theorem cx_valueOf_0 {d : Nat} {b : SBt} {Y : OUt} {M : MM} (hb : 104 ≤ b.2.1) {t u : Int32} (h0 : M 95 0 = 0) : CM (d + 2) 0 0 yX6_valueOf cX6_valueOf 3 (some .int) [.ref 94, .int t, .int u] b Y M (.inl (some (.int (0)))) (jrai (jm M 94 19 0) 1) := by
  refine Con.of (by decide +kernel) (Nat.le_of_ble_eq_true rfl) rfl fun p l e s m args below meth c D tyc A ad0 x hr htab hname => ?_
  change JJ _ _ _ _ _ _ _ _ _ _ _ _ _ _ _ _ _ 0 [some (.ref 94), some (.int t), some (.int u)] [] _ 0 0
  refine j_aload_n x dX6_valueOf_0 rfl ?_
  refine j_iconst (v := 0) x dX6_valueOf_1 (by decide) ?_
  refine j2_puti (k := 19) x hb dX6_valueOf_2 jc_10 wfX6_36 (by decide) rfl rfl rfl rfl ?_
  refine j_aload_n x dX6_valueOf_5 rfl ?_
  refine j_iload_n x dX6_valueOf_6 rfl ?_
  refine j2_callVi x hb dX6_valueOf_7 m_X6_isTeam (CM_v (cx_isTeam (d := d) hb) (no_x (by rw [jm_n (by omega)]; exact h0))) wmX6_91 jc_10 rfl rfl rfl (Nat.le_of_ble_eq_true rfl) (j_fit_rm (by omega) (by omega) (by omega)) rfl ?_
  refine j_if_ne (tgt := 19) x dX6_valueOf_10 (by decide) (fun hc => absurd hc (fun q => q rfl)) (fun hc => ?_)
  refine j_aload_n x dX6_valueOf_13 rfl ?_
  refine j_iconst (v := 1) x dX6_valueOf_14 (by decide) ?_
  refine j2_callVi x hb dX6_valueOf_15 m_X6_raises (cx_raises (d := d) hb) wmX6_61 jc_10 rfl rfl rfl (Nat.le_of_ble_eq_true rfl) (j_fit_rm (by omega) (by omega) (by omega)) rfl ?_
  exact j_ireturn x hr dX6_valueOf_18 (by omega) (by omega) ⟨rfl, rfl⟩
theorem cx_tied_0 {d : Nat} {b : SBt} {Y : OUt} {M : MM} (hb : 104 ≤ b.2.1) {t : Int32} (h0 : M 95 0 = 0) : CM (d + 2) 0 0 yX6_tied cX6_tied 2 (some .int) [.ref 94, .int t] b Y M (.inl (some (.int (0)))) (jrai (jm M 94 19 0) 1) := by
  refine Con.of (by decide +kernel) (Nat.le_of_ble_eq_true rfl) rfl fun p l e s m args below meth c D tyc A ad0 x hr htab hname => ?_
  change JJ _ _ _ _ _ _ _ _ _ _ _ _ _ _ _ _ _ 0 [some (.ref 94), some (.int t)] [] _ 0 0
  refine j_aload_n x dX6_tied_0 rfl ?_
  refine j_iconst (v := 0) x dX6_tied_1 (by decide) ?_
  refine j2_puti (k := 19) x hb dX6_tied_2 jc_10 wfX6_36 (by decide) rfl rfl rfl rfl ?_
  refine j_aload_n x dX6_tied_5 rfl ?_
  refine j_iload_n x dX6_tied_6 rfl ?_
  refine j2_callVi x hb dX6_tied_7 m_X6_isTeam (CM_v (cx_isTeam (d := d) hb) (no_x (by rw [jm_n (by omega)]; exact h0))) wmX6_91 jc_10 rfl rfl rfl (Nat.le_of_ble_eq_true rfl) (j_fit_rm (by omega) (by omega) (by omega)) rfl ?_
  refine j_if_eq (tgt := 21) x dX6_tied_10 (by decide) (fun hc => ?_) (fun hc => absurd (rfl) hc)
  refine j_aload_n x dX6_tied_21 rfl ?_
  refine j_iconst (v := 1) x dX6_tied_22 (by decide) ?_
  refine j2_callVi x hb dX6_tied_23 m_X6_raises (cx_raises (d := d) hb) wmX6_61 jc_10 rfl rfl rfl (Nat.le_of_ble_eq_true rfl) (j_fit_rm (by omega) (by omega) (by omega)) rfl ?_
  exact j_ireturn x hr dX6_tied_26 (by omega) (by omega) ⟨rfl, rfl⟩
theorem cx_most_0 {d : Nat} {b : SBt} {Y : OUt} {M : MM} (hb : 104 ≤ b.2.1) {t : Int32} (h0 : M 95 0 = 0) : CM (d + 2) 0 0 yX6_most cX6_most 2 (some .int) [.ref 94, .int t] b Y M (.inl (some (.int (0)))) (jrai (jm M 94 19 0) 1) := by
  refine Con.of (by decide +kernel) (Nat.le_of_ble_eq_true rfl) rfl fun p l e s m args below meth c D tyc A ad0 x hr htab hname => ?_
  change JJ _ _ _ _ _ _ _ _ _ _ _ _ _ _ _ _ _ 0 [some (.ref 94), some (.int t)] [] _ 0 0
  refine j_aload_n x dX6_most_0 rfl ?_
  refine j_iconst (v := 0) x dX6_most_1 (by decide) ?_
  refine j2_puti (k := 19) x hb dX6_most_2 jc_10 wfX6_36 (by decide) rfl rfl rfl rfl ?_
  refine j_aload_n x dX6_most_5 rfl ?_
  refine j_iload_n x dX6_most_6 rfl ?_
  refine j2_callVi x hb dX6_most_7 m_X6_isTeam (CM_v (cx_isTeam (d := d) hb) (no_x (by rw [jm_n (by omega)]; exact h0))) wmX6_91 jc_10 rfl rfl rfl (Nat.le_of_ble_eq_true rfl) (j_fit_rm (by omega) (by omega) (by omega)) rfl ?_
  refine j_if_eq (tgt := 21) x dX6_most_10 (by decide) (fun hc => ?_) (fun hc => absurd (rfl) hc)
  refine j_aload_n x dX6_most_21 rfl ?_
  refine j_iconst (v := 1) x dX6_most_22 (by decide) ?_
  refine j2_callVi x hb dX6_most_23 m_X6_raises (cx_raises (d := d) hb) wmX6_61 jc_10 rfl rfl rfl (Nat.le_of_ble_eq_true rfl) (j_fit_rm (by omega) (by omega) (by omega)) rfl ?_
  exact j_ireturn x hr dX6_most_26 (by omega) (by omega) ⟨rfl, rfl⟩
theorem cx_run_0 {d : Nat} {b : SBt} {Y : OUt} {M : MM} (hb : 104 ≤ b.2.1) {t : Int32} (h0 : M 95 0 = 0) : CM (d + 2) 0 0 yX6_run cX6_run 8 (some .int) [.ref 94, .int t] b Y M (.inl (some (.int (0)))) (jrai (jm M 94 19 0) 1) := by
  refine Con.of (by decide +kernel) (Nat.le_of_ble_eq_true rfl) rfl fun p l e s m args below meth c D tyc A ad0 x hr htab hname => ?_
  change JJ _ _ _ _ _ _ _ _ _ _ _ _ _ _ _ _ _ 0 [some (.ref 94), some (.int t), none, none, none, none, none, none] [] _ 0 0
  refine j_aload_n x dX6_run_0 rfl ?_
  refine j_iconst (v := 0) x dX6_run_1 (by decide) ?_
  refine j2_puti (k := 19) x hb dX6_run_2 jc_10 wfX6_36 (by decide) rfl rfl rfl rfl ?_
  refine j_aload_n x dX6_run_5 rfl ?_
  refine j_iload_n x dX6_run_6 rfl ?_
  refine j2_callVi x hb dX6_run_7 m_X6_isTeam (CM_v (cx_isTeam (d := d) hb) (no_x (by rw [jm_n (by omega)]; exact h0))) wmX6_91 jc_10 rfl rfl rfl (Nat.le_of_ble_eq_true rfl) (j_fit_rm (by omega) (by omega) (by omega)) rfl ?_
  refine j_if_ne (tgt := 19) x dX6_run_10 (by decide) (fun hc => absurd hc (fun q => q rfl)) (fun hc => ?_)
  refine j_aload_n x dX6_run_13 rfl ?_
  refine j_iconst (v := 1) x dX6_run_14 (by decide) ?_
  refine j2_callVi x hb dX6_run_15 m_X6_raises (cx_raises (d := d) hb) wmX6_61 jc_10 rfl rfl rfl (Nat.le_of_ble_eq_true rfl) (j_fit_rm (by omega) (by omega) (by omega)) rfl ?_
  exact j_ireturn x hr dX6_run_18 (by omega) (by omega) ⟨rfl, rfl⟩
theorem cx_line_0 {d : Nat} {b : SBt} {Y : OUt} {M : MM} (hb : 104 ≤ b.2.1) {t : Int32} (h0 : M 95 0 = 0) : CM (d + 2) 0 0 yX6_line cX6_line 3 (some .int) [.ref 94, .int t] b Y M (.inl (some (.int (0)))) (jrai (jm M 94 19 0) 1) := by
  refine Con.of (by decide +kernel) (Nat.le_of_ble_eq_true rfl) rfl fun p l e s m args below meth c D tyc A ad0 x hr htab hname => ?_
  change JJ _ _ _ _ _ _ _ _ _ _ _ _ _ _ _ _ _ 0 [some (.ref 94), some (.int t), none] [] _ 0 0
  refine j_aload_n x dX6_line_0 rfl ?_
  refine j_iconst (v := 0) x dX6_line_1 (by decide) ?_
  refine j2_puti (k := 19) x hb dX6_line_2 jc_10 wfX6_36 (by decide) rfl rfl rfl rfl ?_
  refine j_aload_n x dX6_line_5 rfl ?_
  refine j_iload_n x dX6_line_6 rfl ?_
  refine j2_callVi x hb dX6_line_7 m_X6_isTeam (CM_v (cx_isTeam (d := d) hb) (no_x (by rw [jm_n (by omega)]; exact h0))) wmX6_91 jc_10 rfl rfl rfl (Nat.le_of_ble_eq_true rfl) (j_fit_rm (by omega) (by omega) (by omega)) rfl ?_
  refine j_if_ne (tgt := 19) x dX6_line_10 (by decide) (fun hc => absurd hc (fun q => q rfl)) (fun hc => ?_)
  refine j_aload_n x dX6_line_13 rfl ?_
  refine j_iconst (v := 1) x dX6_line_14 (by decide) ?_
  refine j2_callVi x hb dX6_line_15 m_X6_raises (cx_raises (d := d) hb) wmX6_61 jc_10 rfl rfl rfl (Nat.le_of_ble_eq_true rfl) (j_fit_rm (by omega) (by omega) (by omega)) rfl ?_
  exact j_ireturn x hr dX6_line_18 (by omega) (by omega) ⟨rfl, rfl⟩
theorem cx_find_0 {d : Nat} {b : SBt} {Y : OUt} {M : MM} (hb : 104 ≤ b.2.1) {t u : Int32} (h0 : M 95 0 = 0) : CM (d + 2) 0 0 yX6_find cX6_find 4 (some .int) [.ref 94, .int t, .int u] b Y M (.inl (some (.int (0)))) (jrai (jm M 94 19 0) 1) := by
  refine Con.of (by decide +kernel) (Nat.le_of_ble_eq_true rfl) rfl fun p l e s m args below meth c D tyc A ad0 x hr htab hname => ?_
  change JJ _ _ _ _ _ _ _ _ _ _ _ _ _ _ _ _ _ 0 [some (.ref 94), some (.int t), some (.int u), none] [] _ 0 0
  refine j_aload_n x dX6_find_0 rfl ?_
  refine j_iconst (v := 0) x dX6_find_1 (by decide) ?_
  refine j2_puti (k := 19) x hb dX6_find_2 jc_10 wfX6_36 (by decide) rfl rfl rfl rfl ?_
  refine j_aload_n x dX6_find_5 rfl ?_
  refine j_iload_n x dX6_find_6 rfl ?_
  refine j2_callVi x hb dX6_find_7 m_X6_isTeam (CM_v (cx_isTeam (d := d) hb) (no_x (by rw [jm_n (by omega)]; exact h0))) wmX6_91 jc_10 rfl rfl rfl (Nat.le_of_ble_eq_true rfl) (j_fit_rm (by omega) (by omega) (by omega)) rfl ?_
  refine j_if_eq (tgt := 21) x dX6_find_10 (by decide) (fun hc => ?_) (fun hc => absurd (rfl) hc)
  refine j_aload_n x dX6_find_21 rfl ?_
  refine j_iconst (v := 1) x dX6_find_22 (by decide) ?_
  refine j2_callVi x hb dX6_find_23 m_X6_raises (cx_raises (d := d) hb) wmX6_61 jc_10 rfl rfl rfl (Nat.le_of_ble_eq_true rfl) (j_fit_rm (by omega) (by omega) (by omega)) rfl ?_
  exact j_ireturn x hr dX6_find_26 (by omega) (by omega) ⟨rfl, rfl⟩
theorem cx_meetingOf_0 {d : Nat} {b : SBt} {Y : OUt} {M : MM} (hb : 104 ≤ b.2.1) {t u : Int32} (h0 : M 95 9 = 0) : CM (d + 2) 0 0 yX6_meetingOf cX6_meetingOf 3 (some .int) [.ref 94, .int t, .int u] b Y M (.inl (some (.int (0)))) (jrai (jm M 94 19 0) 1) := by
  refine Con.of (by decide +kernel) (Nat.le_of_ble_eq_true rfl) rfl fun p l e s m args below meth c D tyc A ad0 x hr htab hname => ?_
  change JJ _ _ _ _ _ _ _ _ _ _ _ _ _ _ _ _ _ 0 [some (.ref 94), some (.int t), some (.int u)] [] _ 0 0
  refine j_aload_n x dX6_meetingOf_0 rfl ?_
  refine j_iconst (v := 0) x dX6_meetingOf_1 (by decide) ?_
  refine j2_puti (k := 19) x hb dX6_meetingOf_2 jc_10 wfX6_36 (by decide) rfl rfl rfl rfl ?_
  refine j_aload_n x dX6_meetingOf_5 rfl ?_
  refine j_iload_n x dX6_meetingOf_6 rfl ?_
  refine j2_callVi x hb dX6_meetingOf_7 m_X6_isMeeting (CM_v (cx_isMeeting (d := d) hb) (no_x (by rw [jm_n (by omega)]; exact h0))) wmX6_122 jc_10 rfl rfl rfl (Nat.le_of_ble_eq_true rfl) (j_fit_rm (by omega) (by omega) (by omega)) rfl ?_
  refine j_if_ne (tgt := 19) x dX6_meetingOf_10 (by decide) (fun hc => absurd hc (fun q => q rfl)) (fun hc => ?_)
  refine j_aload_n x dX6_meetingOf_13 rfl ?_
  refine j_iconst (v := 1) x dX6_meetingOf_14 (by decide) ?_
  refine j2_callVi x hb dX6_meetingOf_15 m_X6_raises (cx_raises (d := d) hb) wmX6_61 jc_10 rfl rfl rfl (Nat.le_of_ble_eq_true rfl) (j_fit_rm (by omega) (by omega) (by omega)) rfl ?_
  exact j_ireturn x hr dX6_meetingOf_18 (by omega) (by omega) ⟨rfl, rfl⟩
theorem cx_freeWeek_0 {d : Nat} {b : SBt} {Y : OUt} {M : MM} (hb : 104 ≤ b.2.1) {t : Int32} (h0 : M 95 9 = 0) : CM (d + 2) 0 0 yX6_freeWeek cX6_freeWeek 3 (some .int) [.ref 94, .int t] b Y M (.inl (some (.int (0)))) (jrai (jm M 94 19 0) 1) := by
  refine Con.of (by decide +kernel) (Nat.le_of_ble_eq_true rfl) rfl fun p l e s m args below meth c D tyc A ad0 x hr htab hname => ?_
  change JJ _ _ _ _ _ _ _ _ _ _ _ _ _ _ _ _ _ 0 [some (.ref 94), some (.int t), none] [] _ 0 0
  refine j_aload_n x dX6_freeWeek_0 rfl ?_
  refine j_iconst (v := 0) x dX6_freeWeek_1 (by decide) ?_
  refine j2_puti (k := 19) x hb dX6_freeWeek_2 jc_10 wfX6_36 (by decide) rfl rfl rfl rfl ?_
  refine j_aload_n x dX6_freeWeek_5 rfl ?_
  refine j_iload_n x dX6_freeWeek_6 rfl ?_
  refine j2_callVi x hb dX6_freeWeek_7 m_X6_isMeeting (CM_v (cx_isMeeting (d := d) hb) (no_x (by rw [jm_n (by omega)]; exact h0))) wmX6_122 jc_10 rfl rfl rfl (Nat.le_of_ble_eq_true rfl) (j_fit_rm (by omega) (by omega) (by omega)) rfl ?_
  refine j_if_ne (tgt := 19) x dX6_freeWeek_10 (by decide) (fun hc => absurd hc (fun q => q rfl)) (fun hc => ?_)
  refine j_aload_n x dX6_freeWeek_13 rfl ?_
  refine j_iconst (v := 1) x dX6_freeWeek_14 (by decide) ?_
  refine j2_callVi x hb dX6_freeWeek_15 m_X6_raises (cx_raises (d := d) hb) wmX6_61 jc_10 rfl rfl rfl (Nat.le_of_ble_eq_true rfl) (j_fit_rm (by omega) (by omega) (by omega)) rfl ?_
  exact j_ireturn x hr dX6_freeWeek_18 (by omega) (by omega) ⟨rfl, rfl⟩
theorem cx_byeIn_0 {d : Nat} {b : SBt} {Y : OUt} {M : MM} (hb : 104 ≤ b.2.1) {t : Int32} (h0 : M 95 1 = 0) : CM (d + 2) 0 0 yX6_byeIn cX6_byeIn 2 (some .int) [.ref 94, .int t] b Y M (.inl (some (.int (0)))) (jrai (jm M 94 19 0) 1) := by
  refine Con.of (by decide +kernel) (Nat.le_of_ble_eq_true rfl) rfl fun p l e s m args below meth c D tyc A ad0 x hr htab hname => ?_
  change JJ _ _ _ _ _ _ _ _ _ _ _ _ _ _ _ _ _ 0 [some (.ref 94), some (.int t)] [] _ 0 0
  refine j_aload_n x dX6_byeIn_0 rfl ?_
  refine j_iconst (v := 0) x dX6_byeIn_1 (by decide) ?_
  refine j2_puti (k := 19) x hb dX6_byeIn_2 jc_10 wfX6_36 (by decide) rfl rfl rfl rfl ?_
  refine j_aload_n x dX6_byeIn_5 rfl ?_
  refine j_iload_n x dX6_byeIn_6 rfl ?_
  refine j2_callVi x hb dX6_byeIn_7 m_X6_isWeek (CM_v (cx_isWeek (d := d) hb) (no_x (by rw [jm_n (by omega)]; exact h0))) wmX6_140 jc_10 rfl rfl rfl (Nat.le_of_ble_eq_true rfl) (j_fit_rm (by omega) (by omega) (by omega)) rfl ?_
  refine j_if_ne (tgt := 19) x dX6_byeIn_10 (by decide) (fun hc => absurd hc (fun q => q rfl)) (fun hc => ?_)
  refine j_aload_n x dX6_byeIn_13 rfl ?_
  refine j_iconst (v := 1) x dX6_byeIn_14 (by decide) ?_
  refine j2_callVi x hb dX6_byeIn_15 m_X6_raises (cx_raises (d := d) hb) wmX6_61 jc_10 rfl rfl rfl (Nat.le_of_ble_eq_true rfl) (j_fit_rm (by omega) (by omega) (by omega)) rfl ?_
  exact j_ireturn x hr dX6_byeIn_18 (by omega) (by omega) ⟨rfl, rfl⟩
theorem cx_meetingsIn_0 {d : Nat} {b : SBt} {Y : OUt} {M : MM} (hb : 104 ≤ b.2.1) {t : Int32} (h0 : M 95 1 = 0) : CM (d + 2) 0 0 yX6_meetingsIn cX6_meetingsIn 4 (some .int) [.ref 94, .int t] b Y M (.inl (some (.int (0)))) (jrai (jm M 94 19 0) 1) := by
  refine Con.of (by decide +kernel) (Nat.le_of_ble_eq_true rfl) rfl fun p l e s m args below meth c D tyc A ad0 x hr htab hname => ?_
  change JJ _ _ _ _ _ _ _ _ _ _ _ _ _ _ _ _ _ 0 [some (.ref 94), some (.int t), none, none] [] _ 0 0
  refine j_aload_n x dX6_meetingsIn_0 rfl ?_
  refine j_iconst (v := 0) x dX6_meetingsIn_1 (by decide) ?_
  refine j2_puti (k := 19) x hb dX6_meetingsIn_2 jc_10 wfX6_36 (by decide) rfl rfl rfl rfl ?_
  refine j_aload_n x dX6_meetingsIn_5 rfl ?_
  refine j_iload_n x dX6_meetingsIn_6 rfl ?_
  refine j2_callVi x hb dX6_meetingsIn_7 m_X6_isWeek (CM_v (cx_isWeek (d := d) hb) (no_x (by rw [jm_n (by omega)]; exact h0))) wmX6_140 jc_10 rfl rfl rfl (Nat.le_of_ble_eq_true rfl) (j_fit_rm (by omega) (by omega) (by omega)) rfl ?_
  refine j_if_ne (tgt := 19) x dX6_meetingsIn_10 (by decide) (fun hc => absurd hc (fun q => q rfl)) (fun hc => ?_)
  refine j_aload_n x dX6_meetingsIn_13 rfl ?_
  refine j_iconst (v := 1) x dX6_meetingsIn_14 (by decide) ?_
  refine j2_callVi x hb dX6_meetingsIn_15 m_X6_raises (cx_raises (d := d) hb) wmX6_61 jc_10 rfl rfl rfl (Nat.le_of_ble_eq_true rfl) (j_fit_rm (by omega) (by omega) (by omega)) rfl ?_
  exact j_ireturn x hr dX6_meetingsIn_18 (by omega) (by omega) ⟨rfl, rfl⟩
theorem cx_clashes_0 {d : Nat} {b : SBt} {Y : OUt} {M : MM} (hb : 104 ≤ b.2.1) {t : Int32} (h0 : M 95 1 = 0) : CM (d + 2) 0 0 yX6_clashes_ cX6_clashes_ 2 (some .int) [.ref 94, .int t] b Y M (.inl (some (.int (0)))) (jrai (jm M 94 19 0) 1) := by
  refine Con.of (by decide +kernel) (Nat.le_of_ble_eq_true rfl) rfl fun p l e s m args below meth c D tyc A ad0 x hr htab hname => ?_
  change JJ _ _ _ _ _ _ _ _ _ _ _ _ _ _ _ _ _ 0 [some (.ref 94), some (.int t)] [] _ 0 0
  refine j_aload_n x dX6_clashes__0 rfl ?_
  refine j_iconst (v := 0) x dX6_clashes__1 (by decide) ?_
  refine j2_puti (k := 19) x hb dX6_clashes__2 jc_10 wfX6_36 (by decide) rfl rfl rfl rfl ?_
  refine j_aload_n x dX6_clashes__5 rfl ?_
  refine j_iload_n x dX6_clashes__6 rfl ?_
  refine j2_callVi x hb dX6_clashes__7 m_X6_isWeek (CM_v (cx_isWeek (d := d) hb) (no_x (by rw [jm_n (by omega)]; exact h0))) wmX6_140 jc_10 rfl rfl rfl (Nat.le_of_ble_eq_true rfl) (j_fit_rm (by omega) (by omega) (by omega)) rfl ?_
  refine j_if_eq (tgt := 21) x dX6_clashes__10 (by decide) (fun hc => ?_) (fun hc => absurd (rfl) hc)
  refine j_aload_n x dX6_clashes__21 rfl ?_
  refine j_iconst (v := 1) x dX6_clashes__22 (by decide) ?_
  refine j2_callVi x hb dX6_clashes__23 m_X6_raises (cx_raises (d := d) hb) wmX6_61 jc_10 rfl rfl rfl (Nat.le_of_ble_eq_true rfl) (j_fit_rm (by omega) (by omega) (by omega)) rfl ?_
  exact j_ireturn x hr dX6_clashes__26 (by omega) (by omega) ⟨rfl, rfl⟩
theorem cx_isSafe_0 {d : Nat} {b : SBt} {Y : OUt} {M : MM} (hb : 104 ≤ b.2.1) {t : Int32} (h0 : M 95 0 = 0) : CM (d + 2) 0 0 yX6_isSafe cX6_isSafe 2 (some .boolean) [.ref 94, .int t] b Y M (.inl (some (.int (0)))) (jm M 94 19 1) := by
  refine Con.of (by decide +kernel) (Nat.le_of_ble_eq_true rfl) rfl fun p l e s m args below meth c D tyc A ad0 x hr htab hname => ?_
  change JJ _ _ _ _ _ _ _ _ _ _ _ _ _ _ _ _ _ 0 [some (.ref 94), some (.int t)] [] _ 0 0
  refine j_aload_n x dX6_isSafe_0 rfl ?_
  refine j_aload_n x dX6_isSafe_1 rfl ?_
  refine j_iload_n x dX6_isSafe_2 rfl ?_
  refine j2_callVi x hb dX6_isSafe_3 m_X6_isTeam (CM_v (cx_isTeam (d := d) hb) (no_x h0)) wmX6_91 jc_10 rfl rfl rfl (Nat.le_of_ble_eq_true rfl) (j_fit_rm (by omega) (by omega) (by omega)) rfl ?_
  refine j_if_eq (tgt := 13) x dX6_isSafe_6 (by decide) (fun hc => ?_) (fun hc => absurd (rfl) hc)
  refine j_iconst (v := 1) x dX6_isSafe_13 (by decide) ?_
  refine j2_puti (k := 19) x hb dX6_isSafe_14 jc_10 wfX6_36 (by decide) rfl rfl rfl rfl ?_
  refine j_aload_n x dX6_isSafe_17 rfl ?_
  refine j2_geti (k := 19) x hb dX6_isSafe_18 jc_10 wfX6_36 (by decide) rfl ?_
  refine j_if_ne (tgt := 36) x dX6_isSafe_21 (by decide) (fun hc => ?_) (fun hc => absurd hc (by rw [jm_s]; decide))
  refine j_iconst (v := 0) x dX6_isSafe_36 (by decide) ?_
  exact j_zreturn x hr dX6_isSafe_37 (by first | decide | exact jb_nar) (by omega) (by omega) ⟨rfl, rfl⟩
theorem cx_isOut_0 {d : Nat} {b : SBt} {Y : OUt} {M : MM} (hb : 104 ≤ b.2.1) {t : Int32} (h0 : M 95 0 = 0) : CM (d + 2) 0 0 yX6_isOut cX6_isOut 2 (some .boolean) [.ref 94, .int t] b Y M (.inl (some (.int (0)))) (jm M 94 19 1) := by
  refine Con.of (by decide +kernel) (Nat.le_of_ble_eq_true rfl) rfl fun p l e s m args below meth c D tyc A ad0 x hr htab hname => ?_
  change JJ _ _ _ _ _ _ _ _ _ _ _ _ _ _ _ _ _ 0 [some (.ref 94), some (.int t)] [] _ 0 0
  refine j_aload_n x dX6_isOut_0 rfl ?_
  refine j_aload_n x dX6_isOut_1 rfl ?_
  refine j_iload_n x dX6_isOut_2 rfl ?_
  refine j2_callVi x hb dX6_isOut_3 m_X6_isTeam (CM_v (cx_isTeam (d := d) hb) (no_x h0)) wmX6_91 jc_10 rfl rfl rfl (Nat.le_of_ble_eq_true rfl) (j_fit_rm (by omega) (by omega) (by omega)) rfl ?_
  refine j_if_eq (tgt := 13) x dX6_isOut_6 (by decide) (fun hc => ?_) (fun hc => absurd (rfl) hc)
  refine j_iconst (v := 1) x dX6_isOut_13 (by decide) ?_
  refine j2_puti (k := 19) x hb dX6_isOut_14 jc_10 wfX6_36 (by decide) rfl rfl rfl rfl ?_
  refine j_aload_n x dX6_isOut_17 rfl ?_
  refine j2_geti (k := 19) x hb dX6_isOut_18 jc_10 wfX6_36 (by decide) rfl ?_
  refine j_if_ne (tgt := 36) x dX6_isOut_21 (by decide) (fun hc => ?_) (fun hc => absurd hc (by rw [jm_s]; decide))
  refine j_iconst (v := 0) x dX6_isOut_36 (by decide) ?_
  exact j_zreturn x hr dX6_isOut_37 (by first | decide | exact jb_nar) (by omega) (by omega) ⟨rfl, rfl⟩
theorem cx_ranked_0 {d : Nat} {b : SBt} {Y : OUt} {M : MM} (hb : 104 ≤ b.2.1) {t : Int32} (h0 : M 95 0 = 0) : CM (d + 1) 0 0 yX6_ranked cX6_ranked 3 (some .int) [.ref 94, .int t] b Y M (.inl (some (.int (0)))) (jrai (jm M 94 19 0) 1) := by
  refine Con.of (by decide +kernel) (Nat.le_of_ble_eq_true rfl) rfl fun p l e s m args below meth c D tyc A ad0 x hr htab hname => ?_
  change JJ _ _ _ _ _ _ _ _ _ _ _ _ _ _ _ _ _ 0 [some (.ref 94), some (.int t), none] [] _ 0 0
  refine j_aload_n x dX6_ranked_0 rfl ?_
  refine j_iconst (v := 0) x dX6_ranked_1 (by decide) ?_
  refine j2_puti (k := 19) x hb dX6_ranked_2 jc_10 wfX6_36 (by decide) rfl rfl rfl rfl ?_
  refine j_iconst (v := 0) x dX6_ranked_5 (by decide) ?_
  refine j_istore_n x dX6_ranked_6 (by decide) rfl ?_
  refine j_iload_n x dX6_ranked_7 rfl ?_
  refine j_aload_n x dX6_ranked_8 rfl ?_
  refine j2_getr (k := 0) (r := 95) x hb dX6_ranked_9 jc_10 wfX6_9 (by decide) rfl ?_
  refine j_iconst (v := 0) x dX6_ranked_12 (by decide) ?_
  refine j2_ialn x hb dX6_ranked_13 fa_95 (j := 0) (vp_c (by decide)) (by decide) ?_
  refine j_icmp_ge (tgt := 34) x dX6_ranked_14 (by decide) (fun hc => ?_) (fun hc => absurd (by rw [jm_n (by omega), h0]; decide) hc)
  refine j_aload_n x dX6_ranked_34 rfl ?_
  refine j_iconst (v := 1) x dX6_ranked_35 (by decide) ?_
  refine j2_callVi x hb dX6_ranked_36 m_X6_raises (cx_raises (d := d) hb) wmX6_61 jc_10 rfl rfl rfl (Nat.le_of_ble_eq_true rfl) (j_fit_rm (by omega) (by omega) (by omega)) rfl ?_
  exact j_ireturn x hr dX6_ranked_39 (by omega) (by omega) ⟨rfl, rfl⟩
theorem cx_append_ok {d : Nat} {b : SBt} {Y : OUt} {M : MM} (hb : 104 ≤ b.2.1) {v w : Int32} {n : Nat} (hn : n < 60) (h9 : M 94 9 = nI n) (hv : vp_nar .char v = w) : CM (d + 1) 0 0 yX6_append cX6_append 2 (some .int) [.ref 94, .int v] b Y M (.inl (some (.int (nI (n + 1))))) (jm (jm (jm M 94 19 0) 94 9 (nI (n + 1))) 100 n w) := by
  refine Con.of (by decide +kernel) (Nat.le_of_ble_eq_true rfl) rfl fun p l e s m args below meth c D tyc A ad0 x hr htab hname => ?_
  change JJ _ _ _ _ _ _ _ _ _ _ _ _ _ _ _ _ _ 0 [some (.ref 94), some (.int v)] [] _ 0 0
  refine j_aload_n x dX6_append_0 rfl ?_
  refine j_iconst (v := 0) x dX6_append_1 (by decide) ?_
  refine j2_puti (k := 19) x hb dX6_append_2 jc_10 wfX6_36 (by decide) rfl rfl rfl rfl ?_
  refine j_aload_n x dX6_append_5 rfl ?_
  refine j2_geti (k := 9) x hb dX6_append_6 jc_10 wfX6_185 (by decide) rfl ?_
  refine j_bipush (v := 60) x dX6_append_9 (by decide) ?_
  refine j_icmp_ne (tgt := 20) x dX6_append_11 (by decide) (fun hc => ?_) (fun hc => absurd hc (by rw [jm_n (by omega), h9]; exact fun q => absurd ((nI_eq (by omega) (by decide)).mp (show nI n = nI 60 from q)) (by omega)))
  refine j_aload_n x dX6_append_20 rfl ?_
  refine j2_getr (k := 8) (r := 100) x hb dX6_append_21 jc_10 wfX6_25 (by decide) rfl ?_
  refine j_aload_n x dX6_append_24 rfl ?_
  refine j_dup x dX6_append_25 rfl ?_
  refine j2_geti (k := 9) x hb dX6_append_26 jc_10 wfX6_185 (by decide) rfl ?_
  rw [jm_n (by omega), h9]; refine j_dup_x1 x dX6_append_29 rfl rfl ?_
  refine j_iconst (v := 1) x dX6_append_30 (by decide) ?_
  refine j_iadd x dX6_append_31 ?_
  rw [nI_1]; refine j2_puti (k := 9) x hb dX6_append_32 jc_10 wfX6_185 (by decide) rfl rfl rfl rfl ?_
  refine j_iload_n x dX6_append_35 rfl ?_
  refine j2_cast x hb dX6_append_36 fa_100 (vp_in_nI hn (by decide)) hv ?_; rw [nI_clamp (by omega)]
  refine j_aload_n x dX6_append_37 rfl ?_
  refine j2_geti (k := 9) x hb dX6_append_38 jc_10 wfX6_185 (by decide) rfl ?_
  exact j_ireturn x hr dX6_append_41 (by omega) (by omega) ⟨by rw [jm_n (by omega), jm_s], rfl⟩
theorem cx_isCommand_0 {d : Nat} {b : SBt} {Y : OUt} {M : MM} (hb : 104 ≤ b.2.1) (h : M 94 10 = M 94 9) : CM (d) 0 0 yX6_isCommand cX6_isCommand 1 (some .boolean) [.ref 94] b Y M (.inl (some (.int (0)))) (M) := by
  refine Con.of (by decide +kernel) (Nat.le_of_ble_eq_true rfl) rfl fun p l e s m args below meth c D tyc A ad0 x hr htab hname => ?_
  change JJ _ _ _ _ _ _ _ _ _ _ _ _ _ _ _ _ _ 0 [some (.ref 94)] [] _ 0 0
  refine j_aload_n x dX6_isCommand_0 rfl ?_
  refine j2_geti (k := 10) x hb dX6_isCommand_1 jc_10 wfX6_188 (by decide) rfl ?_
  refine j_aload_n x dX6_isCommand_4 rfl ?_
  refine j2_geti (k := 9) x hb dX6_isCommand_5 jc_10 wfX6_185 (by decide) rfl ?_
  refine j_icmp_ne (tgt := 13) x dX6_isCommand_8 (by decide) (fun hc => absurd hc (fun q => q h)) (fun hc => ?_)
  refine j_iconst (v := 0) x dX6_isCommand_11 (by decide) ?_
  exact j_zreturn x hr dX6_isCommand_12 (by first | decide | exact jb_nar) (by omega) (by omega) ⟨rfl, rfl⟩
theorem cx_commands_0 {d : Nat} {b : SBt} {Y : OUt} {M : MM} (hb : 104 ≤ b.2.1) (h9 : M 94 9 = 0) : CM (d + 1) 0 0 yX6_commands cX6_commands 4 (some .int) [.ref 94] b Y M (.inl (some (.int (0)))) (jrai (jm (jm (jm (jtr M) 94 10 0) 94 13 (jm (jtr M) 94 10 0 94 10)) 94 9 0) 1) := by
  refine Con.of (by decide +kernel) (Nat.le_of_ble_eq_true rfl) rfl fun p l e s m args below meth c D tyc A ad0 x hr htab hname => ?_
  change JJ _ _ _ _ _ _ _ _ _ _ _ _ _ _ _ _ _ 0 [some (.ref 94), none, none, none] [] _ 0 0
  refine j_aload_n x dX6_commands_0 rfl ?_
  refine j2_callVv x hb dX6_commands_1 m_X6_tries (cx_tries (d := d) hb) wmX6_76 jc_10 rfl rfl rfl (Nat.le_of_ble_eq_true rfl) (j_fit_rm (by omega) (by omega) (by omega)) rfl ?_
  refine j_aload_n x dX6_commands_4 rfl ?_
  refine j_iconst (v := 0) x dX6_commands_5 (by decide) ?_
  refine j2_puti (k := 10) x hb dX6_commands_6 jc_10 wfX6_188 (by decide) rfl rfl rfl rfl ?_
  refine j_aload_n x dX6_commands_9 rfl ?_
  refine j2_callVi x hb dX6_commands_10 m_X6_isCommand (cx_isCommand_0 (d := d) hb (by rw [jm_s, jm_n (by omega), jtr_f (by omega) (by omega), h9])) wmX6_205 jc_10 rfl rfl rfl (Nat.le_of_ble_eq_true rfl) (j_fit_rm (by omega) (by omega) (by omega)) rfl ?_
  refine j_istore_n x dX6_commands_13 (by decide) rfl ?_
  refine j_iload_n x dX6_commands_14 rfl ?_
  refine j_if_eq (tgt := 54) x dX6_commands_15 (by decide) (fun hc => ?_) (fun hc => absurd (rfl) hc)
  refine j_aload_n x dX6_commands_54 rfl ?_
  refine j_iload_n x dX6_commands_55 rfl ?_
  refine j_if_eq (tgt := 63) x dX6_commands_56 (by decide) (fun hc => ?_) (fun hc => absurd (rfl) hc)
  refine j_aload_n x dX6_commands_63 rfl ?_
  refine j2_geti (k := 10) x hb dX6_commands_64 jc_10 wfX6_188 (by decide) rfl ?_
  refine j2_puti (k := 13) x hb dX6_commands_67 jc_10 wfX6_32 (by decide) rfl rfl rfl rfl ?_
  refine j_iload_n x dX6_commands_70 rfl ?_
  refine j_if_ne (tgt := 85) x dX6_commands_71 (by decide) (fun hc => absurd hc (fun q => q rfl)) (fun hc => ?_)
  refine j_aload_n x dX6_commands_74 rfl ?_
  refine j_iconst (v := 0) x dX6_commands_75 (by decide) ?_
  refine j2_puti (k := 9) x hb dX6_commands_76 jc_10 wfX6_185 (by decide) rfl rfl rfl rfl ?_
  refine j_aload_n x dX6_commands_79 rfl ?_
  refine j_iconst (v := 1) x dX6_commands_80 (by decide) ?_
  refine j2_callVi x hb dX6_commands_81 m_X6_raises (cx_raises (d := d) hb) wmX6_61 jc_10 rfl rfl rfl (Nat.le_of_ble_eq_true rfl) (j_fit_rm (by omega) (by omega) (by omega)) rfl ?_
  exact j_ireturn x hr dX6_commands_84 (by omega) (by omega) ⟨rfl, rfl⟩
theorem cx_faultPosition {d : Nat} {b : SBt} {Y : OUt} {M : MM} (hb : 104 ≤ b.2.1)  : CM (d) 0 0 yX6_faultPosition cX6_faultPosition 1 (some .int) [.ref 94] b Y M (.inl (some (.int (jm M 94 19 0 94 13)))) (jm M 94 19 0) := by
  refine Con.of (by decide +kernel) (Nat.le_of_ble_eq_true rfl) rfl fun p l e s m args below meth c D tyc A ad0 x hr htab hname => ?_
  change JJ _ _ _ _ _ _ _ _ _ _ _ _ _ _ _ _ _ 0 [some (.ref 94)] [] _ 0 0
  refine j_aload_n x dX6_faultPosition_0 rfl ?_
  refine j_iconst (v := 0) x dX6_faultPosition_1 (by decide) ?_
  refine j2_puti (k := 19) x hb dX6_faultPosition_2 jc_10 wfX6_36 (by decide) rfl rfl rfl rfl ?_
  refine j_aload_n x dX6_faultPosition_5 rfl ?_
  refine j2_geti (k := 13) x hb dX6_faultPosition_6 jc_10 wfX6_32 (by decide) rfl ?_
  exact j_ireturn x hr dX6_faultPosition_9 (by omega) (by omega) ⟨rfl, rfl⟩
theorem cx_reason_bad {d : Nat} {b : SBt} {Y : OUt} {M : MM} (hb : 104 ≤ b.2.1) {t : Int32} (hx : ¬ (¬ t < 0 ∧ ¬ 2 < t)) : CM (d + 1) 0 0 yX6_reason cX6_reason 2 (some .int) [.ref 94, .int t] b Y M (.inl (some (.int (0)))) (jrai (jm M 94 19 0) 1) := by
  refine Con.of (by decide +kernel) (Nat.le_of_ble_eq_true rfl) rfl fun p l e s m args below meth c D tyc A ad0 x hr htab hname => ?_
  change JJ _ _ _ _ _ _ _ _ _ _ _ _ _ _ _ _ _ 0 [some (.ref 94), some (.int t)] [] _ 0 0
  refine j_aload_n x dX6_reason_0 rfl ?_
  refine j_iconst (v := 0) x dX6_reason_1 (by decide) ?_
  refine j2_puti (k := 19) x hb dX6_reason_2 jc_10 wfX6_36 (by decide) rfl rfl rfl rfl ?_
  refine j_iload_n x dX6_reason_5 rfl ?_
  refine j_iconst (v := 0) x dX6_reason_6 (by decide) ?_
  refine j_iconst (v := 2) x dX6_reason_7 (by decide) ?_
  refine j2_callSi x hb dX6_reason_8 m_X6_in (CM_v (cx_in (d := d) hb) (jb_f hx)) wmX6_64 rfl (Nat.le_of_ble_eq_true rfl) (j_fit_rm (by omega) (by omega) (by omega)) rfl ?_
  refine j_if_ne (tgt := 20) x dX6_reason_11 (by decide) (fun hc => absurd hc (fun q => q rfl)) (fun hc => ?_)
  refine j_aload_n x dX6_reason_14 rfl ?_
  refine j_iconst (v := 1) x dX6_reason_15 (by decide) ?_
  refine j2_callVi x hb dX6_reason_16 m_X6_raises (cx_raises (d := d) hb) wmX6_61 jc_10 rfl rfl rfl (Nat.le_of_ble_eq_true rfl) (j_fit_rm (by omega) (by omega) (by omega)) rfl ?_
  exact j_ireturn x hr dX6_reason_19 (by omega) (by omega) ⟨rfl, rfl⟩
theorem cx_reason_0 {d : Nat} {b : SBt} {Y : OUt} {M : MM} (hb : 104 ≤ b.2.1) {t : Int32} (hx : ¬ t < 0 ∧ ¬ 2 < t) (h0 : M 94 14 = 0) : CM (d + 1) 0 0 yX6_reason cX6_reason 2 (some .int) [.ref 94, .int t] b Y M (.inl (some (.int (0)))) (jrai (jm M 94 19 0) 2) := by
  refine Con.of (by decide +kernel) (Nat.le_of_ble_eq_true rfl) rfl fun p l e s m args below meth c D tyc A ad0 x hr htab hname => ?_
  change JJ _ _ _ _ _ _ _ _ _ _ _ _ _ _ _ _ _ 0 [some (.ref 94), some (.int t)] [] _ 0 0
  refine j_aload_n x dX6_reason_0 rfl ?_
  refine j_iconst (v := 0) x dX6_reason_1 (by decide) ?_
  refine j2_puti (k := 19) x hb dX6_reason_2 jc_10 wfX6_36 (by decide) rfl rfl rfl rfl ?_
  refine j_iload_n x dX6_reason_5 rfl ?_
  refine j_iconst (v := 0) x dX6_reason_6 (by decide) ?_
  refine j_iconst (v := 2) x dX6_reason_7 (by decide) ?_
  refine j2_callSi x hb dX6_reason_8 m_X6_in (CM_v (cx_in (d := d) hb) (jb_t hx)) wmX6_64 rfl (Nat.le_of_ble_eq_true rfl) (j_fit_rm (by omega) (by omega) (by omega)) rfl ?_
  refine j_if_ne (tgt := 20) x dX6_reason_11 (by decide) (fun hc => ?_) (fun hc => absurd hc (by decide))
  refine j_aload_n x dX6_reason_20 rfl ?_
  refine j2_geti (k := 14) x hb dX6_reason_21 jc_10 wfX6_45 (by decide) rfl ?_
  refine j_if_ne (tgt := 33) x dX6_reason_24 (by decide) (fun hc => absurd hc (fun q => q (by rw [jm_n (by omega)]; exact h0))) (fun hc => ?_)
  refine j_aload_n x dX6_reason_27 rfl ?_
  refine j_iconst (v := 2) x dX6_reason_28 (by decide) ?_
  refine j2_callVi x hb dX6_reason_29 m_X6_raises (cx_raises (d := d) hb) wmX6_61 jc_10 rfl rfl rfl (Nat.le_of_ble_eq_true rfl) (j_fit_rm (by omega) (by omega) (by omega)) rfl ?_
  exact j_ireturn x hr dX6_reason_32 (by omega) (by omega) ⟨rfl, rfl⟩
theorem cx_character_0 {d : Nat} {b : SBt} {Y : OUt} {M : MM} (hb : 104 ≤ b.2.1) {t : Int32} (h0 : M 94 7 = 0) : CM (d + 1) 0 0 yX6_character cX6_character 2 (some .char) [.ref 94, .int t] b Y M (.inl (some (.int (97)))) (jm M 94 19 1) := by
  refine Con.of (by decide +kernel) (Nat.le_of_ble_eq_true rfl) rfl fun p l e s m args below meth c D tyc A ad0 x hr htab hname => ?_
  change JJ _ _ _ _ _ _ _ _ _ _ _ _ _ _ _ _ _ 0 [some (.ref 94), some (.int t)] [] _ 0 0
  refine j_aload_n x dX6_character_0 rfl ?_
  refine j_iload_n x dX6_character_1 rfl ?_
  refine j_iconst (v := 0) x dX6_character_2 (by decide) ?_
  refine j_aload_n x dX6_character_3 rfl ?_
  refine j2_geti (k := 7) x hb dX6_character_4 jc_10 wfX6_218 (by decide) rfl ?_
  refine j_iconst (v := 1) x dX6_character_7 (by decide) ?_
  refine j_isub x dX6_character_8 ?_
  refine j2_callSi x hb dX6_character_9 m_X6_in (CM_v (cx_in (d := d) hb) (no_x h0)) wmX6_64 rfl (Nat.le_of_ble_eq_true rfl) (j_fit_rm (by omega) (by omega) (by omega)) rfl ?_
  refine j_if_eq (tgt := 19) x dX6_character_12 (by decide) (fun hc => ?_) (fun hc => absurd (rfl) hc)
  refine j_iconst (v := 1) x dX6_character_19 (by decide) ?_
  refine j2_puti (k := 19) x hb dX6_character_20 jc_10 wfX6_36 (by decide) rfl rfl rfl rfl ?_
  refine j_aload_n x dX6_character_23 rfl ?_
  refine j2_geti (k := 19) x hb dX6_character_24 jc_10 wfX6_36 (by decide) rfl ?_
  refine j_if_ne (tgt := 40) x dX6_character_27 (by decide) (fun hc => ?_) (fun hc => absurd hc (by rw [jm_s]; decide))
  refine j_bipush (v := 97) x dX6_character_40 (by decide) ?_
  exact j_zreturn x hr dX6_character_42 (by first | decide | exact jb_nar) (by omega) (by omega) ⟨rfl, rfl⟩
theorem cx_meanGoals_0 {d : Nat} {b : SBt} {Y : OUt} {M : MM} (hb : 104 ≤ b.2.1) (h0 : M 95 9 = 0) : CM (d + 1) 0 0 yX6_meanGoals cX6_meanGoals 1 (some .float) [.ref 94] b Y M (.inl (some (.float (FP.i2f 0)))) (jrai (jm M 94 19 0) 1) := by
  refine Con.of (by decide +kernel) (Nat.le_of_ble_eq_true rfl) rfl fun p l e s m args below meth c D tyc A ad0 x hr htab hname => ?_
  change JJ _ _ _ _ _ _ _ _ _ _ _ _ _ _ _ _ _ 0 [some (.ref 94)] [] _ 0 0
  refine j_aload_n x dX6_meanGoals_0 rfl ?_
  refine j_iconst (v := 0) x dX6_meanGoals_1 (by decide) ?_
  refine j2_puti (k := 19) x hb dX6_meanGoals_2 jc_10 wfX6_36 (by decide) rfl rfl rfl rfl ?_
  refine j_aload_n x dX6_meanGoals_5 rfl ?_
  refine j2_callVi x hb dX6_meanGoals_6 m_X6_played (cx_played_0 (d := d) hb (by rw [jm_n (by omega)]; exact h0)) wmX6_113 jc_10 rfl rfl rfl (Nat.le_of_ble_eq_true rfl) (j_fit_rm (by omega) (by omega) (by omega)) rfl ?_
  refine j_if_ne (tgt := 21) x dX6_meanGoals_9 (by decide) (fun hc => absurd hc (fun q => q rfl)) (fun hc => ?_)
  refine j_aload_n x dX6_meanGoals_12 rfl ?_
  refine j_iconst (v := 1) x dX6_meanGoals_13 (by decide) ?_
  refine j2_callVi x hb dX6_meanGoals_14 m_X6_raises (cx_raises (d := d) hb) wmX6_61 jc_10 rfl rfl rfl (Nat.le_of_ble_eq_true rfl) (j_fit_rm (by omega) (by omega) (by omega)) rfl ?_
  refine j_i2f x dX6_meanGoals_17 ?_
  refine j_goto (tgt := 32) x dX6_meanGoals_18 (by decide) ?_
  exact j_freturn x hr dX6_meanGoals_32 (by omega) (by omega) ⟨rfl, rfl⟩
theorem cx_homeShare_0 {d : Nat} {b : SBt} {Y : OUt} {M : MM} (hb : 104 ≤ b.2.1) (h0 : M 95 9 = 0) : CM (d + 1) 0 0 yX6_homeShare cX6_homeShare 3 (some .double) [.ref 94] b Y M (.inl (some (.double (FP.i2d 0)))) (jrai (jm M 94 19 0) 1) := by
  refine Con.of (by decide +kernel) (Nat.le_of_ble_eq_true rfl) rfl fun p l e s m args below meth c D tyc A ad0 x hr htab hname => ?_
  change JJ _ _ _ _ _ _ _ _ _ _ _ _ _ _ _ _ _ 0 [some (.ref 94), none, none] [] _ 0 0
  refine j_aload_n x dX6_homeShare_0 rfl ?_
  refine j_iconst (v := 0) x dX6_homeShare_1 (by decide) ?_
  refine j2_puti (k := 19) x hb dX6_homeShare_2 jc_10 wfX6_36 (by decide) rfl rfl rfl rfl ?_
  refine j_aload_n x dX6_homeShare_5 rfl ?_
  refine j2_callVi x hb dX6_homeShare_6 m_X6_played (cx_played_0 (d := d) hb (by rw [jm_n (by omega)]; exact h0)) wmX6_113 jc_10 rfl rfl rfl (Nat.le_of_ble_eq_true rfl) (j_fit_rm (by omega) (by omega) (by omega)) rfl ?_
  refine j_if_ne (tgt := 19) x dX6_homeShare_9 (by decide) (fun hc => absurd hc (fun q => q rfl)) (fun hc => ?_)
  refine j_aload_n x dX6_homeShare_12 rfl ?_
  refine j_iconst (v := 1) x dX6_homeShare_13 (by decide) ?_
  refine j2_callVi x hb dX6_homeShare_14 m_X6_raises (cx_raises (d := d) hb) wmX6_61 jc_10 rfl rfl rfl (Nat.le_of_ble_eq_true rfl) (j_fit_rm (by omega) (by omega) (by omega)) rfl ?_
  refine j_i2d x dX6_homeShare_17 ?_
  exact j_dreturn x hr dX6_homeShare_18 (by omega) (by omega) ⟨rfl, rfl⟩
theorem cx_account_0 {d : Nat} {b : SBt} {Y : OUt} {M : MM} (hb : 104 ≤ b.2.1) (h0 : M 95 0 = 0) (h1 : M 95 1 = 0) (h9 : M 95 9 = 0) : CM (d + 2) 0 0 yX6_account cX6_account 4 (some .int) [.ref 94, .int 0] b Y M (.inl (some (.int (0)))) (jm M 94 19 0) := by
  refine Con.of (by decide +kernel) (Nat.le_of_ble_eq_true rfl) rfl fun p l e s m args below meth c D tyc A ad0 x hr htab hname => ?_
  change JJ _ _ _ _ _ _ _ _ _ _ _ _ _ _ _ _ _ 0 [some (.ref 94), some (.int 0), none, none] [] _ 0 0
  refine j_aload_n x dX6_account_0 rfl ?_
  refine j_iconst (v := 0) x dX6_account_1 (by decide) ?_
  refine j2_puti (k := 19) x hb dX6_account_2 jc_10 wfX6_36 (by decide) rfl rfl rfl rfl ?_
  refine j_iconst (v := 0) x dX6_account_5 (by decide) ?_
  refine j_istore_n x dX6_account_6 (by decide) rfl ?_
  refine j_iload_n x dX6_account_7 rfl ?_
  refine j_tableIn (tgt := 84) x dX6_account_8 (by decide) (by decide) rfl (by decide) ?_
  refine j_aload_n x dX6_account_84 rfl ?_
  refine j2_getr (k := 0) (r := 95) x hb dX6_account_85 jc_10 wfX6_9 (by decide) rfl ?_
  refine j_iconst (v := 0) x dX6_account_88 (by decide) ?_
  refine j2_ialn x hb dX6_account_89 fa_95 (j := 0) (vp_c (by decide)) (by decide) ?_
  exact j_ireturn x hr dX6_account_90 (by omega) (by omega) ⟨by rw [jm_n (by omega), h0], rfl⟩
theorem cx_account_1 {d : Nat} {b : SBt} {Y : OUt} {M : MM} (hb : 104 ≤ b.2.1) (h0 : M 95 0 = 0) (h1 : M 95 1 = 0) (h9 : M 95 9 = 0) : CM (d + 2) 0 0 yX6_account cX6_account 4 (some .int) [.ref 94, .int 1] b Y M (.inl (some (.int (0)))) (jm M 94 19 0) := by
  refine Con.of (by decide +kernel) (Nat.le_of_ble_eq_true rfl) rfl fun p l e s m args below meth c D tyc A ad0 x hr htab hname => ?_
  change JJ _ _ _ _ _ _ _ _ _ _ _ _ _ _ _ _ _ 0 [some (.ref 94), some (.int 1), none, none] [] _ 0 0
  refine j_aload_n x dX6_account_0 rfl ?_
  refine j_iconst (v := 0) x dX6_account_1 (by decide) ?_
  refine j2_puti (k := 19) x hb dX6_account_2 jc_10 wfX6_36 (by decide) rfl rfl rfl rfl ?_
  refine j_iconst (v := 0) x dX6_account_5 (by decide) ?_
  refine j_istore_n x dX6_account_6 (by decide) rfl ?_
  refine j_iload_n x dX6_account_7 rfl ?_
  refine j_tableIn (tgt := 91) x dX6_account_8 (by decide) (by decide) rfl (by decide) ?_
  refine j_aload_n x dX6_account_91 rfl ?_
  refine j2_callVi x hb dX6_account_92 m_X6_isDrawn (CM_v (cx_isDrawn (d := d) hb) (no_w (by rw [jm_n (by omega)]; exact h1))) wmX6_87 jc_10 rfl rfl rfl (Nat.le_of_ble_eq_true rfl) (j_fit_rm (by omega) (by omega) (by omega)) rfl ?_
  refine j_if_eq (tgt := 102) x dX6_account_95 (by decide) (fun hc => ?_) (fun hc => absurd (rfl) hc)
  refine j_iconst (v := 0) x dX6_account_102 (by decide) ?_
  exact j_ireturn x hr dX6_account_103 (by omega) (by omega) ⟨rfl, rfl⟩
theorem cx_account_2 {d : Nat} {b : SBt} {Y : OUt} {M : MM} (hb : 104 ≤ b.2.1) (h0 : M 95 0 = 0) (h1 : M 95 1 = 0) (h9 : M 95 9 = 0) : CM (d + 2) 0 0 yX6_account cX6_account 4 (some .int) [.ref 94, .int 2] b Y M (.inl (some (.int (0)))) (jm M 94 19 0) := by
  refine Con.of (by decide +kernel) (Nat.le_of_ble_eq_true rfl) rfl fun p l e s m args below meth c D tyc A ad0 x hr htab hname => ?_
  change JJ _ _ _ _ _ _ _ _ _ _ _ _ _ _ _ _ _ 0 [some (.ref 94), some (.int 2), none, none] [] _ 0 0
  refine j_aload_n x dX6_account_0 rfl ?_
  refine j_iconst (v := 0) x dX6_account_1 (by decide) ?_
  refine j2_puti (k := 19) x hb dX6_account_2 jc_10 wfX6_36 (by decide) rfl rfl rfl rfl ?_
  refine j_iconst (v := 0) x dX6_account_5 (by decide) ?_
  refine j_istore_n x dX6_account_6 (by decide) rfl ?_
  refine j_iload_n x dX6_account_7 rfl ?_
  refine j_tableIn (tgt := 104) x dX6_account_8 (by decide) (by decide) rfl (by decide) ?_
  refine j_aload_n x dX6_account_104 rfl ?_
  refine j2_getr (k := 0) (r := 95) x hb dX6_account_105 jc_10 wfX6_9 (by decide) rfl ?_
  refine j_iconst (v := 1) x dX6_account_108 (by decide) ?_
  refine j2_ialn x hb dX6_account_109 fa_95 (j := 1) (vp_c (by decide)) (by decide) ?_
  exact j_ireturn x hr dX6_account_110 (by omega) (by omega) ⟨by rw [jm_n (by omega), h1], rfl⟩
theorem cx_account_3 {d : Nat} {b : SBt} {Y : OUt} {M : MM} (hb : 104 ≤ b.2.1) (h0 : M 95 0 = 0) (h1 : M 95 1 = 0) (h9 : M 95 9 = 0) : CM (d + 2) 0 0 yX6_account cX6_account 4 (some .int) [.ref 94, .int 3] b Y M (.inl (some (.int (M 95 2)))) (jm M 94 19 0) := by
  refine Con.of (by decide +kernel) (Nat.le_of_ble_eq_true rfl) rfl fun p l e s m args below meth c D tyc A ad0 x hr htab hname => ?_
  change JJ _ _ _ _ _ _ _ _ _ _ _ _ _ _ _ _ _ 0 [some (.ref 94), some (.int 3), none, none] [] _ 0 0
  refine j_aload_n x dX6_account_0 rfl ?_
  refine j_iconst (v := 0) x dX6_account_1 (by decide) ?_
  refine j2_puti (k := 19) x hb dX6_account_2 jc_10 wfX6_36 (by decide) rfl rfl rfl rfl ?_
  refine j_iconst (v := 0) x dX6_account_5 (by decide) ?_
  refine j_istore_n x dX6_account_6 (by decide) rfl ?_
  refine j_iload_n x dX6_account_7 rfl ?_
  refine j_tableIn (tgt := 111) x dX6_account_8 (by decide) (by decide) rfl (by decide) ?_
  refine j_aload_n x dX6_account_111 rfl ?_
  refine j2_getr (k := 0) (r := 95) x hb dX6_account_112 jc_10 wfX6_9 (by decide) rfl ?_
  refine j_iconst (v := 2) x dX6_account_115 (by decide) ?_
  refine j2_ialn x hb dX6_account_116 fa_95 (j := 2) (vp_c (by decide)) (by decide) ?_
  exact j_ireturn x hr dX6_account_117 (by omega) (by omega) ⟨by rw [jm_n (by omega)], rfl⟩
theorem cx_account_4 {d : Nat} {b : SBt} {Y : OUt} {M : MM} (hb : 104 ≤ b.2.1) (h0 : M 95 0 = 0) (h1 : M 95 1 = 0) (h9 : M 95 9 = 0) : CM (d + 2) 0 0 yX6_account cX6_account 4 (some .int) [.ref 94, .int 4] b Y M (.inl (some (.int (0)))) (jm M 94 19 0) := by
  refine Con.of (by decide +kernel) (Nat.le_of_ble_eq_true rfl) rfl fun p l e s m args below meth c D tyc A ad0 x hr htab hname => ?_
  change JJ _ _ _ _ _ _ _ _ _ _ _ _ _ _ _ _ _ 0 [some (.ref 94), some (.int 4), none, none] [] _ 0 0
  refine j_aload_n x dX6_account_0 rfl ?_
  refine j_iconst (v := 0) x dX6_account_1 (by decide) ?_
  refine j2_puti (k := 19) x hb dX6_account_2 jc_10 wfX6_36 (by decide) rfl rfl rfl rfl ?_
  refine j_iconst (v := 0) x dX6_account_5 (by decide) ?_
  refine j_istore_n x dX6_account_6 (by decide) rfl ?_
  refine j_iload_n x dX6_account_7 rfl ?_
  refine j_tableIn (tgt := 118) x dX6_account_8 (by decide) (by decide) rfl (by decide) ?_
  refine j_aload_n x dX6_account_118 rfl ?_
  refine j2_getr (k := 0) (r := 95) x hb dX6_account_119 jc_10 wfX6_9 (by decide) rfl ?_
  refine j_bipush (v := 9) x dX6_account_122 (by decide) ?_
  refine j2_ialn x hb dX6_account_124 fa_95 (j := 9) (vp_c (by decide)) (by decide) ?_
  exact j_ireturn x hr dX6_account_125 (by omega) (by omega) ⟨by rw [jm_n (by omega), h9], rfl⟩
theorem cx_account_5 {d : Nat} {b : SBt} {Y : OUt} {M : MM} (hb : 104 ≤ b.2.1) (h0 : M 95 0 = 0) (h1 : M 95 1 = 0) (h9 : M 95 9 = 0) : CM (d + 2) 0 0 yX6_account cX6_account 4 (some .int) [.ref 94, .int 5] b Y M (.inl (some (.int (0)))) (jm M 94 19 0) := by
  refine Con.of (by decide +kernel) (Nat.le_of_ble_eq_true rfl) rfl fun p l e s m args below meth c D tyc A ad0 x hr htab hname => ?_
  change JJ _ _ _ _ _ _ _ _ _ _ _ _ _ _ _ _ _ 0 [some (.ref 94), some (.int 5), none, none] [] _ 0 0
  refine j_aload_n x dX6_account_0 rfl ?_
  refine j_iconst (v := 0) x dX6_account_1 (by decide) ?_
  refine j2_puti (k := 19) x hb dX6_account_2 jc_10 wfX6_36 (by decide) rfl rfl rfl rfl ?_
  refine j_iconst (v := 0) x dX6_account_5 (by decide) ?_
  refine j_istore_n x dX6_account_6 (by decide) rfl ?_
  refine j_iload_n x dX6_account_7 rfl ?_
  refine j_tableIn (tgt := 126) x dX6_account_8 (by decide) (by decide) rfl (by decide) ?_
  refine j_aload_n x dX6_account_126 rfl ?_
  refine j2_callVi x hb dX6_account_127 m_X6_played (cx_played_0 (d := d) hb (by rw [jm_n (by omega)]; exact h9)) wmX6_113 jc_10 rfl rfl rfl (Nat.le_of_ble_eq_true rfl) (j_fit_rm (by omega) (by omega) (by omega)) rfl ?_
  exact j_ireturn x hr dX6_account_130 (by omega) (by omega) ⟨rfl, rfl⟩
theorem cx_account_6 {d : Nat} {b : SBt} {Y : OUt} {M : MM} (hb : 104 ≤ b.2.1) (h0 : M 95 0 = 0) (h1 : M 95 1 = 0) (h9 : M 95 9 = 0) : CM (d + 2) 0 0 yX6_account cX6_account 4 (some .int) [.ref 94, .int 6] b Y M (.inl (some (.int (0)))) (jm M 94 19 0) := by
  refine Con.of (by decide +kernel) (Nat.le_of_ble_eq_true rfl) rfl fun p l e s m args below meth c D tyc A ad0 x hr htab hname => ?_
  change JJ _ _ _ _ _ _ _ _ _ _ _ _ _ _ _ _ _ 0 [some (.ref 94), some (.int 6), none, none] [] _ 0 0
  refine j_aload_n x dX6_account_0 rfl ?_
  refine j_iconst (v := 0) x dX6_account_1 (by decide) ?_
  refine j2_puti (k := 19) x hb dX6_account_2 jc_10 wfX6_36 (by decide) rfl rfl rfl rfl ?_
  refine j_iconst (v := 0) x dX6_account_5 (by decide) ?_
  refine j_istore_n x dX6_account_6 (by decide) rfl ?_
  refine j_iload_n x dX6_account_7 rfl ?_
  refine j_tableIn (tgt := 131) x dX6_account_8 (by decide) (by decide) rfl (by decide) ?_
  refine j_iconst (v := 0) x dX6_account_131 (by decide) ?_
  refine j_istore_n x dX6_account_132 (by decide) rfl ?_
  refine j_iload_n x dX6_account_133 rfl ?_
  refine j_aload_n x dX6_account_134 rfl ?_
  refine j2_getr (k := 0) (r := 95) x hb dX6_account_135 jc_10 wfX6_9 (by decide) rfl ?_
  refine j_bipush (v := 9) x dX6_account_138 (by decide) ?_
  refine j2_ialn x hb dX6_account_140 fa_95 (j := 9) (vp_c (by decide)) (by decide) ?_
  refine j_icmp_ge (tgt := 162) x dX6_account_141 (by decide) (fun hc => ?_) (fun hc => absurd (by rw [jm_n (by omega), h9]; decide) hc)
  refine j_iload_n x dX6_account_162 rfl ?_
  exact j_ireturn x hr dX6_account_163 (by omega) (by omega) ⟨rfl, rfl⟩
theorem cx_account_7 {d : Nat} {b : SBt} {Y : OUt} {M : MM} (hb : 104 ≤ b.2.1) (h0 : M 95 0 = 0) (h1 : M 95 1 = 0) (h9 : M 95 9 = 0) : CM (d + 2) 0 0 yX6_account cX6_account 4 (some .int) [.ref 94, .int 7] b Y M (.inl (some (.int (M 95 3)))) (jm M 94 19 0) := by
  refine Con.of (by decide +kernel) (Nat.le_of_ble_eq_true rfl) rfl fun p l e s m args below meth c D tyc A ad0 x hr htab hname => ?_
  change JJ _ _ _ _ _ _ _ _ _ _ _ _ _ _ _ _ _ 0 [some (.ref 94), some (.int 7), none, none] [] _ 0 0
  refine j_aload_n x dX6_account_0 rfl ?_
  refine j_iconst (v := 0) x dX6_account_1 (by decide) ?_
  refine j2_puti (k := 19) x hb dX6_account_2 jc_10 wfX6_36 (by decide) rfl rfl rfl rfl ?_
  refine j_iconst (v := 0) x dX6_account_5 (by decide) ?_
  refine j_istore_n x dX6_account_6 (by decide) rfl ?_
  refine j_iload_n x dX6_account_7 rfl ?_
  refine j_tableIn (tgt := 164) x dX6_account_8 (by decide) (by decide) rfl (by decide) ?_
  refine j_aload_n x dX6_account_164 rfl ?_
  refine j2_getr (k := 0) (r := 95) x hb dX6_account_165 jc_10 wfX6_9 (by decide) rfl ?_
  refine j_iconst (v := 3) x dX6_account_168 (by decide) ?_
  refine j2_ialn x hb dX6_account_169 fa_95 (j := 3) (vp_c (by decide)) (by decide) ?_
  exact j_ireturn x hr dX6_account_170 (by omega) (by omega) ⟨by rw [jm_n (by omega)], rfl⟩
theorem cx_account_8 {d : Nat} {b : SBt} {Y : OUt} {M : MM} (hb : 104 ≤ b.2.1) (h0 : M 95 0 = 0) (h1 : M 95 1 = 0) (h9 : M 95 9 = 0) : CM (d + 2) 0 0 yX6_account cX6_account 4 (some .int) [.ref 94, .int 8] b Y M (.inl (some (.int (M 95 4)))) (jm M 94 19 0) := by
  refine Con.of (by decide +kernel) (Nat.le_of_ble_eq_true rfl) rfl fun p l e s m args below meth c D tyc A ad0 x hr htab hname => ?_
  change JJ _ _ _ _ _ _ _ _ _ _ _ _ _ _ _ _ _ 0 [some (.ref 94), some (.int 8), none, none] [] _ 0 0
  refine j_aload_n x dX6_account_0 rfl ?_
  refine j_iconst (v := 0) x dX6_account_1 (by decide) ?_
  refine j2_puti (k := 19) x hb dX6_account_2 jc_10 wfX6_36 (by decide) rfl rfl rfl rfl ?_
  refine j_iconst (v := 0) x dX6_account_5 (by decide) ?_
  refine j_istore_n x dX6_account_6 (by decide) rfl ?_
  refine j_iload_n x dX6_account_7 rfl ?_
  refine j_tableIn (tgt := 171) x dX6_account_8 (by decide) (by decide) rfl (by decide) ?_
  refine j_aload_n x dX6_account_171 rfl ?_
  refine j2_getr (k := 0) (r := 95) x hb dX6_account_172 jc_10 wfX6_9 (by decide) rfl ?_
  refine j_iconst (v := 4) x dX6_account_175 (by decide) ?_
  refine j2_ialn x hb dX6_account_176 fa_95 (j := 4) (vp_c (by decide)) (by decide) ?_
  exact j_ireturn x hr dX6_account_177 (by omega) (by omega) ⟨by rw [jm_n (by omega)], rfl⟩
theorem cx_account_9 {d : Nat} {b : SBt} {Y : OUt} {M : MM} (hb : 104 ≤ b.2.1) (h0 : M 95 0 = 0) (h1 : M 95 1 = 0) (h9 : M 95 9 = 0) : CM (d + 2) 0 0 yX6_account cX6_account 4 (some .int) [.ref 94, .int 9] b Y M (.inl (some (.int (M 95 5)))) (jm M 94 19 0) := by
  refine Con.of (by decide +kernel) (Nat.le_of_ble_eq_true rfl) rfl fun p l e s m args below meth c D tyc A ad0 x hr htab hname => ?_
  change JJ _ _ _ _ _ _ _ _ _ _ _ _ _ _ _ _ _ 0 [some (.ref 94), some (.int 9), none, none] [] _ 0 0
  refine j_aload_n x dX6_account_0 rfl ?_
  refine j_iconst (v := 0) x dX6_account_1 (by decide) ?_
  refine j2_puti (k := 19) x hb dX6_account_2 jc_10 wfX6_36 (by decide) rfl rfl rfl rfl ?_
  refine j_iconst (v := 0) x dX6_account_5 (by decide) ?_
  refine j_istore_n x dX6_account_6 (by decide) rfl ?_
  refine j_iload_n x dX6_account_7 rfl ?_
  refine j_tableIn (tgt := 178) x dX6_account_8 (by decide) (by decide) rfl (by decide) ?_
  refine j_aload_n x dX6_account_178 rfl ?_
  refine j2_getr (k := 0) (r := 95) x hb dX6_account_179 jc_10 wfX6_9 (by decide) rfl ?_
  refine j_iconst (v := 5) x dX6_account_182 (by decide) ?_
  refine j2_ialn x hb dX6_account_183 fa_95 (j := 5) (vp_c (by decide)) (by decide) ?_
  exact j_ireturn x hr dX6_account_184 (by omega) (by omega) ⟨by rw [jm_n (by omega)], rfl⟩
theorem cx_account_10 {d : Nat} {b : SBt} {Y : OUt} {M : MM} (hb : 104 ≤ b.2.1) (h0 : M 95 0 = 0) (h1 : M 95 1 = 0) (h9 : M 95 9 = 0) : CM (d + 2) 0 0 yX6_account cX6_account 4 (some .int) [.ref 94, .int 10] b Y M (.inl (some (.int (0)))) (jm M 94 19 0) := by
  refine Con.of (by decide +kernel) (Nat.le_of_ble_eq_true rfl) rfl fun p l e s m args below meth c D tyc A ad0 x hr htab hname => ?_
  change JJ _ _ _ _ _ _ _ _ _ _ _ _ _ _ _ _ _ 0 [some (.ref 94), some (.int 10), none, none] [] _ 0 0
  refine j_aload_n x dX6_account_0 rfl ?_
  refine j_iconst (v := 0) x dX6_account_1 (by decide) ?_
  refine j2_puti (k := 19) x hb dX6_account_2 jc_10 wfX6_36 (by decide) rfl rfl rfl rfl ?_
  refine j_iconst (v := 0) x dX6_account_5 (by decide) ?_
  refine j_istore_n x dX6_account_6 (by decide) rfl ?_
  refine j_iload_n x dX6_account_7 rfl ?_
  refine j_tableIn (tgt := 185) x dX6_account_8 (by decide) (by decide) rfl (by decide) ?_
  refine j_aload_n x dX6_account_185 rfl ?_
  refine j2_callVi x hb dX6_account_186 m_X6_goals (cx_goals_0 (d := d) hb (by rw [jm_n (by omega)]; exact h9)) wmX6_221 jc_10 rfl rfl rfl (Nat.le_of_ble_eq_true rfl) (j_fit_rm (by omega) (by omega) (by omega)) rfl ?_
  exact j_ireturn x hr dX6_account_189 (by omega) (by omega) ⟨rfl, rfl⟩
theorem cx_account_11 {d : Nat} {b : SBt} {Y : OUt} {M : MM} (hb : 104 ≤ b.2.1) (h0 : M 95 0 = 0) (h1 : M 95 1 = 0) (h9 : M 95 9 = 0) : CM (d + 2) 0 0 yX6_account cX6_account 4 (some .int) [.ref 94, .int 11] b Y M (.inl (some (.int (0)))) (jm M 94 19 0) := by
  refine Con.of (by decide +kernel) (Nat.le_of_ble_eq_true rfl) rfl fun p l e s m args below meth c D tyc A ad0 x hr htab hname => ?_
  change JJ _ _ _ _ _ _ _ _ _ _ _ _ _ _ _ _ _ 0 [some (.ref 94), some (.int 11), none, none] [] _ 0 0
  refine j_aload_n x dX6_account_0 rfl ?_
  refine j_iconst (v := 0) x dX6_account_1 (by decide) ?_
  refine j2_puti (k := 19) x hb dX6_account_2 jc_10 wfX6_36 (by decide) rfl rfl rfl rfl ?_
  refine j_iconst (v := 0) x dX6_account_5 (by decide) ?_
  refine j_istore_n x dX6_account_6 (by decide) rfl ?_
  refine j_iload_n x dX6_account_7 rfl ?_
  refine j_tableIn (tgt := 190) x dX6_account_8 (by decide) (by decide) rfl (by decide) ?_
  refine j_iconst (v := 0) x dX6_account_190 (by decide) ?_
  refine j_istore_n x dX6_account_191 (by decide) rfl ?_
  refine j_iload_n x dX6_account_192 rfl ?_
  refine j_aload_n x dX6_account_193 rfl ?_
  refine j2_getr (k := 0) (r := 95) x hb dX6_account_194 jc_10 wfX6_9 (by decide) rfl ?_
  refine j_iconst (v := 0) x dX6_account_197 (by decide) ?_
  refine j2_ialn x hb dX6_account_198 fa_95 (j := 0) (vp_c (by decide)) (by decide) ?_
  refine j_icmp_ge (tgt := 217) x dX6_account_199 (by decide) (fun hc => ?_) (fun hc => absurd (by rw [jm_n (by omega), h0]; decide) hc)
  refine j_iload_n x dX6_account_217 rfl ?_
  exact j_ireturn x hr dX6_account_218 (by omega) (by omega) ⟨rfl, rfl⟩
theorem cx_account_12 {d : Nat} {b : SBt} {Y : OUt} {M : MM} (hb : 104 ≤ b.2.1) (h0 : M 95 0 = 0) (h1 : M 95 1 = 0) (h9 : M 95 9 = 0) : CM (d + 2) 0 0 yX6_account cX6_account 4 (some .int) [.ref 94, .int 12] b Y M (.inl (some (.int (0)))) (jm M 94 19 0) := by
  refine Con.of (by decide +kernel) (Nat.le_of_ble_eq_true rfl) rfl fun p l e s m args below meth c D tyc A ad0 x hr htab hname => ?_
  change JJ _ _ _ _ _ _ _ _ _ _ _ _ _ _ _ _ _ 0 [some (.ref 94), some (.int 12), none, none] [] _ 0 0
  refine j_aload_n x dX6_account_0 rfl ?_
  refine j_iconst (v := 0) x dX6_account_1 (by decide) ?_
  refine j2_puti (k := 19) x hb dX6_account_2 jc_10 wfX6_36 (by decide) rfl rfl rfl rfl ?_
  refine j_iconst (v := 0) x dX6_account_5 (by decide) ?_
  refine j_istore_n x dX6_account_6 (by decide) rfl ?_
  refine j_iload_n x dX6_account_7 rfl ?_
  refine j_tableIn (tgt := 219) x dX6_account_8 (by decide) (by decide) rfl (by decide) ?_
  refine j_iconst (v := 0) x dX6_account_219 (by decide) ?_
  refine j_istore_n x dX6_account_220 (by decide) rfl ?_
  refine j_iload_n x dX6_account_221 rfl ?_
  refine j_aload_n x dX6_account_222 rfl ?_
  refine j2_getr (k := 0) (r := 95) x hb dX6_account_223 jc_10 wfX6_9 (by decide) rfl ?_
  refine j_iconst (v := 1) x dX6_account_226 (by decide) ?_
  refine j2_ialn x hb dX6_account_227 fa_95 (j := 1) (vp_c (by decide)) (by decide) ?_
  refine j_icmp_ge (tgt := 245) x dX6_account_228 (by decide) (fun hc => ?_) (fun hc => absurd (by rw [jm_n (by omega), h1]; decide) hc)
  refine j_iload_n x dX6_account_245 rfl ?_
  exact j_ireturn x hr dX6_account_246 (by omega) (by omega) ⟨rfl, rfl⟩
theorem cx_account_13 {d : Nat} {b : SBt} {Y : OUt} {M : MM} (hb : 104 ≤ b.2.1) (h0 : M 95 0 = 0) (h1 : M 95 1 = 0) (h9 : M 95 9 = 0) : CM (d + 2) 0 0 yX6_account cX6_account 4 (some .int) [.ref 94, .int 13] b Y M (.inl (some (.int (M 94 3)))) (jm M 94 19 0) := by
  refine Con.of (by decide +kernel) (Nat.le_of_ble_eq_true rfl) rfl fun p l e s m args below meth c D tyc A ad0 x hr htab hname => ?_
  change JJ _ _ _ _ _ _ _ _ _ _ _ _ _ _ _ _ _ 0 [some (.ref 94), some (.int 13), none, none] [] _ 0 0
  refine j_aload_n x dX6_account_0 rfl ?_
  refine j_iconst (v := 0) x dX6_account_1 (by decide) ?_
  refine j2_puti (k := 19) x hb dX6_account_2 jc_10 wfX6_36 (by decide) rfl rfl rfl rfl ?_
  refine j_iconst (v := 0) x dX6_account_5 (by decide) ?_
  refine j_istore_n x dX6_account_6 (by decide) rfl ?_
  refine j_iload_n x dX6_account_7 rfl ?_
  refine j_tableIn (tgt := 247) x dX6_account_8 (by decide) (by decide) rfl (by decide) ?_
  refine j_aload_n x dX6_account_247 rfl ?_
  refine j2_geti (k := 3) x hb dX6_account_248 jc_10 wfX6_42 (by decide) rfl ?_
  exact j_ireturn x hr dX6_account_251 (by omega) (by omega) ⟨by rw [jm_n (by omega)], rfl⟩
theorem cx_account_14 {d : Nat} {b : SBt} {Y : OUt} {M : MM} (hb : 104 ≤ b.2.1) (h0 : M 95 0 = 0) (h1 : M 95 1 = 0) (h9 : M 95 9 = 0) : CM (d + 2) 0 0 yX6_account cX6_account 4 (some .int) [.ref 94, .int 14] b Y M (.inl (some (.int (M 94 9)))) (jm M 94 19 0) := by
  refine Con.of (by decide +kernel) (Nat.le_of_ble_eq_true rfl) rfl fun p l e s m args below meth c D tyc A ad0 x hr htab hname => ?_
  change JJ _ _ _ _ _ _ _ _ _ _ _ _ _ _ _ _ _ 0 [some (.ref 94), some (.int 14), none, none] [] _ 0 0
  refine j_aload_n x dX6_account_0 rfl ?_
  refine j_iconst (v := 0) x dX6_account_1 (by decide) ?_
  refine j2_puti (k := 19) x hb dX6_account_2 jc_10 wfX6_36 (by decide) rfl rfl rfl rfl ?_
  refine j_iconst (v := 0) x dX6_account_5 (by decide) ?_
  refine j_istore_n x dX6_account_6 (by decide) rfl ?_
  refine j_iload_n x dX6_account_7 rfl ?_
  refine j_tableIn (tgt := 252) x dX6_account_8 (by decide) (by decide) rfl (by decide) ?_
  refine j_aload_n x dX6_account_252 rfl ?_
  refine j2_geti (k := 9) x hb dX6_account_253 jc_10 wfX6_185 (by decide) rfl ?_
  exact j_ireturn x hr dX6_account_256 (by omega) (by omega) ⟨by rw [jm_n (by omega)], rfl⟩
theorem cx_account_bad {d : Nat} {b : SBt} {Y : OUt} {M : MM} (hb : 104 ≤ b.2.1) {t : Int32} (hx : t.toInt < 0 ∨ 14 < t.toInt) : CM (d + 2) 0 0 yX6_account cX6_account 4 (some .int) [.ref 94, .int t] b Y M (.inl (some (.int (0)))) (jrai (jm M 94 19 0) 1) := by
  refine Con.of (by decide +kernel) (Nat.le_of_ble_eq_true rfl) rfl fun p l e s m args below meth c D tyc A ad0 x hr htab hname => ?_
  change JJ _ _ _ _ _ _ _ _ _ _ _ _ _ _ _ _ _ 0 [some (.ref 94), some (.int t), none, none] [] _ 0 0
  refine j_aload_n x dX6_account_0 rfl ?_
  refine j_iconst (v := 0) x dX6_account_1 (by decide) ?_
  refine j2_puti (k := 19) x hb dX6_account_2 jc_10 wfX6_36 (by decide) rfl rfl rfl rfl ?_
  refine j_iconst (v := 0) x dX6_account_5 (by decide) ?_
  refine j_istore_n x dX6_account_6 (by decide) rfl ?_
  refine j_iload_n x dX6_account_7 rfl ?_
  refine j_tableOut (tgt := 257) x dX6_account_8 hx (by decide) ?_
  refine j_aload_n x dX6_account_257 rfl ?_
  refine j_iconst (v := 1) x dX6_account_258 (by decide) ?_
  refine j2_callVi x hb dX6_account_259 m_X6_raises (cx_raises (d := d) hb) wmX6_61 jc_10 rfl rfl rfl (Nat.le_of_ble_eq_true rfl) (j_fit_rm (by omega) (by omega) (by omega)) rfl ?_
  exact j_ireturn x hr dX6_account_262 (by omega) (by omega) ⟨rfl, rfl⟩
theorem cx_undo_0 {d : Nat} {b : SBt} {Y : OUt} {M : MM} (hb : 104 ≤ b.2.1) (h0 : M 94 3 = 0) : CM (d + 1) 0 0 yX6_undo cX6_undo 2 (some .int) [.ref 94] b Y M (.inl (some (.int (0)))) (jrai (jm M 94 19 0) 1) := by
  refine Con.of (by decide +kernel) (Nat.le_of_ble_eq_true rfl) rfl fun p l e s m args below meth c D tyc A ad0 x hr htab hname => ?_
  change JJ _ _ _ _ _ _ _ _ _ _ _ _ _ _ _ _ _ 0 [some (.ref 94), none] [] _ 0 0
  refine j_aload_n x dX6_undo_0 rfl ?_
  refine j_iconst (v := 0) x dX6_undo_1 (by decide) ?_
  refine j2_puti (k := 19) x hb dX6_undo_2 jc_10 wfX6_36 (by decide) rfl rfl rfl rfl ?_
  refine j_aload_n x dX6_undo_5 rfl ?_
  refine j2_geti (k := 3) x hb dX6_undo_6 jc_10 wfX6_42 (by decide) rfl ?_
  refine j_if_ne (tgt := 18) x dX6_undo_9 (by decide) (fun hc => absurd hc (fun q => q (by rw [jm_n (by omega)]; exact h0))) (fun hc => ?_)
  refine j_aload_n x dX6_undo_12 rfl ?_
  refine j_iconst (v := 1) x dX6_undo_13 (by decide) ?_
  refine j2_callVi x hb dX6_undo_14 m_X6_raises (cx_raises (d := d) hb) wmX6_61 jc_10 rfl rfl rfl (Nat.le_of_ble_eq_true rfl) (j_fit_rm (by omega) (by omega) (by omega)) rfl ?_
  exact j_ireturn x hr dX6_undo_17 (by omega) (by omega) ⟨rfl, rfl⟩
theorem cx_restore_0 {d : Nat} {b : SBt} {Y : OUt} {M : MM} (hb : 104 ≤ b.2.1) (h0 : M 94 5 = 0) : CM (d + 1) 0 0 yX6_restore cX6_restore 2 (some .int) [.ref 94] b Y M (.inl (some (.int (0)))) (jrai (jm M 94 19 0) 1) := by
  refine Con.of (by decide +kernel) (Nat.le_of_ble_eq_true rfl) rfl fun p l e s m args below meth c D tyc A ad0 x hr htab hname => ?_
  change JJ _ _ _ _ _ _ _ _ _ _ _ _ _ _ _ _ _ 0 [some (.ref 94), none] [] _ 0 0
  refine j_aload_n x dX6_restore_0 rfl ?_
  refine j_iconst (v := 0) x dX6_restore_1 (by decide) ?_
  refine j2_puti (k := 19) x hb dX6_restore_2 jc_10 wfX6_36 (by decide) rfl rfl rfl rfl ?_
  refine j_aload_n x dX6_restore_5 rfl ?_
  refine j2_geti (k := 5) x hb dX6_restore_6 jc_10 wfX6_224 (by decide) rfl ?_
  refine j_if_ne (tgt := 18) x dX6_restore_9 (by decide) (fun hc => absurd hc (fun q => q (by rw [jm_n (by omega)]; exact h0))) (fun hc => ?_)
  refine j_aload_n x dX6_restore_12 rfl ?_
  refine j_iconst (v := 1) x dX6_restore_13 (by decide) ?_
  refine j2_callVi x hb dX6_restore_14 m_X6_raises (cx_raises (d := d) hb) wmX6_61 jc_10 rfl rfl rfl (Nat.le_of_ble_eq_true rfl) (j_fit_rm (by omega) (by omega) (by omega)) rfl ?_
  exact j_ireturn x hr dX6_restore_17 (by omega) (by omega) ⟨rfl, rfl⟩
theorem cx_save {d : Nat} {b : SBt} {Y : OUt} {M : MM} (hb : 104 ≤ b.2.1)  : CM (d) 0 0 yX6_save cX6_save 2 (some .int) [.ref 94] b Y M (.inl (some (.int (jcp (jm (jm M 94 19 0) 94 5 1) 95 0 98 0 466 95 0)))) (jcp (jm (jm M 94 19 0) 94 5 1) 95 0 98 0 466) := by
  refine Con.of (by decide +kernel) (Nat.le_of_ble_eq_true rfl) rfl fun p l e s m args below meth c D tyc A ad0 x hr htab hname => ?_
  change JJ _ _ _ _ _ _ _ _ _ _ _ _ _ _ _ _ _ 0 [some (.ref 94), none] [] _ 0 0
  refine j_aload_n x dX6_save_0 rfl ?_
  refine j_iconst (v := 0) x dX6_save_1 (by decide) ?_
  refine j2_puti (k := 19) x hb dX6_save_2 jc_10 wfX6_36 (by decide) rfl rfl rfl rfl ?_
  refine j_aload_n x dX6_save_5 rfl ?_
  refine j_iconst (v := 1) x dX6_save_6 (by decide) ?_
  refine j2_puti (k := 5) x hb dX6_save_7 jc_10 wfX6_224 (by decide) rfl rfl rfl rfl ?_
  refine j_iconst (v := 0) x dX6_save_10 (by decide) ?_
  refine j_istore_n x dX6_save_11 (by decide) rfl ?_
  refine j2_cpl 95 0 98 0 466 (fun j => [some (.ref 94), some (.int (nI j))]) (Or.inl (by decide)) rfl (fun j hj M1 hM ih => ?_) ?_
  · refine j_iload_n x dX6_save_12 rfl ?_
    refine j_sipush (v := 466) x dX6_save_13 (by decide) ?_
    refine j_icmp_ge (tgt := 37) x dX6_save_16 (by decide) (fun hc => absurd hc (nI_ge (b := 466) hj (by decide))) (fun hc => ?_)
    refine j_aload_n x dX6_save_19 rfl ?_
    refine j2_getr (k := 4) (r := 98) x hb dX6_save_20 jc_10 wfX6_19 (by decide) rfl ?_
    refine j_iload_n x dX6_save_23 rfl ?_
    refine j_aload_n x dX6_save_24 rfl ?_
    refine j2_getr (k := 0) (r := 95) x hb dX6_save_25 jc_10 wfX6_9 (by decide) rfl ?_
    refine j_iload_n x dX6_save_28 rfl ?_
    refine j2_ialn x hb dX6_save_29 fa_95 (j := j) (vp_in_nI hj (by decide)) (nI_clamp (by omega)) ?_
    refine j2_iasn x hb dX6_save_30 fa_98 (j := j) (vp_in_nI hj (by decide)) (nI_clamp (by omega)) ?_
    refine j_iinc x dX6_save_31 rfl (by decide) rfl ?_
    refine j_goto (tgt := 12) x dX6_save_34 (by decide) ?_
    have h9 := ih
    simp only [Nat.zero_add] at h9
    rw [← nI_1 j] at h9
    exact h9
  refine j_iload_n x dX6_save_12 rfl ?_
  refine j_sipush (v := 466) x dX6_save_13 (by decide) ?_
  refine j_icmp_ge (tgt := 37) x dX6_save_16 (by decide) (fun hc => ?_) (fun hc => absurd (nI_le (Nat.le_refl 466) (by decide)) hc)
  refine j_aload_n x dX6_save_37 rfl ?_
  refine j2_getr (k := 0) (r := 95) x hb dX6_save_38 jc_10 wfX6_9 (by decide) rfl ?_
  refine j_iconst (v := 0) x dX6_save_41 (by decide) ?_
  refine j2_ialn x hb dX6_save_42 fa_95 (j := 0) (vp_c (by decide)) (by decide) ?_
  exact j_ireturn x hr dX6_save_43 (by omega) (by omega) ⟨rfl, rfl⟩
