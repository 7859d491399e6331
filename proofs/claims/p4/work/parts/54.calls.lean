/-! ===== the reference: its changes at any store ===== -/
theorem cx_team_dr {d : Nat} {b : SBt} {Y : OUt} {M : MM} (hb : 104 ≤ b.2.1) {u : Int32} (hx : ¬ u < 0 ∧ ¬ 9 < u) (h1 : ¬ M 95 1 ≤ 0) : CM (d + 2) 0 0 yX6_team cX6_team 3 (some .int) [.ref 94, .int u] b Y M (.inl (some (.int (0)))) (jrai (jrefu (jtr M) 4 0) 1) := by
  refine Con.of (by decide +kernel) (Nat.le_of_ble_eq_true rfl) rfl fun p l e s m args below meth c D tyc A ad0 x hr htab hname => ?_
  change JJ _ _ _ _ _ _ _ _ _ _ _ _ _ _ _ _ _ 0 [some (.ref 94), some (.int u), none] [] _ 0 0
  refine j_aload_n x dX6_team_0 rfl ?_
  refine j2_callVv x hb dX6_team_1 m_X6_tries (cx_tries (d := d) hb) wmX6_76 jc_10 rfl rfl rfl (Nat.le_of_ble_eq_true rfl) (j_fit_rm (by omega) (by omega) (by omega)) rfl ?_
  refine j_iload_n x dX6_team_4 rfl ?_
  refine j_iconst (v := 0) x dX6_team_5 (by decide) ?_
  refine j_bipush (v := 9) x dX6_team_6 (by decide) ?_
  refine j2_callSi x hb dX6_team_8 m_X6_in (CM_v (cx_in (d := d) hb) (jb_t hx)) wmX6_64 rfl (Nat.le_of_ble_eq_true rfl) (j_fit_rm (by omega) (by omega) (by omega)) rfl ?_
  refine j_if_ne (tgt := 25) x dX6_team_11 (by decide) (fun hc => ?_) (fun hc => absurd hc (by decide))
  refine j_aload_n x dX6_team_25 rfl ?_
  refine j2_callVi x hb dX6_team_26 m_X6_isDrawn (CM_v (cx_isDrawn (d := d) hb) (jb_t (by rw [jtr_n (by omega)]; exact h1))) wmX6_87 jc_10 rfl rfl rfl (Nat.le_of_ble_eq_true rfl) (j_fit_rm (by omega) (by omega) (by omega)) rfl ?_
  refine j_if_eq (tgt := 43) x dX6_team_29 (by decide) (fun hc => absurd hc (by decide)) (fun hc => ?_)
  refine j_aload_n x dX6_team_32 rfl ?_
  refine j_aload_n x dX6_team_33 rfl ?_
  refine j_iconst (v := 4) x dX6_team_34 (by decide) ?_
  refine j_iconst (v := 0) x dX6_team_35 (by decide) ?_
  refine j2_callVi x hb dX6_team_36 m_X6_refuses (cx_refuses (d := d) hb) wmX6_79 jc_10 rfl rfl rfl (Nat.le_of_ble_eq_true rfl) (j_fit_rm (by omega) (by omega) (by omega)) rfl ?_
  refine j2_callVi x hb dX6_team_39 m_X6_ends (cx_ends_0 (d := d) hb) wmX6_83 jc_10 rfl rfl rfl (Nat.le_of_ble_eq_true rfl) (j_fit_rm (by omega) (by omega) (by omega)) rfl ?_
  exact j_ireturn x hr dX6_team_42 (by omega) (by omega) ⟨rfl, rfl⟩
theorem cx_team_full {d : Nat} {b : SBt} {Y : OUt} {M : MM} (hb : 104 ≤ b.2.1) {u : Int32} (hx : ¬ u < 0 ∧ ¬ 9 < u) (h1 : M 95 1 ≤ 0) (h0 : M 95 0 = 8) : CM (d + 2) 0 0 yX6_team cX6_team 3 (some .int) [.ref 94, .int u] b Y M (.inl (some (.int (0)))) (jrai (jrefu (jtr M) 2 8) 1) := by
  refine Con.of (by decide +kernel) (Nat.le_of_ble_eq_true rfl) rfl fun p l e s m args below meth c D tyc A ad0 x hr htab hname => ?_
  change JJ _ _ _ _ _ _ _ _ _ _ _ _ _ _ _ _ _ 0 [some (.ref 94), some (.int u), none] [] _ 0 0
  refine j_aload_n x dX6_team_0 rfl ?_
  refine j2_callVv x hb dX6_team_1 m_X6_tries (cx_tries (d := d) hb) wmX6_76 jc_10 rfl rfl rfl (Nat.le_of_ble_eq_true rfl) (j_fit_rm (by omega) (by omega) (by omega)) rfl ?_
  refine j_iload_n x dX6_team_4 rfl ?_
  refine j_iconst (v := 0) x dX6_team_5 (by decide) ?_
  refine j_bipush (v := 9) x dX6_team_6 (by decide) ?_
  refine j2_callSi x hb dX6_team_8 m_X6_in (CM_v (cx_in (d := d) hb) (jb_t hx)) wmX6_64 rfl (Nat.le_of_ble_eq_true rfl) (j_fit_rm (by omega) (by omega) (by omega)) rfl ?_
  refine j_if_ne (tgt := 25) x dX6_team_11 (by decide) (fun hc => ?_) (fun hc => absurd hc (by decide))
  refine j_aload_n x dX6_team_25 rfl ?_
  refine j2_callVi x hb dX6_team_26 m_X6_isDrawn (CM_v (cx_isDrawn (d := d) hb) (jb_f (fun z => z (by rw [jtr_n (by omega)]; exact h1)))) wmX6_87 jc_10 rfl rfl rfl (Nat.le_of_ble_eq_true rfl) (j_fit_rm (by omega) (by omega) (by omega)) rfl ?_
  refine j_if_eq (tgt := 43) x dX6_team_29 (by decide) (fun hc => ?_) (fun hc => absurd (rfl) hc)
  refine j_aload_n x dX6_team_43 rfl ?_
  refine j2_getr (k := 0) (r := 95) x hb dX6_team_44 jc_10 wfX6_9 (by decide) rfl ?_
  refine j_iconst (v := 0) x dX6_team_47 (by decide) ?_
  refine j2_ialn x hb dX6_team_48 fa_95 (j := 0) (vp_c (by decide)) (by decide) ?_
  refine j_istore_n x dX6_team_49 (by decide) rfl ?_
  refine j_iload_n x dX6_team_50 rfl ?_
  refine j_bipush (v := 8) x dX6_team_51 (by decide) ?_
  refine j_icmp_ne (tgt := 68) x dX6_team_53 (by decide) (fun hc => absurd hc (fun z => z (by rw [jtr_n (by omega)]; exact h0))) (fun hc => ?_)
  refine j_aload_n x dX6_team_56 rfl ?_
  refine j_aload_n x dX6_team_57 rfl ?_
  refine j_iconst (v := 2) x dX6_team_58 (by decide) ?_
  refine j_bipush (v := 8) x dX6_team_59 (by decide) ?_
  refine j2_callVi x hb dX6_team_61 m_X6_refuses (cx_refuses (d := d) hb) wmX6_79 jc_10 rfl rfl rfl (Nat.le_of_ble_eq_true rfl) (j_fit_rm (by omega) (by omega) (by omega)) rfl ?_
  refine j2_callVi x hb dX6_team_64 m_X6_ends (cx_ends_0 (d := d) hb) wmX6_83 jc_10 rfl rfl rfl (Nat.le_of_ble_eq_true rfl) (j_fit_rm (by omega) (by omega) (by omega)) rfl ?_
  exact j_ireturn x hr dX6_team_67 (by omega) (by omega) ⟨rfl, rfl⟩
def gTeam (M : MM) (t : Nat) (u : Int32) : MM := jm (jm (jtr M) 95 0 (nI (t + 1))) 95 (10 + t) u
theorem cx_team_G {d : Nat} {b : SBt} {Y : OUt} {M : MM} (hb : 104 ≤ b.2.1) {u : Int32} {t : Nat} (hx : ¬ u < 0 ∧ ¬ 9 < u) (h1 : M 95 1 ≤ 0) (h0 : M 95 0 = nI t) (ht : t < 8) {k : Nat} (hk : k ≤ 8) (h3 : M 94 3 = nI k) : CM (d + 2) 0 0 yX6_team cX6_team 3 (some .int) [.ref 94, .int u] b Y M (.inl (some (.int (nI t)))) (jkpg (gTeam M t u) k) := by
  refine Con.of (by decide +kernel) (Nat.le_of_ble_eq_true rfl) rfl fun p l e s m args below meth c D tyc A ad0 x hr htab hname => ?_
  change JJ _ _ _ _ _ _ _ _ _ _ _ _ _ _ _ _ _ 0 [some (.ref 94), some (.int u), none] [] _ 0 0
  refine j_aload_n x dX6_team_0 rfl ?_
  refine j2_callVv x hb dX6_team_1 m_X6_tries (cx_tries (d := d) hb) wmX6_76 jc_10 rfl rfl rfl (Nat.le_of_ble_eq_true rfl) (j_fit_rm (by omega) (by omega) (by omega)) rfl ?_
  refine j_iload_n x dX6_team_4 rfl ?_
  refine j_iconst (v := 0) x dX6_team_5 (by decide) ?_
  refine j_bipush (v := 9) x dX6_team_6 (by decide) ?_
  refine j2_callSi x hb dX6_team_8 m_X6_in (CM_v (cx_in (d := d) hb) (jb_t hx)) wmX6_64 rfl (Nat.le_of_ble_eq_true rfl) (j_fit_rm (by omega) (by omega) (by omega)) rfl ?_
  refine j_if_ne (tgt := 25) x dX6_team_11 (by decide) (fun hc => ?_) (fun hc => absurd hc (by decide))
  refine j_aload_n x dX6_team_25 rfl ?_
  refine j2_callVi x hb dX6_team_26 m_X6_isDrawn (CM_v (cx_isDrawn (d := d) hb) (jb_f (fun z => z (by rw [jtr_n (by omega)]; exact h1)))) wmX6_87 jc_10 rfl rfl rfl (Nat.le_of_ble_eq_true rfl) (j_fit_rm (by omega) (by omega) (by omega)) rfl ?_
  refine j_if_eq (tgt := 43) x dX6_team_29 (by decide) (fun hc => ?_) (fun hc => absurd (rfl) hc)
  refine j_aload_n x dX6_team_43 rfl ?_
  refine j2_getr (k := 0) (r := 95) x hb dX6_team_44 jc_10 wfX6_9 (by decide) rfl ?_
  refine j_iconst (v := 0) x dX6_team_47 (by decide) ?_
  refine j2_ialn x hb dX6_team_48 fa_95 (j := 0) (vp_c (by decide)) (by decide) ?_
  rw [jtr_n (by omega), h0]; refine j_istore_n x dX6_team_49 (by decide) rfl ?_
  refine j_iload_n x dX6_team_50 rfl ?_
  refine j_bipush (v := 8) x dX6_team_51 (by decide) ?_
  refine j_icmp_ne (tgt := 68) x dX6_team_53 (by decide) (fun hc => ?_) (fun hc => absurd hc (fun z => absurd ((nI_eq (by omega) (by decide)).mp (show nI t = nI 8 from z)) (by omega)))
  refine j_aload_n x dX6_team_68 rfl ?_
  refine j2_getr (k := 0) (r := 95) x hb dX6_team_69 jc_10 wfX6_9 (by decide) rfl ?_
  refine j_iconst (v := 0) x dX6_team_72 (by decide) ?_
  refine j_dup2 x dX6_team_73 rfl rfl ?_
  refine j2_ialn x hb dX6_team_74 fa_95 (j := 0) (vp_c (by decide)) (by decide) ?_
  refine j_iconst (v := 1) x dX6_team_75 (by decide) ?_
  refine j_iadd x dX6_team_76 ?_
  refine j2_iasn x hb dX6_team_77 fa_95 (j := 0) (vp_c (by decide)) (by decide) ?_
  rw [jtr_n (by omega), h0, nI_1]; refine j_aload_n x dX6_team_78 rfl ?_
  refine j2_getr (k := 0) (r := 95) x hb dX6_team_79 jc_10 wfX6_9 (by decide) rfl ?_
  refine j_bipush (v := 10) x dX6_team_82 (by decide) ?_
  refine j_iload_n x dX6_team_84 rfl ?_
  refine j_iadd x dX6_team_85 ?_
  refine j_iload_n x dX6_team_86 rfl ?_
  refine j2_iasn x hb dX6_team_87 fa_95 (j := 10 + t) (by rw [show (10 : Int32) + nI t = nI (10 + t) from nI_add 10 t]; exact vp_in_nI (by omega) (by decide)) (by rw [show (10 : Int32) + nI t = nI (10 + t) from nI_add 10 t]; exact nI_clamp (by omega)) ?_
  refine j_aload_n x dX6_team_88 rfl ?_
  refine j_iload_n x dX6_team_89 rfl ?_
  refine j2_callVi x hb dX6_team_90 m_X6_keeps (cx_keepsG (d := d) hb hk (by rw [jm_n (by omega), jm_n (by omega), jtr_f (by omega) (by omega)]; exact h3)) wmX6_57 jc_10 rfl rfl rfl (Nat.le_of_ble_eq_true rfl) (j_fit_rm (by omega) (by omega) (by omega)) rfl ?_
  exact j_ireturn x hr dX6_team_93 (by omega) (by omega) ⟨rfl, rfl⟩
theorem cx_ground_nt {d : Nat} {b : SBt} {Y : OUt} {M : MM} (hb : 104 ≤ b.2.1) {t u : Int32} (hT : ¬ (¬ t < 0 ∧ ¬ M 95 0 - 1 < t)) : CM (d + 2) 0 0 yX6_ground cX6_ground 4 (some .int) [.ref 94, .int t, .int u] b Y M (.inl (some (.int (0)))) (jrai (jrefu (jtr M) 3 t) 1) := by
  refine Con.of (by decide +kernel) (Nat.le_of_ble_eq_true rfl) rfl fun p l e s m args below meth c D tyc A ad0 x hr htab hname => ?_
  change JJ _ _ _ _ _ _ _ _ _ _ _ _ _ _ _ _ _ 0 [some (.ref 94), some (.int t), some (.int u), none] [] _ 0 0
  refine j_aload_n x dX6_ground_0 rfl ?_
  refine j2_callVv x hb dX6_ground_1 m_X6_tries (cx_tries (d := d) hb) wmX6_76 jc_10 rfl rfl rfl (Nat.le_of_ble_eq_true rfl) (j_fit_rm (by omega) (by omega) (by omega)) rfl ?_
  refine j_aload_n x dX6_ground_4 rfl ?_
  refine j_iload_n x dX6_ground_5 rfl ?_
  refine j2_callVi x hb dX6_ground_6 m_X6_isTeam (CM_v (cx_isTeam (d := d) hb) (jb_f (by rw [jtr_n (by omega)]; exact hT))) wmX6_91 jc_10 rfl rfl rfl (Nat.le_of_ble_eq_true rfl) (j_fit_rm (by omega) (by omega) (by omega)) rfl ?_
  refine j_if_ne (tgt := 23) x dX6_ground_9 (by decide) (fun hc => absurd hc (fun q => q rfl)) (fun hc => ?_)
  refine j_aload_n x dX6_ground_12 rfl ?_
  refine j_aload_n x dX6_ground_13 rfl ?_
  refine j_iconst (v := 3) x dX6_ground_14 (by decide) ?_
  refine j_iload_n x dX6_ground_15 rfl ?_
  refine j2_callVi x hb dX6_ground_16 m_X6_refuses (cx_refuses (d := d) hb) wmX6_79 jc_10 rfl rfl rfl (Nat.le_of_ble_eq_true rfl) (j_fit_rm (by omega) (by omega) (by omega)) rfl ?_
  refine j2_callVi x hb dX6_ground_19 m_X6_ends (cx_ends_0 (d := d) hb) wmX6_83 jc_10 rfl rfl rfl (Nat.le_of_ble_eq_true rfl) (j_fit_rm (by omega) (by omega) (by omega)) rfl ?_
  exact j_ireturn x hr dX6_ground_22 (by omega) (by omega) ⟨rfl, rfl⟩
theorem cx_ground_bad {d : Nat} {b : SBt} {Y : OUt} {M : MM} (hb : 104 ≤ b.2.1) {u : Int32} {w t1 : Nat} (hw : w ≤ 8) (h0 : M 95 0 = nI w) (ht : t1 < w) (hx : ¬ (¬ u < 0 ∧ ¬ 9 < u)) : CM (d + 2) 0 0 yX6_ground cX6_ground 4 (some .int) [.ref 94, .int (nI t1), .int u] b Y M (.inl (some (.int (0)))) (jrai (jrefu (jtr M) 1 0) 1) := by
  refine Con.of (by decide +kernel) (Nat.le_of_ble_eq_true rfl) rfl fun p l e s m args below meth c D tyc A ad0 x hr htab hname => ?_
  change JJ _ _ _ _ _ _ _ _ _ _ _ _ _ _ _ _ _ 0 [some (.ref 94), some (.int (nI t1)), some (.int u), none] [] _ 0 0
  refine j_aload_n x dX6_ground_0 rfl ?_
  refine j2_callVv x hb dX6_ground_1 m_X6_tries (cx_tries (d := d) hb) wmX6_76 jc_10 rfl rfl rfl (Nat.le_of_ble_eq_true rfl) (j_fit_rm (by omega) (by omega) (by omega)) rfl ?_
  refine j_aload_n x dX6_ground_4 rfl ?_
  refine j_iload_n x dX6_ground_5 rfl ?_
  refine j2_callVi x hb dX6_ground_6 m_X6_isTeam (CM_v (cx_isTeam (d := d) hb) (jb_t ⟨nI_pos (by omega), by rw [jtr_n (by omega), h0, show (nI w - 1 : Int32) = nI (w - 1) from nI_sub (d := 1) (by omega)]; exact nI_nlt (by omega) (by omega)⟩)) wmX6_91 jc_10 rfl rfl rfl (Nat.le_of_ble_eq_true rfl) (j_fit_rm (by omega) (by omega) (by omega)) rfl ?_
  refine j_if_ne (tgt := 23) x dX6_ground_9 (by decide) (fun hc => ?_) (fun hc => absurd hc (by decide))
  refine j_iload_n x dX6_ground_23 rfl ?_
  refine j_iconst (v := 0) x dX6_ground_24 (by decide) ?_
  refine j_bipush (v := 9) x dX6_ground_25 (by decide) ?_
  refine j2_callSi x hb dX6_ground_27 m_X6_in (CM_v (cx_in (d := d) hb) (jb_f hx)) wmX6_64 rfl (Nat.le_of_ble_eq_true rfl) (j_fit_rm (by omega) (by omega) (by omega)) rfl ?_
  refine j_if_ne (tgt := 44) x dX6_ground_30 (by decide) (fun hc => absurd hc (fun q => q rfl)) (fun hc => ?_)
  refine j_aload_n x dX6_ground_33 rfl ?_
  refine j_aload_n x dX6_ground_34 rfl ?_
  refine j_iconst (v := 1) x dX6_ground_35 (by decide) ?_
  refine j_iconst (v := 0) x dX6_ground_36 (by decide) ?_
  refine j2_callVi x hb dX6_ground_37 m_X6_refuses (cx_refuses (d := d) hb) wmX6_79 jc_10 rfl rfl rfl (Nat.le_of_ble_eq_true rfl) (j_fit_rm (by omega) (by omega) (by omega)) rfl ?_
  refine j2_callVi x hb dX6_ground_40 m_X6_ends (cx_ends_0 (d := d) hb) wmX6_83 jc_10 rfl rfl rfl (Nat.le_of_ble_eq_true rfl) (j_fit_rm (by omega) (by omega) (by omega)) rfl ?_
  exact j_ireturn x hr dX6_ground_43 (by omega) (by omega) ⟨rfl, rfl⟩
def gGround (M : MM) (t : Nat) (u : Int32) : MM := jm (jtr M) 95 (10 + t) u
theorem cx_ground_G {d : Nat} {b : SBt} {Y : OUt} {M : MM} (hb : 104 ≤ b.2.1) {u : Int32} {w t1 : Nat} (hw : w ≤ 8) (h0 : M 95 0 = nI w) (ht : t1 < w) (hx : ¬ u < 0 ∧ ¬ 9 < u) {k : Nat} (hk : k ≤ 8) (h3 : M 94 3 = nI k) : CM (d + 2) 0 0 yX6_ground cX6_ground 4 (some .int) [.ref 94, .int (nI t1), .int u] b Y M (.inl (some (.int (M 95 (10 + t1))))) (jkpg (gGround M t1 u) k) := by
  refine Con.of (by decide +kernel) (Nat.le_of_ble_eq_true rfl) rfl fun p l e s m args below meth c D tyc A ad0 x hr htab hname => ?_
  change JJ _ _ _ _ _ _ _ _ _ _ _ _ _ _ _ _ _ 0 [some (.ref 94), some (.int (nI t1)), some (.int u), none] [] _ 0 0
  refine j_aload_n x dX6_ground_0 rfl ?_
  refine j2_callVv x hb dX6_ground_1 m_X6_tries (cx_tries (d := d) hb) wmX6_76 jc_10 rfl rfl rfl (Nat.le_of_ble_eq_true rfl) (j_fit_rm (by omega) (by omega) (by omega)) rfl ?_
  refine j_aload_n x dX6_ground_4 rfl ?_
  refine j_iload_n x dX6_ground_5 rfl ?_
  refine j2_callVi x hb dX6_ground_6 m_X6_isTeam (CM_v (cx_isTeam (d := d) hb) (jb_t ⟨nI_pos (by omega), by rw [jtr_n (by omega), h0, show (nI w - 1 : Int32) = nI (w - 1) from nI_sub (d := 1) (by omega)]; exact nI_nlt (by omega) (by omega)⟩)) wmX6_91 jc_10 rfl rfl rfl (Nat.le_of_ble_eq_true rfl) (j_fit_rm (by omega) (by omega) (by omega)) rfl ?_
  refine j_if_ne (tgt := 23) x dX6_ground_9 (by decide) (fun hc => ?_) (fun hc => absurd hc (by decide))
  refine j_iload_n x dX6_ground_23 rfl ?_
  refine j_iconst (v := 0) x dX6_ground_24 (by decide) ?_
  refine j_bipush (v := 9) x dX6_ground_25 (by decide) ?_
  refine j2_callSi x hb dX6_ground_27 m_X6_in (CM_v (cx_in (d := d) hb) (jb_t hx)) wmX6_64 rfl (Nat.le_of_ble_eq_true rfl) (j_fit_rm (by omega) (by omega) (by omega)) rfl ?_
  refine j_if_ne (tgt := 44) x dX6_ground_30 (by decide) (fun hc => ?_) (fun hc => absurd hc (by decide))
  refine j_aload_n x dX6_ground_44 rfl ?_
  refine j2_getr (k := 0) (r := 95) x hb dX6_ground_45 jc_10 wfX6_9 (by decide) rfl ?_
  refine j_bipush (v := 10) x dX6_ground_48 (by decide) ?_
  refine j_iload_n x dX6_ground_50 rfl ?_
  refine j_iadd x dX6_ground_51 ?_
  refine j2_ialn x hb dX6_ground_52 fa_95 (j := 10 + t1) (by rw [show (10 : Int32) + nI t1 = nI (10 + t1) from nI_add 10 t1]; exact vp_in_nI (by omega) (by decide)) (by rw [show (10 : Int32) + nI t1 = nI (10 + t1) from nI_add 10 t1]; exact nI_clamp (by omega)) ?_
  rw [jtr_n (by omega)]; refine j_istore_n x dX6_ground_53 (by decide) rfl ?_
  refine j_aload_n x dX6_ground_54 rfl ?_
  refine j2_getr (k := 0) (r := 95) x hb dX6_ground_55 jc_10 wfX6_9 (by decide) rfl ?_
  refine j_bipush (v := 10) x dX6_ground_58 (by decide) ?_
  refine j_iload_n x dX6_ground_60 rfl ?_
  refine j_iadd x dX6_ground_61 ?_
  refine j_iload_n x dX6_ground_62 rfl ?_
  refine j2_iasn x hb dX6_ground_63 fa_95 (j := 10 + t1) (by rw [show (10 : Int32) + nI t1 = nI (10 + t1) from nI_add 10 t1]; exact vp_in_nI (by omega) (by decide)) (by rw [show (10 : Int32) + nI t1 = nI (10 + t1) from nI_add 10 t1]; exact nI_clamp (by omega)) ?_
  refine j_aload_n x dX6_ground_64 rfl ?_
  refine j_iload_n x dX6_ground_65 rfl ?_
  refine j2_callVi x hb dX6_ground_66 m_X6_keeps (cx_keepsG (d := d) hb hk (by rw [jm_n (by omega), jtr_f (by omega) (by omega)]; exact h3)) wmX6_57 jc_10 rfl rfl rfl (Nat.le_of_ble_eq_true rfl) (j_fit_rm (by omega) (by omega) (by omega)) rfl ?_
  exact j_ireturn x hr dX6_ground_69 (by omega) (by omega) ⟨rfl, rfl⟩
theorem cx_give_pl {d : Nat} {b : SBt} {Y : OUt} {M : MM} (hb : 104 ≤ b.2.1) {t u : Int32} (hx : (¬ t < 1 ∧ ¬ 5 < t) ∧ (¬ u < 0 ∧ ¬ 3 < u)) {n : Nat} (hn : n ≤ 56) (hct : M 95 9 = nI n) (hp : ¬ jsum (fun m => jof (jtr M) m 4) n ≤ 0) : CM (d + 2) 0 0 yX6_give cX6_give 4 (some .int) [.ref 94, .int t, .int u] b Y M (.inl (some (.int (0)))) (jrai (jrefu (jtr M) 12 (jsum (fun m => jof (jtr M) m 4) n)) 1) := by
  refine Con.of (by decide +kernel) (Nat.le_of_ble_eq_true rfl) rfl fun p l e s m args below meth c D tyc A ad0 x hr htab hname => ?_
  change JJ _ _ _ _ _ _ _ _ _ _ _ _ _ _ _ _ _ 0 [some (.ref 94), some (.int t), some (.int u), none] [] _ 0 0
  refine j_aload_n x dX6_give_0 rfl ?_
  refine j2_callVv x hb dX6_give_1 m_X6_tries (cx_tries (d := d) hb) wmX6_76 jc_10 rfl rfl rfl (Nat.le_of_ble_eq_true rfl) (j_fit_rm (by omega) (by omega) (by omega)) rfl ?_
  refine j_iload_n x dX6_give_4 rfl ?_
  refine j_iconst (v := 1) x dX6_give_5 (by decide) ?_
  refine j_iconst (v := 5) x dX6_give_6 (by decide) ?_
  refine j2_callSi x hb dX6_give_7 m_X6_in (CM_v (cx_in (d := d) hb) (jb_t hx.1)) wmX6_64 rfl (Nat.le_of_ble_eq_true rfl) (j_fit_rm (by omega) (by omega) (by omega)) rfl ?_
  refine j_if_eq (tgt := 22) x dX6_give_10 (by decide) (fun hc => absurd hc (by decide)) (fun hc => ?_)
  refine j_iload_n x dX6_give_13 rfl ?_
  refine j_iconst (v := 0) x dX6_give_14 (by decide) ?_
  refine j_iconst (v := 3) x dX6_give_15 (by decide) ?_
  refine j2_callSi x hb dX6_give_16 m_X6_in (CM_v (cx_in (d := d) hb) (jb_t hx.2)) wmX6_64 rfl (Nat.le_of_ble_eq_true rfl) (j_fit_rm (by omega) (by omega) (by omega)) rfl ?_
  refine j_if_ne (tgt := 33) x dX6_give_19 (by decide) (fun hc => ?_) (fun hc => absurd hc (by decide))
  refine j_aload_n x dX6_give_33 rfl ?_
  refine j2_callVi x hb dX6_give_34 m_X6_played (cx_played (d := d) hb hn (by rw [jtr_n (by omega)]; exact hct)) wmX6_113 jc_10 rfl rfl rfl (Nat.le_of_ble_eq_true rfl) (j_fit_rm (by omega) (by omega) (by omega)) rfl ?_
  refine j_if_le (tgt := 55) x dX6_give_37 (by decide) (fun hc => absurd hc (hp)) (fun hc => ?_)
  refine j_aload_n x dX6_give_40 rfl ?_
  refine j_aload_n x dX6_give_41 rfl ?_
  refine j_bipush (v := 12) x dX6_give_42 (by decide) ?_
  refine j_aload_n x dX6_give_44 rfl ?_
  refine j2_callVi x hb dX6_give_45 m_X6_played (cx_played (d := d) hb hn (by rw [jtr_n (by omega)]; exact hct)) wmX6_113 jc_10 rfl rfl rfl (Nat.le_of_ble_eq_true rfl) (j_fit_rm (by omega) (by omega) (by omega)) rfl ?_
  refine j2_callVi x hb dX6_give_48 m_X6_refuses (cx_refuses (d := d) hb) wmX6_79 jc_10 rfl rfl rfl (Nat.le_of_ble_eq_true rfl) (j_fit_rm (by omega) (by omega) (by omega)) rfl ?_
  refine j2_callVi x hb dX6_give_51 m_X6_ends (cx_ends_0 (d := d) hb) wmX6_83 jc_10 rfl rfl rfl (Nat.le_of_ble_eq_true rfl) (j_fit_rm (by omega) (by omega) (by omega)) rfl ?_
  exact j_ireturn x hr dX6_give_54 (by omega) (by omega) ⟨rfl, rfl⟩
def gGive (M : MM) (t u : Int32) : MM := jm (jm (jtr M) 95 3 t) 95 4 u
theorem cx_give_G {d : Nat} {b : SBt} {Y : OUt} {M : MM} (hb : 104 ≤ b.2.1) {t u : Int32} (hx : (¬ t < 1 ∧ ¬ 5 < t) ∧ (¬ u < 0 ∧ ¬ 3 < u)) {n : Nat} (hn : n ≤ 56) (hct : M 95 9 = nI n) (hp : jsum (fun m => jof (jtr M) m 4) n ≤ 0) {k : Nat} (hk : k ≤ 8) (h3 : M 94 3 = nI k) : CM (d + 2) 0 0 yX6_give cX6_give 4 (some .int) [.ref 94, .int t, .int u] b Y M (.inl (some (.int (10 * M 95 3 + M 95 4)))) (jkpg (gGive M t u) k) := by
  refine Con.of (by decide +kernel) (Nat.le_of_ble_eq_true rfl) rfl fun p l e s m args below meth c D tyc A ad0 x hr htab hname => ?_
  change JJ _ _ _ _ _ _ _ _ _ _ _ _ _ _ _ _ _ 0 [some (.ref 94), some (.int t), some (.int u), none] [] _ 0 0
  refine j_aload_n x dX6_give_0 rfl ?_
  refine j2_callVv x hb dX6_give_1 m_X6_tries (cx_tries (d := d) hb) wmX6_76 jc_10 rfl rfl rfl (Nat.le_of_ble_eq_true rfl) (j_fit_rm (by omega) (by omega) (by omega)) rfl ?_
  refine j_iload_n x dX6_give_4 rfl ?_
  refine j_iconst (v := 1) x dX6_give_5 (by decide) ?_
  refine j_iconst (v := 5) x dX6_give_6 (by decide) ?_
  refine j2_callSi x hb dX6_give_7 m_X6_in (CM_v (cx_in (d := d) hb) (jb_t hx.1)) wmX6_64 rfl (Nat.le_of_ble_eq_true rfl) (j_fit_rm (by omega) (by omega) (by omega)) rfl ?_
  refine j_if_eq (tgt := 22) x dX6_give_10 (by decide) (fun hc => absurd hc (by decide)) (fun hc => ?_)
  refine j_iload_n x dX6_give_13 rfl ?_
  refine j_iconst (v := 0) x dX6_give_14 (by decide) ?_
  refine j_iconst (v := 3) x dX6_give_15 (by decide) ?_
  refine j2_callSi x hb dX6_give_16 m_X6_in (CM_v (cx_in (d := d) hb) (jb_t hx.2)) wmX6_64 rfl (Nat.le_of_ble_eq_true rfl) (j_fit_rm (by omega) (by omega) (by omega)) rfl ?_
  refine j_if_ne (tgt := 33) x dX6_give_19 (by decide) (fun hc => ?_) (fun hc => absurd hc (by decide))
  refine j_aload_n x dX6_give_33 rfl ?_
  refine j2_callVi x hb dX6_give_34 m_X6_played (cx_played (d := d) hb hn (by rw [jtr_n (by omega)]; exact hct)) wmX6_113 jc_10 rfl rfl rfl (Nat.le_of_ble_eq_true rfl) (j_fit_rm (by omega) (by omega) (by omega)) rfl ?_
  refine j_if_le (tgt := 55) x dX6_give_37 (by decide) (fun hc => ?_) (fun hc => absurd (hp) hc)
  refine j_bipush (v := 10) x dX6_give_55 (by decide) ?_
  refine j_aload_n x dX6_give_57 rfl ?_
  refine j2_getr (k := 0) (r := 95) x hb dX6_give_58 jc_10 wfX6_9 (by decide) rfl ?_
  refine j_iconst (v := 3) x dX6_give_61 (by decide) ?_
  refine j2_ialn x hb dX6_give_62 fa_95 (j := 3) (vp_c (by decide)) (by decide) ?_; rw [jtr_n (by omega)]
  refine j_imul x dX6_give_63 ?_
  refine j_aload_n x dX6_give_64 rfl ?_
  refine j2_getr (k := 0) (r := 95) x hb dX6_give_65 jc_10 wfX6_9 (by decide) rfl ?_
  refine j_iconst (v := 4) x dX6_give_68 (by decide) ?_
  refine j2_ialn x hb dX6_give_69 fa_95 (j := 4) (vp_c (by decide)) (by decide) ?_; rw [jtr_n (by omega)]
  refine j_iadd x dX6_give_70 ?_
  refine j_istore_n x dX6_give_71 (by decide) rfl ?_
  refine j_aload_n x dX6_give_72 rfl ?_
  refine j2_getr (k := 0) (r := 95) x hb dX6_give_73 jc_10 wfX6_9 (by decide) rfl ?_
  refine j_iconst (v := 3) x dX6_give_76 (by decide) ?_
  refine j_iload_n x dX6_give_77 rfl ?_
  refine j2_iasn x hb dX6_give_78 fa_95 (j := 3) (vp_c (by decide)) (by decide) ?_
  refine j_aload_n x dX6_give_79 rfl ?_
  refine j2_getr (k := 0) (r := 95) x hb dX6_give_80 jc_10 wfX6_9 (by decide) rfl ?_
  refine j_iconst (v := 4) x dX6_give_83 (by decide) ?_
  refine j_iload_n x dX6_give_84 rfl ?_
  refine j2_iasn x hb dX6_give_85 fa_95 (j := 4) (vp_c (by decide)) (by decide) ?_
  refine j_aload_n x dX6_give_86 rfl ?_
  refine j_iload_n x dX6_give_87 rfl ?_
  refine j2_callVi x hb dX6_give_88 m_X6_keeps (cx_keepsG (d := d) hb hk (by rw [jm_n (by omega), jm_n (by omega), jtr_f (by omega) (by omega)]; exact h3)) wmX6_57 jc_10 rfl rfl rfl (Nat.le_of_ble_eq_true rfl) (j_fit_rm (by omega) (by omega) (by omega)) rfl ?_
  exact j_ireturn x hr dX6_give_91 (by omega) (by omega) ⟨rfl, rfl⟩
theorem cx_rules_G {d : Nat} {b : SBt} {Y : OUt} {M : MM} (hb : 104 ≤ b.2.1) {t u v : Int32} (h : rRules t u v = none) {k : Nat} (hk : k ≤ 8) (h3 : M 94 3 = nI k) : CM (d + 2) 0 0 yX6_rules cX6_rules 4 (some .int) [.ref 94, .int t, .int u, .int v] b Y M (.inl (some (.int (jxR (jtr M) t u v 95 5)))) (jkpg (jm (jxR (jtr M) t u v) 94 18 (jxR (jtr M) t u v 95 5)) k) := by
  refine Con.of (by decide +kernel) (Nat.le_of_ble_eq_true rfl) rfl fun p l e s m args below meth c D tyc A ad0 x hr htab hname => ?_
  change JJ _ _ _ _ _ _ _ _ _ _ _ _ _ _ _ _ _ 0 [some (.ref 94), some (.int t), some (.int u), some (.int v)] [] _ 0 0
  refine j_aload_n x dX6_rules_0 rfl ?_
  refine j2_callVv x hb dX6_rules_1 m_X6_tries (cx_tries (d := d) hb) wmX6_76 jc_10 rfl rfl rfl (Nat.le_of_ble_eq_true rfl) (j_fit_rm (by omega) (by omega) (by omega)) rfl ?_
  refine j_aload_n x dX6_rules_4 rfl ?_
  refine j_aload_n x dX6_rules_5 rfl ?_
  refine j_iload_n x dX6_rules_6 rfl ?_
  refine j_iload_n x dX6_rules_7 rfl ?_
  refine j_iload_n x dX6_rules_8 rfl ?_
  refine j2_callVi x hb dX6_rules_9 m_X6_takesRules (show CM _ 0 0 _ _ _ _ _ b Y (jtr M) (.inl (some (.int 1))) (jm (jxR (jtr M) t u v) 94 18 (jxR (jtr M) t u v 95 5)) from by have q := cx_takesRules (d := d) (Y := Y) (M := jtr M) hb (t := t) (u := u) (v := v); rw [h] at q; exact q) wmX6_119 jc_10 rfl rfl rfl (Nat.le_of_ble_eq_true rfl) (j_fit_rm (by omega) (by omega) (by omega)) rfl ?_
  refine j2_callVi x hb dX6_rules_12 m_X6_ends (CM_v (cx_ends_G (d := d) hb hk (by rw [jm_n (by omega), x_R, jtr_f (by omega) (by omega)]; exact h3)) jm_s) wmX6_83 jc_10 rfl rfl rfl (Nat.le_of_ble_eq_true rfl) (j_fit_rm (by omega) (by omega) (by omega)) rfl ?_
  exact j_ireturn x hr dX6_rules_15 (by omega) (by omega) ⟨rfl, rfl⟩
theorem cx_result_nm {d : Nat} {b : SBt} {Y : OUt} {M : MM} (hb : 104 ≤ b.2.1) {u v : Int32} {t : Int32} (hm : ¬ (¬ t < 0 ∧ ¬ M 95 9 - 1 < t)) (hd : ¬ M 95 1 ≤ 0) : CM (d + 3) 0 0 yX6_result cX6_result 4 (some .int) [.ref 94, .int t, .int u, .int v] b Y M (.inl (some (.int (0)))) (jrai (jrefu (jtr M) 3 t) 1) := by
  refine Con.of (by decide +kernel) (Nat.le_of_ble_eq_true rfl) rfl fun p l e s m args below meth c D tyc A ad0 x hr htab hname => ?_
  change JJ _ _ _ _ _ _ _ _ _ _ _ _ _ _ _ _ _ 0 [some (.ref 94), some (.int t), some (.int u), some (.int v)] [] _ 0 0
  refine j_aload_n x dX6_result_0 rfl ?_
  refine j2_callVv x hb dX6_result_1 m_X6_tries (cx_tries (d := d) hb) wmX6_76 jc_10 rfl rfl rfl (Nat.le_of_ble_eq_true rfl) (j_fit_rm (by omega) (by omega) (by omega)) rfl ?_
  refine j_aload_n x dX6_result_4 rfl ?_
  refine j_aload_n x dX6_result_5 rfl ?_
  refine j_iload_n x dX6_result_6 rfl ?_
  refine j_iload_n x dX6_result_7 rfl ?_
  refine j_iload_n x dX6_result_8 rfl ?_
  refine j2_callVi x hb dX6_result_9 m_X6_results (cx_results_nm (d := d) hb (by rw [jtr_n (by omega)]; exact hm) (by rw [jtr_n (by omega)]; exact hd)) wmX6_128 jc_10 rfl rfl rfl (Nat.le_of_ble_eq_true rfl) (j_fit_rm (by omega) (by omega) (by omega)) rfl ?_
  refine j2_callVi x hb dX6_result_12 m_X6_ends (cx_ends_0 (d := d) hb) wmX6_83 jc_10 rfl rfl rfl (Nat.le_of_ble_eq_true rfl) (j_fit_rm (by omega) (by omega) (by omega)) rfl ?_
  exact j_ireturn x hr dX6_result_15 (by omega) (by omega) ⟨rfl, rfl⟩
theorem cx_result_no {d : Nat} {b : SBt} {Y : OUt} {M : MM} (hb : 104 ≤ b.2.1) {u v : Int32} {r z : Int32} (hd : ¬ M 95 1 ≤ 0) {n q : Nat} (hn : n ≤ 56) (hct : M 95 9 = nI n) (hq : q < n) (h : gRes (jtr M) q u v = some (r, z)) : CM (d + 4) 0 0 yX6_result cX6_result 4 (some .int) [.ref 94, .int (nI q), .int u, .int v] b Y M (.inl (some (.int (0)))) (jrai (jrefu (jtr M) r z) 1) := by
  refine Con.of (by decide +kernel) (Nat.le_of_ble_eq_true rfl) rfl fun p l e s m args below meth c D tyc A ad0 x hr htab hname => ?_
  change JJ _ _ _ _ _ _ _ _ _ _ _ _ _ _ _ _ _ 0 [some (.ref 94), some (.int (nI q)), some (.int u), some (.int v)] [] _ 0 0
  refine j_aload_n x dX6_result_0 rfl ?_
  refine j2_callVv x hb dX6_result_1 m_X6_tries (cx_tries (d := d) hb) wmX6_76 jc_10 rfl rfl rfl (Nat.le_of_ble_eq_true rfl) (j_fit_rm (by omega) (by omega) (by omega)) rfl ?_
  refine j_aload_n x dX6_result_4 rfl ?_
  refine j_aload_n x dX6_result_5 rfl ?_
  refine j_iload_n x dX6_result_6 rfl ?_
  refine j_iload_n x dX6_result_7 rfl ?_
  refine j_iload_n x dX6_result_8 rfl ?_
  refine j2_callVi x hb dX6_result_9 m_X6_results (show CM (d + 3) 0 0 _ _ _ _ _ b Y (jtr M) (.inl (some (.int (gno (some (r, z)))))) (gst (jtr M) (some (r, z)) (jm (gResS (jtr M) q u v) 94 18 (jsum (gLeft (gResS (jtr M) q u v)) n))) from by have z := cx_results_q (d := d) (Y := Y) (M := jtr M) (q := q) (u := u) (v := v) hb (by rw [jtr_n (by omega)]; exact hd) hn (by rw [jtr_n (by omega)]; exact hct) hq; rw [h] at z; exact z) wmX6_128 jc_10 rfl rfl rfl (Nat.le_of_ble_eq_true rfl) (j_fit_rm (by omega) (by omega) (by omega)) rfl ?_
  refine j2_callVi x hb dX6_result_12 m_X6_ends (cx_ends_0 (d := d) hb) wmX6_83 jc_10 rfl rfl rfl (Nat.le_of_ble_eq_true rfl) (j_fit_rm (by omega) (by omega) (by omega)) rfl ?_
  exact j_ireturn x hr dX6_result_15 (by omega) (by omega) ⟨rfl, rfl⟩
theorem cx_result_G {d : Nat} {b : SBt} {Y : OUt} {M : MM} (hb : 104 ≤ b.2.1) {u v : Int32} (hd : ¬ M 95 1 ≤ 0) {n q : Nat} (hn : n ≤ 56) (hct : M 95 9 = nI n) (hq : q < n) (h : gRes (jtr M) q u v = none) {k : Nat} (hk : k ≤ 8) (h3 : M 94 3 = nI k) : CM (d + 4) 0 0 yX6_result cX6_result 4 (some .int) [.ref 94, .int (nI q), .int u, .int v] b Y M (.inl (some (.int (jsum (gLeft (gResS (jtr M) q u v)) n)))) (jkpg (jm (gResS (jtr M) q u v) 94 18 (jsum (gLeft (gResS (jtr M) q u v)) n)) k) := by
  refine Con.of (by decide +kernel) (Nat.le_of_ble_eq_true rfl) rfl fun p l e s m args below meth c D tyc A ad0 x hr htab hname => ?_
  change JJ _ _ _ _ _ _ _ _ _ _ _ _ _ _ _ _ _ 0 [some (.ref 94), some (.int (nI q)), some (.int u), some (.int v)] [] _ 0 0
  refine j_aload_n x dX6_result_0 rfl ?_
  refine j2_callVv x hb dX6_result_1 m_X6_tries (cx_tries (d := d) hb) wmX6_76 jc_10 rfl rfl rfl (Nat.le_of_ble_eq_true rfl) (j_fit_rm (by omega) (by omega) (by omega)) rfl ?_
  refine j_aload_n x dX6_result_4 rfl ?_
  refine j_aload_n x dX6_result_5 rfl ?_
  refine j_iload_n x dX6_result_6 rfl ?_
  refine j_iload_n x dX6_result_7 rfl ?_
  refine j_iload_n x dX6_result_8 rfl ?_
  refine j2_callVi x hb dX6_result_9 m_X6_results (show CM (d + 3) 0 0 _ _ _ _ _ b Y (jtr M) (.inl (some (.int (gno (none))))) (gst (jtr M) (none) (jm (gResS (jtr M) q u v) 94 18 (jsum (gLeft (gResS (jtr M) q u v)) n))) from by have z := cx_results_q (d := d) (Y := Y) (M := jtr M) (q := q) (u := u) (v := v) hb (by rw [jtr_n (by omega)]; exact hd) hn (by rw [jtr_n (by omega)]; exact hct) hq; rw [h] at z; exact z) wmX6_128 jc_10 rfl rfl rfl (Nat.le_of_ble_eq_true rfl) (j_fit_rm (by omega) (by omega) (by omega)) rfl ?_
  refine j2_callVi x hb dX6_result_12 m_X6_ends (CM_v (cx_ends_G (d := d) hb hk (by rw [show gst (jtr M) none (jm (gResS (jtr M) q u v) 94 18 (jsum (gLeft (gResS (jtr M) q u v)) n)) = (jm (gResS (jtr M) q u v) 94 18 (jsum (gLeft (gResS (jtr M) q u v)) n)) from rfl, jm_n (by omega)]; unfold gResS; rw [jsets_n (by omega), jsets_n (by omega), jsets_n (by omega), jtr_f (by omega) (by omega)]; exact h3)) jm_s) wmX6_83 jc_10 rfl rfl rfl (Nat.le_of_ble_eq_true rfl) (j_fit_rm (by omega) (by omega) (by omega)) rfl ?_
  exact j_ireturn x hr dX6_result_15 (by omega) (by omega) ⟨rfl, rfl⟩
theorem cx_back_nm {d : Nat} {b : SBt} {Y : OUt} {M : MM} (hb : 104 ≤ b.2.1) {t : Int32} (hm : ¬ (¬ t < 0 ∧ ¬ M 95 9 - 1 < t)) (hd : ¬ M 95 1 ≤ 0) : CM (d + 3) 0 0 yX6_back cX6_back 2 (some .int) [.ref 94, .int t] b Y M (.inl (some (.int (0)))) (jrai (jrefu (jtr M) 3 t) 1) := by
  refine Con.of (by decide +kernel) (Nat.le_of_ble_eq_true rfl) rfl fun p l e s m args below meth c D tyc A ad0 x hr htab hname => ?_
  change JJ _ _ _ _ _ _ _ _ _ _ _ _ _ _ _ _ _ 0 [some (.ref 94), some (.int t)] [] _ 0 0
  refine j_aload_n x dX6_back_0 rfl ?_
  refine j2_callVv x hb dX6_back_1 m_X6_tries (cx_tries (d := d) hb) wmX6_76 jc_10 rfl rfl rfl (Nat.le_of_ble_eq_true rfl) (j_fit_rm (by omega) (by omega) (by omega)) rfl ?_
  refine j_aload_n x dX6_back_4 rfl ?_
  refine j_aload_n x dX6_back_5 rfl ?_
  refine j_iload_n x dX6_back_6 rfl ?_
  refine j2_callVi x hb dX6_back_7 m_X6_takesBack (cx_takesBack_nm (d := d) hb (by rw [jtr_n (by omega)]; exact hm) (by rw [jtr_n (by omega)]; exact hd)) wmX6_134 jc_10 rfl rfl rfl (Nat.le_of_ble_eq_true rfl) (j_fit_rm (by omega) (by omega) (by omega)) rfl ?_
  refine j2_callVi x hb dX6_back_10 m_X6_ends (cx_ends_0 (d := d) hb) wmX6_83 jc_10 rfl rfl rfl (Nat.le_of_ble_eq_true rfl) (j_fit_rm (by omega) (by omega) (by omega)) rfl ?_
  exact j_ireturn x hr dX6_back_13 (by omega) (by omega) ⟨rfl, rfl⟩
theorem cx_back_no {d : Nat} {b : SBt} {Y : OUt} {M : MM} (hb : 104 ≤ b.2.1) {r z : Int32} (hd : ¬ M 95 1 ≤ 0) {n q : Nat} (hn : n ≤ 56) (hct : M 95 9 = nI n) (hq : q < n) (h : gBack (jtr M) q = some (r, z)) : CM (d + 4) 0 0 yX6_back cX6_back 2 (some .int) [.ref 94, .int (nI q)] b Y M (.inl (some (.int (0)))) (jrai (jrefu (jtr M) r z) 1) := by
  refine Con.of (by decide +kernel) (Nat.le_of_ble_eq_true rfl) rfl fun p l e s m args below meth c D tyc A ad0 x hr htab hname => ?_
  change JJ _ _ _ _ _ _ _ _ _ _ _ _ _ _ _ _ _ 0 [some (.ref 94), some (.int (nI q))] [] _ 0 0
  refine j_aload_n x dX6_back_0 rfl ?_
  refine j2_callVv x hb dX6_back_1 m_X6_tries (cx_tries (d := d) hb) wmX6_76 jc_10 rfl rfl rfl (Nat.le_of_ble_eq_true rfl) (j_fit_rm (by omega) (by omega) (by omega)) rfl ?_
  refine j_aload_n x dX6_back_4 rfl ?_
  refine j_aload_n x dX6_back_5 rfl ?_
  refine j_iload_n x dX6_back_6 rfl ?_
  refine j2_callVi x hb dX6_back_7 m_X6_takesBack (show CM (d + 3) 0 0 _ _ _ _ _ b Y (jtr M) (.inl (some (.int (gno (some (r, z)))))) (gst (jtr M) (some (r, z)) (jm (gBackS (jtr M) q) 94 18 (jsum (gLeft (gBackS (jtr M) q)) n))) from by have z := cx_takesBack_q (d := d) (Y := Y) (M := jtr M) (q := q) hb (by rw [jtr_n (by omega)]; exact hd) hn (by rw [jtr_n (by omega)]; exact hct) hq; rw [h] at z; exact z) wmX6_134 jc_10 rfl rfl rfl (Nat.le_of_ble_eq_true rfl) (j_fit_rm (by omega) (by omega) (by omega)) rfl ?_
  refine j2_callVi x hb dX6_back_10 m_X6_ends (cx_ends_0 (d := d) hb) wmX6_83 jc_10 rfl rfl rfl (Nat.le_of_ble_eq_true rfl) (j_fit_rm (by omega) (by omega) (by omega)) rfl ?_
  exact j_ireturn x hr dX6_back_13 (by omega) (by omega) ⟨rfl, rfl⟩
theorem cx_back_G {d : Nat} {b : SBt} {Y : OUt} {M : MM} (hb : 104 ≤ b.2.1) (hd : ¬ M 95 1 ≤ 0) {n q : Nat} (hn : n ≤ 56) (hct : M 95 9 = nI n) (hq : q < n) (h : gBack (jtr M) q = none) {k : Nat} (hk : k ≤ 8) (h3 : M 94 3 = nI k) : CM (d + 4) 0 0 yX6_back cX6_back 2 (some .int) [.ref 94, .int (nI q)] b Y M (.inl (some (.int (jsum (gLeft (gBackS (jtr M) q)) n)))) (jkpg (jm (gBackS (jtr M) q) 94 18 (jsum (gLeft (gBackS (jtr M) q)) n)) k) := by
  refine Con.of (by decide +kernel) (Nat.le_of_ble_eq_true rfl) rfl fun p l e s m args below meth c D tyc A ad0 x hr htab hname => ?_
  change JJ _ _ _ _ _ _ _ _ _ _ _ _ _ _ _ _ _ 0 [some (.ref 94), some (.int (nI q))] [] _ 0 0
  refine j_aload_n x dX6_back_0 rfl ?_
  refine j2_callVv x hb dX6_back_1 m_X6_tries (cx_tries (d := d) hb) wmX6_76 jc_10 rfl rfl rfl (Nat.le_of_ble_eq_true rfl) (j_fit_rm (by omega) (by omega) (by omega)) rfl ?_
  refine j_aload_n x dX6_back_4 rfl ?_
  refine j_aload_n x dX6_back_5 rfl ?_
  refine j_iload_n x dX6_back_6 rfl ?_
  refine j2_callVi x hb dX6_back_7 m_X6_takesBack (show CM (d + 3) 0 0 _ _ _ _ _ b Y (jtr M) (.inl (some (.int (gno (none))))) (gst (jtr M) (none) (jm (gBackS (jtr M) q) 94 18 (jsum (gLeft (gBackS (jtr M) q)) n))) from by have z := cx_takesBack_q (d := d) (Y := Y) (M := jtr M) (q := q) hb (by rw [jtr_n (by omega)]; exact hd) hn (by rw [jtr_n (by omega)]; exact hct) hq; rw [h] at z; exact z) wmX6_134 jc_10 rfl rfl rfl (Nat.le_of_ble_eq_true rfl) (j_fit_rm (by omega) (by omega) (by omega)) rfl ?_
  refine j2_callVi x hb dX6_back_10 m_X6_ends (CM_v (cx_ends_G (d := d) hb hk (by rw [show gst (jtr M) none (jm (gBackS (jtr M) q) 94 18 (jsum (gLeft (gBackS (jtr M) q)) n)) = (jm (gBackS (jtr M) q) 94 18 (jsum (gLeft (gBackS (jtr M) q)) n)) from rfl, jm_n (by omega)]; unfold gBackS; rw [jsets_n (by omega), jsets_n (by omega), jsets_n (by omega), jtr_f (by omega) (by omega)]; exact h3)) jm_s) wmX6_83 jc_10 rfl rfl rfl (Nat.le_of_ble_eq_true rfl) (j_fit_rm (by omega) (by omega) (by omega)) rfl ?_
  exact j_ireturn x hr dX6_back_13 (by omega) (by omega) ⟨rfl, rfl⟩
theorem cx_putOff_nm {d : Nat} {b : SBt} {Y : OUt} {M : MM} (hb : 104 ≤ b.2.1) {u : Int32} {t : Int32} (hm : ¬ (¬ t < 0 ∧ ¬ M 95 9 - 1 < t)) (hd : ¬ M 95 1 ≤ 0) : CM (d + 3) 0 0 yX6_putOff cX6_putOff 3 (some .int) [.ref 94, .int t, .int u] b Y M (.inl (some (.int (0)))) (jrai (jrefu (jtr M) 3 t) 1) := by
  refine Con.of (by decide +kernel) (Nat.le_of_ble_eq_true rfl) rfl fun p l e s m args below meth c D tyc A ad0 x hr htab hname => ?_
  change JJ _ _ _ _ _ _ _ _ _ _ _ _ _ _ _ _ _ 0 [some (.ref 94), some (.int t), some (.int u)] [] _ 0 0
  refine j_aload_n x dX6_putOff_0 rfl ?_
  refine j2_callVv x hb dX6_putOff_1 m_X6_tries (cx_tries (d := d) hb) wmX6_76 jc_10 rfl rfl rfl (Nat.le_of_ble_eq_true rfl) (j_fit_rm (by omega) (by omega) (by omega)) rfl ?_
  refine j_aload_n x dX6_putOff_4 rfl ?_
  refine j_aload_n x dX6_putOff_5 rfl ?_
  refine j_iload_n x dX6_putOff_6 rfl ?_
  refine j_iload_n x dX6_putOff_7 rfl ?_
  refine j2_callVi x hb dX6_putOff_8 m_X6_putsOff (cx_putsOff_nm (d := d) hb (by rw [jtr_n (by omega)]; exact hm) (by rw [jtr_n (by omega)]; exact hd)) wmX6_146 jc_10 rfl rfl rfl (Nat.le_of_ble_eq_true rfl) (j_fit_rm (by omega) (by omega) (by omega)) rfl ?_
  refine j2_callVi x hb dX6_putOff_11 m_X6_ends (cx_ends_0 (d := d) hb) wmX6_83 jc_10 rfl rfl rfl (Nat.le_of_ble_eq_true rfl) (j_fit_rm (by omega) (by omega) (by omega)) rfl ?_
  exact j_ireturn x hr dX6_putOff_14 (by omega) (by omega) ⟨rfl, rfl⟩
theorem cx_putOff_no {d : Nat} {b : SBt} {Y : OUt} {M : MM} (hb : 104 ≤ b.2.1) {u : Int32} {r z : Int32} (hd : ¬ M 95 1 ≤ 0) {n q : Nat} (hn : n ≤ 56) (hct : M 95 9 = nI n) (hq : q < n) (hho : ∀ i, i < n → ∃ h, h < 8 ∧ jof M i 0 = nI h) (h : gPut (jtr M) q u = some (r, z)) : CM (d + 4) 0 0 yX6_putOff cX6_putOff 3 (some .int) [.ref 94, .int (nI q), .int u] b Y M (.inl (some (.int (0)))) (jrai (jrefu (jtr M) r z) 1) := by
  refine Con.of (by decide +kernel) (Nat.le_of_ble_eq_true rfl) rfl fun p l e s m args below meth c D tyc A ad0 x hr htab hname => ?_
  change JJ _ _ _ _ _ _ _ _ _ _ _ _ _ _ _ _ _ 0 [some (.ref 94), some (.int (nI q)), some (.int u)] [] _ 0 0
  refine j_aload_n x dX6_putOff_0 rfl ?_
  refine j2_callVv x hb dX6_putOff_1 m_X6_tries (cx_tries (d := d) hb) wmX6_76 jc_10 rfl rfl rfl (Nat.le_of_ble_eq_true rfl) (j_fit_rm (by omega) (by omega) (by omega)) rfl ?_
  refine j_aload_n x dX6_putOff_4 rfl ?_
  refine j_aload_n x dX6_putOff_5 rfl ?_
  refine j_iload_n x dX6_putOff_6 rfl ?_
  refine j_iload_n x dX6_putOff_7 rfl ?_
  refine j2_callVi x hb dX6_putOff_8 m_X6_putsOff (show CM (d + 3) 0 0 _ _ _ _ _ b Y (jtr M) (.inl (some (.int (gno (some (r, z)))))) (gst (jtr M) (some (r, z)) (jm (gPutS (jtr M) q u) 94 18 (jsum (gCl (gPutS (jtr M) q u) q (jtr M 95 2 + u)) n))) from by have z := cx_putsOff_q (d := d) (Y := Y) (M := jtr M) (q := q) (u := u) hb (by rw [jtr_n (by omega)]; exact hd) hn (by rw [jtr_n (by omega)]; exact hct) hq (fun i hi => by have z := hho i hi; unfold jof at z ⊢; rw [jtr_n (by omega)]; exact z); rw [h] at z; exact z) wmX6_146 jc_10 rfl rfl rfl (Nat.le_of_ble_eq_true rfl) (j_fit_rm (by omega) (by omega) (by omega)) rfl ?_
  refine j2_callVi x hb dX6_putOff_11 m_X6_ends (cx_ends_0 (d := d) hb) wmX6_83 jc_10 rfl rfl rfl (Nat.le_of_ble_eq_true rfl) (j_fit_rm (by omega) (by omega) (by omega)) rfl ?_
  exact j_ireturn x hr dX6_putOff_14 (by omega) (by omega) ⟨rfl, rfl⟩
theorem cx_putOff_G {d : Nat} {b : SBt} {Y : OUt} {M : MM} (hb : 104 ≤ b.2.1) {u : Int32} (hd : ¬ M 95 1 ≤ 0) {n q : Nat} (hn : n ≤ 56) (hct : M 95 9 = nI n) (hq : q < n) (hho : ∀ i, i < n → ∃ h, h < 8 ∧ jof M i 0 = nI h) (h : gPut (jtr M) q u = none) {k : Nat} (hk : k ≤ 8) (h3 : M 94 3 = nI k) : CM (d + 4) 0 0 yX6_putOff cX6_putOff 3 (some .int) [.ref 94, .int (nI q), .int u] b Y M (.inl (some (.int (jsum (gCl (gPutS (jtr M) q u) q (jtr M 95 2 + u)) n)))) (jkpg (jm (gPutS (jtr M) q u) 94 18 (jsum (gCl (gPutS (jtr M) q u) q (jtr M 95 2 + u)) n)) k) := by
  refine Con.of (by decide +kernel) (Nat.le_of_ble_eq_true rfl) rfl fun p l e s m args below meth c D tyc A ad0 x hr htab hname => ?_
  change JJ _ _ _ _ _ _ _ _ _ _ _ _ _ _ _ _ _ 0 [some (.ref 94), some (.int (nI q)), some (.int u)] [] _ 0 0
  refine j_aload_n x dX6_putOff_0 rfl ?_
  refine j2_callVv x hb dX6_putOff_1 m_X6_tries (cx_tries (d := d) hb) wmX6_76 jc_10 rfl rfl rfl (Nat.le_of_ble_eq_true rfl) (j_fit_rm (by omega) (by omega) (by omega)) rfl ?_
  refine j_aload_n x dX6_putOff_4 rfl ?_
  refine j_aload_n x dX6_putOff_5 rfl ?_
  refine j_iload_n x dX6_putOff_6 rfl ?_
  refine j_iload_n x dX6_putOff_7 rfl ?_
  refine j2_callVi x hb dX6_putOff_8 m_X6_putsOff (show CM (d + 3) 0 0 _ _ _ _ _ b Y (jtr M) (.inl (some (.int (gno (none))))) (gst (jtr M) (none) (jm (gPutS (jtr M) q u) 94 18 (jsum (gCl (gPutS (jtr M) q u) q (jtr M 95 2 + u)) n))) from by have z := cx_putsOff_q (d := d) (Y := Y) (M := jtr M) (q := q) (u := u) hb (by rw [jtr_n (by omega)]; exact hd) hn (by rw [jtr_n (by omega)]; exact hct) hq (fun i hi => by have z := hho i hi; unfold jof at z ⊢; rw [jtr_n (by omega)]; exact z); rw [h] at z; exact z) wmX6_146 jc_10 rfl rfl rfl (Nat.le_of_ble_eq_true rfl) (j_fit_rm (by omega) (by omega) (by omega)) rfl ?_
  refine j2_callVi x hb dX6_putOff_11 m_X6_ends (CM_v (cx_ends_G (d := d) hb hk (by rw [show gst (jtr M) none (jm (gPutS (jtr M) q u) 94 18 (jsum (gCl (gPutS (jtr M) q u) q (jtr M 95 2 + u)) n)) = (jm (gPutS (jtr M) q u) 94 18 (jsum (gCl (gPutS (jtr M) q u) q (jtr M 95 2 + u)) n)) from rfl, jm_n (by omega)]; unfold gPutS; rw [jsets_n (by omega), jsets_n (by omega), jtr_f (by omega) (by omega)]; exact h3)) jm_s) wmX6_83 jc_10 rfl rfl rfl (Nat.le_of_ble_eq_true rfl) (j_fit_rm (by omega) (by omega) (by omega)) rfl ?_
  exact j_ireturn x hr dX6_putOff_14 (by omega) (by omega) ⟨rfl, rfl⟩
theorem cx_next_no {d : Nat} {b : SBt} {Y : OUt} {M : MM} (hb : 104 ≤ b.2.1) {r z : Int32} (hd : ¬ M 95 1 ≤ 0) {n : Nat} (hn : n ≤ 56) (hct : M 95 9 = nI n) (h : gNext (jtr M) n = some (r, z)) : CM (d + 4) 0 0 yX6_next cX6_next 1 (some .int) [.ref 94] b Y M (.inl (some (.int (0)))) (jrai (jrefu (jtr M) r z) 1) := by
  refine Con.of (by decide +kernel) (Nat.le_of_ble_eq_true rfl) rfl fun p l e s m args below meth c D tyc A ad0 x hr htab hname => ?_
  change JJ _ _ _ _ _ _ _ _ _ _ _ _ _ _ _ _ _ 0 [some (.ref 94)] [] _ 0 0
  refine j_aload_n x dX6_next_0 rfl ?_
  refine j2_callVv x hb dX6_next_1 m_X6_tries (cx_tries (d := d) hb) wmX6_76 jc_10 rfl rfl rfl (Nat.le_of_ble_eq_true rfl) (j_fit_rm (by omega) (by omega) (by omega)) rfl ?_
  refine j_aload_n x dX6_next_4 rfl ?_
  refine j_aload_n x dX6_next_5 rfl ?_
  refine j2_callVi x hb dX6_next_6 m_X6_comesNext (show CM (d + 3) 0 0 _ _ _ _ _ b Y (jtr M) (.inl (some (.int (gno (some (r, z)))))) (gst (jtr M) (some (r, z)) (jm (jm (jtr M) 95 2 (jtr M 95 2 + 1)) 94 18 (jtr M 95 2 + 1))) from by have z := cx_comesNext_d (d := d) (Y := Y) (M := jtr M) hb (by rw [jtr_n (by omega)]; exact hd) hn (by rw [jtr_n (by omega)]; exact hct); rw [h] at z; exact z) wmX6_149 jc_10 rfl rfl rfl (Nat.le_of_ble_eq_true rfl) (j_fit_rm (by omega) (by omega) (by omega)) rfl ?_
  refine j2_callVi x hb dX6_next_9 m_X6_ends (cx_ends_0 (d := d) hb) wmX6_83 jc_10 rfl rfl rfl (Nat.le_of_ble_eq_true rfl) (j_fit_rm (by omega) (by omega) (by omega)) rfl ?_
  exact j_ireturn x hr dX6_next_12 (by omega) (by omega) ⟨rfl, rfl⟩
theorem cx_next_G {d : Nat} {b : SBt} {Y : OUt} {M : MM} (hb : 104 ≤ b.2.1) (hd : ¬ M 95 1 ≤ 0) {n : Nat} (hn : n ≤ 56) (hct : M 95 9 = nI n) (h : gNext (jtr M) n = none) {k : Nat} (hk : k ≤ 8) (h3 : M 94 3 = nI k) : CM (d + 4) 0 0 yX6_next cX6_next 1 (some .int) [.ref 94] b Y M (.inl (some (.int (jtr M 95 2 + 1)))) (jkpg (jm (jm (jtr M) 95 2 (jtr M 95 2 + 1)) 94 18 (jtr M 95 2 + 1)) k) := by
  refine Con.of (by decide +kernel) (Nat.le_of_ble_eq_true rfl) rfl fun p l e s m args below meth c D tyc A ad0 x hr htab hname => ?_
  change JJ _ _ _ _ _ _ _ _ _ _ _ _ _ _ _ _ _ 0 [some (.ref 94)] [] _ 0 0
  refine j_aload_n x dX6_next_0 rfl ?_
  refine j2_callVv x hb dX6_next_1 m_X6_tries (cx_tries (d := d) hb) wmX6_76 jc_10 rfl rfl rfl (Nat.le_of_ble_eq_true rfl) (j_fit_rm (by omega) (by omega) (by omega)) rfl ?_
  refine j_aload_n x dX6_next_4 rfl ?_
  refine j_aload_n x dX6_next_5 rfl ?_
  refine j2_callVi x hb dX6_next_6 m_X6_comesNext (show CM (d + 3) 0 0 _ _ _ _ _ b Y (jtr M) (.inl (some (.int (gno (none))))) (gst (jtr M) (none) (jm (jm (jtr M) 95 2 (jtr M 95 2 + 1)) 94 18 (jtr M 95 2 + 1))) from by have z := cx_comesNext_d (d := d) (Y := Y) (M := jtr M) hb (by rw [jtr_n (by omega)]; exact hd) hn (by rw [jtr_n (by omega)]; exact hct); rw [h] at z; exact z) wmX6_149 jc_10 rfl rfl rfl (Nat.le_of_ble_eq_true rfl) (j_fit_rm (by omega) (by omega) (by omega)) rfl ?_
  refine j2_callVi x hb dX6_next_9 m_X6_ends (CM_v (cx_ends_G (d := d) hb hk (by rw [show gst (jtr M) none (jm (jm (jtr M) 95 2 (jtr M 95 2 + 1)) 94 18 (jtr M 95 2 + 1)) = (jm (jm (jtr M) 95 2 (jtr M 95 2 + 1)) 94 18 (jtr M 95 2 + 1)) from rfl, jm_n (by omega), jm_n (by omega), jtr_f (by omega) (by omega)]; exact h3)) jm_s) wmX6_83 jc_10 rfl rfl rfl (Nat.le_of_ble_eq_true rfl) (j_fit_rm (by omega) (by omega) (by omega)) rfl ?_
  exact j_ireturn x hr dX6_next_12 (by omega) (by omega) ⟨rfl, rfl⟩
