section
theorem wsame_len : Cond.sameMethod "java/lang/AbstractStringBuilder" "java/lang/AbstractStringBuilder" "length" "()I" ∈ j_all := j_wd 1307 (by decide +kernel) rfl
theorem wsup_J4 : Cond.superclass "java/lang/StringBuilder" "java/lang/AbstractStringBuilder" ∈ j_all := j_wd 377 (by decide +kernel) rfl
/-! ===== the public methods: of any store where nothing more is asked, else of one whose league has no teams and is not drawn ===== -/
theorem CM_s {d mc ms : Nat} {y : MethodName} {cc : ByteArray} {maxL : Nat} {ret : Option FieldType} {as : List Value} {b : SBt} {Y : OUt} {M : MM} {q : Option (Int32 × Int32)} {r t : Int32} (C : CM d mc ms y cc maxL ret as b Y M (.inl (some (.int (jisS q)))) (jrf M q)) (h : q = some (r, t)) : CM d mc ms y cc maxL ret as b Y M (.inl (some (.int 1))) (jref M r t) := by
  subst h
  exact C
theorem CM_n {d mc ms : Nat} {y : MethodName} {cc : ByteArray} {maxL : Nat} {ret : Option FieldType} {as : List Value} {b : SBt} {Y : OUt} {M : MM} {q : Option (Int32 × Int32)} (C : CM d mc ms y cc maxL ret as b Y M (.inl (some (.int (jisS q)))) (jrf M q)) (h : q = none) : CM d mc ms y cc maxL ret as b Y M (.inl (some (.int 0))) M := by
  subst h
  exact C
theorem CM_v {d mc ms : Nat} {y : MethodName} {cc : ByteArray} {maxL : Nat} {ret : Option FieldType} {as : List Value} {b : SBt} {Y : OUt} {M M1 : MM} {v w : Int32} (C : CM d mc ms y cc maxL ret as b Y M (.inl (some (.int v))) M1) (h : v = w) : CM d mc ms y cc maxL ret as b Y M (.inl (some (.int w))) M1 := by
  subst h
  exact C
theorem no_ge {t : Int32} (q : ¬ t < 0 ∧ ¬ 0 ≤ t) : False := q.2 (Int32.not_lt.mp q.1)
theorem no_team {M : MM} {t : Int32} (h : M 1 0 = 0) : jb (¬ t < 0 ∧ ¬ M 1 0 ≤ t) = 0 := jb_f (fun q => no_ge (by rw [h] at q; exact q))
theorem no_meet {M : MM} {t : Int32} (h : M 1 2 = 0) : jb (¬ t < 0 ∧ ¬ jmc M ≤ t) = 0 := jb_f (fun q => no_ge (by rw [show jmc M = 0 from if_pos h] at q; exact q))
theorem no_week {M : MM} {t : Int32} (h : M 1 2 = 0) : jb (¬ t < 0 ∧ ¬ jwc M ≤ t) = 0 := jb_f (fun q => no_ge (by rw [show jwc M = 0 from if_pos h] at q; exact q))
theorem c_team_no {d : Nat} {b : SBt} {Y : OUt} {M : MM} (hb : 104 ≤ b.2.1) {u : Int32} {r t : Int32} (h : rTeam M u = some (r, t)) : CM (d + 2) 1 6 yX5_team cX5_team 2 (some .int) [.ref 0, .int u] b Y M (.inr "java/lang/UnsupportedOperationException") (jref M r t) := by
  refine Con.of (by decide +kernel) (Nat.le_of_ble_eq_true rfl) rfl fun p l e s m args below meth c D tyc A ad0 x hr htab hname => ?_
  change JJ _ _ _ _ _ _ _ _ _ _ _ _ _ _ _ _ _ 0 [some (.ref 0), some (.int u)] [] _ 0 0
  refine j_aload_n x dX5_team_0 rfl ?_
  refine j_iload_n x dX5_team_1 rfl ?_
  refine j2_callVi x hb dX5_team_2 m_X5_isTeamRefused (CM_s (c_isTeamRefused (d := d) hb) h) wmX5_62 jc_9 rfl rfl rfl (Nat.le_of_ble_eq_true rfl) (j_fit_rm (by omega) (by omega) (by omega)) rfl ?_
  refine j_if_eq (tgt := 18) x dX5_team_5 (by decide) (fun hc => absurd hc (by decide)) (fun hc => ?_)
  exact j_throwS x exX5_66 wsX5_68 dX5_team_8 dX5_team_11 dX5_team_12 dX5_team_14 dX5_team_17 htab (by omega) (by omega) ⟨rfl, rfl⟩
theorem c_ground_no {d : Nat} {b : SBt} {Y : OUt} {M : MM} (hb : 104 ≤ b.2.1) {u v : Int32} {r t : Int32} (h : rGround M u v = some (r, t)) : CM (d + 2) 1 6 yX5_ground cX5_ground 4 (some .int) [.ref 0, .int u, .int v] b Y M (.inr "java/lang/UnsupportedOperationException") (jref M r t) := by
  refine Con.of (by decide +kernel) (Nat.le_of_ble_eq_true rfl) rfl fun p l e s m args below meth c D tyc A ad0 x hr htab hname => ?_
  change JJ _ _ _ _ _ _ _ _ _ _ _ _ _ _ _ _ _ 0 [some (.ref 0), some (.int u), some (.int v), none] [] _ 0 0
  refine j_aload_n x dX5_ground_0 rfl ?_
  refine j_iload_n x dX5_ground_1 rfl ?_
  refine j_iload_n x dX5_ground_2 rfl ?_
  refine j2_callVi x hb dX5_ground_3 m_X5_isGroundRefused (CM_s (c_isGroundRefused (d := d) hb) h) wmX5_87 jc_9 rfl rfl rfl (Nat.le_of_ble_eq_true rfl) (j_fit_rm (by omega) (by omega) (by omega)) rfl ?_
  refine j_if_eq (tgt := 19) x dX5_ground_6 (by decide) (fun hc => absurd hc (by decide)) (fun hc => ?_)
  exact j_throwS x exX5_66 wsX5_91 dX5_ground_9 dX5_ground_12 dX5_ground_13 dX5_ground_15 dX5_ground_18 htab (by omega) (by omega) ⟨rfl, rfl⟩
theorem c_draw_no {d : Nat} {b : SBt} {Y : OUt} {M : MM} (hb : 104 ≤ b.2.1)  {r t : Int32} (h : rDraw M = some (r, t)) : CM (d + 2) 1 6 yX5_draw cX5_draw 1 (some .int) [.ref 0] b Y M (.inr "java/lang/UnsupportedOperationException") (jref M r t) := by
  refine Con.of (by decide +kernel) (Nat.le_of_ble_eq_true rfl) rfl fun p l e s m args below meth c D tyc A ad0 x hr htab hname => ?_
  change JJ _ _ _ _ _ _ _ _ _ _ _ _ _ _ _ _ _ 0 [some (.ref 0)] [] _ 0 0
  refine j_aload_n x dX5_draw_0 rfl ?_
  refine j2_callVi x hb dX5_draw_1 m_X5_isDrawRefused (CM_s (c_isDrawRefused (d := d) hb) h) wmX5_97 jc_9 rfl rfl rfl (Nat.le_of_ble_eq_true rfl) (j_fit_rm (by omega) (by omega) (by omega)) rfl ?_
  refine j_if_eq (tgt := 17) x dX5_draw_4 (by decide) (fun hc => absurd hc (by decide)) (fun hc => ?_)
  exact j_throwS x exX5_66 wsX5_101 dX5_draw_7 dX5_draw_10 dX5_draw_11 dX5_draw_13 dX5_draw_16 htab (by omega) (by omega) ⟨rfl, rfl⟩
theorem c_rules_no {d : Nat} {b : SBt} {Y : OUt} {M : MM} (hb : 104 ≤ b.2.1) {u v w : Int32} {r t : Int32} (h : rRules u v w = some (r, t)) : CM (d + 2) 1 6 yX5_rules cX5_rules 4 (some .int) [.ref 0, .int u, .int v, .int w] b Y M (.inr "java/lang/UnsupportedOperationException") (jref M r t) := by
  refine Con.of (by decide +kernel) (Nat.le_of_ble_eq_true rfl) rfl fun p l e s m args below meth c D tyc A ad0 x hr htab hname => ?_
  change JJ _ _ _ _ _ _ _ _ _ _ _ _ _ _ _ _ _ 0 [some (.ref 0), some (.int u), some (.int v), some (.int w)] [] _ 0 0
  refine j_aload_n x dX5_rules_0 rfl ?_
  refine j_iload_n x dX5_rules_1 rfl ?_
  refine j_iload_n x dX5_rules_2 rfl ?_
  refine j_iload_n x dX5_rules_3 rfl ?_
  refine j2_callVi x hb dX5_rules_4 m_X5_isRulesRefused (CM_s (c_isRulesRefused (d := d) hb) h) wmX5_125 jc_9 rfl rfl rfl (Nat.le_of_ble_eq_true rfl) (j_fit_rm (by omega) (by omega) (by omega)) rfl ?_
  refine j_if_eq (tgt := 20) x dX5_rules_7 (by decide) (fun hc => absurd hc (by decide)) (fun hc => ?_)
  exact j_throwS x exX5_66 wsX5_129 dX5_rules_10 dX5_rules_13 dX5_rules_14 dX5_rules_16 dX5_rules_19 htab (by omega) (by omega) ⟨rfl, rfl⟩
def jteam (M : MM) (j k : Nat) (u : Int32) : MM := jm (jput 8 (jkeep M j k) 2 (jkeep M j k 1 0) u) 1 0 (jput 8 (jkeep M j k) 2 (jkeep M j k 1 0) u 1 0 + 1)
theorem c_team_ok {d : Nat} {b : SBt} {Y : OUt} {M : MM} (hb : 104 ≤ b.2.1) {u : Int32} (h : rTeam M u = none) {j k : Nat} (hj : j < 9) (hk : k ≤ 8) (hh : M 13 1 = nI j) (h2 : M 13 2 = nI k) (hz : M 1 2 = 0 ∨ M 1 2 = 1) : CM (d + 4) 1 6 yX5_team cX5_team 2 (some .int) [.ref 0, .int u] b Y M (.inl (some (.int (jteam M j k u 1 0 - 1)))) (jteam M j k u) := by
  refine Con.of (by decide +kernel) (Nat.le_of_ble_eq_true rfl) rfl fun p l e s m args below meth c D tyc A ad0 x hr htab hname => ?_
  change JJ _ _ _ _ _ _ _ _ _ _ _ _ _ _ _ _ _ 0 [some (.ref 0), some (.int u)] [] _ 0 0
  refine j_aload_n x dX5_team_0 rfl ?_
  refine j_iload_n x dX5_team_1 rfl ?_
  refine j2_callVi x hb dX5_team_2 m_X5_isTeamRefused (CM_n (c_isTeamRefused (d := d + 2) hb) h) wmX5_62 jc_9 rfl rfl rfl (Nat.le_of_ble_eq_true rfl) (j_fit_rm (by omega) (by omega) (by omega)) rfl ?_
  refine j_if_eq (tgt := 18) x dX5_team_5 (by decide) (fun hc => ?_) (fun hc => absurd (rfl) hc)
  refine j_aload_n x dX5_team_18 rfl ?_
  refine j2_getr (k := 3) (r := 13) x hb dX5_team_19 jc_9 wfX5_22 (by decide) rfl ?_
  refine j_aload_n x dX5_team_22 rfl ?_
  refine j2_getr (k := 0) (r := 1) x hb dX5_team_23 jc_9 wfX5_10 (by decide) rfl ?_
  refine j2_callVv x hb dX5_team_26 m_X1_keep (c_keep (d := d) hb hj hk hh h2 hz) wmX5_73 jc_5 rfl rfl rfl (Nat.le_of_ble_eq_true rfl) (j_fit_rm (by omega) (by omega) (by omega)) rfl ?_
  refine j_aload_n x dX5_team_29 rfl ?_
  refine j2_getr (k := 0) (r := 1) x hb dX5_team_30 jc_9 wfX5_10 (by decide) rfl ?_
  refine j2_getr (k := 1) (r := 2) x hb dX5_team_33 jc_6 wfX5_77 (by decide) rfl ?_
  refine j_aload_n x dX5_team_36 rfl ?_
  refine j2_getr (k := 0) (r := 1) x hb dX5_team_37 jc_9 wfX5_10 (by decide) rfl ?_
  refine j2_geti (k := 0) x hb dX5_team_40 jc_6 wfX5_80 (by decide) rfl ?_
  refine j_iload_n x dX5_team_43 rfl ?_
  refine j2_callSv x hb dX5_team_44 m_X5_put (c_put (d := d) hb fa_2 (by decide)) wmX5_83 rfl (Nat.le_of_ble_eq_true rfl) (j_fit_rm (by omega) (by omega) (by omega)) rfl ?_
  refine j_aload_n x dX5_team_47 rfl ?_
  refine j2_getr (k := 0) (r := 1) x hb dX5_team_48 jc_9 wfX5_10 (by decide) rfl ?_
  refine j_dup x dX5_team_51 rfl ?_
  refine j2_geti (k := 0) x hb dX5_team_52 jc_6 wfX5_80 (by decide) rfl ?_
  refine j_iconst (v := 1) x dX5_team_55 (by decide) ?_
  refine j_iadd x dX5_team_56 ?_
  refine j2_puti (k := 0) x hb dX5_team_57 jc_6 wfX5_80 (by decide) rfl rfl rfl rfl ?_
  refine j_aload_n x dX5_team_60 rfl ?_
  refine j2_getr (k := 0) (r := 1) x hb dX5_team_61 jc_9 wfX5_10 (by decide) rfl ?_
  refine j2_geti (k := 0) x hb dX5_team_64 jc_6 wfX5_80 (by decide) rfl ?_
  refine j_iconst (v := 1) x dX5_team_67 (by decide) ?_
  refine j_isub x dX5_team_68 ?_
  exact j_ireturn x hr dX5_team_69 (by omega) (by omega) ⟨rfl, rfl⟩
def jrules (M : MM) (j k : Nat) (u v w : Int32) : MM := jsetr (jkeep M j k) 1 u v w
theorem c_rules_ok {d : Nat} {b : SBt} {Y : OUt} {M : MM} (hb : 104 ≤ b.2.1) {u v w : Int32} (h : rRules u v w = none) {j k : Nat} (hj : j < 9) (hk : k ≤ 8) (hh : M 13 1 = nI j) (h2 : M 13 2 = nI k) (hz : M 1 2 = 0 ∨ M 1 2 = 1) : CM (d + 4) 1 6 yX5_rules cX5_rules 4 (some .int) [.ref 0, .int u, .int v, .int w] b Y M (.inl (some (.int (jrules M j k u v w 1 6)))) (jrules M j k u v w) := by
  refine Con.of (by decide +kernel) (Nat.le_of_ble_eq_true rfl) rfl fun p l e s m args below meth c D tyc A ad0 x hr htab hname => ?_
  change JJ _ _ _ _ _ _ _ _ _ _ _ _ _ _ _ _ _ 0 [some (.ref 0), some (.int u), some (.int v), some (.int w)] [] _ 0 0
  refine j_aload_n x dX5_rules_0 rfl ?_
  refine j_iload_n x dX5_rules_1 rfl ?_
  refine j_iload_n x dX5_rules_2 rfl ?_
  refine j_iload_n x dX5_rules_3 rfl ?_
  refine j2_callVi x hb dX5_rules_4 m_X5_isRulesRefused (CM_n (c_isRulesRefused (d := d + 2) hb) h) wmX5_125 jc_9 rfl rfl rfl (Nat.le_of_ble_eq_true rfl) (j_fit_rm (by omega) (by omega) (by omega)) rfl ?_
  refine j_if_eq (tgt := 20) x dX5_rules_7 (by decide) (fun hc => ?_) (fun hc => absurd (rfl) hc)
  refine j_aload_n x dX5_rules_20 rfl ?_
  refine j2_getr (k := 3) (r := 13) x hb dX5_rules_21 jc_9 wfX5_22 (by decide) rfl ?_
  refine j_aload_n x dX5_rules_24 rfl ?_
  refine j2_getr (k := 0) (r := 1) x hb dX5_rules_25 jc_9 wfX5_10 (by decide) rfl ?_
  refine j2_callVv x hb dX5_rules_28 m_X1_keep (c_keep (d := d) hb hj hk hh h2 hz) wmX5_73 jc_5 rfl rfl rfl (Nat.le_of_ble_eq_true rfl) (j_fit_rm (by omega) (by omega) (by omega)) rfl ?_
  refine j_aload_n x dX5_rules_31 rfl ?_
  refine j2_getr (k := 0) (r := 1) x hb dX5_rules_32 jc_9 wfX5_10 (by decide) rfl ?_
  refine j_iload_n x dX5_rules_35 rfl ?_
  refine j_iload_n x dX5_rules_36 rfl ?_
  refine j_iload_n x dX5_rules_37 rfl ?_
  refine j2_callVv x hb dX5_rules_38 m_X2_setRules (c_setRules (d := d) hb rfl) wmX5_131 jc_6 rfl rfl rfl (Nat.le_of_ble_eq_true rfl) (j_fit_rm (by omega) (by omega) (by omega)) rfl ?_
  refine j_aload_n x dX5_rules_41 rfl ?_
  refine j2_getr (k := 0) (r := 1) x hb dX5_rules_42 jc_9 wfX5_10 (by decide) rfl ?_
  refine j2_geti (k := 6) x hb dX5_rules_45 jc_6 wfX5_135 (by decide) rfl ?_
  exact j_ireturn x hr dX5_rules_48 (by omega) (by omega) ⟨rfl, rfl⟩
theorem c_give_bad {d : Nat} {b : SBt} {Y : OUt} {M : MM} (hb : 104 ≤ b.2.1) {t u : Int32} (hx : t < 1 ∨ 5 < t ∨ u < 0 ∨ ¬ u ≤ 3) : CM (d + 5) 1 6 yX5_give cX5_give 4 (some .int) [.ref 0, .int t, .int u] b Y M (.inr "java/lang/UnsupportedOperationException") (jref M 1 0) := by
  refine Con.of (by decide +kernel) (Nat.le_of_ble_eq_true rfl) rfl fun p l e s m args below meth c D tyc A ad0 x hr htab hname => ?_
  change JJ _ _ _ _ _ _ _ _ _ _ _ _ _ _ _ _ _ 0 [some (.ref 0), some (.int t), some (.int u), none] [] _ 0 0
  refine j_aload_n x dX5_give_0 rfl ?_
  refine j_iload_n x dX5_give_1 rfl ?_
  refine j_iload_n x dX5_give_2 rfl ?_
  refine j2_callVi x hb dX5_give_3 m_X5_isGiveRefused (c_isGiveRefused1 (d := d) hb hx) wmX5_114 jc_9 rfl rfl rfl (Nat.le_of_ble_eq_true rfl) (j_fit_rm (by omega) (by omega) (by omega)) rfl ?_
  refine j_if_eq (tgt := 19) x dX5_give_6 (by decide) (fun hc => absurd hc (by decide)) (fun hc => ?_)
  exact j_throwS x exX5_66 wsX5_117 dX5_give_9 dX5_give_12 dX5_give_13 dX5_give_15 dX5_give_18 htab (by omega) (by omega) ⟨rfl, rfl⟩
def jgive (M : MM) (j k : Nat) (t u : Int32) : MM := jm (jm (jkeep (jclear M) j k) 1 4 t) 1 5 u
theorem c_give_0 {d : Nat} {b : SBt} {Y : OUt} {M : MM} (hb : 104 ≤ b.2.1) {t u : Int32} (hx : ¬ (t < 1 ∨ 5 < t ∨ u < 0 ∨ ¬ u ≤ 3)) (hD : M 1 2 = 0) {j k : Nat} (hj : j < 9) (hk : k ≤ 8) (hh : jclear M 13 1 = nI j) (h2 : jclear M 13 2 = nI k) (hz : jclear M 1 2 = 0 ∨ jclear M 1 2 = 1) : CM (d + 5) 1 6 yX5_give cX5_give 4 (some .int) [.ref 0, .int t, .int u] b Y M (.inl (some (.int (10 * jkeep (jclear M) j k 1 4 + jkeep (jclear M) j k 1 5)))) (jgive M j k t u) := by
  refine Con.of (by decide +kernel) (Nat.le_of_ble_eq_true rfl) rfl fun p l e s m args below meth c D tyc A ad0 x hr htab hname => ?_
  change JJ _ _ _ _ _ _ _ _ _ _ _ _ _ _ _ _ _ 0 [some (.ref 0), some (.int t), some (.int u), none] [] _ 0 0
  refine j_aload_n x dX5_give_0 rfl ?_
  refine j_iload_n x dX5_give_1 rfl ?_
  refine j_iload_n x dX5_give_2 rfl ?_
  refine j2_callVi x hb dX5_give_3 m_X5_isGiveRefused (c_isGiveRefused0 (d := d) hb hx hD) wmX5_114 jc_9 rfl rfl rfl (Nat.le_of_ble_eq_true rfl) (j_fit_rm (by omega) (by omega) (by omega)) rfl ?_
  refine j_if_eq (tgt := 19) x dX5_give_6 (by decide) (fun hc => ?_) (fun hc => absurd (rfl) hc)
  refine j_aload_n x dX5_give_19 rfl ?_
  refine j2_getr (k := 3) (r := 13) x hb dX5_give_20 jc_9 wfX5_22 (by decide) rfl ?_
  refine j_aload_n x dX5_give_23 rfl ?_
  refine j2_getr (k := 0) (r := 1) x hb dX5_give_24 jc_9 wfX5_10 (by decide) rfl ?_
  refine j2_callVv x hb dX5_give_27 m_X1_keep (c_keep (d := d) hb hj hk hh h2 hz) wmX5_73 jc_5 rfl rfl rfl (Nat.le_of_ble_eq_true rfl) (j_fit_rm (by omega) (by omega) (by omega)) rfl ?_
  refine j_bipush (v := 10) x dX5_give_30 (by decide) ?_
  refine j_aload_n x dX5_give_32 rfl ?_
  refine j2_getr (k := 0) (r := 1) x hb dX5_give_33 jc_9 wfX5_10 (by decide) rfl ?_
  refine j2_geti (k := 4) x hb dX5_give_36 jc_6 wfX5_119 (by decide) rfl ?_
  refine j_imul x dX5_give_39 ?_
  refine j_aload_n x dX5_give_40 rfl ?_
  refine j2_getr (k := 0) (r := 1) x hb dX5_give_41 jc_9 wfX5_10 (by decide) rfl ?_
  refine j2_geti (k := 5) x hb dX5_give_44 jc_6 wfX5_122 (by decide) rfl ?_
  refine j_iadd x dX5_give_47 ?_
  refine j_istore_n x dX5_give_48 (by decide) rfl ?_
  refine j_aload_n x dX5_give_49 rfl ?_
  refine j2_getr (k := 0) (r := 1) x hb dX5_give_50 jc_9 wfX5_10 (by decide) rfl ?_
  refine j_iload_n x dX5_give_53 rfl ?_
  refine j2_puti (k := 4) x hb dX5_give_54 jc_6 wfX5_119 (by decide) rfl rfl rfl rfl ?_
  refine j_aload_n x dX5_give_57 rfl ?_
  refine j2_getr (k := 0) (r := 1) x hb dX5_give_58 jc_9 wfX5_10 (by decide) rfl ?_
  refine j_iload_n x dX5_give_61 rfl ?_
  refine j2_puti (k := 5) x hb dX5_give_62 jc_6 wfX5_122 (by decide) rfl rfl rfl rfl ?_
  refine j_iload_n x dX5_give_65 rfl ?_
  exact j_ireturn x hr dX5_give_66 (by omega) (by omega) ⟨rfl, rfl⟩
theorem c_result_0 {d : Nat} {b : SBt} {Y : OUt} {M : MM} (hb : 104 ≤ b.2.1) {t u v : Int32} (hD : M 1 2 = 0) : CM (d + 3) 1 6 yX5_result cX5_result 4 (some .int) [.ref 0, .int t, .int u, .int v] b Y M (.inr "java/lang/UnsupportedOperationException") (jref M 5 0) := by
  refine Con.of (by decide +kernel) (Nat.le_of_ble_eq_true rfl) rfl fun p l e s m args below meth c D tyc A ad0 x hr htab hname => ?_
  change JJ _ _ _ _ _ _ _ _ _ _ _ _ _ _ _ _ _ 0 [some (.ref 0), some (.int t), some (.int u), some (.int v)] [] _ 0 0
  refine j_aload_n x dX5_result_0 rfl ?_
  refine j_iload_n x dX5_result_1 rfl ?_
  refine j_iload_n x dX5_result_2 rfl ?_
  refine j_iload_n x dX5_result_3 rfl ?_
  refine j2_callVi x hb dX5_result_4 m_X5_isResultRefused (c_isResultRefused0 (d := d) hb hD) wmX5_138 jc_9 rfl rfl rfl (Nat.le_of_ble_eq_true rfl) (j_fit_rm (by omega) (by omega) (by omega)) rfl ?_
  refine j_if_eq (tgt := 20) x dX5_result_7 (by decide) (fun hc => absurd hc (by decide)) (fun hc => ?_)
  exact j_throwS x exX5_66 wsX5_141 dX5_result_10 dX5_result_13 dX5_result_14 dX5_result_16 dX5_result_19 htab (by omega) (by omega) ⟨rfl, rfl⟩
theorem c_back_0 {d : Nat} {b : SBt} {Y : OUt} {M : MM} (hb : 104 ≤ b.2.1) {t : Int32} (hD : M 1 2 = 0) : CM (d + 3) 1 6 yX5_back cX5_back 2 (some .int) [.ref 0, .int t] b Y M (.inr "java/lang/UnsupportedOperationException") (jref M 5 0) := by
  refine Con.of (by decide +kernel) (Nat.le_of_ble_eq_true rfl) rfl fun p l e s m args below meth c D tyc A ad0 x hr htab hname => ?_
  change JJ _ _ _ _ _ _ _ _ _ _ _ _ _ _ _ _ _ 0 [some (.ref 0), some (.int t)] [] _ 0 0
  refine j_aload_n x dX5_back_0 rfl ?_
  refine j_iload_n x dX5_back_1 rfl ?_
  refine j2_callVi x hb dX5_back_2 m_X5_isBackRefused (c_isBackRefused0 (d := d) hb hD) wmX5_150 jc_9 rfl rfl rfl (Nat.le_of_ble_eq_true rfl) (j_fit_rm (by omega) (by omega) (by omega)) rfl ?_
  refine j_if_eq (tgt := 18) x dX5_back_5 (by decide) (fun hc => absurd hc (by decide)) (fun hc => ?_)
  exact j_throwS x exX5_66 wsX5_153 dX5_back_8 dX5_back_11 dX5_back_12 dX5_back_14 dX5_back_17 htab (by omega) (by omega) ⟨rfl, rfl⟩
theorem c_putOff_0 {d : Nat} {b : SBt} {Y : OUt} {M : MM} (hb : 104 ≤ b.2.1) {t u : Int32} (hD : M 1 2 = 0) : CM (d + 3) 1 6 yX5_putOff cX5_putOff 4 (some .int) [.ref 0, .int t, .int u] b Y M (.inr "java/lang/UnsupportedOperationException") (jref M 5 0) := by
  refine Con.of (by decide +kernel) (Nat.le_of_ble_eq_true rfl) rfl fun p l e s m args below meth c D tyc A ad0 x hr htab hname => ?_
  change JJ _ _ _ _ _ _ _ _ _ _ _ _ _ _ _ _ _ 0 [some (.ref 0), some (.int t), some (.int u), none] [] _ 0 0
  refine j_aload_n x dX5_putOff_0 rfl ?_
  refine j_iload_n x dX5_putOff_1 rfl ?_
  refine j_iload_n x dX5_putOff_2 rfl ?_
  refine j2_callVi x hb dX5_putOff_3 m_X5_isPutOffRefused (c_isPutOffRefused0 (d := d) hb hD) wmX5_155 jc_9 rfl rfl rfl (Nat.le_of_ble_eq_true rfl) (j_fit_rm (by omega) (by omega) (by omega)) rfl ?_
  refine j_if_eq (tgt := 19) x dX5_putOff_6 (by decide) (fun hc => absurd hc (by decide)) (fun hc => ?_)
  exact j_throwS x exX5_66 wsX5_158 dX5_putOff_9 dX5_putOff_12 dX5_putOff_13 dX5_putOff_15 dX5_putOff_18 htab (by omega) (by omega) ⟨rfl, rfl⟩
theorem c_next_0 {d : Nat} {b : SBt} {Y : OUt} {M : MM} (hb : 104 ≤ b.2.1)  (hD : M 1 2 = 0) : CM (d + 3) 1 6 yX5_next cX5_next 1 (some .int) [.ref 0] b Y M (.inr "java/lang/UnsupportedOperationException") (jref M 5 0) := by
  refine Con.of (by decide +kernel) (Nat.le_of_ble_eq_true rfl) rfl fun p l e s m args below meth c D tyc A ad0 x hr htab hname => ?_
  change JJ _ _ _ _ _ _ _ _ _ _ _ _ _ _ _ _ _ 0 [some (.ref 0)] [] _ 0 0
  refine j_aload_n x dX5_next_0 rfl ?_
  refine j2_callVi x hb dX5_next_1 m_X5_isNextRefused (c_isNextRefused0 (d := d) hb hD) wmX5_169 jc_9 rfl rfl rfl (Nat.le_of_ble_eq_true rfl) (j_fit_rm (by omega) (by omega) (by omega)) rfl ?_
  refine j_if_eq (tgt := 17) x dX5_next_4 (by decide) (fun hc => absurd hc (by decide)) (fun hc => ?_)
  exact j_throwS x exX5_66 wsX5_172 dX5_next_7 dX5_next_10 dX5_next_11 dX5_next_13 dX5_next_16 htab (by omega) (by omega) ⟨rfl, rfl⟩
theorem c_teamOf_0 {d : Nat} {b : SBt} {Y : OUt} {M : MM} (hb : 104 ≤ b.2.1) {t u : Int32} (hT : M 1 0 = 0) : CM (d + 1) 1 6 yX5_teamOf cX5_teamOf 3 (some .int) [.ref 0, .int t, .int u] b Y M (.inr "java/lang/IndexOutOfBoundsException") (M) := by
  refine Con.of (by decide +kernel) (Nat.le_of_ble_eq_true rfl) rfl fun p l e s m args below meth c D tyc A ad0 x hr htab hname => ?_
  change JJ _ _ _ _ _ _ _ _ _ _ _ _ _ _ _ _ _ 0 [some (.ref 0), some (.int t), some (.int u)] [] _ 0 0
  refine j_aload_n x dX5_teamOf_0 rfl ?_
  refine j_iload_n x dX5_teamOf_1 rfl ?_
  refine j2_callVi x hb dX5_teamOf_2 m_X5_isTeam (CM_v (c_isTeam (d := d) hb) (no_team hT)) wmX5_174 jc_9 rfl rfl rfl (Nat.le_of_ble_eq_true rfl) (j_fit_rm (by omega) (by omega) (by omega)) rfl ?_
  refine j_if_ne (tgt := 18) x dX5_teamOf_5 (by decide) (fun hc => absurd hc (fun q => q rfl)) (fun hc => ?_)
  exact j_throwS x exX5_177 wsX5_179 dX5_teamOf_8 dX5_teamOf_11 dX5_teamOf_12 dX5_teamOf_14 dX5_teamOf_17 htab (by omega) (by omega) ⟨rfl, rfl⟩
theorem c_pointsAgain_0 {d : Nat} {b : SBt} {Y : OUt} {M : MM} (hb : 104 ≤ b.2.1) {t : Int32} (hT : M 1 0 = 0) : CM (d + 1) 1 6 yX5_pointsAgain cX5_pointsAgain 2 (some .int) [.ref 0, .int t] b Y M (.inr "java/lang/IndexOutOfBoundsException") (M) := by
  refine Con.of (by decide +kernel) (Nat.le_of_ble_eq_true rfl) rfl fun p l e s m args below meth c D tyc A ad0 x hr htab hname => ?_
  change JJ _ _ _ _ _ _ _ _ _ _ _ _ _ _ _ _ _ 0 [some (.ref 0), some (.int t)] [] _ 0 0
  refine j_aload_n x dX5_pointsAgain_0 rfl ?_
  refine j_iload_n x dX5_pointsAgain_1 rfl ?_
  refine j2_callVi x hb dX5_pointsAgain_2 m_X5_isTeam (CM_v (c_isTeam (d := d) hb) (no_team hT)) wmX5_174 jc_9 rfl rfl rfl (Nat.le_of_ble_eq_true rfl) (j_fit_rm (by omega) (by omega) (by omega)) rfl ?_
  refine j_if_ne (tgt := 18) x dX5_pointsAgain_5 (by decide) (fun hc => absurd hc (fun q => q rfl)) (fun hc => ?_)
  exact j_throwS x exX5_177 wsX5_179 dX5_pointsAgain_8 dX5_pointsAgain_11 dX5_pointsAgain_12 dX5_pointsAgain_14 dX5_pointsAgain_17 htab (by omega) (by omega) ⟨rfl, rfl⟩
theorem c_placeOf_0 {d : Nat} {b : SBt} {Y : OUt} {M : MM} (hb : 104 ≤ b.2.1) {t : Int32} (hT : M 1 0 = 0) : CM (d + 1) 1 6 yX5_placeOf cX5_placeOf 4 (some .int) [.ref 0, .int t] b Y M (.inr "java/lang/IndexOutOfBoundsException") (M) := by
  refine Con.of (by decide +kernel) (Nat.le_of_ble_eq_true rfl) rfl fun p l e s m args below meth c D tyc A ad0 x hr htab hname => ?_
  change JJ _ _ _ _ _ _ _ _ _ _ _ _ _ _ _ _ _ 0 [some (.ref 0), some (.int t), none, none] [] _ 0 0
  refine j_aload_n x dX5_placeOf_0 rfl ?_
  refine j_iload_n x dX5_placeOf_1 rfl ?_
  refine j2_callVi x hb dX5_placeOf_2 m_X5_isTeam (CM_v (c_isTeam (d := d) hb) (no_team hT)) wmX5_174 jc_9 rfl rfl rfl (Nat.le_of_ble_eq_true rfl) (j_fit_rm (by omega) (by omega) (by omega)) rfl ?_
  refine j_if_ne (tgt := 18) x dX5_placeOf_5 (by decide) (fun hc => absurd hc (fun q => q rfl)) (fun hc => ?_)
  exact j_throwS x exX5_177 wsX5_179 dX5_placeOf_8 dX5_placeOf_11 dX5_placeOf_12 dX5_placeOf_14 dX5_placeOf_17 htab (by omega) (by omega) ⟨rfl, rfl⟩
theorem c_valueOf_0 {d : Nat} {b : SBt} {Y : OUt} {M : MM} (hb : 104 ≤ b.2.1) {t u : Int32} (hT : M 1 0 = 0) : CM (d + 1) 1 6 yX5_valueOf cX5_valueOf 3 (some .int) [.ref 0, .int t, .int u] b Y M (.inr "java/lang/IndexOutOfBoundsException") (M) := by
  refine Con.of (by decide +kernel) (Nat.le_of_ble_eq_true rfl) rfl fun p l e s m args below meth c D tyc A ad0 x hr htab hname => ?_
  change JJ _ _ _ _ _ _ _ _ _ _ _ _ _ _ _ _ _ 0 [some (.ref 0), some (.int t), some (.int u)] [] _ 0 0
  refine j_aload_n x dX5_valueOf_0 rfl ?_
  refine j_iload_n x dX5_valueOf_1 rfl ?_
  refine j2_callVi x hb dX5_valueOf_2 m_X5_isTeam (CM_v (c_isTeam (d := d) hb) (no_team hT)) wmX5_174 jc_9 rfl rfl rfl (Nat.le_of_ble_eq_true rfl) (j_fit_rm (by omega) (by omega) (by omega)) rfl ?_
  refine j_if_ne (tgt := 18) x dX5_valueOf_5 (by decide) (fun hc => absurd hc (fun q => q rfl)) (fun hc => ?_)
  exact j_throwS x exX5_177 wsX5_179 dX5_valueOf_8 dX5_valueOf_11 dX5_valueOf_12 dX5_valueOf_14 dX5_valueOf_17 htab (by omega) (by omega) ⟨rfl, rfl⟩
theorem c_tied_0 {d : Nat} {b : SBt} {Y : OUt} {M : MM} (hb : 104 ≤ b.2.1) {t : Int32} (hT : M 1 0 = 0) : CM (d + 1) 1 6 yX5_tied cX5_tied 4 (some .int) [.ref 0, .int t] b Y M (.inr "java/lang/IndexOutOfBoundsException") (M) := by
  refine Con.of (by decide +kernel) (Nat.le_of_ble_eq_true rfl) rfl fun p l e s m args below meth c D tyc A ad0 x hr htab hname => ?_
  change JJ _ _ _ _ _ _ _ _ _ _ _ _ _ _ _ _ _ 0 [some (.ref 0), some (.int t), none, none] [] _ 0 0
  refine j_aload_n x dX5_tied_0 rfl ?_
  refine j_iload_n x dX5_tied_1 rfl ?_
  refine j2_callVi x hb dX5_tied_2 m_X5_isTeam (CM_v (c_isTeam (d := d) hb) (no_team hT)) wmX5_174 jc_9 rfl rfl rfl (Nat.le_of_ble_eq_true rfl) (j_fit_rm (by omega) (by omega) (by omega)) rfl ?_
  refine j_if_ne (tgt := 18) x dX5_tied_5 (by decide) (fun hc => absurd hc (fun q => q rfl)) (fun hc => ?_)
  exact j_throwS x exX5_177 wsX5_179 dX5_tied_8 dX5_tied_11 dX5_tied_12 dX5_tied_14 dX5_tied_17 htab (by omega) (by omega) ⟨rfl, rfl⟩
theorem c_most_0 {d : Nat} {b : SBt} {Y : OUt} {M : MM} (hb : 104 ≤ b.2.1) {t : Int32} (hT : M 1 0 = 0) : CM (d + 1) 1 6 yX5_most cX5_most 2 (some .int) [.ref 0, .int t] b Y M (.inr "java/lang/IndexOutOfBoundsException") (M) := by
  refine Con.of (by decide +kernel) (Nat.le_of_ble_eq_true rfl) rfl fun p l e s m args below meth c D tyc A ad0 x hr htab hname => ?_
  change JJ _ _ _ _ _ _ _ _ _ _ _ _ _ _ _ _ _ 0 [some (.ref 0), some (.int t)] [] _ 0 0
  refine j_aload_n x dX5_most_0 rfl ?_
  refine j_iload_n x dX5_most_1 rfl ?_
  refine j2_callVi x hb dX5_most_2 m_X5_isTeam (CM_v (c_isTeam (d := d) hb) (no_team hT)) wmX5_174 jc_9 rfl rfl rfl (Nat.le_of_ble_eq_true rfl) (j_fit_rm (by omega) (by omega) (by omega)) rfl ?_
  refine j_if_ne (tgt := 18) x dX5_most_5 (by decide) (fun hc => absurd hc (fun q => q rfl)) (fun hc => ?_)
  exact j_throwS x exX5_177 wsX5_179 dX5_most_8 dX5_most_11 dX5_most_12 dX5_most_14 dX5_most_17 htab (by omega) (by omega) ⟨rfl, rfl⟩
theorem c_isSafe_0 {d : Nat} {b : SBt} {Y : OUt} {M : MM} (hb : 104 ≤ b.2.1) {t : Int32} (hT : M 1 0 = 0) : CM (d + 1) 1 6 yX5_isSafe cX5_isSafe 2 (some .boolean) [.ref 0, .int t] b Y M (.inr "java/lang/IndexOutOfBoundsException") (M) := by
  refine Con.of (by decide +kernel) (Nat.le_of_ble_eq_true rfl) rfl fun p l e s m args below meth c D tyc A ad0 x hr htab hname => ?_
  change JJ _ _ _ _ _ _ _ _ _ _ _ _ _ _ _ _ _ 0 [some (.ref 0), some (.int t)] [] _ 0 0
  refine j_aload_n x dX5_isSafe_0 rfl ?_
  refine j_iload_n x dX5_isSafe_1 rfl ?_
  refine j2_callVi x hb dX5_isSafe_2 m_X5_isTeam (CM_v (c_isTeam (d := d) hb) (no_team hT)) wmX5_174 jc_9 rfl rfl rfl (Nat.le_of_ble_eq_true rfl) (j_fit_rm (by omega) (by omega) (by omega)) rfl ?_
  refine j_if_ne (tgt := 18) x dX5_isSafe_5 (by decide) (fun hc => absurd hc (fun q => q rfl)) (fun hc => ?_)
  exact j_throwS x exX5_177 wsX5_179 dX5_isSafe_8 dX5_isSafe_11 dX5_isSafe_12 dX5_isSafe_14 dX5_isSafe_17 htab (by omega) (by omega) ⟨rfl, rfl⟩
theorem c_isOut_0 {d : Nat} {b : SBt} {Y : OUt} {M : MM} (hb : 104 ≤ b.2.1) {t : Int32} (hT : M 1 0 = 0) : CM (d + 1) 1 6 yX5_isOut cX5_isOut 2 (some .boolean) [.ref 0, .int t] b Y M (.inr "java/lang/IndexOutOfBoundsException") (M) := by
  refine Con.of (by decide +kernel) (Nat.le_of_ble_eq_true rfl) rfl fun p l e s m args below meth c D tyc A ad0 x hr htab hname => ?_
  change JJ _ _ _ _ _ _ _ _ _ _ _ _ _ _ _ _ _ 0 [some (.ref 0), some (.int t)] [] _ 0 0
  refine j_aload_n x dX5_isOut_0 rfl ?_
  refine j_iload_n x dX5_isOut_1 rfl ?_
  refine j2_callVi x hb dX5_isOut_2 m_X5_isTeam (CM_v (c_isTeam (d := d) hb) (no_team hT)) wmX5_174 jc_9 rfl rfl rfl (Nat.le_of_ble_eq_true rfl) (j_fit_rm (by omega) (by omega) (by omega)) rfl ?_
  refine j_if_ne (tgt := 18) x dX5_isOut_5 (by decide) (fun hc => absurd hc (fun q => q rfl)) (fun hc => ?_)
  exact j_throwS x exX5_177 wsX5_179 dX5_isOut_8 dX5_isOut_11 dX5_isOut_12 dX5_isOut_14 dX5_isOut_17 htab (by omega) (by omega) ⟨rfl, rfl⟩
theorem c_run_0 {d : Nat} {b : SBt} {Y : OUt} {M : MM} (hb : 104 ≤ b.2.1) {t : Int32} (hT : M 1 0 = 0) : CM (d + 1) 1 6 yX5_run cX5_run 5 (some .int) [.ref 0, .int t] b Y M (.inr "java/lang/IndexOutOfBoundsException") (M) := by
  refine Con.of (by decide +kernel) (Nat.le_of_ble_eq_true rfl) rfl fun p l e s m args below meth c D tyc A ad0 x hr htab hname => ?_
  change JJ _ _ _ _ _ _ _ _ _ _ _ _ _ _ _ _ _ 0 [some (.ref 0), some (.int t), none, none, none] [] _ 0 0
  refine j_aload_n x dX5_run_0 rfl ?_
  refine j_iload_n x dX5_run_1 rfl ?_
  refine j2_callVi x hb dX5_run_2 m_X5_isTeam (CM_v (c_isTeam (d := d) hb) (no_team hT)) wmX5_174 jc_9 rfl rfl rfl (Nat.le_of_ble_eq_true rfl) (j_fit_rm (by omega) (by omega) (by omega)) rfl ?_
  refine j_if_ne (tgt := 18) x dX5_run_5 (by decide) (fun hc => absurd hc (fun q => q rfl)) (fun hc => ?_)
  exact j_throwS x exX5_177 wsX5_179 dX5_run_8 dX5_run_11 dX5_run_12 dX5_run_14 dX5_run_17 htab (by omega) (by omega) ⟨rfl, rfl⟩
theorem c_line_0 {d : Nat} {b : SBt} {Y : OUt} {M : MM} (hb : 104 ≤ b.2.1) {t : Int32} (hT : M 1 0 = 0) : CM (d + 1) 1 6 yX5_line cX5_line 2 (some .int) [.ref 0, .int t] b Y M (.inr "java/lang/IndexOutOfBoundsException") (M) := by
  refine Con.of (by decide +kernel) (Nat.le_of_ble_eq_true rfl) rfl fun p l e s m args below meth c D tyc A ad0 x hr htab hname => ?_
  change JJ _ _ _ _ _ _ _ _ _ _ _ _ _ _ _ _ _ 0 [some (.ref 0), some (.int t)] [] _ 0 0
  refine j_aload_n x dX5_line_0 rfl ?_
  refine j_iload_n x dX5_line_1 rfl ?_
  refine j2_callVi x hb dX5_line_2 m_X5_isTeam (CM_v (c_isTeam (d := d) hb) (no_team hT)) wmX5_174 jc_9 rfl rfl rfl (Nat.le_of_ble_eq_true rfl) (j_fit_rm (by omega) (by omega) (by omega)) rfl ?_
  refine j_if_ne (tgt := 18) x dX5_line_5 (by decide) (fun hc => absurd hc (fun q => q rfl)) (fun hc => ?_)
  exact j_throwS x exX5_177 wsX5_179 dX5_line_8 dX5_line_11 dX5_line_12 dX5_line_14 dX5_line_17 htab (by omega) (by omega) ⟨rfl, rfl⟩
theorem c_find_0 {d : Nat} {b : SBt} {Y : OUt} {M : MM} (hb : 104 ≤ b.2.1) {t u : Int32} (hT : M 1 0 = 0) : CM (d + 1) 1 6 yX5_find cX5_find 4 (some .int) [.ref 0, .int t, .int u] b Y M (.inr "java/lang/IndexOutOfBoundsException") (M) := by
  refine Con.of (by decide +kernel) (Nat.le_of_ble_eq_true rfl) rfl fun p l e s m args below meth c D tyc A ad0 x hr htab hname => ?_
  change JJ _ _ _ _ _ _ _ _ _ _ _ _ _ _ _ _ _ 0 [some (.ref 0), some (.int t), some (.int u), none] [] _ 0 0
  refine j_aload_n x dX5_find_0 rfl ?_
  refine j_iload_n x dX5_find_1 rfl ?_
  refine j2_callVi x hb dX5_find_2 m_X5_isTeam (CM_v (c_isTeam (d := d) hb) (no_team hT)) wmX5_174 jc_9 rfl rfl rfl (Nat.le_of_ble_eq_true rfl) (j_fit_rm (by omega) (by omega) (by omega)) rfl ?_
  refine j_if_eq (tgt := 16) x dX5_find_5 (by decide) (fun hc => ?_) (fun hc => absurd (rfl) hc)
  exact j_throwS x exX5_177 wsX5_179 dX5_find_16 dX5_find_19 dX5_find_20 dX5_find_22 dX5_find_25 htab (by omega) (by omega) ⟨rfl, rfl⟩
theorem c_meetingOf_0 {d : Nat} {b : SBt} {Y : OUt} {M : MM} (hb : 104 ≤ b.2.1) {t u : Int32} (hD : M 1 2 = 0) : CM (d + 2) 1 6 yX5_meetingOf cX5_meetingOf 3 (some .int) [.ref 0, .int t, .int u] b Y M (.inr "java/lang/IndexOutOfBoundsException") (M) := by
  refine Con.of (by decide +kernel) (Nat.le_of_ble_eq_true rfl) rfl fun p l e s m args below meth c D tyc A ad0 x hr htab hname => ?_
  change JJ _ _ _ _ _ _ _ _ _ _ _ _ _ _ _ _ _ 0 [some (.ref 0), some (.int t), some (.int u)] [] _ 0 0
  refine j_aload_n x dX5_meetingOf_0 rfl ?_
  refine j_iload_n x dX5_meetingOf_1 rfl ?_
  refine j2_callVi x hb dX5_meetingOf_2 m_X5_isMeeting (CM_v (c_isMeeting (d := d) hb) (no_meet hD)) wmX5_214 jc_9 rfl rfl rfl (Nat.le_of_ble_eq_true rfl) (j_fit_rm (by omega) (by omega) (by omega)) rfl ?_
  refine j_if_ne (tgt := 18) x dX5_meetingOf_5 (by decide) (fun hc => absurd hc (fun q => q rfl)) (fun hc => ?_)
  exact j_throwS x exX5_177 wsX5_217 dX5_meetingOf_8 dX5_meetingOf_11 dX5_meetingOf_12 dX5_meetingOf_14 dX5_meetingOf_17 htab (by omega) (by omega) ⟨rfl, rfl⟩
theorem c_freeWeek_0 {d : Nat} {b : SBt} {Y : OUt} {M : MM} (hb : 104 ≤ b.2.1) {t : Int32} (hD : M 1 2 = 0) : CM (d + 2) 1 6 yX5_freeWeek cX5_freeWeek 3 (some .int) [.ref 0, .int t] b Y M (.inr "java/lang/IndexOutOfBoundsException") (M) := by
  refine Con.of (by decide +kernel) (Nat.le_of_ble_eq_true rfl) rfl fun p l e s m args below meth c D tyc A ad0 x hr htab hname => ?_
  change JJ _ _ _ _ _ _ _ _ _ _ _ _ _ _ _ _ _ 0 [some (.ref 0), some (.int t), none] [] _ 0 0
  refine j_aload_n x dX5_freeWeek_0 rfl ?_
  refine j_iload_n x dX5_freeWeek_1 rfl ?_
  refine j2_callVi x hb dX5_freeWeek_2 m_X5_isMeeting (CM_v (c_isMeeting (d := d) hb) (no_meet hD)) wmX5_214 jc_9 rfl rfl rfl (Nat.le_of_ble_eq_true rfl) (j_fit_rm (by omega) (by omega) (by omega)) rfl ?_
  refine j_if_ne (tgt := 18) x dX5_freeWeek_5 (by decide) (fun hc => absurd hc (fun q => q rfl)) (fun hc => ?_)
  exact j_throwS x exX5_177 wsX5_217 dX5_freeWeek_8 dX5_freeWeek_11 dX5_freeWeek_12 dX5_freeWeek_14 dX5_freeWeek_17 htab (by omega) (by omega) ⟨rfl, rfl⟩
theorem c_byeIn_0 {d : Nat} {b : SBt} {Y : OUt} {M : MM} (hb : 104 ≤ b.2.1) {t : Int32} (hD : M 1 2 = 0) : CM (d + 2) 1 6 yX5_byeIn cX5_byeIn 3 (some .int) [.ref 0, .int t] b Y M (.inr "java/lang/IndexOutOfBoundsException") (M) := by
  refine Con.of (by decide +kernel) (Nat.le_of_ble_eq_true rfl) rfl fun p l e s m args below meth c D tyc A ad0 x hr htab hname => ?_
  change JJ _ _ _ _ _ _ _ _ _ _ _ _ _ _ _ _ _ 0 [some (.ref 0), some (.int t), none] [] _ 0 0
  refine j_aload_n x dX5_byeIn_0 rfl ?_
  refine j_iload_n x dX5_byeIn_1 rfl ?_
  refine j2_callVi x hb dX5_byeIn_2 m_X5_isWeek (CM_v (c_isWeek (d := d) hb) (no_week hD)) wmX5_248 jc_9 rfl rfl rfl (Nat.le_of_ble_eq_true rfl) (j_fit_rm (by omega) (by omega) (by omega)) rfl ?_
  refine j_if_ne (tgt := 18) x dX5_byeIn_5 (by decide) (fun hc => absurd hc (fun q => q rfl)) (fun hc => ?_)
  exact j_throwS x exX5_177 wsX5_251 dX5_byeIn_8 dX5_byeIn_11 dX5_byeIn_12 dX5_byeIn_14 dX5_byeIn_17 htab (by omega) (by omega) ⟨rfl, rfl⟩
theorem c_meetingsIn_0 {d : Nat} {b : SBt} {Y : OUt} {M : MM} (hb : 104 ≤ b.2.1) {t : Int32} (hD : M 1 2 = 0) : CM (d + 2) 1 6 yX5_meetingsIn cX5_meetingsIn 4 (some .int) [.ref 0, .int t] b Y M (.inr "java/lang/IndexOutOfBoundsException") (M) := by
  refine Con.of (by decide +kernel) (Nat.le_of_ble_eq_true rfl) rfl fun p l e s m args below meth c D tyc A ad0 x hr htab hname => ?_
  change JJ _ _ _ _ _ _ _ _ _ _ _ _ _ _ _ _ _ 0 [some (.ref 0), some (.int t), none, none] [] _ 0 0
  refine j_aload_n x dX5_meetingsIn_0 rfl ?_
  refine j_iload_n x dX5_meetingsIn_1 rfl ?_
  refine j2_callVi x hb dX5_meetingsIn_2 m_X5_isWeek (CM_v (c_isWeek (d := d) hb) (no_week hD)) wmX5_248 jc_9 rfl rfl rfl (Nat.le_of_ble_eq_true rfl) (j_fit_rm (by omega) (by omega) (by omega)) rfl ?_
  refine j_if_ne (tgt := 18) x dX5_meetingsIn_5 (by decide) (fun hc => absurd hc (fun q => q rfl)) (fun hc => ?_)
  exact j_throwS x exX5_177 wsX5_251 dX5_meetingsIn_8 dX5_meetingsIn_11 dX5_meetingsIn_12 dX5_meetingsIn_14 dX5_meetingsIn_17 htab (by omega) (by omega) ⟨rfl, rfl⟩
theorem c_clashes_0 {d : Nat} {b : SBt} {Y : OUt} {M : MM} (hb : 104 ≤ b.2.1) {t : Int32} (hD : M 1 2 = 0) : CM (d + 2) 1 6 yX5_clashes cX5_clashes 2 (some .int) [.ref 0, .int t] b Y M (.inr "java/lang/IndexOutOfBoundsException") (M) := by
  refine Con.of (by decide +kernel) (Nat.le_of_ble_eq_true rfl) rfl fun p l e s m args below meth c D tyc A ad0 x hr htab hname => ?_
  change JJ _ _ _ _ _ _ _ _ _ _ _ _ _ _ _ _ _ 0 [some (.ref 0), some (.int t)] [] _ 0 0
  refine j_aload_n x dX5_clashes_0 rfl ?_
  refine j_iload_n x dX5_clashes_1 rfl ?_
  refine j2_callVi x hb dX5_clashes_2 m_X5_isWeek (CM_v (c_isWeek (d := d) hb) (no_week hD)) wmX5_248 jc_9 rfl rfl rfl (Nat.le_of_ble_eq_true rfl) (j_fit_rm (by omega) (by omega) (by omega)) rfl ?_
  refine j_if_ne (tgt := 18) x dX5_clashes_5 (by decide) (fun hc => absurd hc (fun q => q rfl)) (fun hc => ?_)
  exact j_throwS x exX5_177 wsX5_251 dX5_clashes_8 dX5_clashes_11 dX5_clashes_12 dX5_clashes_14 dX5_clashes_17 htab (by omega) (by omega) ⟨rfl, rfl⟩
theorem c_ranked_0 {d : Nat} {b : SBt} {Y : OUt} {M : MM} (hb : 104 ≤ b.2.1) {t : Int32} (hT : M 1 0 = 0) : CM (d) 1 6 yX5_ranked cX5_ranked 2 (some .int) [.ref 0, .int t] b Y M (.inr "java/util/NoSuchElementException") (M) := by
  refine Con.of (by decide +kernel) (Nat.le_of_ble_eq_true rfl) rfl fun p l e s m args below meth c D tyc A ad0 x hr htab hname => ?_
  change JJ _ _ _ _ _ _ _ _ _ _ _ _ _ _ _ _ _ 0 [some (.ref 0), some (.int t)] [] _ 0 0
  refine j_iload_n x dX5_ranked_0 rfl ?_
  refine j_if_lt (tgt := 15) x dX5_ranked_1 (by decide) (fun h1 => ?_) (fun h1 => ?_)
  · exact j_throwNSW x exX5_243 wsX5_269 dX5_ranked_15 dX5_ranked_18 dX5_ranked_19 dX5_ranked_22 dX5_ranked_25 htab (by omega) (by omega) ⟨rfl, rfl⟩
  · refine j_iload_n x dX5_ranked_4 rfl ?_
    refine j_aload_n x dX5_ranked_5 rfl ?_
    refine j2_getr (k := 0) (r := 1) x hb dX5_ranked_6 jc_9 wfX5_10 (by decide) rfl ?_
    refine j2_geti (k := 0) x hb dX5_ranked_9 jc_6 wfX5_80 (by decide) rfl ?_
    refine j_icmp_lt (tgt := 26) x dX5_ranked_12 (by decide) (fun hc => absurd hc (fun q => h1 (by rw [hT] at q; exact q))) (fun hc => ?_)
    exact j_throwNSW x exX5_243 wsX5_269 dX5_ranked_15 dX5_ranked_18 dX5_ranked_19 dX5_ranked_22 dX5_ranked_25 htab (by omega) (by omega) ⟨rfl, rfl⟩
theorem c_meanGoals_0 {d : Nat} {b : SBt} {Y : OUt} {M : MM} (hb : 104 ≤ b.2.1) (hD : M 1 2 = 0) : CM (d + 4) 1 6 yX5_meanGoals cX5_meanGoals 1 (some .float) [.ref 0] b Y M (.inr "java/lang/ArithmeticException") (jclear M) := by
  refine Con.of (by decide +kernel) (Nat.le_of_ble_eq_true rfl) rfl fun p l e s m args below meth c D tyc A ad0 x hr htab hname => ?_
  change JJ _ _ _ _ _ _ _ _ _ _ _ _ _ _ _ _ _ 0 [some (.ref 0)] [] _ 0 0
  refine j_aload_n x dX5_meanGoals_0 rfl ?_
  refine j2_callVv x hb dX5_meanGoals_1 m_X5_count (c_count0 (d := d) hb hD) wmX5_187 jc_9 rfl rfl rfl (Nat.le_of_ble_eq_true rfl) (j_fit_rm (by omega) (by omega) (by omega)) rfl ?_
  refine j_aload_n x dX5_meanGoals_4 rfl ?_
  refine j2_getr (k := 5) (r := 75) x hb dX5_meanGoals_5 jc_9 wfX5_36 (by decide) rfl ?_
  refine j2_geti (k := 0) x hb dX5_meanGoals_8 jc_7 wfX5_372 (by decide) rfl ?_
  refine j_if_ne (tgt := 25) x dX5_meanGoals_11 (by decide) (fun hc => absurd hc (fun q => q jclear_0)) (fun hc => ?_)
  exact j_throwSW x exX5_375 wsX5_377 dX5_meanGoals_14 dX5_meanGoals_17 dX5_meanGoals_18 dX5_meanGoals_21 dX5_meanGoals_24 htab (by omega) (by omega) ⟨rfl, rfl⟩
theorem c_homeShare_0 {d : Nat} {b : SBt} {Y : OUt} {M : MM} (hb : 104 ≤ b.2.1) (hD : M 1 2 = 0) : CM (d + 4) 1 6 yX5_homeShare cX5_homeShare 1 (some .double) [.ref 0] b Y M (.inr "java/lang/ArithmeticException") (jclear M) := by
  refine Con.of (by decide +kernel) (Nat.le_of_ble_eq_true rfl) rfl fun p l e s m args below meth c D tyc A ad0 x hr htab hname => ?_
  change JJ _ _ _ _ _ _ _ _ _ _ _ _ _ _ _ _ _ 0 [some (.ref 0)] [] _ 0 0
  refine j_aload_n x dX5_homeShare_0 rfl ?_
  refine j2_callVv x hb dX5_homeShare_1 m_X5_count (c_count0 (d := d) hb hD) wmX5_187 jc_9 rfl rfl rfl (Nat.le_of_ble_eq_true rfl) (j_fit_rm (by omega) (by omega) (by omega)) rfl ?_
  refine j_aload_n x dX5_homeShare_4 rfl ?_
  refine j2_getr (k := 5) (r := 75) x hb dX5_homeShare_5 jc_9 wfX5_36 (by decide) rfl ?_
  refine j2_geti (k := 0) x hb dX5_homeShare_8 jc_7 wfX5_372 (by decide) rfl ?_
  refine j_if_ne (tgt := 25) x dX5_homeShare_11 (by decide) (fun hc => absurd hc (fun q => q jclear_0)) (fun hc => ?_)
  exact j_throwSW x exX5_375 wsX5_377 dX5_homeShare_14 dX5_homeShare_17 dX5_homeShare_18 dX5_homeShare_21 dX5_homeShare_24 htab (by omega) (by omega) ⟨rfl, rfl⟩
theorem c_faultPosition {d : Nat} {b : SBt} {Y : OUt} {M : MM} (hb : 104 ≤ b.2.1)  : CM (d) 0 0 yX5_faultPosition cX5_faultPosition 1 (some .int) [.ref 0] b Y M (.inl (some (.int (M 0 8)))) (M) := by
  refine Con.of (by decide +kernel) (Nat.le_of_ble_eq_true rfl) rfl fun p l e s m args below meth c D tyc A ad0 x hr htab hname => ?_
  change JJ _ _ _ _ _ _ _ _ _ _ _ _ _ _ _ _ _ 0 [some (.ref 0)] [] _ 0 0
  refine j_aload_n x dX5_faultPosition_0 rfl ?_
  refine j2_geti (k := 8) x hb dX5_faultPosition_1 jc_9 wfX5_51 (by decide) rfl ?_
  exact j_ireturn x hr dX5_faultPosition_4 (by omega) (by omega) ⟨rfl, rfl⟩
theorem c_reason_bad {d : Nat} {b : SBt} {Y : OUt} {M : MM} (hb : 104 ≤ b.2.1) {t : Int32} (hx : t < 0 ∨ ¬ t ≤ 2) : CM (d) 1 6 yX5_reason cX5_reason 2 (some .int) [.ref 0, .int t] b Y M (.inr "java/lang/IllegalArgumentException") (M) := by
  refine Con.of (by decide +kernel) (Nat.le_of_ble_eq_true rfl) rfl fun p l e s m args below meth c D tyc A ad0 x hr htab hname => ?_
  change JJ _ _ _ _ _ _ _ _ _ _ _ _ _ _ _ _ _ 0 [some (.ref 0), some (.int t)] [] _ 0 0
  refine j_iload_n x dX5_reason_0 rfl ?_
  refine j_if_lt (tgt := 9) x dX5_reason_1 (by decide) (fun h1 => ?_) (fun h1 => ?_)
  · exact j_throwSW x exX5_182 wsX5_341 dX5_reason_9 dX5_reason_12 dX5_reason_13 dX5_reason_16 dX5_reason_19 htab (by omega) (by omega) ⟨rfl, rfl⟩
  · refine j_iload_n x dX5_reason_4 rfl ?_
    refine j_iconst (v := 2) x dX5_reason_5 (by decide) ?_
    refine j_icmp_le (tgt := 20) x dX5_reason_6 (by decide) (fun hc => absurd hc (hx.resolve_left h1)) (fun hc => ?_)
    exact j_throwSW x exX5_182 wsX5_341 dX5_reason_9 dX5_reason_12 dX5_reason_13 dX5_reason_16 dX5_reason_19 htab (by omega) (by omega) ⟨rfl, rfl⟩
theorem c_reason_no {d : Nat} {b : SBt} {Y : OUt} {M : MM} (hb : 104 ≤ b.2.1) {t : Int32} (hx : ¬ (t < 0 ∨ ¬ t ≤ 2)) (h0 : M 0 9 = 0) : CM (d) 1 6 yX5_reason cX5_reason 2 (some .int) [.ref 0, .int t] b Y M (.inr "java/util/NoSuchElementException") (M) := by
  refine Con.of (by decide +kernel) (Nat.le_of_ble_eq_true rfl) rfl fun p l e s m args below meth c D tyc A ad0 x hr htab hname => ?_
  change JJ _ _ _ _ _ _ _ _ _ _ _ _ _ _ _ _ _ 0 [some (.ref 0), some (.int t)] [] _ 0 0
  refine j_iload_n x dX5_reason_0 rfl ?_
  refine j_if_lt (tgt := 9) x dX5_reason_1 (by decide) (fun hc => absurd hc (fun q => hx (Or.inl q))) (fun hc => ?_)
  refine j_iload_n x dX5_reason_4 rfl ?_
  refine j_iconst (v := 2) x dX5_reason_5 (by decide) ?_
  refine j_icmp_le (tgt := 20) x dX5_reason_6 (by decide) (fun hc => ?_) (fun hc => absurd (Decidable.byContradiction fun q => hx (Or.inr q)) hc)
  refine j_aload_n x dX5_reason_20 rfl ?_
  refine j2_geti (k := 9) x hb dX5_reason_21 jc_9 wfX5_343 (by decide) rfl ?_
  refine j_if_ne (tgt := 38) x dX5_reason_24 (by decide) (fun hc => absurd hc (fun q => q h0)) (fun hc => ?_)
  exact j_throwNSW x exX5_243 wsX5_346 dX5_reason_27 dX5_reason_30 dX5_reason_31 dX5_reason_34 dX5_reason_37 htab (by omega) (by omega) ⟨rfl, rfl⟩
theorem c_undo_no {d : Nat} {b : SBt} {Y : OUt} {M : MM} (hb : 104 ≤ b.2.1) (h0 : M 13 2 = 0) : CM (d) 1 6 yX5_undo cX5_undo 1 (some .int) [.ref 0] b Y M (.inr "java/lang/IllegalStateException") (M) := by
  refine Con.of (by decide +kernel) (Nat.le_of_ble_eq_true rfl) rfl fun p l e s m args below meth c D tyc A ad0 x hr htab hname => ?_
  change JJ _ _ _ _ _ _ _ _ _ _ _ _ _ _ _ _ _ 0 [some (.ref 0)] [] _ 0 0
  refine j_aload_n x dX5_undo_0 rfl ?_
  refine j2_getr (k := 3) (r := 13) x hb dX5_undo_1 jc_9 wfX5_22 (by decide) rfl ?_
  refine j2_geti (k := 2) x hb dX5_undo_4 jc_5 wfX5_404 (by decide) rfl ?_
  refine j_if_ne (tgt := 21) x dX5_undo_7 (by decide) (fun hc => absurd hc (fun q => q h0)) (fun hc => ?_)
  exact j_throwSW x exX5_305 wsX5_407 dX5_undo_10 dX5_undo_13 dX5_undo_14 dX5_undo_17 dX5_undo_20 htab (by omega) (by omega) ⟨rfl, rfl⟩
theorem c_save {d : Nat} {b : SBt} {Y : OUt} {M : MM} (hb : 104 ≤ b.2.1) (hz : M 1 2 = 0 ∨ M 1 2 = 1) : CM (d + 2) 0 0 yX5_save cX5_save 1 (some .int) [.ref 0] b Y M (.inl (some (.int (jm (jlg M 1 7) 0 2 1 1 0)))) (jm (jlg M 1 7) 0 2 1) := by
  refine Con.of (by decide +kernel) (Nat.le_of_ble_eq_true rfl) rfl fun p l e s m args below meth c D tyc A ad0 x hr htab hname => ?_
  change JJ _ _ _ _ _ _ _ _ _ _ _ _ _ _ _ _ _ 0 [some (.ref 0)] [] _ 0 0
  refine j_aload_n x dX5_save_0 rfl ?_
  refine j2_getr (k := 1) (r := 7) x hb dX5_save_1 jc_9 wfX5_16 (by decide) rfl ?_
  refine j_aload_n x dX5_save_4 rfl ?_
  refine j2_getr (k := 0) (r := 1) x hb dX5_save_5 jc_9 wfX5_10 (by decide) rfl ?_
  refine j2_callVv x hb dX5_save_8 m_X2_copyFrom (c_copyFrom (d := d) (a := 1) (g := 7) hb rfl rfl (by decide) hz) wmX5_412 jc_6 rfl rfl rfl (Nat.le_of_ble_eq_true rfl) (j_fit_rm (by omega) (by omega) (by omega)) rfl ?_
  refine j_aload_n x dX5_save_11 rfl ?_
  refine j_iconst (v := 1) x dX5_save_12 (by decide) ?_
  refine j2_puti (k := 2) x hb dX5_save_13 jc_9 wfX5_415 (by decide) rfl rfl rfl rfl ?_
  refine j_aload_n x dX5_save_16 rfl ?_
  refine j2_getr (k := 0) (r := 1) x hb dX5_save_17 jc_9 wfX5_10 (by decide) rfl ?_
  refine j2_geti (k := 0) x hb dX5_save_20 jc_6 wfX5_80 (by decide) rfl ?_
  exact j_ireturn x hr dX5_save_23 (by omega) (by omega) ⟨rfl, rfl⟩
theorem c_restore_no {d : Nat} {b : SBt} {Y : OUt} {M : MM} (hb : 104 ≤ b.2.1) (h0 : M 0 2 = 0) : CM (d) 1 6 yX5_restore cX5_restore 1 (some .int) [.ref 0] b Y M (.inr "java/lang/IllegalStateException") (M) := by
  refine Con.of (by decide +kernel) (Nat.le_of_ble_eq_true rfl) rfl fun p l e s m args below meth c D tyc A ad0 x hr htab hname => ?_
  change JJ _ _ _ _ _ _ _ _ _ _ _ _ _ _ _ _ _ 0 [some (.ref 0)] [] _ 0 0
  refine j_aload_n x dX5_restore_0 rfl ?_
  refine j2_geti (k := 2) x hb dX5_restore_1 jc_9 wfX5_415 (by decide) rfl ?_
  refine j_if_ne (tgt := 18) x dX5_restore_4 (by decide) (fun hc => absurd hc (fun q => q h0)) (fun hc => ?_)
  exact j_throwSW x exX5_305 wsX5_418 dX5_restore_7 dX5_restore_10 dX5_restore_11 dX5_restore_14 dX5_restore_17 htab (by omega) (by omega) ⟨rfl, rfl⟩
theorem c_isFull {d : Nat} {b : SBt} {Y : OUt} {M : MM} (hb : 104 ≤ b.2.1)  : CM (d) 0 0 yX4_isFull cX4_isFull 1 (some .boolean) [.ref 86] b Y M (.inl (some (.int (jb (¬ M 86 0 < 60))))) (M) := by
  refine Con.of (by decide +kernel) (Nat.le_of_ble_eq_true rfl) rfl fun p l e s m args below meth c D tyc A ad0 x hr htab hname => ?_
  change JJ _ _ _ _ _ _ _ _ _ _ _ _ _ _ _ _ _ 0 [some (.ref 86)] [] _ 0 0
  refine j_aload_n x dX4_isFull_0 rfl ?_
  refine j2_geti (k := 0) x hb dX4_isFull_1 jc_8 wfX4_28 (by decide) rfl ?_
  refine j_aload_n x dX4_isFull_4 rfl ?_
  refine j2_getr (k := 3) (r := 87) x hb dX4_isFull_5 jc_8 wfX4_9 (by decide) rfl ?_
  refine j2_alen x hb dX4_isFull_8 fa_87 (by decide) rfl ?_
  refine j_icmp_lt (tgt := 16) x dX4_isFull_9 (by decide) (fun h1 => ?_) (fun h1 => ?_)
  · refine j_iconst (v := 0) x dX4_isFull_16 (by decide) ?_
    exact j_zreturn x hr dX4_isFull_17 (by first | decide | exact jb_nar) (by omega) (by omega) ⟨by rw [jb_f (fun q => q h1)], rfl⟩
  · refine j_iconst (v := 1) x dX4_isFull_12 (by decide) ?_
    refine j_goto (tgt := 17) x dX4_isFull_13 (by decide) ?_
    exact j_zreturn x hr dX4_isFull_17 (by first | decide | exact jb_nar) (by omega) (by omega) ⟨by rw [show jb (¬ M 86 0 < 60) = 1 from jb_t h1], rfl⟩
theorem c_take {d : Nat} {b : SBt} {Y : OUt} {M : MM} (hb : 104 ≤ b.2.1) {v w : Int32} {n : Nat} (hn : n < 60) (h0 : M 86 0 = nI n) (hv : vp_nar .char v = w) : CM (d) 0 0 yX4_take cX4_take 2 none [.ref 86, .int v] b Y M (.inl none) (jm (jm M 87 n w) 86 0 (nI (n + 1))) := by
  refine Con.of (by decide +kernel) (Nat.le_of_ble_eq_true rfl) rfl fun p l e s m args below meth c D tyc A ad0 x hr htab hname => ?_
  change JJ _ _ _ _ _ _ _ _ _ _ _ _ _ _ _ _ _ 0 [some (.ref 86), some (.int v)] [] _ 0 0
  refine j_aload_n x dX4_take_0 rfl ?_
  refine j2_geti (k := 0) x hb dX4_take_1 jc_8 wfX4_28 (by decide) rfl ?_
  refine j_if_lt (tgt := 39) x dX4_take_4 (by decide) (fun hc => absurd hc (by rw [h0]; exact nI_pos (by omega))) (fun hc => ?_)
  refine j_aload_n x dX4_take_7 rfl ?_
  refine j2_geti (k := 0) x hb dX4_take_8 jc_8 wfX4_28 (by decide) rfl ?_
  refine j_aload_n x dX4_take_11 rfl ?_
  refine j2_getr (k := 3) (r := 87) x hb dX4_take_12 jc_8 wfX4_9 (by decide) rfl ?_
  refine j2_alen x hb dX4_take_15 fa_87 (by decide) rfl ?_
  refine j_icmp_ge (tgt := 39) x dX4_take_16 (by decide) (fun hc => absurd hc (by rw [h0]; exact nI_ge (b := 60) hn (by decide))) (fun hc => ?_)
  refine j_aload_n x dX4_take_19 rfl ?_
  refine j2_getr (k := 3) (r := 87) x hb dX4_take_20 jc_8 wfX4_9 (by decide) rfl ?_
  refine j_aload_n x dX4_take_23 rfl ?_
  refine j2_geti (k := 0) x hb dX4_take_24 jc_8 wfX4_28 (by decide) rfl ?_
  refine j_iload_n x dX4_take_27 rfl ?_
  rw [h0]; refine j2_cast x hb dX4_take_28 fa_87 (vp_in_nI hn (by decide)) hv ?_; rw [nI_clamp (by omega)]
  refine j_aload_n x dX4_take_29 rfl ?_
  refine j_dup x dX4_take_30 rfl ?_
  refine j2_geti (k := 0) x hb dX4_take_31 jc_8 wfX4_28 (by decide) rfl ?_
  refine j_iconst (v := 1) x dX4_take_34 (by decide) ?_
  refine j_iadd x dX4_take_35 ?_
  rw [jm_n (by omega), h0, nI_1]; refine j2_puti (k := 0) x hb dX4_take_36 jc_8 wfX4_28 (by decide) rfl rfl rfl rfl ?_
  exact j_return x hr dX4_take_39 (by omega) (by omega) ⟨rfl, rfl⟩
theorem c_append_ok {d : Nat} {b : SBt} {Y : OUt} {M : MM} (hb : 104 ≤ b.2.1) {v w : Int32} {n : Nat} (hn : n < 60) (h0 : M 86 0 = nI n) (hv : vp_nar .char v = w) : CM (d + 1) 1 6 yX5_append cX5_append 2 (some .int) [.ref 0, .int v] b Y M (.inl (some (.int (nI (n + 1))))) (jm (jm M 87 n w) 86 0 (nI (n + 1))) := by
  refine Con.of (by decide +kernel) (Nat.le_of_ble_eq_true rfl) rfl fun p l e s m args below meth c D tyc A ad0 x hr htab hname => ?_
  change JJ _ _ _ _ _ _ _ _ _ _ _ _ _ _ _ _ _ 0 [some (.ref 0), some (.int v)] [] _ 0 0
  refine j_aload_n x dX5_append_0 rfl ?_
  refine j2_getr (k := 7) (r := 86) x hb dX5_append_1 jc_9 wfX5_47 (by decide) rfl ?_
  refine j2_callVi x hb dX5_append_4 m_X4_isFull (CM_v (c_isFull (d := d) hb) (jb_f (fun q => q (by rw [h0]; exact nI_lt (b := 60) hn (by decide))))) wmX5_302 jc_8 rfl rfl rfl (Nat.le_of_ble_eq_true rfl) (j_fit_rm (by omega) (by omega) (by omega)) rfl ?_
  refine j_if_eq (tgt := 21) x dX5_append_7 (by decide) (fun hc => ?_) (fun hc => absurd (rfl) hc)
  refine j_aload_n x dX5_append_21 rfl ?_
  refine j2_getr (k := 7) (r := 86) x hb dX5_append_22 jc_9 wfX5_47 (by decide) rfl ?_
  refine j_iload_n x dX5_append_25 rfl ?_
  refine j2_callVv x hb dX5_append_26 m_X4_take (c_take (d := d) hb hn h0 hv) wmX5_310 jc_8 rfl rfl rfl (Nat.le_of_ble_eq_true rfl) (j_fit_rm (by omega) (by omega) (by omega)) rfl ?_
  refine j_aload_n x dX5_append_29 rfl ?_
  refine j2_getr (k := 7) (r := 86) x hb dX5_append_30 jc_9 wfX5_47 (by decide) rfl ?_
  refine j2_geti (k := 0) x hb dX5_append_33 jc_8 wfX5_314 (by decide) rfl ?_
  exact j_ireturn x hr dX5_append_36 (by omega) (by omega) ⟨by rw [jm_s], rfl⟩
theorem c_sign_end {d : Nat} {b : SBt} {Y : OUt} {M : MM} (hb : 104 ≤ b.2.1) (h1 : M 86 0 ≤ M 86 1) : CM (d) 0 0 yX4_sign cX4_sign 1 (some .int) [.ref 86] b Y M (.inl (some (.int (-1)))) (M) := by
  refine Con.of (by decide +kernel) (Nat.le_of_ble_eq_true rfl) rfl fun p l e s m args below meth c D tyc A ad0 x hr htab hname => ?_
  change JJ _ _ _ _ _ _ _ _ _ _ _ _ _ _ _ _ _ 0 [some (.ref 86)] [] _ 0 0
  refine j_aload_n x dX4_sign_0 rfl ?_
  refine j2_geti (k := 1) x hb dX4_sign_1 jc_8 wfX4_32 (by decide) rfl ?_
  refine j_if_lt (tgt := 42) x dX4_sign_4 (by decide) (fun h2 => ?_) (fun h2 => ?_)
  · refine j_iconst (v := (-1)) x dX4_sign_42 (by decide) ?_
    exact j_ireturn x hr dX4_sign_43 (by omega) (by omega) ⟨rfl, rfl⟩
  · refine j_aload_n x dX4_sign_7 rfl ?_
    refine j2_geti (k := 1) x hb dX4_sign_8 jc_8 wfX4_32 (by decide) rfl ?_
    refine j_aload_n x dX4_sign_11 rfl ?_
    refine j2_geti (k := 0) x hb dX4_sign_12 jc_8 wfX4_28 (by decide) rfl ?_
    refine j_icmp_ge (tgt := 42) x dX4_sign_15 (by decide) (fun hc => ?_) (fun hc => absurd (h1) hc)
    refine j_iconst (v := (-1)) x dX4_sign_42 (by decide) ?_
    exact j_ireturn x hr dX4_sign_43 (by omega) (by omega) ⟨rfl, rfl⟩
theorem c_isCommandParsed_0 {d : Nat} {b : SBt} {Y : OUt} {M : MM} (hb : 104 ≤ b.2.1) (h1 : M 86 0 ≤ M 86 1) : CM (d + 1) 0 0 yX4_isCommandParsed cX4_isCommandParsed 2 (some .boolean) [.ref 86] b Y M (.inl (some (.int 0))) (M) := by
  refine Con.of (by decide +kernel) (Nat.le_of_ble_eq_true rfl) rfl fun p l e s m args below meth c D tyc A ad0 x hr htab hname => ?_
  change JJ _ _ _ _ _ _ _ _ _ _ _ _ _ _ _ _ _ 0 [some (.ref 86), none] [] _ 0 0
  refine j_aload_n x dX4_isCommandParsed_0 rfl ?_
  refine j2_callVi x hb dX4_isCommandParsed_1 m_X4_sign (c_sign_end (d := d) hb h1) wmX4_42 jc_8 rfl rfl rfl (Nat.le_of_ble_eq_true rfl) (j_fit_rm (by omega) (by omega) (by omega)) rfl ?_
  refine j_istore_n x dX4_isCommandParsed_4 (by decide) rfl ?_
  refine j_iload_n x dX4_isCommandParsed_5 rfl ?_
  refine j_lookup (off := 114) (tgt := 120) x dX4_isCommandParsed_6 (by decide) (by decide) (by decide) ?_
  refine j_iconst (v := 0) x dX4_isCommandParsed_120 (by decide) ?_
  exact j_zreturn x hr dX4_isCommandParsed_121 (by first | decide | exact jb_nar) (by omega) (by omega) ⟨rfl, rfl⟩
theorem c_isParsed_0 {d : Nat} {b : SBt} {Y : OUt} {M : MM} (hb : 104 ≤ b.2.1) (h1 : M 86 0 = 0) : CM (d + 2) 0 0 yX4_isParsed cX4_isParsed 2 (some .boolean) [.ref 86] b Y M (.inl (some (.int 0))) (jm (jm M 86 1 0) 86 2 0) := by
  refine Con.of (by decide +kernel) (Nat.le_of_ble_eq_true rfl) rfl fun p l e s m args below meth c D tyc A ad0 x hr htab hname => ?_
  change JJ _ _ _ _ _ _ _ _ _ _ _ _ _ _ _ _ _ 0 [some (.ref 86), none] [] _ 0 0
  refine j_aload_n x dX4_isParsed_0 rfl ?_
  refine j_iconst (v := 0) x dX4_isParsed_1 (by decide) ?_
  refine j2_puti (k := 1) x hb dX4_isParsed_2 jc_8 wfX4_32 (by decide) rfl rfl rfl rfl ?_
  refine j_aload_n x dX4_isParsed_5 rfl ?_
  refine j_iconst (v := 0) x dX4_isParsed_6 (by decide) ?_
  refine j2_puti (k := 2) x hb dX4_isParsed_7 jc_8 wfX4_35 (by decide) rfl rfl rfl rfl ?_
  refine j_iconst (v := 0) x dX4_isParsed_10 (by decide) ?_
  refine j_istore_n x dX4_isParsed_11 (by decide) rfl ?_
  refine j_iload_n x dX4_isParsed_12 rfl ?_
  refine j_bipush (v := 30) x dX4_isParsed_13 (by decide) ?_
  refine j_icmp_ge (tgt := 54) x dX4_isParsed_15 (by decide) (fun hc => absurd hc (by decide)) (fun hc => ?_)
  refine j_aload_n x dX4_isParsed_18 rfl ?_
  refine j2_callVi x hb dX4_isParsed_19 m_X4_isCommandParsed (c_isCommandParsed_0 (d := d) hb (by rw [jm_n (by omega), jm_n (by omega), h1, jm_n (by omega), jm_s]; decide)) wmX4_38 jc_8 rfl rfl rfl (Nat.le_of_ble_eq_true rfl) (j_fit_rm (by omega) (by omega) (by omega)) rfl ?_
  refine j_if_ne (tgt := 27) x dX4_isParsed_22 (by decide) (fun hc => absurd hc (fun q => q rfl)) (fun hc => ?_)
  refine j_iconst (v := 0) x dX4_isParsed_25 (by decide) ?_
  exact j_zreturn x hr dX4_isParsed_26 (by first | decide | exact jb_nar) (by omega) (by omega) ⟨rfl, rfl⟩
def jnocmd (M : MM) : MM := jm (jm (jm (jm M 86 1 0) 86 2 0) 86 0 0) 0 8 (jm (jm (jm M 86 1 0) 86 2 0) 86 0 0 86 1)
theorem c_commands_0 {d : Nat} {b : SBt} {Y : OUt} {M : MM} (hb : 104 ≤ b.2.1) (h1 : M 86 0 = 0) : CM (d + 3) 1 6 yX5_commands cX5_commands 2 (some .int) [.ref 0] b Y M (.inr "java/lang/IllegalArgumentException") (jnocmd M) := by
  refine Con.of (by decide +kernel) (Nat.le_of_ble_eq_true rfl) rfl fun p l e s m args below meth c D tyc A ad0 x hr htab hname => ?_
  change JJ _ _ _ _ _ _ _ _ _ _ _ _ _ _ _ _ _ 0 [some (.ref 0), none] [] _ 0 0
  refine j_aload_n x dX5_commands_0 rfl ?_
  refine j2_getr (k := 7) (r := 86) x hb dX5_commands_1 jc_9 wfX5_47 (by decide) rfl ?_
  refine j2_callVi x hb dX5_commands_4 m_X4_isParsed (c_isParsed_0 (d := d) hb h1) wmX5_317 jc_8 rfl rfl rfl (Nat.le_of_ble_eq_true rfl) (j_fit_rm (by omega) (by omega) (by omega)) rfl ?_
  refine j_istore_n x dX5_commands_7 (by decide) rfl ?_
  refine j_aload_n x dX5_commands_8 rfl ?_
  refine j2_getr (k := 7) (r := 86) x hb dX5_commands_9 jc_9 wfX5_47 (by decide) rfl ?_
  refine j_iconst (v := 0) x dX5_commands_12 (by decide) ?_
  refine j2_puti (k := 0) x hb dX5_commands_13 jc_8 wfX5_314 (by decide) rfl rfl rfl rfl ?_
  refine j_aload_n x dX5_commands_16 rfl ?_
  refine j_iload_n x dX5_commands_17 rfl ?_
  refine j_if_eq (tgt := 25) x dX5_commands_18 (by decide) (fun hc => ?_) (fun hc => absurd (rfl) hc)
  refine j_aload_n x dX5_commands_25 rfl ?_
  refine j2_getr (k := 7) (r := 86) x hb dX5_commands_26 jc_9 wfX5_47 (by decide) rfl ?_
  refine j2_geti (k := 1) x hb dX5_commands_29 jc_8 wfX5_320 (by decide) rfl ?_
  refine j2_puti (k := 8) x hb dX5_commands_32 jc_9 wfX5_51 (by decide) rfl rfl rfl rfl ?_
  refine j_iload_n x dX5_commands_35 rfl ?_
  refine j_if_ne (tgt := 50) x dX5_commands_36 (by decide) (fun hc => absurd hc (fun q => q rfl)) (fun hc => ?_)
  exact j_throwSW x exX5_182 wsX5_323 dX5_commands_39 dX5_commands_42 dX5_commands_43 dX5_commands_46 dX5_commands_49 htab (by omega) (by omega) ⟨rfl, rfl⟩
theorem c_account_bad {d : Nat} {b : SBt} {Y : OUt} {M : MM} (hb : 104 ≤ b.2.1) {t : Int32} (hx : t < 0 ∨ ¬ t ≤ 14) : CM (d) 1 6 yX5_account cX5_account 2 (some .int) [.ref 0, .int t] b Y M (.inr "java/lang/IllegalArgumentException") (M) := by
  refine Con.of (by decide +kernel) (Nat.le_of_ble_eq_true rfl) rfl fun p l e s m args below meth c D tyc A ad0 x hr htab hname => ?_
  change JJ _ _ _ _ _ _ _ _ _ _ _ _ _ _ _ _ _ 0 [some (.ref 0), some (.int t)] [] _ 0 0
  refine j_iload_n x dX5_account_0 rfl ?_
  refine j_if_lt (tgt := 10) x dX5_account_1 (by decide) (fun h1 => ?_) (fun h1 => ?_)
  · exact j_throwSW x exX5_182 wsX5_386 dX5_account_10 dX5_account_13 dX5_account_14 dX5_account_17 dX5_account_20 htab (by omega) (by omega) ⟨rfl, rfl⟩
  · refine j_iload_n x dX5_account_4 rfl ?_
    refine j_bipush (v := 14) x dX5_account_5 (by decide) ?_
    refine j_icmp_le (tgt := 21) x dX5_account_7 (by decide) (fun hc => absurd hc (hx.resolve_left h1)) (fun hc => ?_)
    exact j_throwSW x exX5_182 wsX5_386 dX5_account_10 dX5_account_13 dX5_account_14 dX5_account_17 dX5_account_20 htab (by omega) (by omega) ⟨rfl, rfl⟩
theorem c_allPoints_0 {d : Nat} {b : SBt} {Y : OUt} {M : MM} (hb : 104 ≤ b.2.1) (hT : M 1 0 = 0) : CM (d) 0 0 yX5_allPoints cX5_allPoints 3 (some .int) [.ref 0] b Y M (.inl (some (.int 0))) (M) := by
  refine Con.of (by decide +kernel) (Nat.le_of_ble_eq_true rfl) rfl fun p l e s m args below meth c D tyc A ad0 x hr htab hname => ?_
  change JJ _ _ _ _ _ _ _ _ _ _ _ _ _ _ _ _ _ 0 [some (.ref 0), none, none] [] _ 0 0
  refine j_iconst (v := 0) x dX5_allPoints_0 (by decide) ?_
  refine j_istore_n x dX5_allPoints_1 (by decide) rfl ?_
  refine j_iconst (v := 0) x dX5_allPoints_2 (by decide) ?_
  refine j_istore_n x dX5_allPoints_3 (by decide) rfl ?_
  refine j_iload_n x dX5_allPoints_4 rfl ?_
  refine j_aload_n x dX5_allPoints_5 rfl ?_
  refine j2_getr (k := 0) (r := 1) x hb dX5_allPoints_6 jc_9 wfX5_10 (by decide) rfl ?_
  refine j2_geti (k := 0) x hb dX5_allPoints_9 jc_6 wfX5_80 (by decide) rfl ?_
  refine j_icmp_ge (tgt := 35) x dX5_allPoints_12 (by decide) (fun hc => ?_) (fun hc => absurd (by rw [hT]; decide) hc)
  refine j_iload_n x dX5_allPoints_35 rfl ?_
  exact j_ireturn x hr dX5_allPoints_36 (by omega) (by omega) ⟨rfl, rfl⟩
theorem c_allClashes_0 {d : Nat} {b : SBt} {Y : OUt} {M : MM} (hb : 104 ≤ b.2.1) (hD : M 1 2 = 0) : CM (d + 1) 0 0 yX5_allClashes cX5_allClashes 3 (some .int) [.ref 0] b Y M (.inl (some (.int 0))) (M) := by
  refine Con.of (by decide +kernel) (Nat.le_of_ble_eq_true rfl) rfl fun p l e s m args below meth c D tyc A ad0 x hr htab hname => ?_
  change JJ _ _ _ _ _ _ _ _ _ _ _ _ _ _ _ _ _ 0 [some (.ref 0), none, none] [] _ 0 0
  refine j_iconst (v := 0) x dX5_allClashes_0 (by decide) ?_
  refine j_istore_n x dX5_allClashes_1 (by decide) rfl ?_
  refine j_iconst (v := 0) x dX5_allClashes_2 (by decide) ?_
  refine j_istore_n x dX5_allClashes_3 (by decide) rfl ?_
  refine j_iload_n x dX5_allClashes_4 rfl ?_
  refine j_aload_n x dX5_allClashes_5 rfl ?_
  refine j2_callVi x hb dX5_allClashes_6 m_X5_weekCount (CM_v (c_weekCount (d := d) hb) (if_pos hD)) wmX5_392 jc_9 rfl rfl rfl (Nat.le_of_ble_eq_true rfl) (j_fit_rm (by omega) (by omega) (by omega)) rfl ?_
  refine j_icmp_ge (tgt := 26) x dX5_allClashes_9 (by decide) (fun hc => ?_) (fun hc => absurd (by decide) hc)
  refine j_iload_n x dX5_allClashes_26 rfl ?_
  exact j_ireturn x hr dX5_allClashes_27 (by omega) (by omega) ⟨rfl, rfl⟩
theorem c_putOffCount_0 {d : Nat} {b : SBt} {Y : OUt} {M : MM} (hb : 104 ≤ b.2.1) (hD : M 1 2 = 0) : CM (d + 1) 0 0 yX5_putOffCount cX5_putOffCount 3 (some .int) [.ref 0] b Y M (.inl (some (.int 0))) (M) := by
  refine Con.of (by decide +kernel) (Nat.le_of_ble_eq_true rfl) rfl fun p l e s m args below meth c D tyc A ad0 x hr htab hname => ?_
  change JJ _ _ _ _ _ _ _ _ _ _ _ _ _ _ _ _ _ 0 [some (.ref 0), none, none] [] _ 0 0
  refine j_iconst (v := 0) x dX5_putOffCount_0 (by decide) ?_
  refine j_istore_n x dX5_putOffCount_1 (by decide) rfl ?_
  refine j_iconst (v := 0) x dX5_putOffCount_2 (by decide) ?_
  refine j_istore_n x dX5_putOffCount_3 (by decide) rfl ?_
  refine j_iload_n x dX5_putOffCount_4 rfl ?_
  refine j_aload_n x dX5_putOffCount_5 rfl ?_
  refine j2_callVi x hb dX5_putOffCount_6 m_X5_meetingCount (CM_v (c_meetingCount (d := d) hb) (if_pos hD)) wmX5_258 jc_9 rfl rfl rfl (Nat.le_of_ble_eq_true rfl) (j_fit_rm (by omega) (by omega) (by omega)) rfl ?_
  refine j_icmp_ge (tgt := 30) x dX5_putOffCount_9 (by decide) (fun hc => ?_) (fun hc => absurd (by decide) hc)
  refine j_iload_n x dX5_putOffCount_30 rfl ?_
  exact j_ireturn x hr dX5_putOffCount_31 (by omega) (by omega) ⟨rfl, rfl⟩
theorem jclear_n {M : MM} {i k : Nat} (h : i < 75 ∨ 84 < i) : jclear M i k = M i k := by
  simp only [jclear, jfill, jm]
  grind (splits := 60)
theorem c_account_0 {d : Nat} {b : SBt} {Y : OUt} {M : MM} (hb : 104 ≤ b.2.1) (hT : M 1 0 = 0) (hD : M 1 2 = 0) : CM (d + 4) 1 6 yX5_account cX5_account 2 (some .int) [.ref 0, .int 0] b Y M (.inl (some (.int (M 1 0)))) (jclear M) := by
  refine Con.of (by decide +kernel) (Nat.le_of_ble_eq_true rfl) rfl fun p l e s m args below meth c D tyc A ad0 x hr htab hname => ?_
  change JJ _ _ _ _ _ _ _ _ _ _ _ _ _ _ _ _ _ 0 [some (.ref 0), some (.int 0)] [] _ 0 0
  refine j_iload_n x dX5_account_0 rfl ?_
  refine j_if_lt (tgt := 10) x dX5_account_1 (by decide) (fun hc => absurd hc (by decide)) (fun hc => ?_)
  refine j_iload_n x dX5_account_4 rfl ?_
  refine j_bipush (v := 14) x dX5_account_5 (by decide) ?_
  refine j_icmp_le (tgt := 21) x dX5_account_7 (by decide) (fun hc => ?_) (fun hc => absurd (by decide) hc)
  refine j_aload_n x dX5_account_21 rfl ?_
  refine j2_callVv x hb dX5_account_22 m_X5_count (c_count0 (d := d) hb hD) wmX5_187 jc_9 rfl rfl rfl (Nat.le_of_ble_eq_true rfl) (j_fit_rm (by omega) (by omega) (by omega)) rfl ?_
  refine j_iload_n x dX5_account_25 rfl ?_
  refine j_tableIn (tgt := 96) x dX5_account_26 (by decide) (by decide) rfl (by decide) ?_
  refine j_aload_n x dX5_account_96 rfl ?_
  refine j2_getr (k := 0) (r := 1) x hb dX5_account_97 jc_9 wfX5_10 (by decide) rfl ?_
  refine j2_geti (k := 0) x hb dX5_account_100 jc_6 wfX5_80 (by decide) rfl ?_
  exact j_ireturn x hr dX5_account_103 (by omega) (by omega) ⟨by rw [jclear_n (by omega)], rfl⟩
theorem c_account_1 {d : Nat} {b : SBt} {Y : OUt} {M : MM} (hb : 104 ≤ b.2.1) (hT : M 1 0 = 0) (hD : M 1 2 = 0) : CM (d + 4) 1 6 yX5_account cX5_account 2 (some .int) [.ref 0, .int 1] b Y M (.inl (some (.int (0)))) (jclear M) := by
  refine Con.of (by decide +kernel) (Nat.le_of_ble_eq_true rfl) rfl fun p l e s m args below meth c D tyc A ad0 x hr htab hname => ?_
  change JJ _ _ _ _ _ _ _ _ _ _ _ _ _ _ _ _ _ 0 [some (.ref 0), some (.int 1)] [] _ 0 0
  refine j_iload_n x dX5_account_0 rfl ?_
  refine j_if_lt (tgt := 10) x dX5_account_1 (by decide) (fun hc => absurd hc (by decide)) (fun hc => ?_)
  refine j_iload_n x dX5_account_4 rfl ?_
  refine j_bipush (v := 14) x dX5_account_5 (by decide) ?_
  refine j_icmp_le (tgt := 21) x dX5_account_7 (by decide) (fun hc => ?_) (fun hc => absurd (by decide) hc)
  refine j_aload_n x dX5_account_21 rfl ?_
  refine j2_callVv x hb dX5_account_22 m_X5_count (c_count0 (d := d) hb hD) wmX5_187 jc_9 rfl rfl rfl (Nat.le_of_ble_eq_true rfl) (j_fit_rm (by omega) (by omega) (by omega)) rfl ?_
  refine j_iload_n x dX5_account_25 rfl ?_
  refine j_tableIn (tgt := 104) x dX5_account_26 (by decide) (by decide) rfl (by decide) ?_
  refine j_aload_n x dX5_account_104 rfl ?_
  refine j2_getr (k := 0) (r := 1) x hb dX5_account_105 jc_9 wfX5_10 (by decide) rfl ?_
  refine j2_geti (k := 2) x hb dX5_account_108 jc_6 wfX5_388 (by decide) rfl ?_
  refine j_if_eq (tgt := 118) x dX5_account_111 (by decide) (fun hc => ?_) (fun hc => absurd (by rw [jclear_n (by omega)]; exact hD) hc)
  refine j_iconst (v := 0) x dX5_account_118 (by decide) ?_
  exact j_ireturn x hr dX5_account_119 (by omega) (by omega) ⟨rfl, rfl⟩
theorem c_account_2 {d : Nat} {b : SBt} {Y : OUt} {M : MM} (hb : 104 ≤ b.2.1) (hT : M 1 0 = 0) (hD : M 1 2 = 0) : CM (d + 4) 1 6 yX5_account cX5_account 2 (some .int) [.ref 0, .int 2] b Y M (.inl (some (.int (0)))) (jclear M) := by
  refine Con.of (by decide +kernel) (Nat.le_of_ble_eq_true rfl) rfl fun p l e s m args below meth c D tyc A ad0 x hr htab hname => ?_
  change JJ _ _ _ _ _ _ _ _ _ _ _ _ _ _ _ _ _ 0 [some (.ref 0), some (.int 2)] [] _ 0 0
  refine j_iload_n x dX5_account_0 rfl ?_
  refine j_if_lt (tgt := 10) x dX5_account_1 (by decide) (fun hc => absurd hc (by decide)) (fun hc => ?_)
  refine j_iload_n x dX5_account_4 rfl ?_
  refine j_bipush (v := 14) x dX5_account_5 (by decide) ?_
  refine j_icmp_le (tgt := 21) x dX5_account_7 (by decide) (fun hc => ?_) (fun hc => absurd (by decide) hc)
  refine j_aload_n x dX5_account_21 rfl ?_
  refine j2_callVv x hb dX5_account_22 m_X5_count (c_count0 (d := d) hb hD) wmX5_187 jc_9 rfl rfl rfl (Nat.le_of_ble_eq_true rfl) (j_fit_rm (by omega) (by omega) (by omega)) rfl ?_
  refine j_iload_n x dX5_account_25 rfl ?_
  refine j_tableIn (tgt := 120) x dX5_account_26 (by decide) (by decide) rfl (by decide) ?_
  refine j_aload_n x dX5_account_120 rfl ?_
  refine j2_callVi x hb dX5_account_121 m_X5_weekCount (CM_v (c_weekCount (d := d) hb) (if_pos (by rw [jclear_n (by omega)]; exact hD))) wmX5_392 jc_9 rfl rfl rfl (Nat.le_of_ble_eq_true rfl) (j_fit_rm (by omega) (by omega) (by omega)) rfl ?_
  exact j_ireturn x hr dX5_account_124 (by omega) (by omega) ⟨rfl, rfl⟩
theorem c_account_3 {d : Nat} {b : SBt} {Y : OUt} {M : MM} (hb : 104 ≤ b.2.1) (hT : M 1 0 = 0) (hD : M 1 2 = 0) : CM (d + 4) 1 6 yX5_account cX5_account 2 (some .int) [.ref 0, .int 3] b Y M (.inl (some (.int (M 1 3)))) (jclear M) := by
  refine Con.of (by decide +kernel) (Nat.le_of_ble_eq_true rfl) rfl fun p l e s m args below meth c D tyc A ad0 x hr htab hname => ?_
  change JJ _ _ _ _ _ _ _ _ _ _ _ _ _ _ _ _ _ 0 [some (.ref 0), some (.int 3)] [] _ 0 0
  refine j_iload_n x dX5_account_0 rfl ?_
  refine j_if_lt (tgt := 10) x dX5_account_1 (by decide) (fun hc => absurd hc (by decide)) (fun hc => ?_)
  refine j_iload_n x dX5_account_4 rfl ?_
  refine j_bipush (v := 14) x dX5_account_5 (by decide) ?_
  refine j_icmp_le (tgt := 21) x dX5_account_7 (by decide) (fun hc => ?_) (fun hc => absurd (by decide) hc)
  refine j_aload_n x dX5_account_21 rfl ?_
  refine j2_callVv x hb dX5_account_22 m_X5_count (c_count0 (d := d) hb hD) wmX5_187 jc_9 rfl rfl rfl (Nat.le_of_ble_eq_true rfl) (j_fit_rm (by omega) (by omega) (by omega)) rfl ?_
  refine j_iload_n x dX5_account_25 rfl ?_
  refine j_tableIn (tgt := 125) x dX5_account_26 (by decide) (by decide) rfl (by decide) ?_
  refine j_aload_n x dX5_account_125 rfl ?_
  refine j2_getr (k := 0) (r := 1) x hb dX5_account_126 jc_9 wfX5_10 (by decide) rfl ?_
  refine j2_geti (k := 3) x hb dX5_account_129 jc_6 wfX5_160 (by decide) rfl ?_
  exact j_ireturn x hr dX5_account_132 (by omega) (by omega) ⟨by rw [jclear_n (by omega)], rfl⟩
theorem c_account_4 {d : Nat} {b : SBt} {Y : OUt} {M : MM} (hb : 104 ≤ b.2.1) (hT : M 1 0 = 0) (hD : M 1 2 = 0) : CM (d + 4) 1 6 yX5_account cX5_account 2 (some .int) [.ref 0, .int 4] b Y M (.inl (some (.int (0)))) (jclear M) := by
  refine Con.of (by decide +kernel) (Nat.le_of_ble_eq_true rfl) rfl fun p l e s m args below meth c D tyc A ad0 x hr htab hname => ?_
  change JJ _ _ _ _ _ _ _ _ _ _ _ _ _ _ _ _ _ 0 [some (.ref 0), some (.int 4)] [] _ 0 0
  refine j_iload_n x dX5_account_0 rfl ?_
  refine j_if_lt (tgt := 10) x dX5_account_1 (by decide) (fun hc => absurd hc (by decide)) (fun hc => ?_)
  refine j_iload_n x dX5_account_4 rfl ?_
  refine j_bipush (v := 14) x dX5_account_5 (by decide) ?_
  refine j_icmp_le (tgt := 21) x dX5_account_7 (by decide) (fun hc => ?_) (fun hc => absurd (by decide) hc)
  refine j_aload_n x dX5_account_21 rfl ?_
  refine j2_callVv x hb dX5_account_22 m_X5_count (c_count0 (d := d) hb hD) wmX5_187 jc_9 rfl rfl rfl (Nat.le_of_ble_eq_true rfl) (j_fit_rm (by omega) (by omega) (by omega)) rfl ?_
  refine j_iload_n x dX5_account_25 rfl ?_
  refine j_tableIn (tgt := 133) x dX5_account_26 (by decide) (by decide) rfl (by decide) ?_
  refine j_aload_n x dX5_account_133 rfl ?_
  refine j2_callVi x hb dX5_account_134 m_X5_meetingCount (CM_v (c_meetingCount (d := d) hb) (if_pos (by rw [jclear_n (by omega)]; exact hD))) wmX5_258 jc_9 rfl rfl rfl (Nat.le_of_ble_eq_true rfl) (j_fit_rm (by omega) (by omega) (by omega)) rfl ?_
  exact j_ireturn x hr dX5_account_137 (by omega) (by omega) ⟨rfl, rfl⟩
theorem c_account_5 {d : Nat} {b : SBt} {Y : OUt} {M : MM} (hb : 104 ≤ b.2.1) (hT : M 1 0 = 0) (hD : M 1 2 = 0) : CM (d + 4) 1 6 yX5_account cX5_account 2 (some .int) [.ref 0, .int 5] b Y M (.inl (some (.int (0)))) (jclear M) := by
  refine Con.of (by decide +kernel) (Nat.le_of_ble_eq_true rfl) rfl fun p l e s m args below meth c D tyc A ad0 x hr htab hname => ?_
  change JJ _ _ _ _ _ _ _ _ _ _ _ _ _ _ _ _ _ 0 [some (.ref 0), some (.int 5)] [] _ 0 0
  refine j_iload_n x dX5_account_0 rfl ?_
  refine j_if_lt (tgt := 10) x dX5_account_1 (by decide) (fun hc => absurd hc (by decide)) (fun hc => ?_)
  refine j_iload_n x dX5_account_4 rfl ?_
  refine j_bipush (v := 14) x dX5_account_5 (by decide) ?_
  refine j_icmp_le (tgt := 21) x dX5_account_7 (by decide) (fun hc => ?_) (fun hc => absurd (by decide) hc)
  refine j_aload_n x dX5_account_21 rfl ?_
  refine j2_callVv x hb dX5_account_22 m_X5_count (c_count0 (d := d) hb hD) wmX5_187 jc_9 rfl rfl rfl (Nat.le_of_ble_eq_true rfl) (j_fit_rm (by omega) (by omega) (by omega)) rfl ?_
  refine j_iload_n x dX5_account_25 rfl ?_
  refine j_tableIn (tgt := 138) x dX5_account_26 (by decide) (by decide) rfl (by decide) ?_
  refine j_aload_n x dX5_account_138 rfl ?_
  refine j2_getr (k := 5) (r := 75) x hb dX5_account_139 jc_9 wfX5_36 (by decide) rfl ?_
  refine j2_geti (k := 0) x hb dX5_account_142 jc_7 wfX5_372 (by decide) rfl ?_
  exact j_ireturn x hr dX5_account_145 (by omega) (by omega) ⟨by rw [jclear_0], rfl⟩
theorem c_account_6 {d : Nat} {b : SBt} {Y : OUt} {M : MM} (hb : 104 ≤ b.2.1) (hT : M 1 0 = 0) (hD : M 1 2 = 0) : CM (d + 4) 1 6 yX5_account cX5_account 2 (some .int) [.ref 0, .int 6] b Y M (.inl (some (.int (0)))) (jclear M) := by
  refine Con.of (by decide +kernel) (Nat.le_of_ble_eq_true rfl) rfl fun p l e s m args below meth c D tyc A ad0 x hr htab hname => ?_
  change JJ _ _ _ _ _ _ _ _ _ _ _ _ _ _ _ _ _ 0 [some (.ref 0), some (.int 6)] [] _ 0 0
  refine j_iload_n x dX5_account_0 rfl ?_
  refine j_if_lt (tgt := 10) x dX5_account_1 (by decide) (fun hc => absurd hc (by decide)) (fun hc => ?_)
  refine j_iload_n x dX5_account_4 rfl ?_
  refine j_bipush (v := 14) x dX5_account_5 (by decide) ?_
  refine j_icmp_le (tgt := 21) x dX5_account_7 (by decide) (fun hc => ?_) (fun hc => absurd (by decide) hc)
  refine j_aload_n x dX5_account_21 rfl ?_
  refine j2_callVv x hb dX5_account_22 m_X5_count (c_count0 (d := d) hb hD) wmX5_187 jc_9 rfl rfl rfl (Nat.le_of_ble_eq_true rfl) (j_fit_rm (by omega) (by omega) (by omega)) rfl ?_
  refine j_iload_n x dX5_account_25 rfl ?_
  refine j_tableIn (tgt := 146) x dX5_account_26 (by decide) (by decide) rfl (by decide) ?_
  refine j_aload_n x dX5_account_146 rfl ?_
  refine j2_callVi x hb dX5_account_147 m_X5_putOffCount (c_putOffCount_0 (d := d) hb (by rw [jclear_n (by omega)]; exact hD)) wmX5_395 jc_9 rfl rfl rfl (Nat.le_of_ble_eq_true rfl) (j_fit_rm (by omega) (by omega) (by omega)) rfl ?_
  exact j_ireturn x hr dX5_account_150 (by omega) (by omega) ⟨rfl, rfl⟩
theorem c_account_7 {d : Nat} {b : SBt} {Y : OUt} {M : MM} (hb : 104 ≤ b.2.1) (hT : M 1 0 = 0) (hD : M 1 2 = 0) : CM (d + 4) 1 6 yX5_account cX5_account 2 (some .int) [.ref 0, .int 7] b Y M (.inl (some (.int (M 1 4)))) (jclear M) := by
  refine Con.of (by decide +kernel) (Nat.le_of_ble_eq_true rfl) rfl fun p l e s m args below meth c D tyc A ad0 x hr htab hname => ?_
  change JJ _ _ _ _ _ _ _ _ _ _ _ _ _ _ _ _ _ 0 [some (.ref 0), some (.int 7)] [] _ 0 0
  refine j_iload_n x dX5_account_0 rfl ?_
  refine j_if_lt (tgt := 10) x dX5_account_1 (by decide) (fun hc => absurd hc (by decide)) (fun hc => ?_)
  refine j_iload_n x dX5_account_4 rfl ?_
  refine j_bipush (v := 14) x dX5_account_5 (by decide) ?_
  refine j_icmp_le (tgt := 21) x dX5_account_7 (by decide) (fun hc => ?_) (fun hc => absurd (by decide) hc)
  refine j_aload_n x dX5_account_21 rfl ?_
  refine j2_callVv x hb dX5_account_22 m_X5_count (c_count0 (d := d) hb hD) wmX5_187 jc_9 rfl rfl rfl (Nat.le_of_ble_eq_true rfl) (j_fit_rm (by omega) (by omega) (by omega)) rfl ?_
  refine j_iload_n x dX5_account_25 rfl ?_
  refine j_tableIn (tgt := 151) x dX5_account_26 (by decide) (by decide) rfl (by decide) ?_
  refine j_aload_n x dX5_account_151 rfl ?_
  refine j2_getr (k := 0) (r := 1) x hb dX5_account_152 jc_9 wfX5_10 (by decide) rfl ?_
  refine j2_geti (k := 4) x hb dX5_account_155 jc_6 wfX5_119 (by decide) rfl ?_
  exact j_ireturn x hr dX5_account_158 (by omega) (by omega) ⟨by rw [jclear_n (by omega)], rfl⟩
theorem c_account_8 {d : Nat} {b : SBt} {Y : OUt} {M : MM} (hb : 104 ≤ b.2.1) (hT : M 1 0 = 0) (hD : M 1 2 = 0) : CM (d + 4) 1 6 yX5_account cX5_account 2 (some .int) [.ref 0, .int 8] b Y M (.inl (some (.int (M 1 5)))) (jclear M) := by
  refine Con.of (by decide +kernel) (Nat.le_of_ble_eq_true rfl) rfl fun p l e s m args below meth c D tyc A ad0 x hr htab hname => ?_
  change JJ _ _ _ _ _ _ _ _ _ _ _ _ _ _ _ _ _ 0 [some (.ref 0), some (.int 8)] [] _ 0 0
  refine j_iload_n x dX5_account_0 rfl ?_
  refine j_if_lt (tgt := 10) x dX5_account_1 (by decide) (fun hc => absurd hc (by decide)) (fun hc => ?_)
  refine j_iload_n x dX5_account_4 rfl ?_
  refine j_bipush (v := 14) x dX5_account_5 (by decide) ?_
  refine j_icmp_le (tgt := 21) x dX5_account_7 (by decide) (fun hc => ?_) (fun hc => absurd (by decide) hc)
  refine j_aload_n x dX5_account_21 rfl ?_
  refine j2_callVv x hb dX5_account_22 m_X5_count (c_count0 (d := d) hb hD) wmX5_187 jc_9 rfl rfl rfl (Nat.le_of_ble_eq_true rfl) (j_fit_rm (by omega) (by omega) (by omega)) rfl ?_
  refine j_iload_n x dX5_account_25 rfl ?_
  refine j_tableIn (tgt := 159) x dX5_account_26 (by decide) (by decide) rfl (by decide) ?_
  refine j_aload_n x dX5_account_159 rfl ?_
  refine j2_getr (k := 0) (r := 1) x hb dX5_account_160 jc_9 wfX5_10 (by decide) rfl ?_
  refine j2_geti (k := 5) x hb dX5_account_163 jc_6 wfX5_122 (by decide) rfl ?_
  exact j_ireturn x hr dX5_account_166 (by omega) (by omega) ⟨by rw [jclear_n (by omega)], rfl⟩
theorem c_account_9 {d : Nat} {b : SBt} {Y : OUt} {M : MM} (hb : 104 ≤ b.2.1) (hT : M 1 0 = 0) (hD : M 1 2 = 0) : CM (d + 4) 1 6 yX5_account cX5_account 2 (some .int) [.ref 0, .int 9] b Y M (.inl (some (.int (M 1 6)))) (jclear M) := by
  refine Con.of (by decide +kernel) (Nat.le_of_ble_eq_true rfl) rfl fun p l e s m args below meth c D tyc A ad0 x hr htab hname => ?_
  change JJ _ _ _ _ _ _ _ _ _ _ _ _ _ _ _ _ _ 0 [some (.ref 0), some (.int 9)] [] _ 0 0
  refine j_iload_n x dX5_account_0 rfl ?_
  refine j_if_lt (tgt := 10) x dX5_account_1 (by decide) (fun hc => absurd hc (by decide)) (fun hc => ?_)
  refine j_iload_n x dX5_account_4 rfl ?_
  refine j_bipush (v := 14) x dX5_account_5 (by decide) ?_
  refine j_icmp_le (tgt := 21) x dX5_account_7 (by decide) (fun hc => ?_) (fun hc => absurd (by decide) hc)
  refine j_aload_n x dX5_account_21 rfl ?_
  refine j2_callVv x hb dX5_account_22 m_X5_count (c_count0 (d := d) hb hD) wmX5_187 jc_9 rfl rfl rfl (Nat.le_of_ble_eq_true rfl) (j_fit_rm (by omega) (by omega) (by omega)) rfl ?_
  refine j_iload_n x dX5_account_25 rfl ?_
  refine j_tableIn (tgt := 167) x dX5_account_26 (by decide) (by decide) rfl (by decide) ?_
  refine j_aload_n x dX5_account_167 rfl ?_
  refine j2_getr (k := 0) (r := 1) x hb dX5_account_168 jc_9 wfX5_10 (by decide) rfl ?_
  refine j2_geti (k := 6) x hb dX5_account_171 jc_6 wfX5_135 (by decide) rfl ?_
  exact j_ireturn x hr dX5_account_174 (by omega) (by omega) ⟨by rw [jclear_n (by omega)], rfl⟩
theorem jclear_1 {M : MM} : jclear M 75 1 = 0 := by simp [jclear, jfill, jm]
theorem c_account_10 {d : Nat} {b : SBt} {Y : OUt} {M : MM} (hb : 104 ≤ b.2.1) (hT : M 1 0 = 0) (hD : M 1 2 = 0) : CM (d + 4) 1 6 yX5_account cX5_account 2 (some .int) [.ref 0, .int 10] b Y M (.inl (some (.int (0)))) (jclear M) := by
  refine Con.of (by decide +kernel) (Nat.le_of_ble_eq_true rfl) rfl fun p l e s m args below meth c D tyc A ad0 x hr htab hname => ?_
  change JJ _ _ _ _ _ _ _ _ _ _ _ _ _ _ _ _ _ 0 [some (.ref 0), some (.int 10)] [] _ 0 0
  refine j_iload_n x dX5_account_0 rfl ?_
  refine j_if_lt (tgt := 10) x dX5_account_1 (by decide) (fun hc => absurd hc (by decide)) (fun hc => ?_)
  refine j_iload_n x dX5_account_4 rfl ?_
  refine j_bipush (v := 14) x dX5_account_5 (by decide) ?_
  refine j_icmp_le (tgt := 21) x dX5_account_7 (by decide) (fun hc => ?_) (fun hc => absurd (by decide) hc)
  refine j_aload_n x dX5_account_21 rfl ?_
  refine j2_callVv x hb dX5_account_22 m_X5_count (c_count0 (d := d) hb hD) wmX5_187 jc_9 rfl rfl rfl (Nat.le_of_ble_eq_true rfl) (j_fit_rm (by omega) (by omega) (by omega)) rfl ?_
  refine j_iload_n x dX5_account_25 rfl ?_
  refine j_tableIn (tgt := 175) x dX5_account_26 (by decide) (by decide) rfl (by decide) ?_
  refine j_aload_n x dX5_account_175 rfl ?_
  refine j2_getr (k := 5) (r := 75) x hb dX5_account_176 jc_9 wfX5_36 (by decide) rfl ?_
  refine j2_geti (k := 1) x hb dX5_account_179 jc_7 wfX5_380 (by decide) rfl ?_
  exact j_ireturn x hr dX5_account_182 (by omega) (by omega) ⟨by rw [jclear_1], rfl⟩
theorem c_account_11 {d : Nat} {b : SBt} {Y : OUt} {M : MM} (hb : 104 ≤ b.2.1) (hT : M 1 0 = 0) (hD : M 1 2 = 0) : CM (d + 4) 1 6 yX5_account cX5_account 2 (some .int) [.ref 0, .int 11] b Y M (.inl (some (.int (0)))) (jclear M) := by
  refine Con.of (by decide +kernel) (Nat.le_of_ble_eq_true rfl) rfl fun p l e s m args below meth c D tyc A ad0 x hr htab hname => ?_
  change JJ _ _ _ _ _ _ _ _ _ _ _ _ _ _ _ _ _ 0 [some (.ref 0), some (.int 11)] [] _ 0 0
  refine j_iload_n x dX5_account_0 rfl ?_
  refine j_if_lt (tgt := 10) x dX5_account_1 (by decide) (fun hc => absurd hc (by decide)) (fun hc => ?_)
  refine j_iload_n x dX5_account_4 rfl ?_
  refine j_bipush (v := 14) x dX5_account_5 (by decide) ?_
  refine j_icmp_le (tgt := 21) x dX5_account_7 (by decide) (fun hc => ?_) (fun hc => absurd (by decide) hc)
  refine j_aload_n x dX5_account_21 rfl ?_
  refine j2_callVv x hb dX5_account_22 m_X5_count (c_count0 (d := d) hb hD) wmX5_187 jc_9 rfl rfl rfl (Nat.le_of_ble_eq_true rfl) (j_fit_rm (by omega) (by omega) (by omega)) rfl ?_
  refine j_iload_n x dX5_account_25 rfl ?_
  refine j_tableIn (tgt := 183) x dX5_account_26 (by decide) (by decide) rfl (by decide) ?_
  refine j_aload_n x dX5_account_183 rfl ?_
  refine j2_callVi x hb dX5_account_184 m_X5_allPoints (c_allPoints_0 (d := d) hb (by rw [jclear_n (by omega)]; exact hT)) wmX5_398 jc_9 rfl rfl rfl (Nat.le_of_ble_eq_true rfl) (j_fit_rm (by omega) (by omega) (by omega)) rfl ?_
  exact j_ireturn x hr dX5_account_187 (by omega) (by omega) ⟨rfl, rfl⟩
theorem c_account_12 {d : Nat} {b : SBt} {Y : OUt} {M : MM} (hb : 104 ≤ b.2.1) (hT : M 1 0 = 0) (hD : M 1 2 = 0) : CM (d + 4) 1 6 yX5_account cX5_account 2 (some .int) [.ref 0, .int 12] b Y M (.inl (some (.int (0)))) (jclear M) := by
  refine Con.of (by decide +kernel) (Nat.le_of_ble_eq_true rfl) rfl fun p l e s m args below meth c D tyc A ad0 x hr htab hname => ?_
  change JJ _ _ _ _ _ _ _ _ _ _ _ _ _ _ _ _ _ 0 [some (.ref 0), some (.int 12)] [] _ 0 0
  refine j_iload_n x dX5_account_0 rfl ?_
  refine j_if_lt (tgt := 10) x dX5_account_1 (by decide) (fun hc => absurd hc (by decide)) (fun hc => ?_)
  refine j_iload_n x dX5_account_4 rfl ?_
  refine j_bipush (v := 14) x dX5_account_5 (by decide) ?_
  refine j_icmp_le (tgt := 21) x dX5_account_7 (by decide) (fun hc => ?_) (fun hc => absurd (by decide) hc)
  refine j_aload_n x dX5_account_21 rfl ?_
  refine j2_callVv x hb dX5_account_22 m_X5_count (c_count0 (d := d) hb hD) wmX5_187 jc_9 rfl rfl rfl (Nat.le_of_ble_eq_true rfl) (j_fit_rm (by omega) (by omega) (by omega)) rfl ?_
  refine j_iload_n x dX5_account_25 rfl ?_
  refine j_tableIn (tgt := 188) x dX5_account_26 (by decide) (by decide) rfl (by decide) ?_
  refine j_aload_n x dX5_account_188 rfl ?_
  refine j2_callVi x hb dX5_account_189 m_X5_allClashes (c_allClashes_0 (d := d) hb (by rw [jclear_n (by omega)]; exact hD)) wmX5_401 jc_9 rfl rfl rfl (Nat.le_of_ble_eq_true rfl) (j_fit_rm (by omega) (by omega) (by omega)) rfl ?_
  exact j_ireturn x hr dX5_account_192 (by omega) (by omega) ⟨rfl, rfl⟩
theorem c_account_13 {d : Nat} {b : SBt} {Y : OUt} {M : MM} (hb : 104 ≤ b.2.1) (hT : M 1 0 = 0) (hD : M 1 2 = 0) : CM (d + 4) 1 6 yX5_account cX5_account 2 (some .int) [.ref 0, .int 13] b Y M (.inl (some (.int (M 13 2)))) (jclear M) := by
  refine Con.of (by decide +kernel) (Nat.le_of_ble_eq_true rfl) rfl fun p l e s m args below meth c D tyc A ad0 x hr htab hname => ?_
  change JJ _ _ _ _ _ _ _ _ _ _ _ _ _ _ _ _ _ 0 [some (.ref 0), some (.int 13)] [] _ 0 0
  refine j_iload_n x dX5_account_0 rfl ?_
  refine j_if_lt (tgt := 10) x dX5_account_1 (by decide) (fun hc => absurd hc (by decide)) (fun hc => ?_)
  refine j_iload_n x dX5_account_4 rfl ?_
  refine j_bipush (v := 14) x dX5_account_5 (by decide) ?_
  refine j_icmp_le (tgt := 21) x dX5_account_7 (by decide) (fun hc => ?_) (fun hc => absurd (by decide) hc)
  refine j_aload_n x dX5_account_21 rfl ?_
  refine j2_callVv x hb dX5_account_22 m_X5_count (c_count0 (d := d) hb hD) wmX5_187 jc_9 rfl rfl rfl (Nat.le_of_ble_eq_true rfl) (j_fit_rm (by omega) (by omega) (by omega)) rfl ?_
  refine j_iload_n x dX5_account_25 rfl ?_
  refine j_tableIn (tgt := 193) x dX5_account_26 (by decide) (by decide) rfl (by decide) ?_
  refine j_aload_n x dX5_account_193 rfl ?_
  refine j2_getr (k := 3) (r := 13) x hb dX5_account_194 jc_9 wfX5_22 (by decide) rfl ?_
  refine j2_geti (k := 2) x hb dX5_account_197 jc_5 wfX5_404 (by decide) rfl ?_
  exact j_ireturn x hr dX5_account_200 (by omega) (by omega) ⟨by rw [jclear_n (by omega)], rfl⟩
theorem c_account_14 {d : Nat} {b : SBt} {Y : OUt} {M : MM} (hb : 104 ≤ b.2.1) (hT : M 1 0 = 0) (hD : M 1 2 = 0) : CM (d + 4) 1 6 yX5_account cX5_account 2 (some .int) [.ref 0, .int 14] b Y M (.inl (some (.int (M 86 0)))) (jclear M) := by
  refine Con.of (by decide +kernel) (Nat.le_of_ble_eq_true rfl) rfl fun p l e s m args below meth c D tyc A ad0 x hr htab hname => ?_
  change JJ _ _ _ _ _ _ _ _ _ _ _ _ _ _ _ _ _ 0 [some (.ref 0), some (.int 14)] [] _ 0 0
  refine j_iload_n x dX5_account_0 rfl ?_
  refine j_if_lt (tgt := 10) x dX5_account_1 (by decide) (fun hc => absurd hc (by decide)) (fun hc => ?_)
  refine j_iload_n x dX5_account_4 rfl ?_
  refine j_bipush (v := 14) x dX5_account_5 (by decide) ?_
  refine j_icmp_le (tgt := 21) x dX5_account_7 (by decide) (fun hc => ?_) (fun hc => absurd (by decide) hc)
  refine j_aload_n x dX5_account_21 rfl ?_
  refine j2_callVv x hb dX5_account_22 m_X5_count (c_count0 (d := d) hb hD) wmX5_187 jc_9 rfl rfl rfl (Nat.le_of_ble_eq_true rfl) (j_fit_rm (by omega) (by omega) (by omega)) rfl ?_
  refine j_iload_n x dX5_account_25 rfl ?_
  refine j_tableOut (tgt := 201) x dX5_account_26 (by decide) (by decide) ?_
  refine j_aload_n x dX5_account_201 rfl ?_
  refine j2_getr (k := 7) (r := 86) x hb dX5_account_202 jc_9 wfX5_47 (by decide) rfl ?_
  refine j2_geti (k := 0) x hb dX5_account_205 jc_8 wfX5_314 (by decide) rfl ?_
  exact j_ireturn x hr dX5_account_208 (by omega) (by omega) ⟨by rw [jclear_n (by omega)], rfl⟩
theorem c_sbl {d : Nat} {b : SBt} {Y : OUt} {M : MM} (hb : 104 ≤ b.2.1)  : CM (d) 0 0 yJ5_length_8abf5 cJ5_length_8abf5 1 (some .int) [.ref 92] b Y M (.inl (some (.int (M 92 3)))) (M) := by
  refine Con.of (by decide +kernel) (Nat.le_of_ble_eq_true rfl) rfl fun p l e s m args below meth c D tyc A ad0 x hr htab hname => ?_
  change JJ _ _ _ _ _ _ _ _ _ _ _ _ _ _ _ _ _ 0 [some (.ref 92)] [] _ 0 0
  refine j_aload_n x dJ5_length_8abf5_0 rfl ?_
  refine j2_geti (k := 3) x hb dJ5_length_8abf5_1 jc_1 wfJ5_79 (by decide) rfl ?_
  exact j_ireturn x hr dJ5_length_8abf5_4 (by omega) (by omega) ⟨rfl, rfl⟩
theorem c_sbLength {d : Nat} {b : SBt} {Y : OUt} {M : MM} (hb : 104 ≤ b.2.1)  : CM (d + 1) 0 0 yJ4_length_8abf5 cJ4_length_8abf5 1 (some .int) [.ref 92] b Y M (.inl (some (.int (M 92 3)))) (M) := by
  refine Con.of (by decide +kernel) (Nat.le_of_ble_eq_true rfl) rfl fun p l e s m args below meth c D tyc A ad0 x hr htab hname => ?_
  change JJ _ _ _ _ _ _ _ _ _ _ _ _ _ _ _ _ _ 0 [some (.ref 92)] [] _ 0 0
  refine j_aload_n x dJ4_length_8abf5_0 rfl ?_
  refine j_callSU x dJ4_length_8abf5_1 (c_sbl (d := d) hb) ⟨wsame_len, wsup_J4, t_J5_length_8abf5, wi_java_lang_AbstractStringBuilder, q_J5_length_8abf5, ⟨by decide, by decide +kernel⟩, by decide⟩ wmJ4_343 jc_1 (show 92 < b.2.1 by omega) rfl rfl (Nat.le_of_ble_eq_true rfl) (j_fit_rm (by omega) (by omega) (by omega)) rfl jres_no (fun v1 h1 hq1 => ?_)
  obtain ⟨e1, rfl⟩ := hq1
  cases e1
  change JJ _ _ _ _ _ _ _ _ _ _ _ _ _ _ _ _ _ 4 [some (.ref 92)] [.int (M 92 3)] (HH b Y M) _ _
  exact j_ireturn x hr dJ4_length_8abf5_4 (by omega) (by omega) ⟨rfl, rfl⟩
theorem c_character_0 {d : Nat} {b : SBt} {Y : OUt} {M : MM} (hb : 104 ≤ b.2.1) {t : Int32} (h0 : M 92 3 = 0) : CM (d + 2) 1 6 yX5_character cX5_character 2 (some .char) [.ref 0, .int t] b Y M (.inr "java/lang/IndexOutOfBoundsException") (M) := by
  refine Con.of (by decide +kernel) (Nat.le_of_ble_eq_true rfl) rfl fun p l e s m args below meth c D tyc A ad0 x hr htab hname => ?_
  change JJ _ _ _ _ _ _ _ _ _ _ _ _ _ _ _ _ _ 0 [some (.ref 0), some (.int t)] [] _ 0 0
  refine j_iload_n x dX5_character_0 rfl ?_
  refine j_if_lt (tgt := 15) x dX5_character_1 (by decide) (fun h1 => ?_) (fun h1 => ?_)
  · exact j_throwSW x exX5_177 wsX5_366 dX5_character_15 dX5_character_18 dX5_character_19 dX5_character_22 dX5_character_25 htab (by omega) (by omega) ⟨rfl, rfl⟩
  · refine j_iload_n x dX5_character_4 rfl ?_
    refine j_aload_n x dX5_character_5 rfl ?_
    refine j2_getr (k := 13) (r := 92) x hb dX5_character_6 jc_9 wfX5_58 (by decide) rfl ?_
    refine j2_callVi x hb dX5_character_9 m_J4_length_8abf5 (c_sbLength (d := d) hb) wmX5_364 jc_1 rfl rfl rfl (Nat.le_of_ble_eq_true rfl) (j_fit_rm (by omega) (by omega) (by omega)) rfl ?_
    refine j_icmp_lt (tgt := 26) x dX5_character_12 (by decide) (fun hc => absurd hc (fun q => h1 (by rw [h0] at q; exact q))) (fun hc => ?_)
    exact j_throwSW x exX5_177 wsX5_366 dX5_character_15 dX5_character_18 dX5_character_19 dX5_character_22 dX5_character_25 htab (by omega) (by omega) ⟨rfl, rfl⟩
end

section
/-! ===== the reference: its rows, its small methods ===== -/
section J3
variable {p : Program} {l : Launch} {e : Env} {R : Room} {s : State} {m : MethodId} {args : Array Value} {below : List Frame} {meth : Method} {c : Code} {D : va_G} {tyc : Nat → ClassId} {A : Nat → Prop} {n0 : Nat} {ad0 : Nat → Nat} {nL : Nat} {Q : State → Prop}
variable {own : String} {cc : ByteArray} {pc : Nat} {L : List (Option Value)} {st : List Value} {b : SBt} {Y : OUt} {M : MM} {cells slots : Nat}
theorem j2_ialn (x : j_X p l s m args meth c D tyc A own cc nL) (hb : 104 ≤ b.2.1) {i n j : Nat} {k : Int32} (hd : decode cc pc = .ok (.iaload, 1)) (hf : fA i 100 n = true) (hk : vp_in k n) (hj : k.toNatClampNeg = j) (kk : JJ p l e R s m args below meth c D tyc A n0 ad0 nL Q (pc + 1) (L) (.int (M i j) :: st) (HH b Y (M)) (cells) (slots)) : JJ p l e R s m args below meth c D tyc A n0 ad0 nL Q (pc) (L) (.int k :: .ref i :: st) (HH b Y (M)) (cells) (slots) := by
  subst hj
  exact j2_iald x hb hd hf hk rfl kk
theorem j2_iasn (x : j_X p l s m args meth c D tyc A own cc nL) (hb : 104 ≤ b.2.1) {i n j : Nat} {k v : Int32} (hd : decode cc pc = .ok (.iastore, 1)) (hf : fA i 100 n = true) (hk : vp_in k n) (hj : k.toNatClampNeg = j) (kk : JJ p l e R s m args below meth c D tyc A n0 ad0 nL Q (pc + 1) (L) (st) (HH b Y (jm M i j v)) (cells) (slots)) : JJ p l e R s m args below meth c D tyc A n0 ad0 nL Q (pc) (L) (.int v :: .int k :: .ref i :: st) (HH b Y (M)) (cells) (slots) := by
  subst hj
  exact j2_iast x hb hd hf hk kk
theorem vp_c {k : Int32} {n : Nat} (h : ¬ (k < 0 ∨ n ≤ k.toNatClampNeg)) : vp_in k n := h
theorem jb_nar {p : Prop} [Decidable p] : narrow .boolean (.int (jb p)) = .int (jb p) := by
  by_cases h : p
  · rw [jb_t h]; rfl
  · rw [jb_f h]; rfl
/-- n elements of a, from ao on, laid into g from go on -/
def jcp (M : MM) (a ao g go n : Nat) : MM := fun c k => if c = g ∧ go ≤ k ∧ k < go + n then M a (k - go + ao) else M c k
theorem jcp_0 {M : MM} {a ao g go : Nat} : jcp M a ao g go 0 = M := by
  funext c k
  simp only [jcp, Nat.add_zero]
  rw [if_neg (by omega)]
theorem jcp_n {M : MM} {a ao g go n i k : Nat} (h : i ≠ g) : jcp M a ao g go n i k = M i k := by
  simp only [jcp]
  rw [if_neg (fun q => h q.1)]
theorem jcp_at {M : MM} {a ao g go n k : Nat} (h : k < n) : jcp M a ao g go n g (go + k) = M a (ao + k) := by
  unfold jcp
  rw [if_pos ⟨rfl, by omega, by omega⟩]
  congr 1
  omega
theorem jcp_out {M : MM} {a ao g go n k : Nat} (h : k < go ∨ go + n ≤ k) : jcp M a ao g go n g k = M g k := by
  simp only [jcp]
  rw [if_neg (by omega)]
theorem jcp_s {M : MM} {a ao g go j : Nat} (h : a ≠ g ∨ go ≤ ao) : jm (jcp M a ao g go j) g (go + j) (jcp M a ao g go j a (ao + j)) = jcp M a ao g go (j + 1) := by
  have e0 : jcp M a ao g go j a (ao + j) = M a (ao + j) := by
    simp only [jcp]
    rw [if_neg (by omega)]
  rw [e0]
  funext c k
  simp only [jm, jcp]
  by_cases h1 : c = g ∧ k = go + j
  · rw [if_pos h1, if_pos ⟨h1.1, by omega, by omega⟩, h1.2]
    congr 1
    omega
  · rw [if_neg h1]
    by_cases h2 : c = g ∧ go ≤ k ∧ k < go + j
    · rw [if_pos h2, if_pos ⟨h2.1, h2.2.1, by omega⟩]
    · rw [if_neg h2, if_neg (fun q => h2 ⟨q.1, q.2.1, by have := q.2.2; have h3 : k ≠ go + j := fun z => h1 ⟨q.1, z⟩; omega⟩)]
theorem j2_cpl (a ao g go n : Nat) (Lf : Nat → List (Option Value)) (hq : a ≠ g ∨ go ≤ ao) (hL : Lf 0 = L)
    (step : ∀ j, j < n → ∀ M1 : MM, M1 = jcp M a ao g go j → JJ p l e R s m args below meth c D tyc A n0 ad0 nL Q pc (Lf (j + 1)) st (HH b Y (jm M1 g (go + j) (M1 a (ao + j)))) cells slots → JJ p l e R s m args below meth c D tyc A n0 ad0 nL Q pc (Lf j) st (HH b Y M1) cells slots)
    (last : JJ p l e R s m args below meth c D tyc A n0 ad0 nL Q pc (Lf n) st (HH b Y (jcp M a ao g go n)) cells slots) : JJ p l e R s m args below meth c D tyc A n0 ad0 nL Q pc L st (HH b Y M) cells slots := by
  have key : ∀ r j, j + r = n → JJ p l e R s m args below meth c D tyc A n0 ad0 nL Q pc (Lf j) st (HH b Y (jcp M a ao g go j)) cells slots := by
    intro r
    induction r with
    | zero =>
      intro j hj
      have hjn : j = n := by omega
      subst hjn
      exact last
    | succ r ih =>
      intro j hj
      refine step j (by omega) _ rfl ?_
      rw [jcp_s hq]
      exact ih (j + 1) (by omega)
  have h0 := key n 0 (by omega)
  rw [jcp_0, hL] at h0
  exact h0
theorem j_freturn (x : j_X p l s m args meth c D tyc A own cc nL) {mc ms : Nat} {Q : MO → MH → Prop} {h : MH} {v : UInt32} (hr : meth.sig.returnType = some .float) (hd : decode cc pc = .ok (.freturn, 1)) (hc : cells ≤ mc) (hs : slots ≤ ms) (hq : Q (.inl (some (.float v))) h) : JJ p l e R s m args below meth c D tyc A n0 ad0 nL (vx_MQ below (j_Qc D tyc A n0 ad0 Q) (j_XC D tyc A n0 ad0 Q) args s mc ms A) pc L [.float v] h cells slots := by
  intro ad ls H locs I
  refine vx_ret (W.widen hc hs ?_)
  exact W.fret x.1 x.2.1 hr (fun t ht hW => ⟨some (.float v), h, ad, rfl, hq, fun w hw => by cases hw; exact j_ok_float, .of I ht⟩) I.2.2.2.1.2.2 hd x.2.2.2.2.2.2.2.1
theorem j_dreturn (x : j_X p l s m args meth c D tyc A own cc nL) {mc ms : Nat} {Q : MO → MH → Prop} {h : MH} {v : UInt64} (hr : meth.sig.returnType = some .double) (hd : decode cc pc = .ok (.dreturn, 1)) (hc : cells ≤ mc) (hs : slots ≤ ms) (hq : Q (.inl (some (.double v))) h) : JJ p l e R s m args below meth c D tyc A n0 ad0 nL (vx_MQ below (j_Qc D tyc A n0 ad0 Q) (j_XC D tyc A n0 ad0 Q) args s mc ms A) pc L [.double v] h cells slots := by
  intro ad ls H locs I
  refine vx_ret (W.widen hc hs ?_)
  exact W.dret x.1 x.2.1 hr (fun t ht hW => ⟨some (.double v), h, ad, rfl, hq, fun w hw => by cases hw; exact j_ok_double, .of I ht⟩) I.2.2.2.1.2.2 hd x.2.2.2.2.2.2.2.1
end J3
theorem cx_thrown {d : Nat} {b : SBt} {Y : OUt} {M : MM} (hb : 104 ≤ b.2.1)  : CM (d) 0 0 yX6_thrown cX6_thrown 1 (some .int) [.ref 94] b Y M (.inl (some (.int (M 94 19)))) (M) := by
  refine Con.of (by decide +kernel) (Nat.le_of_ble_eq_true rfl) rfl fun p l e s m args below meth c D tyc A ad0 x hr htab hname => ?_
  change JJ _ _ _ _ _ _ _ _ _ _ _ _ _ _ _ _ _ 0 [some (.ref 94)] [] _ 0 0
  refine j_aload_n x dX6_thrown_0 rfl ?_
  refine j2_geti (k := 19) x hb dX6_thrown_1 jc_10 wfX6_36 (by decide) rfl ?_
  exact j_ireturn x hr dX6_thrown_4 (by omega) (by omega) ⟨rfl, rfl⟩
def jrai (M : MM) (v : Int32) : MM := jm M 94 19 v
def jrefu (M : MM) (w t : Int32) : MM := jm (jm (jm M 94 14 w) 94 15 t) 94 17 (M 94 16)
def jtr (M : MM) : MM := jcp (jm (jm M 94 19 0) 94 16 0) 95 0 96 0 466
def jkp (M : MM) (u : Nat) : MM := jm (jcp M 96 0 97 (466 * u) 466) 94 3 (nI (u + 1))
theorem jtr_n {M : MM} {i k : Nat} (h : i < 94 ∨ i = 95 ∨ 96 < i) : jtr M i k = M i k := by
  unfold jtr
  rw [jcp_n (by omega), jm_n (by omega), jm_n (by omega)]
theorem jtr_f {M : MM} {k : Nat} (h : k ≠ 16) (h1 : k ≠ 19) : jtr M 94 k = M 94 k := by
  unfold jtr
  rw [jcp_n (by omega), jm_n (by omega), jm_n (by omega)]
theorem jtr_0 {M : MM} : jtr M 94 16 = 0 ∧ jtr M 94 19 = 0 := by
  unfold jtr
  refine ⟨?_, ?_⟩
  · rw [jcp_n (by omega), jm_s]
  · rw [jcp_n (by omega), jm_n (by omega), jm_s]
theorem cx_raises {d : Nat} {b : SBt} {Y : OUt} {M : MM} (hb : 104 ≤ b.2.1) {v : Int32} : CM (d) 0 0 yX6_raises cX6_raises 2 (some .int) [.ref 94, .int v] b Y M (.inl (some (.int (0)))) (jrai M v) := by
  refine Con.of (by decide +kernel) (Nat.le_of_ble_eq_true rfl) rfl fun p l e s m args below meth c D tyc A ad0 x hr htab hname => ?_
  change JJ _ _ _ _ _ _ _ _ _ _ _ _ _ _ _ _ _ 0 [some (.ref 94), some (.int v)] [] _ 0 0
  refine j_aload_n x dX6_raises_0 rfl ?_
  refine j_iload_n x dX6_raises_1 rfl ?_
  refine j2_puti (k := 19) x hb dX6_raises_2 jc_10 wfX6_36 (by decide) rfl rfl rfl rfl ?_
  refine j_iconst (v := 0) x dX6_raises_5 (by decide) ?_
  exact j_ireturn x hr dX6_raises_6 (by omega) (by omega) ⟨rfl, rfl⟩
theorem cx_in {d : Nat} {b : SBt} {Y : OUt} {M : MM} (hb : 104 ≤ b.2.1) {u v w : Int32} : CM (d) 0 0 yX6_in cX6_in 3 (some .boolean) [.int u, .int v, .int w] b Y M (.inl (some (.int (jb (¬ u < v ∧ ¬ w < u))))) (M) := by
  refine Con.of (by decide +kernel) (Nat.le_of_ble_eq_true rfl) rfl fun p l e s m args below meth c D tyc A ad0 x hr htab hname => ?_
  change JJ _ _ _ _ _ _ _ _ _ _ _ _ _ _ _ _ _ 0 [some (.int u), some (.int v), some (.int w)] [] _ 0 0
  refine j_iload_n x dX6_in_0 rfl ?_
  refine j_iload_n x dX6_in_1 rfl ?_
  refine j_icmp_lt (tgt := 14) x dX6_in_2 (by decide) (fun h1 => ?_) (fun h1 => ?_)
  · refine j_iconst (v := 0) x dX6_in_14 (by decide) ?_
    exact j_zreturn x hr dX6_in_15 (by first | decide | with_reducible exact jb_nar | with_reducible exact jisS_nar | with_reducible exact gno_nar) (by omega) (by omega) ⟨by rw [jb_f (fun q => q.1 h1)], rfl⟩
  · refine j_iload_n x dX6_in_5 rfl ?_
    refine j_iload_n x dX6_in_6 rfl ?_
    refine j_icmp_gt (tgt := 14) x dX6_in_7 (by decide) (fun h2 => ?_) (fun h2 => ?_)
    · refine j_iconst (v := 0) x dX6_in_14 (by decide) ?_
      exact j_zreturn x hr dX6_in_15 (by first | decide | with_reducible exact jb_nar | with_reducible exact jisS_nar | with_reducible exact gno_nar) (by omega) (by omega) ⟨by rw [jb_f (fun q => q.2 h2)], rfl⟩
    · refine j_iconst (v := 1) x dX6_in_10 (by decide) ?_
      refine j_goto (tgt := 15) x dX6_in_11 (by decide) ?_
      exact j_zreturn x hr dX6_in_15 (by first | decide | with_reducible exact jb_nar | with_reducible exact jisS_nar | with_reducible exact gno_nar) (by omega) (by omega) ⟨by rw [jb_t ⟨h1, h2⟩], rfl⟩
theorem cx_tries {d : Nat} {b : SBt} {Y : OUt} {M : MM} (hb : 104 ≤ b.2.1)  : CM (d) 0 0 yX6_tries cX6_tries 2 none [.ref 94] b Y M (.inl none) (jtr M) := by
  refine Con.of (by decide +kernel) (Nat.le_of_ble_eq_true rfl) rfl fun p l e s m args below meth c D tyc A ad0 x hr htab hname => ?_
  change JJ _ _ _ _ _ _ _ _ _ _ _ _ _ _ _ _ _ 0 [some (.ref 94), none] [] _ 0 0
  refine j_aload_n x dX6_tries_0 rfl ?_
  refine j_iconst (v := 0) x dX6_tries_1 (by decide) ?_
  refine j2_puti (k := 19) x hb dX6_tries_2 jc_10 wfX6_36 (by decide) rfl rfl rfl rfl ?_
  refine j_aload_n x dX6_tries_5 rfl ?_
  refine j_iconst (v := 0) x dX6_tries_6 (by decide) ?_
  refine j2_puti (k := 16) x hb dX6_tries_7 jc_10 wfX6_39 (by decide) rfl rfl rfl rfl ?_
  refine j_iconst (v := 0) x dX6_tries_10 (by decide) ?_
  refine j_istore_n x dX6_tries_11 (by decide) rfl ?_
  refine j2_cpl 95 0 96 0 466 (fun j => [some (.ref 94), some (.int (nI j))]) (Or.inl (by decide)) rfl (fun j hj M1 hM ih => ?_) ?_
  · refine j_iload_n x dX6_tries_12 rfl ?_
    refine j_sipush (v := 466) x dX6_tries_13 (by decide) ?_
    refine j_icmp_ge (tgt := 37) x dX6_tries_16 (by decide) (fun hc => absurd hc (nI_ge (b := 466) hj (by decide))) (fun hc => ?_)
    refine j_aload_n x dX6_tries_19 rfl ?_
    refine j2_getr (k := 1) (r := 96) x hb dX6_tries_20 jc_10 wfX6_13 (by decide) rfl ?_
    refine j_iload_n x dX6_tries_23 rfl ?_
    refine j_aload_n x dX6_tries_24 rfl ?_
    refine j2_getr (k := 0) (r := 95) x hb dX6_tries_25 jc_10 wfX6_9 (by decide) rfl ?_
    refine j_iload_n x dX6_tries_28 rfl ?_
    refine j2_ialn x hb dX6_tries_29 fa_95 (j := j) (vp_in_nI hj (by decide)) (nI_clamp (by omega)) ?_
    refine j2_iasn x hb dX6_tries_30 fa_96 (j := j) (vp_in_nI hj (by decide)) (nI_clamp (by omega)) ?_
    refine j_iinc x dX6_tries_31 rfl (by decide) rfl ?_
    refine j_goto (tgt := 12) x dX6_tries_34 (by decide) ?_
    have h9 := ih
    simp only [Nat.zero_add] at h9
    rw [← nI_1 j] at h9
    exact h9
  refine j_iload_n x dX6_tries_12 rfl ?_
  refine j_sipush (v := 466) x dX6_tries_13 (by decide) ?_
  refine j_icmp_ge (tgt := 37) x dX6_tries_16 (by decide) (fun hc => ?_) (fun hc => absurd (nI_le (Nat.le_refl 466) (by decide)) hc)
  exact j_return x hr dX6_tries_37 (by omega) (by omega) ⟨rfl, rfl⟩
theorem cx_comesBack {d : Nat} {b : SBt} {Y : OUt} {M : MM} (hb : 104 ≤ b.2.1)  : CM (d) 0 0 yX6_comesBack cX6_comesBack 2 none [.ref 94] b Y M (.inl none) (jcp M 96 0 95 0 466) := by
  refine Con.of (by decide +kernel) (Nat.le_of_ble_eq_true rfl) rfl fun p l e s m args below meth c D tyc A ad0 x hr htab hname => ?_
  change JJ _ _ _ _ _ _ _ _ _ _ _ _ _ _ _ _ _ 0 [some (.ref 94), none] [] _ 0 0
  refine j_iconst (v := 0) x dX6_comesBack_0 (by decide) ?_
  refine j_istore_n x dX6_comesBack_1 (by decide) rfl ?_
  refine j2_cpl 96 0 95 0 466 (fun j => [some (.ref 94), some (.int (nI j))]) (Or.inl (by decide)) rfl (fun j hj M1 hM ih => ?_) ?_
  · refine j_iload_n x dX6_comesBack_2 rfl ?_
    refine j_sipush (v := 466) x dX6_comesBack_3 (by decide) ?_
    refine j_icmp_ge (tgt := 27) x dX6_comesBack_6 (by decide) (fun hc => absurd hc (nI_ge (b := 466) hj (by decide))) (fun hc => ?_)
    refine j_aload_n x dX6_comesBack_9 rfl ?_
    refine j2_getr (k := 0) (r := 95) x hb dX6_comesBack_10 jc_10 wfX6_9 (by decide) rfl ?_
    refine j_iload_n x dX6_comesBack_13 rfl ?_
    refine j_aload_n x dX6_comesBack_14 rfl ?_
    refine j2_getr (k := 1) (r := 96) x hb dX6_comesBack_15 jc_10 wfX6_13 (by decide) rfl ?_
    refine j_iload_n x dX6_comesBack_18 rfl ?_
    refine j2_ialn x hb dX6_comesBack_19 fa_96 (j := j) (vp_in_nI hj (by decide)) (nI_clamp (by omega)) ?_
    refine j2_iasn x hb dX6_comesBack_20 fa_95 (j := j) (vp_in_nI hj (by decide)) (nI_clamp (by omega)) ?_
    refine j_iinc x dX6_comesBack_21 rfl (by decide) rfl ?_
    refine j_goto (tgt := 2) x dX6_comesBack_24 (by decide) ?_
    have h9 := ih
    simp only [Nat.zero_add] at h9
    rw [← nI_1 j] at h9
    exact h9
  refine j_iload_n x dX6_comesBack_2 rfl ?_
  refine j_sipush (v := 466) x dX6_comesBack_3 (by decide) ?_
  refine j_icmp_ge (tgt := 27) x dX6_comesBack_6 (by decide) (fun hc => ?_) (fun hc => absurd (nI_le (Nat.le_refl 466) (by decide)) hc)
  exact j_return x hr dX6_comesBack_27 (by omega) (by omega) ⟨rfl, rfl⟩
theorem cx_refuses {d : Nat} {b : SBt} {Y : OUt} {M : MM} (hb : 104 ≤ b.2.1) {v w : Int32} : CM (d) 0 0 yX6_refuses cX6_refuses 3 (some .boolean) [.ref 94, .int v, .int w] b Y M (.inl (some (.int (0)))) (jrefu M v w) := by
  refine Con.of (by decide +kernel) (Nat.le_of_ble_eq_true rfl) rfl fun p l e s m args below meth c D tyc A ad0 x hr htab hname => ?_
  change JJ _ _ _ _ _ _ _ _ _ _ _ _ _ _ _ _ _ 0 [some (.ref 94), some (.int v), some (.int w)] [] _ 0 0
  refine j_aload_n x dX6_refuses_0 rfl ?_
  refine j_iload_n x dX6_refuses_1 rfl ?_
  refine j2_puti (k := 14) x hb dX6_refuses_2 jc_10 wfX6_45 (by decide) rfl rfl rfl rfl ?_
  refine j_aload_n x dX6_refuses_5 rfl ?_
  refine j_iload_n x dX6_refuses_6 rfl ?_
  refine j2_puti (k := 15) x hb dX6_refuses_7 jc_10 wfX6_48 (by decide) rfl rfl rfl rfl ?_
  refine j_aload_n x dX6_refuses_10 rfl ?_
  refine j_aload_n x dX6_refuses_11 rfl ?_
  refine j2_geti (k := 16) x hb dX6_refuses_12 jc_10 wfX6_39 (by decide) rfl ?_
  refine j2_puti (k := 17) x hb dX6_refuses_15 jc_10 wfX6_51 (by decide) rfl rfl rfl rfl ?_
  refine j_iconst (v := 0) x dX6_refuses_18 (by decide) ?_
  exact j_zreturn x hr dX6_refuses_19 (by first | decide | with_reducible exact jb_nar | with_reducible exact jisS_nar | with_reducible exact gno_nar) (by omega) (by omega) ⟨rfl, rfl⟩
theorem cx_does {d : Nat} {b : SBt} {Y : OUt} {M : MM} (hb : 104 ≤ b.2.1) {v : Int32} : CM (d) 0 0 yX6_does cX6_does 2 (some .boolean) [.ref 94, .int v] b Y M (.inl (some (.int (1)))) (jm M 94 18 v) := by
  refine Con.of (by decide +kernel) (Nat.le_of_ble_eq_true rfl) rfl fun p l e s m args below meth c D tyc A ad0 x hr htab hname => ?_
  change JJ _ _ _ _ _ _ _ _ _ _ _ _ _ _ _ _ _ 0 [some (.ref 94), some (.int v)] [] _ 0 0
  refine j_aload_n x dX6_does_0 rfl ?_
  refine j_iload_n x dX6_does_1 rfl ?_
  refine j2_puti (k := 18) x hb dX6_does_2 jc_10 wfX6_54 (by decide) rfl rfl rfl rfl ?_
  refine j_iconst (v := 1) x dX6_does_5 (by decide) ?_
  exact j_zreturn x hr dX6_does_6 (by first | decide | with_reducible exact jb_nar | with_reducible exact jisS_nar | with_reducible exact gno_nar) (by omega) (by omega) ⟨rfl, rfl⟩
theorem cx_keeps {d : Nat} {b : SBt} {Y : OUt} {M : MM} (hb : 104 ≤ b.2.1) {v : Int32} {u : Nat} (hu : u < 8) (h0 : M 94 3 = nI u) : CM (d) 0 0 yX6_keeps cX6_keeps 3 (some .int) [.ref 94, .int v] b Y M (.inl (some (.int (v)))) (jkp M u) := by
  refine Con.of (by decide +kernel) (Nat.le_of_ble_eq_true rfl) rfl fun p l e s m args below meth c D tyc A ad0 x hr htab hname => ?_
  change JJ _ _ _ _ _ _ _ _ _ _ _ _ _ _ _ _ _ 0 [some (.ref 94), some (.int v), none] [] _ 0 0
  refine j_aload_n x dX6_keeps_0 rfl ?_
  refine j2_geti (k := 3) x hb dX6_keeps_1 jc_10 wfX6_42 (by decide) rfl ?_
  refine j_bipush (v := 8) x dX6_keeps_4 (by decide) ?_
  refine j_icmp_ne (tgt := 50) x dX6_keeps_6 (by decide) (fun hc => ?_) (fun hc => absurd hc (by rw [h0]; exact fun q => absurd ((nI_eq (by omega) (by decide)).mp (show nI u = nI 8 from q)) (by omega)))
  refine j_iconst (v := 0) x dX6_keeps_50 (by decide) ?_
  refine j_istore_n x dX6_keeps_51 (by decide) rfl ?_
  refine j2_cpl 96 0 97 (466 * u) 466 (fun j => [some (.ref 94), some (.int v), some (.int (nI j))]) (Or.inl (by decide)) rfl (fun j hj M1 hM ih => ?_) ?_
  · have h3 : M1 94 3 = nI u := by rw [hM, jcp_n (by omega), h0]
    have hix : (466 : Int32) * M1 94 3 + nI j = nI (466 * u + j) := by rw [h3, ← nI_add]; congr 1; exact (Int32.ofNat_mul 466 u).symm
    refine j_iload_n x dX6_keeps_52 rfl ?_
    refine j_sipush (v := 466) x dX6_keeps_53 (by decide) ?_
    refine j_icmp_ge (tgt := 86) x dX6_keeps_56 (by decide) (fun hc => absurd hc (nI_ge (b := 466) hj (by decide))) (fun hc => ?_)
    refine j_aload_n x dX6_keeps_59 rfl ?_
    refine j2_getr (k := 2) (r := 97) x hb dX6_keeps_60 jc_10 wfX6_16 (by decide) rfl ?_
    refine j_sipush (v := 466) x dX6_keeps_63 (by decide) ?_
    refine j_aload_n x dX6_keeps_66 rfl ?_
    refine j2_geti (k := 3) x hb dX6_keeps_67 jc_10 wfX6_42 (by decide) rfl ?_
    refine j_imul x dX6_keeps_70 ?_
    refine j_iload_n x dX6_keeps_71 rfl ?_
    refine j_iadd x dX6_keeps_72 ?_
    refine j_aload_n x dX6_keeps_73 rfl ?_
    refine j2_getr (k := 1) (r := 96) x hb dX6_keeps_74 jc_10 wfX6_13 (by decide) rfl ?_
    refine j_iload_n x dX6_keeps_77 rfl ?_
    refine j2_ialn x hb dX6_keeps_78 fa_96 (j := j) (vp_in_nI hj (by decide)) (nI_clamp (by omega)) ?_
    refine j2_iasn x hb dX6_keeps_79 fa_97 (j := 466 * u + j) (by rw [hix]; exact vp_in_nI (by omega) (by decide)) (by rw [hix]; exact nI_clamp (by omega)) ?_
    refine j_iinc x dX6_keeps_80 rfl (by decide) rfl ?_
    refine j_goto (tgt := 52) x dX6_keeps_83 (by decide) ?_
    have h9 := ih
    simp only [Nat.zero_add] at h9
    rw [← nI_1 j] at h9
    exact h9
  refine j_iload_n x dX6_keeps_52 rfl ?_
  refine j_sipush (v := 466) x dX6_keeps_53 (by decide) ?_
  refine j_icmp_ge (tgt := 86) x dX6_keeps_56 (by decide) (fun hc => ?_) (fun hc => absurd (nI_le (Nat.le_refl 466) (by decide)) hc)
  refine j_aload_n x dX6_keeps_86 rfl ?_
  refine j_dup x dX6_keeps_87 rfl ?_
  refine j2_geti (k := 3) x hb dX6_keeps_88 jc_10 wfX6_42 (by decide) rfl ?_
  refine j_iconst (v := 1) x dX6_keeps_91 (by decide) ?_
  refine j_iadd x dX6_keeps_92 ?_
  rw [jcp_n (by omega), h0, nI_1]; refine j2_puti (k := 3) x hb dX6_keeps_93 jc_10 wfX6_42 (by decide) rfl rfl rfl rfl ?_
  refine j_iload_n x dX6_keeps_96 rfl ?_
  exact j_ireturn x hr dX6_keeps_97 (by omega) (by omega) ⟨rfl, rfl⟩
theorem cx_ends_0 {d : Nat} {b : SBt} {Y : OUt} {M : MM} (hb : 104 ≤ b.2.1)  : CM (d + 1) 0 0 yX6_ends cX6_ends 2 (some .int) [.ref 94, .int 0] b Y M (.inl (some (.int (0)))) (jrai M 1) := by
  refine Con.of (by decide +kernel) (Nat.le_of_ble_eq_true rfl) rfl fun p l e s m args below meth c D tyc A ad0 x hr htab hname => ?_
  change JJ _ _ _ _ _ _ _ _ _ _ _ _ _ _ _ _ _ 0 [some (.ref 94), some (.int 0)] [] _ 0 0
  refine j_iload_n x dX6_ends_0 rfl ?_
  refine j_if_eq (tgt := 15) x dX6_ends_1 (by decide) (fun hc => ?_) (fun hc => absurd (rfl) hc)
  refine j_aload_n x dX6_ends_15 rfl ?_
  refine j_iconst (v := 1) x dX6_ends_16 (by decide) ?_
  refine j2_callVi x hb dX6_ends_17 m_X6_raises (cx_raises (d := d) hb) wmX6_61 jc_10 rfl rfl rfl (Nat.le_of_ble_eq_true rfl) (j_fit_rm (by omega) (by omega) (by omega)) rfl ?_
  exact j_ireturn x hr dX6_ends_20 (by omega) (by omega) ⟨rfl, rfl⟩
theorem cx_ends_1 {d : Nat} {b : SBt} {Y : OUt} {M : MM} (hb : 104 ≤ b.2.1) {u : Nat} (hu : u < 8) (h0 : M 94 3 = nI u) : CM (d + 1) 0 0 yX6_ends cX6_ends 2 (some .int) [.ref 94, .int 1] b Y M (.inl (some (.int (M 94 18)))) (jkp M u) := by
  refine Con.of (by decide +kernel) (Nat.le_of_ble_eq_true rfl) rfl fun p l e s m args below meth c D tyc A ad0 x hr htab hname => ?_
  change JJ _ _ _ _ _ _ _ _ _ _ _ _ _ _ _ _ _ 0 [some (.ref 94), some (.int 1)] [] _ 0 0
  refine j_iload_n x dX6_ends_0 rfl ?_
  refine j_if_eq (tgt := 15) x dX6_ends_1 (by decide) (fun hc => absurd hc (by decide)) (fun hc => ?_)
  refine j_aload_n x dX6_ends_4 rfl ?_
  refine j_aload_n x dX6_ends_5 rfl ?_
  refine j2_geti (k := 18) x hb dX6_ends_6 jc_10 wfX6_54 (by decide) rfl ?_
  refine j2_callVi x hb dX6_ends_9 m_X6_keeps (cx_keeps (d := d) hb hu h0) wmX6_57 jc_10 rfl rfl rfl (Nat.le_of_ble_eq_true rfl) (j_fit_rm (by omega) (by omega) (by omega)) rfl ?_
  refine j_goto (tgt := 20) x dX6_ends_12 (by decide) ?_
  exact j_ireturn x hr dX6_ends_20 (by omega) (by omega) ⟨rfl, rfl⟩
theorem cx_isTeam {d : Nat} {b : SBt} {Y : OUt} {M : MM} (hb : 104 ≤ b.2.1) {t : Int32} : CM (d + 1) 0 0 yX6_isTeam cX6_isTeam 2 (some .boolean) [.ref 94, .int t] b Y M (.inl (some (.int (jb (¬ t < 0 ∧ ¬ M 95 0 - 1 < t))))) (M) := by
  refine Con.of (by decide +kernel) (Nat.le_of_ble_eq_true rfl) rfl fun p l e s m args below meth c D tyc A ad0 x hr htab hname => ?_
  change JJ _ _ _ _ _ _ _ _ _ _ _ _ _ _ _ _ _ 0 [some (.ref 94), some (.int t)] [] _ 0 0
  refine j_iload_n x dX6_isTeam_0 rfl ?_
  refine j_iconst (v := 0) x dX6_isTeam_1 (by decide) ?_
  refine j_aload_n x dX6_isTeam_2 rfl ?_
  refine j2_getr (k := 0) (r := 95) x hb dX6_isTeam_3 jc_10 wfX6_9 (by decide) rfl ?_
  refine j_iconst (v := 0) x dX6_isTeam_6 (by decide) ?_
  refine j2_ialn x hb dX6_isTeam_7 fa_95 (j := 0) (vp_c (by decide)) (by decide) ?_
  refine j_iconst (v := 1) x dX6_isTeam_8 (by decide) ?_
  refine j_isub x dX6_isTeam_9 ?_
  refine j2_callSi x hb dX6_isTeam_10 m_X6_in (cx_in (d := d) hb) wmX6_64 rfl (Nat.le_of_ble_eq_true rfl) (j_fit_rm (by omega) (by omega) (by omega)) rfl ?_
  exact j_zreturn x hr dX6_isTeam_13 (by first | decide | with_reducible exact jb_nar | with_reducible exact jisS_nar | with_reducible exact gno_nar) (by omega) (by omega) ⟨rfl, rfl⟩
theorem cx_isMeeting {d : Nat} {b : SBt} {Y : OUt} {M : MM} (hb : 104 ≤ b.2.1) {t : Int32} : CM (d + 1) 0 0 yX6_isMeeting cX6_isMeeting 2 (some .boolean) [.ref 94, .int t] b Y M (.inl (some (.int (jb (¬ t < 0 ∧ ¬ M 95 9 - 1 < t))))) (M) := by
  refine Con.of (by decide +kernel) (Nat.le_of_ble_eq_true rfl) rfl fun p l e s m args below meth c D tyc A ad0 x hr htab hname => ?_
  change JJ _ _ _ _ _ _ _ _ _ _ _ _ _ _ _ _ _ 0 [some (.ref 94), some (.int t)] [] _ 0 0
  refine j_iload_n x dX6_isMeeting_0 rfl ?_
  refine j_iconst (v := 0) x dX6_isMeeting_1 (by decide) ?_
  refine j_aload_n x dX6_isMeeting_2 rfl ?_
  refine j2_getr (k := 0) (r := 95) x hb dX6_isMeeting_3 jc_10 wfX6_9 (by decide) rfl ?_
  refine j_bipush (v := 9) x dX6_isMeeting_6 (by decide) ?_
  refine j2_ialn x hb dX6_isMeeting_8 fa_95 (j := 9) (vp_c (by decide)) (by decide) ?_
  refine j_iconst (v := 1) x dX6_isMeeting_9 (by decide) ?_
  refine j_isub x dX6_isMeeting_10 ?_
  refine j2_callSi x hb dX6_isMeeting_11 m_X6_in (cx_in (d := d) hb) wmX6_64 rfl (Nat.le_of_ble_eq_true rfl) (j_fit_rm (by omega) (by omega) (by omega)) rfl ?_
  exact j_zreturn x hr dX6_isMeeting_14 (by first | decide | with_reducible exact jb_nar | with_reducible exact jisS_nar | with_reducible exact gno_nar) (by omega) (by omega) ⟨rfl, rfl⟩
theorem cx_isWeek {d : Nat} {b : SBt} {Y : OUt} {M : MM} (hb : 104 ≤ b.2.1) {t : Int32} : CM (d + 1) 0 0 yX6_isWeek cX6_isWeek 2 (some .boolean) [.ref 94, .int t] b Y M (.inl (some (.int (jb (¬ t < 0 ∧ ¬ M 95 1 - 1 < t))))) (M) := by
  refine Con.of (by decide +kernel) (Nat.le_of_ble_eq_true rfl) rfl fun p l e s m args below meth c D tyc A ad0 x hr htab hname => ?_
  change JJ _ _ _ _ _ _ _ _ _ _ _ _ _ _ _ _ _ 0 [some (.ref 94), some (.int t)] [] _ 0 0
  refine j_iload_n x dX6_isWeek_0 rfl ?_
  refine j_iconst (v := 0) x dX6_isWeek_1 (by decide) ?_
  refine j_aload_n x dX6_isWeek_2 rfl ?_
  refine j2_getr (k := 0) (r := 95) x hb dX6_isWeek_3 jc_10 wfX6_9 (by decide) rfl ?_
  refine j_iconst (v := 1) x dX6_isWeek_6 (by decide) ?_
  refine j2_ialn x hb dX6_isWeek_7 fa_95 (j := 1) (vp_c (by decide)) (by decide) ?_
  refine j_iconst (v := 1) x dX6_isWeek_8 (by decide) ?_
  refine j_isub x dX6_isWeek_9 ?_
  refine j2_callSi x hb dX6_isWeek_10 m_X6_in (cx_in (d := d) hb) wmX6_64 rfl (Nat.le_of_ble_eq_true rfl) (j_fit_rm (by omega) (by omega) (by omega)) rfl ?_
  exact j_zreturn x hr dX6_isWeek_13 (by first | decide | with_reducible exact jb_nar | with_reducible exact jisS_nar | with_reducible exact gno_nar) (by omega) (by omega) ⟨rfl, rfl⟩
theorem cx_isDrawn {d : Nat} {b : SBt} {Y : OUt} {M : MM} (hb : 104 ≤ b.2.1)  : CM (d) 0 0 yX6_isDrawn cX6_isDrawn 1 (some .boolean) [.ref 94] b Y M (.inl (some (.int (jb (¬ M 95 1 ≤ 0))))) (M) := by
  refine Con.of (by decide +kernel) (Nat.le_of_ble_eq_true rfl) rfl fun p l e s m args below meth c D tyc A ad0 x hr htab hname => ?_
  change JJ _ _ _ _ _ _ _ _ _ _ _ _ _ _ _ _ _ 0 [some (.ref 94)] [] _ 0 0
  refine j_aload_n x dX6_isDrawn_0 rfl ?_
  refine j2_getr (k := 0) (r := 95) x hb dX6_isDrawn_1 jc_10 wfX6_9 (by decide) rfl ?_
  refine j_iconst (v := 1) x dX6_isDrawn_4 (by decide) ?_
  refine j2_ialn x hb dX6_isDrawn_5 fa_95 (j := 1) (vp_c (by decide)) (by decide) ?_
  refine j_if_le (tgt := 13) x dX6_isDrawn_6 (by decide) (fun h1 => ?_) (fun h1 => ?_)
  · refine j_iconst (v := 0) x dX6_isDrawn_13 (by decide) ?_
    exact j_zreturn x hr dX6_isDrawn_14 (by first | decide | with_reducible exact jb_nar | with_reducible exact jisS_nar | with_reducible exact gno_nar) (by omega) (by omega) ⟨by rw [jb_f (fun q => q h1)], rfl⟩
  · refine j_iconst (v := 1) x dX6_isDrawn_9 (by decide) ?_
    refine j_goto (tgt := 14) x dX6_isDrawn_10 (by decide) ?_
    exact j_zreturn x hr dX6_isDrawn_14 (by first | decide | with_reducible exact jb_nar | with_reducible exact jisS_nar | with_reducible exact gno_nar) (by omega) (by omega) ⟨by rw [jb_t h1], rfl⟩
theorem cx_places {d : Nat} {b : SBt} {Y : OUt} {M : MM} (hb : 104 ≤ b.2.1)  : CM (d) 0 0 yX6_places cX6_places 1 (some .int) [.ref 94] b Y M (.inl (some (.int (M 95 0 + (M 95 0 - M 95 0 / 2 * 2))))) (M) := by
  refine Con.of (by decide +kernel) (Nat.le_of_ble_eq_true rfl) rfl fun p l e s m args below meth c D tyc A ad0 x hr htab hname => ?_
  change JJ _ _ _ _ _ _ _ _ _ _ _ _ _ _ _ _ _ 0 [some (.ref 94)] [] _ 0 0
  refine j_aload_n x dX6_places_0 rfl ?_
  refine j2_getr (k := 0) (r := 95) x hb dX6_places_1 jc_10 wfX6_9 (by decide) rfl ?_
  refine j_iconst (v := 0) x dX6_places_4 (by decide) ?_
  refine j2_ialn x hb dX6_places_5 fa_95 (j := 0) (vp_c (by decide)) (by decide) ?_
  refine j_aload_n x dX6_places_6 rfl ?_
  refine j2_getr (k := 0) (r := 95) x hb dX6_places_7 jc_10 wfX6_9 (by decide) rfl ?_
  refine j_iconst (v := 0) x dX6_places_10 (by decide) ?_
  refine j2_ialn x hb dX6_places_11 fa_95 (j := 0) (vp_c (by decide)) (by decide) ?_
  refine j_iconst (v := 2) x dX6_places_12 (by decide) ?_
  refine j_irem x dX6_places_13 (by decide) ?_
  refine j_iadd x dX6_places_14 ?_
  exact j_ireturn x hr dX6_places_15 (by omega) (by omega) ⟨rfl, rfl⟩
theorem cx_played_0 {d : Nat} {b : SBt} {Y : OUt} {M : MM} (hb : 104 ≤ b.2.1) (h0 : M 95 9 = 0) : CM (d) 0 0 yX6_played cX6_played 3 (some .int) [.ref 94] b Y M (.inl (some (.int (0)))) (M) := by
  refine Con.of (by decide +kernel) (Nat.le_of_ble_eq_true rfl) rfl fun p l e s m args below meth c D tyc A ad0 x hr htab hname => ?_
  change JJ _ _ _ _ _ _ _ _ _ _ _ _ _ _ _ _ _ 0 [some (.ref 94), none, none] [] _ 0 0
  refine j_iconst (v := 0) x dX6_played_0 (by decide) ?_
  refine j_istore_n x dX6_played_1 (by decide) rfl ?_
  refine j_iconst (v := 0) x dX6_played_2 (by decide) ?_
  refine j_istore_n x dX6_played_3 (by decide) rfl ?_
  refine j_iload_n x dX6_played_4 rfl ?_
  refine j_aload_n x dX6_played_5 rfl ?_
  refine j2_getr (k := 0) (r := 95) x hb dX6_played_6 jc_10 wfX6_9 (by decide) rfl ?_
  refine j_bipush (v := 9) x dX6_played_9 (by decide) ?_
  refine j2_ialn x hb dX6_played_11 fa_95 (j := 9) (vp_c (by decide)) (by decide) ?_
  refine j_icmp_ge (tgt := 30) x dX6_played_12 (by decide) (fun hc => ?_) (fun hc => absurd (by rw [h0]; decide) hc)
  refine j_iload_n x dX6_played_30 rfl ?_
  exact j_ireturn x hr dX6_played_31 (by omega) (by omega) ⟨rfl, rfl⟩
theorem cx_goals_0 {d : Nat} {b : SBt} {Y : OUt} {M : MM} (hb : 104 ≤ b.2.1) (h0 : M 95 9 = 0) : CM (d) 0 0 yX6_goals cX6_goals 3 (some .int) [.ref 94] b Y M (.inl (some (.int (0)))) (M) := by
  refine Con.of (by decide +kernel) (Nat.le_of_ble_eq_true rfl) rfl fun p l e s m args below meth c D tyc A ad0 x hr htab hname => ?_
  change JJ _ _ _ _ _ _ _ _ _ _ _ _ _ _ _ _ _ 0 [some (.ref 94), none, none] [] _ 0 0
  refine j_iconst (v := 0) x dX6_goals_0 (by decide) ?_
  refine j_istore_n x dX6_goals_1 (by decide) rfl ?_
  refine j_iconst (v := 0) x dX6_goals_2 (by decide) ?_
  refine j_istore_n x dX6_goals_3 (by decide) rfl ?_
  refine j_iload_n x dX6_goals_4 rfl ?_
  refine j_aload_n x dX6_goals_5 rfl ?_
  refine j2_getr (k := 0) (r := 95) x hb dX6_goals_6 jc_10 wfX6_9 (by decide) rfl ?_
  refine j_bipush (v := 9) x dX6_goals_9 (by decide) ?_
  refine j2_ialn x hb dX6_goals_11 fa_95 (j := 9) (vp_c (by decide)) (by decide) ?_
  refine j_icmp_ge (tgt := 47) x dX6_goals_12 (by decide) (fun hc => ?_) (fun hc => absurd (by rw [h0]; decide) hc)
  refine j_iload_n x dX6_goals_47 rfl ?_
  exact j_ireturn x hr dX6_goals_48 (by omega) (by omega) ⟨rfl, rfl⟩
end

section
/-! ===== the reference: its calls (of a league with no teams and no weeks where the text says so) ===== -/
theorem i_neg1 {u : Int32} (h : ¬ u < -1) (h1 : u < 0) : u = -1 := by
  rw [Int32.lt_iff_toInt_lt] at h h1
  apply Int32.toInt_inj.mp
  have e1 : (-1 : Int32).toInt = -1 := by decide
  have e0 : (0 : Int32).toInt = 0 := by decide
  omega
theorem no_x {t v : Int32} (h : v = 0) : jb (¬ t < 0 ∧ ¬ v - 1 < t) = 0 := jb_f (fun q => by
  subst h
  have h1 := q.1
  have h2 := q.2
  rw [Int32.lt_iff_toInt_lt] at h1 h2
  have e1 : (0 - 1 : Int32).toInt = -1 := by decide
  have e0 : (0 : Int32).toInt = 0 := by decide
  omega)
theorem no_w {v : Int32} (h : v = 0) : jb (¬ v ≤ 0) = 0 := jb_f (fun q => q (by rw [h]; decide))
theorem cx_team_no {d : Nat} {b : SBt} {Y : OUt} {M : MM} (hb : 104 ≤ b.2.1) {u : Int32} (hx : ¬ (¬ u < 0 ∧ ¬ 9 < u)) : CM (d + 2) 0 0 yX6_team cX6_team 3 (some .int) [.ref 94, .int u] b Y M (.inl (some (.int (0)))) (jrai (jrefu (jtr M) 1 0) 1) := by
  refine Con.of (by decide +kernel) (Nat.le_of_ble_eq_true rfl) rfl fun p l e s m args below meth c D tyc A ad0 x hr htab hname => ?_
  change JJ _ _ _ _ _ _ _ _ _ _ _ _ _ _ _ _ _ 0 [some (.ref 94), some (.int u), none] [] _ 0 0
  refine j_aload_n x dX6_team_0 rfl ?_
  refine j2_callVv x hb dX6_team_1 m_X6_tries (cx_tries (d := d) hb) wmX6_76 jc_10 rfl rfl rfl (Nat.le_of_ble_eq_true rfl) (j_fit_rm (by omega) (by omega) (by omega)) rfl ?_
  refine j_iload_n x dX6_team_4 rfl ?_
  refine j_iconst (v := 0) x dX6_team_5 (by decide) ?_
  refine j_bipush (v := 9) x dX6_team_6 (by decide) ?_
  refine j2_callSi x hb dX6_team_8 m_X6_in (CM_v (cx_in (d := d) hb) (jb_f hx)) wmX6_64 rfl (Nat.le_of_ble_eq_true rfl) (j_fit_rm (by omega) (by omega) (by omega)) rfl ?_
  refine j_if_ne (tgt := 25) x dX6_team_11 (by decide) (fun hc => absurd hc (fun q => q rfl)) (fun hc => ?_)
  refine j_aload_n x dX6_team_14 rfl ?_
  refine j_aload_n x dX6_team_15 rfl ?_
  refine j_iconst (v := 1) x dX6_team_16 (by decide) ?_
  refine j_iconst (v := 0) x dX6_team_17 (by decide) ?_
  refine j2_callVi x hb dX6_team_18 m_X6_refuses (cx_refuses (d := d) hb) wmX6_79 jc_10 rfl rfl rfl (Nat.le_of_ble_eq_true rfl) (j_fit_rm (by omega) (by omega) (by omega)) rfl ?_
  refine j2_callVi x hb dX6_team_21 m_X6_ends (cx_ends_0 (d := d) hb) wmX6_83 jc_10 rfl rfl rfl (Nat.le_of_ble_eq_true rfl) (j_fit_rm (by omega) (by omega) (by omega)) rfl ?_
  exact j_ireturn x hr dX6_team_24 (by omega) (by omega) ⟨rfl, rfl⟩
theorem cx_team_ok {d : Nat} {b : SBt} {Y : OUt} {M : MM} (hb : 104 ≤ b.2.1) {u : Int32} {t k : Nat} (hx : ¬ u < 0 ∧ ¬ 9 < u) (h0 : M 95 1 = 0) (h1 : M 95 0 = nI t) (ht : t < 8) (h3 : M 94 3 = nI k) (hk : k < 8) : CM (d + 2) 0 0 yX6_team cX6_team 3 (some .int) [.ref 94, .int u] b Y M (.inl (some (.int (nI t)))) (jkp (jm (jm (jtr M) 95 0 (nI (t + 1))) 95 (10 + t) u) k) := by
  refine Con.of (by decide +kernel) (Nat.le_of_ble_eq_true rfl) rfl fun p l e s m args below meth c D tyc A ad0 x hr htab hname => ?_
  change JJ _ _ _ _ _ _ _ _ _ _ _ _ _ _ _ _ _ 0 [some (.ref 94), some (.int u), none] [] _ 0 0
  refine j_aload_n x dX6_team_0 rfl ?_
  refine j2_callVv x hb dX6_team_1 m_X6_tries (cx_tries (d := d) hb) wmX6_76 jc_10 rfl rfl rfl (Nat.le_of_ble_eq_true rfl) (j_fit_rm (by omega) (by omega) (by omega)) rfl ?_
  refine j_iload_n x dX6_team_4 rfl ?_
  refine j_iconst (v := 0) x dX6_team_5 (by decide) ?_
  refine j_bipush (v := 9) x dX6_team_6 (by decide) ?_
  refine j2_callSi x hb dX6_team_8 m_X6_in (CM_v (cx_in (d := d) hb) (jb_t hx)) wmX6_64 rfl (Nat.le_of_ble_eq_true rfl) (j_fit_rm (by omega) (by omega) (by omega)) rfl ?_
  refine j_if_ne (tgt := 25) x dX6_team_11 (by decide) (fun hc => ?_) (fun hc => absurd hc (by decide))
  refine j_aload_n x dX6_team_25 rfl ?_
  refine j2_callVi x hb dX6_team_26 m_X6_isDrawn (CM_v (cx_isDrawn (d := d) hb) (no_w (by rw [jtr_n (by omega)]; exact h0))) wmX6_87 jc_10 rfl rfl rfl (Nat.le_of_ble_eq_true rfl) (j_fit_rm (by omega) (by omega) (by omega)) rfl ?_
  refine j_if_eq (tgt := 43) x dX6_team_29 (by decide) (fun hc => ?_) (fun hc => absurd (rfl) hc)
  refine j_aload_n x dX6_team_43 rfl ?_
  refine j2_getr (k := 0) (r := 95) x hb dX6_team_44 jc_10 wfX6_9 (by decide) rfl ?_
  refine j_iconst (v := 0) x dX6_team_47 (by decide) ?_
  refine j2_ialn x hb dX6_team_48 fa_95 (j := 0) (vp_c (by decide)) (by decide) ?_
  rw [jtr_n (by omega), h1]; refine j_istore_n x dX6_team_49 (by decide) rfl ?_
  refine j_iload_n x dX6_team_50 rfl ?_
  refine j_bipush (v := 8) x dX6_team_51 (by decide) ?_
  refine j_icmp_ne (tgt := 68) x dX6_team_53 (by decide) (fun hc => ?_) (fun hc => absurd hc (fun q => absurd ((nI_eq (by omega) (by decide)).mp (show nI t = nI 8 from q)) (by omega)))
  refine j_aload_n x dX6_team_68 rfl ?_
  refine j2_getr (k := 0) (r := 95) x hb dX6_team_69 jc_10 wfX6_9 (by decide) rfl ?_
  refine j_iconst (v := 0) x dX6_team_72 (by decide) ?_
  refine j_dup2 x dX6_team_73 rfl rfl ?_
  refine j2_ialn x hb dX6_team_74 fa_95 (j := 0) (vp_c (by decide)) (by decide) ?_
  refine j_iconst (v := 1) x dX6_team_75 (by decide) ?_
  refine j_iadd x dX6_team_76 ?_
  refine j2_iasn x hb dX6_team_77 fa_95 (j := 0) (vp_c (by decide)) (by decide) ?_
  rw [jtr_n (by omega), h1, nI_1]; refine j_aload_n x dX6_team_78 rfl ?_
  refine j2_getr (k := 0) (r := 95) x hb dX6_team_79 jc_10 wfX6_9 (by decide) rfl ?_
  refine j_bipush (v := 10) x dX6_team_82 (by decide) ?_
  refine j_iload_n x dX6_team_84 rfl ?_
  refine j_iadd x dX6_team_85 ?_
  refine j_iload_n x dX6_team_86 rfl ?_
  refine j2_iasn x hb dX6_team_87 fa_95 (j := 10 + t) (by rw [show (10 : Int32) + nI t = nI (10 + t) from nI_add 10 t]; exact vp_in_nI (by omega) (by decide)) (by rw [show (10 : Int32) + nI t = nI (10 + t) from nI_add 10 t]; exact nI_clamp (by omega)) ?_
  refine j_aload_n x dX6_team_88 rfl ?_
  refine j_iload_n x dX6_team_89 rfl ?_
  refine j2_callVi x hb dX6_team_90 m_X6_keeps (cx_keeps (d := d) hb hk (by rw [jm_n (by omega), jm_n (by omega), jtr_f (by omega) (by omega)]; exact h3)) wmX6_57 jc_10 rfl rfl rfl (Nat.le_of_ble_eq_true rfl) (j_fit_rm (by omega) (by omega) (by omega)) rfl ?_
  exact j_ireturn x hr dX6_team_93 (by omega) (by omega) ⟨rfl, rfl⟩
theorem cx_ground_no {d : Nat} {b : SBt} {Y : OUt} {M : MM} (hb : 104 ≤ b.2.1) {t u : Int32} (h0 : M 95 0 = 0) : CM (d + 2) 0 0 yX6_ground cX6_ground 4 (some .int) [.ref 94, .int t, .int u] b Y M (.inl (some (.int (0)))) (jrai (jrefu (jtr M) 3 t) 1) := by
  refine Con.of (by decide +kernel) (Nat.le_of_ble_eq_true rfl) rfl fun p l e s m args below meth c D tyc A ad0 x hr htab hname => ?_
  change JJ _ _ _ _ _ _ _ _ _ _ _ _ _ _ _ _ _ 0 [some (.ref 94), some (.int t), some (.int u), none] [] _ 0 0
  refine j_aload_n x dX6_ground_0 rfl ?_
  refine j2_callVv x hb dX6_ground_1 m_X6_tries (cx_tries (d := d) hb) wmX6_76 jc_10 rfl rfl rfl (Nat.le_of_ble_eq_true rfl) (j_fit_rm (by omega) (by omega) (by omega)) rfl ?_
  refine j_aload_n x dX6_ground_4 rfl ?_
  refine j_iload_n x dX6_ground_5 rfl ?_
  refine j2_callVi x hb dX6_ground_6 m_X6_isTeam (CM_v (cx_isTeam (d := d) hb) (no_x (by rw [jtr_n (by omega)]; exact h0))) wmX6_91 jc_10 rfl rfl rfl (Nat.le_of_ble_eq_true rfl) (j_fit_rm (by omega) (by omega) (by omega)) rfl ?_
  refine j_if_ne (tgt := 23) x dX6_ground_9 (by decide) (fun hc => absurd hc (fun q => q rfl)) (fun hc => ?_)
  refine j_aload_n x dX6_ground_12 rfl ?_
  refine j_aload_n x dX6_ground_13 rfl ?_
  refine j_iconst (v := 3) x dX6_ground_14 (by decide) ?_
  refine j_iload_n x dX6_ground_15 rfl ?_
  refine j2_callVi x hb dX6_ground_16 m_X6_refuses (cx_refuses (d := d) hb) wmX6_79 jc_10 rfl rfl rfl (Nat.le_of_ble_eq_true rfl) (j_fit_rm (by omega) (by omega) (by omega)) rfl ?_
  refine j2_callVi x hb dX6_ground_19 m_X6_ends (cx_ends_0 (d := d) hb) wmX6_83 jc_10 rfl rfl rfl (Nat.le_of_ble_eq_true rfl) (j_fit_rm (by omega) (by omega) (by omega)) rfl ?_
  exact j_ireturn x hr dX6_ground_22 (by omega) (by omega) ⟨rfl, rfl⟩
theorem cx_draw_few {d : Nat} {b : SBt} {Y : OUt} {M : MM} (hb : 104 ≤ b.2.1) (h1 : M 95 1 = 0) (h0 : M 95 0 < 2) : CM (d + 2) 0 0 yX6_draw cX6_draw 9 (some .int) [.ref 94] b Y M (.inl (some (.int (0)))) (jrai (jrefu (jtr M) 6 (jtr M 95 0)) 1) := by
  refine Con.of (by decide +kernel) (Nat.le_of_ble_eq_true rfl) rfl fun p l e s m args below meth c D tyc A ad0 x hr htab hname => ?_
  change JJ _ _ _ _ _ _ _ _ _ _ _ _ _ _ _ _ _ 0 [some (.ref 94), none, none, none, none, none, none, none, none] [] _ 0 0
  refine j_aload_n x dX6_draw_0 rfl ?_
  refine j2_callVv x hb dX6_draw_1 m_X6_tries (cx_tries (d := d) hb) wmX6_76 jc_10 rfl rfl rfl (Nat.le_of_ble_eq_true rfl) (j_fit_rm (by omega) (by omega) (by omega)) rfl ?_
  refine j_aload_n x dX6_draw_4 rfl ?_
  refine j2_callVi x hb dX6_draw_5 m_X6_isDrawn (CM_v (cx_isDrawn (d := d) hb) (no_w (by rw [jtr_n (by omega)]; exact h1))) wmX6_87 jc_10 rfl rfl rfl (Nat.le_of_ble_eq_true rfl) (j_fit_rm (by omega) (by omega) (by omega)) rfl ?_
  refine j_if_eq (tgt := 22) x dX6_draw_8 (by decide) (fun hc => ?_) (fun hc => absurd (rfl) hc)
  refine j_aload_n x dX6_draw_22 rfl ?_
  refine j2_callVi x hb dX6_draw_23 m_X6_places (cx_places (d := d) hb) wmX6_94 jc_10 rfl rfl rfl (Nat.le_of_ble_eq_true rfl) (j_fit_rm (by omega) (by omega) (by omega)) rfl ?_
  refine j_istore_n x dX6_draw_26 (by decide) rfl ?_
  refine j_aload_n x dX6_draw_27 rfl ?_
  refine j2_getr (k := 0) (r := 95) x hb dX6_draw_28 jc_10 wfX6_9 (by decide) rfl ?_
  refine j_iconst (v := 0) x dX6_draw_31 (by decide) ?_
  refine j2_ialn x hb dX6_draw_32 fa_95 (j := 0) (vp_c (by decide)) (by decide) ?_
  refine j_iconst (v := 2) x dX6_draw_33 (by decide) ?_
  refine j_icmp_ge (tgt := 54) x dX6_draw_34 (by decide) (fun hc => absurd hc (by rw [jtr_n (by omega)]; exact Int32.not_le.mpr h0)) (fun hc => ?_)
  refine j_aload_n x dX6_draw_37 rfl ?_
  refine j_aload_n x dX6_draw_38 rfl ?_
  refine j_bipush (v := 6) x dX6_draw_39 (by decide) ?_
  refine j_aload_n x dX6_draw_41 rfl ?_
  refine j2_getr (k := 0) (r := 95) x hb dX6_draw_42 jc_10 wfX6_9 (by decide) rfl ?_
  refine j_iconst (v := 0) x dX6_draw_45 (by decide) ?_
  refine j2_ialn x hb dX6_draw_46 fa_95 (j := 0) (vp_c (by decide)) (by decide) ?_
  refine j2_callVi x hb dX6_draw_47 m_X6_refuses (cx_refuses (d := d) hb) wmX6_79 jc_10 rfl rfl rfl (Nat.le_of_ble_eq_true rfl) (j_fit_rm (by omega) (by omega) (by omega)) rfl ?_
  refine j2_callVi x hb dX6_draw_50 m_X6_ends (cx_ends_0 (d := d) hb) wmX6_83 jc_10 rfl rfl rfl (Nat.le_of_ble_eq_true rfl) (j_fit_rm (by omega) (by omega) (by omega)) rfl ?_
  exact j_ireturn x hr dX6_draw_53 (by omega) (by omega) ⟨rfl, rfl⟩
theorem cx_give_no {d : Nat} {b : SBt} {Y : OUt} {M : MM} (hb : 104 ≤ b.2.1) {t u : Int32} (hx : ¬ (¬ t < 1 ∧ ¬ 5 < t) ∨ ¬ (¬ u < 0 ∧ ¬ 3 < u)) : CM (d + 2) 0 0 yX6_give cX6_give 4 (some .int) [.ref 94, .int t, .int u] b Y M (.inl (some (.int (0)))) (jrai (jrefu (jtr M) 1 0) 1) := by
  refine Con.of (by decide +kernel) (Nat.le_of_ble_eq_true rfl) rfl fun p l e s m args below meth c D tyc A ad0 x hr htab hname => ?_
  change JJ _ _ _ _ _ _ _ _ _ _ _ _ _ _ _ _ _ 0 [some (.ref 94), some (.int t), some (.int u), none] [] _ 0 0
  refine j_aload_n x dX6_give_0 rfl ?_
  refine j2_callVv x hb dX6_give_1 m_X6_tries (cx_tries (d := d) hb) wmX6_76 jc_10 rfl rfl rfl (Nat.le_of_ble_eq_true rfl) (j_fit_rm (by omega) (by omega) (by omega)) rfl ?_
  refine j_iload_n x dX6_give_4 rfl ?_
  refine j_iconst (v := 1) x dX6_give_5 (by decide) ?_
  refine j_iconst (v := 5) x dX6_give_6 (by decide) ?_
  refine j2_callSi x hb dX6_give_7 m_X6_in (cx_in (d := d) hb) wmX6_64 rfl (Nat.le_of_ble_eq_true rfl) (j_fit_rm (by omega) (by omega) (by omega)) rfl ?_
  refine j_if_eq (tgt := 22) x dX6_give_10 (by decide) (fun h1 => ?_) (fun h1 => ?_)
  · refine j_aload_n x dX6_give_22 rfl ?_
    refine j_aload_n x dX6_give_23 rfl ?_
    refine j_iconst (v := 1) x dX6_give_24 (by decide) ?_
    refine j_iconst (v := 0) x dX6_give_25 (by decide) ?_
    refine j2_callVi x hb dX6_give_26 m_X6_refuses (cx_refuses (d := d) hb) wmX6_79 jc_10 rfl rfl rfl (Nat.le_of_ble_eq_true rfl) (j_fit_rm (by omega) (by omega) (by omega)) rfl ?_
    refine j2_callVi x hb dX6_give_29 m_X6_ends (cx_ends_0 (d := d) hb) wmX6_83 jc_10 rfl rfl rfl (Nat.le_of_ble_eq_true rfl) (j_fit_rm (by omega) (by omega) (by omega)) rfl ?_
    exact j_ireturn x hr dX6_give_32 (by omega) (by omega) ⟨rfl, rfl⟩
  · refine j_iload_n x dX6_give_13 rfl ?_
    refine j_iconst (v := 0) x dX6_give_14 (by decide) ?_
    refine j_iconst (v := 3) x dX6_give_15 (by decide) ?_
    refine j2_callSi x hb dX6_give_16 m_X6_in (cx_in (d := d) hb) wmX6_64 rfl (Nat.le_of_ble_eq_true rfl) (j_fit_rm (by omega) (by omega) (by omega)) rfl ?_
    refine j_if_ne (tgt := 33) x dX6_give_19 (by decide) (fun hc => absurd hc (fun q => q (jb_f (hx.resolve_left (fun z => z (jb_nz.mp h1)))))) (fun hc => ?_)
    refine j_aload_n x dX6_give_22 rfl ?_
    refine j_aload_n x dX6_give_23 rfl ?_
    refine j_iconst (v := 1) x dX6_give_24 (by decide) ?_
    refine j_iconst (v := 0) x dX6_give_25 (by decide) ?_
    refine j2_callVi x hb dX6_give_26 m_X6_refuses (cx_refuses (d := d) hb) wmX6_79 jc_10 rfl rfl rfl (Nat.le_of_ble_eq_true rfl) (j_fit_rm (by omega) (by omega) (by omega)) rfl ?_
    refine j2_callVi x hb dX6_give_29 m_X6_ends (cx_ends_0 (d := d) hb) wmX6_83 jc_10 rfl rfl rfl (Nat.le_of_ble_eq_true rfl) (j_fit_rm (by omega) (by omega) (by omega)) rfl ?_
    exact j_ireturn x hr dX6_give_32 (by omega) (by omega) ⟨rfl, rfl⟩
theorem cx_give_ok {d : Nat} {b : SBt} {Y : OUt} {M : MM} (hb : 104 ≤ b.2.1) {t u : Int32} {k : Nat} (hx : (¬ t < 1 ∧ ¬ 5 < t) ∧ (¬ u < 0 ∧ ¬ 3 < u)) (h9 : M 95 9 = 0) (h3 : M 94 3 = nI k) (hk : k < 8) : CM (d + 2) 0 0 yX6_give cX6_give 4 (some .int) [.ref 94, .int t, .int u] b Y M (.inl (some (.int (10 * jtr M 95 3 + jtr M 95 4)))) (jkp (jm (jm (jtr M) 95 3 t) 95 4 u) k) := by
  refine Con.of (by decide +kernel) (Nat.le_of_ble_eq_true rfl) rfl fun p l e s m args below meth c D tyc A ad0 x hr htab hname => ?_
  change JJ _ _ _ _ _ _ _ _ _ _ _ _ _ _ _ _ _ 0 [some (.ref 94), some (.int t), some (.int u), none] [] _ 0 0
  refine j_aload_n x dX6_give_0 rfl ?_
  refine j2_callVv x hb dX6_give_1 m_X6_tries (cx_tries (d := d) hb) wmX6_76 jc_10 rfl rfl rfl (Nat.le_of_ble_eq_true rfl) (j_fit_rm (by omega) (by omega) (by omega)) rfl ?_
  refine j_iload_n x dX6_give_4 rfl ?_
  refine j_iconst (v := 1) x dX6_give_5 (by decide) ?_
  refine j_iconst (v := 5) x dX6_give_6 (by decide) ?_
  refine j2_callSi x hb dX6_give_7 m_X6_in (CM_v (cx_in (d := d) hb) (jb_t hx.1)) wmX6_64 rfl (Nat.le_of_ble_eq_true rfl) (j_fit_rm (by omega) (by omega) (by omega)) rfl ?_
  refine j_if_eq (tgt := 22) x dX6_give_10 (by decide) (fun hc => absurd hc (by decide)) (fun hc => ?_)
  refine j_iload_n x dX6_give_13 rfl ?_
  refine j_iconst (v := 0) x dX6_give_14 (by decide) ?_
  refine j_iconst (v := 3) x dX6_give_15 (by decide) ?_
  refine j2_callSi x hb dX6_give_16 m_X6_in (CM_v (cx_in (d := d) hb) (jb_t hx.2)) wmX6_64 rfl (Nat.le_of_ble_eq_true rfl) (j_fit_rm (by omega) (by omega) (by omega)) rfl ?_
  refine j_if_ne (tgt := 33) x dX6_give_19 (by decide) (fun hc => ?_) (fun hc => absurd hc (by decide))
  refine j_aload_n x dX6_give_33 rfl ?_
  refine j2_callVi x hb dX6_give_34 m_X6_played (cx_played_0 (d := d) hb (by rw [jtr_n (by omega)]; exact h9)) wmX6_113 jc_10 rfl rfl rfl (Nat.le_of_ble_eq_true rfl) (j_fit_rm (by omega) (by omega) (by omega)) rfl ?_
  refine j_if_le (tgt := 55) x dX6_give_37 (by decide) (fun hc => ?_) (fun hc => absurd (by decide) hc)
  refine j_bipush (v := 10) x dX6_give_55 (by decide) ?_
  refine j_aload_n x dX6_give_57 rfl ?_
  refine j2_getr (k := 0) (r := 95) x hb dX6_give_58 jc_10 wfX6_9 (by decide) rfl ?_
  refine j_iconst (v := 3) x dX6_give_61 (by decide) ?_
  refine j2_ialn x hb dX6_give_62 fa_95 (j := 3) (vp_c (by decide)) (by decide) ?_
  refine j_imul x dX6_give_63 ?_
  refine j_aload_n x dX6_give_64 rfl ?_
  refine j2_getr (k := 0) (r := 95) x hb dX6_give_65 jc_10 wfX6_9 (by decide) rfl ?_
  refine j_iconst (v := 4) x dX6_give_68 (by decide) ?_
  refine j2_ialn x hb dX6_give_69 fa_95 (j := 4) (vp_c (by decide)) (by decide) ?_
  refine j_iadd x dX6_give_70 ?_
  refine j_istore_n x dX6_give_71 (by decide) rfl ?_
  refine j_aload_n x dX6_give_72 rfl ?_
  refine j2_getr (k := 0) (r := 95) x hb dX6_give_73 jc_10 wfX6_9 (by decide) rfl ?_
  refine j_iconst (v := 3) x dX6_give_76 (by decide) ?_
  refine j_iload_n x dX6_give_77 rfl ?_
  refine j2_iasn x hb dX6_give_78 fa_95 (j := 3) (vp_c (by decide)) (by decide) ?_
  refine j_aload_n x dX6_give_79 rfl ?_
  refine j2_getr (k := 0) (r := 95) x hb dX6_give_80 jc_10 wfX6_9 (by decide) rfl ?_
  refine j_iconst (v := 4) x dX6_give_83 (by decide) ?_
  refine j_iload_n x dX6_give_84 rfl ?_
  refine j2_iasn x hb dX6_give_85 fa_95 (j := 4) (vp_c (by decide)) (by decide) ?_
  refine j_aload_n x dX6_give_86 rfl ?_
  refine j_iload_n x dX6_give_87 rfl ?_
  refine j2_callVi x hb dX6_give_88 m_X6_keeps (cx_keeps (d := d) hb hk (by rw [jm_n (by omega), jm_n (by omega), jtr_f (by omega) (by omega)]; exact h3)) wmX6_57 jc_10 rfl rfl rfl (Nat.le_of_ble_eq_true rfl) (j_fit_rm (by omega) (by omega) (by omega)) rfl ?_
  exact j_ireturn x hr dX6_give_91 (by omega) (by omega) ⟨rfl, rfl⟩
def jxr (M : MM) (t : Int32) : MM := if t < 0 then M else jm (jm M 95 5 (M 95 5 + 1)) 95 (6 + (M 95 5).toNatClampNeg) t
theorem jxr_m {M : MM} {t : Int32} (h : t < 0) : M = jxr M t := by rw [jxr, if_pos h]
def c5 (n : Nat) (M : MM) : Prop := ∃ c, c ≤ n ∧ M 95 5 = nI c
theorem c5_0 {M : MM} : c5 0 (jm M 95 5 0) := ⟨0, Nat.le_refl _, by rw [jm_s]; rfl⟩
theorem c5_s {M : MM} {n : Nat} {t : Int32} (h : c5 n M) : c5 (n + 1) (jxr M t) := by
  obtain ⟨c, h1, h2⟩ := h
  by_cases ht : t < 0
  · exact ⟨c, by omega, by rw [jxr, if_pos ht]; exact h2⟩
  · refine ⟨c + 1, by omega, ?_⟩
    by_cases hn : n < 100
    · rw [jxr, if_neg ht, h2, nI_clamp (by omega), jm_n (by omega), jm_s, nI_1]
    · rw [jxr, if_neg ht, jm_n (by omega), jm_s, h2, nI_1]
theorem j2_rule {p : Program} {l : Launch} {e : Env} {R : Room} {s : State} {m : MethodId} {args : Array Value} {below : List Frame} {meth : Method} {c : Code} {D : va_G} {tyc : Nat → ClassId} {A : Nat → Prop} {n0 : Nat} {ad0 : Nat → Nat} {nL : Nat} {Q : State → Prop}
    {own : String} {cc : ByteArray} {pc : Nat} {L : List (Option Value)} {st : List Value} {b : SBt} {Y : OUt} {M : MM} {cells slots : Nat} (x : j_X p l s m args meth c D tyc A own cc nL) (hb : 104 ≤ b.2.1) {n : Nat} {t : Int32} (hd : decode cc pc = .ok (.iastore, 1)) (h5 : c5 n M) (hn : n ≤ 2) (ht : ¬ t < 0)
    (kk : JJ p l e R s m args below meth c D tyc A n0 ad0 nL Q (pc + 1) L st (HH b Y (jxr M t)) cells slots) : JJ p l e R s m args below meth c D tyc A n0 ad0 nL Q pc L (.int t :: .int (6 + M 95 5) :: .ref 95 :: st) (HH b Y (jm M 95 5 (M 95 5 + 1))) cells slots := by
  obtain ⟨q, h1, h2⟩ := h5
  have e6 : (6 : Int32) + M 95 5 = nI (6 + q) := by rw [h2]; exact nI_add 6 q
  refine j2_iasn x hb (j := 6 + q) hd fa_95 (by rw [e6]; exact vp_in_nI (by omega) (by decide)) (by rw [e6]; exact nI_clamp (by omega)) ?_
  have e : jm (jm M 95 5 (M 95 5 + 1)) 95 (6 + q) t = jxr M t := by rw [jxr, if_neg ht, h2, nI_clamp (by omega)]
  rw [e]
  exact kk
theorem j2_ceq {p : Program} {l : Launch} {e : Env} {R : Room} {s : State} {m : MethodId} {args : Array Value} {below : List Frame} {meth : Method} {c : Code} {D : va_G} {tyc : Nat → ClassId} {A : Nat → Prop} {n0 : Nat} {ad0 : Nat → Nat} {nL : Nat} {Q : State → Prop}
    {pc : Nat} {L : List (Option Value)} {st : List Value} {b : SBt} {Y : OUt} {M M1 : MM} {cells slots : Nat} (he : M = M1)
    (kk : JJ p l e R s m args below meth c D tyc A n0 ad0 nL Q pc L st (HH b Y M1) cells slots) : JJ p l e R s m args below meth c D tyc A n0 ad0 nL Q pc L st (HH b Y M) cells slots := by
  subst he
  exact kk
def jxR (M : MM) (t u v : Int32) : MM := jxr (jxr (jxr (jm M 95 5 0) t) u) v
def jxno (q : Option (Int32 × Int32)) : Int32 := match q with
  | some _ => 0
  | none => 1
def jxt (M : MM) (t u v : Int32) (q : Option (Int32 × Int32)) : MM := match q with
  | some z => jrefu M z.1 z.2
  | none => jm (jxR M t u v) 94 18 (jxR M t u v 95 5)
theorem cx_takesRules {d : Nat} {b : SBt} {Y : OUt} {M : MM} (hb : 104 ≤ b.2.1) {t u v : Int32} : CM (d + 1) 0 0 yX6_takesRules cX6_takesRules 6 (some .boolean) [.ref 94, .int t, .int u, .int v] b Y M (.inl (some (.int (jxno (rRules t u v))))) (jxt M t u v (rRules t u v)) := by
  refine Con.of (by decide +kernel) (Nat.le_of_ble_eq_true rfl) rfl fun p l e s m args below meth c D tyc A ad0 x hr htab hname => ?_
  change JJ _ _ _ _ _ _ _ _ _ _ _ _ _ _ _ _ _ 0 [some (.ref 94), some (.int t), some (.int u), some (.int v), none, none] [] _ 0 0
  have tail : rRules t u v = none → JJ p l e (j_rm (d + 1) 0 0) s m args below meth c D tyc A (HH b Y M).1 ad0 6 (vx_MQ below (j_Qc D tyc A (HH b Y M).1 ad0 (jres b Y (.inl (some (.int (jxno (rRules t u v))))) (jxt M t u v (rRules t u v)))) (j_XC D tyc A (HH b Y M).1 ad0 (jres b Y (.inl (some (.int (jxno (rRules t u v))))) (jxt M t u v (rRules t u v)))) args s 0 0 A) 73 [some (.ref 94), some (.int t), some (.int u), some (.int v), none, none] [] (HH b Y M) 0 0 := by
    intro hq
    refine j_aload_n x dX6_takesRules_73 rfl ?_
    refine j2_getr (k := 0) (r := 95) x hb dX6_takesRules_74 jc_10 wfX6_9 (by decide) rfl ?_
    refine j_iconst (v := 5) x dX6_takesRules_77 (by decide) ?_
    refine j_iconst (v := 0) x dX6_takesRules_78 (by decide) ?_
    refine j2_iasn x hb dX6_takesRules_79 fa_95 (j := 5) (vp_c (by decide)) (by decide) ?_
    refine j_iconst (v := 0) x dX6_takesRules_80 (by decide) ?_
    refine j_istore x dX6_takesRules_81 (by decide) rfl ?_
    refine j_iload x dX6_takesRules_83 rfl ?_
    refine j_iconst (v := 3) x dX6_takesRules_85 (by decide) ?_
    refine j_icmp_ge (tgt := 143) x dX6_takesRules_86 (by decide) (fun hc => absurd hc (by decide)) (fun hc => ?_)
    refine j_iload x dX6_takesRules_89 rfl ?_
    refine j_if_ne (tgt := 98) x dX6_takesRules_91 (by decide) (fun hc => absurd hc (fun q => q rfl)) (fun hc => ?_)
    refine j_iload_n x dX6_takesRules_94 rfl ?_
    refine j_goto (tgt := 109) x dX6_takesRules_95 (by decide) ?_
    refine j_istore x dX6_takesRules_109 (by decide) rfl ?_
    refine j_iload x dX6_takesRules_111 rfl ?_
    refine j_if_lt (tgt := 137) x dX6_takesRules_113 (by decide) (fun g0 => ?_) (fun g0 => ?_)
    · refine j2_ceq (jxr_m g0) ?_
      refine j_iinc x dX6_takesRules_137 rfl (by decide) rfl ?_
      refine j_goto (tgt := 83) x dX6_takesRules_140 (by decide) ?_
      refine j_iload x dX6_takesRules_83 rfl ?_
      refine j_iconst (v := 3) x dX6_takesRules_85 (by decide) ?_
      refine j_icmp_ge (tgt := 143) x dX6_takesRules_86 (by decide) (fun hc => absurd hc (by decide)) (fun hc => ?_)
      refine j_iload x dX6_takesRules_89 rfl ?_
      refine j_if_ne (tgt := 98) x dX6_takesRules_91 (by decide) (fun hc => ?_) (fun hc => absurd hc (by decide))
      refine j_iload x dX6_takesRules_98 rfl ?_
      refine j_iconst (v := 1) x dX6_takesRules_100 (by decide) ?_
      refine j_icmp_ne (tgt := 108) x dX6_takesRules_101 (by decide) (fun hc => absurd hc (fun q => q rfl)) (fun hc => ?_)
      refine j_iload_n x dX6_takesRules_104 rfl ?_
      refine j_goto (tgt := 109) x dX6_takesRules_105 (by decide) ?_
      refine j_istore x dX6_takesRules_109 (by decide) rfl ?_
      refine j_iload x dX6_takesRules_111 rfl ?_
      refine j_if_lt (tgt := 137) x dX6_takesRules_113 (by decide) (fun g1 => ?_) (fun g1 => ?_)
      · refine j2_ceq (jxr_m g1) ?_
        refine j_iinc x dX6_takesRules_137 rfl (by decide) rfl ?_
        refine j_goto (tgt := 83) x dX6_takesRules_140 (by decide) ?_
        refine j_iload x dX6_takesRules_83 rfl ?_
        refine j_iconst (v := 3) x dX6_takesRules_85 (by decide) ?_
        refine j_icmp_ge (tgt := 143) x dX6_takesRules_86 (by decide) (fun hc => absurd hc (by decide)) (fun hc => ?_)
        refine j_iload x dX6_takesRules_89 rfl ?_
        refine j_if_ne (tgt := 98) x dX6_takesRules_91 (by decide) (fun hc => ?_) (fun hc => absurd hc (by decide))
        refine j_iload x dX6_takesRules_98 rfl ?_
        refine j_iconst (v := 1) x dX6_takesRules_100 (by decide) ?_
        refine j_icmp_ne (tgt := 108) x dX6_takesRules_101 (by decide) (fun hc => ?_) (fun hc => absurd hc (by decide))
        refine j_iload_n x dX6_takesRules_108 rfl ?_
        refine j_istore x dX6_takesRules_109 (by decide) rfl ?_
        refine j_iload x dX6_takesRules_111 rfl ?_
        refine j_if_lt (tgt := 137) x dX6_takesRules_113 (by decide) (fun g2 => ?_) (fun g2 => ?_)
        · refine j2_ceq (jxr_m g2) ?_
          refine j_iinc x dX6_takesRules_137 rfl (by decide) rfl ?_
          refine j_goto (tgt := 83) x dX6_takesRules_140 (by decide) ?_
          refine j_iload x dX6_takesRules_83 rfl ?_
          refine j_iconst (v := 3) x dX6_takesRules_85 (by decide) ?_
          refine j_icmp_ge (tgt := 143) x dX6_takesRules_86 (by decide) (fun hc => ?_) (fun hc => absurd (by decide) hc)
          refine j_aload_n x dX6_takesRules_143 rfl ?_
          refine j_aload_n x dX6_takesRules_144 rfl ?_
          refine j2_getr (k := 0) (r := 95) x hb dX6_takesRules_145 jc_10 wfX6_9 (by decide) rfl ?_
          refine j_iconst (v := 5) x dX6_takesRules_148 (by decide) ?_
          refine j2_ialn x hb dX6_takesRules_149 fa_95 (j := 5) (vp_c (by decide)) (by decide) ?_
          refine j2_callVi x hb dX6_takesRules_150 m_X6_does (cx_does (d := d) hb) wmX6_116 jc_10 rfl rfl rfl (Nat.le_of_ble_eq_true rfl) (j_fit_rm (by omega) (by omega) (by omega)) rfl ?_
          exact j_zreturn x hr dX6_takesRules_153 (by first | decide | exact jb_nar) (by omega) (by omega) ⟨by rw [hq]; rfl, by rw [hq]; rfl⟩
        · refine j_aload_n x dX6_takesRules_116 rfl ?_
          refine j2_getr (k := 0) (r := 95) x hb dX6_takesRules_117 jc_10 wfX6_9 (by decide) rfl ?_
          refine j_bipush (v := 6) x dX6_takesRules_120 (by decide) ?_
          refine j_aload_n x dX6_takesRules_122 rfl ?_
          refine j2_getr (k := 0) (r := 95) x hb dX6_takesRules_123 jc_10 wfX6_9 (by decide) rfl ?_
          refine j_iconst (v := 5) x dX6_takesRules_126 (by decide) ?_
          refine j_dup2 x dX6_takesRules_127 rfl rfl ?_
          refine j2_ialn x hb dX6_takesRules_128 fa_95 (j := 5) (vp_c (by decide)) (by decide) ?_
          refine j_dup_x2 x dX6_takesRules_129 rfl rfl rfl ?_
          refine j_iconst (v := 1) x dX6_takesRules_130 (by decide) ?_
          refine j_iadd x dX6_takesRules_131 ?_
          refine j2_iasn x hb dX6_takesRules_132 fa_95 (j := 5) (vp_c (by decide)) (by decide) ?_
          refine j_iadd x dX6_takesRules_133 ?_
          refine j_iload x dX6_takesRules_134 rfl ?_
          refine j2_rule (n := 2) x hb dX6_takesRules_136 (c5_s (c5_s c5_0)) (by decide) g2 ?_
          refine j_iinc x dX6_takesRules_137 rfl (by decide) rfl ?_
          refine j_goto (tgt := 83) x dX6_takesRules_140 (by decide) ?_
          refine j_iload x dX6_takesRules_83 rfl ?_
          refine j_iconst (v := 3) x dX6_takesRules_85 (by decide) ?_
          refine j_icmp_ge (tgt := 143) x dX6_takesRules_86 (by decide) (fun hc => ?_) (fun hc => absurd (by decide) hc)
          refine j_aload_n x dX6_takesRules_143 rfl ?_
          refine j_aload_n x dX6_takesRules_144 rfl ?_
          refine j2_getr (k := 0) (r := 95) x hb dX6_takesRules_145 jc_10 wfX6_9 (by decide) rfl ?_
          refine j_iconst (v := 5) x dX6_takesRules_148 (by decide) ?_
          refine j2_ialn x hb dX6_takesRules_149 fa_95 (j := 5) (vp_c (by decide)) (by decide) ?_
          refine j2_callVi x hb dX6_takesRules_150 m_X6_does (cx_does (d := d) hb) wmX6_116 jc_10 rfl rfl rfl (Nat.le_of_ble_eq_true rfl) (j_fit_rm (by omega) (by omega) (by omega)) rfl ?_
          exact j_zreturn x hr dX6_takesRules_153 (by first | decide | exact jb_nar) (by omega) (by omega) ⟨by rw [hq]; rfl, by rw [hq]; rfl⟩
      · refine j_aload_n x dX6_takesRules_116 rfl ?_
        refine j2_getr (k := 0) (r := 95) x hb dX6_takesRules_117 jc_10 wfX6_9 (by decide) rfl ?_
        refine j_bipush (v := 6) x dX6_takesRules_120 (by decide) ?_
        refine j_aload_n x dX6_takesRules_122 rfl ?_
        refine j2_getr (k := 0) (r := 95) x hb dX6_takesRules_123 jc_10 wfX6_9 (by decide) rfl ?_
        refine j_iconst (v := 5) x dX6_takesRules_126 (by decide) ?_
        refine j_dup2 x dX6_takesRules_127 rfl rfl ?_
        refine j2_ialn x hb dX6_takesRules_128 fa_95 (j := 5) (vp_c (by decide)) (by decide) ?_
        refine j_dup_x2 x dX6_takesRules_129 rfl rfl rfl ?_
        refine j_iconst (v := 1) x dX6_takesRules_130 (by decide) ?_
        refine j_iadd x dX6_takesRules_131 ?_
        refine j2_iasn x hb dX6_takesRules_132 fa_95 (j := 5) (vp_c (by decide)) (by decide) ?_
        refine j_iadd x dX6_takesRules_133 ?_
        refine j_iload x dX6_takesRules_134 rfl ?_
        refine j2_rule (n := 1) x hb dX6_takesRules_136 (c5_s c5_0) (by decide) g1 ?_
        refine j_iinc x dX6_takesRules_137 rfl (by decide) rfl ?_
        refine j_goto (tgt := 83) x dX6_takesRules_140 (by decide) ?_
        refine j_iload x dX6_takesRules_83 rfl ?_
        refine j_iconst (v := 3) x dX6_takesRules_85 (by decide) ?_
        refine j_icmp_ge (tgt := 143) x dX6_takesRules_86 (by decide) (fun hc => absurd hc (by decide)) (fun hc => ?_)
        refine j_iload x dX6_takesRules_89 rfl ?_
        refine j_if_ne (tgt := 98) x dX6_takesRules_91 (by decide) (fun hc => ?_) (fun hc => absurd hc (by decide))
        refine j_iload x dX6_takesRules_98 rfl ?_
        refine j_iconst (v := 1) x dX6_takesRules_100 (by decide) ?_
        refine j_icmp_ne (tgt := 108) x dX6_takesRules_101 (by decide) (fun hc => ?_) (fun hc => absurd hc (by decide))
        refine j_iload_n x dX6_takesRules_108 rfl ?_
        refine j_istore x dX6_takesRules_109 (by decide) rfl ?_
        refine j_iload x dX6_takesRules_111 rfl ?_
        refine j_if_lt (tgt := 137) x dX6_takesRules_113 (by decide) (fun g2 => ?_) (fun g2 => ?_)
        · refine j2_ceq (jxr_m g2) ?_
          refine j_iinc x dX6_takesRules_137 rfl (by decide) rfl ?_
          refine j_goto (tgt := 83) x dX6_takesRules_140 (by decide) ?_
          refine j_iload x dX6_takesRules_83 rfl ?_
          refine j_iconst (v := 3) x dX6_takesRules_85 (by decide) ?_
          refine j_icmp_ge (tgt := 143) x dX6_takesRules_86 (by decide) (fun hc => ?_) (fun hc => absurd (by decide) hc)
          refine j_aload_n x dX6_takesRules_143 rfl ?_
          refine j_aload_n x dX6_takesRules_144 rfl ?_
          refine j2_getr (k := 0) (r := 95) x hb dX6_takesRules_145 jc_10 wfX6_9 (by decide) rfl ?_
          refine j_iconst (v := 5) x dX6_takesRules_148 (by decide) ?_
          refine j2_ialn x hb dX6_takesRules_149 fa_95 (j := 5) (vp_c (by decide)) (by decide) ?_
          refine j2_callVi x hb dX6_takesRules_150 m_X6_does (cx_does (d := d) hb) wmX6_116 jc_10 rfl rfl rfl (Nat.le_of_ble_eq_true rfl) (j_fit_rm (by omega) (by omega) (by omega)) rfl ?_
          exact j_zreturn x hr dX6_takesRules_153 (by first | decide | exact jb_nar) (by omega) (by omega) ⟨by rw [hq]; rfl, by rw [hq]; rfl⟩
        · refine j_aload_n x dX6_takesRules_116 rfl ?_
          refine j2_getr (k := 0) (r := 95) x hb dX6_takesRules_117 jc_10 wfX6_9 (by decide) rfl ?_
          refine j_bipush (v := 6) x dX6_takesRules_120 (by decide) ?_
          refine j_aload_n x dX6_takesRules_122 rfl ?_
          refine j2_getr (k := 0) (r := 95) x hb dX6_takesRules_123 jc_10 wfX6_9 (by decide) rfl ?_
          refine j_iconst (v := 5) x dX6_takesRules_126 (by decide) ?_
          refine j_dup2 x dX6_takesRules_127 rfl rfl ?_
          refine j2_ialn x hb dX6_takesRules_128 fa_95 (j := 5) (vp_c (by decide)) (by decide) ?_
          refine j_dup_x2 x dX6_takesRules_129 rfl rfl rfl ?_
          refine j_iconst (v := 1) x dX6_takesRules_130 (by decide) ?_
          refine j_iadd x dX6_takesRules_131 ?_
          refine j2_iasn x hb dX6_takesRules_132 fa_95 (j := 5) (vp_c (by decide)) (by decide) ?_
          refine j_iadd x dX6_takesRules_133 ?_
          refine j_iload x dX6_takesRules_134 rfl ?_
          refine j2_rule (n := 2) x hb dX6_takesRules_136 (c5_s (c5_s c5_0)) (by decide) g2 ?_
          refine j_iinc x dX6_takesRules_137 rfl (by decide) rfl ?_
          refine j_goto (tgt := 83) x dX6_takesRules_140 (by decide) ?_
          refine j_iload x dX6_takesRules_83 rfl ?_
          refine j_iconst (v := 3) x dX6_takesRules_85 (by decide) ?_
          refine j_icmp_ge (tgt := 143) x dX6_takesRules_86 (by decide) (fun hc => ?_) (fun hc => absurd (by decide) hc)
          refine j_aload_n x dX6_takesRules_143 rfl ?_
          refine j_aload_n x dX6_takesRules_144 rfl ?_
          refine j2_getr (k := 0) (r := 95) x hb dX6_takesRules_145 jc_10 wfX6_9 (by decide) rfl ?_
          refine j_iconst (v := 5) x dX6_takesRules_148 (by decide) ?_
          refine j2_ialn x hb dX6_takesRules_149 fa_95 (j := 5) (vp_c (by decide)) (by decide) ?_
          refine j2_callVi x hb dX6_takesRules_150 m_X6_does (cx_does (d := d) hb) wmX6_116 jc_10 rfl rfl rfl (Nat.le_of_ble_eq_true rfl) (j_fit_rm (by omega) (by omega) (by omega)) rfl ?_
          exact j_zreturn x hr dX6_takesRules_153 (by first | decide | exact jb_nar) (by omega) (by omega) ⟨by rw [hq]; rfl, by rw [hq]; rfl⟩
    · refine j_aload_n x dX6_takesRules_116 rfl ?_
      refine j2_getr (k := 0) (r := 95) x hb dX6_takesRules_117 jc_10 wfX6_9 (by decide) rfl ?_
      refine j_bipush (v := 6) x dX6_takesRules_120 (by decide) ?_
      refine j_aload_n x dX6_takesRules_122 rfl ?_
      refine j2_getr (k := 0) (r := 95) x hb dX6_takesRules_123 jc_10 wfX6_9 (by decide) rfl ?_
      refine j_iconst (v := 5) x dX6_takesRules_126 (by decide) ?_
      refine j_dup2 x dX6_takesRules_127 rfl rfl ?_
      refine j2_ialn x hb dX6_takesRules_128 fa_95 (j := 5) (vp_c (by decide)) (by decide) ?_
      refine j_dup_x2 x dX6_takesRules_129 rfl rfl rfl ?_
      refine j_iconst (v := 1) x dX6_takesRules_130 (by decide) ?_
      refine j_iadd x dX6_takesRules_131 ?_
      refine j2_iasn x hb dX6_takesRules_132 fa_95 (j := 5) (vp_c (by decide)) (by decide) ?_
      refine j_iadd x dX6_takesRules_133 ?_
      refine j_iload x dX6_takesRules_134 rfl ?_
      refine j2_rule (n := 0) x hb dX6_takesRules_136 c5_0 (by decide) g0 ?_
      refine j_iinc x dX6_takesRules_137 rfl (by decide) rfl ?_
      refine j_goto (tgt := 83) x dX6_takesRules_140 (by decide) ?_
      refine j_iload x dX6_takesRules_83 rfl ?_
      refine j_iconst (v := 3) x dX6_takesRules_85 (by decide) ?_
      refine j_icmp_ge (tgt := 143) x dX6_takesRules_86 (by decide) (fun hc => absurd hc (by decide)) (fun hc => ?_)
      refine j_iload x dX6_takesRules_89 rfl ?_
      refine j_if_ne (tgt := 98) x dX6_takesRules_91 (by decide) (fun hc => ?_) (fun hc => absurd hc (by decide))
      refine j_iload x dX6_takesRules_98 rfl ?_
      refine j_iconst (v := 1) x dX6_takesRules_100 (by decide) ?_
      refine j_icmp_ne (tgt := 108) x dX6_takesRules_101 (by decide) (fun hc => absurd hc (fun q => q rfl)) (fun hc => ?_)
      refine j_iload_n x dX6_takesRules_104 rfl ?_
      refine j_goto (tgt := 109) x dX6_takesRules_105 (by decide) ?_
      refine j_istore x dX6_takesRules_109 (by decide) rfl ?_
      refine j_iload x dX6_takesRules_111 rfl ?_
      refine j_if_lt (tgt := 137) x dX6_takesRules_113 (by decide) (fun g1 => ?_) (fun g1 => ?_)
      · refine j2_ceq (jxr_m g1) ?_
        refine j_iinc x dX6_takesRules_137 rfl (by decide) rfl ?_
        refine j_goto (tgt := 83) x dX6_takesRules_140 (by decide) ?_
        refine j_iload x dX6_takesRules_83 rfl ?_
        refine j_iconst (v := 3) x dX6_takesRules_85 (by decide) ?_
        refine j_icmp_ge (tgt := 143) x dX6_takesRules_86 (by decide) (fun hc => absurd hc (by decide)) (fun hc => ?_)
        refine j_iload x dX6_takesRules_89 rfl ?_
        refine j_if_ne (tgt := 98) x dX6_takesRules_91 (by decide) (fun hc => ?_) (fun hc => absurd hc (by decide))
        refine j_iload x dX6_takesRules_98 rfl ?_
        refine j_iconst (v := 1) x dX6_takesRules_100 (by decide) ?_
        refine j_icmp_ne (tgt := 108) x dX6_takesRules_101 (by decide) (fun hc => ?_) (fun hc => absurd hc (by decide))
        refine j_iload_n x dX6_takesRules_108 rfl ?_
        refine j_istore x dX6_takesRules_109 (by decide) rfl ?_
        refine j_iload x dX6_takesRules_111 rfl ?_
        refine j_if_lt (tgt := 137) x dX6_takesRules_113 (by decide) (fun g2 => ?_) (fun g2 => ?_)
        · refine j2_ceq (jxr_m g2) ?_
          refine j_iinc x dX6_takesRules_137 rfl (by decide) rfl ?_
          refine j_goto (tgt := 83) x dX6_takesRules_140 (by decide) ?_
          refine j_iload x dX6_takesRules_83 rfl ?_
          refine j_iconst (v := 3) x dX6_takesRules_85 (by decide) ?_
          refine j_icmp_ge (tgt := 143) x dX6_takesRules_86 (by decide) (fun hc => ?_) (fun hc => absurd (by decide) hc)
          refine j_aload_n x dX6_takesRules_143 rfl ?_
          refine j_aload_n x dX6_takesRules_144 rfl ?_
          refine j2_getr (k := 0) (r := 95) x hb dX6_takesRules_145 jc_10 wfX6_9 (by decide) rfl ?_
          refine j_iconst (v := 5) x dX6_takesRules_148 (by decide) ?_
          refine j2_ialn x hb dX6_takesRules_149 fa_95 (j := 5) (vp_c (by decide)) (by decide) ?_
          refine j2_callVi x hb dX6_takesRules_150 m_X6_does (cx_does (d := d) hb) wmX6_116 jc_10 rfl rfl rfl (Nat.le_of_ble_eq_true rfl) (j_fit_rm (by omega) (by omega) (by omega)) rfl ?_
          exact j_zreturn x hr dX6_takesRules_153 (by first | decide | exact jb_nar) (by omega) (by omega) ⟨by rw [hq]; rfl, by rw [hq]; rfl⟩
        · refine j_aload_n x dX6_takesRules_116 rfl ?_
          refine j2_getr (k := 0) (r := 95) x hb dX6_takesRules_117 jc_10 wfX6_9 (by decide) rfl ?_
          refine j_bipush (v := 6) x dX6_takesRules_120 (by decide) ?_
          refine j_aload_n x dX6_takesRules_122 rfl ?_
          refine j2_getr (k := 0) (r := 95) x hb dX6_takesRules_123 jc_10 wfX6_9 (by decide) rfl ?_
          refine j_iconst (v := 5) x dX6_takesRules_126 (by decide) ?_
          refine j_dup2 x dX6_takesRules_127 rfl rfl ?_
          refine j2_ialn x hb dX6_takesRules_128 fa_95 (j := 5) (vp_c (by decide)) (by decide) ?_
          refine j_dup_x2 x dX6_takesRules_129 rfl rfl rfl ?_
          refine j_iconst (v := 1) x dX6_takesRules_130 (by decide) ?_
          refine j_iadd x dX6_takesRules_131 ?_
          refine j2_iasn x hb dX6_takesRules_132 fa_95 (j := 5) (vp_c (by decide)) (by decide) ?_
          refine j_iadd x dX6_takesRules_133 ?_
          refine j_iload x dX6_takesRules_134 rfl ?_
          refine j2_rule (n := 2) x hb dX6_takesRules_136 (c5_s (c5_s c5_0)) (by decide) g2 ?_
          refine j_iinc x dX6_takesRules_137 rfl (by decide) rfl ?_
          refine j_goto (tgt := 83) x dX6_takesRules_140 (by decide) ?_
          refine j_iload x dX6_takesRules_83 rfl ?_
          refine j_iconst (v := 3) x dX6_takesRules_85 (by decide) ?_
          refine j_icmp_ge (tgt := 143) x dX6_takesRules_86 (by decide) (fun hc => ?_) (fun hc => absurd (by decide) hc)
          refine j_aload_n x dX6_takesRules_143 rfl ?_
          refine j_aload_n x dX6_takesRules_144 rfl ?_
          refine j2_getr (k := 0) (r := 95) x hb dX6_takesRules_145 jc_10 wfX6_9 (by decide) rfl ?_
          refine j_iconst (v := 5) x dX6_takesRules_148 (by decide) ?_
          refine j2_ialn x hb dX6_takesRules_149 fa_95 (j := 5) (vp_c (by decide)) (by decide) ?_
          refine j2_callVi x hb dX6_takesRules_150 m_X6_does (cx_does (d := d) hb) wmX6_116 jc_10 rfl rfl rfl (Nat.le_of_ble_eq_true rfl) (j_fit_rm (by omega) (by omega) (by omega)) rfl ?_
          exact j_zreturn x hr dX6_takesRules_153 (by first | decide | exact jb_nar) (by omega) (by omega) ⟨by rw [hq]; rfl, by rw [hq]; rfl⟩
      · refine j_aload_n x dX6_takesRules_116 rfl ?_
        refine j2_getr (k := 0) (r := 95) x hb dX6_takesRules_117 jc_10 wfX6_9 (by decide) rfl ?_
        refine j_bipush (v := 6) x dX6_takesRules_120 (by decide) ?_
        refine j_aload_n x dX6_takesRules_122 rfl ?_
        refine j2_getr (k := 0) (r := 95) x hb dX6_takesRules_123 jc_10 wfX6_9 (by decide) rfl ?_
        refine j_iconst (v := 5) x dX6_takesRules_126 (by decide) ?_
        refine j_dup2 x dX6_takesRules_127 rfl rfl ?_
        refine j2_ialn x hb dX6_takesRules_128 fa_95 (j := 5) (vp_c (by decide)) (by decide) ?_
        refine j_dup_x2 x dX6_takesRules_129 rfl rfl rfl ?_
        refine j_iconst (v := 1) x dX6_takesRules_130 (by decide) ?_
        refine j_iadd x dX6_takesRules_131 ?_
        refine j2_iasn x hb dX6_takesRules_132 fa_95 (j := 5) (vp_c (by decide)) (by decide) ?_
        refine j_iadd x dX6_takesRules_133 ?_
        refine j_iload x dX6_takesRules_134 rfl ?_
        refine j2_rule (n := 1) x hb dX6_takesRules_136 (c5_s c5_0) (by decide) g1 ?_
        refine j_iinc x dX6_takesRules_137 rfl (by decide) rfl ?_
        refine j_goto (tgt := 83) x dX6_takesRules_140 (by decide) ?_
        refine j_iload x dX6_takesRules_83 rfl ?_
        refine j_iconst (v := 3) x dX6_takesRules_85 (by decide) ?_
        refine j_icmp_ge (tgt := 143) x dX6_takesRules_86 (by decide) (fun hc => absurd hc (by decide)) (fun hc => ?_)
        refine j_iload x dX6_takesRules_89 rfl ?_
        refine j_if_ne (tgt := 98) x dX6_takesRules_91 (by decide) (fun hc => ?_) (fun hc => absurd hc (by decide))
        refine j_iload x dX6_takesRules_98 rfl ?_
        refine j_iconst (v := 1) x dX6_takesRules_100 (by decide) ?_
        refine j_icmp_ne (tgt := 108) x dX6_takesRules_101 (by decide) (fun hc => ?_) (fun hc => absurd hc (by decide))
        refine j_iload_n x dX6_takesRules_108 rfl ?_
        refine j_istore x dX6_takesRules_109 (by decide) rfl ?_
        refine j_iload x dX6_takesRules_111 rfl ?_
        refine j_if_lt (tgt := 137) x dX6_takesRules_113 (by decide) (fun g2 => ?_) (fun g2 => ?_)
        · refine j2_ceq (jxr_m g2) ?_
          refine j_iinc x dX6_takesRules_137 rfl (by decide) rfl ?_
          refine j_goto (tgt := 83) x dX6_takesRules_140 (by decide) ?_
          refine j_iload x dX6_takesRules_83 rfl ?_
          refine j_iconst (v := 3) x dX6_takesRules_85 (by decide) ?_
          refine j_icmp_ge (tgt := 143) x dX6_takesRules_86 (by decide) (fun hc => ?_) (fun hc => absurd (by decide) hc)
          refine j_aload_n x dX6_takesRules_143 rfl ?_
          refine j_aload_n x dX6_takesRules_144 rfl ?_
          refine j2_getr (k := 0) (r := 95) x hb dX6_takesRules_145 jc_10 wfX6_9 (by decide) rfl ?_
          refine j_iconst (v := 5) x dX6_takesRules_148 (by decide) ?_
          refine j2_ialn x hb dX6_takesRules_149 fa_95 (j := 5) (vp_c (by decide)) (by decide) ?_
          refine j2_callVi x hb dX6_takesRules_150 m_X6_does (cx_does (d := d) hb) wmX6_116 jc_10 rfl rfl rfl (Nat.le_of_ble_eq_true rfl) (j_fit_rm (by omega) (by omega) (by omega)) rfl ?_
          exact j_zreturn x hr dX6_takesRules_153 (by first | decide | exact jb_nar) (by omega) (by omega) ⟨by rw [hq]; rfl, by rw [hq]; rfl⟩
        · refine j_aload_n x dX6_takesRules_116 rfl ?_
          refine j2_getr (k := 0) (r := 95) x hb dX6_takesRules_117 jc_10 wfX6_9 (by decide) rfl ?_
          refine j_bipush (v := 6) x dX6_takesRules_120 (by decide) ?_
          refine j_aload_n x dX6_takesRules_122 rfl ?_
          refine j2_getr (k := 0) (r := 95) x hb dX6_takesRules_123 jc_10 wfX6_9 (by decide) rfl ?_
          refine j_iconst (v := 5) x dX6_takesRules_126 (by decide) ?_
          refine j_dup2 x dX6_takesRules_127 rfl rfl ?_
          refine j2_ialn x hb dX6_takesRules_128 fa_95 (j := 5) (vp_c (by decide)) (by decide) ?_
          refine j_dup_x2 x dX6_takesRules_129 rfl rfl rfl ?_
          refine j_iconst (v := 1) x dX6_takesRules_130 (by decide) ?_
          refine j_iadd x dX6_takesRules_131 ?_
          refine j2_iasn x hb dX6_takesRules_132 fa_95 (j := 5) (vp_c (by decide)) (by decide) ?_
          refine j_iadd x dX6_takesRules_133 ?_
          refine j_iload x dX6_takesRules_134 rfl ?_
          refine j2_rule (n := 2) x hb dX6_takesRules_136 (c5_s (c5_s c5_0)) (by decide) g2 ?_
          refine j_iinc x dX6_takesRules_137 rfl (by decide) rfl ?_
          refine j_goto (tgt := 83) x dX6_takesRules_140 (by decide) ?_
          refine j_iload x dX6_takesRules_83 rfl ?_
          refine j_iconst (v := 3) x dX6_takesRules_85 (by decide) ?_
          refine j_icmp_ge (tgt := 143) x dX6_takesRules_86 (by decide) (fun hc => ?_) (fun hc => absurd (by decide) hc)
          refine j_aload_n x dX6_takesRules_143 rfl ?_
          refine j_aload_n x dX6_takesRules_144 rfl ?_
          refine j2_getr (k := 0) (r := 95) x hb dX6_takesRules_145 jc_10 wfX6_9 (by decide) rfl ?_
          refine j_iconst (v := 5) x dX6_takesRules_148 (by decide) ?_
          refine j2_ialn x hb dX6_takesRules_149 fa_95 (j := 5) (vp_c (by decide)) (by decide) ?_
          refine j2_callVi x hb dX6_takesRules_150 m_X6_does (cx_does (d := d) hb) wmX6_116 jc_10 rfl rfl rfl (Nat.le_of_ble_eq_true rfl) (j_fit_rm (by omega) (by omega) (by omega)) rfl ?_
          exact j_zreturn x hr dX6_takesRules_153 (by first | decide | exact jb_nar) (by omega) (by omega) ⟨by rw [hq]; rfl, by rw [hq]; rfl⟩
  refine j_iload_n x dX6_takesRules_0 rfl ?_
  refine j_iconst (v := (-1)) x dX6_takesRules_1 (by decide) ?_
  refine j_iconst (v := 4) x dX6_takesRules_2 (by decide) ?_
  refine j2_callSi x hb dX6_takesRules_3 m_X6_in (cx_in (d := d) hb) wmX6_64 rfl (Nat.le_of_ble_eq_true rfl) (j_fit_rm (by omega) (by omega) (by omega)) rfl ?_
  refine j_if_eq (tgt := 27) x dX6_takesRules_6 (by decide) (fun h1 => ?_) (fun h1 => ?_)
  · refine j_aload_n x dX6_takesRules_27 rfl ?_
    refine j_iconst (v := 1) x dX6_takesRules_28 (by decide) ?_
    refine j_iconst (v := 0) x dX6_takesRules_29 (by decide) ?_
    refine j2_callVi x hb dX6_takesRules_30 m_X6_refuses (cx_refuses (d := d) hb) wmX6_79 jc_10 rfl rfl rfl (Nat.le_of_ble_eq_true rfl) (j_fit_rm (by omega) (by omega) (by omega)) rfl ?_
    exact j_zreturn x hr dX6_takesRules_33 (by first | decide | exact jb_nar) (by omega) (by omega) ⟨by rw [show rRules t u v = some (1, 0) from if_pos (fun q => jb_0.mp h1 q.1)]; rfl, by rw [show rRules t u v = some (1, 0) from if_pos (fun q => jb_0.mp h1 q.1)]; rfl⟩
  · refine j_iload_n x dX6_takesRules_9 rfl ?_
    refine j_iconst (v := (-1)) x dX6_takesRules_10 (by decide) ?_
    refine j_iconst (v := 4) x dX6_takesRules_11 (by decide) ?_
    refine j2_callSi x hb dX6_takesRules_12 m_X6_in (cx_in (d := d) hb) wmX6_64 rfl (Nat.le_of_ble_eq_true rfl) (j_fit_rm (by omega) (by omega) (by omega)) rfl ?_
    refine j_if_eq (tgt := 27) x dX6_takesRules_15 (by decide) (fun h2 => ?_) (fun h2 => ?_)
    · refine j_aload_n x dX6_takesRules_27 rfl ?_
      refine j_iconst (v := 1) x dX6_takesRules_28 (by decide) ?_
      refine j_iconst (v := 0) x dX6_takesRules_29 (by decide) ?_
      refine j2_callVi x hb dX6_takesRules_30 m_X6_refuses (cx_refuses (d := d) hb) wmX6_79 jc_10 rfl rfl rfl (Nat.le_of_ble_eq_true rfl) (j_fit_rm (by omega) (by omega) (by omega)) rfl ?_
      exact j_zreturn x hr dX6_takesRules_33 (by first | decide | exact jb_nar) (by omega) (by omega) ⟨by rw [show rRules t u v = some (1, 0) from if_pos (fun q => jb_0.mp h2 q.2.1)]; rfl, by rw [show rRules t u v = some (1, 0) from if_pos (fun q => jb_0.mp h2 q.2.1)]; rfl⟩
    · refine j_iload_n x dX6_takesRules_18 rfl ?_
      refine j_iconst (v := (-1)) x dX6_takesRules_19 (by decide) ?_
      refine j_iconst (v := 4) x dX6_takesRules_20 (by decide) ?_
      refine j2_callSi x hb dX6_takesRules_21 m_X6_in (cx_in (d := d) hb) wmX6_64 rfl (Nat.le_of_ble_eq_true rfl) (j_fit_rm (by omega) (by omega) (by omega)) rfl ?_
      refine j_if_ne (tgt := 34) x dX6_takesRules_24 (by decide) (fun h3 => ?_) (fun h3 => ?_)
      · refine j_iload_n x dX6_takesRules_34 rfl ?_
        refine j_if_lt (tgt := 56) x dX6_takesRules_35 (by decide) (fun h4 => ?_) (fun h4 => ?_)
        · refine j_iload_n x dX6_takesRules_56 rfl ?_
          refine j_if_lt (tgt := 73) x dX6_takesRules_57 (by decide) (fun h7 => ?_) (fun h7 => ?_)
          · exact tail ((if_neg (fun q => q ⟨jb_nz.mp h1, jb_nz.mp h2, jb_nz.mp h3⟩)).trans ((if_neg (fun z => z.1 (i_neg1 (jb_nz.mp h1).1 h4))).trans (if_neg (fun z => z.1 (i_neg1 (jb_nz.mp h2).1 h7)))))
          · refine j_iload_n x dX6_takesRules_60 rfl ?_
            refine j_iload_n x dX6_takesRules_61 rfl ?_
            refine j_icmp_ne (tgt := 73) x dX6_takesRules_62 (by decide) (fun h8 => ?_) (fun h8 => ?_)
            · exact tail ((if_neg (fun q => q ⟨jb_nz.mp h1, jb_nz.mp h2, jb_nz.mp h3⟩)).trans ((if_neg (fun z => z.1 (i_neg1 (jb_nz.mp h1).1 h4))).trans (if_neg (fun z => h8 z.2))))
            · refine j_aload_n x dX6_takesRules_65 rfl ?_
              refine j_bipush (v := 13) x dX6_takesRules_66 (by decide) ?_
              refine j_iload_n x dX6_takesRules_68 rfl ?_
              refine j2_callVi x hb dX6_takesRules_69 m_X6_refuses (cx_refuses (d := d) hb) wmX6_79 jc_10 rfl rfl rfl (Nat.le_of_ble_eq_true rfl) (j_fit_rm (by omega) (by omega) (by omega)) rfl ?_
              exact j_zreturn x hr dX6_takesRules_72 (by first | decide | exact jb_nar) (by omega) (by omega) ⟨by rw [show rRules t u v = some (13, u) from (if_neg (fun q => q ⟨jb_nz.mp h1, jb_nz.mp h2, jb_nz.mp h3⟩)).trans ((if_neg (fun z => z.1 (i_neg1 (jb_nz.mp h1).1 h4))).trans (if_pos ⟨fun z => h7 (by rw [z]; decide), h8⟩))]; rfl, by rw [show rRules t u v = some (13, u) from (if_neg (fun q => q ⟨jb_nz.mp h1, jb_nz.mp h2, jb_nz.mp h3⟩)).trans ((if_neg (fun z => z.1 (i_neg1 (jb_nz.mp h1).1 h4))).trans (if_pos ⟨fun z => h7 (by rw [z]; decide), h8⟩))]; rfl⟩
        · refine j_iload_n x dX6_takesRules_38 rfl ?_
          refine j_iload_n x dX6_takesRules_39 rfl ?_
          refine j_icmp_eq (tgt := 48) x dX6_takesRules_40 (by decide) (fun h5 => ?_) (fun h5 => ?_)
          · refine j_aload_n x dX6_takesRules_48 rfl ?_
            refine j_bipush (v := 13) x dX6_takesRules_49 (by decide) ?_
            refine j_iload_n x dX6_takesRules_51 rfl ?_
            refine j2_callVi x hb dX6_takesRules_52 m_X6_refuses (cx_refuses (d := d) hb) wmX6_79 jc_10 rfl rfl rfl (Nat.le_of_ble_eq_true rfl) (j_fit_rm (by omega) (by omega) (by omega)) rfl ?_
            exact j_zreturn x hr dX6_takesRules_55 (by first | decide | exact jb_nar) (by omega) (by omega) ⟨by rw [show rRules t u v = some (13, t) from (if_neg (fun q => q ⟨jb_nz.mp h1, jb_nz.mp h2, jb_nz.mp h3⟩)).trans (if_pos ⟨fun z => h4 (by rw [z]; decide), Or.inl h5⟩)]; rfl, by rw [show rRules t u v = some (13, t) from (if_neg (fun q => q ⟨jb_nz.mp h1, jb_nz.mp h2, jb_nz.mp h3⟩)).trans (if_pos ⟨fun z => h4 (by rw [z]; decide), Or.inl h5⟩)]; rfl⟩
          · refine j_iload_n x dX6_takesRules_43 rfl ?_
            refine j_iload_n x dX6_takesRules_44 rfl ?_
            refine j_icmp_ne (tgt := 56) x dX6_takesRules_45 (by decide) (fun h6 => ?_) (fun h6 => ?_)
            · refine j_iload_n x dX6_takesRules_56 rfl ?_
              refine j_if_lt (tgt := 73) x dX6_takesRules_57 (by decide) (fun h7 => ?_) (fun h7 => ?_)
              · exact tail ((if_neg (fun q => q ⟨jb_nz.mp h1, jb_nz.mp h2, jb_nz.mp h3⟩)).trans ((if_neg (fun z => z.2.elim h5 h6)).trans (if_neg (fun z => z.1 (i_neg1 (jb_nz.mp h2).1 h7)))))
              · refine j_iload_n x dX6_takesRules_60 rfl ?_
                refine j_iload_n x dX6_takesRules_61 rfl ?_
                refine j_icmp_ne (tgt := 73) x dX6_takesRules_62 (by decide) (fun h8 => ?_) (fun h8 => ?_)
                · exact tail ((if_neg (fun q => q ⟨jb_nz.mp h1, jb_nz.mp h2, jb_nz.mp h3⟩)).trans ((if_neg (fun z => z.2.elim h5 h6)).trans (if_neg (fun z => h8 z.2))))
                · refine j_aload_n x dX6_takesRules_65 rfl ?_
                  refine j_bipush (v := 13) x dX6_takesRules_66 (by decide) ?_
                  refine j_iload_n x dX6_takesRules_68 rfl ?_
                  refine j2_callVi x hb dX6_takesRules_69 m_X6_refuses (cx_refuses (d := d) hb) wmX6_79 jc_10 rfl rfl rfl (Nat.le_of_ble_eq_true rfl) (j_fit_rm (by omega) (by omega) (by omega)) rfl ?_
                  exact j_zreturn x hr dX6_takesRules_72 (by first | decide | exact jb_nar) (by omega) (by omega) ⟨by rw [show rRules t u v = some (13, u) from (if_neg (fun q => q ⟨jb_nz.mp h1, jb_nz.mp h2, jb_nz.mp h3⟩)).trans ((if_neg (fun z => z.2.elim h5 h6)).trans (if_pos ⟨fun z => h7 (by rw [z]; decide), h8⟩))]; rfl, by rw [show rRules t u v = some (13, u) from (if_neg (fun q => q ⟨jb_nz.mp h1, jb_nz.mp h2, jb_nz.mp h3⟩)).trans ((if_neg (fun z => z.2.elim h5 h6)).trans (if_pos ⟨fun z => h7 (by rw [z]; decide), h8⟩))]; rfl⟩
            · refine j_aload_n x dX6_takesRules_48 rfl ?_
              refine j_bipush (v := 13) x dX6_takesRules_49 (by decide) ?_
              refine j_iload_n x dX6_takesRules_51 rfl ?_
              refine j2_callVi x hb dX6_takesRules_52 m_X6_refuses (cx_refuses (d := d) hb) wmX6_79 jc_10 rfl rfl rfl (Nat.le_of_ble_eq_true rfl) (j_fit_rm (by omega) (by omega) (by omega)) rfl ?_
              exact j_zreturn x hr dX6_takesRules_55 (by first | decide | exact jb_nar) (by omega) (by omega) ⟨by rw [show rRules t u v = some (13, t) from (if_neg (fun q => q ⟨jb_nz.mp h1, jb_nz.mp h2, jb_nz.mp h3⟩)).trans (if_pos ⟨fun z => h4 (by rw [z]; decide), Or.inr h6⟩)]; rfl, by rw [show rRules t u v = some (13, t) from (if_neg (fun q => q ⟨jb_nz.mp h1, jb_nz.mp h2, jb_nz.mp h3⟩)).trans (if_pos ⟨fun z => h4 (by rw [z]; decide), Or.inr h6⟩)]; rfl⟩
      · refine j_aload_n x dX6_takesRules_27 rfl ?_
        refine j_iconst (v := 1) x dX6_takesRules_28 (by decide) ?_
        refine j_iconst (v := 0) x dX6_takesRules_29 (by decide) ?_
        refine j2_callVi x hb dX6_takesRules_30 m_X6_refuses (cx_refuses (d := d) hb) wmX6_79 jc_10 rfl rfl rfl (Nat.le_of_ble_eq_true rfl) (j_fit_rm (by omega) (by omega) (by omega)) rfl ?_
        exact j_zreturn x hr dX6_takesRules_33 (by first | decide | exact jb_nar) (by omega) (by omega) ⟨by rw [show rRules t u v = some (1, 0) from if_pos (fun q => jb_0.mp h3 q.2.2)]; rfl, by rw [show rRules t u v = some (1, 0) from if_pos (fun q => jb_0.mp h3 q.2.2)]; rfl⟩
theorem cx_rules_no {d : Nat} {b : SBt} {Y : OUt} {M : MM} (hb : 104 ≤ b.2.1) {t u v r z : Int32} (h : rRules t u v = some (r, z)) : CM (d + 2) 0 0 yX6_rules cX6_rules 4 (some .int) [.ref 94, .int t, .int u, .int v] b Y M (.inl (some (.int (0)))) (jrai (jrefu (jtr M) r z) 1) := by
  refine Con.of (by decide +kernel) (Nat.le_of_ble_eq_true rfl) rfl fun p l e s m args below meth c D tyc A ad0 x hr htab hname => ?_
  change JJ _ _ _ _ _ _ _ _ _ _ _ _ _ _ _ _ _ 0 [some (.ref 94), some (.int t), some (.int u), some (.int v)] [] _ 0 0
  refine j_aload_n x dX6_rules_0 rfl ?_
  refine j2_callVv x hb dX6_rules_1 m_X6_tries (cx_tries (d := d) hb) wmX6_76 jc_10 rfl rfl rfl (Nat.le_of_ble_eq_true rfl) (j_fit_rm (by omega) (by omega) (by omega)) rfl ?_
  refine j_aload_n x dX6_rules_4 rfl ?_
  refine j_aload_n x dX6_rules_5 rfl ?_
  refine j_iload_n x dX6_rules_6 rfl ?_
  refine j_iload_n x dX6_rules_7 rfl ?_
  refine j_iload_n x dX6_rules_8 rfl ?_
  refine j2_callVi x hb dX6_rules_9 m_X6_takesRules (show CM _ 0 0 _ _ _ _ _ b Y (jtr M) (.inl (some (.int 0))) (jrefu (jtr M) r z) from by have q := cx_takesRules (d := d) (Y := Y) (M := jtr M) hb (t := t) (u := u) (v := v); rw [h] at q; exact q) wmX6_119 jc_10 rfl rfl rfl (Nat.le_of_ble_eq_true rfl) (j_fit_rm (by omega) (by omega) (by omega)) rfl ?_
  refine j2_callVi x hb dX6_rules_12 m_X6_ends (cx_ends_0 (d := d) hb) wmX6_83 jc_10 rfl rfl rfl (Nat.le_of_ble_eq_true rfl) (j_fit_rm (by omega) (by omega) (by omega)) rfl ?_
  exact j_ireturn x hr dX6_rules_15 (by omega) (by omega) ⟨rfl, rfl⟩
theorem cx_rules_ok {d : Nat} {b : SBt} {Y : OUt} {M : MM} (hb : 104 ≤ b.2.1) {t u v : Int32} {k : Nat} (h : rRules t u v = none) (h3 : M 94 3 = nI k) (hk : k < 8) (hM : ∀ N : MM, jxR N t u v 94 3 = N 94 3) : CM (d + 2) 0 0 yX6_rules cX6_rules 4 (some .int) [.ref 94, .int t, .int u, .int v] b Y M (.inl (some (.int (jxR (jtr M) t u v 95 5)))) (jkp (jm (jxR (jtr M) t u v) 94 18 (jxR (jtr M) t u v 95 5)) k) := by
  refine Con.of (by decide +kernel) (Nat.le_of_ble_eq_true rfl) rfl fun p l e s m args below meth c D tyc A ad0 x hr htab hname => ?_
  change JJ _ _ _ _ _ _ _ _ _ _ _ _ _ _ _ _ _ 0 [some (.ref 94), some (.int t), some (.int u), some (.int v)] [] _ 0 0
  refine j_aload_n x dX6_rules_0 rfl ?_
  refine j2_callVv x hb dX6_rules_1 m_X6_tries (cx_tries (d := d) hb) wmX6_76 jc_10 rfl rfl rfl (Nat.le_of_ble_eq_true rfl) (j_fit_rm (by omega) (by omega) (by omega)) rfl ?_
  refine j_aload_n x dX6_rules_4 rfl ?_
  refine j_aload_n x dX6_rules_5 rfl ?_
  refine j_iload_n x dX6_rules_6 rfl ?_
  refine j_iload_n x dX6_rules_7 rfl ?_
  refine j_iload_n x dX6_rules_8 rfl ?_
  refine j2_callVi x hb dX6_rules_9 m_X6_takesRules (show CM _ 0 0 _ _ _ _ _ b Y (jtr M) (.inl (some (.int 1))) (jm (jxR (jtr M) t u v) 94 18 (jxR (jtr M) t u v 95 5)) from by have q := cx_takesRules (d := d) (Y := Y) (M := jtr M) hb (t := t) (u := u) (v := v); rw [h] at q; exact q) wmX6_119 jc_10 rfl rfl rfl (Nat.le_of_ble_eq_true rfl) (j_fit_rm (by omega) (by omega) (by omega)) rfl ?_
  refine j2_callVi x hb dX6_rules_12 m_X6_ends (CM_v (cx_ends_1 (d := d) hb hk (by rw [jm_n (by omega), hM, jtr_f (by omega) (by omega)]; exact h3)) jm_s) wmX6_83 jc_10 rfl rfl rfl (Nat.le_of_ble_eq_true rfl) (j_fit_rm (by omega) (by omega) (by omega)) rfl ?_
  exact j_ireturn x hr dX6_rules_15 (by omega) (by omega) ⟨rfl, rfl⟩
theorem cx_results_0 {d : Nat} {b : SBt} {Y : OUt} {M : MM} (hb : 104 ≤ b.2.1) {t u v : Int32} (h1 : M 95 1 = 0) : CM (d + 1) 0 0 yX6_results cX6_results 4 (some .boolean) [.ref 94, .int t, .int u, .int v] b Y M (.inl (some (.int (0)))) (jrefu M 5 0) := by
  refine Con.of (by decide +kernel) (Nat.le_of_ble_eq_true rfl) rfl fun p l e s m args below meth c D tyc A ad0 x hr htab hname => ?_
  change JJ _ _ _ _ _ _ _ _ _ _ _ _ _ _ _ _ _ 0 [some (.ref 94), some (.int t), some (.int u), some (.int v)] [] _ 0 0
  refine j_aload_n x dX6_results_0 rfl ?_
  refine j2_callVi x hb dX6_results_1 m_X6_isDrawn (CM_v (cx_isDrawn (d := d) hb) (no_w h1)) wmX6_87 jc_10 rfl rfl rfl (Nat.le_of_ble_eq_true rfl) (j_fit_rm (by omega) (by omega) (by omega)) rfl ?_
  refine j_if_ne (tgt := 14) x dX6_results_4 (by decide) (fun hc => absurd hc (fun q => q rfl)) (fun hc => ?_)
  refine j_aload_n x dX6_results_7 rfl ?_
  refine j_iconst (v := 5) x dX6_results_8 (by decide) ?_
  refine j_iconst (v := 0) x dX6_results_9 (by decide) ?_
  refine j2_callVi x hb dX6_results_10 m_X6_refuses (cx_refuses (d := d) hb) wmX6_79 jc_10 rfl rfl rfl (Nat.le_of_ble_eq_true rfl) (j_fit_rm (by omega) (by omega) (by omega)) rfl ?_
  exact j_zreturn x hr dX6_results_13 (by first | decide | exact jb_nar) (by omega) (by omega) ⟨rfl, rfl⟩
theorem cx_result_0 {d : Nat} {b : SBt} {Y : OUt} {M : MM} (hb : 104 ≤ b.2.1) {t u v : Int32} (h1 : M 95 1 = 0) : CM (d + 2) 0 0 yX6_result cX6_result 4 (some .int) [.ref 94, .int t, .int u, .int v] b Y M (.inl (some (.int (0)))) (jrai (jrefu (jtr M) 5 0) 1) := by
  refine Con.of (by decide +kernel) (Nat.le_of_ble_eq_true rfl) rfl fun p l e s m args below meth c D tyc A ad0 x hr htab hname => ?_
  change JJ _ _ _ _ _ _ _ _ _ _ _ _ _ _ _ _ _ 0 [some (.ref 94), some (.int t), some (.int u), some (.int v)] [] _ 0 0
  refine j_aload_n x dX6_result_0 rfl ?_
  refine j2_callVv x hb dX6_result_1 m_X6_tries (cx_tries (d := d) hb) wmX6_76 jc_10 rfl rfl rfl (Nat.le_of_ble_eq_true rfl) (j_fit_rm (by omega) (by omega) (by omega)) rfl ?_
  refine j_aload_n x dX6_result_4 rfl ?_
  refine j_aload_n x dX6_result_5 rfl ?_
  refine j_iload_n x dX6_result_6 rfl ?_
  refine j_iload_n x dX6_result_7 rfl ?_
  refine j_iload_n x dX6_result_8 rfl ?_
  refine j2_callVi x hb dX6_result_9 m_X6_results (cx_results_0 (d := d) hb (by rw [jtr_n (by omega)]; exact h1)) wmX6_128 jc_10 rfl rfl rfl (Nat.le_of_ble_eq_true rfl) (j_fit_rm (by omega) (by omega) (by omega)) rfl ?_
  refine j2_callVi x hb dX6_result_12 m_X6_ends (cx_ends_0 (d := d) hb) wmX6_83 jc_10 rfl rfl rfl (Nat.le_of_ble_eq_true rfl) (j_fit_rm (by omega) (by omega) (by omega)) rfl ?_
  exact j_ireturn x hr dX6_result_15 (by omega) (by omega) ⟨rfl, rfl⟩
theorem cx_takesBack_0 {d : Nat} {b : SBt} {Y : OUt} {M : MM} (hb : 104 ≤ b.2.1) {t : Int32} (h1 : M 95 1 = 0) : CM (d + 1) 0 0 yX6_takesBack cX6_takesBack 2 (some .boolean) [.ref 94, .int t] b Y M (.inl (some (.int (0)))) (jrefu M 5 0) := by
  refine Con.of (by decide +kernel) (Nat.le_of_ble_eq_true rfl) rfl fun p l e s m args below meth c D tyc A ad0 x hr htab hname => ?_
  change JJ _ _ _ _ _ _ _ _ _ _ _ _ _ _ _ _ _ 0 [some (.ref 94), some (.int t)] [] _ 0 0
  refine j_aload_n x dX6_takesBack_0 rfl ?_
  refine j2_callVi x hb dX6_takesBack_1 m_X6_isDrawn (CM_v (cx_isDrawn (d := d) hb) (no_w h1)) wmX6_87 jc_10 rfl rfl rfl (Nat.le_of_ble_eq_true rfl) (j_fit_rm (by omega) (by omega) (by omega)) rfl ?_
  refine j_if_ne (tgt := 14) x dX6_takesBack_4 (by decide) (fun hc => absurd hc (fun q => q rfl)) (fun hc => ?_)
  refine j_aload_n x dX6_takesBack_7 rfl ?_
  refine j_iconst (v := 5) x dX6_takesBack_8 (by decide) ?_
  refine j_iconst (v := 0) x dX6_takesBack_9 (by decide) ?_
  refine j2_callVi x hb dX6_takesBack_10 m_X6_refuses (cx_refuses (d := d) hb) wmX6_79 jc_10 rfl rfl rfl (Nat.le_of_ble_eq_true rfl) (j_fit_rm (by omega) (by omega) (by omega)) rfl ?_
  exact j_zreturn x hr dX6_takesBack_13 (by first | decide | exact jb_nar) (by omega) (by omega) ⟨rfl, rfl⟩
theorem cx_back_0 {d : Nat} {b : SBt} {Y : OUt} {M : MM} (hb : 104 ≤ b.2.1) {t : Int32} (h1 : M 95 1 = 0) : CM (d + 2) 0 0 yX6_back cX6_back 2 (some .int) [.ref 94, .int t] b Y M (.inl (some (.int (0)))) (jrai (jrefu (jtr M) 5 0) 1) := by
  refine Con.of (by decide +kernel) (Nat.le_of_ble_eq_true rfl) rfl fun p l e s m args below meth c D tyc A ad0 x hr htab hname => ?_
  change JJ _ _ _ _ _ _ _ _ _ _ _ _ _ _ _ _ _ 0 [some (.ref 94), some (.int t)] [] _ 0 0
  refine j_aload_n x dX6_back_0 rfl ?_
  refine j2_callVv x hb dX6_back_1 m_X6_tries (cx_tries (d := d) hb) wmX6_76 jc_10 rfl rfl rfl (Nat.le_of_ble_eq_true rfl) (j_fit_rm (by omega) (by omega) (by omega)) rfl ?_
  refine j_aload_n x dX6_back_4 rfl ?_
  refine j_aload_n x dX6_back_5 rfl ?_
  refine j_iload_n x dX6_back_6 rfl ?_
  refine j2_callVi x hb dX6_back_7 m_X6_takesBack (cx_takesBack_0 (d := d) hb (by rw [jtr_n (by omega)]; exact h1)) wmX6_134 jc_10 rfl rfl rfl (Nat.le_of_ble_eq_true rfl) (j_fit_rm (by omega) (by omega) (by omega)) rfl ?_
  refine j2_callVi x hb dX6_back_10 m_X6_ends (cx_ends_0 (d := d) hb) wmX6_83 jc_10 rfl rfl rfl (Nat.le_of_ble_eq_true rfl) (j_fit_rm (by omega) (by omega) (by omega)) rfl ?_
  exact j_ireturn x hr dX6_back_13 (by omega) (by omega) ⟨rfl, rfl⟩
theorem cx_putsOff_0 {d : Nat} {b : SBt} {Y : OUt} {M : MM} (hb : 104 ≤ b.2.1) {t u : Int32} (h1 : M 95 1 = 0) : CM (d + 1) 0 0 yX6_putsOff cX6_putsOff 4 (some .boolean) [.ref 94, .int t, .int u] b Y M (.inl (some (.int (0)))) (jrefu M 5 0) := by
  refine Con.of (by decide +kernel) (Nat.le_of_ble_eq_true rfl) rfl fun p l e s m args below meth c D tyc A ad0 x hr htab hname => ?_
  change JJ _ _ _ _ _ _ _ _ _ _ _ _ _ _ _ _ _ 0 [some (.ref 94), some (.int t), some (.int u), none] [] _ 0 0
  refine j_aload_n x dX6_putsOff_0 rfl ?_
  refine j2_callVi x hb dX6_putsOff_1 m_X6_isDrawn (CM_v (cx_isDrawn (d := d) hb) (no_w h1)) wmX6_87 jc_10 rfl rfl rfl (Nat.le_of_ble_eq_true rfl) (j_fit_rm (by omega) (by omega) (by omega)) rfl ?_
  refine j_if_ne (tgt := 14) x dX6_putsOff_4 (by decide) (fun hc => absurd hc (fun q => q rfl)) (fun hc => ?_)
  refine j_aload_n x dX6_putsOff_7 rfl ?_
  refine j_iconst (v := 5) x dX6_putsOff_8 (by decide) ?_
  refine j_iconst (v := 0) x dX6_putsOff_9 (by decide) ?_
  refine j2_callVi x hb dX6_putsOff_10 m_X6_refuses (cx_refuses (d := d) hb) wmX6_79 jc_10 rfl rfl rfl (Nat.le_of_ble_eq_true rfl) (j_fit_rm (by omega) (by omega) (by omega)) rfl ?_
  exact j_zreturn x hr dX6_putsOff_13 (by first | decide | exact jb_nar) (by omega) (by omega) ⟨rfl, rfl⟩
theorem cx_putOff_0 {d : Nat} {b : SBt} {Y : OUt} {M : MM} (hb : 104 ≤ b.2.1) {t u : Int32} (h1 : M 95 1 = 0) : CM (d + 2) 0 0 yX6_putOff cX6_putOff 3 (some .int) [.ref 94, .int t, .int u] b Y M (.inl (some (.int (0)))) (jrai (jrefu (jtr M) 5 0) 1) := by
  refine Con.of (by decide +kernel) (Nat.le_of_ble_eq_true rfl) rfl fun p l e s m args below meth c D tyc A ad0 x hr htab hname => ?_
  change JJ _ _ _ _ _ _ _ _ _ _ _ _ _ _ _ _ _ 0 [some (.ref 94), some (.int t), some (.int u)] [] _ 0 0
  refine j_aload_n x dX6_putOff_0 rfl ?_
  refine j2_callVv x hb dX6_putOff_1 m_X6_tries (cx_tries (d := d) hb) wmX6_76 jc_10 rfl rfl rfl (Nat.le_of_ble_eq_true rfl) (j_fit_rm (by omega) (by omega) (by omega)) rfl ?_
  refine j_aload_n x dX6_putOff_4 rfl ?_
  refine j_aload_n x dX6_putOff_5 rfl ?_
  refine j_iload_n x dX6_putOff_6 rfl ?_
  refine j_iload_n x dX6_putOff_7 rfl ?_
  refine j2_callVi x hb dX6_putOff_8 m_X6_putsOff (cx_putsOff_0 (d := d) hb (by rw [jtr_n (by omega)]; exact h1)) wmX6_146 jc_10 rfl rfl rfl (Nat.le_of_ble_eq_true rfl) (j_fit_rm (by omega) (by omega) (by omega)) rfl ?_
  refine j2_callVi x hb dX6_putOff_11 m_X6_ends (cx_ends_0 (d := d) hb) wmX6_83 jc_10 rfl rfl rfl (Nat.le_of_ble_eq_true rfl) (j_fit_rm (by omega) (by omega) (by omega)) rfl ?_
  exact j_ireturn x hr dX6_putOff_14 (by omega) (by omega) ⟨rfl, rfl⟩
theorem cx_comesNext_0 {d : Nat} {b : SBt} {Y : OUt} {M : MM} (hb : 104 ≤ b.2.1)  (h1 : M 95 1 = 0) : CM (d + 1) 0 0 yX6_comesNext cX6_comesNext 2 (some .boolean) [.ref 94] b Y M (.inl (some (.int (0)))) (jrefu M 5 0) := by
  refine Con.of (by decide +kernel) (Nat.le_of_ble_eq_true rfl) rfl fun p l e s m args below meth c D tyc A ad0 x hr htab hname => ?_
  change JJ _ _ _ _ _ _ _ _ _ _ _ _ _ _ _ _ _ 0 [some (.ref 94), none] [] _ 0 0
  refine j_aload_n x dX6_comesNext_0 rfl ?_
  refine j2_callVi x hb dX6_comesNext_1 m_X6_isDrawn (CM_v (cx_isDrawn (d := d) hb) (no_w h1)) wmX6_87 jc_10 rfl rfl rfl (Nat.le_of_ble_eq_true rfl) (j_fit_rm (by omega) (by omega) (by omega)) rfl ?_
  refine j_if_ne (tgt := 14) x dX6_comesNext_4 (by decide) (fun hc => absurd hc (fun q => q rfl)) (fun hc => ?_)
  refine j_aload_n x dX6_comesNext_7 rfl ?_
  refine j_iconst (v := 5) x dX6_comesNext_8 (by decide) ?_
  refine j_iconst (v := 0) x dX6_comesNext_9 (by decide) ?_
  refine j2_callVi x hb dX6_comesNext_10 m_X6_refuses (cx_refuses (d := d) hb) wmX6_79 jc_10 rfl rfl rfl (Nat.le_of_ble_eq_true rfl) (j_fit_rm (by omega) (by omega) (by omega)) rfl ?_
  exact j_zreturn x hr dX6_comesNext_13 (by first | decide | exact jb_nar) (by omega) (by omega) ⟨rfl, rfl⟩
theorem cx_next_0 {d : Nat} {b : SBt} {Y : OUt} {M : MM} (hb : 104 ≤ b.2.1)  (h1 : M 95 1 = 0) : CM (d + 2) 0 0 yX6_next cX6_next 1 (some .int) [.ref 94] b Y M (.inl (some (.int (0)))) (jrai (jrefu (jtr M) 5 0) 1) := by
  refine Con.of (by decide +kernel) (Nat.le_of_ble_eq_true rfl) rfl fun p l e s m args below meth c D tyc A ad0 x hr htab hname => ?_
  change JJ _ _ _ _ _ _ _ _ _ _ _ _ _ _ _ _ _ 0 [some (.ref 94)] [] _ 0 0
  refine j_aload_n x dX6_next_0 rfl ?_
  refine j2_callVv x hb dX6_next_1 m_X6_tries (cx_tries (d := d) hb) wmX6_76 jc_10 rfl rfl rfl (Nat.le_of_ble_eq_true rfl) (j_fit_rm (by omega) (by omega) (by omega)) rfl ?_
  refine j_aload_n x dX6_next_4 rfl ?_
  refine j_aload_n x dX6_next_5 rfl ?_
  refine j2_callVi x hb dX6_next_6 m_X6_comesNext (cx_comesNext_0 (d := d) hb (by rw [jtr_n (by omega)]; exact h1)) wmX6_149 jc_10 rfl rfl rfl (Nat.le_of_ble_eq_true rfl) (j_fit_rm (by omega) (by omega) (by omega)) rfl ?_
  refine j2_callVi x hb dX6_next_9 m_X6_ends (cx_ends_0 (d := d) hb) wmX6_83 jc_10 rfl rfl rfl (Nat.le_of_ble_eq_true rfl) (j_fit_rm (by omega) (by omega) (by omega)) rfl ?_
  exact j_ireturn x hr dX6_next_12 (by omega) (by omega) ⟨rfl, rfl⟩
theorem cx_teamOf_0 {d : Nat} {b : SBt} {Y : OUt} {M : MM} (hb : 104 ≤ b.2.1) {t u : Int32} (h0 : M 95 0 = 0) : CM (d + 2) 0 0 yX6_teamOf cX6_teamOf 3 (some .int) [.ref 94, .int t, .int u] b Y M (.inl (some (.int (0)))) (jrai (jm M 94 19 0) 1) := by
  refine Con.of (by decide +kernel) (Nat.le_of_ble_eq_true rfl) rfl fun p l e s m args below meth c D tyc A ad0 x hr htab hname => ?_
  change JJ _ _ _ _ _ _ _ _ _ _ _ _ _ _ _ _ _ 0 [some (.ref 94), some (.int t), some (.int u)] [] _ 0 0
  refine j_aload_n x dX6_teamOf_0 rfl ?_
  refine j_iconst (v := 0) x dX6_teamOf_1 (by decide) ?_
  refine j2_puti (k := 19) x hb dX6_teamOf_2 jc_10 wfX6_36 (by decide) rfl rfl rfl rfl ?_
  refine j_aload_n x dX6_teamOf_5 rfl ?_
  refine j_iload_n x dX6_teamOf_6 rfl ?_
  refine j2_callVi x hb dX6_teamOf_7 m_X6_isTeam (CM_v (cx_isTeam (d := d) hb) (no_x (by rw [jm_n (by omega)]; exact h0))) wmX6_91 jc_10 rfl rfl rfl (Nat.le_of_ble_eq_true rfl) (j_fit_rm (by omega) (by omega) (by omega)) rfl ?_
  refine j_if_ne (tgt := 19) x dX6_teamOf_10 (by decide) (fun hc => absurd hc (fun q => q rfl)) (fun hc => ?_)
  refine j_aload_n x dX6_teamOf_13 rfl ?_
  refine j_iconst (v := 1) x dX6_teamOf_14 (by decide) ?_
  refine j2_callVi x hb dX6_teamOf_15 m_X6_raises (cx_raises (d := d) hb) wmX6_61 jc_10 rfl rfl rfl (Nat.le_of_ble_eq_true rfl) (j_fit_rm (by omega) (by omega) (by omega)) rfl ?_
  exact j_ireturn x hr dX6_teamOf_18 (by omega) (by omega) ⟨rfl, rfl⟩
theorem cx_pointsAgain_0 {d : Nat} {b : SBt} {Y : OUt} {M : MM} (hb : 104 ≤ b.2.1) {t : Int32} (h0 : M 95 0 = 0) : CM (d + 2) 0 0 yX6_pointsAgain cX6_pointsAgain 2 (some .int) [.ref 94, .int t] b Y M (.inl (some (.int (0)))) (jrai (jm M 94 19 0) 1) := by
  refine Con.of (by decide +kernel) (Nat.le_of_ble_eq_true rfl) rfl fun p l e s m args below meth c D tyc A ad0 x hr htab hname => ?_
  change JJ _ _ _ _ _ _ _ _ _ _ _ _ _ _ _ _ _ 0 [some (.ref 94), some (.int t)] [] _ 0 0
  refine j_aload_n x dX6_pointsAgain_0 rfl ?_
  refine j_iconst (v := 0) x dX6_pointsAgain_1 (by decide) ?_
  refine j2_puti (k := 19) x hb dX6_pointsAgain_2 jc_10 wfX6_36 (by decide) rfl rfl rfl rfl ?_
  refine j_aload_n x dX6_pointsAgain_5 rfl ?_
  refine j_iload_n x dX6_pointsAgain_6 rfl ?_
  refine j2_callVi x hb dX6_pointsAgain_7 m_X6_isTeam (CM_v (cx_isTeam (d := d) hb) (no_x (by rw [jm_n (by omega)]; exact h0))) wmX6_91 jc_10 rfl rfl rfl (Nat.le_of_ble_eq_true rfl) (j_fit_rm (by omega) (by omega) (by omega)) rfl ?_
  refine j_if_eq (tgt := 22) x dX6_pointsAgain_10 (by decide) (fun hc => ?_) (fun hc => absurd (rfl) hc)
  refine j_aload_n x dX6_pointsAgain_22 rfl ?_
  refine j_iconst (v := 1) x dX6_pointsAgain_23 (by decide) ?_
  refine j2_callVi x hb dX6_pointsAgain_24 m_X6_raises (cx_raises (d := d) hb) wmX6_61 jc_10 rfl rfl rfl (Nat.le_of_ble_eq_true rfl) (j_fit_rm (by omega) (by omega) (by omega)) rfl ?_
  exact j_ireturn x hr dX6_pointsAgain_27 (by omega) (by omega) ⟨rfl, rfl⟩
theorem cx_placeOf_0 {d : Nat} {b : SBt} {Y : OUt} {M : MM} (hb : 104 ≤ b.2.1) {t : Int32} (h0 : M 95 0 = 0) : CM (d + 2) 0 0 yX6_placeOf cX6_placeOf 2 (some .int) [.ref 94, .int t] b Y M (.inl (some (.int (0)))) (jrai (jm M 94 19 0) 1) := by
  refine Con.of (by decide +kernel) (Nat.le_of_ble_eq_true rfl) rfl fun p l e s m args below meth c D tyc A ad0 x hr htab hname => ?_
  change JJ _ _ _ _ _ _ _ _ _ _ _ _ _ _ _ _ _ 0 [some (.ref 94), some (.int t)] [] _ 0 0
  refine j_aload_n x dX6_placeOf_0 rfl ?_
  refine j_iconst (v := 0) x dX6_placeOf_1 (by decide) ?_
  refine j2_puti (k := 19) x hb dX6_placeOf_2 jc_10 wfX6_36 (by decide) rfl rfl rfl rfl ?_
  refine j_aload_n x dX6_placeOf_5 rfl ?_
  refine j_iload_n x dX6_placeOf_6 rfl ?_
  refine j2_callVi x hb dX6_placeOf_7 m_X6_isTeam (CM_v (cx_isTeam (d := d) hb) (no_x (by rw [jm_n (by omega)]; exact h0))) wmX6_91 jc_10 rfl rfl rfl (Nat.le_of_ble_eq_true rfl) (j_fit_rm (by omega) (by omega) (by omega)) rfl ?_
  refine j_if_eq (tgt := 21) x dX6_placeOf_10 (by decide) (fun hc => ?_) (fun hc => absurd (rfl) hc)
  refine j_aload_n x dX6_placeOf_21 rfl ?_
  refine j_iconst (v := 1) x dX6_placeOf_22 (by decide) ?_
  refine j2_callVi x hb dX6_placeOf_23 m_X6_raises (cx_raises (d := d) hb) wmX6_61 jc_10 rfl rfl rfl (Nat.le_of_ble_eq_true rfl) (j_fit_rm (by omega) (by omega) (by omega)) rfl ?_
  exact j_ireturn x hr dX6_placeOf_26 (by omega) (by omega) ⟨rfl, rfl⟩
theorem cx_valueOf_0 {d : Nat} {b : SBt} {Y : OUt} {M : MM} (hb : 104 ≤ b.2.1) {t u : Int32} (h0 : M 95 0 = 0) : CM (d + 2) 0 0 yX6_valueOf cX6_valueOf 3 (some .int) [.ref 94, .int t, .int u] b Y M (.inl (some (.int (0)))) (jrai (jm M 94 19 0) 1) := by
  refine Con.of (by decide +kernel) (Nat.le_of_ble_eq_true rfl) rfl fun p l e s m args below meth c D tyc A ad0 x hr htab hname => ?_
  change JJ _ _ _ _ _ _ _ _ _ _ _ _ _ _ _ _ _ 0 [some (.ref 94), some (.int t), some (.int u)] [] _ 0 0
  refine j_aload_n x dX6_valueOf_0 rfl ?_
  refine j_iconst (v := 0) x dX6_valueOf_1 (by decide) ?_
  refine j2_puti (k := 19) x hb dX6_valueOf_2 jc_10 wfX6_36 (by decide) rfl rfl rfl rfl ?_
  refine j_aload_n x dX6_valueOf_5 rfl ?_
  refine j_iload_n x dX6_valueOf_6 rfl ?_
  refine j2_callVi x hb dX6_valueOf_7 m_X6_isTeam (CM_v (cx_isTeam (d := d) hb) (no_x (by rw [jm_n (by omega)]; exact h0))) wmX6_91 jc_10 rfl rfl rfl (Nat.le_of_ble_eq_true rfl) (j_fit_rm (by omega) (by omega) (by omega)) rfl ?_
  refine j_if_ne (tgt := 19) x dX6_valueOf_10 (by decide) (fun hc => absurd hc (fun q => q rfl)) (fun hc => ?_)
  refine j_aload_n x dX6_valueOf_13 rfl ?_
  refine j_iconst (v := 1) x dX6_valueOf_14 (by decide) ?_
  refine j2_callVi x hb dX6_valueOf_15 m_X6_raises (cx_raises (d := d) hb) wmX6_61 jc_10 rfl rfl rfl (Nat.le_of_ble_eq_true rfl) (j_fit_rm (by omega) (by omega) (by omega)) rfl ?_
  exact j_ireturn x hr dX6_valueOf_18 (by omega) (by omega) ⟨rfl, rfl⟩
theorem cx_tied_0 {d : Nat} {b : SBt} {Y : OUt} {M : MM} (hb : 104 ≤ b.2.1) {t : Int32} (h0 : M 95 0 = 0) : CM (d + 2) 0 0 yX6_tied cX6_tied 2 (some .int) [.ref 94, .int t] b Y M (.inl (some (.int (0)))) (jrai (jm M 94 19 0) 1) := by
  refine Con.of (by decide +kernel) (Nat.le_of_ble_eq_true rfl) rfl fun p l e s m args below meth c D tyc A ad0 x hr htab hname => ?_
  change JJ _ _ _ _ _ _ _ _ _ _ _ _ _ _ _ _ _ 0 [some (.ref 94), some (.int t)] [] _ 0 0
  refine j_aload_n x dX6_tied_0 rfl ?_
  refine j_iconst (v := 0) x dX6_tied_1 (by decide) ?_
  refine j2_puti (k := 19) x hb dX6_tied_2 jc_10 wfX6_36 (by decide) rfl rfl rfl rfl ?_
  refine j_aload_n x dX6_tied_5 rfl ?_
  refine j_iload_n x dX6_tied_6 rfl ?_
  refine j2_callVi x hb dX6_tied_7 m_X6_isTeam (CM_v (cx_isTeam (d := d) hb) (no_x (by rw [jm_n (by omega)]; exact h0))) wmX6_91 jc_10 rfl rfl rfl (Nat.le_of_ble_eq_true rfl) (j_fit_rm (by omega) (by omega) (by omega)) rfl ?_
  refine j_if_eq (tgt := 21) x dX6_tied_10 (by decide) (fun hc => ?_) (fun hc => absurd (rfl) hc)
  refine j_aload_n x dX6_tied_21 rfl ?_
  refine j_iconst (v := 1) x dX6_tied_22 (by decide) ?_
  refine j2_callVi x hb dX6_tied_23 m_X6_raises (cx_raises (d := d) hb) wmX6_61 jc_10 rfl rfl rfl (Nat.le_of_ble_eq_true rfl) (j_fit_rm (by omega) (by omega) (by omega)) rfl ?_
  exact j_ireturn x hr dX6_tied_26 (by omega) (by omega) ⟨rfl, rfl⟩
theorem cx_most_0 {d : Nat} {b : SBt} {Y : OUt} {M : MM} (hb : 104 ≤ b.2.1) {t : Int32} (h0 : M 95 0 = 0) : CM (d + 2) 0 0 yX6_most cX6_most 2 (some .int) [.ref 94, .int t] b Y M (.inl (some (.int (0)))) (jrai (jm M 94 19 0) 1) := by
  refine Con.of (by decide +kernel) (Nat.le_of_ble_eq_true rfl) rfl fun p l e s m args below meth c D tyc A ad0 x hr htab hname => ?_
  change JJ _ _ _ _ _ _ _ _ _ _ _ _ _ _ _ _ _ 0 [some (.ref 94), some (.int t)] [] _ 0 0
  refine j_aload_n x dX6_most_0 rfl ?_
  refine j_iconst (v := 0) x dX6_most_1 (by decide) ?_
  refine j2_puti (k := 19) x hb dX6_most_2 jc_10 wfX6_36 (by decide) rfl rfl rfl rfl ?_
  refine j_aload_n x dX6_most_5 rfl ?_
  refine j_iload_n x dX6_most_6 rfl ?_
  refine j2_callVi x hb dX6_most_7 m_X6_isTeam (CM_v (cx_isTeam (d := d) hb) (no_x (by rw [jm_n (by omega)]; exact h0))) wmX6_91 jc_10 rfl rfl rfl (Nat.le_of_ble_eq_true rfl) (j_fit_rm (by omega) (by omega) (by omega)) rfl ?_
  refine j_if_eq (tgt := 21) x dX6_most_10 (by decide) (fun hc => ?_) (fun hc => absurd (rfl) hc)
  refine j_aload_n x dX6_most_21 rfl ?_
  refine j_iconst (v := 1) x dX6_most_22 (by decide) ?_
  refine j2_callVi x hb dX6_most_23 m_X6_raises (cx_raises (d := d) hb) wmX6_61 jc_10 rfl rfl rfl (Nat.le_of_ble_eq_true rfl) (j_fit_rm (by omega) (by omega) (by omega)) rfl ?_
  exact j_ireturn x hr dX6_most_26 (by omega) (by omega) ⟨rfl, rfl⟩
theorem cx_run_0 {d : Nat} {b : SBt} {Y : OUt} {M : MM} (hb : 104 ≤ b.2.1) {t : Int32} (h0 : M 95 0 = 0) : CM (d + 2) 0 0 yX6_run cX6_run 8 (some .int) [.ref 94, .int t] b Y M (.inl (some (.int (0)))) (jrai (jm M 94 19 0) 1) := by
  refine Con.of (by decide +kernel) (Nat.le_of_ble_eq_true rfl) rfl fun p l e s m args below meth c D tyc A ad0 x hr htab hname => ?_
  change JJ _ _ _ _ _ _ _ _ _ _ _ _ _ _ _ _ _ 0 [some (.ref 94), some (.int t), none, none, none, none, none, none] [] _ 0 0
  refine j_aload_n x dX6_run_0 rfl ?_
  refine j_iconst (v := 0) x dX6_run_1 (by decide) ?_
  refine j2_puti (k := 19) x hb dX6_run_2 jc_10 wfX6_36 (by decide) rfl rfl rfl rfl ?_
  refine j_aload_n x dX6_run_5 rfl ?_
  refine j_iload_n x dX6_run_6 rfl ?_
  refine j2_callVi x hb dX6_run_7 m_X6_isTeam (CM_v (cx_isTeam (d := d) hb) (no_x (by rw [jm_n (by omega)]; exact h0))) wmX6_91 jc_10 rfl rfl rfl (Nat.le_of_ble_eq_true rfl) (j_fit_rm (by omega) (by omega) (by omega)) rfl ?_
  refine j_if_ne (tgt := 19) x dX6_run_10 (by decide) (fun hc => absurd hc (fun q => q rfl)) (fun hc => ?_)
  refine j_aload_n x dX6_run_13 rfl ?_
  refine j_iconst (v := 1) x dX6_run_14 (by decide) ?_
  refine j2_callVi x hb dX6_run_15 m_X6_raises (cx_raises (d := d) hb) wmX6_61 jc_10 rfl rfl rfl (Nat.le_of_ble_eq_true rfl) (j_fit_rm (by omega) (by omega) (by omega)) rfl ?_
  exact j_ireturn x hr dX6_run_18 (by omega) (by omega) ⟨rfl, rfl⟩
theorem cx_line_0 {d : Nat} {b : SBt} {Y : OUt} {M : MM} (hb : 104 ≤ b.2.1) {t : Int32} (h0 : M 95 0 = 0) : CM (d + 2) 0 0 yX6_line cX6_line 3 (some .int) [.ref 94, .int t] b Y M (.inl (some (.int (0)))) (jrai (jm M 94 19 0) 1) := by
  refine Con.of (by decide +kernel) (Nat.le_of_ble_eq_true rfl) rfl fun p l e s m args below meth c D tyc A ad0 x hr htab hname => ?_
  change JJ _ _ _ _ _ _ _ _ _ _ _ _ _ _ _ _ _ 0 [some (.ref 94), some (.int t), none] [] _ 0 0
  refine j_aload_n x dX6_line_0 rfl ?_
  refine j_iconst (v := 0) x dX6_line_1 (by decide) ?_
  refine j2_puti (k := 19) x hb dX6_line_2 jc_10 wfX6_36 (by decide) rfl rfl rfl rfl ?_
  refine j_aload_n x dX6_line_5 rfl ?_
  refine j_iload_n x dX6_line_6 rfl ?_
  refine j2_callVi x hb dX6_line_7 m_X6_isTeam (CM_v (cx_isTeam (d := d) hb) (no_x (by rw [jm_n (by omega)]; exact h0))) wmX6_91 jc_10 rfl rfl rfl (Nat.le_of_ble_eq_true rfl) (j_fit_rm (by omega) (by omega) (by omega)) rfl ?_
  refine j_if_ne (tgt := 19) x dX6_line_10 (by decide) (fun hc => absurd hc (fun q => q rfl)) (fun hc => ?_)
  refine j_aload_n x dX6_line_13 rfl ?_
  refine j_iconst (v := 1) x dX6_line_14 (by decide) ?_
  refine j2_callVi x hb dX6_line_15 m_X6_raises (cx_raises (d := d) hb) wmX6_61 jc_10 rfl rfl rfl (Nat.le_of_ble_eq_true rfl) (j_fit_rm (by omega) (by omega) (by omega)) rfl ?_
  exact j_ireturn x hr dX6_line_18 (by omega) (by omega) ⟨rfl, rfl⟩
theorem cx_find_0 {d : Nat} {b : SBt} {Y : OUt} {M : MM} (hb : 104 ≤ b.2.1) {t u : Int32} (h0 : M 95 0 = 0) : CM (d + 2) 0 0 yX6_find cX6_find 4 (some .int) [.ref 94, .int t, .int u] b Y M (.inl (some (.int (0)))) (jrai (jm M 94 19 0) 1) := by
  refine Con.of (by decide +kernel) (Nat.le_of_ble_eq_true rfl) rfl fun p l e s m args below meth c D tyc A ad0 x hr htab hname => ?_
  change JJ _ _ _ _ _ _ _ _ _ _ _ _ _ _ _ _ _ 0 [some (.ref 94), some (.int t), some (.int u), none] [] _ 0 0
  refine j_aload_n x dX6_find_0 rfl ?_
  refine j_iconst (v := 0) x dX6_find_1 (by decide) ?_
  refine j2_puti (k := 19) x hb dX6_find_2 jc_10 wfX6_36 (by decide) rfl rfl rfl rfl ?_
  refine j_aload_n x dX6_find_5 rfl ?_
  refine j_iload_n x dX6_find_6 rfl ?_
  refine j2_callVi x hb dX6_find_7 m_X6_isTeam (CM_v (cx_isTeam (d := d) hb) (no_x (by rw [jm_n (by omega)]; exact h0))) wmX6_91 jc_10 rfl rfl rfl (Nat.le_of_ble_eq_true rfl) (j_fit_rm (by omega) (by omega) (by omega)) rfl ?_
  refine j_if_eq (tgt := 21) x dX6_find_10 (by decide) (fun hc => ?_) (fun hc => absurd (rfl) hc)
  refine j_aload_n x dX6_find_21 rfl ?_
  refine j_iconst (v := 1) x dX6_find_22 (by decide) ?_
  refine j2_callVi x hb dX6_find_23 m_X6_raises (cx_raises (d := d) hb) wmX6_61 jc_10 rfl rfl rfl (Nat.le_of_ble_eq_true rfl) (j_fit_rm (by omega) (by omega) (by omega)) rfl ?_
  exact j_ireturn x hr dX6_find_26 (by omega) (by omega) ⟨rfl, rfl⟩
theorem cx_meetingOf_0 {d : Nat} {b : SBt} {Y : OUt} {M : MM} (hb : 104 ≤ b.2.1) {t u : Int32} (h0 : M 95 9 = 0) : CM (d + 2) 0 0 yX6_meetingOf cX6_meetingOf 3 (some .int) [.ref 94, .int t, .int u] b Y M (.inl (some (.int (0)))) (jrai (jm M 94 19 0) 1) := by
  refine Con.of (by decide +kernel) (Nat.le_of_ble_eq_true rfl) rfl fun p l e s m args below meth c D tyc A ad0 x hr htab hname => ?_
  change JJ _ _ _ _ _ _ _ _ _ _ _ _ _ _ _ _ _ 0 [some (.ref 94), some (.int t), some (.int u)] [] _ 0 0
  refine j_aload_n x dX6_meetingOf_0 rfl ?_
  refine j_iconst (v := 0) x dX6_meetingOf_1 (by decide) ?_
  refine j2_puti (k := 19) x hb dX6_meetingOf_2 jc_10 wfX6_36 (by decide) rfl rfl rfl rfl ?_
  refine j_aload_n x dX6_meetingOf_5 rfl ?_
  refine j_iload_n x dX6_meetingOf_6 rfl ?_
  refine j2_callVi x hb dX6_meetingOf_7 m_X6_isMeeting (CM_v (cx_isMeeting (d := d) hb) (no_x (by rw [jm_n (by omega)]; exact h0))) wmX6_122 jc_10 rfl rfl rfl (Nat.le_of_ble_eq_true rfl) (j_fit_rm (by omega) (by omega) (by omega)) rfl ?_
  refine j_if_ne (tgt := 19) x dX6_meetingOf_10 (by decide) (fun hc => absurd hc (fun q => q rfl)) (fun hc => ?_)
  refine j_aload_n x dX6_meetingOf_13 rfl ?_
  refine j_iconst (v := 1) x dX6_meetingOf_14 (by decide) ?_
  refine j2_callVi x hb dX6_meetingOf_15 m_X6_raises (cx_raises (d := d) hb) wmX6_61 jc_10 rfl rfl rfl (Nat.le_of_ble_eq_true rfl) (j_fit_rm (by omega) (by omega) (by omega)) rfl ?_
  exact j_ireturn x hr dX6_meetingOf_18 (by omega) (by omega) ⟨rfl, rfl⟩
theorem cx_freeWeek_0 {d : Nat} {b : SBt} {Y : OUt} {M : MM} (hb : 104 ≤ b.2.1) {t : Int32} (h0 : M 95 9 = 0) : CM (d + 2) 0 0 yX6_freeWeek cX6_freeWeek 3 (some .int) [.ref 94, .int t] b Y M (.inl (some (.int (0)))) (jrai (jm M 94 19 0) 1) := by
  refine Con.of (by decide +kernel) (Nat.le_of_ble_eq_true rfl) rfl fun p l e s m args below meth c D tyc A ad0 x hr htab hname => ?_
  change JJ _ _ _ _ _ _ _ _ _ _ _ _ _ _ _ _ _ 0 [some (.ref 94), some (.int t), none] [] _ 0 0
  refine j_aload_n x dX6_freeWeek_0 rfl ?_
  refine j_iconst (v := 0) x dX6_freeWeek_1 (by decide) ?_
  refine j2_puti (k := 19) x hb dX6_freeWeek_2 jc_10 wfX6_36 (by decide) rfl rfl rfl rfl ?_
  refine j_aload_n x dX6_freeWeek_5 rfl ?_
  refine j_iload_n x dX6_freeWeek_6 rfl ?_
  refine j2_callVi x hb dX6_freeWeek_7 m_X6_isMeeting (CM_v (cx_isMeeting (d := d) hb) (no_x (by rw [jm_n (by omega)]; exact h0))) wmX6_122 jc_10 rfl rfl rfl (Nat.le_of_ble_eq_true rfl) (j_fit_rm (by omega) (by omega) (by omega)) rfl ?_
  refine j_if_ne (tgt := 19) x dX6_freeWeek_10 (by decide) (fun hc => absurd hc (fun q => q rfl)) (fun hc => ?_)
  refine j_aload_n x dX6_freeWeek_13 rfl ?_
  refine j_iconst (v := 1) x dX6_freeWeek_14 (by decide) ?_
  refine j2_callVi x hb dX6_freeWeek_15 m_X6_raises (cx_raises (d := d) hb) wmX6_61 jc_10 rfl rfl rfl (Nat.le_of_ble_eq_true rfl) (j_fit_rm (by omega) (by omega) (by omega)) rfl ?_
  exact j_ireturn x hr dX6_freeWeek_18 (by omega) (by omega) ⟨rfl, rfl⟩
theorem cx_byeIn_0 {d : Nat} {b : SBt} {Y : OUt} {M : MM} (hb : 104 ≤ b.2.1) {t : Int32} (h0 : M 95 1 = 0) : CM (d + 2) 0 0 yX6_byeIn cX6_byeIn 2 (some .int) [.ref 94, .int t] b Y M (.inl (some (.int (0)))) (jrai (jm M 94 19 0) 1) := by
  refine Con.of (by decide +kernel) (Nat.le_of_ble_eq_true rfl) rfl fun p l e s m args below meth c D tyc A ad0 x hr htab hname => ?_
  change JJ _ _ _ _ _ _ _ _ _ _ _ _ _ _ _ _ _ 0 [some (.ref 94), some (.int t)] [] _ 0 0
  refine j_aload_n x dX6_byeIn_0 rfl ?_
  refine j_iconst (v := 0) x dX6_byeIn_1 (by decide) ?_
  refine j2_puti (k := 19) x hb dX6_byeIn_2 jc_10 wfX6_36 (by decide) rfl rfl rfl rfl ?_
  refine j_aload_n x dX6_byeIn_5 rfl ?_
  refine j_iload_n x dX6_byeIn_6 rfl ?_
  refine j2_callVi x hb dX6_byeIn_7 m_X6_isWeek (CM_v (cx_isWeek (d := d) hb) (no_x (by rw [jm_n (by omega)]; exact h0))) wmX6_140 jc_10 rfl rfl rfl (Nat.le_of_ble_eq_true rfl) (j_fit_rm (by omega) (by omega) (by omega)) rfl ?_
  refine j_if_ne (tgt := 19) x dX6_byeIn_10 (by decide) (fun hc => absurd hc (fun q => q rfl)) (fun hc => ?_)
  refine j_aload_n x dX6_byeIn_13 rfl ?_
  refine j_iconst (v := 1) x dX6_byeIn_14 (by decide) ?_
  refine j2_callVi x hb dX6_byeIn_15 m_X6_raises (cx_raises (d := d) hb) wmX6_61 jc_10 rfl rfl rfl (Nat.le_of_ble_eq_true rfl) (j_fit_rm (by omega) (by omega) (by omega)) rfl ?_
  exact j_ireturn x hr dX6_byeIn_18 (by omega) (by omega) ⟨rfl, rfl⟩
theorem cx_meetingsIn_0 {d : Nat} {b : SBt} {Y : OUt} {M : MM} (hb : 104 ≤ b.2.1) {t : Int32} (h0 : M 95 1 = 0) : CM (d + 2) 0 0 yX6_meetingsIn cX6_meetingsIn 4 (some .int) [.ref 94, .int t] b Y M (.inl (some (.int (0)))) (jrai (jm M 94 19 0) 1) := by
  refine Con.of (by decide +kernel) (Nat.le_of_ble_eq_true rfl) rfl fun p l e s m args below meth c D tyc A ad0 x hr htab hname => ?_
  change JJ _ _ _ _ _ _ _ _ _ _ _ _ _ _ _ _ _ 0 [some (.ref 94), some (.int t), none, none] [] _ 0 0
  refine j_aload_n x dX6_meetingsIn_0 rfl ?_
  refine j_iconst (v := 0) x dX6_meetingsIn_1 (by decide) ?_
  refine j2_puti (k := 19) x hb dX6_meetingsIn_2 jc_10 wfX6_36 (by decide) rfl rfl rfl rfl ?_
  refine j_aload_n x dX6_meetingsIn_5 rfl ?_
  refine j_iload_n x dX6_meetingsIn_6 rfl ?_
  refine j2_callVi x hb dX6_meetingsIn_7 m_X6_isWeek (CM_v (cx_isWeek (d := d) hb) (no_x (by rw [jm_n (by omega)]; exact h0))) wmX6_140 jc_10 rfl rfl rfl (Nat.le_of_ble_eq_true rfl) (j_fit_rm (by omega) (by omega) (by omega)) rfl ?_
  refine j_if_ne (tgt := 19) x dX6_meetingsIn_10 (by decide) (fun hc => absurd hc (fun q => q rfl)) (fun hc => ?_)
  refine j_aload_n x dX6_meetingsIn_13 rfl ?_
  refine j_iconst (v := 1) x dX6_meetingsIn_14 (by decide) ?_
  refine j2_callVi x hb dX6_meetingsIn_15 m_X6_raises (cx_raises (d := d) hb) wmX6_61 jc_10 rfl rfl rfl (Nat.le_of_ble_eq_true rfl) (j_fit_rm (by omega) (by omega) (by omega)) rfl ?_
  exact j_ireturn x hr dX6_meetingsIn_18 (by omega) (by omega) ⟨rfl, rfl⟩
theorem cx_clashes_0 {d : Nat} {b : SBt} {Y : OUt} {M : MM} (hb : 104 ≤ b.2.1) {t : Int32} (h0 : M 95 1 = 0) : CM (d + 2) 0 0 yX6_clashes_ cX6_clashes_ 2 (some .int) [.ref 94, .int t] b Y M (.inl (some (.int (0)))) (jrai (jm M 94 19 0) 1) := by
  refine Con.of (by decide +kernel) (Nat.le_of_ble_eq_true rfl) rfl fun p l e s m args below meth c D tyc A ad0 x hr htab hname => ?_
  change JJ _ _ _ _ _ _ _ _ _ _ _ _ _ _ _ _ _ 0 [some (.ref 94), some (.int t)] [] _ 0 0
  refine j_aload_n x dX6_clashes__0 rfl ?_
  refine j_iconst (v := 0) x dX6_clashes__1 (by decide) ?_
  refine j2_puti (k := 19) x hb dX6_clashes__2 jc_10 wfX6_36 (by decide) rfl rfl rfl rfl ?_
  refine j_aload_n x dX6_clashes__5 rfl ?_
  refine j_iload_n x dX6_clashes__6 rfl ?_
  refine j2_callVi x hb dX6_clashes__7 m_X6_isWeek (CM_v (cx_isWeek (d := d) hb) (no_x (by rw [jm_n (by omega)]; exact h0))) wmX6_140 jc_10 rfl rfl rfl (Nat.le_of_ble_eq_true rfl) (j_fit_rm (by omega) (by omega) (by omega)) rfl ?_
  refine j_if_eq (tgt := 21) x dX6_clashes__10 (by decide) (fun hc => ?_) (fun hc => absurd (rfl) hc)
  refine j_aload_n x dX6_clashes__21 rfl ?_
  refine j_iconst (v := 1) x dX6_clashes__22 (by decide) ?_
  refine j2_callVi x hb dX6_clashes__23 m_X6_raises (cx_raises (d := d) hb) wmX6_61 jc_10 rfl rfl rfl (Nat.le_of_ble_eq_true rfl) (j_fit_rm (by omega) (by omega) (by omega)) rfl ?_
  exact j_ireturn x hr dX6_clashes__26 (by omega) (by omega) ⟨rfl, rfl⟩
theorem cx_isSafe_0 {d : Nat} {b : SBt} {Y : OUt} {M : MM} (hb : 104 ≤ b.2.1) {t : Int32} (h0 : M 95 0 = 0) : CM (d + 2) 0 0 yX6_isSafe cX6_isSafe 2 (some .boolean) [.ref 94, .int t] b Y M (.inl (some (.int (0)))) (jm M 94 19 1) := by
  refine Con.of (by decide +kernel) (Nat.le_of_ble_eq_true rfl) rfl fun p l e s m args below meth c D tyc A ad0 x hr htab hname => ?_
  change JJ _ _ _ _ _ _ _ _ _ _ _ _ _ _ _ _ _ 0 [some (.ref 94), some (.int t)] [] _ 0 0
  refine j_aload_n x dX6_isSafe_0 rfl ?_
  refine j_aload_n x dX6_isSafe_1 rfl ?_
  refine j_iload_n x dX6_isSafe_2 rfl ?_
  refine j2_callVi x hb dX6_isSafe_3 m_X6_isTeam (CM_v (cx_isTeam (d := d) hb) (no_x h0)) wmX6_91 jc_10 rfl rfl rfl (Nat.le_of_ble_eq_true rfl) (j_fit_rm (by omega) (by omega) (by omega)) rfl ?_
  refine j_if_eq (tgt := 13) x dX6_isSafe_6 (by decide) (fun hc => ?_) (fun hc => absurd (rfl) hc)
  refine j_iconst (v := 1) x dX6_isSafe_13 (by decide) ?_
  refine j2_puti (k := 19) x hb dX6_isSafe_14 jc_10 wfX6_36 (by decide) rfl rfl rfl rfl ?_
  refine j_aload_n x dX6_isSafe_17 rfl ?_
  refine j2_geti (k := 19) x hb dX6_isSafe_18 jc_10 wfX6_36 (by decide) rfl ?_
  refine j_if_ne (tgt := 36) x dX6_isSafe_21 (by decide) (fun hc => ?_) (fun hc => absurd hc (by rw [jm_s]; decide))
  refine j_iconst (v := 0) x dX6_isSafe_36 (by decide) ?_
  exact j_zreturn x hr dX6_isSafe_37 (by first | decide | exact jb_nar) (by omega) (by omega) ⟨rfl, rfl⟩
theorem cx_isOut_0 {d : Nat} {b : SBt} {Y : OUt} {M : MM} (hb : 104 ≤ b.2.1) {t : Int32} (h0 : M 95 0 = 0) : CM (d + 2) 0 0 yX6_isOut cX6_isOut 2 (some .boolean) [.ref 94, .int t] b Y M (.inl (some (.int (0)))) (jm M 94 19 1) := by
  refine Con.of (by decide +kernel) (Nat.le_of_ble_eq_true rfl) rfl fun p l e s m args below meth c D tyc A ad0 x hr htab hname => ?_
  change JJ _ _ _ _ _ _ _ _ _ _ _ _ _ _ _ _ _ 0 [some (.ref 94), some (.int t)] [] _ 0 0
  refine j_aload_n x dX6_isOut_0 rfl ?_
  refine j_aload_n x dX6_isOut_1 rfl ?_
  refine j_iload_n x dX6_isOut_2 rfl ?_
  refine j2_callVi x hb dX6_isOut_3 m_X6_isTeam (CM_v (cx_isTeam (d := d) hb) (no_x h0)) wmX6_91 jc_10 rfl rfl rfl (Nat.le_of_ble_eq_true rfl) (j_fit_rm (by omega) (by omega) (by omega)) rfl ?_
  refine j_if_eq (tgt := 13) x dX6_isOut_6 (by decide) (fun hc => ?_) (fun hc => absurd (rfl) hc)
  refine j_iconst (v := 1) x dX6_isOut_13 (by decide) ?_
  refine j2_puti (k := 19) x hb dX6_isOut_14 jc_10 wfX6_36 (by decide) rfl rfl rfl rfl ?_
  refine j_aload_n x dX6_isOut_17 rfl ?_
  refine j2_geti (k := 19) x hb dX6_isOut_18 jc_10 wfX6_36 (by decide) rfl ?_
  refine j_if_ne (tgt := 36) x dX6_isOut_21 (by decide) (fun hc => ?_) (fun hc => absurd hc (by rw [jm_s]; decide))
  refine j_iconst (v := 0) x dX6_isOut_36 (by decide) ?_
  exact j_zreturn x hr dX6_isOut_37 (by first | decide | exact jb_nar) (by omega) (by omega) ⟨rfl, rfl⟩
theorem cx_ranked_0 {d : Nat} {b : SBt} {Y : OUt} {M : MM} (hb : 104 ≤ b.2.1) {t : Int32} (h0 : M 95 0 = 0) : CM (d + 1) 0 0 yX6_ranked cX6_ranked 3 (some .int) [.ref 94, .int t] b Y M (.inl (some (.int (0)))) (jrai (jm M 94 19 0) 1) := by
  refine Con.of (by decide +kernel) (Nat.le_of_ble_eq_true rfl) rfl fun p l e s m args below meth c D tyc A ad0 x hr htab hname => ?_
  change JJ _ _ _ _ _ _ _ _ _ _ _ _ _ _ _ _ _ 0 [some (.ref 94), some (.int t), none] [] _ 0 0
  refine j_aload_n x dX6_ranked_0 rfl ?_
  refine j_iconst (v := 0) x dX6_ranked_1 (by decide) ?_
  refine j2_puti (k := 19) x hb dX6_ranked_2 jc_10 wfX6_36 (by decide) rfl rfl rfl rfl ?_
  refine j_iconst (v := 0) x dX6_ranked_5 (by decide) ?_
  refine j_istore_n x dX6_ranked_6 (by decide) rfl ?_
  refine j_iload_n x dX6_ranked_7 rfl ?_
  refine j_aload_n x dX6_ranked_8 rfl ?_
  refine j2_getr (k := 0) (r := 95) x hb dX6_ranked_9 jc_10 wfX6_9 (by decide) rfl ?_
  refine j_iconst (v := 0) x dX6_ranked_12 (by decide) ?_
  refine j2_ialn x hb dX6_ranked_13 fa_95 (j := 0) (vp_c (by decide)) (by decide) ?_
  refine j_icmp_ge (tgt := 34) x dX6_ranked_14 (by decide) (fun hc => ?_) (fun hc => absurd (by rw [jm_n (by omega), h0]; decide) hc)
  refine j_aload_n x dX6_ranked_34 rfl ?_
  refine j_iconst (v := 1) x dX6_ranked_35 (by decide) ?_
  refine j2_callVi x hb dX6_ranked_36 m_X6_raises (cx_raises (d := d) hb) wmX6_61 jc_10 rfl rfl rfl (Nat.le_of_ble_eq_true rfl) (j_fit_rm (by omega) (by omega) (by omega)) rfl ?_
  exact j_ireturn x hr dX6_ranked_39 (by omega) (by omega) ⟨rfl, rfl⟩
theorem cx_append_ok {d : Nat} {b : SBt} {Y : OUt} {M : MM} (hb : 104 ≤ b.2.1) {v w : Int32} {n : Nat} (hn : n < 60) (h9 : M 94 9 = nI n) (hv : vp_nar .char v = w) : CM (d + 1) 0 0 yX6_append cX6_append 2 (some .int) [.ref 94, .int v] b Y M (.inl (some (.int (nI (n + 1))))) (jm (jm (jm M 94 19 0) 94 9 (nI (n + 1))) 100 n w) := by
  refine Con.of (by decide +kernel) (Nat.le_of_ble_eq_true rfl) rfl fun p l e s m args below meth c D tyc A ad0 x hr htab hname => ?_
  change JJ _ _ _ _ _ _ _ _ _ _ _ _ _ _ _ _ _ 0 [some (.ref 94), some (.int v)] [] _ 0 0
  refine j_aload_n x dX6_append_0 rfl ?_
  refine j_iconst (v := 0) x dX6_append_1 (by decide) ?_
  refine j2_puti (k := 19) x hb dX6_append_2 jc_10 wfX6_36 (by decide) rfl rfl rfl rfl ?_
  refine j_aload_n x dX6_append_5 rfl ?_
  refine j2_geti (k := 9) x hb dX6_append_6 jc_10 wfX6_185 (by decide) rfl ?_
  refine j_bipush (v := 60) x dX6_append_9 (by decide) ?_
  refine j_icmp_ne (tgt := 20) x dX6_append_11 (by decide) (fun hc => ?_) (fun hc => absurd hc (by rw [jm_n (by omega), h9]; exact fun q => absurd ((nI_eq (by omega) (by decide)).mp (show nI n = nI 60 from q)) (by omega)))
  refine j_aload_n x dX6_append_20 rfl ?_
  refine j2_getr (k := 8) (r := 100) x hb dX6_append_21 jc_10 wfX6_25 (by decide) rfl ?_
  refine j_aload_n x dX6_append_24 rfl ?_
  refine j_dup x dX6_append_25 rfl ?_
  refine j2_geti (k := 9) x hb dX6_append_26 jc_10 wfX6_185 (by decide) rfl ?_
  rw [jm_n (by omega), h9]; refine j_dup_x1 x dX6_append_29 rfl rfl ?_
  refine j_iconst (v := 1) x dX6_append_30 (by decide) ?_
  refine j_iadd x dX6_append_31 ?_
  rw [nI_1]; refine j2_puti (k := 9) x hb dX6_append_32 jc_10 wfX6_185 (by decide) rfl rfl rfl rfl ?_
  refine j_iload_n x dX6_append_35 rfl ?_
  refine j2_cast x hb dX6_append_36 fa_100 (vp_in_nI hn (by decide)) hv ?_; rw [nI_clamp (by omega)]
  refine j_aload_n x dX6_append_37 rfl ?_
  refine j2_geti (k := 9) x hb dX6_append_38 jc_10 wfX6_185 (by decide) rfl ?_
  exact j_ireturn x hr dX6_append_41 (by omega) (by omega) ⟨by rw [jm_n (by omega), jm_s], rfl⟩
theorem cx_isCommand_0 {d : Nat} {b : SBt} {Y : OUt} {M : MM} (hb : 104 ≤ b.2.1) (h : M 94 10 = M 94 9) : CM (d) 0 0 yX6_isCommand cX6_isCommand 1 (some .boolean) [.ref 94] b Y M (.inl (some (.int (0)))) (M) := by
  refine Con.of (by decide +kernel) (Nat.le_of_ble_eq_true rfl) rfl fun p l e s m args below meth c D tyc A ad0 x hr htab hname => ?_
  change JJ _ _ _ _ _ _ _ _ _ _ _ _ _ _ _ _ _ 0 [some (.ref 94)] [] _ 0 0
  refine j_aload_n x dX6_isCommand_0 rfl ?_
  refine j2_geti (k := 10) x hb dX6_isCommand_1 jc_10 wfX6_188 (by decide) rfl ?_
  refine j_aload_n x dX6_isCommand_4 rfl ?_
  refine j2_geti (k := 9) x hb dX6_isCommand_5 jc_10 wfX6_185 (by decide) rfl ?_
  refine j_icmp_ne (tgt := 13) x dX6_isCommand_8 (by decide) (fun hc => absurd hc (fun q => q h)) (fun hc => ?_)
  refine j_iconst (v := 0) x dX6_isCommand_11 (by decide) ?_
  exact j_zreturn x hr dX6_isCommand_12 (by first | decide | exact jb_nar) (by omega) (by omega) ⟨rfl, rfl⟩
theorem cx_commands_0 {d : Nat} {b : SBt} {Y : OUt} {M : MM} (hb : 104 ≤ b.2.1) (h9 : M 94 9 = 0) : CM (d + 1) 0 0 yX6_commands cX6_commands 4 (some .int) [.ref 94] b Y M (.inl (some (.int (0)))) (jrai (jm (jm (jm (jtr M) 94 10 0) 94 13 (jm (jtr M) 94 10 0 94 10)) 94 9 0) 1) := by
  refine Con.of (by decide +kernel) (Nat.le_of_ble_eq_true rfl) rfl fun p l e s m args below meth c D tyc A ad0 x hr htab hname => ?_
  change JJ _ _ _ _ _ _ _ _ _ _ _ _ _ _ _ _ _ 0 [some (.ref 94), none, none, none] [] _ 0 0
  refine j_aload_n x dX6_commands_0 rfl ?_
  refine j2_callVv x hb dX6_commands_1 m_X6_tries (cx_tries (d := d) hb) wmX6_76 jc_10 rfl rfl rfl (Nat.le_of_ble_eq_true rfl) (j_fit_rm (by omega) (by omega) (by omega)) rfl ?_
  refine j_aload_n x dX6_commands_4 rfl ?_
  refine j_iconst (v := 0) x dX6_commands_5 (by decide) ?_
  refine j2_puti (k := 10) x hb dX6_commands_6 jc_10 wfX6_188 (by decide) rfl rfl rfl rfl ?_
  refine j_aload_n x dX6_commands_9 rfl ?_
  refine j2_callVi x hb dX6_commands_10 m_X6_isCommand (cx_isCommand_0 (d := d) hb (by rw [jm_s, jm_n (by omega), jtr_f (by omega) (by omega), h9])) wmX6_205 jc_10 rfl rfl rfl (Nat.le_of_ble_eq_true rfl) (j_fit_rm (by omega) (by omega) (by omega)) rfl ?_
  refine j_istore_n x dX6_commands_13 (by decide) rfl ?_
  refine j_iload_n x dX6_commands_14 rfl ?_
  refine j_if_eq (tgt := 54) x dX6_commands_15 (by decide) (fun hc => ?_) (fun hc => absurd (rfl) hc)
  refine j_aload_n x dX6_commands_54 rfl ?_
  refine j_iload_n x dX6_commands_55 rfl ?_
  refine j_if_eq (tgt := 63) x dX6_commands_56 (by decide) (fun hc => ?_) (fun hc => absurd (rfl) hc)
  refine j_aload_n x dX6_commands_63 rfl ?_
  refine j2_geti (k := 10) x hb dX6_commands_64 jc_10 wfX6_188 (by decide) rfl ?_
  refine j2_puti (k := 13) x hb dX6_commands_67 jc_10 wfX6_32 (by decide) rfl rfl rfl rfl ?_
  refine j_iload_n x dX6_commands_70 rfl ?_
  refine j_if_ne (tgt := 85) x dX6_commands_71 (by decide) (fun hc => absurd hc (fun q => q rfl)) (fun hc => ?_)
  refine j_aload_n x dX6_commands_74 rfl ?_
  refine j_iconst (v := 0) x dX6_commands_75 (by decide) ?_
  refine j2_puti (k := 9) x hb dX6_commands_76 jc_10 wfX6_185 (by decide) rfl rfl rfl rfl ?_
  refine j_aload_n x dX6_commands_79 rfl ?_
  refine j_iconst (v := 1) x dX6_commands_80 (by decide) ?_
  refine j2_callVi x hb dX6_commands_81 m_X6_raises (cx_raises (d := d) hb) wmX6_61 jc_10 rfl rfl rfl (Nat.le_of_ble_eq_true rfl) (j_fit_rm (by omega) (by omega) (by omega)) rfl ?_
  exact j_ireturn x hr dX6_commands_84 (by omega) (by omega) ⟨rfl, rfl⟩
theorem cx_faultPosition {d : Nat} {b : SBt} {Y : OUt} {M : MM} (hb : 104 ≤ b.2.1)  : CM (d) 0 0 yX6_faultPosition cX6_faultPosition 1 (some .int) [.ref 94] b Y M (.inl (some (.int (jm M 94 19 0 94 13)))) (jm M 94 19 0) := by
  refine Con.of (by decide +kernel) (Nat.le_of_ble_eq_true rfl) rfl fun p l e s m args below meth c D tyc A ad0 x hr htab hname => ?_
  change JJ _ _ _ _ _ _ _ _ _ _ _ _ _ _ _ _ _ 0 [some (.ref 94)] [] _ 0 0
  refine j_aload_n x dX6_faultPosition_0 rfl ?_
  refine j_iconst (v := 0) x dX6_faultPosition_1 (by decide) ?_
  refine j2_puti (k := 19) x hb dX6_faultPosition_2 jc_10 wfX6_36 (by decide) rfl rfl rfl rfl ?_
  refine j_aload_n x dX6_faultPosition_5 rfl ?_
  refine j2_geti (k := 13) x hb dX6_faultPosition_6 jc_10 wfX6_32 (by decide) rfl ?_
  exact j_ireturn x hr dX6_faultPosition_9 (by omega) (by omega) ⟨rfl, rfl⟩
theorem cx_reason_bad {d : Nat} {b : SBt} {Y : OUt} {M : MM} (hb : 104 ≤ b.2.1) {t : Int32} (hx : ¬ (¬ t < 0 ∧ ¬ 2 < t)) : CM (d + 1) 0 0 yX6_reason cX6_reason 2 (some .int) [.ref 94, .int t] b Y M (.inl (some (.int (0)))) (jrai (jm M 94 19 0) 1) := by
  refine Con.of (by decide +kernel) (Nat.le_of_ble_eq_true rfl) rfl fun p l e s m args below meth c D tyc A ad0 x hr htab hname => ?_
  change JJ _ _ _ _ _ _ _ _ _ _ _ _ _ _ _ _ _ 0 [some (.ref 94), some (.int t)] [] _ 0 0
  refine j_aload_n x dX6_reason_0 rfl ?_
  refine j_iconst (v := 0) x dX6_reason_1 (by decide) ?_
  refine j2_puti (k := 19) x hb dX6_reason_2 jc_10 wfX6_36 (by decide) rfl rfl rfl rfl ?_
  refine j_iload_n x dX6_reason_5 rfl ?_
  refine j_iconst (v := 0) x dX6_reason_6 (by decide) ?_
  refine j_iconst (v := 2) x dX6_reason_7 (by decide) ?_
  refine j2_callSi x hb dX6_reason_8 m_X6_in (CM_v (cx_in (d := d) hb) (jb_f hx)) wmX6_64 rfl (Nat.le_of_ble_eq_true rfl) (j_fit_rm (by omega) (by omega) (by omega)) rfl ?_
  refine j_if_ne (tgt := 20) x dX6_reason_11 (by decide) (fun hc => absurd hc (fun q => q rfl)) (fun hc => ?_)
  refine j_aload_n x dX6_reason_14 rfl ?_
  refine j_iconst (v := 1) x dX6_reason_15 (by decide) ?_
  refine j2_callVi x hb dX6_reason_16 m_X6_raises (cx_raises (d := d) hb) wmX6_61 jc_10 rfl rfl rfl (Nat.le_of_ble_eq_true rfl) (j_fit_rm (by omega) (by omega) (by omega)) rfl ?_
  exact j_ireturn x hr dX6_reason_19 (by omega) (by omega) ⟨rfl, rfl⟩
theorem cx_reason_0 {d : Nat} {b : SBt} {Y : OUt} {M : MM} (hb : 104 ≤ b.2.1) {t : Int32} (hx : ¬ t < 0 ∧ ¬ 2 < t) (h0 : M 94 14 = 0) : CM (d + 1) 0 0 yX6_reason cX6_reason 2 (some .int) [.ref 94, .int t] b Y M (.inl (some (.int (0)))) (jrai (jm M 94 19 0) 2) := by
  refine Con.of (by decide +kernel) (Nat.le_of_ble_eq_true rfl) rfl fun p l e s m args below meth c D tyc A ad0 x hr htab hname => ?_
  change JJ _ _ _ _ _ _ _ _ _ _ _ _ _ _ _ _ _ 0 [some (.ref 94), some (.int t)] [] _ 0 0
  refine j_aload_n x dX6_reason_0 rfl ?_
  refine j_iconst (v := 0) x dX6_reason_1 (by decide) ?_
  refine j2_puti (k := 19) x hb dX6_reason_2 jc_10 wfX6_36 (by decide) rfl rfl rfl rfl ?_
  refine j_iload_n x dX6_reason_5 rfl ?_
  refine j_iconst (v := 0) x dX6_reason_6 (by decide) ?_
  refine j_iconst (v := 2) x dX6_reason_7 (by decide) ?_
  refine j2_callSi x hb dX6_reason_8 m_X6_in (CM_v (cx_in (d := d) hb) (jb_t hx)) wmX6_64 rfl (Nat.le_of_ble_eq_true rfl) (j_fit_rm (by omega) (by omega) (by omega)) rfl ?_
  refine j_if_ne (tgt := 20) x dX6_reason_11 (by decide) (fun hc => ?_) (fun hc => absurd hc (by decide))
  refine j_aload_n x dX6_reason_20 rfl ?_
  refine j2_geti (k := 14) x hb dX6_reason_21 jc_10 wfX6_45 (by decide) rfl ?_
  refine j_if_ne (tgt := 33) x dX6_reason_24 (by decide) (fun hc => absurd hc (fun q => q (by rw [jm_n (by omega)]; exact h0))) (fun hc => ?_)
  refine j_aload_n x dX6_reason_27 rfl ?_
  refine j_iconst (v := 2) x dX6_reason_28 (by decide) ?_
  refine j2_callVi x hb dX6_reason_29 m_X6_raises (cx_raises (d := d) hb) wmX6_61 jc_10 rfl rfl rfl (Nat.le_of_ble_eq_true rfl) (j_fit_rm (by omega) (by omega) (by omega)) rfl ?_
  exact j_ireturn x hr dX6_reason_32 (by omega) (by omega) ⟨rfl, rfl⟩
theorem cx_character_0 {d : Nat} {b : SBt} {Y : OUt} {M : MM} (hb : 104 ≤ b.2.1) {t : Int32} (h0 : M 94 7 = 0) : CM (d + 1) 0 0 yX6_character cX6_character 2 (some .char) [.ref 94, .int t] b Y M (.inl (some (.int (97)))) (jm M 94 19 1) := by
  refine Con.of (by decide +kernel) (Nat.le_of_ble_eq_true rfl) rfl fun p l e s m args below meth c D tyc A ad0 x hr htab hname => ?_
  change JJ _ _ _ _ _ _ _ _ _ _ _ _ _ _ _ _ _ 0 [some (.ref 94), some (.int t)] [] _ 0 0
  refine j_aload_n x dX6_character_0 rfl ?_
  refine j_iload_n x dX6_character_1 rfl ?_
  refine j_iconst (v := 0) x dX6_character_2 (by decide) ?_
  refine j_aload_n x dX6_character_3 rfl ?_
  refine j2_geti (k := 7) x hb dX6_character_4 jc_10 wfX6_218 (by decide) rfl ?_
  refine j_iconst (v := 1) x dX6_character_7 (by decide) ?_
  refine j_isub x dX6_character_8 ?_
  refine j2_callSi x hb dX6_character_9 m_X6_in (CM_v (cx_in (d := d) hb) (no_x h0)) wmX6_64 rfl (Nat.le_of_ble_eq_true rfl) (j_fit_rm (by omega) (by omega) (by omega)) rfl ?_
  refine j_if_eq (tgt := 19) x dX6_character_12 (by decide) (fun hc => ?_) (fun hc => absurd (rfl) hc)
  refine j_iconst (v := 1) x dX6_character_19 (by decide) ?_
  refine j2_puti (k := 19) x hb dX6_character_20 jc_10 wfX6_36 (by decide) rfl rfl rfl rfl ?_
  refine j_aload_n x dX6_character_23 rfl ?_
  refine j2_geti (k := 19) x hb dX6_character_24 jc_10 wfX6_36 (by decide) rfl ?_
  refine j_if_ne (tgt := 40) x dX6_character_27 (by decide) (fun hc => ?_) (fun hc => absurd hc (by rw [jm_s]; decide))
  refine j_bipush (v := 97) x dX6_character_40 (by decide) ?_
  exact j_zreturn x hr dX6_character_42 (by first | decide | exact jb_nar) (by omega) (by omega) ⟨rfl, rfl⟩
theorem cx_meanGoals_0 {d : Nat} {b : SBt} {Y : OUt} {M : MM} (hb : 104 ≤ b.2.1) (h0 : M 95 9 = 0) : CM (d + 1) 0 0 yX6_meanGoals cX6_meanGoals 1 (some .float) [.ref 94] b Y M (.inl (some (.float (FP.i2f 0)))) (jrai (jm M 94 19 0) 1) := by
  refine Con.of (by decide +kernel) (Nat.le_of_ble_eq_true rfl) rfl fun p l e s m args below meth c D tyc A ad0 x hr htab hname => ?_
  change JJ _ _ _ _ _ _ _ _ _ _ _ _ _ _ _ _ _ 0 [some (.ref 94)] [] _ 0 0
  refine j_aload_n x dX6_meanGoals_0 rfl ?_
  refine j_iconst (v := 0) x dX6_meanGoals_1 (by decide) ?_
  refine j2_puti (k := 19) x hb dX6_meanGoals_2 jc_10 wfX6_36 (by decide) rfl rfl rfl rfl ?_
  refine j_aload_n x dX6_meanGoals_5 rfl ?_
  refine j2_callVi x hb dX6_meanGoals_6 m_X6_played (cx_played_0 (d := d) hb (by rw [jm_n (by omega)]; exact h0)) wmX6_113 jc_10 rfl rfl rfl (Nat.le_of_ble_eq_true rfl) (j_fit_rm (by omega) (by omega) (by omega)) rfl ?_
  refine j_if_ne (tgt := 21) x dX6_meanGoals_9 (by decide) (fun hc => absurd hc (fun q => q rfl)) (fun hc => ?_)
  refine j_aload_n x dX6_meanGoals_12 rfl ?_
  refine j_iconst (v := 1) x dX6_meanGoals_13 (by decide) ?_
  refine j2_callVi x hb dX6_meanGoals_14 m_X6_raises (cx_raises (d := d) hb) wmX6_61 jc_10 rfl rfl rfl (Nat.le_of_ble_eq_true rfl) (j_fit_rm (by omega) (by omega) (by omega)) rfl ?_
  refine j_i2f x dX6_meanGoals_17 ?_
  refine j_goto (tgt := 32) x dX6_meanGoals_18 (by decide) ?_
  exact j_freturn x hr dX6_meanGoals_32 (by omega) (by omega) ⟨rfl, rfl⟩
theorem cx_homeShare_0 {d : Nat} {b : SBt} {Y : OUt} {M : MM} (hb : 104 ≤ b.2.1) (h0 : M 95 9 = 0) : CM (d + 1) 0 0 yX6_homeShare cX6_homeShare 3 (some .double) [.ref 94] b Y M (.inl (some (.double (FP.i2d 0)))) (jrai (jm M 94 19 0) 1) := by
  refine Con.of (by decide +kernel) (Nat.le_of_ble_eq_true rfl) rfl fun p l e s m args below meth c D tyc A ad0 x hr htab hname => ?_
  change JJ _ _ _ _ _ _ _ _ _ _ _ _ _ _ _ _ _ 0 [some (.ref 94), none, none] [] _ 0 0
  refine j_aload_n x dX6_homeShare_0 rfl ?_
  refine j_iconst (v := 0) x dX6_homeShare_1 (by decide) ?_
  refine j2_puti (k := 19) x hb dX6_homeShare_2 jc_10 wfX6_36 (by decide) rfl rfl rfl rfl ?_
  refine j_aload_n x dX6_homeShare_5 rfl ?_
  refine j2_callVi x hb dX6_homeShare_6 m_X6_played (cx_played_0 (d := d) hb (by rw [jm_n (by omega)]; exact h0)) wmX6_113 jc_10 rfl rfl rfl (Nat.le_of_ble_eq_true rfl) (j_fit_rm (by omega) (by omega) (by omega)) rfl ?_
  refine j_if_ne (tgt := 19) x dX6_homeShare_9 (by decide) (fun hc => absurd hc (fun q => q rfl)) (fun hc => ?_)
  refine j_aload_n x dX6_homeShare_12 rfl ?_
  refine j_iconst (v := 1) x dX6_homeShare_13 (by decide) ?_
  refine j2_callVi x hb dX6_homeShare_14 m_X6_raises (cx_raises (d := d) hb) wmX6_61 jc_10 rfl rfl rfl (Nat.le_of_ble_eq_true rfl) (j_fit_rm (by omega) (by omega) (by omega)) rfl ?_
  refine j_i2d x dX6_homeShare_17 ?_
  exact j_dreturn x hr dX6_homeShare_18 (by omega) (by omega) ⟨rfl, rfl⟩
theorem cx_account_0 {d : Nat} {b : SBt} {Y : OUt} {M : MM} (hb : 104 ≤ b.2.1) (h0 : M 95 0 = 0) (h1 : M 95 1 = 0) (h9 : M 95 9 = 0) : CM (d + 2) 0 0 yX6_account cX6_account 4 (some .int) [.ref 94, .int 0] b Y M (.inl (some (.int (0)))) (jm M 94 19 0) := by
  refine Con.of (by decide +kernel) (Nat.le_of_ble_eq_true rfl) rfl fun p l e s m args below meth c D tyc A ad0 x hr htab hname => ?_
  change JJ _ _ _ _ _ _ _ _ _ _ _ _ _ _ _ _ _ 0 [some (.ref 94), some (.int 0), none, none] [] _ 0 0
  refine j_aload_n x dX6_account_0 rfl ?_
  refine j_iconst (v := 0) x dX6_account_1 (by decide) ?_
  refine j2_puti (k := 19) x hb dX6_account_2 jc_10 wfX6_36 (by decide) rfl rfl rfl rfl ?_
  refine j_iconst (v := 0) x dX6_account_5 (by decide) ?_
  refine j_istore_n x dX6_account_6 (by decide) rfl ?_
  refine j_iload_n x dX6_account_7 rfl ?_
  refine j_tableIn (tgt := 84) x dX6_account_8 (by decide) (by decide) rfl (by decide) ?_
  refine j_aload_n x dX6_account_84 rfl ?_
  refine j2_getr (k := 0) (r := 95) x hb dX6_account_85 jc_10 wfX6_9 (by decide) rfl ?_
  refine j_iconst (v := 0) x dX6_account_88 (by decide) ?_
  refine j2_ialn x hb dX6_account_89 fa_95 (j := 0) (vp_c (by decide)) (by decide) ?_
  exact j_ireturn x hr dX6_account_90 (by omega) (by omega) ⟨by rw [jm_n (by omega), h0], rfl⟩
theorem cx_account_1 {d : Nat} {b : SBt} {Y : OUt} {M : MM} (hb : 104 ≤ b.2.1) (h0 : M 95 0 = 0) (h1 : M 95 1 = 0) (h9 : M 95 9 = 0) : CM (d + 2) 0 0 yX6_account cX6_account 4 (some .int) [.ref 94, .int 1] b Y M (.inl (some (.int (0)))) (jm M 94 19 0) := by
  refine Con.of (by decide +kernel) (Nat.le_of_ble_eq_true rfl) rfl fun p l e s m args below meth c D tyc A ad0 x hr htab hname => ?_
  change JJ _ _ _ _ _ _ _ _ _ _ _ _ _ _ _ _ _ 0 [some (.ref 94), some (.int 1), none, none] [] _ 0 0
  refine j_aload_n x dX6_account_0 rfl ?_
  refine j_iconst (v := 0) x dX6_account_1 (by decide) ?_
  refine j2_puti (k := 19) x hb dX6_account_2 jc_10 wfX6_36 (by decide) rfl rfl rfl rfl ?_
  refine j_iconst (v := 0) x dX6_account_5 (by decide) ?_
  refine j_istore_n x dX6_account_6 (by decide) rfl ?_
  refine j_iload_n x dX6_account_7 rfl ?_
  refine j_tableIn (tgt := 91) x dX6_account_8 (by decide) (by decide) rfl (by decide) ?_
  refine j_aload_n x dX6_account_91 rfl ?_
  refine j2_callVi x hb dX6_account_92 m_X6_isDrawn (CM_v (cx_isDrawn (d := d) hb) (no_w (by rw [jm_n (by omega)]; exact h1))) wmX6_87 jc_10 rfl rfl rfl (Nat.le_of_ble_eq_true rfl) (j_fit_rm (by omega) (by omega) (by omega)) rfl ?_
  refine j_if_eq (tgt := 102) x dX6_account_95 (by decide) (fun hc => ?_) (fun hc => absurd (rfl) hc)
  refine j_iconst (v := 0) x dX6_account_102 (by decide) ?_
  exact j_ireturn x hr dX6_account_103 (by omega) (by omega) ⟨rfl, rfl⟩
theorem cx_account_2 {d : Nat} {b : SBt} {Y : OUt} {M : MM} (hb : 104 ≤ b.2.1) (h0 : M 95 0 = 0) (h1 : M 95 1 = 0) (h9 : M 95 9 = 0) : CM (d + 2) 0 0 yX6_account cX6_account 4 (some .int) [.ref 94, .int 2] b Y M (.inl (some (.int (0)))) (jm M 94 19 0) := by
  refine Con.of (by decide +kernel) (Nat.le_of_ble_eq_true rfl) rfl fun p l e s m args below meth c D tyc A ad0 x hr htab hname => ?_
  change JJ _ _ _ _ _ _ _ _ _ _ _ _ _ _ _ _ _ 0 [some (.ref 94), some (.int 2), none, none] [] _ 0 0
  refine j_aload_n x dX6_account_0 rfl ?_
  refine j_iconst (v := 0) x dX6_account_1 (by decide) ?_
  refine j2_puti (k := 19) x hb dX6_account_2 jc_10 wfX6_36 (by decide) rfl rfl rfl rfl ?_
  refine j_iconst (v := 0) x dX6_account_5 (by decide) ?_
  refine j_istore_n x dX6_account_6 (by decide) rfl ?_
  refine j_iload_n x dX6_account_7 rfl ?_
  refine j_tableIn (tgt := 104) x dX6_account_8 (by decide) (by decide) rfl (by decide) ?_
  refine j_aload_n x dX6_account_104 rfl ?_
  refine j2_getr (k := 0) (r := 95) x hb dX6_account_105 jc_10 wfX6_9 (by decide) rfl ?_
  refine j_iconst (v := 1) x dX6_account_108 (by decide) ?_
  refine j2_ialn x hb dX6_account_109 fa_95 (j := 1) (vp_c (by decide)) (by decide) ?_
  exact j_ireturn x hr dX6_account_110 (by omega) (by omega) ⟨by rw [jm_n (by omega), h1], rfl⟩
theorem cx_account_3 {d : Nat} {b : SBt} {Y : OUt} {M : MM} (hb : 104 ≤ b.2.1) (h0 : M 95 0 = 0) (h1 : M 95 1 = 0) (h9 : M 95 9 = 0) : CM (d + 2) 0 0 yX6_account cX6_account 4 (some .int) [.ref 94, .int 3] b Y M (.inl (some (.int (M 95 2)))) (jm M 94 19 0) := by
  refine Con.of (by decide +kernel) (Nat.le_of_ble_eq_true rfl) rfl fun p l e s m args below meth c D tyc A ad0 x hr htab hname => ?_
  change JJ _ _ _ _ _ _ _ _ _ _ _ _ _ _ _ _ _ 0 [some (.ref 94), some (.int 3), none, none] [] _ 0 0
  refine j_aload_n x dX6_account_0 rfl ?_
  refine j_iconst (v := 0) x dX6_account_1 (by decide) ?_
  refine j2_puti (k := 19) x hb dX6_account_2 jc_10 wfX6_36 (by decide) rfl rfl rfl rfl ?_
  refine j_iconst (v := 0) x dX6_account_5 (by decide) ?_
  refine j_istore_n x dX6_account_6 (by decide) rfl ?_
  refine j_iload_n x dX6_account_7 rfl ?_
  refine j_tableIn (tgt := 111) x dX6_account_8 (by decide) (by decide) rfl (by decide) ?_
  refine j_aload_n x dX6_account_111 rfl ?_
  refine j2_getr (k := 0) (r := 95) x hb dX6_account_112 jc_10 wfX6_9 (by decide) rfl ?_
  refine j_iconst (v := 2) x dX6_account_115 (by decide) ?_
  refine j2_ialn x hb dX6_account_116 fa_95 (j := 2) (vp_c (by decide)) (by decide) ?_
  exact j_ireturn x hr dX6_account_117 (by omega) (by omega) ⟨by rw [jm_n (by omega)], rfl⟩
theorem cx_account_4 {d : Nat} {b : SBt} {Y : OUt} {M : MM} (hb : 104 ≤ b.2.1) (h0 : M 95 0 = 0) (h1 : M 95 1 = 0) (h9 : M 95 9 = 0) : CM (d + 2) 0 0 yX6_account cX6_account 4 (some .int) [.ref 94, .int 4] b Y M (.inl (some (.int (0)))) (jm M 94 19 0) := by
  refine Con.of (by decide +kernel) (Nat.le_of_ble_eq_true rfl) rfl fun p l e s m args below meth c D tyc A ad0 x hr htab hname => ?_
  change JJ _ _ _ _ _ _ _ _ _ _ _ _ _ _ _ _ _ 0 [some (.ref 94), some (.int 4), none, none] [] _ 0 0
  refine j_aload_n x dX6_account_0 rfl ?_
  refine j_iconst (v := 0) x dX6_account_1 (by decide) ?_
  refine j2_puti (k := 19) x hb dX6_account_2 jc_10 wfX6_36 (by decide) rfl rfl rfl rfl ?_
  refine j_iconst (v := 0) x dX6_account_5 (by decide) ?_
  refine j_istore_n x dX6_account_6 (by decide) rfl ?_
  refine j_iload_n x dX6_account_7 rfl ?_
  refine j_tableIn (tgt := 118) x dX6_account_8 (by decide) (by decide) rfl (by decide) ?_
  refine j_aload_n x dX6_account_118 rfl ?_
  refine j2_getr (k := 0) (r := 95) x hb dX6_account_119 jc_10 wfX6_9 (by decide) rfl ?_
  refine j_bipush (v := 9) x dX6_account_122 (by decide) ?_
  refine j2_ialn x hb dX6_account_124 fa_95 (j := 9) (vp_c (by decide)) (by decide) ?_
  exact j_ireturn x hr dX6_account_125 (by omega) (by omega) ⟨by rw [jm_n (by omega), h9], rfl⟩
theorem cx_account_5 {d : Nat} {b : SBt} {Y : OUt} {M : MM} (hb : 104 ≤ b.2.1) (h0 : M 95 0 = 0) (h1 : M 95 1 = 0) (h9 : M 95 9 = 0) : CM (d + 2) 0 0 yX6_account cX6_account 4 (some .int) [.ref 94, .int 5] b Y M (.inl (some (.int (0)))) (jm M 94 19 0) := by
  refine Con.of (by decide +kernel) (Nat.le_of_ble_eq_true rfl) rfl fun p l e s m args below meth c D tyc A ad0 x hr htab hname => ?_
  change JJ _ _ _ _ _ _ _ _ _ _ _ _ _ _ _ _ _ 0 [some (.ref 94), some (.int 5), none, none] [] _ 0 0
  refine j_aload_n x dX6_account_0 rfl ?_
  refine j_iconst (v := 0) x dX6_account_1 (by decide) ?_
  refine j2_puti (k := 19) x hb dX6_account_2 jc_10 wfX6_36 (by decide) rfl rfl rfl rfl ?_
  refine j_iconst (v := 0) x dX6_account_5 (by decide) ?_
  refine j_istore_n x dX6_account_6 (by decide) rfl ?_
  refine j_iload_n x dX6_account_7 rfl ?_
  refine j_tableIn (tgt := 126) x dX6_account_8 (by decide) (by decide) rfl (by decide) ?_
  refine j_aload_n x dX6_account_126 rfl ?_
  refine j2_callVi x hb dX6_account_127 m_X6_played (cx_played_0 (d := d) hb (by rw [jm_n (by omega)]; exact h9)) wmX6_113 jc_10 rfl rfl rfl (Nat.le_of_ble_eq_true rfl) (j_fit_rm (by omega) (by omega) (by omega)) rfl ?_
  exact j_ireturn x hr dX6_account_130 (by omega) (by omega) ⟨rfl, rfl⟩
theorem cx_account_6 {d : Nat} {b : SBt} {Y : OUt} {M : MM} (hb : 104 ≤ b.2.1) (h0 : M 95 0 = 0) (h1 : M 95 1 = 0) (h9 : M 95 9 = 0) : CM (d + 2) 0 0 yX6_account cX6_account 4 (some .int) [.ref 94, .int 6] b Y M (.inl (some (.int (0)))) (jm M 94 19 0) := by
  refine Con.of (by decide +kernel) (Nat.le_of_ble_eq_true rfl) rfl fun p l e s m args below meth c D tyc A ad0 x hr htab hname => ?_
  change JJ _ _ _ _ _ _ _ _ _ _ _ _ _ _ _ _ _ 0 [some (.ref 94), some (.int 6), none, none] [] _ 0 0
  refine j_aload_n x dX6_account_0 rfl ?_
  refine j_iconst (v := 0) x dX6_account_1 (by decide) ?_
  refine j2_puti (k := 19) x hb dX6_account_2 jc_10 wfX6_36 (by decide) rfl rfl rfl rfl ?_
  refine j_iconst (v := 0) x dX6_account_5 (by decide) ?_
  refine j_istore_n x dX6_account_6 (by decide) rfl ?_
  refine j_iload_n x dX6_account_7 rfl ?_
  refine j_tableIn (tgt := 131) x dX6_account_8 (by decide) (by decide) rfl (by decide) ?_
  refine j_iconst (v := 0) x dX6_account_131 (by decide) ?_
  refine j_istore_n x dX6_account_132 (by decide) rfl ?_
  refine j_iload_n x dX6_account_133 rfl ?_
  refine j_aload_n x dX6_account_134 rfl ?_
  refine j2_getr (k := 0) (r := 95) x hb dX6_account_135 jc_10 wfX6_9 (by decide) rfl ?_
  refine j_bipush (v := 9) x dX6_account_138 (by decide) ?_
  refine j2_ialn x hb dX6_account_140 fa_95 (j := 9) (vp_c (by decide)) (by decide) ?_
  refine j_icmp_ge (tgt := 162) x dX6_account_141 (by decide) (fun hc => ?_) (fun hc => absurd (by rw [jm_n (by omega), h9]; decide) hc)
  refine j_iload_n x dX6_account_162 rfl ?_
  exact j_ireturn x hr dX6_account_163 (by omega) (by omega) ⟨rfl, rfl⟩
theorem cx_account_7 {d : Nat} {b : SBt} {Y : OUt} {M : MM} (hb : 104 ≤ b.2.1) (h0 : M 95 0 = 0) (h1 : M 95 1 = 0) (h9 : M 95 9 = 0) : CM (d + 2) 0 0 yX6_account cX6_account 4 (some .int) [.ref 94, .int 7] b Y M (.inl (some (.int (M 95 3)))) (jm M 94 19 0) := by
  refine Con.of (by decide +kernel) (Nat.le_of_ble_eq_true rfl) rfl fun p l e s m args below meth c D tyc A ad0 x hr htab hname => ?_
  change JJ _ _ _ _ _ _ _ _ _ _ _ _ _ _ _ _ _ 0 [some (.ref 94), some (.int 7), none, none] [] _ 0 0
  refine j_aload_n x dX6_account_0 rfl ?_
  refine j_iconst (v := 0) x dX6_account_1 (by decide) ?_
  refine j2_puti (k := 19) x hb dX6_account_2 jc_10 wfX6_36 (by decide) rfl rfl rfl rfl ?_
  refine j_iconst (v := 0) x dX6_account_5 (by decide) ?_
  refine j_istore_n x dX6_account_6 (by decide) rfl ?_
  refine j_iload_n x dX6_account_7 rfl ?_
  refine j_tableIn (tgt := 164) x dX6_account_8 (by decide) (by decide) rfl (by decide) ?_
  refine j_aload_n x dX6_account_164 rfl ?_
  refine j2_getr (k := 0) (r := 95) x hb dX6_account_165 jc_10 wfX6_9 (by decide) rfl ?_
  refine j_iconst (v := 3) x dX6_account_168 (by decide) ?_
  refine j2_ialn x hb dX6_account_169 fa_95 (j := 3) (vp_c (by decide)) (by decide) ?_
  exact j_ireturn x hr dX6_account_170 (by omega) (by omega) ⟨by rw [jm_n (by omega)], rfl⟩
theorem cx_account_8 {d : Nat} {b : SBt} {Y : OUt} {M : MM} (hb : 104 ≤ b.2.1) (h0 : M 95 0 = 0) (h1 : M 95 1 = 0) (h9 : M 95 9 = 0) : CM (d + 2) 0 0 yX6_account cX6_account 4 (some .int) [.ref 94, .int 8] b Y M (.inl (some (.int (M 95 4)))) (jm M 94 19 0) := by
  refine Con.of (by decide +kernel) (Nat.le_of_ble_eq_true rfl) rfl fun p l e s m args below meth c D tyc A ad0 x hr htab hname => ?_
  change JJ _ _ _ _ _ _ _ _ _ _ _ _ _ _ _ _ _ 0 [some (.ref 94), some (.int 8), none, none] [] _ 0 0
  refine j_aload_n x dX6_account_0 rfl ?_
  refine j_iconst (v := 0) x dX6_account_1 (by decide) ?_
  refine j2_puti (k := 19) x hb dX6_account_2 jc_10 wfX6_36 (by decide) rfl rfl rfl rfl ?_
  refine j_iconst (v := 0) x dX6_account_5 (by decide) ?_
  refine j_istore_n x dX6_account_6 (by decide) rfl ?_
  refine j_iload_n x dX6_account_7 rfl ?_
  refine j_tableIn (tgt := 171) x dX6_account_8 (by decide) (by decide) rfl (by decide) ?_
  refine j_aload_n x dX6_account_171 rfl ?_
  refine j2_getr (k := 0) (r := 95) x hb dX6_account_172 jc_10 wfX6_9 (by decide) rfl ?_
  refine j_iconst (v := 4) x dX6_account_175 (by decide) ?_
  refine j2_ialn x hb dX6_account_176 fa_95 (j := 4) (vp_c (by decide)) (by decide) ?_
  exact j_ireturn x hr dX6_account_177 (by omega) (by omega) ⟨by rw [jm_n (by omega)], rfl⟩
theorem cx_account_9 {d : Nat} {b : SBt} {Y : OUt} {M : MM} (hb : 104 ≤ b.2.1) (h0 : M 95 0 = 0) (h1 : M 95 1 = 0) (h9 : M 95 9 = 0) : CM (d + 2) 0 0 yX6_account cX6_account 4 (some .int) [.ref 94, .int 9] b Y M (.inl (some (.int (M 95 5)))) (jm M 94 19 0) := by
  refine Con.of (by decide +kernel) (Nat.le_of_ble_eq_true rfl) rfl fun p l e s m args below meth c D tyc A ad0 x hr htab hname => ?_
  change JJ _ _ _ _ _ _ _ _ _ _ _ _ _ _ _ _ _ 0 [some (.ref 94), some (.int 9), none, none] [] _ 0 0
  refine j_aload_n x dX6_account_0 rfl ?_
  refine j_iconst (v := 0) x dX6_account_1 (by decide) ?_
  refine j2_puti (k := 19) x hb dX6_account_2 jc_10 wfX6_36 (by decide) rfl rfl rfl rfl ?_
  refine j_iconst (v := 0) x dX6_account_5 (by decide) ?_
  refine j_istore_n x dX6_account_6 (by decide) rfl ?_
  refine j_iload_n x dX6_account_7 rfl ?_
  refine j_tableIn (tgt := 178) x dX6_account_8 (by decide) (by decide) rfl (by decide) ?_
  refine j_aload_n x dX6_account_178 rfl ?_
  refine j2_getr (k := 0) (r := 95) x hb dX6_account_179 jc_10 wfX6_9 (by decide) rfl ?_
  refine j_iconst (v := 5) x dX6_account_182 (by decide) ?_
  refine j2_ialn x hb dX6_account_183 fa_95 (j := 5) (vp_c (by decide)) (by decide) ?_
  exact j_ireturn x hr dX6_account_184 (by omega) (by omega) ⟨by rw [jm_n (by omega)], rfl⟩
theorem cx_account_10 {d : Nat} {b : SBt} {Y : OUt} {M : MM} (hb : 104 ≤ b.2.1) (h0 : M 95 0 = 0) (h1 : M 95 1 = 0) (h9 : M 95 9 = 0) : CM (d + 2) 0 0 yX6_account cX6_account 4 (some .int) [.ref 94, .int 10] b Y M (.inl (some (.int (0)))) (jm M 94 19 0) := by
  refine Con.of (by decide +kernel) (Nat.le_of_ble_eq_true rfl) rfl fun p l e s m args below meth c D tyc A ad0 x hr htab hname => ?_
  change JJ _ _ _ _ _ _ _ _ _ _ _ _ _ _ _ _ _ 0 [some (.ref 94), some (.int 10), none, none] [] _ 0 0
  refine j_aload_n x dX6_account_0 rfl ?_
  refine j_iconst (v := 0) x dX6_account_1 (by decide) ?_
  refine j2_puti (k := 19) x hb dX6_account_2 jc_10 wfX6_36 (by decide) rfl rfl rfl rfl ?_
  refine j_iconst (v := 0) x dX6_account_5 (by decide) ?_
  refine j_istore_n x dX6_account_6 (by decide) rfl ?_
  refine j_iload_n x dX6_account_7 rfl ?_
  refine j_tableIn (tgt := 185) x dX6_account_8 (by decide) (by decide) rfl (by decide) ?_
  refine j_aload_n x dX6_account_185 rfl ?_
  refine j2_callVi x hb dX6_account_186 m_X6_goals (cx_goals_0 (d := d) hb (by rw [jm_n (by omega)]; exact h9)) wmX6_221 jc_10 rfl rfl rfl (Nat.le_of_ble_eq_true rfl) (j_fit_rm (by omega) (by omega) (by omega)) rfl ?_
  exact j_ireturn x hr dX6_account_189 (by omega) (by omega) ⟨rfl, rfl⟩
theorem cx_account_11 {d : Nat} {b : SBt} {Y : OUt} {M : MM} (hb : 104 ≤ b.2.1) (h0 : M 95 0 = 0) (h1 : M 95 1 = 0) (h9 : M 95 9 = 0) : CM (d + 2) 0 0 yX6_account cX6_account 4 (some .int) [.ref 94, .int 11] b Y M (.inl (some (.int (0)))) (jm M 94 19 0) := by
  refine Con.of (by decide +kernel) (Nat.le_of_ble_eq_true rfl) rfl fun p l e s m args below meth c D tyc A ad0 x hr htab hname => ?_
  change JJ _ _ _ _ _ _ _ _ _ _ _ _ _ _ _ _ _ 0 [some (.ref 94), some (.int 11), none, none] [] _ 0 0
  refine j_aload_n x dX6_account_0 rfl ?_
  refine j_iconst (v := 0) x dX6_account_1 (by decide) ?_
  refine j2_puti (k := 19) x hb dX6_account_2 jc_10 wfX6_36 (by decide) rfl rfl rfl rfl ?_
  refine j_iconst (v := 0) x dX6_account_5 (by decide) ?_
  refine j_istore_n x dX6_account_6 (by decide) rfl ?_
  refine j_iload_n x dX6_account_7 rfl ?_
  refine j_tableIn (tgt := 190) x dX6_account_8 (by decide) (by decide) rfl (by decide) ?_
  refine j_iconst (v := 0) x dX6_account_190 (by decide) ?_
  refine j_istore_n x dX6_account_191 (by decide) rfl ?_
  refine j_iload_n x dX6_account_192 rfl ?_
  refine j_aload_n x dX6_account_193 rfl ?_
  refine j2_getr (k := 0) (r := 95) x hb dX6_account_194 jc_10 wfX6_9 (by decide) rfl ?_
  refine j_iconst (v := 0) x dX6_account_197 (by decide) ?_
  refine j2_ialn x hb dX6_account_198 fa_95 (j := 0) (vp_c (by decide)) (by decide) ?_
  refine j_icmp_ge (tgt := 217) x dX6_account_199 (by decide) (fun hc => ?_) (fun hc => absurd (by rw [jm_n (by omega), h0]; decide) hc)
  refine j_iload_n x dX6_account_217 rfl ?_
  exact j_ireturn x hr dX6_account_218 (by omega) (by omega) ⟨rfl, rfl⟩
theorem cx_account_12 {d : Nat} {b : SBt} {Y : OUt} {M : MM} (hb : 104 ≤ b.2.1) (h0 : M 95 0 = 0) (h1 : M 95 1 = 0) (h9 : M 95 9 = 0) : CM (d + 2) 0 0 yX6_account cX6_account 4 (some .int) [.ref 94, .int 12] b Y M (.inl (some (.int (0)))) (jm M 94 19 0) := by
  refine Con.of (by decide +kernel) (Nat.le_of_ble_eq_true rfl) rfl fun p l e s m args below meth c D tyc A ad0 x hr htab hname => ?_
  change JJ _ _ _ _ _ _ _ _ _ _ _ _ _ _ _ _ _ 0 [some (.ref 94), some (.int 12), none, none] [] _ 0 0
  refine j_aload_n x dX6_account_0 rfl ?_
  refine j_iconst (v := 0) x dX6_account_1 (by decide) ?_
  refine j2_puti (k := 19) x hb dX6_account_2 jc_10 wfX6_36 (by decide) rfl rfl rfl rfl ?_
  refine j_iconst (v := 0) x dX6_account_5 (by decide) ?_
  refine j_istore_n x dX6_account_6 (by decide) rfl ?_
  refine j_iload_n x dX6_account_7 rfl ?_
  refine j_tableIn (tgt := 219) x dX6_account_8 (by decide) (by decide) rfl (by decide) ?_
  refine j_iconst (v := 0) x dX6_account_219 (by decide) ?_
  refine j_istore_n x dX6_account_220 (by decide) rfl ?_
  refine j_iload_n x dX6_account_221 rfl ?_
  refine j_aload_n x dX6_account_222 rfl ?_
  refine j2_getr (k := 0) (r := 95) x hb dX6_account_223 jc_10 wfX6_9 (by decide) rfl ?_
  refine j_iconst (v := 1) x dX6_account_226 (by decide) ?_
  refine j2_ialn x hb dX6_account_227 fa_95 (j := 1) (vp_c (by decide)) (by decide) ?_
  refine j_icmp_ge (tgt := 245) x dX6_account_228 (by decide) (fun hc => ?_) (fun hc => absurd (by rw [jm_n (by omega), h1]; decide) hc)
  refine j_iload_n x dX6_account_245 rfl ?_
  exact j_ireturn x hr dX6_account_246 (by omega) (by omega) ⟨rfl, rfl⟩
theorem cx_account_13 {d : Nat} {b : SBt} {Y : OUt} {M : MM} (hb : 104 ≤ b.2.1) (h0 : M 95 0 = 0) (h1 : M 95 1 = 0) (h9 : M 95 9 = 0) : CM (d + 2) 0 0 yX6_account cX6_account 4 (some .int) [.ref 94, .int 13] b Y M (.inl (some (.int (M 94 3)))) (jm M 94 19 0) := by
  refine Con.of (by decide +kernel) (Nat.le_of_ble_eq_true rfl) rfl fun p l e s m args below meth c D tyc A ad0 x hr htab hname => ?_
  change JJ _ _ _ _ _ _ _ _ _ _ _ _ _ _ _ _ _ 0 [some (.ref 94), some (.int 13), none, none] [] _ 0 0
  refine j_aload_n x dX6_account_0 rfl ?_
  refine j_iconst (v := 0) x dX6_account_1 (by decide) ?_
  refine j2_puti (k := 19) x hb dX6_account_2 jc_10 wfX6_36 (by decide) rfl rfl rfl rfl ?_
  refine j_iconst (v := 0) x dX6_account_5 (by decide) ?_
  refine j_istore_n x dX6_account_6 (by decide) rfl ?_
  refine j_iload_n x dX6_account_7 rfl ?_
  refine j_tableIn (tgt := 247) x dX6_account_8 (by decide) (by decide) rfl (by decide) ?_
  refine j_aload_n x dX6_account_247 rfl ?_
  refine j2_geti (k := 3) x hb dX6_account_248 jc_10 wfX6_42 (by decide) rfl ?_
  exact j_ireturn x hr dX6_account_251 (by omega) (by omega) ⟨by rw [jm_n (by omega)], rfl⟩
theorem cx_account_14 {d : Nat} {b : SBt} {Y : OUt} {M : MM} (hb : 104 ≤ b.2.1) (h0 : M 95 0 = 0) (h1 : M 95 1 = 0) (h9 : M 95 9 = 0) : CM (d + 2) 0 0 yX6_account cX6_account 4 (some .int) [.ref 94, .int 14] b Y M (.inl (some (.int (M 94 9)))) (jm M 94 19 0) := by
  refine Con.of (by decide +kernel) (Nat.le_of_ble_eq_true rfl) rfl fun p l e s m args below meth c D tyc A ad0 x hr htab hname => ?_
  change JJ _ _ _ _ _ _ _ _ _ _ _ _ _ _ _ _ _ 0 [some (.ref 94), some (.int 14), none, none] [] _ 0 0
  refine j_aload_n x dX6_account_0 rfl ?_
  refine j_iconst (v := 0) x dX6_account_1 (by decide) ?_
  refine j2_puti (k := 19) x hb dX6_account_2 jc_10 wfX6_36 (by decide) rfl rfl rfl rfl ?_
  refine j_iconst (v := 0) x dX6_account_5 (by decide) ?_
  refine j_istore_n x dX6_account_6 (by decide) rfl ?_
  refine j_iload_n x dX6_account_7 rfl ?_
  refine j_tableIn (tgt := 252) x dX6_account_8 (by decide) (by decide) rfl (by decide) ?_
  refine j_aload_n x dX6_account_252 rfl ?_
  refine j2_geti (k := 9) x hb dX6_account_253 jc_10 wfX6_185 (by decide) rfl ?_
  exact j_ireturn x hr dX6_account_256 (by omega) (by omega) ⟨by rw [jm_n (by omega)], rfl⟩
theorem cx_account_bad {d : Nat} {b : SBt} {Y : OUt} {M : MM} (hb : 104 ≤ b.2.1) {t : Int32} (hx : t.toInt < 0 ∨ 14 < t.toInt) : CM (d + 2) 0 0 yX6_account cX6_account 4 (some .int) [.ref 94, .int t] b Y M (.inl (some (.int (0)))) (jrai (jm M 94 19 0) 1) := by
  refine Con.of (by decide +kernel) (Nat.le_of_ble_eq_true rfl) rfl fun p l e s m args below meth c D tyc A ad0 x hr htab hname => ?_
  change JJ _ _ _ _ _ _ _ _ _ _ _ _ _ _ _ _ _ 0 [some (.ref 94), some (.int t), none, none] [] _ 0 0
  refine j_aload_n x dX6_account_0 rfl ?_
  refine j_iconst (v := 0) x dX6_account_1 (by decide) ?_
  refine j2_puti (k := 19) x hb dX6_account_2 jc_10 wfX6_36 (by decide) rfl rfl rfl rfl ?_
  refine j_iconst (v := 0) x dX6_account_5 (by decide) ?_
  refine j_istore_n x dX6_account_6 (by decide) rfl ?_
  refine j_iload_n x dX6_account_7 rfl ?_
  refine j_tableOut (tgt := 257) x dX6_account_8 hx (by decide) ?_
  refine j_aload_n x dX6_account_257 rfl ?_
  refine j_iconst (v := 1) x dX6_account_258 (by decide) ?_
  refine j2_callVi x hb dX6_account_259 m_X6_raises (cx_raises (d := d) hb) wmX6_61 jc_10 rfl rfl rfl (Nat.le_of_ble_eq_true rfl) (j_fit_rm (by omega) (by omega) (by omega)) rfl ?_
  exact j_ireturn x hr dX6_account_262 (by omega) (by omega) ⟨rfl, rfl⟩
theorem cx_undo_0 {d : Nat} {b : SBt} {Y : OUt} {M : MM} (hb : 104 ≤ b.2.1) (h0 : M 94 3 = 0) : CM (d + 1) 0 0 yX6_undo cX6_undo 2 (some .int) [.ref 94] b Y M (.inl (some (.int (0)))) (jrai (jm M 94 19 0) 1) := by
  refine Con.of (by decide +kernel) (Nat.le_of_ble_eq_true rfl) rfl fun p l e s m args below meth c D tyc A ad0 x hr htab hname => ?_
  change JJ _ _ _ _ _ _ _ _ _ _ _ _ _ _ _ _ _ 0 [some (.ref 94), none] [] _ 0 0
  refine j_aload_n x dX6_undo_0 rfl ?_
  refine j_iconst (v := 0) x dX6_undo_1 (by decide) ?_
  refine j2_puti (k := 19) x hb dX6_undo_2 jc_10 wfX6_36 (by decide) rfl rfl rfl rfl ?_
  refine j_aload_n x dX6_undo_5 rfl ?_
  refine j2_geti (k := 3) x hb dX6_undo_6 jc_10 wfX6_42 (by decide) rfl ?_
  refine j_if_ne (tgt := 18) x dX6_undo_9 (by decide) (fun hc => absurd hc (fun q => q (by rw [jm_n (by omega)]; exact h0))) (fun hc => ?_)
  refine j_aload_n x dX6_undo_12 rfl ?_
  refine j_iconst (v := 1) x dX6_undo_13 (by decide) ?_
  refine j2_callVi x hb dX6_undo_14 m_X6_raises (cx_raises (d := d) hb) wmX6_61 jc_10 rfl rfl rfl (Nat.le_of_ble_eq_true rfl) (j_fit_rm (by omega) (by omega) (by omega)) rfl ?_
  exact j_ireturn x hr dX6_undo_17 (by omega) (by omega) ⟨rfl, rfl⟩
theorem cx_restore_0 {d : Nat} {b : SBt} {Y : OUt} {M : MM} (hb : 104 ≤ b.2.1) (h0 : M 94 5 = 0) : CM (d + 1) 0 0 yX6_restore cX6_restore 2 (some .int) [.ref 94] b Y M (.inl (some (.int (0)))) (jrai (jm M 94 19 0) 1) := by
  refine Con.of (by decide +kernel) (Nat.le_of_ble_eq_true rfl) rfl fun p l e s m args below meth c D tyc A ad0 x hr htab hname => ?_
  change JJ _ _ _ _ _ _ _ _ _ _ _ _ _ _ _ _ _ 0 [some (.ref 94), none] [] _ 0 0
  refine j_aload_n x dX6_restore_0 rfl ?_
  refine j_iconst (v := 0) x dX6_restore_1 (by decide) ?_
  refine j2_puti (k := 19) x hb dX6_restore_2 jc_10 wfX6_36 (by decide) rfl rfl rfl rfl ?_
  refine j_aload_n x dX6_restore_5 rfl ?_
  refine j2_geti (k := 5) x hb dX6_restore_6 jc_10 wfX6_224 (by decide) rfl ?_
  refine j_if_ne (tgt := 18) x dX6_restore_9 (by decide) (fun hc => absurd hc (fun q => q (by rw [jm_n (by omega)]; exact h0))) (fun hc => ?_)
  refine j_aload_n x dX6_restore_12 rfl ?_
  refine j_iconst (v := 1) x dX6_restore_13 (by decide) ?_
  refine j2_callVi x hb dX6_restore_14 m_X6_raises (cx_raises (d := d) hb) wmX6_61 jc_10 rfl rfl rfl (Nat.le_of_ble_eq_true rfl) (j_fit_rm (by omega) (by omega) (by omega)) rfl ?_
  exact j_ireturn x hr dX6_restore_17 (by omega) (by omega) ⟨rfl, rfl⟩
theorem cx_save {d : Nat} {b : SBt} {Y : OUt} {M : MM} (hb : 104 ≤ b.2.1)  : CM (d) 0 0 yX6_save cX6_save 2 (some .int) [.ref 94] b Y M (.inl (some (.int (jcp (jm (jm M 94 19 0) 94 5 1) 95 0 98 0 466 95 0)))) (jcp (jm (jm M 94 19 0) 94 5 1) 95 0 98 0 466) := by
  refine Con.of (by decide +kernel) (Nat.le_of_ble_eq_true rfl) rfl fun p l e s m args below meth c D tyc A ad0 x hr htab hname => ?_
  change JJ _ _ _ _ _ _ _ _ _ _ _ _ _ _ _ _ _ 0 [some (.ref 94), none] [] _ 0 0
  refine j_aload_n x dX6_save_0 rfl ?_
  refine j_iconst (v := 0) x dX6_save_1 (by decide) ?_
  refine j2_puti (k := 19) x hb dX6_save_2 jc_10 wfX6_36 (by decide) rfl rfl rfl rfl ?_
  refine j_aload_n x dX6_save_5 rfl ?_
  refine j_iconst (v := 1) x dX6_save_6 (by decide) ?_
  refine j2_puti (k := 5) x hb dX6_save_7 jc_10 wfX6_224 (by decide) rfl rfl rfl rfl ?_
  refine j_iconst (v := 0) x dX6_save_10 (by decide) ?_
  refine j_istore_n x dX6_save_11 (by decide) rfl ?_
  refine j2_cpl 95 0 98 0 466 (fun j => [some (.ref 94), some (.int (nI j))]) (Or.inl (by decide)) rfl (fun j hj M1 hM ih => ?_) ?_
  · refine j_iload_n x dX6_save_12 rfl ?_
    refine j_sipush (v := 466) x dX6_save_13 (by decide) ?_
    refine j_icmp_ge (tgt := 37) x dX6_save_16 (by decide) (fun hc => absurd hc (nI_ge (b := 466) hj (by decide))) (fun hc => ?_)
    refine j_aload_n x dX6_save_19 rfl ?_
    refine j2_getr (k := 4) (r := 98) x hb dX6_save_20 jc_10 wfX6_19 (by decide) rfl ?_
    refine j_iload_n x dX6_save_23 rfl ?_
    refine j_aload_n x dX6_save_24 rfl ?_
    refine j2_getr (k := 0) (r := 95) x hb dX6_save_25 jc_10 wfX6_9 (by decide) rfl ?_
    refine j_iload_n x dX6_save_28 rfl ?_
    refine j2_ialn x hb dX6_save_29 fa_95 (j := j) (vp_in_nI hj (by decide)) (nI_clamp (by omega)) ?_
    refine j2_iasn x hb dX6_save_30 fa_98 (j := j) (vp_in_nI hj (by decide)) (nI_clamp (by omega)) ?_
    refine j_iinc x dX6_save_31 rfl (by decide) rfl ?_
    refine j_goto (tgt := 12) x dX6_save_34 (by decide) ?_
    have h9 := ih
    simp only [Nat.zero_add] at h9
    rw [← nI_1 j] at h9
    exact h9
  refine j_iload_n x dX6_save_12 rfl ?_
  refine j_sipush (v := 466) x dX6_save_13 (by decide) ?_
  refine j_icmp_ge (tgt := 37) x dX6_save_16 (by decide) (fun hc => ?_) (fun hc => absurd (nI_le (Nat.le_refl 466) (by decide)) hc)
  refine j_aload_n x dX6_save_37 rfl ?_
  refine j2_getr (k := 0) (r := 95) x hb dX6_save_38 jc_10 wfX6_9 (by decide) rfl ?_
  refine j_iconst (v := 0) x dX6_save_41 (by decide) ?_
  refine j2_ialn x hb dX6_save_42 fa_95 (j := 0) (vp_c (by decide)) (by decide) ?_
  exact j_ireturn x hr dX6_save_43 (by omega) (by omega) ⟨rfl, rfl⟩
end

section
/-! ===== a store in the making: the first n cells, of the shape that they will have ===== -/
def HS (n : Nat) (f : Nat → Nat → Value) : MH := (n, fun i => (hT i, hN i, f i))
def fw (f : Nat → Nat → Value) (i k : Nat) (v : Value) : Nat → Nat → Value := ju f i (ju (f i) k v)
def fz (f : Nat → Nat → Value) (n : Nat) (v : Value) : Nat → Nat → Value := ju f n fun _ => v
theorem fw_s {f : Nat → Nat → Value} {i k : Nat} {v : Value} : fw f i k v i k = v := by unfold fw; rw [ju_s, ju_s]
theorem fw_n {f : Nat → Nat → Value} {i k a b : Nat} {v : Value} (h : ¬ (a = i ∧ b = k)) : fw f i k v a b = f a b := by
  unfold fw
  by_cases h1 : a = i
  · subst h1
    rw [ju_s, ju_n (fun q => h ⟨rfl, q⟩)]
  · rw [ju_n h1]
theorem fz_n {f : Nat → Nat → Value} {i a b : Nat} {v : Value} (h : a ≠ i) : fz f i v a b = f a b := by unfold fz; rw [ju_n h]
theorem HS_push {n t N : Nat} {f : Nat → Nat → Value} {g : Nat → Value} (ht : hT n = t) (hn : hN n = N) : j_push (HS n f) (t, N, g) = HS (n + 1) (ju f n g) := by
  subst ht
  subst hn
  refine Prod.ext rfl (funext fun i => ?_)
  show ju (fun i => (hT i, hN i, f i)) n (hT n, hN n, g) i = (hT i, hN i, ju f n g i)
  by_cases h : i = n
  · subst h
    rw [ju_s, ju_s]
  · rw [ju_n h, ju_n h]
theorem HS_fld {n i k : Nat} {f : Nat → Nat → Value} {v : Value} : j_fld (HS n f) i k v = HS n (fw f i k v) := by
  refine Prod.ext rfl (funext fun z => ?_)
  show ju (fun i => (hT i, hN i, f i)) i (hT i, hN i, ju (f i) k v) z = (hT z, hN z, ju f i (ju (f i) k v) z)
  by_cases h : z = i
  · subst h
    rw [ju_s, ju_s]
  · rw [ju_n h, ju_n h]
abbrev CI (d mc ms : Nat) (y : MethodName) (cc : ByteArray) (maxL : Nat) (as : List Value) (n : Nat) (f : Nat → Nat → Value) (n1 : Nat) (f1 : Nat → Nat → Value) : Prop := Con d mc ms y cc maxL none as (HS n f) (fun o k => o = .inl none ∧ k = HS n1 f1)
section J4
variable {p : Program} {l : Launch} {e : Env} {R : Room} {s : State} {m : MethodId} {args : Array Value} {below : List Frame} {meth : Method} {c : Code} {D : va_G} {tyc : Nat → ClassId} {A : Nat → Prop} {n0 : Nat} {ad0 : Nat → Nat} {nL : Nat} {Q : State → Prop}
variable {own : String} {cc : ByteArray} {pc : Nat} {L : List (Option Value)} {st : List Value} {n : Nat} {f : Nat → Nat → Value} {cells slots : Nat}
theorem j3_put (x : j_X p l s m args meth c D tyc A own cc nL) {i k idx ci : Nat} {q : vw_C} {ty : Nat → FieldType} {v : Value} (hd : decode cc pc = .ok (.putfield idx, 3)) (hq : j_cls ci q ty) (hw : Cond.fieldLink own idx (q.2.1 k).1 (q.2.1 k).2.1 (q.2.1 k).2.2.1 ∈ j_all) (hk : k < q.2.2)
    (hfin : (q.2.1 k).2.2.2 = false) (hna : narrow (ty k) v = v) (hfi : fits (ty k) v = true) (hi : i < n) (ht : hT i = ci) (hn : hN i = q.2.2) (kk : JJ p l e R s m args below meth c D tyc A n0 ad0 nL Q (pc + 3) L st (HS n (fw f i k v)) cells slots) : JJ p l e R s m args below meth c D tyc A n0 ad0 nL Q pc L (v :: .ref i :: st) (HS n f) cells slots := by
  refine j_put x hd hq hw hk hfin hna hfi hi ht hn ?_
  rw [HS_fld]
  exact kk
theorem j3_putF (x : j_X p l s m args meth c D tyc A own cc nL) {i k idx ci : Nat} {q : vw_C} {ty : Nat → FieldType} {v : Value} (hin : meth.name = "<init>") (hd : decode cc pc = .ok (.putfield idx, 3)) (hq : j_cls ci q ty) (hw : Cond.fieldLink own idx (q.2.1 k).1 (q.2.1 k).2.1 (q.2.1 k).2.2.1 ∈ j_all) (hk : k < q.2.2)
    (hfin : (q.2.1 k).2.2.2 = true) (hdecl : (q.2.1 k).1 = own) (hna : narrow (ty k) v = v) (hfi : fits (ty k) v = true) (hi : i < n) (ht : hT i = ci) (hn : hN i = q.2.2) (kk : JJ p l e R s m args below meth c D tyc A n0 ad0 nL Q (pc + 3) L st (HS n (fw f i k v)) cells slots) : JJ p l e R s m args below meth c D tyc A n0 ad0 nL Q pc L (v :: .ref i :: st) (HS n f) cells slots := by
  refine j_putF x hin hd hq hw hk hfin hdecl hna hfi hi ht hn ?_
  rw [HS_fld]
  exact kk
theorem j3_get (x : j_X p l s m args meth c D tyc A own cc nL) {i k idx ci : Nat} {q : vw_C} {ty : Nat → FieldType} {v : Value} (hd : decode cc pc = .ok (.getfield idx, 3)) (hq : j_cls ci q ty) (hw : Cond.fieldLink own idx (q.2.1 k).1 (q.2.1 k).2.1 (q.2.1 k).2.2.1 ∈ j_all) (hk : k < q.2.2)
    (hi : i < n) (ht : hT i = ci) (hn : hN i = q.2.2) (hv : f i k = v) (kk : JJ p l e R s m args below meth c D tyc A n0 ad0 nL Q (pc + 3) L (v :: st) (HS n f) cells slots) : JJ p l e R s m args below meth c D tyc A n0 ad0 nL Q pc L (.ref i :: st) (HS n f) cells slots := by
  subst hv
  exact j_get x hd hq hw hk hi ht hn kk
theorem j3_new (x : j_X p l s m args meth c D tyc A own cc nL) {idx ci : Nat} {q : vw_C} {ty : Nat → FieldType} (hd : decode cc pc = .ok (.new idx, 3)) (hq : j_cls ci q ty) (hw : Cond.classLink own idx q.1 ∈ j_all) (hw2 : Cond.instantiable q.1 q.2.2 ∈ j_all) (hw3 : Cond.initialized q.1 ∈ j_all) (ht : hT n = ci) (hn : hN n = q.2.2) (hc1 : cells + 1 ≤ R.cells) (hs1 : slots + q.2.2 ≤ R.slots)
    (kk : JJ p l e R s m args below meth c D tyc A n0 ad0 nL Q (pc + 3) L (.ref n :: st) (HS (n + 1) (ju f n fun k => defaultValue (ty k))) (cells + 1) (slots + q.2.2)) : JJ p l e R s m args below meth c D tyc A n0 ad0 nL Q pc L st (HS n f) cells slots := by
  refine j_new x hd hq hw hw2 hw3 hc1 hs1 ?_
  rw [HS_push ht hn]
  exact kk
theorem j3_newa_int (x : j_X p l s m args meth c D tyc A own cc nL) {v : Int32} {N : Nat} (hd : decode cc pc = .ok (.newarray .int, 2)) (hv : ¬ v < 0) (hN1 : v.toNatClampNeg = N) (hsm : N * 8 ≤ 536870912) (ht : hT n = 100) (hn : hN n = N) (hc1 : cells + 1 ≤ R.cells) (hs1 : slots + N ≤ R.slots)
    (kk : JJ p l e R s m args below meth c D tyc A n0 ad0 nL Q (pc + 2) L (.ref n :: st) (HS (n + 1) (fz f n (.int 0))) (cells + 1) (slots + N)) : JJ p l e R s m args below meth c D tyc A n0 ad0 nL Q pc L (.int v :: st) (HS n f) cells slots := by
  refine j_newa_int x hd wa_int hv hN1 hsm hc1 hs1 ?_
  rw [HS_push ht hn]
  exact kk
theorem j3_newa_char (x : j_X p l s m args meth c D tyc A own cc nL) {v : Int32} {N : Nat} (hd : decode cc pc = .ok (.newarray .char, 2)) (hv : ¬ v < 0) (hN1 : v.toNatClampNeg = N) (hsm : N * 8 ≤ 536870912) (ht : hT n = 101) (hn : hN n = N) (hc1 : cells + 1 ≤ R.cells) (hs1 : slots + N ≤ R.slots)
    (kk : JJ p l e R s m args below meth c D tyc A n0 ad0 nL Q (pc + 2) L (.ref n :: st) (HS (n + 1) (fz f n (.int 0))) (cells + 1) (slots + N)) : JJ p l e R s m args below meth c D tyc A n0 ad0 nL Q pc L (.int v :: st) (HS n f) cells slots := by
  refine j_newa_char x hd wa_char hv hN1 hsm hc1 hs1 ?_
  rw [HS_push ht hn]
  exact kk
theorem j3_newa_byte (x : j_X p l s m args meth c D tyc A own cc nL) {v : Int32} {N : Nat} (hd : decode cc pc = .ok (.newarray .byte, 2)) (hv : ¬ v < 0) (hN1 : v.toNatClampNeg = N) (hsm : N * 8 ≤ 536870912) (ht : hT n = 102) (hn : hN n = N) (hc1 : cells + 1 ≤ R.cells) (hs1 : slots + N ≤ R.slots)
    (kk : JJ p l e R s m args below meth c D tyc A n0 ad0 nL Q (pc + 2) L (.ref n :: st) (HS (n + 1) (fz f n (.int 0))) (cells + 1) (slots + N)) : JJ p l e R s m args below meth c D tyc A n0 ad0 nL Q pc L (.int v :: st) (HS n f) cells slots := by
  refine j_newa_byte x hd wa_byte hv hN1 hsm hc1 hs1 ?_
  rw [HS_push ht hn]
  exact kk
theorem j3_anewa (x : j_X p l s m args meth c D tyc A own cc nL) {idx : Nat} {v : Int32} {N : Nat} (hd : decode cc pc = .ok (.anewarray idx, 3)) (hw : Cond.classLink own idx j_R2 ∈ j_all) (hv : ¬ v < 0) (hN1 : v.toNatClampNeg = N) (hsm : N * 4 ≤ 536870912) (ht : hT n = 103) (hn : hN n = N) (hc1 : cells + 1 ≤ R.cells) (hs1 : slots + N ≤ R.slots)
    (kk : JJ p l e R s m args below meth c D tyc A n0 ad0 nL Q (pc + 3) L (.ref n :: st) (HS (n + 1) (fz f n .null)) (cells + 1) (slots + N)) : JJ p l e R s m args below meth c D tyc A n0 ad0 nL Q pc L (.int v :: st) (HS n f) cells slots := by
  refine j_anewa x hd hw hv hN1 hsm hc1 hs1 ?_
  rw [HS_push ht hn]
  exact kk
theorem j3_iast (x : j_X p l s m args meth c D tyc A own cc nL) {i j N : Nat} {k v : Int32} (hd : decode cc pc = .ok (.iastore, 1)) (hi : i < n) (ht : hT i = 100) (hn : hN i = N) (hk : vp_in k N) (hj : k.toNatClampNeg = j) (kk : JJ p l e R s m args below meth c D tyc A n0 ad0 nL Q (pc + 1) L st (HS n (fw f i j (.int v))) cells slots) : JJ p l e R s m args below meth c D tyc A n0 ad0 nL Q pc L (.int v :: .int k :: .ref i :: st) (HS n f) cells slots := by
  subst hn
  subst hj
  refine j_iastore x hd hi ht hk ?_
  rw [HS_fld]
  exact kk
theorem j3_aast (x : j_X p l s m args meth c D tyc A own cc nL) {i j b N : Nat} {k : Int32} (hd : decode cc pc = .ok (.aastore, 1)) (hi : i < n) (ht : hT i = 103) (hn : hN i = N) (hk : vp_in k N) (hj : k.toNatClampNeg = j) (hb : b < n) (htb : hT b = 6) (kk : JJ p l e R s m args below meth c D tyc A n0 ad0 nL Q (pc + 1) L st (HS n (fw f i j (.ref b))) cells slots) : JJ p l e R s m args below meth c D tyc A n0 ad0 nL Q pc L (.ref b :: .int k :: .ref i :: st) (HS n f) cells slots := by
  subst hn
  subst hj
  refine j_aastore x hd rfl rfl hi ht hk hb htb ?_
  rw [HS_fld]
  exact kk
theorem j3_initN (x : j_X p l s m args meth c D tyc A own cc nL) {d1 mc1 ms1 idx N maxL b n1 : Nat} {y : MethodName} {bytes : ByteArray} {as st0 : List Value} {f1 : Nat → Nat → Value} {host : String} (hd : decode cc pc = .ok (.invokespecial idx, 3)) (hm : j_mI y bytes maxL N) (hcon : CI d1 mc1 ms1 y bytes maxL (.ref b :: as) n f n1 f1) (hw : Cond.methodLinkNest own idx y host ∈ j_nw)
    (hb : b < n) (hn : as.length = N) (hst : st.length ≤ 4) (hfit : j_fit R d1 mc1 ms1 cells slots) (h0 : st0 = as.reverse ++ .ref b :: st) (kk : JJ p l e R s m args below meth c D tyc A n0 ad0 nL Q (pc + 3) L st (HS n1 f1) (cells + mc1) (slots + ms1)) : JJ p l e R s m args below meth c D tyc A n0 ad0 nL Q pc L st0 (HS n f) cells slots :=
  j_callIN x hd hcon hm hw hb hn hst hfit h0 (fun E k h => by cases h.1) (fun v h1 hq => by
    obtain ⟨e1, rfl⟩ := hq
    cases e1
    exact kk)
theorem j3_init (x : j_X p l s m args meth c D tyc A own cc nL) {d1 mc1 ms1 idx N maxL b n1 : Nat} {y : MethodName} {bytes : ByteArray} {as st0 : List Value} {f1 : Nat → Nat → Value} (hd : decode cc pc = .ok (.invokespecial idx, 3)) (hm : j_mI y bytes maxL N) (hcon : CI d1 mc1 ms1 y bytes maxL (.ref b :: as) n f n1 f1) (hw : Cond.methodLink own idx y ∈ j_all)
    (hb : b < n) (hn : as.length = N) (hst : st.length ≤ 4) (hfit : j_fit R d1 mc1 ms1 cells slots) (h0 : st0 = as.reverse ++ .ref b :: st) (kk : JJ p l e R s m args below meth c D tyc A n0 ad0 nL Q (pc + 3) L st (HS n1 f1) (cells + mc1) (slots + ms1)) : JJ p l e R s m args below meth c D tyc A n0 ad0 nL Q pc L st0 (HS n f) cells slots :=
  j_callI x hd hcon hm hw hb hn hst hfit h0 (fun E k h => by cases h.1) (fun v h1 hq => by
    obtain ⟨e1, rfl⟩ := hq
    cases e1
    exact kk)
end J4
theorem fI_t {i k ci N : Nat} (h : fI i k ci N = true) : hT i = ci ∧ hN i = N := by
  simp only [fI, Bool.and_eq_true, beq_iff_eq] at h
  exact ⟨h.1.1.1.2, h.1.1.2⟩
theorem fA_t {i t N : Nat} (h : fA i t N = true) : hT i = t ∧ hN i = N := by
  simp only [fA, Bool.and_eq_true, beq_iff_eq] at h
  exact ⟨h.1.1.1.2, h.1.1.2⟩
def fLg (f : Nat → Nat → Value) (i : Nat) : Nat → Nat → Value := fw (fz (fw (fz (fw (fz (fw (fw (fw (fw (fz (fw (fw (fw (fw (fz (f) (i + 1) (.int 0)) (i) 1 (.ref (i + 1))) (i) 4 (.int (3))) (i) 5 (.int (1))) (i) 6 (.int (2))) (i + 2) (.int 0)) (i + 2) 0 (.int (0))) (i + 2) 1 (.int (1))) (i + 2) 2 (.int (-1))) (i) 7 (.ref (i + 2))) (i + 3) (.int 0)) (i) 8 (.ref (i + 3))) (i + 4) (.int 0)) (i) 9 (.ref (i + 4))) (i + 5) (.int 0)) (i) 10 (.ref (i + 5))
theorem k_Lg {d : Nat} {f : Nat → Nat → Value} {i : Nat} (hi : isLg i = true) : CI (d) 5 179 yX2_init cX2_init 1 [.ref (i)] (i + 1) f (i + 6) (fLg f i) := by
  refine Con.of (by decide +kernel) (Nat.le_of_ble_eq_true rfl) rfl fun p l e s m args below meth c D tyc A ad0 x hr htab hname => ?_
  change JJ _ _ _ _ _ _ _ _ _ _ _ _ _ _ _ _ _ 0 [some (.ref (i))] [] (HS (i + 1) f) 0 0
  refine j_aload_n x dX2_init_0 rfl ?_
  refine j_objInit x dX2_init_1 wmX2_3 wo_inst wo_code (Nat.le_of_ble_eq_true rfl) (by show 1 ≤ 12 + _; omega) (by show 20 ≤ 150 + 60 * _; omega) ?_
  refine j_aload_n x dX2_init_4 rfl ?_
  refine j_bipush (v := 8) x dX2_init_5 (by decide) ?_
  refine j3_newa_int (N := 8) x dX2_init_7 (by decide) (by decide) (by decide) ((fA_t (lgA1 hi)).1) ((fA_t (lgA1 hi)).2) (Nat.le_of_ble_eq_true rfl) (Nat.le_of_ble_eq_true rfl) ?_
  refine j3_putF (k := 1) x hname dX2_init_9 jc_6 wfX2_9 (by decide) rfl rfl rfl rfl (by omega) ((fI_t (lg0 hi)).1) ((fI_t (lg0 hi)).2) ?_
  refine j_aload_n x dX2_init_12 rfl ?_
  refine j_iconst (v := 3) x dX2_init_13 (by decide) ?_
  refine j3_put (k := 4) x dX2_init_14 jc_6 wfX2_15 (by decide) rfl rfl rfl (by omega) ((fI_t (lg0 hi)).1) ((fI_t (lg0 hi)).2) ?_
  refine j_aload_n x dX2_init_17 rfl ?_
  refine j_iconst (v := 1) x dX2_init_18 (by decide) ?_
  refine j3_put (k := 5) x dX2_init_19 jc_6 wfX2_19 (by decide) rfl rfl rfl (by omega) ((fI_t (lg0 hi)).1) ((fI_t (lg0 hi)).2) ?_
  refine j_aload_n x dX2_init_22 rfl ?_
  refine j_iconst (v := 2) x dX2_init_23 (by decide) ?_
  refine j3_put (k := 6) x dX2_init_24 jc_6 wfX2_22 (by decide) rfl rfl rfl (by omega) ((fI_t (lg0 hi)).1) ((fI_t (lg0 hi)).2) ?_
  refine j_aload_n x dX2_init_27 rfl ?_
  refine j_iconst (v := 3) x dX2_init_28 (by decide) ?_
  refine j3_newa_int (N := 3) x dX2_init_29 (by decide) (by decide) (by decide) ((fA_t (lgA2 hi)).1) ((fA_t (lgA2 hi)).2) (Nat.le_of_ble_eq_true rfl) (Nat.le_of_ble_eq_true rfl) ?_
  refine j_dup x dX2_init_31 rfl ?_
  refine j_iconst (v := 0) x dX2_init_32 (by decide) ?_
  refine j_iconst (v := 0) x dX2_init_33 (by decide) ?_
  refine j3_iast (j := 0) x dX2_init_34 (by omega) ((fA_t (lgA2 hi)).1) ((fA_t (lgA2 hi)).2) (vp_c (by decide)) (by decide) ?_
  refine j_dup x dX2_init_35 rfl ?_
  refine j_iconst (v := 1) x dX2_init_36 (by decide) ?_
  refine j_iconst (v := 1) x dX2_init_37 (by decide) ?_
  refine j3_iast (j := 1) x dX2_init_38 (by omega) ((fA_t (lgA2 hi)).1) ((fA_t (lgA2 hi)).2) (vp_c (by decide)) (by decide) ?_
  refine j_dup x dX2_init_39 rfl ?_
  refine j_iconst (v := 2) x dX2_init_40 (by decide) ?_
  refine j_iconst (v := (-1)) x dX2_init_41 (by decide) ?_
  refine j3_iast (j := 2) x dX2_init_42 (by omega) ((fA_t (lgA2 hi)).1) ((fA_t (lgA2 hi)).2) (vp_c (by decide)) (by decide) ?_
  refine j3_putF (k := 7) x hname dX2_init_43 jc_6 wfX2_25 (by decide) rfl rfl rfl rfl (by omega) ((fI_t (lg0 hi)).1) ((fI_t (lg0 hi)).2) ?_
  refine j_aload_n x dX2_init_46 rfl ?_
  refine j_bipush (v := 56) x dX2_init_47 (by decide) ?_
  refine j3_newa_int (N := 56) x dX2_init_49 (by decide) (by decide) (by decide) ((fA_t (lgA3 hi)).1) ((fA_t (lgA3 hi)).2) (Nat.le_of_ble_eq_true rfl) (Nat.le_of_ble_eq_true rfl) ?_
  refine j3_putF (k := 8) x hname dX2_init_51 jc_6 wfX2_28 (by decide) rfl rfl rfl rfl (by omega) ((fI_t (lg0 hi)).1) ((fI_t (lg0 hi)).2) ?_
  refine j_aload_n x dX2_init_54 rfl ?_
  refine j_bipush (v := 56) x dX2_init_55 (by decide) ?_
  refine j3_newa_int (N := 56) x dX2_init_57 (by decide) (by decide) (by decide) ((fA_t (lgA4 hi)).1) ((fA_t (lgA4 hi)).2) (Nat.le_of_ble_eq_true rfl) (Nat.le_of_ble_eq_true rfl) ?_
  refine j3_putF (k := 9) x hname dX2_init_59 jc_6 wfX2_31 (by decide) rfl rfl rfl rfl (by omega) ((fI_t (lg0 hi)).1) ((fI_t (lg0 hi)).2) ?_
  refine j_aload_n x dX2_init_62 rfl ?_
  refine j_bipush (v := 56) x dX2_init_63 (by decide) ?_
  refine j3_newa_int (N := 56) x dX2_init_65 (by decide) (by decide) (by decide) ((fA_t (lgA5 hi)).1) ((fA_t (lgA5 hi)).2) (Nat.le_of_ble_eq_true rfl) (Nat.le_of_ble_eq_true rfl) ?_
  refine j3_putF (k := 10) x hname dX2_init_67 jc_6 wfX2_34 (by decide) rfl rfl rfl rfl (by omega) ((fI_t (lg0 hi)).1) ((fI_t (lg0 hi)).2) ?_
  exact j_return x hr dX2_init_70 (Nat.le_of_ble_eq_true rfl) (Nat.le_of_ble_eq_true rfl) ⟨rfl, rfl⟩
theorem fLg_n {f : Nat → Nat → Value} {i a b : Nat} (h : a < i) : fLg f i a b = f a b := by
  unfold fLg
  repeat (first | rw [fw_n (by omega)] | rw [fz_n (by omega)])
def fHi (f : Nat → Nat → Value) : Nat → Nat → Value := fw (fLg (ju (fw (fLg (ju (fw (fLg (ju (fw (fLg (ju (fw (fLg (ju (fw (fLg (ju (fw (fLg (ju (fw (fLg (ju (fw (fLg (ju (fw (fz (f) (14) .null) (13) 0 (.ref (14))) (15) (fun k => defaultValue (tyX2 k))) (15)) (14) 0 (.ref (15))) (21) (fun k => defaultValue (tyX2 k))) (21)) (14) 1 (.ref (21))) (27) (fun k => defaultValue (tyX2 k))) (27)) (14) 2 (.ref (27))) (33) (fun k => defaultValue (tyX2 k))) (33)) (14) 3 (.ref (33))) (39) (fun k => defaultValue (tyX2 k))) (39)) (14) 4 (.ref (39))) (45) (fun k => defaultValue (tyX2 k))) (45)) (14) 5 (.ref (45))) (51) (fun k => defaultValue (tyX2 k))) (51)) (14) 6 (.ref (51))) (57) (fun k => defaultValue (tyX2 k))) (57)) (14) 7 (.ref (57))) (63) (fun k => defaultValue (tyX2 k))) (63)) (14) 8 (.ref (63))
theorem k_Hi {d : Nat} {f : Nat → Nat → Value} : CI (d + 1) 55 1719 yX1_init cX1_init 2 [.ref 13] (14) f (69) (fHi f) := by
  refine Con.of (by decide +kernel) (Nat.le_of_ble_eq_true rfl) rfl fun p l e s m args below meth c D tyc A ad0 x hr htab hname => ?_
  change JJ _ _ _ _ _ _ _ _ _ _ _ _ _ _ _ _ _ 0 [some (.ref 13), none] [] (HS (14) f) 0 0
  refine j_aload_n x dX1_init_0 rfl ?_
  refine j_objInit x dX1_init_1 wmX1_3 wo_inst wo_code (Nat.le_of_ble_eq_true rfl) (by show 1 ≤ 12 + _; omega) (by show 20 ≤ 150 + 60 * _; omega) ?_
  refine j_aload_n x dX1_init_4 rfl ?_
  refine j_bipush (v := 9) x dX1_init_5 (by decide) ?_
  refine j3_anewa (N := 9) x dX1_init_7 wcX1_11 (by decide) (by decide) (by decide) rfl rfl (Nat.le_of_ble_eq_true rfl) (Nat.le_of_ble_eq_true rfl) ?_
  refine j3_putF (k := 0) x hname dX1_init_10 jc_5 wfX1_13 (by decide) rfl rfl rfl rfl (by omega) (rfl) (rfl) ?_
  refine j_iconst (v := 0) x dX1_init_13 (by decide) ?_
  refine j_istore_n x dX1_init_14 (by decide) rfl ?_
  refine j_iload_n x dX1_init_15 rfl ?_
  refine j_aload_n x dX1_init_16 rfl ?_
  refine j3_get (k := 0) (v := .ref 14) x dX1_init_17 jc_5 wfX1_13 (by decide) (by decide) rfl rfl (by repeat (first | rw [fw_n (by omega)] | rw [fz_n (by omega)] | rw [fLg_n (by omega)] | rw [ju_n (by omega)] | rw [fw_s])) ?_
  refine j_alen (t := 103) (v := 9) x dX1_init_20 (Nat.le_of_ble_eq_true rfl) rfl (by decide) (by decide) rfl ?_
  refine j_icmp_ge (tgt := 43) x dX1_init_21 (by decide) (fun hc => absurd hc (by decide)) (fun hc => ?_)
  refine j_aload_n x dX1_init_24 rfl ?_
  refine j3_get (k := 0) (v := .ref 14) x dX1_init_25 jc_5 wfX1_13 (by decide) (by decide) rfl rfl (by repeat (first | rw [fw_n (by omega)] | rw [fz_n (by omega)] | rw [fLg_n (by omega)] | rw [ju_n (by omega)] | rw [fw_s])) ?_
  refine j_iload_n x dX1_init_28 rfl ?_
  refine j3_new x dX1_init_29 jc_6 wcX1_11 wt_LeagueTables_League wi_LeagueTables_League rfl rfl (Nat.le_of_ble_eq_true rfl) (Nat.le_of_ble_eq_true rfl) ?_
  refine j_dup x dX1_init_32 rfl ?_
  refine j3_initN x dX1_init_33 m_X2_init (k_Lg (d := d) (i := 15) rfl) wnX1_17 (by decide) rfl (Nat.le_of_ble_eq_true rfl) (j_fit_rm (by omega) (Nat.le_of_ble_eq_true rfl) (Nat.le_of_ble_eq_true rfl)) rfl ?_
  refine j3_aast (j := 0) x dX1_init_36 (by decide) rfl rfl (vp_c (by decide)) (by decide) (by decide) rfl ?_
  refine j_iinc x dX1_init_37 rfl (by decide) rfl ?_
  refine j_goto (tgt := 15) x dX1_init_40 (by decide) ?_
  refine j_iload_n x dX1_init_15 rfl ?_
  refine j_aload_n x dX1_init_16 rfl ?_
  refine j3_get (k := 0) (v := .ref 14) x dX1_init_17 jc_5 wfX1_13 (by decide) (by decide) rfl rfl (by repeat (first | rw [fw_n (by omega)] | rw [fz_n (by omega)] | rw [fLg_n (by omega)] | rw [ju_n (by omega)] | rw [fw_s])) ?_
  refine j_alen (t := 103) (v := 9) x dX1_init_20 (Nat.le_of_ble_eq_true rfl) rfl (by decide) (by decide) rfl ?_
  refine j_icmp_ge (tgt := 43) x dX1_init_21 (by decide) (fun hc => absurd hc (by decide)) (fun hc => ?_)
  refine j_aload_n x dX1_init_24 rfl ?_
  refine j3_get (k := 0) (v := .ref 14) x dX1_init_25 jc_5 wfX1_13 (by decide) (by decide) rfl rfl (by repeat (first | rw [fw_n (by omega)] | rw [fz_n (by omega)] | rw [fLg_n (by omega)] | rw [ju_n (by omega)] | rw [fw_s])) ?_
  refine j_iload_n x dX1_init_28 rfl ?_
  refine j3_new x dX1_init_29 jc_6 wcX1_11 wt_LeagueTables_League wi_LeagueTables_League rfl rfl (Nat.le_of_ble_eq_true rfl) (Nat.le_of_ble_eq_true rfl) ?_
  refine j_dup x dX1_init_32 rfl ?_
  refine j3_initN x dX1_init_33 m_X2_init (k_Lg (d := d) (i := 21) rfl) wnX1_17 (by decide) rfl (Nat.le_of_ble_eq_true rfl) (j_fit_rm (by omega) (Nat.le_of_ble_eq_true rfl) (Nat.le_of_ble_eq_true rfl)) rfl ?_
  refine j3_aast (j := 1) x dX1_init_36 (by decide) rfl rfl (vp_c (by decide)) (by decide) (by decide) rfl ?_
  refine j_iinc x dX1_init_37 rfl (by decide) rfl ?_
  refine j_goto (tgt := 15) x dX1_init_40 (by decide) ?_
  refine j_iload_n x dX1_init_15 rfl ?_
  refine j_aload_n x dX1_init_16 rfl ?_
  refine j3_get (k := 0) (v := .ref 14) x dX1_init_17 jc_5 wfX1_13 (by decide) (by decide) rfl rfl (by repeat (first | rw [fw_n (by omega)] | rw [fz_n (by omega)] | rw [fLg_n (by omega)] | rw [ju_n (by omega)] | rw [fw_s])) ?_
  refine j_alen (t := 103) (v := 9) x dX1_init_20 (Nat.le_of_ble_eq_true rfl) rfl (by decide) (by decide) rfl ?_
  refine j_icmp_ge (tgt := 43) x dX1_init_21 (by decide) (fun hc => absurd hc (by decide)) (fun hc => ?_)
  refine j_aload_n x dX1_init_24 rfl ?_
  refine j3_get (k := 0) (v := .ref 14) x dX1_init_25 jc_5 wfX1_13 (by decide) (by decide) rfl rfl (by repeat (first | rw [fw_n (by omega)] | rw [fz_n (by omega)] | rw [fLg_n (by omega)] | rw [ju_n (by omega)] | rw [fw_s])) ?_
  refine j_iload_n x dX1_init_28 rfl ?_
  refine j3_new x dX1_init_29 jc_6 wcX1_11 wt_LeagueTables_League wi_LeagueTables_League rfl rfl (Nat.le_of_ble_eq_true rfl) (Nat.le_of_ble_eq_true rfl) ?_
  refine j_dup x dX1_init_32 rfl ?_
  refine j3_initN x dX1_init_33 m_X2_init (k_Lg (d := d) (i := 27) rfl) wnX1_17 (by decide) rfl (Nat.le_of_ble_eq_true rfl) (j_fit_rm (by omega) (Nat.le_of_ble_eq_true rfl) (Nat.le_of_ble_eq_true rfl)) rfl ?_
  refine j3_aast (j := 2) x dX1_init_36 (by decide) rfl rfl (vp_c (by decide)) (by decide) (by decide) rfl ?_
  refine j_iinc x dX1_init_37 rfl (by decide) rfl ?_
  refine j_goto (tgt := 15) x dX1_init_40 (by decide) ?_
  refine j_iload_n x dX1_init_15 rfl ?_
  refine j_aload_n x dX1_init_16 rfl ?_
  refine j3_get (k := 0) (v := .ref 14) x dX1_init_17 jc_5 wfX1_13 (by decide) (by decide) rfl rfl (by repeat (first | rw [fw_n (by omega)] | rw [fz_n (by omega)] | rw [fLg_n (by omega)] | rw [ju_n (by omega)] | rw [fw_s])) ?_
  refine j_alen (t := 103) (v := 9) x dX1_init_20 (Nat.le_of_ble_eq_true rfl) rfl (by decide) (by decide) rfl ?_
  refine j_icmp_ge (tgt := 43) x dX1_init_21 (by decide) (fun hc => absurd hc (by decide)) (fun hc => ?_)
  refine j_aload_n x dX1_init_24 rfl ?_
  refine j3_get (k := 0) (v := .ref 14) x dX1_init_25 jc_5 wfX1_13 (by decide) (by decide) rfl rfl (by repeat (first | rw [fw_n (by omega)] | rw [fz_n (by omega)] | rw [fLg_n (by omega)] | rw [ju_n (by omega)] | rw [fw_s])) ?_
  refine j_iload_n x dX1_init_28 rfl ?_
  refine j3_new x dX1_init_29 jc_6 wcX1_11 wt_LeagueTables_League wi_LeagueTables_League rfl rfl (Nat.le_of_ble_eq_true rfl) (Nat.le_of_ble_eq_true rfl) ?_
  refine j_dup x dX1_init_32 rfl ?_
  refine j3_initN x dX1_init_33 m_X2_init (k_Lg (d := d) (i := 33) rfl) wnX1_17 (by decide) rfl (Nat.le_of_ble_eq_true rfl) (j_fit_rm (by omega) (Nat.le_of_ble_eq_true rfl) (Nat.le_of_ble_eq_true rfl)) rfl ?_
  refine j3_aast (j := 3) x dX1_init_36 (by decide) rfl rfl (vp_c (by decide)) (by decide) (by decide) rfl ?_
  refine j_iinc x dX1_init_37 rfl (by decide) rfl ?_
  refine j_goto (tgt := 15) x dX1_init_40 (by decide) ?_
  refine j_iload_n x dX1_init_15 rfl ?_
  refine j_aload_n x dX1_init_16 rfl ?_
  refine j3_get (k := 0) (v := .ref 14) x dX1_init_17 jc_5 wfX1_13 (by decide) (by decide) rfl rfl (by repeat (first | rw [fw_n (by omega)] | rw [fz_n (by omega)] | rw [fLg_n (by omega)] | rw [ju_n (by omega)] | rw [fw_s])) ?_
  refine j_alen (t := 103) (v := 9) x dX1_init_20 (Nat.le_of_ble_eq_true rfl) rfl (by decide) (by decide) rfl ?_
  refine j_icmp_ge (tgt := 43) x dX1_init_21 (by decide) (fun hc => absurd hc (by decide)) (fun hc => ?_)
  refine j_aload_n x dX1_init_24 rfl ?_
  refine j3_get (k := 0) (v := .ref 14) x dX1_init_25 jc_5 wfX1_13 (by decide) (by decide) rfl rfl (by repeat (first | rw [fw_n (by omega)] | rw [fz_n (by omega)] | rw [fLg_n (by omega)] | rw [ju_n (by omega)] | rw [fw_s])) ?_
  refine j_iload_n x dX1_init_28 rfl ?_
  refine j3_new x dX1_init_29 jc_6 wcX1_11 wt_LeagueTables_League wi_LeagueTables_League rfl rfl (Nat.le_of_ble_eq_true rfl) (Nat.le_of_ble_eq_true rfl) ?_
  refine j_dup x dX1_init_32 rfl ?_
  refine j3_initN x dX1_init_33 m_X2_init (k_Lg (d := d) (i := 39) rfl) wnX1_17 (by decide) rfl (Nat.le_of_ble_eq_true rfl) (j_fit_rm (by omega) (Nat.le_of_ble_eq_true rfl) (Nat.le_of_ble_eq_true rfl)) rfl ?_
  refine j3_aast (j := 4) x dX1_init_36 (by decide) rfl rfl (vp_c (by decide)) (by decide) (by decide) rfl ?_
  refine j_iinc x dX1_init_37 rfl (by decide) rfl ?_
  refine j_goto (tgt := 15) x dX1_init_40 (by decide) ?_
  refine j_iload_n x dX1_init_15 rfl ?_
  refine j_aload_n x dX1_init_16 rfl ?_
  refine j3_get (k := 0) (v := .ref 14) x dX1_init_17 jc_5 wfX1_13 (by decide) (by decide) rfl rfl (by repeat (first | rw [fw_n (by omega)] | rw [fz_n (by omega)] | rw [fLg_n (by omega)] | rw [ju_n (by omega)] | rw [fw_s])) ?_
  refine j_alen (t := 103) (v := 9) x dX1_init_20 (Nat.le_of_ble_eq_true rfl) rfl (by decide) (by decide) rfl ?_
  refine j_icmp_ge (tgt := 43) x dX1_init_21 (by decide) (fun hc => absurd hc (by decide)) (fun hc => ?_)
  refine j_aload_n x dX1_init_24 rfl ?_
  refine j3_get (k := 0) (v := .ref 14) x dX1_init_25 jc_5 wfX1_13 (by decide) (by decide) rfl rfl (by repeat (first | rw [fw_n (by omega)] | rw [fz_n (by omega)] | rw [fLg_n (by omega)] | rw [ju_n (by omega)] | rw [fw_s])) ?_
  refine j_iload_n x dX1_init_28 rfl ?_
  refine j3_new x dX1_init_29 jc_6 wcX1_11 wt_LeagueTables_League wi_LeagueTables_League rfl rfl (Nat.le_of_ble_eq_true rfl) (Nat.le_of_ble_eq_true rfl) ?_
  refine j_dup x dX1_init_32 rfl ?_
  refine j3_initN x dX1_init_33 m_X2_init (k_Lg (d := d) (i := 45) rfl) wnX1_17 (by decide) rfl (Nat.le_of_ble_eq_true rfl) (j_fit_rm (by omega) (Nat.le_of_ble_eq_true rfl) (Nat.le_of_ble_eq_true rfl)) rfl ?_
  refine j3_aast (j := 5) x dX1_init_36 (by decide) rfl rfl (vp_c (by decide)) (by decide) (by decide) rfl ?_
  refine j_iinc x dX1_init_37 rfl (by decide) rfl ?_
  refine j_goto (tgt := 15) x dX1_init_40 (by decide) ?_
  refine j_iload_n x dX1_init_15 rfl ?_
  refine j_aload_n x dX1_init_16 rfl ?_
  refine j3_get (k := 0) (v := .ref 14) x dX1_init_17 jc_5 wfX1_13 (by decide) (by decide) rfl rfl (by repeat (first | rw [fw_n (by omega)] | rw [fz_n (by omega)] | rw [fLg_n (by omega)] | rw [ju_n (by omega)] | rw [fw_s])) ?_
  refine j_alen (t := 103) (v := 9) x dX1_init_20 (Nat.le_of_ble_eq_true rfl) rfl (by decide) (by decide) rfl ?_
  refine j_icmp_ge (tgt := 43) x dX1_init_21 (by decide) (fun hc => absurd hc (by decide)) (fun hc => ?_)
  refine j_aload_n x dX1_init_24 rfl ?_
  refine j3_get (k := 0) (v := .ref 14) x dX1_init_25 jc_5 wfX1_13 (by decide) (by decide) rfl rfl (by repeat (first | rw [fw_n (by omega)] | rw [fz_n (by omega)] | rw [fLg_n (by omega)] | rw [ju_n (by omega)] | rw [fw_s])) ?_
  refine j_iload_n x dX1_init_28 rfl ?_
  refine j3_new x dX1_init_29 jc_6 wcX1_11 wt_LeagueTables_League wi_LeagueTables_League rfl rfl (Nat.le_of_ble_eq_true rfl) (Nat.le_of_ble_eq_true rfl) ?_
  refine j_dup x dX1_init_32 rfl ?_
  refine j3_initN x dX1_init_33 m_X2_init (k_Lg (d := d) (i := 51) rfl) wnX1_17 (by decide) rfl (Nat.le_of_ble_eq_true rfl) (j_fit_rm (by omega) (Nat.le_of_ble_eq_true rfl) (Nat.le_of_ble_eq_true rfl)) rfl ?_
  refine j3_aast (j := 6) x dX1_init_36 (by decide) rfl rfl (vp_c (by decide)) (by decide) (by decide) rfl ?_
  refine j_iinc x dX1_init_37 rfl (by decide) rfl ?_
  refine j_goto (tgt := 15) x dX1_init_40 (by decide) ?_
  refine j_iload_n x dX1_init_15 rfl ?_
  refine j_aload_n x dX1_init_16 rfl ?_
  refine j3_get (k := 0) (v := .ref 14) x dX1_init_17 jc_5 wfX1_13 (by decide) (by decide) rfl rfl (by repeat (first | rw [fw_n (by omega)] | rw [fz_n (by omega)] | rw [fLg_n (by omega)] | rw [ju_n (by omega)] | rw [fw_s])) ?_
  refine j_alen (t := 103) (v := 9) x dX1_init_20 (Nat.le_of_ble_eq_true rfl) rfl (by decide) (by decide) rfl ?_
  refine j_icmp_ge (tgt := 43) x dX1_init_21 (by decide) (fun hc => absurd hc (by decide)) (fun hc => ?_)
  refine j_aload_n x dX1_init_24 rfl ?_
  refine j3_get (k := 0) (v := .ref 14) x dX1_init_25 jc_5 wfX1_13 (by decide) (by decide) rfl rfl (by repeat (first | rw [fw_n (by omega)] | rw [fz_n (by omega)] | rw [fLg_n (by omega)] | rw [ju_n (by omega)] | rw [fw_s])) ?_
  refine j_iload_n x dX1_init_28 rfl ?_
  refine j3_new x dX1_init_29 jc_6 wcX1_11 wt_LeagueTables_League wi_LeagueTables_League rfl rfl (Nat.le_of_ble_eq_true rfl) (Nat.le_of_ble_eq_true rfl) ?_
  refine j_dup x dX1_init_32 rfl ?_
  refine j3_initN x dX1_init_33 m_X2_init (k_Lg (d := d) (i := 57) rfl) wnX1_17 (by decide) rfl (Nat.le_of_ble_eq_true rfl) (j_fit_rm (by omega) (Nat.le_of_ble_eq_true rfl) (Nat.le_of_ble_eq_true rfl)) rfl ?_
  refine j3_aast (j := 7) x dX1_init_36 (by decide) rfl rfl (vp_c (by decide)) (by decide) (by decide) rfl ?_
  refine j_iinc x dX1_init_37 rfl (by decide) rfl ?_
  refine j_goto (tgt := 15) x dX1_init_40 (by decide) ?_
  refine j_iload_n x dX1_init_15 rfl ?_
  refine j_aload_n x dX1_init_16 rfl ?_
  refine j3_get (k := 0) (v := .ref 14) x dX1_init_17 jc_5 wfX1_13 (by decide) (by decide) rfl rfl (by repeat (first | rw [fw_n (by omega)] | rw [fz_n (by omega)] | rw [fLg_n (by omega)] | rw [ju_n (by omega)] | rw [fw_s])) ?_
  refine j_alen (t := 103) (v := 9) x dX1_init_20 (Nat.le_of_ble_eq_true rfl) rfl (by decide) (by decide) rfl ?_
  refine j_icmp_ge (tgt := 43) x dX1_init_21 (by decide) (fun hc => absurd hc (by decide)) (fun hc => ?_)
  refine j_aload_n x dX1_init_24 rfl ?_
  refine j3_get (k := 0) (v := .ref 14) x dX1_init_25 jc_5 wfX1_13 (by decide) (by decide) rfl rfl (by repeat (first | rw [fw_n (by omega)] | rw [fz_n (by omega)] | rw [fLg_n (by omega)] | rw [ju_n (by omega)] | rw [fw_s])) ?_
  refine j_iload_n x dX1_init_28 rfl ?_
  refine j3_new x dX1_init_29 jc_6 wcX1_11 wt_LeagueTables_League wi_LeagueTables_League rfl rfl (Nat.le_of_ble_eq_true rfl) (Nat.le_of_ble_eq_true rfl) ?_
  refine j_dup x dX1_init_32 rfl ?_
  refine j3_initN x dX1_init_33 m_X2_init (k_Lg (d := d) (i := 63) rfl) wnX1_17 (by decide) rfl (Nat.le_of_ble_eq_true rfl) (j_fit_rm (by omega) (Nat.le_of_ble_eq_true rfl) (Nat.le_of_ble_eq_true rfl)) rfl ?_
  refine j3_aast (j := 8) x dX1_init_36 (by decide) rfl rfl (vp_c (by decide)) (by decide) (by decide) rfl ?_
  refine j_iinc x dX1_init_37 rfl (by decide) rfl ?_
  refine j_goto (tgt := 15) x dX1_init_40 (by decide) ?_
  refine j_iload_n x dX1_init_15 rfl ?_
  refine j_aload_n x dX1_init_16 rfl ?_
  refine j3_get (k := 0) (v := .ref 14) x dX1_init_17 jc_5 wfX1_13 (by decide) (by decide) rfl rfl (by repeat (first | rw [fw_n (by omega)] | rw [fz_n (by omega)] | rw [fLg_n (by omega)] | rw [ju_n (by omega)] | rw [fw_s])) ?_
  refine j_alen (t := 103) (v := 9) x dX1_init_20 (Nat.le_of_ble_eq_true rfl) rfl (by decide) (by decide) rfl ?_
  refine j_icmp_ge (tgt := 43) x dX1_init_21 (by decide) (fun hc => ?_) (fun hc => absurd (by decide) hc)
  exact j_return x hr dX1_init_43 (Nat.le_of_ble_eq_true rfl) (Nat.le_of_ble_eq_true rfl) ⟨rfl, rfl⟩
def fFx (f : Nat → Nat → Value) : Nat → Nat → Value := fw (fz (fw (fz (fw (fz (fw (fz (fw (fz (f) (70) (.int 0)) (69) 2 (.ref (70))) (71) (.int 0)) (69) 3 (.ref (71))) (72) (.int 0)) (69) 4 (.ref (72))) (73) (.int 0)) (69) 5 (.ref (73))) (74) (.int 0)) (69) 6 (.ref (74))
theorem k_Fx {d : Nat} {f : Nat → Nat → Value} : CI (d) 5 190 yX0_init cX0_init 1 [.ref 69] (70) f (75) (fFx f) := by
  refine Con.of (by decide +kernel) (Nat.le_of_ble_eq_true rfl) rfl fun p l e s m args below meth c D tyc A ad0 x hr htab hname => ?_
  change JJ _ _ _ _ _ _ _ _ _ _ _ _ _ _ _ _ _ 0 [some (.ref 69)] [] (HS (70) f) 0 0
  refine j_aload_n x dX0_init_0 rfl ?_
  refine j_objInit x dX0_init_1 wmX0_3 wo_inst wo_code (Nat.le_of_ble_eq_true rfl) (by show 1 ≤ 12 + _; omega) (by show 20 ≤ 150 + 60 * _; omega) ?_
  refine j_aload_n x dX0_init_4 rfl ?_
  refine j_bipush (v := 56) x dX0_init_5 (by decide) ?_
  refine j3_newa_int (N := 56) x dX0_init_7 (by decide) (by decide) (by decide) (rfl) (rfl) (Nat.le_of_ble_eq_true rfl) (Nat.le_of_ble_eq_true rfl) ?_
  refine j3_putF (k := 2) x hname dX0_init_9 jc_4 wfX0_9 (by decide) rfl rfl rfl rfl (by omega) (rfl) (rfl) ?_
  refine j_aload_n x dX0_init_12 rfl ?_
  refine j_bipush (v := 56) x dX0_init_13 (by decide) ?_
  refine j3_newa_int (N := 56) x dX0_init_15 (by decide) (by decide) (by decide) (rfl) (rfl) (Nat.le_of_ble_eq_true rfl) (Nat.le_of_ble_eq_true rfl) ?_
  refine j3_putF (k := 3) x hname dX0_init_17 jc_4 wfX0_15 (by decide) rfl rfl rfl rfl (by omega) (rfl) (rfl) ?_
  refine j_aload_n x dX0_init_20 rfl ?_
  refine j_bipush (v := 56) x dX0_init_21 (by decide) ?_
  refine j3_newa_int (N := 56) x dX0_init_23 (by decide) (by decide) (by decide) (rfl) (rfl) (Nat.le_of_ble_eq_true rfl) (Nat.le_of_ble_eq_true rfl) ?_
  refine j3_putF (k := 4) x hname dX0_init_25 jc_4 wfX0_18 (by decide) rfl rfl rfl rfl (by omega) (rfl) (rfl) ?_
  refine j_aload_n x dX0_init_28 rfl ?_
  refine j_bipush (v := 14) x dX0_init_29 (by decide) ?_
  refine j3_newa_int (N := 14) x dX0_init_31 (by decide) (by decide) (by decide) (rfl) (rfl) (Nat.le_of_ble_eq_true rfl) (Nat.le_of_ble_eq_true rfl) ?_
  refine j3_putF (k := 5) x hname dX0_init_33 jc_4 wfX0_21 (by decide) rfl rfl rfl rfl (by omega) (rfl) (rfl) ?_
  refine j_aload_n x dX0_init_36 rfl ?_
  refine j_bipush (v := 8) x dX0_init_37 (by decide) ?_
  refine j3_newa_int (N := 8) x dX0_init_39 (by decide) (by decide) (by decide) (rfl) (rfl) (Nat.le_of_ble_eq_true rfl) (Nat.le_of_ble_eq_true rfl) ?_
  refine j3_putF (k := 6) x hname dX0_init_41 jc_4 wfX0_24 (by decide) rfl rfl rfl rfl (by omega) (rfl) (rfl) ?_
  exact j_return x hr dX0_init_44 (Nat.le_of_ble_eq_true rfl) (Nat.le_of_ble_eq_true rfl) ⟨rfl, rfl⟩
def fTl (f : Nat → Nat → Value) : Nat → Nat → Value := fw (fz (fw (fz (fw (fz (fw (fz (fw (fz (fw (fz (fw (fz (fw (fz (fw (fz (f) (76) (.int 0)) (75) 3 (.ref (76))) (77) (.int 0)) (75) 4 (.ref (77))) (78) (.int 0)) (75) 5 (.ref (78))) (79) (.int 0)) (75) 6 (.ref (79))) (80) (.int 0)) (75) 7 (.ref (80))) (81) (.int 0)) (75) 8 (.ref (81))) (82) (.int 0)) (75) 9 (.ref (82))) (83) (.int 0)) (75) 10 (.ref (83))) (84) (.int 0)) (75) 11 (.ref (84))
theorem k_Tl {d : Nat} {f : Nat → Nat → Value} : CI (d) 9 72 yX3_init cX3_init 1 [.ref 75] (76) f (85) (fTl f) := by
  refine Con.of (by decide +kernel) (Nat.le_of_ble_eq_true rfl) rfl fun p l e s m args below meth c D tyc A ad0 x hr htab hname => ?_
  change JJ _ _ _ _ _ _ _ _ _ _ _ _ _ _ _ _ _ 0 [some (.ref 75)] [] (HS (76) f) 0 0
  refine j_aload_n x dX3_init_0 rfl ?_
  refine j_objInit x dX3_init_1 wmX3_3 wo_inst wo_code (Nat.le_of_ble_eq_true rfl) (by show 1 ≤ 12 + _; omega) (by show 20 ≤ 150 + 60 * _; omega) ?_
  refine j_aload_n x dX3_init_4 rfl ?_
  refine j_bipush (v := 8) x dX3_init_5 (by decide) ?_
  refine j3_newa_int (N := 8) x dX3_init_7 (by decide) (by decide) (by decide) (rfl) (rfl) (Nat.le_of_ble_eq_true rfl) (Nat.le_of_ble_eq_true rfl) ?_
  refine j3_putF (k := 3) x hname dX3_init_9 jc_7 wfX3_9 (by decide) rfl rfl rfl rfl (by omega) (rfl) (rfl) ?_
  refine j_aload_n x dX3_init_12 rfl ?_
  refine j_bipush (v := 8) x dX3_init_13 (by decide) ?_
  refine j3_newa_int (N := 8) x dX3_init_15 (by decide) (by decide) (by decide) (rfl) (rfl) (Nat.le_of_ble_eq_true rfl) (Nat.le_of_ble_eq_true rfl) ?_
  refine j3_putF (k := 4) x hname dX3_init_17 jc_7 wfX3_15 (by decide) rfl rfl rfl rfl (by omega) (rfl) (rfl) ?_
  refine j_aload_n x dX3_init_20 rfl ?_
  refine j_bipush (v := 8) x dX3_init_21 (by decide) ?_
  refine j3_newa_int (N := 8) x dX3_init_23 (by decide) (by decide) (by decide) (rfl) (rfl) (Nat.le_of_ble_eq_true rfl) (Nat.le_of_ble_eq_true rfl) ?_
  refine j3_putF (k := 5) x hname dX3_init_25 jc_7 wfX3_18 (by decide) rfl rfl rfl rfl (by omega) (rfl) (rfl) ?_
  refine j_aload_n x dX3_init_28 rfl ?_
  refine j_bipush (v := 8) x dX3_init_29 (by decide) ?_
  refine j3_newa_int (N := 8) x dX3_init_31 (by decide) (by decide) (by decide) (rfl) (rfl) (Nat.le_of_ble_eq_true rfl) (Nat.le_of_ble_eq_true rfl) ?_
  refine j3_putF (k := 6) x hname dX3_init_33 jc_7 wfX3_21 (by decide) rfl rfl rfl rfl (by omega) (rfl) (rfl) ?_
  refine j_aload_n x dX3_init_36 rfl ?_
  refine j_bipush (v := 8) x dX3_init_37 (by decide) ?_
  refine j3_newa_int (N := 8) x dX3_init_39 (by decide) (by decide) (by decide) (rfl) (rfl) (Nat.le_of_ble_eq_true rfl) (Nat.le_of_ble_eq_true rfl) ?_
  refine j3_putF (k := 7) x hname dX3_init_41 jc_7 wfX3_24 (by decide) rfl rfl rfl rfl (by omega) (rfl) (rfl) ?_
  refine j_aload_n x dX3_init_44 rfl ?_
  refine j_bipush (v := 8) x dX3_init_45 (by decide) ?_
  refine j3_newa_int (N := 8) x dX3_init_47 (by decide) (by decide) (by decide) (rfl) (rfl) (Nat.le_of_ble_eq_true rfl) (Nat.le_of_ble_eq_true rfl) ?_
  refine j3_putF (k := 8) x hname dX3_init_49 jc_7 wfX3_27 (by decide) rfl rfl rfl rfl (by omega) (rfl) (rfl) ?_
  refine j_aload_n x dX3_init_52 rfl ?_
  refine j_bipush (v := 8) x dX3_init_53 (by decide) ?_
  refine j3_newa_int (N := 8) x dX3_init_55 (by decide) (by decide) (by decide) (rfl) (rfl) (Nat.le_of_ble_eq_true rfl) (Nat.le_of_ble_eq_true rfl) ?_
  refine j3_putF (k := 9) x hname dX3_init_57 jc_7 wfX3_30 (by decide) rfl rfl rfl rfl (by omega) (rfl) (rfl) ?_
  refine j_aload_n x dX3_init_60 rfl ?_
  refine j_bipush (v := 8) x dX3_init_61 (by decide) ?_
  refine j3_newa_int (N := 8) x dX3_init_63 (by decide) (by decide) (by decide) (rfl) (rfl) (Nat.le_of_ble_eq_true rfl) (Nat.le_of_ble_eq_true rfl) ?_
  refine j3_putF (k := 10) x hname dX3_init_65 jc_7 wfX3_33 (by decide) rfl rfl rfl rfl (by omega) (rfl) (rfl) ?_
  refine j_aload_n x dX3_init_68 rfl ?_
  refine j_bipush (v := 8) x dX3_init_69 (by decide) ?_
  refine j3_newa_int (N := 8) x dX3_init_71 (by decide) (by decide) (by decide) (rfl) (rfl) (Nat.le_of_ble_eq_true rfl) (Nat.le_of_ble_eq_true rfl) ?_
  refine j3_putF (k := 11) x hname dX3_init_73 jc_7 wfX3_36 (by decide) rfl rfl rfl rfl (by omega) (rfl) (rfl) ?_
  exact j_return x hr dX3_init_76 (Nat.le_of_ble_eq_true rfl) (Nat.le_of_ble_eq_true rfl) ⟨rfl, rfl⟩
def fTx (f : Nat → Nat → Value) : Nat → Nat → Value := fw (fz (fw (fz (fw (fz (fw (fz (fw (fz (f) (87) (.int 0)) (86) 3 (.ref (87))) (88) (.int 0)) (86) 4 (.ref (88))) (89) (.int 0)) (86) 5 (.ref (89))) (90) (.int 0)) (86) 6 (.ref (90))) (91) (.int 0)) (86) 7 (.ref (91))
theorem k_Tx {d : Nat} {f : Nat → Nat → Value} : CI (d) 5 180 yX4_init cX4_init 1 [.ref 86] (87) f (92) (fTx f) := by
  refine Con.of (by decide +kernel) (Nat.le_of_ble_eq_true rfl) rfl fun p l e s m args below meth c D tyc A ad0 x hr htab hname => ?_
  change JJ _ _ _ _ _ _ _ _ _ _ _ _ _ _ _ _ _ 0 [some (.ref 86)] [] (HS (87) f) 0 0
  refine j_aload_n x dX4_init_0 rfl ?_
  refine j_objInit x dX4_init_1 wmX4_3 wo_inst wo_code (Nat.le_of_ble_eq_true rfl) (by show 1 ≤ 12 + _; omega) (by show 20 ≤ 150 + 60 * _; omega) ?_
  refine j_aload_n x dX4_init_4 rfl ?_
  refine j_bipush (v := 60) x dX4_init_5 (by decide) ?_
  refine j3_newa_char (N := 60) x dX4_init_7 (by decide) (by decide) (by decide) (rfl) (rfl) (Nat.le_of_ble_eq_true rfl) (Nat.le_of_ble_eq_true rfl) ?_
  refine j3_putF (k := 3) x hname dX4_init_9 jc_8 wfX4_9 (by decide) rfl rfl rfl rfl (by omega) (rfl) (rfl) ?_
  refine j_aload_n x dX4_init_12 rfl ?_
  refine j_bipush (v := 30) x dX4_init_13 (by decide) ?_
  refine j3_newa_int (N := 30) x dX4_init_15 (by decide) (by decide) (by decide) (rfl) (rfl) (Nat.le_of_ble_eq_true rfl) (Nat.le_of_ble_eq_true rfl) ?_
  refine j3_putF (k := 4) x hname dX4_init_17 jc_8 wfX4_15 (by decide) rfl rfl rfl rfl (by omega) (rfl) (rfl) ?_
  refine j_aload_n x dX4_init_20 rfl ?_
  refine j_bipush (v := 30) x dX4_init_21 (by decide) ?_
  refine j3_newa_int (N := 30) x dX4_init_23 (by decide) (by decide) (by decide) (rfl) (rfl) (Nat.le_of_ble_eq_true rfl) (Nat.le_of_ble_eq_true rfl) ?_
  refine j3_putF (k := 5) x hname dX4_init_25 jc_8 wfX4_19 (by decide) rfl rfl rfl rfl (by omega) (rfl) (rfl) ?_
  refine j_aload_n x dX4_init_28 rfl ?_
  refine j_bipush (v := 30) x dX4_init_29 (by decide) ?_
  refine j3_newa_int (N := 30) x dX4_init_31 (by decide) (by decide) (by decide) (rfl) (rfl) (Nat.le_of_ble_eq_true rfl) (Nat.le_of_ble_eq_true rfl) ?_
  refine j3_putF (k := 6) x hname dX4_init_33 jc_8 wfX4_22 (by decide) rfl rfl rfl rfl (by omega) (rfl) (rfl) ?_
  refine j_aload_n x dX4_init_36 rfl ?_
  refine j_bipush (v := 30) x dX4_init_37 (by decide) ?_
  refine j3_newa_int (N := 30) x dX4_init_39 (by decide) (by decide) (by decide) (rfl) (rfl) (Nat.le_of_ble_eq_true rfl) (Nat.le_of_ble_eq_true rfl) ?_
  refine j3_putF (k := 7) x hname dX4_init_41 jc_8 wfX4_25 (by decide) rfl rfl rfl rfl (by omega) (rfl) (rfl) ?_
  exact j_return x hr dX4_init_44 (Nat.le_of_ble_eq_true rfl) (Nat.le_of_ble_eq_true rfl) ⟨rfl, rfl⟩
def fSb (f : Nat → Nat → Value) : Nat → Nat → Value := fw (fw (fz (f) (93) (.int 0)) (92) 0 (.ref (93))) (92) 1 (.int (0))
theorem k_Asb {d : Nat} {f : Nat → Nat → Value} : CI (d) 1 16 yJ5_init_d00df cJ5_init_d00df 2 [.ref 92, .int 16] (93) f (94) (fSb f) := by
  refine Con.of (by decide +kernel) (Nat.le_of_ble_eq_true rfl) rfl fun p l e s m args below meth c D tyc A ad0 x hr htab hname => ?_
  change JJ _ _ _ _ _ _ _ _ _ _ _ _ _ _ _ _ _ 0 [some (.ref 92), some (.int 16)] [] (HS (93) f) 0 0
  refine j_aload_n x dJ5_init_d00df_0 rfl ?_
  refine j_objInit x dJ5_init_d00df_1 wmJ5_3 wo_inst wo_code (Nat.le_of_ble_eq_true rfl) (by show 1 ≤ 12 + _; omega) (by show 20 ≤ 150 + 60 * _; omega) ?_
  refine j_gets x dJ5_init_d00df_4 x.2.2.2.2.2.2.2.2.2.2.2.2.2.2.1 wfJ5_18 ?_
  refine j_if_eq (tgt := 25) x dJ5_init_d00df_7 (by decide) (fun hc => absurd hc (by decide)) (fun hc => ?_)
  refine j_aload_n x dJ5_init_d00df_10 rfl ?_
  refine j_iload_n x dJ5_init_d00df_11 rfl ?_
  refine j3_newa_byte (N := 16) x dJ5_init_d00df_12 (by decide) (by decide) (by decide) (rfl) (rfl) (Nat.le_of_ble_eq_true rfl) (Nat.le_of_ble_eq_true rfl) ?_
  refine j3_put (k := 0) x dJ5_init_d00df_14 jc_1 wfJ5_15 (by decide) rfl rfl rfl (by omega) (rfl) (rfl) ?_
  refine j_aload_n x dJ5_init_d00df_17 rfl ?_
  refine j_iconst (v := 0) x dJ5_init_d00df_18 (by decide) ?_
  refine j3_put (k := 1) x dJ5_init_d00df_19 jc_1 wfJ5_22 (by decide) rfl rfl rfl (by omega) (rfl) (rfl) ?_
  refine j_goto (tgt := 38) x dJ5_init_d00df_22 (by decide) ?_
  exact j_return x hr dJ5_init_d00df_38 (Nat.le_of_ble_eq_true rfl) (Nat.le_of_ble_eq_true rfl) ⟨rfl, rfl⟩
def fSb1 (f : Nat → Nat → Value) : Nat → Nat → Value := fSb (f)
theorem k_Sb {d : Nat} {f : Nat → Nat → Value} : CI (d + 1) 1 16 yJ4_init_da8c8 cJ4_init_da8c8 1 [.ref 92] (93) f (94) (fSb1 f) := by
  refine Con.of (by decide +kernel) (Nat.le_of_ble_eq_true rfl) rfl fun p l e s m args below meth c D tyc A ad0 x hr htab hname => ?_
  change JJ _ _ _ _ _ _ _ _ _ _ _ _ _ _ _ _ _ 0 [some (.ref 92)] [] (HS (93) f) 0 0
  refine j_aload_n x dJ4_init_da8c8_0 rfl ?_
  refine j_bipush (v := 16) x dJ4_init_da8c8_1 (by decide) ?_
  refine j3_init x dJ4_init_da8c8_3 m_J5_init_d00df (k_Asb (d := d)) wmJ4_1 (by decide) rfl (Nat.le_of_ble_eq_true rfl) (j_fit_rm (by omega) (Nat.le_of_ble_eq_true rfl) (Nat.le_of_ble_eq_true rfl)) rfl ?_
  exact j_return x hr dJ4_init_da8c8_6 (Nat.le_of_ble_eq_true rfl) (Nat.le_of_ble_eq_true rfl) ⟨rfl, rfl⟩
def fLT (f : Nat → Nat → Value) : Nat → Nat → Value := fw (fSb1 (ju (fw (fw (fTx (ju (fw (fz (fw (fTl (ju (fw (fFx (ju (fw (fHi (ju (fw (fLg (ju (fw (fLg (ju (f) (1) (fun k => defaultValue (tyX2 k))) (1)) (0) 0 (.ref (1))) (7) (fun k => defaultValue (tyX2 k))) (7)) (0) 1 (.ref (7))) (13) (fun k => defaultValue (tyX1 k)))) (0) 3 (.ref (13))) (69) (fun k => defaultValue (tyX0 k)))) (0) 4 (.ref (69))) (75) (fun k => defaultValue (tyX3 k)))) (0) 5 (.ref (75))) (85) (.int 0)) (0) 6 (.ref (85))) (86) (fun k => defaultValue (tyX4 k)))) (0) 7 (.ref (86))) (0) 8 (.int (-1))) (92) (fun k => defaultValue (tyJ4 k)))) (0) 13 (.ref (92))
theorem k_LT {d : Nat} {f : Nat → Nat → Value} : CI (d + 2) 93 2599 yX5_init cX5_init 1 [.ref 0] (1) f (94) (fLT f) := by
  refine Con.of (by decide +kernel) (Nat.le_of_ble_eq_true rfl) rfl fun p l e s m args below meth c D tyc A ad0 x hr htab hname => ?_
  change JJ _ _ _ _ _ _ _ _ _ _ _ _ _ _ _ _ _ 0 [some (.ref 0)] [] (HS (1) f) 0 0
  refine j_aload_n x dX5_init_0 rfl ?_
  refine j_objInit x dX5_init_1 wmX5_1 wo_inst wo_code (Nat.le_of_ble_eq_true rfl) (by show 1 ≤ 12 + _; omega) (by show 20 ≤ 150 + 60 * _; omega) ?_
  refine j_aload_n x dX5_init_4 rfl ?_
  refine j3_new x dX5_init_5 jc_6 wcX5_7 wt_LeagueTables_League wi_LeagueTables_League rfl rfl (Nat.le_of_ble_eq_true rfl) (Nat.le_of_ble_eq_true rfl) ?_
  refine j_dup x dX5_init_8 rfl ?_
  refine j3_initN x dX5_init_9 m_X2_init (k_Lg (d := d) (i := 1) rfl) wnX5_9 (by decide) rfl (Nat.le_of_ble_eq_true rfl) (j_fit_rm (by omega) (Nat.le_of_ble_eq_true rfl) (Nat.le_of_ble_eq_true rfl)) rfl ?_
  refine j3_putF (k := 0) x hname dX5_init_12 jc_9 wfX5_10 (by decide) rfl rfl rfl rfl (by omega) (rfl) (rfl) ?_
  refine j_aload_n x dX5_init_15 rfl ?_
  refine j3_new x dX5_init_16 jc_6 wcX5_7 wt_LeagueTables_League wi_LeagueTables_League rfl rfl (Nat.le_of_ble_eq_true rfl) (Nat.le_of_ble_eq_true rfl) ?_
  refine j_dup x dX5_init_19 rfl ?_
  refine j3_initN x dX5_init_20 m_X2_init (k_Lg (d := d) (i := 7) rfl) wnX5_9 (by decide) rfl (Nat.le_of_ble_eq_true rfl) (j_fit_rm (by omega) (Nat.le_of_ble_eq_true rfl) (Nat.le_of_ble_eq_true rfl)) rfl ?_
  refine j3_putF (k := 1) x hname dX5_init_23 jc_9 wfX5_16 (by decide) rfl rfl rfl rfl (by omega) (rfl) (rfl) ?_
  refine j_aload_n x dX5_init_26 rfl ?_
  refine j3_new x dX5_init_27 jc_5 wcX5_19 wt_LeagueTables_History wi_LeagueTables_History rfl rfl (Nat.le_of_ble_eq_true rfl) (Nat.le_of_ble_eq_true rfl) ?_
  refine j_dup x dX5_init_30 rfl ?_
  refine j3_init x dX5_init_31 m_X1_init (k_Hi (d := d)) wmX5_21 (by decide) rfl (Nat.le_of_ble_eq_true rfl) (j_fit_rm (by omega) (Nat.le_of_ble_eq_true rfl) (Nat.le_of_ble_eq_true rfl)) rfl ?_
  refine j3_putF (k := 3) x hname dX5_init_34 jc_9 wfX5_22 (by decide) rfl rfl rfl rfl (by omega) (rfl) (rfl) ?_
  refine j_aload_n x dX5_init_37 rfl ?_
  refine j3_new x dX5_init_38 jc_4 wcX5_26 wt_LeagueTables_Fixtures wi_LeagueTables_Fixtures rfl rfl (Nat.le_of_ble_eq_true rfl) (Nat.le_of_ble_eq_true rfl) ?_
  refine j_dup x dX5_init_41 rfl ?_
  refine j3_initN x dX5_init_42 m_X0_init (k_Fx (d := d)) wnX5_28 (by decide) rfl (Nat.le_of_ble_eq_true rfl) (j_fit_rm (by omega) (Nat.le_of_ble_eq_true rfl) (Nat.le_of_ble_eq_true rfl)) rfl ?_
  refine j3_putF (k := 4) x hname dX5_init_45 jc_9 wfX5_29 (by decide) rfl rfl rfl rfl (by omega) (rfl) (rfl) ?_
  refine j_aload_n x dX5_init_48 rfl ?_
  refine j3_new x dX5_init_49 jc_7 wcX5_33 wt_LeagueTables_Tally wi_LeagueTables_Tally rfl rfl (Nat.le_of_ble_eq_true rfl) (Nat.le_of_ble_eq_true rfl) ?_
  refine j_dup x dX5_init_52 rfl ?_
  refine j3_initN x dX5_init_53 m_X3_init (k_Tl (d := d)) wnX5_35 (by decide) rfl (Nat.le_of_ble_eq_true rfl) (j_fit_rm (by omega) (Nat.le_of_ble_eq_true rfl) (Nat.le_of_ble_eq_true rfl)) rfl ?_
  refine j3_putF (k := 5) x hname dX5_init_56 jc_9 wfX5_36 (by decide) rfl rfl rfl rfl (by omega) (rfl) (rfl) ?_
  refine j_aload_n x dX5_init_59 rfl ?_
  refine j_bipush (v := 8) x dX5_init_60 (by decide) ?_
  refine j3_newa_int (N := 8) x dX5_init_62 (by decide) (by decide) (by decide) (rfl) (rfl) (Nat.le_of_ble_eq_true rfl) (Nat.le_of_ble_eq_true rfl) ?_
  refine j3_putF (k := 6) x hname dX5_init_64 jc_9 wfX5_40 (by decide) rfl rfl rfl rfl (by omega) (rfl) (rfl) ?_
  refine j_aload_n x dX5_init_67 rfl ?_
  refine j3_new x dX5_init_68 jc_8 wcX5_44 wt_LeagueTables_Text wi_LeagueTables_Text rfl rfl (Nat.le_of_ble_eq_true rfl) (Nat.le_of_ble_eq_true rfl) ?_
  refine j_dup x dX5_init_71 rfl ?_
  refine j3_initN x dX5_init_72 m_X4_init (k_Tx (d := d)) wnX5_46 (by decide) rfl (Nat.le_of_ble_eq_true rfl) (j_fit_rm (by omega) (Nat.le_of_ble_eq_true rfl) (Nat.le_of_ble_eq_true rfl)) rfl ?_
  refine j3_putF (k := 7) x hname dX5_init_75 jc_9 wfX5_47 (by decide) rfl rfl rfl rfl (by omega) (rfl) (rfl) ?_
  refine j_aload_n x dX5_init_78 rfl ?_
  refine j_iconst (v := (-1)) x dX5_init_79 (by decide) ?_
  refine j3_put (k := 8) x dX5_init_80 jc_9 wfX5_51 (by decide) rfl rfl rfl (by omega) (rfl) (rfl) ?_
  refine j_aload_n x dX5_init_83 rfl ?_
  refine j3_new x dX5_init_84 jc_1 wcX5_55 wt_java_lang_StringBuilder wi_java_lang_StringBuilder rfl rfl (Nat.le_of_ble_eq_true rfl) (Nat.le_of_ble_eq_true rfl) ?_
  refine j_dup x dX5_init_87 rfl ?_
  refine j3_init x dX5_init_88 m_J4_init_da8c8 (k_Sb (d := d)) wmX5_57 (by decide) rfl (Nat.le_of_ble_eq_true rfl) (j_fit_rm (by omega) (Nat.le_of_ble_eq_true rfl) (Nat.le_of_ble_eq_true rfl)) rfl ?_
  refine j3_putF (k := 13) x hname dX5_init_91 jc_9 wfX5_58 (by decide) rfl rfl rfl rfl (by omega) (rfl) (rfl) ?_
  exact j_return x hr dX5_init_94 (Nat.le_of_ble_eq_true rfl) (Nat.le_of_ble_eq_true rfl) ⟨rfl, rfl⟩
def fMo (f : Nat → Nat → Value) : Nat → Nat → Value := fw (fw (fw (fw (fw (fw (fz (fw (fz (fw (fz (fw (fz (fw (fz (fw (fz (fw (fz (f) (95) (.int 0)) (94) 0 (.ref (95))) (96) (.int 0)) (94) 1 (.ref (96))) (97) (.int 0)) (94) 2 (.ref (97))) (98) (.int 0)) (94) 4 (.ref (98))) (99) (.int 0)) (94) 6 (.ref (99))) (100) (.int 0)) (94) 8 (.ref (100))) (101) (.int 0)) (94) 12 (.ref (101))) (94) 13 (.int (-1))) (95) 3 (.int (3))) (95) 4 (.int (1))) (95) 5 (.int (2))) (95) 7 (.int (1))
theorem k_Mo {d : Nat} {f : Nat → Nat → Value} : CI (d) 7 5229 yX6_init cX6_init 1 [.ref 94] (95) f (102) (fMo f) := by
  refine Con.of (by decide +kernel) (Nat.le_of_ble_eq_true rfl) rfl fun p l e s m args below meth c D tyc A ad0 x hr htab hname => ?_
  change JJ _ _ _ _ _ _ _ _ _ _ _ _ _ _ _ _ _ 0 [some (.ref 94)] [] (HS (95) f) 0 0
  refine j_aload_n x dX6_init_0 rfl ?_
  refine j_objInit x dX6_init_1 wmX6_3 wo_inst wo_code (Nat.le_of_ble_eq_true rfl) (by show 1 ≤ 12 + _; omega) (by show 20 ≤ 150 + 60 * _; omega) ?_
  refine j_aload_n x dX6_init_4 rfl ?_
  refine j_sipush (v := 466) x dX6_init_5 (by decide) ?_
  refine j3_newa_int (N := 466) x dX6_init_8 (by decide) (by decide) (by decide) (rfl) (rfl) (Nat.le_of_ble_eq_true rfl) (Nat.le_of_ble_eq_true rfl) ?_
  refine j3_putF (k := 0) x hname dX6_init_10 jc_10 wfX6_9 (by decide) rfl rfl rfl rfl (by omega) (rfl) (rfl) ?_
  refine j_aload_n x dX6_init_13 rfl ?_
  refine j_sipush (v := 466) x dX6_init_14 (by decide) ?_
  refine j3_newa_int (N := 466) x dX6_init_17 (by decide) (by decide) (by decide) (rfl) (rfl) (Nat.le_of_ble_eq_true rfl) (Nat.le_of_ble_eq_true rfl) ?_
  refine j3_putF (k := 1) x hname dX6_init_19 jc_10 wfX6_13 (by decide) rfl rfl rfl rfl (by omega) (rfl) (rfl) ?_
  refine j_aload_n x dX6_init_22 rfl ?_
  refine j_sipush (v := 3728) x dX6_init_23 (by decide) ?_
  refine j3_newa_int (N := 3728) x dX6_init_26 (by decide) (by decide) (by decide) (rfl) (rfl) (Nat.le_of_ble_eq_true rfl) (Nat.le_of_ble_eq_true rfl) ?_
  refine j3_putF (k := 2) x hname dX6_init_28 jc_10 wfX6_16 (by decide) rfl rfl rfl rfl (by omega) (rfl) (rfl) ?_
  refine j_aload_n x dX6_init_31 rfl ?_
  refine j_sipush (v := 466) x dX6_init_32 (by decide) ?_
  refine j3_newa_int (N := 466) x dX6_init_35 (by decide) (by decide) (by decide) (rfl) (rfl) (Nat.le_of_ble_eq_true rfl) (Nat.le_of_ble_eq_true rfl) ?_
  refine j3_putF (k := 4) x hname dX6_init_37 jc_10 wfX6_19 (by decide) rfl rfl rfl rfl (by omega) (rfl) (rfl) ?_
  refine j_aload_n x dX6_init_40 rfl ?_
  refine j_bipush (v := 40) x dX6_init_41 (by decide) ?_
  refine j3_newa_int (N := 40) x dX6_init_43 (by decide) (by decide) (by decide) (rfl) (rfl) (Nat.le_of_ble_eq_true rfl) (Nat.le_of_ble_eq_true rfl) ?_
  refine j3_putF (k := 6) x hname dX6_init_45 jc_10 wfX6_22 (by decide) rfl rfl rfl rfl (by omega) (rfl) (rfl) ?_
  refine j_aload_n x dX6_init_48 rfl ?_
  refine j_bipush (v := 60) x dX6_init_49 (by decide) ?_
  refine j3_newa_char (N := 60) x dX6_init_51 (by decide) (by decide) (by decide) (rfl) (rfl) (Nat.le_of_ble_eq_true rfl) (Nat.le_of_ble_eq_true rfl) ?_
  refine j3_putF (k := 8) x hname dX6_init_53 jc_10 wfX6_25 (by decide) rfl rfl rfl rfl (by omega) (rfl) (rfl) ?_
  refine j_aload_n x dX6_init_56 rfl ?_
  refine j_iconst (v := 3) x dX6_init_57 (by decide) ?_
  refine j3_newa_int (N := 3) x dX6_init_58 (by decide) (by decide) (by decide) (rfl) (rfl) (Nat.le_of_ble_eq_true rfl) (Nat.le_of_ble_eq_true rfl) ?_
  refine j3_putF (k := 12) x hname dX6_init_60 jc_10 wfX6_29 (by decide) rfl rfl rfl rfl (by omega) (rfl) (rfl) ?_
  refine j_aload_n x dX6_init_63 rfl ?_
  refine j_iconst (v := (-1)) x dX6_init_64 (by decide) ?_
  refine j3_put (k := 13) x dX6_init_65 jc_10 wfX6_32 (by decide) rfl rfl rfl (by omega) (rfl) (rfl) ?_
  refine j_aload_n x dX6_init_68 rfl ?_
  refine j3_get (k := 0) (v := .ref 95) x dX6_init_69 jc_10 wfX6_9 (by decide) (by decide) rfl rfl (by repeat (first | rw [fw_n (by omega)] | rw [fz_n (by omega)] | rw [fLg_n (by omega)] | rw [ju_n (by omega)] | rw [fw_s])) ?_
  refine j_iconst (v := 3) x dX6_init_72 (by decide) ?_
  refine j_iconst (v := 3) x dX6_init_73 (by decide) ?_
  refine j3_iast (j := 3) x dX6_init_74 (by omega) (rfl) (rfl) (vp_c (by decide)) (by decide) ?_
  refine j_aload_n x dX6_init_75 rfl ?_
  refine j3_get (k := 0) (v := .ref 95) x dX6_init_76 jc_10 wfX6_9 (by decide) (by decide) rfl rfl (by repeat (first | rw [fw_n (by omega)] | rw [fz_n (by omega)] | rw [fLg_n (by omega)] | rw [ju_n (by omega)] | rw [fw_s])) ?_
  refine j_iconst (v := 4) x dX6_init_79 (by decide) ?_
  refine j_iconst (v := 1) x dX6_init_80 (by decide) ?_
  refine j3_iast (j := 4) x dX6_init_81 (by omega) (rfl) (rfl) (vp_c (by decide)) (by decide) ?_
  refine j_aload_n x dX6_init_82 rfl ?_
  refine j3_get (k := 0) (v := .ref 95) x dX6_init_83 jc_10 wfX6_9 (by decide) (by decide) rfl rfl (by repeat (first | rw [fw_n (by omega)] | rw [fz_n (by omega)] | rw [fLg_n (by omega)] | rw [ju_n (by omega)] | rw [fw_s])) ?_
  refine j_iconst (v := 5) x dX6_init_86 (by decide) ?_
  refine j_iconst (v := 2) x dX6_init_87 (by decide) ?_
  refine j3_iast (j := 5) x dX6_init_88 (by omega) (rfl) (rfl) (vp_c (by decide)) (by decide) ?_
  refine j_aload_n x dX6_init_89 rfl ?_
  refine j3_get (k := 0) (v := .ref 95) x dX6_init_90 jc_10 wfX6_9 (by decide) (by decide) rfl rfl (by repeat (first | rw [fw_n (by omega)] | rw [fz_n (by omega)] | rw [fLg_n (by omega)] | rw [ju_n (by omega)] | rw [fw_s])) ?_
  refine j_bipush (v := 7) x dX6_init_93 (by decide) ?_
  refine j_iconst (v := 1) x dX6_init_95 (by decide) ?_
  refine j3_iast (j := 7) x dX6_init_96 (by omega) (rfl) (rfl) (vp_c (by decide)) (by decide) ?_
  exact j_return x hr dX6_init_97 (Nat.le_of_ble_eq_true rfl) (Nat.le_of_ble_eq_true rfl) ⟨rfl, rfl⟩
end
