/-! ===== more questions ===== -/
theorem c_meetingOf_nt {d : Nat} {b : SBt} {Y : OUt} {M : MM} (hb : 94 ≤ b.2.1) {t u : Int32} (hT : ¬ (¬ t < 0 ∧ ¬ jmc M ≤ t)) : CM (d + 2) 1 6 yX5_meetingOf cX5_meetingOf 3 (some .int) [.ref 0, .int t, .int u] b Y M (.inr "java/lang/IndexOutOfBoundsException") (M) := by
  refine Con.of (by decide +kernel) (Nat.le_of_ble_eq_true rfl) rfl fun p l e s m args below meth c D tyc A ad0 x hr htab hname => ?_
  change JJ _ _ _ _ _ _ _ _ _ _ _ _ _ _ _ _ _ 0 [some (.ref 0), some (.int t), some (.int u)] [] _ 0 0
  refine j_aload_n x dX5_meetingOf_0 rfl ?_
  refine j_iload_n x dX5_meetingOf_1 rfl ?_
  refine j2_callVi x hb dX5_meetingOf_2 m_X5_isMeeting (CM_v (c_isMeeting (d := d) hb) (jb_f hT)) wmX5_214 jc_9 rfl rfl rfl (Nat.le_of_ble_eq_true rfl) (j_fit_rm (by omega) (by omega) (by omega)) rfl ?_
  refine j_if_ne (tgt := 18) x dX5_meetingOf_5 (by decide) (fun hc => absurd hc (fun q => q rfl)) (fun hc => ?_)
  exact j_throwS x exX5_177 wsX5_217 dX5_meetingOf_8 dX5_meetingOf_11 dX5_meetingOf_12 dX5_meetingOf_14 dX5_meetingOf_17 htab (by omega) (by omega) ⟨rfl, rfl⟩
theorem c_freeWeek_nt {d : Nat} {b : SBt} {Y : OUt} {M : MM} (hb : 94 ≤ b.2.1) {t : Int32} (hT : ¬ (¬ t < 0 ∧ ¬ jmc M ≤ t)) : CM (d + 2) 1 6 yX5_freeWeek cX5_freeWeek 3 (some .int) [.ref 0, .int t] b Y M (.inr "java/lang/IndexOutOfBoundsException") (M) := by
  refine Con.of (by decide +kernel) (Nat.le_of_ble_eq_true rfl) rfl fun p l e s m args below meth c D tyc A ad0 x hr htab hname => ?_
  change JJ _ _ _ _ _ _ _ _ _ _ _ _ _ _ _ _ _ 0 [some (.ref 0), some (.int t), none] [] _ 0 0
  refine j_aload_n x dX5_freeWeek_0 rfl ?_
  refine j_iload_n x dX5_freeWeek_1 rfl ?_
  refine j2_callVi x hb dX5_freeWeek_2 m_X5_isMeeting (CM_v (c_isMeeting (d := d) hb) (jb_f hT)) wmX5_214 jc_9 rfl rfl rfl (Nat.le_of_ble_eq_true rfl) (j_fit_rm (by omega) (by omega) (by omega)) rfl ?_
  refine j_if_ne (tgt := 18) x dX5_freeWeek_5 (by decide) (fun hc => absurd hc (fun q => q rfl)) (fun hc => ?_)
  exact j_throwS x exX5_177 wsX5_217 dX5_freeWeek_8 dX5_freeWeek_11 dX5_freeWeek_12 dX5_freeWeek_14 dX5_freeWeek_17 htab (by omega) (by omega) ⟨rfl, rfl⟩
theorem c_byeIn_nt {d : Nat} {b : SBt} {Y : OUt} {M : MM} (hb : 94 ≤ b.2.1) {t : Int32} (hT : ¬ (¬ t < 0 ∧ ¬ jwc M ≤ t)) : CM (d + 2) 1 6 yX5_byeIn cX5_byeIn 3 (some .int) [.ref 0, .int t] b Y M (.inr "java/lang/IndexOutOfBoundsException") (M) := by
  refine Con.of (by decide +kernel) (Nat.le_of_ble_eq_true rfl) rfl fun p l e s m args below meth c D tyc A ad0 x hr htab hname => ?_
  change JJ _ _ _ _ _ _ _ _ _ _ _ _ _ _ _ _ _ 0 [some (.ref 0), some (.int t), none] [] _ 0 0
  refine j_aload_n x dX5_byeIn_0 rfl ?_
  refine j_iload_n x dX5_byeIn_1 rfl ?_
  refine j2_callVi x hb dX5_byeIn_2 m_X5_isWeek (CM_v (c_isWeek (d := d) hb) (jb_f hT)) wmX5_248 jc_9 rfl rfl rfl (Nat.le_of_ble_eq_true rfl) (j_fit_rm (by omega) (by omega) (by omega)) rfl ?_
  refine j_if_ne (tgt := 18) x dX5_byeIn_5 (by decide) (fun hc => absurd hc (fun q => q rfl)) (fun hc => ?_)
  exact j_throwS x exX5_177 wsX5_251 dX5_byeIn_8 dX5_byeIn_11 dX5_byeIn_12 dX5_byeIn_14 dX5_byeIn_17 htab (by omega) (by omega) ⟨rfl, rfl⟩
theorem c_meetingsIn_nt {d : Nat} {b : SBt} {Y : OUt} {M : MM} (hb : 94 ≤ b.2.1) {t : Int32} (hT : ¬ (¬ t < 0 ∧ ¬ jwc M ≤ t)) : CM (d + 2) 1 6 yX5_meetingsIn cX5_meetingsIn 4 (some .int) [.ref 0, .int t] b Y M (.inr "java/lang/IndexOutOfBoundsException") (M) := by
  refine Con.of (by decide +kernel) (Nat.le_of_ble_eq_true rfl) rfl fun p l e s m args below meth c D tyc A ad0 x hr htab hname => ?_
  change JJ _ _ _ _ _ _ _ _ _ _ _ _ _ _ _ _ _ 0 [some (.ref 0), some (.int t), none, none] [] _ 0 0
  refine j_aload_n x dX5_meetingsIn_0 rfl ?_
  refine j_iload_n x dX5_meetingsIn_1 rfl ?_
  refine j2_callVi x hb dX5_meetingsIn_2 m_X5_isWeek (CM_v (c_isWeek (d := d) hb) (jb_f hT)) wmX5_248 jc_9 rfl rfl rfl (Nat.le_of_ble_eq_true rfl) (j_fit_rm (by omega) (by omega) (by omega)) rfl ?_
  refine j_if_ne (tgt := 18) x dX5_meetingsIn_5 (by decide) (fun hc => absurd hc (fun q => q rfl)) (fun hc => ?_)
  exact j_throwS x exX5_177 wsX5_251 dX5_meetingsIn_8 dX5_meetingsIn_11 dX5_meetingsIn_12 dX5_meetingsIn_14 dX5_meetingsIn_17 htab (by omega) (by omega) ⟨rfl, rfl⟩
theorem c_clashes_nt {d : Nat} {b : SBt} {Y : OUt} {M : MM} (hb : 94 ≤ b.2.1) {t : Int32} (hT : ¬ (¬ t < 0 ∧ ¬ jwc M ≤ t)) : CM (d + 2) 1 6 yX5_clashes cX5_clashes 2 (some .int) [.ref 0, .int t] b Y M (.inr "java/lang/IndexOutOfBoundsException") (M) := by
  refine Con.of (by decide +kernel) (Nat.le_of_ble_eq_true rfl) rfl fun p l e s m args below meth c D tyc A ad0 x hr htab hname => ?_
  change JJ _ _ _ _ _ _ _ _ _ _ _ _ _ _ _ _ _ 0 [some (.ref 0), some (.int t)] [] _ 0 0
  refine j_aload_n x dX5_clashes_0 rfl ?_
  refine j_iload_n x dX5_clashes_1 rfl ?_
  refine j2_callVi x hb dX5_clashes_2 m_X5_isWeek (CM_v (c_isWeek (d := d) hb) (jb_f hT)) wmX5_248 jc_9 rfl rfl rfl (Nat.le_of_ble_eq_true rfl) (j_fit_rm (by omega) (by omega) (by omega)) rfl ?_
  refine j_if_ne (tgt := 18) x dX5_clashes_5 (by decide) (fun hc => absurd hc (fun q => q rfl)) (fun hc => ?_)
  exact j_throwS x exX5_177 wsX5_251 dX5_clashes_8 dX5_clashes_11 dX5_clashes_12 dX5_clashes_14 dX5_clashes_17 htab (by omega) (by omega) ⟨rfl, rfl⟩
theorem c_meetingOf_bad {d : Nat} {b : SBt} {Y : OUt} {M : MM} (hb : 94 ≤ b.2.1) {t u : Int32} (hT : ¬ t < 0 ∧ ¬ jmc M ≤ t) (hx : u < 0 ∨ ¬ u ≤ 6) : CM (d + 2) 1 6 yX5_meetingOf cX5_meetingOf 3 (some .int) [.ref 0, .int t, .int u] b Y M (.inr "java/lang/IllegalArgumentException") (M) := by
  refine Con.of (by decide +kernel) (Nat.le_of_ble_eq_true rfl) rfl fun p l e s m args below meth c D tyc A ad0 x hr htab hname => ?_
  change JJ _ _ _ _ _ _ _ _ _ _ _ _ _ _ _ _ _ 0 [some (.ref 0), some (.int t), some (.int u)] [] _ 0 0
  refine j_aload_n x dX5_meetingOf_0 rfl ?_
  refine j_iload_n x dX5_meetingOf_1 rfl ?_
  refine j2_callVi x hb dX5_meetingOf_2 m_X5_isMeeting (CM_v (c_isMeeting (d := d) hb) (jb_t hT)) wmX5_214 jc_9 rfl rfl rfl (Nat.le_of_ble_eq_true rfl) (j_fit_rm (by omega) (by omega) (by omega)) rfl ?_
  refine j_if_ne (tgt := 18) x dX5_meetingOf_5 (by decide) (fun hc => ?_) (fun hc => absurd hc (by decide))
  refine j_iload_n x dX5_meetingOf_18 rfl ?_
  refine j_if_lt (tgt := 28) x dX5_meetingOf_19 (by decide) (fun h1 => ?_) (fun h1 => ?_)
  · exact j_throwS x exX5_182 wsX5_219 dX5_meetingOf_28 dX5_meetingOf_31 dX5_meetingOf_32 dX5_meetingOf_34 dX5_meetingOf_37 htab (by omega) (by omega) ⟨rfl, rfl⟩
  · refine j_iload_n x dX5_meetingOf_22 rfl ?_
    refine j_bipush (v := 6) x dX5_meetingOf_23 (by decide) ?_
    refine j_icmp_le (tgt := 38) x dX5_meetingOf_25 (by decide) (fun hc => absurd hc (hx.resolve_left h1)) (fun hc => ?_)
    exact j_throwS x exX5_182 wsX5_219 dX5_meetingOf_28 dX5_meetingOf_31 dX5_meetingOf_32 dX5_meetingOf_34 dX5_meetingOf_37 htab (by omega) (by omega) ⟨rfl, rfl⟩
theorem c_meetingOf_k0 {d : Nat} {b : SBt} {Y : OUt} {M : MM} (hb : 94 ≤ b.2.1) {t : Int32} (hT : ¬ t < 0 ∧ ¬ jmc M ≤ t) : CM (d + 3) 1 6 yX5_meetingOf cX5_meetingOf 3 (some .int) [.ref 0, .int t, .int 0] b Y M (.inl (some (.int (jat 56 (M 4) t)))) (M) := by
  refine Con.of (by decide +kernel) (Nat.le_of_ble_eq_true rfl) rfl fun p l e s m args below meth c D tyc A ad0 x hr htab hname => ?_
  change JJ _ _ _ _ _ _ _ _ _ _ _ _ _ _ _ _ _ 0 [some (.ref 0), some (.int t), some (.int 0)] [] _ 0 0
  refine j_aload_n x dX5_meetingOf_0 rfl ?_
  refine j_iload_n x dX5_meetingOf_1 rfl ?_
  refine j2_callVi x hb dX5_meetingOf_2 m_X5_isMeeting (CM_v (c_isMeeting (d := d) hb) (jb_t hT)) wmX5_214 jc_9 rfl rfl rfl (Nat.le_of_ble_eq_true rfl) (j_fit_rm (by omega) (by omega) (by omega)) rfl ?_
  refine j_if_ne (tgt := 18) x dX5_meetingOf_5 (by decide) (fun hc => ?_) (fun hc => absurd hc (by decide))
  refine j_iload_n x dX5_meetingOf_18 rfl ?_
  refine j_if_lt (tgt := 28) x dX5_meetingOf_19 (by decide) (fun hc => absurd hc (by decide)) (fun hc => ?_)
  refine j_iload_n x dX5_meetingOf_22 rfl ?_
  refine j_bipush (v := 6) x dX5_meetingOf_23 (by decide) ?_
  refine j_icmp_le (tgt := 38) x dX5_meetingOf_25 (by decide) (fun hc => ?_) (fun hc => absurd (by decide) hc)
  refine j_iload_n x dX5_meetingOf_38 rfl ?_
  refine j_tableIn (tgt := 76) x dX5_meetingOf_39 (by decide) (by decide) rfl (by decide) ?_
  refine j_aload_n x dX5_meetingOf_76 rfl ?_
  refine j2_getr (k := 0) (r := 1) x hb dX5_meetingOf_77 jc_9 wfX5_10 (by decide) rfl ?_
  refine j2_getr (k := 8) (r := 4) x hb dX5_meetingOf_80 jc_6 wfX5_163 (by decide) rfl ?_
  refine j_iload_n x dX5_meetingOf_83 rfl ?_
  refine j2_callSi x hb dX5_meetingOf_84 m_X5_at (c_at (d := d) hb fa_4 (by decide)) wmX5_93 rfl (Nat.le_of_ble_eq_true rfl) (j_fit_rm (by omega) (by omega) (by omega)) rfl ?_
  exact j_ireturn x hr dX5_meetingOf_87 (by omega) (by omega) ⟨rfl, rfl⟩
theorem c_meetingOf_k1 {d : Nat} {b : SBt} {Y : OUt} {M : MM} (hb : 94 ≤ b.2.1) {t : Int32} (hT : ¬ t < 0 ∧ ¬ jmc M ≤ t) : CM (d + 3) 1 6 yX5_meetingOf cX5_meetingOf 3 (some .int) [.ref 0, .int t, .int 1] b Y M (.inl (some (.int (jat 56 (M 70) t)))) (M) := by
  refine Con.of (by decide +kernel) (Nat.le_of_ble_eq_true rfl) rfl fun p l e s m args below meth c D tyc A ad0 x hr htab hname => ?_
  change JJ _ _ _ _ _ _ _ _ _ _ _ _ _ _ _ _ _ 0 [some (.ref 0), some (.int t), some (.int 1)] [] _ 0 0
  refine j_aload_n x dX5_meetingOf_0 rfl ?_
  refine j_iload_n x dX5_meetingOf_1 rfl ?_
  refine j2_callVi x hb dX5_meetingOf_2 m_X5_isMeeting (CM_v (c_isMeeting (d := d) hb) (jb_t hT)) wmX5_214 jc_9 rfl rfl rfl (Nat.le_of_ble_eq_true rfl) (j_fit_rm (by omega) (by omega) (by omega)) rfl ?_
  refine j_if_ne (tgt := 18) x dX5_meetingOf_5 (by decide) (fun hc => ?_) (fun hc => absurd hc (by decide))
  refine j_iload_n x dX5_meetingOf_18 rfl ?_
  refine j_if_lt (tgt := 28) x dX5_meetingOf_19 (by decide) (fun hc => absurd hc (by decide)) (fun hc => ?_)
  refine j_iload_n x dX5_meetingOf_22 rfl ?_
  refine j_bipush (v := 6) x dX5_meetingOf_23 (by decide) ?_
  refine j_icmp_le (tgt := 38) x dX5_meetingOf_25 (by decide) (fun hc => ?_) (fun hc => absurd (by decide) hc)
  refine j_iload_n x dX5_meetingOf_38 rfl ?_
  refine j_tableIn (tgt := 88) x dX5_meetingOf_39 (by decide) (by decide) rfl (by decide) ?_
  refine j_aload_n x dX5_meetingOf_88 rfl ?_
  refine j2_getr (k := 4) (r := 69) x hb dX5_meetingOf_89 jc_9 wfX5_29 (by decide) rfl ?_
  refine j2_getr (k := 2) (r := 70) x hb dX5_meetingOf_92 jc_4 wfX5_221 (by decide) rfl ?_
  refine j_iload_n x dX5_meetingOf_95 rfl ?_
  refine j2_callSi x hb dX5_meetingOf_96 m_X5_at (c_at (d := d) hb fa_70 (by decide)) wmX5_93 rfl (Nat.le_of_ble_eq_true rfl) (j_fit_rm (by omega) (by omega) (by omega)) rfl ?_
  exact j_ireturn x hr dX5_meetingOf_99 (by omega) (by omega) ⟨rfl, rfl⟩
theorem c_meetingOf_k2 {d : Nat} {b : SBt} {Y : OUt} {M : MM} (hb : 94 ≤ b.2.1) {t : Int32} (hT : ¬ t < 0 ∧ ¬ jmc M ≤ t) : CM (d + 3) 1 6 yX5_meetingOf cX5_meetingOf 3 (some .int) [.ref 0, .int t, .int 2] b Y M (.inl (some (.int (jat 56 (M 71) t)))) (M) := by
  refine Con.of (by decide +kernel) (Nat.le_of_ble_eq_true rfl) rfl fun p l e s m args below meth c D tyc A ad0 x hr htab hname => ?_
  change JJ _ _ _ _ _ _ _ _ _ _ _ _ _ _ _ _ _ 0 [some (.ref 0), some (.int t), some (.int 2)] [] _ 0 0
  refine j_aload_n x dX5_meetingOf_0 rfl ?_
  refine j_iload_n x dX5_meetingOf_1 rfl ?_
  refine j2_callVi x hb dX5_meetingOf_2 m_X5_isMeeting (CM_v (c_isMeeting (d := d) hb) (jb_t hT)) wmX5_214 jc_9 rfl rfl rfl (Nat.le_of_ble_eq_true rfl) (j_fit_rm (by omega) (by omega) (by omega)) rfl ?_
  refine j_if_ne (tgt := 18) x dX5_meetingOf_5 (by decide) (fun hc => ?_) (fun hc => absurd hc (by decide))
  refine j_iload_n x dX5_meetingOf_18 rfl ?_
  refine j_if_lt (tgt := 28) x dX5_meetingOf_19 (by decide) (fun hc => absurd hc (by decide)) (fun hc => ?_)
  refine j_iload_n x dX5_meetingOf_22 rfl ?_
  refine j_bipush (v := 6) x dX5_meetingOf_23 (by decide) ?_
  refine j_icmp_le (tgt := 38) x dX5_meetingOf_25 (by decide) (fun hc => ?_) (fun hc => absurd (by decide) hc)
  refine j_iload_n x dX5_meetingOf_38 rfl ?_
  refine j_tableIn (tgt := 100) x dX5_meetingOf_39 (by decide) (by decide) rfl (by decide) ?_
  refine j_aload_n x dX5_meetingOf_100 rfl ?_
  refine j2_getr (k := 4) (r := 69) x hb dX5_meetingOf_101 jc_9 wfX5_29 (by decide) rfl ?_
  refine j2_getr (k := 3) (r := 71) x hb dX5_meetingOf_104 jc_4 wfX5_224 (by decide) rfl ?_
  refine j_iload_n x dX5_meetingOf_107 rfl ?_
  refine j2_callSi x hb dX5_meetingOf_108 m_X5_at (c_at (d := d) hb fa_71 (by decide)) wmX5_93 rfl (Nat.le_of_ble_eq_true rfl) (j_fit_rm (by omega) (by omega) (by omega)) rfl ?_
  exact j_ireturn x hr dX5_meetingOf_111 (by omega) (by omega) ⟨rfl, rfl⟩
theorem c_meetingOf_k3 {d : Nat} {b : SBt} {Y : OUt} {M : MM} (hb : 94 ≤ b.2.1) {t : Int32} (hT : ¬ t < 0 ∧ ¬ jmc M ≤ t) : CM (d + 3) 1 6 yX5_meetingOf cX5_meetingOf 3 (some .int) [.ref 0, .int t, .int 3] b Y M (.inl (some (.int (jkind M t)))) (M) := by
  refine Con.of (by decide +kernel) (Nat.le_of_ble_eq_true rfl) rfl fun p l e s m args below meth c D tyc A ad0 x hr htab hname => ?_
  change JJ _ _ _ _ _ _ _ _ _ _ _ _ _ _ _ _ _ 0 [some (.ref 0), some (.int t), some (.int 3)] [] _ 0 0
  refine j_aload_n x dX5_meetingOf_0 rfl ?_
  refine j_iload_n x dX5_meetingOf_1 rfl ?_
  refine j2_callVi x hb dX5_meetingOf_2 m_X5_isMeeting (CM_v (c_isMeeting (d := d) hb) (jb_t hT)) wmX5_214 jc_9 rfl rfl rfl (Nat.le_of_ble_eq_true rfl) (j_fit_rm (by omega) (by omega) (by omega)) rfl ?_
  refine j_if_ne (tgt := 18) x dX5_meetingOf_5 (by decide) (fun hc => ?_) (fun hc => absurd hc (by decide))
  refine j_iload_n x dX5_meetingOf_18 rfl ?_
  refine j_if_lt (tgt := 28) x dX5_meetingOf_19 (by decide) (fun hc => absurd hc (by decide)) (fun hc => ?_)
  refine j_iload_n x dX5_meetingOf_22 rfl ?_
  refine j_bipush (v := 6) x dX5_meetingOf_23 (by decide) ?_
  refine j_icmp_le (tgt := 38) x dX5_meetingOf_25 (by decide) (fun hc => ?_) (fun hc => absurd (by decide) hc)
  refine j_iload_n x dX5_meetingOf_38 rfl ?_
  refine j_tableIn (tgt := 112) x dX5_meetingOf_39 (by decide) (by decide) rfl (by decide) ?_
  refine j_aload_n x dX5_meetingOf_112 rfl ?_
  refine j_iload_n x dX5_meetingOf_113 rfl ?_
  refine j2_callVi x hb dX5_meetingOf_114 m_X5_kindOf (c_kindOf (d := d) hb) wmX5_227 jc_9 rfl rfl rfl (Nat.le_of_ble_eq_true rfl) (j_fit_rm (by omega) (by omega) (by omega)) rfl ?_
  exact j_ireturn x hr dX5_meetingOf_117 (by omega) (by omega) ⟨rfl, rfl⟩
theorem c_meetingOf_k4 {d : Nat} {b : SBt} {Y : OUt} {M : MM} (hb : 94 ≤ b.2.1) {t : Int32} (hT : ¬ t < 0 ∧ ¬ jmc M ≤ t) : CM (d + 3) 1 6 yX5_meetingOf cX5_meetingOf 3 (some .int) [.ref 0, .int t, .int 4] b Y M (.inl (some (.int (jat 56 (M 5) t)))) (M) := by
  refine Con.of (by decide +kernel) (Nat.le_of_ble_eq_true rfl) rfl fun p l e s m args below meth c D tyc A ad0 x hr htab hname => ?_
  change JJ _ _ _ _ _ _ _ _ _ _ _ _ _ _ _ _ _ 0 [some (.ref 0), some (.int t), some (.int 4)] [] _ 0 0
  refine j_aload_n x dX5_meetingOf_0 rfl ?_
  refine j_iload_n x dX5_meetingOf_1 rfl ?_
  refine j2_callVi x hb dX5_meetingOf_2 m_X5_isMeeting (CM_v (c_isMeeting (d := d) hb) (jb_t hT)) wmX5_214 jc_9 rfl rfl rfl (Nat.le_of_ble_eq_true rfl) (j_fit_rm (by omega) (by omega) (by omega)) rfl ?_
  refine j_if_ne (tgt := 18) x dX5_meetingOf_5 (by decide) (fun hc => ?_) (fun hc => absurd hc (by decide))
  refine j_iload_n x dX5_meetingOf_18 rfl ?_
  refine j_if_lt (tgt := 28) x dX5_meetingOf_19 (by decide) (fun hc => absurd hc (by decide)) (fun hc => ?_)
  refine j_iload_n x dX5_meetingOf_22 rfl ?_
  refine j_bipush (v := 6) x dX5_meetingOf_23 (by decide) ?_
  refine j_icmp_le (tgt := 38) x dX5_meetingOf_25 (by decide) (fun hc => ?_) (fun hc => absurd (by decide) hc)
  refine j_iload_n x dX5_meetingOf_38 rfl ?_
  refine j_tableIn (tgt := 118) x dX5_meetingOf_39 (by decide) (by decide) rfl (by decide) ?_
  refine j_aload_n x dX5_meetingOf_118 rfl ?_
  refine j2_getr (k := 0) (r := 1) x hb dX5_meetingOf_119 jc_9 wfX5_10 (by decide) rfl ?_
  refine j2_getr (k := 9) (r := 5) x hb dX5_meetingOf_122 jc_6 wfX5_231 (by decide) rfl ?_
  refine j_iload_n x dX5_meetingOf_125 rfl ?_
  refine j2_callSi x hb dX5_meetingOf_126 m_X5_at (c_at (d := d) hb fa_5 (by decide)) wmX5_93 rfl (Nat.le_of_ble_eq_true rfl) (j_fit_rm (by omega) (by omega) (by omega)) rfl ?_
  exact j_ireturn x hr dX5_meetingOf_129 (by omega) (by omega) ⟨rfl, rfl⟩
theorem c_meetingOf_k5 {d : Nat} {b : SBt} {Y : OUt} {M : MM} (hb : 94 ≤ b.2.1) {t : Int32} (hT : ¬ t < 0 ∧ ¬ jmc M ≤ t) : CM (d + 3) 1 6 yX5_meetingOf cX5_meetingOf 3 (some .int) [.ref 0, .int t, .int 5] b Y M (.inl (some (.int (jat 56 (M 6) t)))) (M) := by
  refine Con.of (by decide +kernel) (Nat.le_of_ble_eq_true rfl) rfl fun p l e s m args below meth c D tyc A ad0 x hr htab hname => ?_
  change JJ _ _ _ _ _ _ _ _ _ _ _ _ _ _ _ _ _ 0 [some (.ref 0), some (.int t), some (.int 5)] [] _ 0 0
  refine j_aload_n x dX5_meetingOf_0 rfl ?_
  refine j_iload_n x dX5_meetingOf_1 rfl ?_
  refine j2_callVi x hb dX5_meetingOf_2 m_X5_isMeeting (CM_v (c_isMeeting (d := d) hb) (jb_t hT)) wmX5_214 jc_9 rfl rfl rfl (Nat.le_of_ble_eq_true rfl) (j_fit_rm (by omega) (by omega) (by omega)) rfl ?_
  refine j_if_ne (tgt := 18) x dX5_meetingOf_5 (by decide) (fun hc => ?_) (fun hc => absurd hc (by decide))
  refine j_iload_n x dX5_meetingOf_18 rfl ?_
  refine j_if_lt (tgt := 28) x dX5_meetingOf_19 (by decide) (fun hc => absurd hc (by decide)) (fun hc => ?_)
  refine j_iload_n x dX5_meetingOf_22 rfl ?_
  refine j_bipush (v := 6) x dX5_meetingOf_23 (by decide) ?_
  refine j_icmp_le (tgt := 38) x dX5_meetingOf_25 (by decide) (fun hc => ?_) (fun hc => absurd (by decide) hc)
  refine j_iload_n x dX5_meetingOf_38 rfl ?_
  refine j_tableIn (tgt := 130) x dX5_meetingOf_39 (by decide) (by decide) rfl (by decide) ?_
  refine j_aload_n x dX5_meetingOf_130 rfl ?_
  refine j2_getr (k := 0) (r := 1) x hb dX5_meetingOf_131 jc_9 wfX5_10 (by decide) rfl ?_
  refine j2_getr (k := 10) (r := 6) x hb dX5_meetingOf_134 jc_6 wfX5_234 (by decide) rfl ?_
  refine j_iload_n x dX5_meetingOf_137 rfl ?_
  refine j2_callSi x hb dX5_meetingOf_138 m_X5_at (c_at (d := d) hb fa_6 (by decide)) wmX5_93 rfl (Nat.le_of_ble_eq_true rfl) (j_fit_rm (by omega) (by omega) (by omega)) rfl ?_
  exact j_ireturn x hr dX5_meetingOf_141 (by omega) (by omega) ⟨rfl, rfl⟩
theorem c_meetingOf_k6 {d : Nat} {b : SBt} {Y : OUt} {M : MM} (hb : 94 ≤ b.2.1) {t : Int32} (hT : ¬ t < 0 ∧ ¬ jmc M ≤ t) : CM (d + 3) 1 6 yX5_meetingOf cX5_meetingOf 3 (some .int) [.ref 0, .int t, .int 6] b Y M (.inl (some (.int (jat 56 (M 72) t)))) (M) := by
  refine Con.of (by decide +kernel) (Nat.le_of_ble_eq_true rfl) rfl fun p l e s m args below meth c D tyc A ad0 x hr htab hname => ?_
  change JJ _ _ _ _ _ _ _ _ _ _ _ _ _ _ _ _ _ 0 [some (.ref 0), some (.int t), some (.int 6)] [] _ 0 0
  refine j_aload_n x dX5_meetingOf_0 rfl ?_
  refine j_iload_n x dX5_meetingOf_1 rfl ?_
  refine j2_callVi x hb dX5_meetingOf_2 m_X5_isMeeting (CM_v (c_isMeeting (d := d) hb) (jb_t hT)) wmX5_214 jc_9 rfl rfl rfl (Nat.le_of_ble_eq_true rfl) (j_fit_rm (by omega) (by omega) (by omega)) rfl ?_
  refine j_if_ne (tgt := 18) x dX5_meetingOf_5 (by decide) (fun hc => ?_) (fun hc => absurd hc (by decide))
  refine j_iload_n x dX5_meetingOf_18 rfl ?_
  refine j_if_lt (tgt := 28) x dX5_meetingOf_19 (by decide) (fun hc => absurd hc (by decide)) (fun hc => ?_)
  refine j_iload_n x dX5_meetingOf_22 rfl ?_
  refine j_bipush (v := 6) x dX5_meetingOf_23 (by decide) ?_
  refine j_icmp_le (tgt := 38) x dX5_meetingOf_25 (by decide) (fun hc => ?_) (fun hc => absurd (by decide) hc)
  refine j_iload_n x dX5_meetingOf_38 rfl ?_
  refine j_tableOut (tgt := 142) x dX5_meetingOf_39 (by decide) (by decide) ?_
  refine j_aload_n x dX5_meetingOf_142 rfl ?_
  refine j2_getr (k := 4) (r := 69) x hb dX5_meetingOf_143 jc_9 wfX5_29 (by decide) rfl ?_
  refine j2_getr (k := 4) (r := 72) x hb dX5_meetingOf_146 jc_4 wfX5_237 (by decide) rfl ?_
  refine j_iload_n x dX5_meetingOf_149 rfl ?_
  refine j2_callSi x hb dX5_meetingOf_150 m_X5_at (c_at (d := d) hb fa_72 (by decide)) wmX5_93 rfl (Nat.le_of_ble_eq_true rfl) (j_fit_rm (by omega) (by omega) (by omega)) rfl ?_
  exact j_ireturn x hr dX5_meetingOf_153 (by omega) (by omega) ⟨rfl, rfl⟩
theorem c_find_nt {d : Nat} {b : SBt} {Y : OUt} {M : MM} (hb : 94 ≤ b.2.1) {t u : Int32} (hT : ¬ ((¬ t < 0 ∧ ¬ M 1 0 ≤ t) ∧ (¬ u < 0 ∧ ¬ M 1 0 ≤ u))) : CM (d + 1) 1 6 yX5_find cX5_find 4 (some .int) [.ref 0, .int t, .int u] b Y M (.inr "java/lang/IndexOutOfBoundsException") (M) := by
  refine Con.of (by decide +kernel) (Nat.le_of_ble_eq_true rfl) rfl fun p l e s m args below meth c D tyc A ad0 x hr htab hname => ?_
  change JJ _ _ _ _ _ _ _ _ _ _ _ _ _ _ _ _ _ 0 [some (.ref 0), some (.int t), some (.int u), none] [] _ 0 0
  refine j_aload_n x dX5_find_0 rfl ?_
  refine j_iload_n x dX5_find_1 rfl ?_
  refine j2_callVi x hb dX5_find_2 m_X5_isTeam (c_isTeam (d := d) hb) wmX5_174 jc_9 rfl rfl rfl (Nat.le_of_ble_eq_true rfl) (j_fit_rm (by omega) (by omega) (by omega)) rfl ?_
  refine j_if_eq (tgt := 16) x dX5_find_5 (by decide) (fun h1 => ?_) (fun h1 => ?_)
  · exact j_throwS x exX5_177 wsX5_179 dX5_find_16 dX5_find_19 dX5_find_20 dX5_find_22 dX5_find_25 htab (by omega) (by omega) ⟨rfl, rfl⟩
  · refine j_aload_n x dX5_find_8 rfl ?_
    refine j_iload_n x dX5_find_9 rfl ?_
    refine j2_callVi x hb dX5_find_10 m_X5_isTeam (c_isTeam (d := d) hb) wmX5_174 jc_9 rfl rfl rfl (Nat.le_of_ble_eq_true rfl) (j_fit_rm (by omega) (by omega) (by omega)) rfl ?_
    refine j_if_ne (tgt := 26) x dX5_find_13 (by decide) (fun hc => absurd hc (fun q => hT ⟨jb_nz.mp h1, jb_nz.mp q⟩)) (fun hc => ?_)
    exact j_throwS x exX5_177 wsX5_179 dX5_find_16 dX5_find_19 dX5_find_20 dX5_find_22 dX5_find_25 htab (by omega) (by omega) ⟨rfl, rfl⟩
theorem c_find_no {d : Nat} {b : SBt} {Y : OUt} {M : MM} (hb : 94 ≤ b.2.1) {t u : Int32} (hT : ¬ t < 0 ∧ ¬ M 1 0 ≤ t) (hU : ¬ u < 0 ∧ ¬ M 1 0 ≤ u) {n : Nat} (hn : n ≤ 56) (hm : jmc M = nI n) (h : jfst (fBet M t u) n = -1) : CM (d + 2) 1 6 yX5_find cX5_find 4 (some .int) [.ref 0, .int t, .int u] b Y M (.inr "java/util/NoSuchElementException") (M) := by
  refine Con.of (by decide +kernel) (Nat.le_of_ble_eq_true rfl) rfl fun p l e s m args below meth c D tyc A ad0 x hr htab hname => ?_
  change JJ _ _ _ _ _ _ _ _ _ _ _ _ _ _ _ _ _ 0 [some (.ref 0), some (.int t), some (.int u), none] [] _ 0 0
  refine j_aload_n x dX5_find_0 rfl ?_
  refine j_iload_n x dX5_find_1 rfl ?_
  refine j2_callVi x hb dX5_find_2 m_X5_isTeam (CM_v (c_isTeam (d := d) hb) (jb_t hT)) wmX5_174 jc_9 rfl rfl rfl (Nat.le_of_ble_eq_true rfl) (j_fit_rm (by omega) (by omega) (by omega)) rfl ?_
  refine j_if_eq (tgt := 16) x dX5_find_5 (by decide) (fun hc => absurd hc (by decide)) (fun hc => ?_)
  refine j_aload_n x dX5_find_8 rfl ?_
  refine j_iload_n x dX5_find_9 rfl ?_
  refine j2_callVi x hb dX5_find_10 m_X5_isTeam (CM_v (c_isTeam (d := d) hb) (jb_t hU)) wmX5_174 jc_9 rfl rfl rfl (Nat.le_of_ble_eq_true rfl) (j_fit_rm (by omega) (by omega) (by omega)) rfl ?_
  refine j_if_ne (tgt := 26) x dX5_find_13 (by decide) (fun hc => ?_) (fun hc => absurd hc (by decide))
  refine j_aload_n x dX5_find_26 rfl ?_
  refine j_iload_n x dX5_find_27 rfl ?_
  refine j_iload_n x dX5_find_28 rfl ?_
  refine j2_callVi x hb dX5_find_29 m_X5_meetingBetween (c_meetingBetween (d := d) hb hn hm) wmX5_240 jc_9 rfl rfl rfl (Nat.le_of_ble_eq_true rfl) (j_fit_rm (by omega) (by omega) (by omega)) rfl ?_
  refine j_istore_n x dX5_find_32 (by decide) rfl ?_
  refine j_iload_n x dX5_find_33 rfl ?_
  refine j_iconst (v := (-1)) x dX5_find_34 (by decide) ?_
  refine j_icmp_ne (tgt := 48) x dX5_find_35 (by decide) (fun hc => absurd hc (fun q => q h)) (fun hc => ?_)
  exact j_throwNS x exX5_243 wsX5_245 dX5_find_38 dX5_find_41 dX5_find_42 dX5_find_44 dX5_find_47 htab (by omega) (by omega) ⟨rfl, rfl⟩
theorem c_find_ok {d : Nat} {b : SBt} {Y : OUt} {M : MM} (hb : 94 ≤ b.2.1) {t u : Int32} (hT : ¬ t < 0 ∧ ¬ M 1 0 ≤ t) (hU : ¬ u < 0 ∧ ¬ M 1 0 ≤ u) {n : Nat} (hn : n ≤ 56) (hm : jmc M = nI n) (h : ¬ jfst (fBet M t u) n = -1) : CM (d + 2) 1 6 yX5_find cX5_find 4 (some .int) [.ref 0, .int t, .int u] b Y M (.inl (some (.int (jfst (fBet M t u) n)))) (M) := by
  refine Con.of (by decide +kernel) (Nat.le_of_ble_eq_true rfl) rfl fun p l e s m args below meth c D tyc A ad0 x hr htab hname => ?_
  change JJ _ _ _ _ _ _ _ _ _ _ _ _ _ _ _ _ _ 0 [some (.ref 0), some (.int t), some (.int u), none] [] _ 0 0
  refine j_aload_n x dX5_find_0 rfl ?_
  refine j_iload_n x dX5_find_1 rfl ?_
  refine j2_callVi x hb dX5_find_2 m_X5_isTeam (CM_v (c_isTeam (d := d) hb) (jb_t hT)) wmX5_174 jc_9 rfl rfl rfl (Nat.le_of_ble_eq_true rfl) (j_fit_rm (by omega) (by omega) (by omega)) rfl ?_
  refine j_if_eq (tgt := 16) x dX5_find_5 (by decide) (fun hc => absurd hc (by decide)) (fun hc => ?_)
  refine j_aload_n x dX5_find_8 rfl ?_
  refine j_iload_n x dX5_find_9 rfl ?_
  refine j2_callVi x hb dX5_find_10 m_X5_isTeam (CM_v (c_isTeam (d := d) hb) (jb_t hU)) wmX5_174 jc_9 rfl rfl rfl (Nat.le_of_ble_eq_true rfl) (j_fit_rm (by omega) (by omega) (by omega)) rfl ?_
  refine j_if_ne (tgt := 26) x dX5_find_13 (by decide) (fun hc => ?_) (fun hc => absurd hc (by decide))
  refine j_aload_n x dX5_find_26 rfl ?_
  refine j_iload_n x dX5_find_27 rfl ?_
  refine j_iload_n x dX5_find_28 rfl ?_
  refine j2_callVi x hb dX5_find_29 m_X5_meetingBetween (c_meetingBetween (d := d) hb hn hm) wmX5_240 jc_9 rfl rfl rfl (Nat.le_of_ble_eq_true rfl) (j_fit_rm (by omega) (by omega) (by omega)) rfl ?_
  refine j_istore_n x dX5_find_32 (by decide) rfl ?_
  refine j_iload_n x dX5_find_33 rfl ?_
  refine j_iconst (v := (-1)) x dX5_find_34 (by decide) ?_
  refine j_icmp_ne (tgt := 48) x dX5_find_35 (by decide) (fun hc => ?_) (fun hc => absurd hc (h))
  refine j_iload_n x dX5_find_48 rfl ?_
  exact j_ireturn x hr dX5_find_49 (by omega) (by omega) ⟨rfl, rfl⟩
theorem c_byeIn_no {d : Nat} {b : SBt} {Y : OUt} {M : MM} (hb : 94 ≤ b.2.1) {t : Int32} (hT : ¬ t < 0 ∧ ¬ jwc M ≤ t) (h : jat 14 (M 73) t = -1) : CM (d + 2) 1 6 yX5_byeIn cX5_byeIn 3 (some .int) [.ref 0, .int t] b Y M (.inr "java/util/NoSuchElementException") (M) := by
  refine Con.of (by decide +kernel) (Nat.le_of_ble_eq_true rfl) rfl fun p l e s m args below meth c D tyc A ad0 x hr htab hname => ?_
  change JJ _ _ _ _ _ _ _ _ _ _ _ _ _ _ _ _ _ 0 [some (.ref 0), some (.int t), none] [] _ 0 0
  refine j_aload_n x dX5_byeIn_0 rfl ?_
  refine j_iload_n x dX5_byeIn_1 rfl ?_
  refine j2_callVi x hb dX5_byeIn_2 m_X5_isWeek (CM_v (c_isWeek (d := d) hb) (jb_t hT)) wmX5_248 jc_9 rfl rfl rfl (Nat.le_of_ble_eq_true rfl) (j_fit_rm (by omega) (by omega) (by omega)) rfl ?_
  refine j_if_ne (tgt := 18) x dX5_byeIn_5 (by decide) (fun hc => ?_) (fun hc => absurd hc (by decide))
  refine j_aload_n x dX5_byeIn_18 rfl ?_
  refine j2_getr (k := 4) (r := 69) x hb dX5_byeIn_19 jc_9 wfX5_29 (by decide) rfl ?_
  refine j2_getr (k := 5) (r := 73) x hb dX5_byeIn_22 jc_4 wfX5_253 (by decide) rfl ?_
  refine j_iload_n x dX5_byeIn_25 rfl ?_
  refine j2_callSi x hb dX5_byeIn_26 m_X5_at (c_at (d := d) hb fa_73 (by decide)) wmX5_93 rfl (Nat.le_of_ble_eq_true rfl) (j_fit_rm (by omega) (by omega) (by omega)) rfl ?_
  refine j_istore_n x dX5_byeIn_29 (by decide) rfl ?_
  refine j_iload_n x dX5_byeIn_30 rfl ?_
  refine j_iconst (v := (-1)) x dX5_byeIn_31 (by decide) ?_
  refine j_icmp_ne (tgt := 46) x dX5_byeIn_32 (by decide) (fun hc => absurd hc (fun q => q h)) (fun hc => ?_)
  exact j_throwNSW x exX5_243 wsX5_256 dX5_byeIn_35 dX5_byeIn_38 dX5_byeIn_39 dX5_byeIn_42 dX5_byeIn_45 htab (by omega) (by omega) ⟨rfl, rfl⟩
theorem c_byeIn_ok {d : Nat} {b : SBt} {Y : OUt} {M : MM} (hb : 94 ≤ b.2.1) {t : Int32} (hT : ¬ t < 0 ∧ ¬ jwc M ≤ t) (h : ¬ jat 14 (M 73) t = -1) : CM (d + 2) 1 6 yX5_byeIn cX5_byeIn 3 (some .int) [.ref 0, .int t] b Y M (.inl (some (.int (jat 14 (M 73) t)))) (M) := by
  refine Con.of (by decide +kernel) (Nat.le_of_ble_eq_true rfl) rfl fun p l e s m args below meth c D tyc A ad0 x hr htab hname => ?_
  change JJ _ _ _ _ _ _ _ _ _ _ _ _ _ _ _ _ _ 0 [some (.ref 0), some (.int t), none] [] _ 0 0
  refine j_aload_n x dX5_byeIn_0 rfl ?_
  refine j_iload_n x dX5_byeIn_1 rfl ?_
  refine j2_callVi x hb dX5_byeIn_2 m_X5_isWeek (CM_v (c_isWeek (d := d) hb) (jb_t hT)) wmX5_248 jc_9 rfl rfl rfl (Nat.le_of_ble_eq_true rfl) (j_fit_rm (by omega) (by omega) (by omega)) rfl ?_
  refine j_if_ne (tgt := 18) x dX5_byeIn_5 (by decide) (fun hc => ?_) (fun hc => absurd hc (by decide))
  refine j_aload_n x dX5_byeIn_18 rfl ?_
  refine j2_getr (k := 4) (r := 69) x hb dX5_byeIn_19 jc_9 wfX5_29 (by decide) rfl ?_
  refine j2_getr (k := 5) (r := 73) x hb dX5_byeIn_22 jc_4 wfX5_253 (by decide) rfl ?_
  refine j_iload_n x dX5_byeIn_25 rfl ?_
  refine j2_callSi x hb dX5_byeIn_26 m_X5_at (c_at (d := d) hb fa_73 (by decide)) wmX5_93 rfl (Nat.le_of_ble_eq_true rfl) (j_fit_rm (by omega) (by omega) (by omega)) rfl ?_
  refine j_istore_n x dX5_byeIn_29 (by decide) rfl ?_
  refine j_iload_n x dX5_byeIn_30 rfl ?_
  refine j_iconst (v := (-1)) x dX5_byeIn_31 (by decide) ?_
  refine j_icmp_ne (tgt := 46) x dX5_byeIn_32 (by decide) (fun hc => ?_) (fun hc => absurd hc (h))
  refine j_iload_n x dX5_byeIn_46 rfl ?_
  exact j_ireturn x hr dX5_byeIn_47 (by omega) (by omega) ⟨rfl, rfl⟩
def fIn (M : MM) (t : Int32) (m : Nat) : Int32 := jb (M 4 m = t)
theorem c_meetingsIn {d : Nat} {b : SBt} {Y : OUt} {M : MM} (hb : 94 ≤ b.2.1) {t : Int32} (hT : ¬ t < 0 ∧ ¬ jwc M ≤ t) {n : Nat} (hn : n ≤ 56) (hm : jmc M = nI n) : CM (d + 2) 1 6 yX5_meetingsIn cX5_meetingsIn 4 (some .int) [.ref 0, .int t] b Y M (.inl (some (.int (jsum (fIn M t) n)))) (M) := by
  refine Con.of (by decide +kernel) (Nat.le_of_ble_eq_true rfl) rfl fun p l e s m args below meth c D tyc A ad0 x hr htab hname => ?_
  change JJ _ _ _ _ _ _ _ _ _ _ _ _ _ _ _ _ _ 0 [some (.ref 0), some (.int t), none, none] [] _ 0 0
  refine j_aload_n x dX5_meetingsIn_0 rfl ?_
  refine j_iload_n x dX5_meetingsIn_1 rfl ?_
  refine j2_callVi x hb dX5_meetingsIn_2 m_X5_isWeek (CM_v (c_isWeek (d := d) hb) (jb_t hT)) wmX5_248 jc_9 rfl rfl rfl (Nat.le_of_ble_eq_true rfl) (j_fit_rm (by omega) (by omega) (by omega)) rfl ?_
  refine j_if_ne (tgt := 18) x dX5_meetingsIn_5 (by decide) (fun hc => ?_) (fun hc => absurd hc (by decide))
  refine j_iconst (v := 0) x dX5_meetingsIn_18 (by decide) ?_
  refine j_istore_n x dX5_meetingsIn_19 (by decide) rfl ?_
  refine j_iconst (v := 0) x dX5_meetingsIn_20 (by decide) ?_
  refine j_istore_n x dX5_meetingsIn_21 (by decide) rfl ?_
  refine j_for (n) (fun j => [some (.ref 0), some (.int t), some (.int (jsum (fIn M t) j)), some (.int (nI j))]) (fun j => M) (fun j => True) (rfl) (rfl) (trivial) (fun j hj hP ih => ?_) (fun hP => ?_)
  · refine j_iload_n x dX5_meetingsIn_22 rfl ?_
    refine j_aload_n x dX5_meetingsIn_23 rfl ?_
    refine j2_callVi x hb dX5_meetingsIn_24 m_X5_meetingCount (CM_v (c_meetingCount (d := d) hb) hm) wmX5_258 jc_9 rfl rfl rfl (Nat.le_of_ble_eq_true rfl) (j_fit_rm (by omega) (by omega) (by omega)) rfl ?_
    refine j_icmp_ge (tgt := 54) x dX5_meetingsIn_27 (by decide) (fun hc => absurd hc (nI_ge hj (by omega))) (fun hc => ?_)
    refine j_aload_n x dX5_meetingsIn_30 rfl ?_
    refine j2_getr (k := 0) (r := 1) x hb dX5_meetingsIn_31 jc_9 wfX5_10 (by decide) rfl ?_
    refine j2_getr (k := 8) (r := 4) x hb dX5_meetingsIn_34 jc_6 wfX5_163 (by decide) rfl ?_
    refine j_iload_n x dX5_meetingsIn_37 rfl ?_
    refine j2_callSi x hb dX5_meetingsIn_38 m_X5_at (CM_v (c_at (d := d) hb fa_4 (by decide)) (jat_nI (show j < 56 by omega) (by decide))) wmX5_93 rfl (Nat.le_of_ble_eq_true rfl) (j_fit_rm (by omega) (by omega) (by omega)) rfl ?_
    refine j_iload_n x dX5_meetingsIn_41 rfl ?_
    refine j_icmp_ne (tgt := 48) x dX5_meetingsIn_42 (by decide) (fun h1 => ?_) (fun h1 => ?_)
    · refine j_iinc x dX5_meetingsIn_48 rfl (by decide) rfl ?_
      refine j_goto (tgt := 22) x dX5_meetingsIn_51 (by decide) ?_
      exact j_goal (ih (trivial)) (wk_c rfl (wk_c rfl (wk_c (congrArg (fun z => some (Value.int z)) (jsum_f (jb_f h1))) (wk_c (congrArg (fun z => some (Value.int z)) (nI_1 _)) (wk_0))))) (rfl)
    · refine j_iinc x dX5_meetingsIn_45 rfl (by decide) rfl ?_
      refine j_iinc x dX5_meetingsIn_48 rfl (by decide) rfl ?_
      refine j_goto (tgt := 22) x dX5_meetingsIn_51 (by decide) ?_
      exact j_goal (ih (trivial)) (wk_c rfl (wk_c rfl (wk_c (congrArg (fun z => some (Value.int z)) (jsum_v (jb_t h1))) (wk_c (congrArg (fun z => some (Value.int z)) (nI_1 _)) (wk_0))))) (rfl)
  refine j_iload_n x dX5_meetingsIn_22 rfl ?_
  refine j_aload_n x dX5_meetingsIn_23 rfl ?_
  refine j2_callVi x hb dX5_meetingsIn_24 m_X5_meetingCount (CM_v (c_meetingCount (d := d) hb) hm) wmX5_258 jc_9 rfl rfl rfl (Nat.le_of_ble_eq_true rfl) (j_fit_rm (by omega) (by omega) (by omega)) rfl ?_
  refine j_icmp_ge (tgt := 54) x dX5_meetingsIn_27 (by decide) (fun hc => ?_) (fun hc => absurd (nI_le (Nat.le_refl _) (by omega)) hc)
  refine j_iload_n x dX5_meetingsIn_54 rfl ?_
  exact j_ireturn x hr dX5_meetingsIn_55 (by omega) (by omega) ⟨rfl, rfl⟩
theorem c_clashes {d : Nat} {b : SBt} {Y : OUt} {M : MM} (hb : 94 ≤ b.2.1) {t : Int32} (hT : ¬ t < 0 ∧ ¬ jwc M ≤ t) {n : Nat} (hn : n ≤ 56) (hm : jmc M = nI n) : CM (d + 4) 1 6 yX5_clashes cX5_clashes 2 (some .int) [.ref 0, .int t] b Y M (.inl (some (.int (jpairs M n t)))) (M) := by
  refine Con.of (by decide +kernel) (Nat.le_of_ble_eq_true rfl) rfl fun p l e s m args below meth c D tyc A ad0 x hr htab hname => ?_
  change JJ _ _ _ _ _ _ _ _ _ _ _ _ _ _ _ _ _ 0 [some (.ref 0), some (.int t)] [] _ 0 0
  refine j_aload_n x dX5_clashes_0 rfl ?_
  refine j_iload_n x dX5_clashes_1 rfl ?_
  refine j2_callVi x hb dX5_clashes_2 m_X5_isWeek (CM_v (c_isWeek (d := d) hb) (jb_t hT)) wmX5_248 jc_9 rfl rfl rfl (Nat.le_of_ble_eq_true rfl) (j_fit_rm (by omega) (by omega) (by omega)) rfl ?_
  refine j_if_ne (tgt := 18) x dX5_clashes_5 (by decide) (fun hc => ?_) (fun hc => absurd hc (by decide))
  refine j_aload_n x dX5_clashes_18 rfl ?_
  refine j_iload_n x dX5_clashes_19 rfl ?_
  refine j2_callVi x hb dX5_clashes_20 m_X5_clashingPairs (c_clashingPairs (d := d) hb hn hm) wmX5_261 jc_9 rfl rfl rfl (Nat.le_of_ble_eq_true rfl) (j_fit_rm (by omega) (by omega) (by omega)) rfl ?_
  exact j_ireturn x hr dX5_clashes_23 (by omega) (by omega) ⟨rfl, rfl⟩
theorem c_freeWeek_no {d : Nat} {b : SBt} {Y : OUt} {M : MM} (hb : 94 ≤ b.2.1) {t : Int32} (hT : ¬ t < 0 ∧ ¬ jmc M ≤ t) {n z q0 : Nat} (hn : n ≤ 56) (hm : jmc M = nI n) (hz : z ≤ 14) (hw : jwc M = nI z) (h0 : jat 56 (M 4) t = nI q0) (hq : q0 < z) (h : jfree M n z q0 t = -1) : CM (d + 4) 1 6 yX5_freeWeek cX5_freeWeek 3 (some .int) [.ref 0, .int t] b Y M (.inr "java/util/NoSuchElementException") (M) := by
  refine Con.of (by decide +kernel) (Nat.le_of_ble_eq_true rfl) rfl fun p l e s m args below meth c D tyc A ad0 x hr htab hname => ?_
  change JJ _ _ _ _ _ _ _ _ _ _ _ _ _ _ _ _ _ 0 [some (.ref 0), some (.int t), none] [] _ 0 0
  refine j_aload_n x dX5_freeWeek_0 rfl ?_
  refine j_iload_n x dX5_freeWeek_1 rfl ?_
  refine j2_callVi x hb dX5_freeWeek_2 m_X5_isMeeting (CM_v (c_isMeeting (d := d) hb) (jb_t hT)) wmX5_214 jc_9 rfl rfl rfl (Nat.le_of_ble_eq_true rfl) (j_fit_rm (by omega) (by omega) (by omega)) rfl ?_
  refine j_if_ne (tgt := 18) x dX5_freeWeek_5 (by decide) (fun hc => ?_) (fun hc => absurd hc (by decide))
  refine j_aload_n x dX5_freeWeek_18 rfl ?_
  refine j_iload_n x dX5_freeWeek_19 rfl ?_
  refine j2_callVi x hb dX5_freeWeek_20 m_X5_firstFreeWeek (c_firstFreeWeek (d := d) hb hn hm hz hw h0 hq) wmX5_264 jc_9 rfl rfl rfl (Nat.le_of_ble_eq_true rfl) (j_fit_rm (by omega) (by omega) (by omega)) rfl ?_
  refine j_istore_n x dX5_freeWeek_23 (by decide) rfl ?_
  refine j_iload_n x dX5_freeWeek_24 rfl ?_
  refine j_iconst (v := (-1)) x dX5_freeWeek_25 (by decide) ?_
  refine j_icmp_ne (tgt := 40) x dX5_freeWeek_26 (by decide) (fun hc => absurd hc (fun q => q h)) (fun hc => ?_)
  exact j_throwNSW x exX5_243 wsX5_267 dX5_freeWeek_29 dX5_freeWeek_32 dX5_freeWeek_33 dX5_freeWeek_36 dX5_freeWeek_39 htab (by omega) (by omega) ⟨rfl, rfl⟩
theorem c_freeWeek_ok {d : Nat} {b : SBt} {Y : OUt} {M : MM} (hb : 94 ≤ b.2.1) {t : Int32} (hT : ¬ t < 0 ∧ ¬ jmc M ≤ t) {n z q0 : Nat} (hn : n ≤ 56) (hm : jmc M = nI n) (hz : z ≤ 14) (hw : jwc M = nI z) (h0 : jat 56 (M 4) t = nI q0) (hq : q0 < z) (h : ¬ jfree M n z q0 t = -1) : CM (d + 4) 1 6 yX5_freeWeek cX5_freeWeek 3 (some .int) [.ref 0, .int t] b Y M (.inl (some (.int (jfree M n z q0 t)))) (M) := by
  refine Con.of (by decide +kernel) (Nat.le_of_ble_eq_true rfl) rfl fun p l e s m args below meth c D tyc A ad0 x hr htab hname => ?_
  change JJ _ _ _ _ _ _ _ _ _ _ _ _ _ _ _ _ _ 0 [some (.ref 0), some (.int t), none] [] _ 0 0
  refine j_aload_n x dX5_freeWeek_0 rfl ?_
  refine j_iload_n x dX5_freeWeek_1 rfl ?_
  refine j2_callVi x hb dX5_freeWeek_2 m_X5_isMeeting (CM_v (c_isMeeting (d := d) hb) (jb_t hT)) wmX5_214 jc_9 rfl rfl rfl (Nat.le_of_ble_eq_true rfl) (j_fit_rm (by omega) (by omega) (by omega)) rfl ?_
  refine j_if_ne (tgt := 18) x dX5_freeWeek_5 (by decide) (fun hc => ?_) (fun hc => absurd hc (by decide))
  refine j_aload_n x dX5_freeWeek_18 rfl ?_
  refine j_iload_n x dX5_freeWeek_19 rfl ?_
  refine j2_callVi x hb dX5_freeWeek_20 m_X5_firstFreeWeek (c_firstFreeWeek (d := d) hb hn hm hz hw h0 hq) wmX5_264 jc_9 rfl rfl rfl (Nat.le_of_ble_eq_true rfl) (j_fit_rm (by omega) (by omega) (by omega)) rfl ?_
  refine j_istore_n x dX5_freeWeek_23 (by decide) rfl ?_
  refine j_iload_n x dX5_freeWeek_24 rfl ?_
  refine j_iconst (v := (-1)) x dX5_freeWeek_25 (by decide) ?_
  refine j_icmp_ne (tgt := 40) x dX5_freeWeek_26 (by decide) (fun hc => ?_) (fun hc => absurd hc (h))
  refine j_iload_n x dX5_freeWeek_40 rfl ?_
  exact j_ireturn x hr dX5_freeWeek_41 (by omega) (by omega) ⟨rfl, rfl⟩
/-- a run: (the longest so far, that which goes on) -/
def jrun (M : MM) (t : Int32) : Nat → Int32 × Int32
  | 0 => (0, 0)
  | m + 1 => if M 5 m = -1 then jrun M t m else if ¬ (M 70 m = t ∨ M 71 m = t) then jrun M t m else
    let g : Int32 := if (if M 70 m = t then jb (¬ 0 ≤ M 5 m - M 6 m) else jb (¬ M 5 m - M 6 m ≤ 0)) = 0 then (jrun M t m).2 + 1 else 0
    ((if (jrun M t m).1 < g then g else (jrun M t m).1), g)
theorem c_run {d : Nat} {b : SBt} {Y : OUt} {M : MM} (hb : 94 ≤ b.2.1) {t : Int32} (hT : ¬ t < 0 ∧ ¬ M 1 0 ≤ t) {n : Nat} (hn : n ≤ 56) (hm : jmc M = nI n) : CM (d + 3) 1 6 yX5_run cX5_run 5 (some .int) [.ref 0, .int t] b Y M (.inl (some (.int (jrun M t n).1))) (M) := by
  refine Con.of (by decide +kernel) (Nat.le_of_ble_eq_true rfl) rfl fun p l e s m args below meth c D tyc A ad0 x hr htab hname => ?_
  change JJ _ _ _ _ _ _ _ _ _ _ _ _ _ _ _ _ _ 0 [some (.ref 0), some (.int t), none, none, none] [] _ 0 0
  refine j_aload_n x dX5_run_0 rfl ?_
  refine j_iload_n x dX5_run_1 rfl ?_
  refine j2_callVi x hb dX5_run_2 m_X5_isTeam (CM_v (c_isTeam (d := d) hb) (jb_t hT)) wmX5_174 jc_9 rfl rfl rfl (Nat.le_of_ble_eq_true rfl) (j_fit_rm (by omega) (by omega) (by omega)) rfl ?_
  refine j_if_ne (tgt := 18) x dX5_run_5 (by decide) (fun hc => ?_) (fun hc => absurd hc (by decide))
  refine j_iconst (v := 0) x dX5_run_18 (by decide) ?_
  refine j_istore_n x dX5_run_19 (by decide) rfl ?_
  refine j_iconst (v := 0) x dX5_run_20 (by decide) ?_
  refine j_istore_n x dX5_run_21 (by decide) rfl ?_
  refine j_iconst (v := 0) x dX5_run_22 (by decide) ?_
  refine j_istore x dX5_run_23 (by decide) rfl ?_
  refine j_for (n) (fun j => [some (.ref 0), some (.int t), some (.int (jrun M t j).1), some (.int (jrun M t j).2), some (.int (nI j))]) (fun j => M) (fun j => True) (rfl) (rfl) (trivial) (fun j hj hP ih => ?_) (fun hP => ?_)
  · refine j_iload x dX5_run_25 rfl ?_
    refine j_aload_n x dX5_run_27 rfl ?_
    refine j2_callVi x hb dX5_run_28 m_X5_meetingCount (CM_v (c_meetingCount (d := d) hb) hm) wmX5_258 jc_9 rfl rfl rfl (Nat.le_of_ble_eq_true rfl) (j_fit_rm (by omega) (by omega) (by omega)) rfl ?_
    refine j_icmp_ge (tgt := 86) x dX5_run_31 (by decide) (fun hc => absurd hc (nI_ge hj (by omega))) (fun hc => ?_)
    refine j_aload_n x dX5_run_34 rfl ?_
    refine j2_getr (k := 0) (r := 1) x hb dX5_run_35 jc_9 wfX5_10 (by decide) rfl ?_
    refine j_iload x dX5_run_38 rfl ?_
    refine j2_callVi x hb dX5_run_40 m_X2_isPlayed (CM_v (c_isPlayed (d := d) (a := 1) hb rfl) (show _ = jb (¬ M 5 j = -1) by rw [jat_nI (show j < 56 by omega) (by decide)])) wmX5_288 jc_6 rfl rfl rfl (Nat.le_of_ble_eq_true rfl) (j_fit_rm (by omega) (by omega) (by omega)) rfl ?_
    refine j_if_eq (tgt := 80) x dX5_run_43 (by decide) (fun h1 => ?_) (fun h1 => ?_)
    · refine j_iinc x dX5_run_80 rfl (by decide) rfl ?_
      refine j_goto (tgt := 25) x dX5_run_83 (by decide) ?_
      exact j_goal (ih (trivial)) (wk_c rfl (wk_c rfl (wk_c (congrArg (fun z => some (Value.int z)) (show _ = (jrun M t (j + 1)).1 by rw [jrun, if_pos (Decidable.not_not.mp (jb_0.mp h1))])) (wk_c (congrArg (fun z => some (Value.int z)) (show _ = (jrun M t (j + 1)).2 by rw [jrun, if_pos (Decidable.not_not.mp (jb_0.mp h1))])) (wk_c (congrArg (fun z => some (Value.int z)) (nI_1 _)) (wk_0)))))) (rfl)
    · refine j_aload_n x dX5_run_46 rfl ?_
      refine j_iload_n x dX5_run_47 rfl ?_
      refine j_iload x dX5_run_48 rfl ?_
      refine j2_callVi x hb dX5_run_50 m_X5_isIn (c_isIn (d := d) hb (m1 := j) (by omega)) wmX5_291 jc_9 rfl rfl rfl (Nat.le_of_ble_eq_true rfl) (j_fit_rm (by omega) (by omega) (by omega)) rfl ?_
      refine j_if_eq (tgt := 80) x dX5_run_53 (by decide) (fun h2 => ?_) (fun h2 => ?_)
      · refine j_iinc x dX5_run_80 rfl (by decide) rfl ?_
        refine j_goto (tgt := 25) x dX5_run_83 (by decide) ?_
        exact j_goal (ih (trivial)) (wk_c rfl (wk_c rfl (wk_c (congrArg (fun z => some (Value.int z)) (show _ = (jrun M t (j + 1)).1 by rw [jrun, if_neg (jb_nz.mp h1), if_pos (jb_0.mp h2)])) (wk_c (congrArg (fun z => some (Value.int z)) (show _ = (jrun M t (j + 1)).2 by rw [jrun, if_neg (jb_nz.mp h1), if_pos (jb_0.mp h2)])) (wk_c (congrArg (fun z => some (Value.int z)) (nI_1 _)) (wk_0)))))) (rfl)
      · refine j_aload_n x dX5_run_56 rfl ?_
        refine j_iload_n x dX5_run_57 rfl ?_
        refine j_iload x dX5_run_58 rfl ?_
        refine j2_callVi x hb dX5_run_60 m_X5_hasLost (c_hasLost (d := d) hb (m1 := j) (by omega)) wmX5_294 jc_9 rfl rfl rfl (Nat.le_of_ble_eq_true rfl) (j_fit_rm (by omega) (by omega) (by omega)) rfl ?_
        refine j_if_eq (tgt := 70) x dX5_run_63 (by decide) (fun h3 => ?_) (fun h3 => ?_)
        · refine j_iload_n x dX5_run_70 rfl ?_
          refine j_iconst (v := 1) x dX5_run_71 (by decide) ?_
          refine j_iadd x dX5_run_72 ?_
          refine j_istore_n x dX5_run_73 (by decide) rfl ?_
          refine j_iload_n x dX5_run_74 rfl ?_
          refine j_iload_n x dX5_run_75 rfl ?_
          refine j_max x wmath dX5_run_76 wmX5_297 (Nat.le_of_ble_eq_true rfl) (Nat.zero_le _) (Nat.zero_le _) ?_
          refine j_istore_n x dX5_run_79 (by decide) rfl ?_
          refine j_iinc x dX5_run_80 rfl (by decide) rfl ?_
          refine j_goto (tgt := 25) x dX5_run_83 (by decide) ?_
          exact j_goal (ih (trivial)) (wk_c rfl (wk_c rfl (wk_c (congrArg (fun z => some (Value.int z)) (show _ = (jrun M t (j + 1)).1 by simp only [jrun, if_neg (jb_nz.mp h1), if_neg (fun (q : ¬ (M 70 j = t ∨ M 71 j = t)) => q (jb_nz.mp h2)), if_pos h3])) (wk_c (congrArg (fun z => some (Value.int z)) (show _ = (jrun M t (j + 1)).2 by simp only [jrun, if_neg (jb_nz.mp h1), if_neg (fun (q : ¬ (M 70 j = t ∨ M 71 j = t)) => q (jb_nz.mp h2)), if_pos h3])) (wk_c (congrArg (fun z => some (Value.int z)) (nI_1 _)) (wk_0)))))) (rfl)
        · refine j_iconst (v := 0) x dX5_run_66 (by decide) ?_
          refine j_goto (tgt := 73) x dX5_run_67 (by decide) ?_
          refine j_istore_n x dX5_run_73 (by decide) rfl ?_
          refine j_iload_n x dX5_run_74 rfl ?_
          refine j_iload_n x dX5_run_75 rfl ?_
          refine j_max x wmath dX5_run_76 wmX5_297 (Nat.le_of_ble_eq_true rfl) (Nat.zero_le _) (Nat.zero_le _) ?_
          refine j_istore_n x dX5_run_79 (by decide) rfl ?_
          refine j_iinc x dX5_run_80 rfl (by decide) rfl ?_
          refine j_goto (tgt := 25) x dX5_run_83 (by decide) ?_
          exact j_goal (ih (trivial)) (wk_c rfl (wk_c rfl (wk_c (congrArg (fun z => some (Value.int z)) (show _ = (jrun M t (j + 1)).1 by simp only [jrun, if_neg (jb_nz.mp h1), if_neg (fun (q : ¬ (M 70 j = t ∨ M 71 j = t)) => q (jb_nz.mp h2)), if_neg h3])) (wk_c (congrArg (fun z => some (Value.int z)) (show _ = (jrun M t (j + 1)).2 by simp only [jrun, if_neg (jb_nz.mp h1), if_neg (fun (q : ¬ (M 70 j = t ∨ M 71 j = t)) => q (jb_nz.mp h2)), if_neg h3])) (wk_c (congrArg (fun z => some (Value.int z)) (nI_1 _)) (wk_0)))))) (rfl)
  refine j_iload x dX5_run_25 rfl ?_
  refine j_aload_n x dX5_run_27 rfl ?_
  refine j2_callVi x hb dX5_run_28 m_X5_meetingCount (CM_v (c_meetingCount (d := d) hb) hm) wmX5_258 jc_9 rfl rfl rfl (Nat.le_of_ble_eq_true rfl) (j_fit_rm (by omega) (by omega) (by omega)) rfl ?_
  refine j_icmp_ge (tgt := 86) x dX5_run_31 (by decide) (fun hc => ?_) (fun hc => absurd (nI_le (Nat.le_refl _) (by omega)) hc)
  refine j_iload_n x dX5_run_86 rfl ?_
  exact j_ireturn x hr dX5_run_87 (by omega) (by omega) ⟨rfl, rfl⟩
theorem c_reason_0 {d : Nat} {b : SBt} {Y : OUt} {M : MM} (hb : 94 ≤ b.2.1) (h0 : ¬ M 0 9 = 0) : CM (d) 1 6 yX5_reason cX5_reason 2 (some .int) [.ref 0, .int 0] b Y M (.inl (some (.int (M 0 9)))) (M) := by
  refine Con.of (by decide +kernel) (Nat.le_of_ble_eq_true rfl) rfl fun p l e s m args below meth c D tyc A ad0 x hr htab hname => ?_
  change JJ _ _ _ _ _ _ _ _ _ _ _ _ _ _ _ _ _ 0 [some (.ref 0), some (.int 0)] [] _ 0 0
  refine j_iload_n x dX5_reason_0 rfl ?_
  refine j_if_lt (tgt := 9) x dX5_reason_1 (by decide) (fun hc => absurd hc (by decide)) (fun hc => ?_)
  refine j_iload_n x dX5_reason_4 rfl ?_
  refine j_iconst (v := 2) x dX5_reason_5 (by decide) ?_
  refine j_icmp_le (tgt := 20) x dX5_reason_6 (by decide) (fun hc => ?_) (fun hc => absurd (by decide) hc)
  refine j_aload_n x dX5_reason_20 rfl ?_
  refine j2_geti (k := 9) x hb dX5_reason_21 jc_9 wfX5_343 (by decide) rfl ?_
  refine j_if_ne (tgt := 38) x dX5_reason_24 (by decide) (fun hc => ?_) (fun hc => absurd hc (h0))
  refine j_iload_n x dX5_reason_38 rfl ?_
  refine j_lookup (off := 25) (tgt := 64) x dX5_reason_39 (by decide) (by decide) (by decide) ?_
  refine j_aload_n x dX5_reason_64 rfl ?_
  refine j2_geti (k := 9) x hb dX5_reason_65 jc_9 wfX5_343 (by decide) rfl ?_
  exact j_ireturn x hr dX5_reason_68 (by omega) (by omega) ⟨rfl, rfl⟩
theorem c_reason_1 {d : Nat} {b : SBt} {Y : OUt} {M : MM} (hb : 94 ≤ b.2.1) (h0 : ¬ M 0 9 = 0) : CM (d) 1 6 yX5_reason cX5_reason 2 (some .int) [.ref 0, .int 1] b Y M (.inl (some (.int (M 0 10)))) (M) := by
  refine Con.of (by decide +kernel) (Nat.le_of_ble_eq_true rfl) rfl fun p l e s m args below meth c D tyc A ad0 x hr htab hname => ?_
  change JJ _ _ _ _ _ _ _ _ _ _ _ _ _ _ _ _ _ 0 [some (.ref 0), some (.int 1)] [] _ 0 0
  refine j_iload_n x dX5_reason_0 rfl ?_
  refine j_if_lt (tgt := 9) x dX5_reason_1 (by decide) (fun hc => absurd hc (by decide)) (fun hc => ?_)
  refine j_iload_n x dX5_reason_4 rfl ?_
  refine j_iconst (v := 2) x dX5_reason_5 (by decide) ?_
  refine j_icmp_le (tgt := 20) x dX5_reason_6 (by decide) (fun hc => ?_) (fun hc => absurd (by decide) hc)
  refine j_aload_n x dX5_reason_20 rfl ?_
  refine j2_geti (k := 9) x hb dX5_reason_21 jc_9 wfX5_343 (by decide) rfl ?_
  refine j_if_ne (tgt := 38) x dX5_reason_24 (by decide) (fun hc => ?_) (fun hc => absurd hc (h0))
  refine j_iload_n x dX5_reason_38 rfl ?_
  refine j_lookup (off := 30) (tgt := 69) x dX5_reason_39 (by decide) (by decide) (by decide) ?_
  refine j_aload_n x dX5_reason_69 rfl ?_
  refine j2_geti (k := 10) x hb dX5_reason_70 jc_9 wfX5_348 (by decide) rfl ?_
  exact j_ireturn x hr dX5_reason_73 (by omega) (by omega) ⟨rfl, rfl⟩
theorem c_reason_2 {d : Nat} {b : SBt} {Y : OUt} {M : MM} (hb : 94 ≤ b.2.1) (h0 : ¬ M 0 9 = 0) : CM (d) 1 6 yX5_reason cX5_reason 2 (some .int) [.ref 0, .int 2] b Y M (.inl (some (.int (M 0 11)))) (M) := by
  refine Con.of (by decide +kernel) (Nat.le_of_ble_eq_true rfl) rfl fun p l e s m args below meth c D tyc A ad0 x hr htab hname => ?_
  change JJ _ _ _ _ _ _ _ _ _ _ _ _ _ _ _ _ _ 0 [some (.ref 0), some (.int 2)] [] _ 0 0
  refine j_iload_n x dX5_reason_0 rfl ?_
  refine j_if_lt (tgt := 9) x dX5_reason_1 (by decide) (fun hc => absurd hc (by decide)) (fun hc => ?_)
  refine j_iload_n x dX5_reason_4 rfl ?_
  refine j_iconst (v := 2) x dX5_reason_5 (by decide) ?_
  refine j_icmp_le (tgt := 20) x dX5_reason_6 (by decide) (fun hc => ?_) (fun hc => absurd (by decide) hc)
  refine j_aload_n x dX5_reason_20 rfl ?_
  refine j2_geti (k := 9) x hb dX5_reason_21 jc_9 wfX5_343 (by decide) rfl ?_
  refine j_if_ne (tgt := 38) x dX5_reason_24 (by decide) (fun hc => ?_) (fun hc => absurd hc (h0))
  refine j_iload_n x dX5_reason_38 rfl ?_
  refine j_lookup (off := 35) (tgt := 74) x dX5_reason_39 (by decide) (by decide) (by decide) ?_
  refine j_aload_n x dX5_reason_74 rfl ?_
  refine j2_geti (k := 11) x hb dX5_reason_75 jc_9 wfX5_351 (by decide) rfl ?_
  exact j_ireturn x hr dX5_reason_78 (by omega) (by omega) ⟨rfl, rfl⟩
theorem c_account_k0 {d : Nat} {b : SBt} {Y : OUt} {M : MM} (hb : 94 ≤ b.2.1) {n : Nat} (hn : n ≤ 56) (hm : jmc M = nI n) : CM (d + 5) 1 6 yX5_account cX5_account 2 (some .int) [.ref 0, .int 0] b Y M (.inl (some (.int (jcount M n 1 0)))) (jcount M n) := by
  refine Con.of (by decide +kernel) (Nat.le_of_ble_eq_true rfl) rfl fun p l e s m args below meth c D tyc A ad0 x hr htab hname => ?_
  change JJ _ _ _ _ _ _ _ _ _ _ _ _ _ _ _ _ _ 0 [some (.ref 0), some (.int 0)] [] _ 0 0
  refine j_iload_n x dX5_account_0 rfl ?_
  refine j_if_lt (tgt := 10) x dX5_account_1 (by decide) (fun hc => absurd hc (by decide)) (fun hc => ?_)
  refine j_iload_n x dX5_account_4 rfl ?_
  refine j_bipush (v := 14) x dX5_account_5 (by decide) ?_
  refine j_icmp_le (tgt := 21) x dX5_account_7 (by decide) (fun hc => ?_) (fun hc => absurd (by decide) hc)
  refine j_aload_n x dX5_account_21 rfl ?_
  refine j2_callVv x hb dX5_account_22 m_X5_count (c_count (d := d) hb hn hm) wmX5_187 jc_9 rfl rfl rfl (Nat.le_of_ble_eq_true rfl) (j_fit_rm (by omega) (by omega) (by omega)) rfl ?_
  refine j_iload_n x dX5_account_25 rfl ?_
  refine j_tableIn (tgt := 96) x dX5_account_26 (by decide) (by decide) rfl (by decide) ?_
  refine j_aload_n x dX5_account_96 rfl ?_
  refine j2_getr (k := 0) (r := 1) x hb dX5_account_97 jc_9 wfX5_10 (by decide) rfl ?_
  refine j2_geti (k := 0) x hb dX5_account_100 jc_6 wfX5_80 (by decide) rfl ?_
  exact j_ireturn x hr dX5_account_103 (by omega) (by omega) ⟨rfl, rfl⟩
theorem c_account_k1 {d : Nat} {b : SBt} {Y : OUt} {M : MM} (hb : 94 ≤ b.2.1) {n : Nat} (hn : n ≤ 56) (hm : jmc M = nI n) : CM (d + 5) 1 6 yX5_account cX5_account 2 (some .int) [.ref 0, .int 1] b Y M (.inl (some (.int (jb (¬ jcount M n 1 2 = 0))))) (jcount M n) := by
  refine Con.of (by decide +kernel) (Nat.le_of_ble_eq_true rfl) rfl fun p l e s m args below meth c D tyc A ad0 x hr htab hname => ?_
  change JJ _ _ _ _ _ _ _ _ _ _ _ _ _ _ _ _ _ 0 [some (.ref 0), some (.int 1)] [] _ 0 0
  refine j_iload_n x dX5_account_0 rfl ?_
  refine j_if_lt (tgt := 10) x dX5_account_1 (by decide) (fun hc => absurd hc (by decide)) (fun hc => ?_)
  refine j_iload_n x dX5_account_4 rfl ?_
  refine j_bipush (v := 14) x dX5_account_5 (by decide) ?_
  refine j_icmp_le (tgt := 21) x dX5_account_7 (by decide) (fun hc => ?_) (fun hc => absurd (by decide) hc)
  refine j_aload_n x dX5_account_21 rfl ?_
  refine j2_callVv x hb dX5_account_22 m_X5_count (c_count (d := d) hb hn hm) wmX5_187 jc_9 rfl rfl rfl (Nat.le_of_ble_eq_true rfl) (j_fit_rm (by omega) (by omega) (by omega)) rfl ?_
  refine j_iload_n x dX5_account_25 rfl ?_
  refine j_tableIn (tgt := 104) x dX5_account_26 (by decide) (by decide) rfl (by decide) ?_
  refine j_aload_n x dX5_account_104 rfl ?_
  refine j2_getr (k := 0) (r := 1) x hb dX5_account_105 jc_9 wfX5_10 (by decide) rfl ?_
  refine j2_geti (k := 2) x hb dX5_account_108 jc_6 wfX5_388 (by decide) rfl ?_
  refine j_b_if_eq (T := 118) (E := 119) x dX5_account_111 (by decide) dX5_account_114 dX5_account_115 (by decide) dX5_account_118 (by decide) ?_
  exact j_ireturn x hr dX5_account_119 (by omega) (by omega) ⟨rfl, rfl⟩
theorem c_account_k2 {d : Nat} {b : SBt} {Y : OUt} {M : MM} (hb : 94 ≤ b.2.1) {n : Nat} (hn : n ≤ 56) (hm : jmc M = nI n) : CM (d + 5) 1 6 yX5_account cX5_account 2 (some .int) [.ref 0, .int 2] b Y M (.inl (some (.int (jwc (jcount M n))))) (jcount M n) := by
  refine Con.of (by decide +kernel) (Nat.le_of_ble_eq_true rfl) rfl fun p l e s m args below meth c D tyc A ad0 x hr htab hname => ?_
  change JJ _ _ _ _ _ _ _ _ _ _ _ _ _ _ _ _ _ 0 [some (.ref 0), some (.int 2)] [] _ 0 0
  refine j_iload_n x dX5_account_0 rfl ?_
  refine j_if_lt (tgt := 10) x dX5_account_1 (by decide) (fun hc => absurd hc (by decide)) (fun hc => ?_)
  refine j_iload_n x dX5_account_4 rfl ?_
  refine j_bipush (v := 14) x dX5_account_5 (by decide) ?_
  refine j_icmp_le (tgt := 21) x dX5_account_7 (by decide) (fun hc => ?_) (fun hc => absurd (by decide) hc)
  refine j_aload_n x dX5_account_21 rfl ?_
  refine j2_callVv x hb dX5_account_22 m_X5_count (c_count (d := d) hb hn hm) wmX5_187 jc_9 rfl rfl rfl (Nat.le_of_ble_eq_true rfl) (j_fit_rm (by omega) (by omega) (by omega)) rfl ?_
  refine j_iload_n x dX5_account_25 rfl ?_
  refine j_tableIn (tgt := 120) x dX5_account_26 (by decide) (by decide) rfl (by decide) ?_
  refine j_aload_n x dX5_account_120 rfl ?_
  refine j2_callVi x hb dX5_account_121 m_X5_weekCount (c_weekCount (d := d) hb) wmX5_392 jc_9 rfl rfl rfl (Nat.le_of_ble_eq_true rfl) (j_fit_rm (by omega) (by omega) (by omega)) rfl ?_
  exact j_ireturn x hr dX5_account_124 (by omega) (by omega) ⟨rfl, rfl⟩
theorem c_account_k3 {d : Nat} {b : SBt} {Y : OUt} {M : MM} (hb : 94 ≤ b.2.1) {n : Nat} (hn : n ≤ 56) (hm : jmc M = nI n) : CM (d + 5) 1 6 yX5_account cX5_account 2 (some .int) [.ref 0, .int 3] b Y M (.inl (some (.int (jcount M n 1 3)))) (jcount M n) := by
  refine Con.of (by decide +kernel) (Nat.le_of_ble_eq_true rfl) rfl fun p l e s m args below meth c D tyc A ad0 x hr htab hname => ?_
  change JJ _ _ _ _ _ _ _ _ _ _ _ _ _ _ _ _ _ 0 [some (.ref 0), some (.int 3)] [] _ 0 0
  refine j_iload_n x dX5_account_0 rfl ?_
  refine j_if_lt (tgt := 10) x dX5_account_1 (by decide) (fun hc => absurd hc (by decide)) (fun hc => ?_)
  refine j_iload_n x dX5_account_4 rfl ?_
  refine j_bipush (v := 14) x dX5_account_5 (by decide) ?_
  refine j_icmp_le (tgt := 21) x dX5_account_7 (by decide) (fun hc => ?_) (fun hc => absurd (by decide) hc)
  refine j_aload_n x dX5_account_21 rfl ?_
  refine j2_callVv x hb dX5_account_22 m_X5_count (c_count (d := d) hb hn hm) wmX5_187 jc_9 rfl rfl rfl (Nat.le_of_ble_eq_true rfl) (j_fit_rm (by omega) (by omega) (by omega)) rfl ?_
  refine j_iload_n x dX5_account_25 rfl ?_
  refine j_tableIn (tgt := 125) x dX5_account_26 (by decide) (by decide) rfl (by decide) ?_
  refine j_aload_n x dX5_account_125 rfl ?_
  refine j2_getr (k := 0) (r := 1) x hb dX5_account_126 jc_9 wfX5_10 (by decide) rfl ?_
  refine j2_geti (k := 3) x hb dX5_account_129 jc_6 wfX5_160 (by decide) rfl ?_
  exact j_ireturn x hr dX5_account_132 (by omega) (by omega) ⟨rfl, rfl⟩
theorem c_account_k4 {d : Nat} {b : SBt} {Y : OUt} {M : MM} (hb : 94 ≤ b.2.1) {n : Nat} (hn : n ≤ 56) (hm : jmc M = nI n) : CM (d + 5) 1 6 yX5_account cX5_account 2 (some .int) [.ref 0, .int 4] b Y M (.inl (some (.int (jmc (jcount M n))))) (jcount M n) := by
  refine Con.of (by decide +kernel) (Nat.le_of_ble_eq_true rfl) rfl fun p l e s m args below meth c D tyc A ad0 x hr htab hname => ?_
  change JJ _ _ _ _ _ _ _ _ _ _ _ _ _ _ _ _ _ 0 [some (.ref 0), some (.int 4)] [] _ 0 0
  refine j_iload_n x dX5_account_0 rfl ?_
  refine j_if_lt (tgt := 10) x dX5_account_1 (by decide) (fun hc => absurd hc (by decide)) (fun hc => ?_)
  refine j_iload_n x dX5_account_4 rfl ?_
  refine j_bipush (v := 14) x dX5_account_5 (by decide) ?_
  refine j_icmp_le (tgt := 21) x dX5_account_7 (by decide) (fun hc => ?_) (fun hc => absurd (by decide) hc)
  refine j_aload_n x dX5_account_21 rfl ?_
  refine j2_callVv x hb dX5_account_22 m_X5_count (c_count (d := d) hb hn hm) wmX5_187 jc_9 rfl rfl rfl (Nat.le_of_ble_eq_true rfl) (j_fit_rm (by omega) (by omega) (by omega)) rfl ?_
  refine j_iload_n x dX5_account_25 rfl ?_
  refine j_tableIn (tgt := 133) x dX5_account_26 (by decide) (by decide) rfl (by decide) ?_
  refine j_aload_n x dX5_account_133 rfl ?_
  refine j2_callVi x hb dX5_account_134 m_X5_meetingCount (c_meetingCount (d := d) hb) wmX5_258 jc_9 rfl rfl rfl (Nat.le_of_ble_eq_true rfl) (j_fit_rm (by omega) (by omega) (by omega)) rfl ?_
  exact j_ireturn x hr dX5_account_137 (by omega) (by omega) ⟨rfl, rfl⟩
theorem c_account_k5 {d : Nat} {b : SBt} {Y : OUt} {M : MM} (hb : 94 ≤ b.2.1) {n : Nat} (hn : n ≤ 56) (hm : jmc M = nI n) : CM (d + 5) 1 6 yX5_account cX5_account 2 (some .int) [.ref 0, .int 5] b Y M (.inl (some (.int (jcount M n 75 0)))) (jcount M n) := by
  refine Con.of (by decide +kernel) (Nat.le_of_ble_eq_true rfl) rfl fun p l e s m args below meth c D tyc A ad0 x hr htab hname => ?_
  change JJ _ _ _ _ _ _ _ _ _ _ _ _ _ _ _ _ _ 0 [some (.ref 0), some (.int 5)] [] _ 0 0
  refine j_iload_n x dX5_account_0 rfl ?_
  refine j_if_lt (tgt := 10) x dX5_account_1 (by decide) (fun hc => absurd hc (by decide)) (fun hc => ?_)
  refine j_iload_n x dX5_account_4 rfl ?_
  refine j_bipush (v := 14) x dX5_account_5 (by decide) ?_
  refine j_icmp_le (tgt := 21) x dX5_account_7 (by decide) (fun hc => ?_) (fun hc => absurd (by decide) hc)
  refine j_aload_n x dX5_account_21 rfl ?_
  refine j2_callVv x hb dX5_account_22 m_X5_count (c_count (d := d) hb hn hm) wmX5_187 jc_9 rfl rfl rfl (Nat.le_of_ble_eq_true rfl) (j_fit_rm (by omega) (by omega) (by omega)) rfl ?_
  refine j_iload_n x dX5_account_25 rfl ?_
  refine j_tableIn (tgt := 138) x dX5_account_26 (by decide) (by decide) rfl (by decide) ?_
  refine j_aload_n x dX5_account_138 rfl ?_
  refine j2_getr (k := 5) (r := 75) x hb dX5_account_139 jc_9 wfX5_36 (by decide) rfl ?_
  refine j2_geti (k := 0) x hb dX5_account_142 jc_7 wfX5_372 (by decide) rfl ?_
  exact j_ireturn x hr dX5_account_145 (by omega) (by omega) ⟨rfl, rfl⟩
theorem c_account_k6 {d : Nat} {b : SBt} {Y : OUt} {M : MM} (hb : 94 ≤ b.2.1) {n : Nat} (hn : n ≤ 56) (hm : jmc M = nI n) : CM (d + 5) 1 6 yX5_account cX5_account 2 (some .int) [.ref 0, .int 6] b Y M (.inl (some (.int (jsum (fPut (jcount M n)) n)))) (jcount M n) := by
  refine Con.of (by decide +kernel) (Nat.le_of_ble_eq_true rfl) rfl fun p l e s m args below meth c D tyc A ad0 x hr htab hname => ?_
  change JJ _ _ _ _ _ _ _ _ _ _ _ _ _ _ _ _ _ 0 [some (.ref 0), some (.int 6)] [] _ 0 0
  refine j_iload_n x dX5_account_0 rfl ?_
  refine j_if_lt (tgt := 10) x dX5_account_1 (by decide) (fun hc => absurd hc (by decide)) (fun hc => ?_)
  refine j_iload_n x dX5_account_4 rfl ?_
  refine j_bipush (v := 14) x dX5_account_5 (by decide) ?_
  refine j_icmp_le (tgt := 21) x dX5_account_7 (by decide) (fun hc => ?_) (fun hc => absurd (by decide) hc)
  refine j_aload_n x dX5_account_21 rfl ?_
  refine j2_callVv x hb dX5_account_22 m_X5_count (c_count (d := d) hb hn hm) wmX5_187 jc_9 rfl rfl rfl (Nat.le_of_ble_eq_true rfl) (j_fit_rm (by omega) (by omega) (by omega)) rfl ?_
  refine j_iload_n x dX5_account_25 rfl ?_
  refine j_tableIn (tgt := 146) x dX5_account_26 (by decide) (by decide) rfl (by decide) ?_
  refine j_aload_n x dX5_account_146 rfl ?_
  refine j2_callVi x hb dX5_account_147 m_X5_putOffCount (c_putOffCount (d := d) hb hn (by rw [jmc_c (M := M) (jcount_n (by omega)) (jcount_n (by omega))]; exact hm)) wmX5_395 jc_9 rfl rfl rfl (Nat.le_of_ble_eq_true rfl) (j_fit_rm (by omega) (by omega) (by omega)) rfl ?_
  exact j_ireturn x hr dX5_account_150 (by omega) (by omega) ⟨rfl, rfl⟩
theorem c_account_k7 {d : Nat} {b : SBt} {Y : OUt} {M : MM} (hb : 94 ≤ b.2.1) {n : Nat} (hn : n ≤ 56) (hm : jmc M = nI n) : CM (d + 5) 1 6 yX5_account cX5_account 2 (some .int) [.ref 0, .int 7] b Y M (.inl (some (.int (jcount M n 1 4)))) (jcount M n) := by
  refine Con.of (by decide +kernel) (Nat.le_of_ble_eq_true rfl) rfl fun p l e s m args below meth c D tyc A ad0 x hr htab hname => ?_
  change JJ _ _ _ _ _ _ _ _ _ _ _ _ _ _ _ _ _ 0 [some (.ref 0), some (.int 7)] [] _ 0 0
  refine j_iload_n x dX5_account_0 rfl ?_
  refine j_if_lt (tgt := 10) x dX5_account_1 (by decide) (fun hc => absurd hc (by decide)) (fun hc => ?_)
  refine j_iload_n x dX5_account_4 rfl ?_
  refine j_bipush (v := 14) x dX5_account_5 (by decide) ?_
  refine j_icmp_le (tgt := 21) x dX5_account_7 (by decide) (fun hc => ?_) (fun hc => absurd (by decide) hc)
  refine j_aload_n x dX5_account_21 rfl ?_
  refine j2_callVv x hb dX5_account_22 m_X5_count (c_count (d := d) hb hn hm) wmX5_187 jc_9 rfl rfl rfl (Nat.le_of_ble_eq_true rfl) (j_fit_rm (by omega) (by omega) (by omega)) rfl ?_
  refine j_iload_n x dX5_account_25 rfl ?_
  refine j_tableIn (tgt := 151) x dX5_account_26 (by decide) (by decide) rfl (by decide) ?_
  refine j_aload_n x dX5_account_151 rfl ?_
  refine j2_getr (k := 0) (r := 1) x hb dX5_account_152 jc_9 wfX5_10 (by decide) rfl ?_
  refine j2_geti (k := 4) x hb dX5_account_155 jc_6 wfX5_119 (by decide) rfl ?_
  exact j_ireturn x hr dX5_account_158 (by omega) (by omega) ⟨rfl, rfl⟩
theorem c_account_k8 {d : Nat} {b : SBt} {Y : OUt} {M : MM} (hb : 94 ≤ b.2.1) {n : Nat} (hn : n ≤ 56) (hm : jmc M = nI n) : CM (d + 5) 1 6 yX5_account cX5_account 2 (some .int) [.ref 0, .int 8] b Y M (.inl (some (.int (jcount M n 1 5)))) (jcount M n) := by
  refine Con.of (by decide +kernel) (Nat.le_of_ble_eq_true rfl) rfl fun p l e s m args below meth c D tyc A ad0 x hr htab hname => ?_
  change JJ _ _ _ _ _ _ _ _ _ _ _ _ _ _ _ _ _ 0 [some (.ref 0), some (.int 8)] [] _ 0 0
  refine j_iload_n x dX5_account_0 rfl ?_
  refine j_if_lt (tgt := 10) x dX5_account_1 (by decide) (fun hc => absurd hc (by decide)) (fun hc => ?_)
  refine j_iload_n x dX5_account_4 rfl ?_
  refine j_bipush (v := 14) x dX5_account_5 (by decide) ?_
  refine j_icmp_le (tgt := 21) x dX5_account_7 (by decide) (fun hc => ?_) (fun hc => absurd (by decide) hc)
  refine j_aload_n x dX5_account_21 rfl ?_
  refine j2_callVv x hb dX5_account_22 m_X5_count (c_count (d := d) hb hn hm) wmX5_187 jc_9 rfl rfl rfl (Nat.le_of_ble_eq_true rfl) (j_fit_rm (by omega) (by omega) (by omega)) rfl ?_
  refine j_iload_n x dX5_account_25 rfl ?_
  refine j_tableIn (tgt := 159) x dX5_account_26 (by decide) (by decide) rfl (by decide) ?_
  refine j_aload_n x dX5_account_159 rfl ?_
  refine j2_getr (k := 0) (r := 1) x hb dX5_account_160 jc_9 wfX5_10 (by decide) rfl ?_
  refine j2_geti (k := 5) x hb dX5_account_163 jc_6 wfX5_122 (by decide) rfl ?_
  exact j_ireturn x hr dX5_account_166 (by omega) (by omega) ⟨rfl, rfl⟩
theorem c_account_k9 {d : Nat} {b : SBt} {Y : OUt} {M : MM} (hb : 94 ≤ b.2.1) {n : Nat} (hn : n ≤ 56) (hm : jmc M = nI n) : CM (d + 5) 1 6 yX5_account cX5_account 2 (some .int) [.ref 0, .int 9] b Y M (.inl (some (.int (jcount M n 1 6)))) (jcount M n) := by
  refine Con.of (by decide +kernel) (Nat.le_of_ble_eq_true rfl) rfl fun p l e s m args below meth c D tyc A ad0 x hr htab hname => ?_
  change JJ _ _ _ _ _ _ _ _ _ _ _ _ _ _ _ _ _ 0 [some (.ref 0), some (.int 9)] [] _ 0 0
  refine j_iload_n x dX5_account_0 rfl ?_
  refine j_if_lt (tgt := 10) x dX5_account_1 (by decide) (fun hc => absurd hc (by decide)) (fun hc => ?_)
  refine j_iload_n x dX5_account_4 rfl ?_
  refine j_bipush (v := 14) x dX5_account_5 (by decide) ?_
  refine j_icmp_le (tgt := 21) x dX5_account_7 (by decide) (fun hc => ?_) (fun hc => absurd (by decide) hc)
  refine j_aload_n x dX5_account_21 rfl ?_
  refine j2_callVv x hb dX5_account_22 m_X5_count (c_count (d := d) hb hn hm) wmX5_187 jc_9 rfl rfl rfl (Nat.le_of_ble_eq_true rfl) (j_fit_rm (by omega) (by omega) (by omega)) rfl ?_
  refine j_iload_n x dX5_account_25 rfl ?_
  refine j_tableIn (tgt := 167) x dX5_account_26 (by decide) (by decide) rfl (by decide) ?_
  refine j_aload_n x dX5_account_167 rfl ?_
  refine j2_getr (k := 0) (r := 1) x hb dX5_account_168 jc_9 wfX5_10 (by decide) rfl ?_
  refine j2_geti (k := 6) x hb dX5_account_171 jc_6 wfX5_135 (by decide) rfl ?_
  exact j_ireturn x hr dX5_account_174 (by omega) (by omega) ⟨rfl, rfl⟩
theorem c_account_k10 {d : Nat} {b : SBt} {Y : OUt} {M : MM} (hb : 94 ≤ b.2.1) {n : Nat} (hn : n ≤ 56) (hm : jmc M = nI n) : CM (d + 5) 1 6 yX5_account cX5_account 2 (some .int) [.ref 0, .int 10] b Y M (.inl (some (.int (jcount M n 75 1)))) (jcount M n) := by
  refine Con.of (by decide +kernel) (Nat.le_of_ble_eq_true rfl) rfl fun p l e s m args below meth c D tyc A ad0 x hr htab hname => ?_
  change JJ _ _ _ _ _ _ _ _ _ _ _ _ _ _ _ _ _ 0 [some (.ref 0), some (.int 10)] [] _ 0 0
  refine j_iload_n x dX5_account_0 rfl ?_
  refine j_if_lt (tgt := 10) x dX5_account_1 (by decide) (fun hc => absurd hc (by decide)) (fun hc => ?_)
  refine j_iload_n x dX5_account_4 rfl ?_
  refine j_bipush (v := 14) x dX5_account_5 (by decide) ?_
  refine j_icmp_le (tgt := 21) x dX5_account_7 (by decide) (fun hc => ?_) (fun hc => absurd (by decide) hc)
  refine j_aload_n x dX5_account_21 rfl ?_
  refine j2_callVv x hb dX5_account_22 m_X5_count (c_count (d := d) hb hn hm) wmX5_187 jc_9 rfl rfl rfl (Nat.le_of_ble_eq_true rfl) (j_fit_rm (by omega) (by omega) (by omega)) rfl ?_
  refine j_iload_n x dX5_account_25 rfl ?_
  refine j_tableIn (tgt := 175) x dX5_account_26 (by decide) (by decide) rfl (by decide) ?_
  refine j_aload_n x dX5_account_175 rfl ?_
  refine j2_getr (k := 5) (r := 75) x hb dX5_account_176 jc_9 wfX5_36 (by decide) rfl ?_
  refine j2_geti (k := 1) x hb dX5_account_179 jc_7 wfX5_380 (by decide) rfl ?_
  exact j_ireturn x hr dX5_account_182 (by omega) (by omega) ⟨rfl, rfl⟩
theorem c_account_k11 {d : Nat} {b : SBt} {Y : OUt} {M : MM} (hb : 94 ≤ b.2.1) {n : Nat} (hn : n ≤ 56) (hm : jmc M = nI n) {w : Nat} (hw : w ≤ 8) (h0 : M 1 0 = nI w) : CM (d + 5) 1 6 yX5_account cX5_account 2 (some .int) [.ref 0, .int 11] b Y M (.inl (some (.int (jsum (fun i => jat 8 (jcount M n 76) (nI i)) w)))) (jcount M n) := by
  refine Con.of (by decide +kernel) (Nat.le_of_ble_eq_true rfl) rfl fun p l e s m args below meth c D tyc A ad0 x hr htab hname => ?_
  change JJ _ _ _ _ _ _ _ _ _ _ _ _ _ _ _ _ _ 0 [some (.ref 0), some (.int 11)] [] _ 0 0
  refine j_iload_n x dX5_account_0 rfl ?_
  refine j_if_lt (tgt := 10) x dX5_account_1 (by decide) (fun hc => absurd hc (by decide)) (fun hc => ?_)
  refine j_iload_n x dX5_account_4 rfl ?_
  refine j_bipush (v := 14) x dX5_account_5 (by decide) ?_
  refine j_icmp_le (tgt := 21) x dX5_account_7 (by decide) (fun hc => ?_) (fun hc => absurd (by decide) hc)
  refine j_aload_n x dX5_account_21 rfl ?_
  refine j2_callVv x hb dX5_account_22 m_X5_count (c_count (d := d) hb hn hm) wmX5_187 jc_9 rfl rfl rfl (Nat.le_of_ble_eq_true rfl) (j_fit_rm (by omega) (by omega) (by omega)) rfl ?_
  refine j_iload_n x dX5_account_25 rfl ?_
  refine j_tableIn (tgt := 183) x dX5_account_26 (by decide) (by decide) rfl (by decide) ?_
  refine j_aload_n x dX5_account_183 rfl ?_
  refine j2_callVi x hb dX5_account_184 m_X5_allPoints (c_allPoints (d := d) hb hw (by rw [jcount_n (by omega)]; exact h0)) wmX5_398 jc_9 rfl rfl rfl (Nat.le_of_ble_eq_true rfl) (j_fit_rm (by omega) (by omega) (by omega)) rfl ?_
  exact j_ireturn x hr dX5_account_187 (by omega) (by omega) ⟨rfl, rfl⟩
theorem c_account_k12 {d : Nat} {b : SBt} {Y : OUt} {M : MM} (hb : 94 ≤ b.2.1) {n : Nat} (hn : n ≤ 56) (hm : jmc M = nI n) {z : Nat} (hz : z ≤ 14) (hwz : jwc M = nI z) : CM (d + 5) 1 6 yX5_account cX5_account 2 (some .int) [.ref 0, .int 12] b Y M (.inl (some (.int (jsum (fun w => jpairs (jcount M n) n (nI w)) z)))) (jcount M n) := by
  refine Con.of (by decide +kernel) (Nat.le_of_ble_eq_true rfl) rfl fun p l e s m args below meth c D tyc A ad0 x hr htab hname => ?_
  change JJ _ _ _ _ _ _ _ _ _ _ _ _ _ _ _ _ _ 0 [some (.ref 0), some (.int 12)] [] _ 0 0
  refine j_iload_n x dX5_account_0 rfl ?_
  refine j_if_lt (tgt := 10) x dX5_account_1 (by decide) (fun hc => absurd hc (by decide)) (fun hc => ?_)
  refine j_iload_n x dX5_account_4 rfl ?_
  refine j_bipush (v := 14) x dX5_account_5 (by decide) ?_
  refine j_icmp_le (tgt := 21) x dX5_account_7 (by decide) (fun hc => ?_) (fun hc => absurd (by decide) hc)
  refine j_aload_n x dX5_account_21 rfl ?_
  refine j2_callVv x hb dX5_account_22 m_X5_count (c_count (d := d) hb hn hm) wmX5_187 jc_9 rfl rfl rfl (Nat.le_of_ble_eq_true rfl) (j_fit_rm (by omega) (by omega) (by omega)) rfl ?_
  refine j_iload_n x dX5_account_25 rfl ?_
  refine j_tableIn (tgt := 188) x dX5_account_26 (by decide) (by decide) rfl (by decide) ?_
  refine j_aload_n x dX5_account_188 rfl ?_
  refine j2_callVi x hb dX5_account_189 m_X5_allClashes (c_allClashes (d := d) hb hn (by rw [jmc_c (M := M) (jcount_n (by omega)) (jcount_n (by omega))]; exact hm) hz (by rw [jwc_c (M := M) (jcount_n (by omega)) (jcount_n (by omega))]; exact hwz)) wmX5_401 jc_9 rfl rfl rfl (Nat.le_of_ble_eq_true rfl) (j_fit_rm (by omega) (by omega) (by omega)) rfl ?_
  exact j_ireturn x hr dX5_account_192 (by omega) (by omega) ⟨rfl, rfl⟩
theorem c_account_k13 {d : Nat} {b : SBt} {Y : OUt} {M : MM} (hb : 94 ≤ b.2.1) {n : Nat} (hn : n ≤ 56) (hm : jmc M = nI n) : CM (d + 5) 1 6 yX5_account cX5_account 2 (some .int) [.ref 0, .int 13] b Y M (.inl (some (.int (jcount M n 13 2)))) (jcount M n) := by
  refine Con.of (by decide +kernel) (Nat.le_of_ble_eq_true rfl) rfl fun p l e s m args below meth c D tyc A ad0 x hr htab hname => ?_
  change JJ _ _ _ _ _ _ _ _ _ _ _ _ _ _ _ _ _ 0 [some (.ref 0), some (.int 13)] [] _ 0 0
  refine j_iload_n x dX5_account_0 rfl ?_
  refine j_if_lt (tgt := 10) x dX5_account_1 (by decide) (fun hc => absurd hc (by decide)) (fun hc => ?_)
  refine j_iload_n x dX5_account_4 rfl ?_
  refine j_bipush (v := 14) x dX5_account_5 (by decide) ?_
  refine j_icmp_le (tgt := 21) x dX5_account_7 (by decide) (fun hc => ?_) (fun hc => absurd (by decide) hc)
  refine j_aload_n x dX5_account_21 rfl ?_
  refine j2_callVv x hb dX5_account_22 m_X5_count (c_count (d := d) hb hn hm) wmX5_187 jc_9 rfl rfl rfl (Nat.le_of_ble_eq_true rfl) (j_fit_rm (by omega) (by omega) (by omega)) rfl ?_
  refine j_iload_n x dX5_account_25 rfl ?_
  refine j_tableIn (tgt := 193) x dX5_account_26 (by decide) (by decide) rfl (by decide) ?_
  refine j_aload_n x dX5_account_193 rfl ?_
  refine j2_getr (k := 3) (r := 13) x hb dX5_account_194 jc_9 wfX5_22 (by decide) rfl ?_
  refine j2_geti (k := 2) x hb dX5_account_197 jc_5 wfX5_404 (by decide) rfl ?_
  exact j_ireturn x hr dX5_account_200 (by omega) (by omega) ⟨rfl, rfl⟩
theorem c_account_k14 {d : Nat} {b : SBt} {Y : OUt} {M : MM} (hb : 94 ≤ b.2.1) {n : Nat} (hn : n ≤ 56) (hm : jmc M = nI n) : CM (d + 5) 1 6 yX5_account cX5_account 2 (some .int) [.ref 0, .int 14] b Y M (.inl (some (.int (jcount M n 86 0)))) (jcount M n) := by
  refine Con.of (by decide +kernel) (Nat.le_of_ble_eq_true rfl) rfl fun p l e s m args below meth c D tyc A ad0 x hr htab hname => ?_
  change JJ _ _ _ _ _ _ _ _ _ _ _ _ _ _ _ _ _ 0 [some (.ref 0), some (.int 14)] [] _ 0 0
  refine j_iload_n x dX5_account_0 rfl ?_
  refine j_if_lt (tgt := 10) x dX5_account_1 (by decide) (fun hc => absurd hc (by decide)) (fun hc => ?_)
  refine j_iload_n x dX5_account_4 rfl ?_
  refine j_bipush (v := 14) x dX5_account_5 (by decide) ?_
  refine j_icmp_le (tgt := 21) x dX5_account_7 (by decide) (fun hc => ?_) (fun hc => absurd (by decide) hc)
  refine j_aload_n x dX5_account_21 rfl ?_
  refine j2_callVv x hb dX5_account_22 m_X5_count (c_count (d := d) hb hn hm) wmX5_187 jc_9 rfl rfl rfl (Nat.le_of_ble_eq_true rfl) (j_fit_rm (by omega) (by omega) (by omega)) rfl ?_
  refine j_iload_n x dX5_account_25 rfl ?_
  refine j_tableOut (tgt := 201) x dX5_account_26 (by decide) (by decide) ?_
  refine j_aload_n x dX5_account_201 rfl ?_
  refine j2_getr (k := 7) (r := 86) x hb dX5_account_202 jc_9 wfX5_47 (by decide) rfl ?_
  refine j2_geti (k := 0) x hb dX5_account_205 jc_8 wfX5_314 (by decide) rfl ?_
  exact j_ireturn x hr dX5_account_208 (by omega) (by omega) ⟨rfl, rfl⟩
theorem c_meanGoals_no {d : Nat} {b : SBt} {Y : OUt} {M : MM} (hb : 94 ≤ b.2.1) {n : Nat} (hn : n ≤ 56) (hm : jmc M = nI n) (h : jcount M n 75 0 = 0) : CM (d + 5) 1 6 yX5_meanGoals cX5_meanGoals 1 (some .float) [.ref 0] b Y M (.inr "java/lang/ArithmeticException") (jcount M n) := by
  refine Con.of (by decide +kernel) (Nat.le_of_ble_eq_true rfl) rfl fun p l e s m args below meth c D tyc A ad0 x hr htab hname => ?_
  change JJ _ _ _ _ _ _ _ _ _ _ _ _ _ _ _ _ _ 0 [some (.ref 0)] [] _ 0 0
  refine j_aload_n x dX5_meanGoals_0 rfl ?_
  refine j2_callVv x hb dX5_meanGoals_1 m_X5_count (c_count (d := d) hb hn hm) wmX5_187 jc_9 rfl rfl rfl (Nat.le_of_ble_eq_true rfl) (j_fit_rm (by omega) (by omega) (by omega)) rfl ?_
  refine j_aload_n x dX5_meanGoals_4 rfl ?_
  refine j2_getr (k := 5) (r := 75) x hb dX5_meanGoals_5 jc_9 wfX5_36 (by decide) rfl ?_
  refine j2_geti (k := 0) x hb dX5_meanGoals_8 jc_7 wfX5_372 (by decide) rfl ?_
  refine j_if_ne (tgt := 25) x dX5_meanGoals_11 (by decide) (fun hc => absurd hc (fun q => q h)) (fun hc => ?_)
  exact j_throwSW x exX5_375 wsX5_377 dX5_meanGoals_14 dX5_meanGoals_17 dX5_meanGoals_18 dX5_meanGoals_21 dX5_meanGoals_24 htab (by omega) (by omega) ⟨rfl, rfl⟩
theorem c_homeShare_no {d : Nat} {b : SBt} {Y : OUt} {M : MM} (hb : 94 ≤ b.2.1) {n : Nat} (hn : n ≤ 56) (hm : jmc M = nI n) (h : jcount M n 75 0 = 0) : CM (d + 5) 1 6 yX5_homeShare cX5_homeShare 1 (some .double) [.ref 0] b Y M (.inr "java/lang/ArithmeticException") (jcount M n) := by
  refine Con.of (by decide +kernel) (Nat.le_of_ble_eq_true rfl) rfl fun p l e s m args below meth c D tyc A ad0 x hr htab hname => ?_
  change JJ _ _ _ _ _ _ _ _ _ _ _ _ _ _ _ _ _ 0 [some (.ref 0)] [] _ 0 0
  refine j_aload_n x dX5_homeShare_0 rfl ?_
  refine j2_callVv x hb dX5_homeShare_1 m_X5_count (c_count (d := d) hb hn hm) wmX5_187 jc_9 rfl rfl rfl (Nat.le_of_ble_eq_true rfl) (j_fit_rm (by omega) (by omega) (by omega)) rfl ?_
  refine j_aload_n x dX5_homeShare_4 rfl ?_
  refine j2_getr (k := 5) (r := 75) x hb dX5_homeShare_5 jc_9 wfX5_36 (by decide) rfl ?_
  refine j2_geti (k := 0) x hb dX5_homeShare_8 jc_7 wfX5_372 (by decide) rfl ?_
  refine j_if_ne (tgt := 25) x dX5_homeShare_11 (by decide) (fun hc => absurd hc (fun q => q h)) (fun hc => ?_)
  exact j_throwSW x exX5_375 wsX5_377 dX5_homeShare_14 dX5_homeShare_17 dX5_homeShare_18 dX5_homeShare_21 dX5_homeShare_24 htab (by omega) (by omega) ⟨rfl, rfl⟩
