/-! ===== the reference: ranks, runs, meetings, accounts ===== -/
def fRank (M : MM) (n w r : Nat) (t : Int32) (i : Nat) : Int32 := jb (jsum (fgPl M n w r (nI i)) w = t)
theorem cx_ranked_ok {d : Nat} {b : SBt} {Y : OUt} {M : MM} (hb : 104 ≤ b.2.1) {t : Int32} {n : Nat} (hn : n ≤ 56) (hct : M 95 9 = nI n) {w : Nat} (hw : w ≤ 8) (h0 : M 95 0 = nI w) {r : Nat} (hr3 : r ≤ 3) (h5 : M 95 5 = nI r) (hru : ∀ i, i < r → M 95 (6 + i) = 0 ∨ M 95 (6 + i) = 1 ∨ M 95 (6 + i) = 2 ∨ M 95 (6 + i) = 3 ∨ M 95 (6 + i) = 4) (h : ¬ jfst (fRank (jm M 94 19 0) n w r t) w = -1) : CM (d + 9) 0 0 yX6_ranked cX6_ranked 3 (some .int) [.ref 94, .int t] b Y M (.inl (some (.int (jfst (fRank (jm M 94 19 0) n w r t) w)))) ((jm M 94 19 0)) := by
  refine Con.of (by decide +kernel) (Nat.le_of_ble_eq_true rfl) rfl fun p l e s m args below meth c D tyc A ad0 x hr htab hname => ?_
  change JJ _ _ _ _ _ _ _ _ _ _ _ _ _ _ _ _ _ 0 [some (.ref 94), some (.int t), none] [] _ 0 0
  refine j_aload_n x dX6_ranked_0 rfl ?_
  refine j_iconst (v := 0) x dX6_ranked_1 (by decide) ?_
  refine j2_puti (k := 19) x hb dX6_ranked_2 jc_10 wfX6_36 (by decide) rfl rfl rfl rfl ?_
  refine j_iconst (v := 0) x dX6_ranked_5 (by decide) ?_
  refine j_istore_n x dX6_ranked_6 (by decide) rfl ?_
  refine j_for (w) (fun z0 => [some (.ref 94), some (.int t), some (.int (nI z0))]) (fun z0 => (jm M 94 19 0)) (fun z0 => jfst (fRank (jm M 94 19 0) n w r t) z0 = -1) (rfl) (rfl) (rfl) (fun j hj hP ih => ?_) (fun hP => ?_)
  · refine j_iload_n x dX6_ranked_7 rfl ?_
    refine j_aload_n x dX6_ranked_8 rfl ?_
    refine j2_getr (k := 0) (r := 95) x hb dX6_ranked_9 jc_10 wfX6_9 (by decide) rfl ?_
    refine j_iconst (v := 0) x dX6_ranked_12 (by decide) ?_
    refine j2_ialn x hb dX6_ranked_13 fa_95 (j := 0) (vp_c (by decide)) (by decide) ?_; rw [jm_n (by omega), h0]
    refine j_icmp_ge (tgt := 34) x dX6_ranked_14 (by decide) (fun hc => absurd hc (nI_ge hj (by omega))) (fun hc => ?_)
    refine j_aload_n x dX6_ranked_17 rfl ?_
    refine j_iload_n x dX6_ranked_18 rfl ?_
    refine j2_callVi x hb dX6_ranked_19 m_X6_placeIn (cx_placeIn (d := d) hb hn (by rw [jm_n (by omega)]; exact hct) hw (by rw [jm_n (by omega)]; exact h0) hr3 (by rw [jm_n (by omega)]; exact h5) (fun i hi => by rw [jm_n (by omega)]; exact hru i hi)) wmX6_170 jc_10 rfl rfl rfl (Nat.le_of_ble_eq_true rfl) (j_fit_rm (by omega) (by omega) (by omega)) rfl ?_
    refine j_iload_n x dX6_ranked_22 rfl ?_
    refine j_icmp_ne (tgt := 28) x dX6_ranked_23 (by decide) (fun h1 => ?_) (fun h1 => ?_)
    · refine j_iinc x dX6_ranked_28 rfl (by decide) rfl ?_
      refine j_goto (tgt := 7) x dX6_ranked_31 (by decide) ?_
      exact j_goal (ih (jfst_no hP (fun y => absurd ((show fRank (jm M 94 19 0) n w r t j = 0 from jb_f h1).symm.trans y) (by decide)))) (wk_c rfl (wk_c rfl (wk_c (congrArg (fun z => some (Value.int z)) (nI_1 _)) (wk_0)))) (rfl)
    · refine j_iload_n x dX6_ranked_26 rfl ?_
      exact j_ireturn x hr dX6_ranked_27 (by omega) (by omega) ⟨by rw [jfst_at hP (show fRank (jm M 94 19 0) n w r t j = 1 from jb_t h1) (by omega) hj], rfl⟩
  refine j_iload_n x dX6_ranked_7 rfl ?_
  refine j_aload_n x dX6_ranked_8 rfl ?_
  refine j2_getr (k := 0) (r := 95) x hb dX6_ranked_9 jc_10 wfX6_9 (by decide) rfl ?_
  refine j_iconst (v := 0) x dX6_ranked_12 (by decide) ?_
  refine j2_ialn x hb dX6_ranked_13 fa_95 (j := 0) (vp_c (by decide)) (by decide) ?_; rw [jm_n (by omega), h0]
  refine j_icmp_ge (tgt := 34) x dX6_ranked_14 (by decide) (fun hc => ?_) (fun hc => absurd (nI_le (Nat.le_refl _) (by omega)) hc)
  exact absurd hP h
theorem cx_ranked_no {d : Nat} {b : SBt} {Y : OUt} {M : MM} (hb : 104 ≤ b.2.1) {t : Int32} {n : Nat} (hn : n ≤ 56) (hct : M 95 9 = nI n) {w : Nat} (hw : w ≤ 8) (h0 : M 95 0 = nI w) {r : Nat} (hr3 : r ≤ 3) (h5 : M 95 5 = nI r) (hru : ∀ i, i < r → M 95 (6 + i) = 0 ∨ M 95 (6 + i) = 1 ∨ M 95 (6 + i) = 2 ∨ M 95 (6 + i) = 3 ∨ M 95 (6 + i) = 4) (h : jfst (fRank (jm M 94 19 0) n w r t) w = -1) : CM (d + 9) 0 0 yX6_ranked cX6_ranked 3 (some .int) [.ref 94, .int t] b Y M (.inl (some (.int (0)))) (jrai (jm M 94 19 0) 1) := by
  refine Con.of (by decide +kernel) (Nat.le_of_ble_eq_true rfl) rfl fun p l e s m args below meth c D tyc A ad0 x hr htab hname => ?_
  change JJ _ _ _ _ _ _ _ _ _ _ _ _ _ _ _ _ _ 0 [some (.ref 94), some (.int t), none] [] _ 0 0
  refine j_aload_n x dX6_ranked_0 rfl ?_
  refine j_iconst (v := 0) x dX6_ranked_1 (by decide) ?_
  refine j2_puti (k := 19) x hb dX6_ranked_2 jc_10 wfX6_36 (by decide) rfl rfl rfl rfl ?_
  refine j_iconst (v := 0) x dX6_ranked_5 (by decide) ?_
  refine j_istore_n x dX6_ranked_6 (by decide) rfl ?_
  refine j_for (w) (fun z0 => [some (.ref 94), some (.int t), some (.int (nI z0))]) (fun z0 => (jm M 94 19 0)) (fun z0 => jfst (fRank (jm M 94 19 0) n w r t) z0 = -1) (rfl) (rfl) (rfl) (fun j hj hP ih => ?_) (fun hP => ?_)
  · refine j_iload_n x dX6_ranked_7 rfl ?_
    refine j_aload_n x dX6_ranked_8 rfl ?_
    refine j2_getr (k := 0) (r := 95) x hb dX6_ranked_9 jc_10 wfX6_9 (by decide) rfl ?_
    refine j_iconst (v := 0) x dX6_ranked_12 (by decide) ?_
    refine j2_ialn x hb dX6_ranked_13 fa_95 (j := 0) (vp_c (by decide)) (by decide) ?_; rw [jm_n (by omega), h0]
    refine j_icmp_ge (tgt := 34) x dX6_ranked_14 (by decide) (fun hc => absurd hc (nI_ge hj (by omega))) (fun hc => ?_)
    refine j_aload_n x dX6_ranked_17 rfl ?_
    refine j_iload_n x dX6_ranked_18 rfl ?_
    refine j2_callVi x hb dX6_ranked_19 m_X6_placeIn (cx_placeIn (d := d) hb hn (by rw [jm_n (by omega)]; exact hct) hw (by rw [jm_n (by omega)]; exact h0) hr3 (by rw [jm_n (by omega)]; exact h5) (fun i hi => by rw [jm_n (by omega)]; exact hru i hi)) wmX6_170 jc_10 rfl rfl rfl (Nat.le_of_ble_eq_true rfl) (j_fit_rm (by omega) (by omega) (by omega)) rfl ?_
    refine j_iload_n x dX6_ranked_22 rfl ?_
    refine j_icmp_ne (tgt := 28) x dX6_ranked_23 (by decide) (fun h1 => ?_) (fun h1 => ?_)
    · refine j_iinc x dX6_ranked_28 rfl (by decide) rfl ?_
      refine j_goto (tgt := 7) x dX6_ranked_31 (by decide) ?_
      exact j_goal (ih (jfst_no hP (fun y => absurd ((show fRank (jm M 94 19 0) n w r t j = 0 from jb_f h1).symm.trans y) (by decide)))) (wk_c rfl (wk_c rfl (wk_c (congrArg (fun z => some (Value.int z)) (nI_1 _)) (wk_0)))) (rfl)
    · refine j_iload_n x dX6_ranked_26 rfl ?_
      exact j_ireturn x hr dX6_ranked_27 (by omega) (by omega) ⟨absurd ((jfst_at hP (show fRank (jm M 94 19 0) n w r t j = 1 from jb_t h1) (by omega) hj).symm.trans h) (nI_nm1 (by omega)), absurd ((jfst_at hP (show fRank (jm M 94 19 0) n w r t j = 1 from jb_t h1) (by omega) hj).symm.trans h) (nI_nm1 (by omega))⟩
  refine j_iload_n x dX6_ranked_7 rfl ?_
  refine j_aload_n x dX6_ranked_8 rfl ?_
  refine j2_getr (k := 0) (r := 95) x hb dX6_ranked_9 jc_10 wfX6_9 (by decide) rfl ?_
  refine j_iconst (v := 0) x dX6_ranked_12 (by decide) ?_
  refine j2_ialn x hb dX6_ranked_13 fa_95 (j := 0) (vp_c (by decide)) (by decide) ?_; rw [jm_n (by omega), h0]
  refine j_icmp_ge (tgt := 34) x dX6_ranked_14 (by decide) (fun hc => ?_) (fun hc => absurd (nI_le (Nat.le_refl _) (by omega)) hc)
  refine j_aload_n x dX6_ranked_34 rfl ?_
  refine j_iconst (v := 1) x dX6_ranked_35 (by decide) ?_
  refine j2_callVi x hb dX6_ranked_36 m_X6_raises (cx_raises (d := d) hb) wmX6_61 jc_10 rfl rfl rfl (Nat.le_of_ble_eq_true rfl) (j_fit_rm (by omega) (by omega) (by omega)) rfl ?_
  exact j_ireturn x hr dX6_ranked_39 (by omega) (by omega) ⟨rfl, rfl⟩
theorem cx_meetingOf_k0 {d : Nat} {b : SBt} {Y : OUt} {M : MM} (hb : 104 ≤ b.2.1) {n q : Nat} (hn : n ≤ 56) (hct : M 95 9 = nI n) (hq : q < n) : CM (d + 4) 0 0 yX6_meetingOf cX6_meetingOf 3 (some .int) [.ref 94, .int (nI q), .int 0] b Y M (.inl (some (.int (jof (jm M 94 19 0) q 2)))) ((jm M 94 19 0)) := by
  refine Con.of (by decide +kernel) (Nat.le_of_ble_eq_true rfl) rfl fun p l e s m args below meth c D tyc A ad0 x hr htab hname => ?_
  change JJ _ _ _ _ _ _ _ _ _ _ _ _ _ _ _ _ _ 0 [some (.ref 94), some (.int (nI q)), some (.int 0)] [] _ 0 0
  refine j_aload_n x dX6_meetingOf_0 rfl ?_
  refine j_iconst (v := 0) x dX6_meetingOf_1 (by decide) ?_
  refine j2_puti (k := 19) x hb dX6_meetingOf_2 jc_10 wfX6_36 (by decide) rfl rfl rfl rfl ?_
  refine j_aload_n x dX6_meetingOf_5 rfl ?_
  refine j_iload_n x dX6_meetingOf_6 rfl ?_
  refine j2_callVi x hb dX6_meetingOf_7 m_X6_isMeeting (CM_v (cx_isMeeting (d := d) hb) (jb_t ⟨nI_pos (by omega), by rw [jm_n (by omega), hct, show (nI n - 1 : Int32) = nI (n - 1) from nI_sub (d := 1) (by omega)]; exact nI_nlt (by omega) (by omega)⟩)) wmX6_122 jc_10 rfl rfl rfl (Nat.le_of_ble_eq_true rfl) (j_fit_rm (by omega) (by omega) (by omega)) rfl ?_
  refine j_if_ne (tgt := 19) x dX6_meetingOf_10 (by decide) (fun hc => ?_) (fun hc => absurd hc (by decide))
  refine j_iload_n x dX6_meetingOf_19 rfl ?_
  refine j_tableIn (tgt := 64) x dX6_meetingOf_20 (by decide) (by decide) rfl (by decide) ?_
  refine j_aload_n x dX6_meetingOf_64 rfl ?_
  refine j_iload_n x dX6_meetingOf_65 rfl ?_
  refine j_iconst (v := 2) x dX6_meetingOf_66 (by decide) ?_
  refine j2_callVi x hb dX6_meetingOf_67 m_X6_of (cx_of (d := d) hb (m1 := q) (w1 := 2) (by omega) (by decide)) wmX6_68 jc_10 rfl rfl rfl (Nat.le_of_ble_eq_true rfl) (j_fit_rm (by omega) (by omega) (by omega)) rfl ?_
  exact j_ireturn x hr dX6_meetingOf_70 (by omega) (by omega) ⟨rfl, rfl⟩
theorem cx_meetingOf_k1 {d : Nat} {b : SBt} {Y : OUt} {M : MM} (hb : 104 ≤ b.2.1) {n q : Nat} (hn : n ≤ 56) (hct : M 95 9 = nI n) (hq : q < n) : CM (d + 4) 0 0 yX6_meetingOf cX6_meetingOf 3 (some .int) [.ref 94, .int (nI q), .int 1] b Y M (.inl (some (.int (jof (jm M 94 19 0) q 0)))) ((jm M 94 19 0)) := by
  refine Con.of (by decide +kernel) (Nat.le_of_ble_eq_true rfl) rfl fun p l e s m args below meth c D tyc A ad0 x hr htab hname => ?_
  change JJ _ _ _ _ _ _ _ _ _ _ _ _ _ _ _ _ _ 0 [some (.ref 94), some (.int (nI q)), some (.int 1)] [] _ 0 0
  refine j_aload_n x dX6_meetingOf_0 rfl ?_
  refine j_iconst (v := 0) x dX6_meetingOf_1 (by decide) ?_
  refine j2_puti (k := 19) x hb dX6_meetingOf_2 jc_10 wfX6_36 (by decide) rfl rfl rfl rfl ?_
  refine j_aload_n x dX6_meetingOf_5 rfl ?_
  refine j_iload_n x dX6_meetingOf_6 rfl ?_
  refine j2_callVi x hb dX6_meetingOf_7 m_X6_isMeeting (CM_v (cx_isMeeting (d := d) hb) (jb_t ⟨nI_pos (by omega), by rw [jm_n (by omega), hct, show (nI n - 1 : Int32) = nI (n - 1) from nI_sub (d := 1) (by omega)]; exact nI_nlt (by omega) (by omega)⟩)) wmX6_122 jc_10 rfl rfl rfl (Nat.le_of_ble_eq_true rfl) (j_fit_rm (by omega) (by omega) (by omega)) rfl ?_
  refine j_if_ne (tgt := 19) x dX6_meetingOf_10 (by decide) (fun hc => ?_) (fun hc => absurd hc (by decide))
  refine j_iload_n x dX6_meetingOf_19 rfl ?_
  refine j_tableIn (tgt := 71) x dX6_meetingOf_20 (by decide) (by decide) rfl (by decide) ?_
  refine j_aload_n x dX6_meetingOf_71 rfl ?_
  refine j_iload_n x dX6_meetingOf_72 rfl ?_
  refine j_iconst (v := 0) x dX6_meetingOf_73 (by decide) ?_
  refine j2_callVi x hb dX6_meetingOf_74 m_X6_of (cx_of (d := d) hb (m1 := q) (w1 := 0) (by omega) (by decide)) wmX6_68 jc_10 rfl rfl rfl (Nat.le_of_ble_eq_true rfl) (j_fit_rm (by omega) (by omega) (by omega)) rfl ?_
  exact j_ireturn x hr dX6_meetingOf_77 (by omega) (by omega) ⟨rfl, rfl⟩
theorem cx_meetingOf_k2 {d : Nat} {b : SBt} {Y : OUt} {M : MM} (hb : 104 ≤ b.2.1) {n q : Nat} (hn : n ≤ 56) (hct : M 95 9 = nI n) (hq : q < n) : CM (d + 4) 0 0 yX6_meetingOf cX6_meetingOf 3 (some .int) [.ref 94, .int (nI q), .int 2] b Y M (.inl (some (.int (jof (jm M 94 19 0) q 1)))) ((jm M 94 19 0)) := by
  refine Con.of (by decide +kernel) (Nat.le_of_ble_eq_true rfl) rfl fun p l e s m args below meth c D tyc A ad0 x hr htab hname => ?_
  change JJ _ _ _ _ _ _ _ _ _ _ _ _ _ _ _ _ _ 0 [some (.ref 94), some (.int (nI q)), some (.int 2)] [] _ 0 0
  refine j_aload_n x dX6_meetingOf_0 rfl ?_
  refine j_iconst (v := 0) x dX6_meetingOf_1 (by decide) ?_
  refine j2_puti (k := 19) x hb dX6_meetingOf_2 jc_10 wfX6_36 (by decide) rfl rfl rfl rfl ?_
  refine j_aload_n x dX6_meetingOf_5 rfl ?_
  refine j_iload_n x dX6_meetingOf_6 rfl ?_
  refine j2_callVi x hb dX6_meetingOf_7 m_X6_isMeeting (CM_v (cx_isMeeting (d := d) hb) (jb_t ⟨nI_pos (by omega), by rw [jm_n (by omega), hct, show (nI n - 1 : Int32) = nI (n - 1) from nI_sub (d := 1) (by omega)]; exact nI_nlt (by omega) (by omega)⟩)) wmX6_122 jc_10 rfl rfl rfl (Nat.le_of_ble_eq_true rfl) (j_fit_rm (by omega) (by omega) (by omega)) rfl ?_
  refine j_if_ne (tgt := 19) x dX6_meetingOf_10 (by decide) (fun hc => ?_) (fun hc => absurd hc (by decide))
  refine j_iload_n x dX6_meetingOf_19 rfl ?_
  refine j_tableIn (tgt := 78) x dX6_meetingOf_20 (by decide) (by decide) rfl (by decide) ?_
  refine j_aload_n x dX6_meetingOf_78 rfl ?_
  refine j_iload_n x dX6_meetingOf_79 rfl ?_
  refine j_iconst (v := 1) x dX6_meetingOf_80 (by decide) ?_
  refine j2_callVi x hb dX6_meetingOf_81 m_X6_of (cx_of (d := d) hb (m1 := q) (w1 := 1) (by omega) (by decide)) wmX6_68 jc_10 rfl rfl rfl (Nat.le_of_ble_eq_true rfl) (j_fit_rm (by omega) (by omega) (by omega)) rfl ?_
  exact j_ireturn x hr dX6_meetingOf_84 (by omega) (by omega) ⟨rfl, rfl⟩
theorem cx_meetingOf_k3 {d : Nat} {b : SBt} {Y : OUt} {M : MM} (hb : 104 ≤ b.2.1) {n q : Nat} (hn : n ≤ 56) (hct : M 95 9 = nI n) (hq : q < n) : CM (d + 4) 0 0 yX6_meetingOf cX6_meetingOf 3 (some .int) [.ref 94, .int (nI q), .int 3] b Y M (.inl (some (.int (jhow (jm M 94 19 0) q)))) ((jm M 94 19 0)) := by
  refine Con.of (by decide +kernel) (Nat.le_of_ble_eq_true rfl) rfl fun p l e s m args below meth c D tyc A ad0 x hr htab hname => ?_
  change JJ _ _ _ _ _ _ _ _ _ _ _ _ _ _ _ _ _ 0 [some (.ref 94), some (.int (nI q)), some (.int 3)] [] _ 0 0
  refine j_aload_n x dX6_meetingOf_0 rfl ?_
  refine j_iconst (v := 0) x dX6_meetingOf_1 (by decide) ?_
  refine j2_puti (k := 19) x hb dX6_meetingOf_2 jc_10 wfX6_36 (by decide) rfl rfl rfl rfl ?_
  refine j_aload_n x dX6_meetingOf_5 rfl ?_
  refine j_iload_n x dX6_meetingOf_6 rfl ?_
  refine j2_callVi x hb dX6_meetingOf_7 m_X6_isMeeting (CM_v (cx_isMeeting (d := d) hb) (jb_t ⟨nI_pos (by omega), by rw [jm_n (by omega), hct, show (nI n - 1 : Int32) = nI (n - 1) from nI_sub (d := 1) (by omega)]; exact nI_nlt (by omega) (by omega)⟩)) wmX6_122 jc_10 rfl rfl rfl (Nat.le_of_ble_eq_true rfl) (j_fit_rm (by omega) (by omega) (by omega)) rfl ?_
  refine j_if_ne (tgt := 19) x dX6_meetingOf_10 (by decide) (fun hc => ?_) (fun hc => absurd hc (by decide))
  refine j_iload_n x dX6_meetingOf_19 rfl ?_
  refine j_tableIn (tgt := 85) x dX6_meetingOf_20 (by decide) (by decide) rfl (by decide) ?_
  refine j_aload_n x dX6_meetingOf_85 rfl ?_
  refine j_iload_n x dX6_meetingOf_86 rfl ?_
  refine j2_callVi x hb dX6_meetingOf_87 m_X6_how (cx_how (d := d) hb (m1 := q) (by omega)) wmX6_131 jc_10 rfl rfl rfl (Nat.le_of_ble_eq_true rfl) (j_fit_rm (by omega) (by omega) (by omega)) rfl ?_
  exact j_ireturn x hr dX6_meetingOf_90 (by omega) (by omega) ⟨rfl, rfl⟩
theorem cx_meetingOf_k4 {d : Nat} {b : SBt} {Y : OUt} {M : MM} (hb : 104 ≤ b.2.1) {n q : Nat} (hn : n ≤ 56) (hct : M 95 9 = nI n) (hq : q < n) : CM (d + 4) 0 0 yX6_meetingOf cX6_meetingOf 3 (some .int) [.ref 94, .int (nI q), .int 4] b Y M (.inl (some (.int (if jof (jm M 94 19 0) q 4 = 1 then jof (jm M 94 19 0) q 6 else -1)))) ((jm M 94 19 0)) := by
  refine Con.of (by decide +kernel) (Nat.le_of_ble_eq_true rfl) rfl fun p l e s m args below meth c D tyc A ad0 x hr htab hname => ?_
  change JJ _ _ _ _ _ _ _ _ _ _ _ _ _ _ _ _ _ 0 [some (.ref 94), some (.int (nI q)), some (.int 4)] [] _ 0 0
  refine j_aload_n x dX6_meetingOf_0 rfl ?_
  refine j_iconst (v := 0) x dX6_meetingOf_1 (by decide) ?_
  refine j2_puti (k := 19) x hb dX6_meetingOf_2 jc_10 wfX6_36 (by decide) rfl rfl rfl rfl ?_
  refine j_aload_n x dX6_meetingOf_5 rfl ?_
  refine j_iload_n x dX6_meetingOf_6 rfl ?_
  refine j2_callVi x hb dX6_meetingOf_7 m_X6_isMeeting (CM_v (cx_isMeeting (d := d) hb) (jb_t ⟨nI_pos (by omega), by rw [jm_n (by omega), hct, show (nI n - 1 : Int32) = nI (n - 1) from nI_sub (d := 1) (by omega)]; exact nI_nlt (by omega) (by omega)⟩)) wmX6_122 jc_10 rfl rfl rfl (Nat.le_of_ble_eq_true rfl) (j_fit_rm (by omega) (by omega) (by omega)) rfl ?_
  refine j_if_ne (tgt := 19) x dX6_meetingOf_10 (by decide) (fun hc => ?_) (fun hc => absurd hc (by decide))
  refine j_iload_n x dX6_meetingOf_19 rfl ?_
  refine j_tableIn (tgt := 91) x dX6_meetingOf_20 (by decide) (by decide) rfl (by decide) ?_
  refine j_aload_n x dX6_meetingOf_91 rfl ?_
  refine j_iload_n x dX6_meetingOf_92 rfl ?_
  refine j2_callVi x hb dX6_meetingOf_93 m_X6_isPlayed (cx_isPlayed (d := d) hb (m1 := q) (by omega)) wmX6_72 jc_10 rfl rfl rfl (Nat.le_of_ble_eq_true rfl) (j_fit_rm (by omega) (by omega) (by omega)) rfl ?_
  refine j_if_eq (tgt := 113) x dX6_meetingOf_96 (by decide) (fun h1 => ?_) (fun h1 => ?_)
  · refine j_iconst (v := (-1)) x dX6_meetingOf_113 (by decide) ?_
    exact j_ireturn x hr dX6_meetingOf_114 (by omega) (by omega) ⟨by rw [if_neg (jb_0.mp h1)], rfl⟩
  · refine j_aload_n x dX6_meetingOf_99 rfl ?_
    refine j_iload_n x dX6_meetingOf_100 rfl ?_
    refine j_bipush (v := 6) x dX6_meetingOf_101 (by decide) ?_
    refine j_iload_n x dX6_meetingOf_103 rfl ?_
    refine j_iadd x dX6_meetingOf_104 ?_
    refine j_iconst (v := 4) x dX6_meetingOf_105 (by decide) ?_
    refine j_isub x dX6_meetingOf_106 ?_
    refine j2_callVi x hb dX6_meetingOf_107 m_X6_of (cx_of (d := d) hb (m1 := q) (w1 := 6) (by omega) (by decide)) wmX6_68 jc_10 rfl rfl rfl (Nat.le_of_ble_eq_true rfl) (j_fit_rm (by omega) (by omega) (by omega)) rfl ?_
    refine j_goto (tgt := 114) x dX6_meetingOf_110 (by decide) ?_
    exact j_ireturn x hr dX6_meetingOf_114 (by omega) (by omega) ⟨by rw [if_pos (jb_nz.mp h1)], rfl⟩
theorem cx_meetingOf_k5 {d : Nat} {b : SBt} {Y : OUt} {M : MM} (hb : 104 ≤ b.2.1) {n q : Nat} (hn : n ≤ 56) (hct : M 95 9 = nI n) (hq : q < n) : CM (d + 4) 0 0 yX6_meetingOf cX6_meetingOf 3 (some .int) [.ref 94, .int (nI q), .int 5] b Y M (.inl (some (.int (if jof (jm M 94 19 0) q 4 = 1 then jof (jm M 94 19 0) q 7 else -1)))) ((jm M 94 19 0)) := by
  refine Con.of (by decide +kernel) (Nat.le_of_ble_eq_true rfl) rfl fun p l e s m args below meth c D tyc A ad0 x hr htab hname => ?_
  change JJ _ _ _ _ _ _ _ _ _ _ _ _ _ _ _ _ _ 0 [some (.ref 94), some (.int (nI q)), some (.int 5)] [] _ 0 0
  refine j_aload_n x dX6_meetingOf_0 rfl ?_
  refine j_iconst (v := 0) x dX6_meetingOf_1 (by decide) ?_
  refine j2_puti (k := 19) x hb dX6_meetingOf_2 jc_10 wfX6_36 (by decide) rfl rfl rfl rfl ?_
  refine j_aload_n x dX6_meetingOf_5 rfl ?_
  refine j_iload_n x dX6_meetingOf_6 rfl ?_
  refine j2_callVi x hb dX6_meetingOf_7 m_X6_isMeeting (CM_v (cx_isMeeting (d := d) hb) (jb_t ⟨nI_pos (by omega), by rw [jm_n (by omega), hct, show (nI n - 1 : Int32) = nI (n - 1) from nI_sub (d := 1) (by omega)]; exact nI_nlt (by omega) (by omega)⟩)) wmX6_122 jc_10 rfl rfl rfl (Nat.le_of_ble_eq_true rfl) (j_fit_rm (by omega) (by omega) (by omega)) rfl ?_
  refine j_if_ne (tgt := 19) x dX6_meetingOf_10 (by decide) (fun hc => ?_) (fun hc => absurd hc (by decide))
  refine j_iload_n x dX6_meetingOf_19 rfl ?_
  refine j_tableIn (tgt := 91) x dX6_meetingOf_20 (by decide) (by decide) rfl (by decide) ?_
  refine j_aload_n x dX6_meetingOf_91 rfl ?_
  refine j_iload_n x dX6_meetingOf_92 rfl ?_
  refine j2_callVi x hb dX6_meetingOf_93 m_X6_isPlayed (cx_isPlayed (d := d) hb (m1 := q) (by omega)) wmX6_72 jc_10 rfl rfl rfl (Nat.le_of_ble_eq_true rfl) (j_fit_rm (by omega) (by omega) (by omega)) rfl ?_
  refine j_if_eq (tgt := 113) x dX6_meetingOf_96 (by decide) (fun h1 => ?_) (fun h1 => ?_)
  · refine j_iconst (v := (-1)) x dX6_meetingOf_113 (by decide) ?_
    exact j_ireturn x hr dX6_meetingOf_114 (by omega) (by omega) ⟨by rw [if_neg (jb_0.mp h1)], rfl⟩
  · refine j_aload_n x dX6_meetingOf_99 rfl ?_
    refine j_iload_n x dX6_meetingOf_100 rfl ?_
    refine j_bipush (v := 6) x dX6_meetingOf_101 (by decide) ?_
    refine j_iload_n x dX6_meetingOf_103 rfl ?_
    refine j_iadd x dX6_meetingOf_104 ?_
    refine j_iconst (v := 4) x dX6_meetingOf_105 (by decide) ?_
    refine j_isub x dX6_meetingOf_106 ?_
    refine j2_callVi x hb dX6_meetingOf_107 m_X6_of (cx_of (d := d) hb (m1 := q) (w1 := 7) (by omega) (by decide)) wmX6_68 jc_10 rfl rfl rfl (Nat.le_of_ble_eq_true rfl) (j_fit_rm (by omega) (by omega) (by omega)) rfl ?_
    refine j_goto (tgt := 114) x dX6_meetingOf_110 (by decide) ?_
    exact j_ireturn x hr dX6_meetingOf_114 (by omega) (by omega) ⟨by rw [if_pos (jb_nz.mp h1)], rfl⟩
theorem cx_meetingOf_k6 {d : Nat} {b : SBt} {Y : OUt} {M : MM} (hb : 104 ≤ b.2.1) {n q : Nat} (hn : n ≤ 56) (hct : M 95 9 = nI n) (hq : q < n) : CM (d + 4) 0 0 yX6_meetingOf cX6_meetingOf 3 (some .int) [.ref 94, .int (nI q), .int 6] b Y M (.inl (some (.int (jof (jm M 94 19 0) q 3)))) ((jm M 94 19 0)) := by
  refine Con.of (by decide +kernel) (Nat.le_of_ble_eq_true rfl) rfl fun p l e s m args below meth c D tyc A ad0 x hr htab hname => ?_
  change JJ _ _ _ _ _ _ _ _ _ _ _ _ _ _ _ _ _ 0 [some (.ref 94), some (.int (nI q)), some (.int 6)] [] _ 0 0
  refine j_aload_n x dX6_meetingOf_0 rfl ?_
  refine j_iconst (v := 0) x dX6_meetingOf_1 (by decide) ?_
  refine j2_puti (k := 19) x hb dX6_meetingOf_2 jc_10 wfX6_36 (by decide) rfl rfl rfl rfl ?_
  refine j_aload_n x dX6_meetingOf_5 rfl ?_
  refine j_iload_n x dX6_meetingOf_6 rfl ?_
  refine j2_callVi x hb dX6_meetingOf_7 m_X6_isMeeting (CM_v (cx_isMeeting (d := d) hb) (jb_t ⟨nI_pos (by omega), by rw [jm_n (by omega), hct, show (nI n - 1 : Int32) = nI (n - 1) from nI_sub (d := 1) (by omega)]; exact nI_nlt (by omega) (by omega)⟩)) wmX6_122 jc_10 rfl rfl rfl (Nat.le_of_ble_eq_true rfl) (j_fit_rm (by omega) (by omega) (by omega)) rfl ?_
  refine j_if_ne (tgt := 19) x dX6_meetingOf_10 (by decide) (fun hc => ?_) (fun hc => absurd hc (by decide))
  refine j_iload_n x dX6_meetingOf_19 rfl ?_
  refine j_tableIn (tgt := 115) x dX6_meetingOf_20 (by decide) (by decide) rfl (by decide) ?_
  refine j_aload_n x dX6_meetingOf_115 rfl ?_
  refine j_iload_n x dX6_meetingOf_116 rfl ?_
  refine j_iconst (v := 3) x dX6_meetingOf_117 (by decide) ?_
  refine j2_callVi x hb dX6_meetingOf_118 m_X6_of (cx_of (d := d) hb (m1 := q) (w1 := 3) (by omega) (by decide)) wmX6_68 jc_10 rfl rfl rfl (Nat.le_of_ble_eq_true rfl) (j_fit_rm (by omega) (by omega) (by omega)) rfl ?_
  exact j_ireturn x hr dX6_meetingOf_121 (by omega) (by omega) ⟨rfl, rfl⟩
theorem cx_meetingOf_bad {d : Nat} {b : SBt} {Y : OUt} {M : MM} (hb : 104 ≤ b.2.1) {n q : Nat} (hn : n ≤ 56) (hct : M 95 9 = nI n) (hq : q < n) {u : Int32} (hx : u.toInt < 0 ∨ 6 < u.toInt) : CM (d + 4) 0 0 yX6_meetingOf cX6_meetingOf 3 (some .int) [.ref 94, .int (nI q), .int u] b Y M (.inl (some (.int (0)))) (jrai (jm M 94 19 0) 2) := by
  refine Con.of (by decide +kernel) (Nat.le_of_ble_eq_true rfl) rfl fun p l e s m args below meth c D tyc A ad0 x hr htab hname => ?_
  change JJ _ _ _ _ _ _ _ _ _ _ _ _ _ _ _ _ _ 0 [some (.ref 94), some (.int (nI q)), some (.int u)] [] _ 0 0
  refine j_aload_n x dX6_meetingOf_0 rfl ?_
  refine j_iconst (v := 0) x dX6_meetingOf_1 (by decide) ?_
  refine j2_puti (k := 19) x hb dX6_meetingOf_2 jc_10 wfX6_36 (by decide) rfl rfl rfl rfl ?_
  refine j_aload_n x dX6_meetingOf_5 rfl ?_
  refine j_iload_n x dX6_meetingOf_6 rfl ?_
  refine j2_callVi x hb dX6_meetingOf_7 m_X6_isMeeting (CM_v (cx_isMeeting (d := d) hb) (jb_t ⟨nI_pos (by omega), by rw [jm_n (by omega), hct, show (nI n - 1 : Int32) = nI (n - 1) from nI_sub (d := 1) (by omega)]; exact nI_nlt (by omega) (by omega)⟩)) wmX6_122 jc_10 rfl rfl rfl (Nat.le_of_ble_eq_true rfl) (j_fit_rm (by omega) (by omega) (by omega)) rfl ?_
  refine j_if_ne (tgt := 19) x dX6_meetingOf_10 (by decide) (fun hc => ?_) (fun hc => absurd hc (by decide))
  refine j_iload_n x dX6_meetingOf_19 rfl ?_
  refine j_tableOut (tgt := 122) x dX6_meetingOf_20 hx (by decide) ?_
  refine j_aload_n x dX6_meetingOf_122 rfl ?_
  refine j_iconst (v := 2) x dX6_meetingOf_123 (by decide) ?_
  refine j2_callVi x hb dX6_meetingOf_124 m_X6_raises (cx_raises (d := d) hb) wmX6_61 jc_10 rfl rfl rfl (Nat.le_of_ble_eq_true rfl) (j_fit_rm (by omega) (by omega) (by omega)) rfl ?_
  exact j_ireturn x hr dX6_meetingOf_127 (by omega) (by omega) ⟨rfl, rfl⟩
def gRun (M : MM) (t : Int32) : Nat → Int32 × Int32
  | 0 => (0, 0)
  | m + 1 => if ¬ jof M m 4 = 1 then gRun M t m else if ¬ (jof M m 0 = t ∨ jof M m 1 = t) then gRun M t m else
    let g : Int32 := if (if jof M m 0 = t then jb (¬ 0 ≤ jof M m 6 - jof M m 7) else jb (¬ jof M m 6 - jof M m 7 ≤ 0)) = 0 then (gRun M t m).2 + 1 else 0
    ((if (gRun M t m).1 < g then g else (gRun M t m).1), g)
theorem cx_run {d : Nat} {b : SBt} {Y : OUt} {M : MM} (hb : 104 ≤ b.2.1) {t : Int32} (hT : ¬ t < 0 ∧ ¬ M 95 0 - 1 < t) {n : Nat} (hn : n ≤ 56) (hct : M 95 9 = nI n) : CM (d + 3) 0 0 yX6_run cX6_run 8 (some .int) [.ref 94, .int t] b Y M (.inl (some (.int ((gRun (jm M 94 19 0) t n).1)))) ((jm M 94 19 0)) := by
  refine Con.of (by decide +kernel) (Nat.le_of_ble_eq_true rfl) rfl fun p l e s m args below meth c D tyc A ad0 x hr htab hname => ?_
  change JJ _ _ _ _ _ _ _ _ _ _ _ _ _ _ _ _ _ 0 [some (.ref 94), some (.int t), none, none, none, none, none, none] [] _ 0 0
  refine j_aload_n x dX6_run_0 rfl ?_
  refine j_iconst (v := 0) x dX6_run_1 (by decide) ?_
  refine j2_puti (k := 19) x hb dX6_run_2 jc_10 wfX6_36 (by decide) rfl rfl rfl rfl ?_
  refine j_aload_n x dX6_run_5 rfl ?_
  refine j_iload_n x dX6_run_6 rfl ?_
  refine j2_callVi x hb dX6_run_7 m_X6_isTeam (CM_v (cx_isTeam (d := d) hb) (jb_t (by rw [jm_n (by omega)]; exact hT))) wmX6_91 jc_10 rfl rfl rfl (Nat.le_of_ble_eq_true rfl) (j_fit_rm (by omega) (by omega) (by omega)) rfl ?_
  refine j_if_ne (tgt := 19) x dX6_run_10 (by decide) (fun hc => ?_) (fun hc => absurd hc (by decide))
  refine j_iconst (v := 0) x dX6_run_19 (by decide) ?_
  refine j_istore_n x dX6_run_20 (by decide) rfl ?_
  refine j_iconst (v := 0) x dX6_run_21 (by decide) ?_
  refine j_istore_n x dX6_run_22 (by decide) rfl ?_
  refine j_iconst (v := 0) x dX6_run_23 (by decide) ?_
  refine j_istore x dX6_run_24 (by decide) rfl ?_
  refine j_for (n) (fun z0 => [some (.ref 94), some (.int t), some (.int (gRun (jm M 94 19 0) t z0).1), some (.int (gRun (jm M 94 19 0) t z0).2), some (.int (nI z0)), none, none, none]) (fun z0 => (jm M 94 19 0)) (fun z0 => True) (rfl) (rfl) (trivial) (fun j hj hP ih => ?_) (fun hP => ?_)
  · refine j_iload x dX6_run_26 rfl ?_
    refine j_aload_n x dX6_run_28 rfl ?_
    refine j2_getr (k := 0) (r := 95) x hb dX6_run_29 jc_10 wfX6_9 (by decide) rfl ?_
    refine j_bipush (v := 9) x dX6_run_32 (by decide) ?_
    refine j2_ialn x hb dX6_run_34 fa_95 (j := 9) (vp_c (by decide)) (by decide) ?_; rw [jm_n (by omega), hct]
    refine j_icmp_ge (tgt := 158) x dX6_run_35 (by decide) (fun hc => absurd hc (nI_ge hj (by omega))) (fun hc => ?_)
    refine j_aload_n x dX6_run_38 rfl ?_
    refine j_iload x dX6_run_39 rfl ?_
    refine j_iconst (v := 0) x dX6_run_41 (by decide) ?_
    refine j2_callVi x hb dX6_run_42 m_X6_of (cx_of (d := d) hb (m1 := j) (w1 := 0) (by omega) (by decide)) wmX6_68 jc_10 rfl rfl rfl (Nat.le_of_ble_eq_true rfl) (j_fit_rm (by omega) (by omega) (by omega)) rfl ?_
    refine j_iload_n x dX6_run_45 rfl ?_
    refine j_icmp_ne (tgt := 53) x dX6_run_46 (by decide) (fun hA => ?_) (fun hA => ?_)
    · refine j_iconst (v := 0) x dX6_run_53 (by decide) ?_
      refine j_istore x dX6_run_54 (by decide) rfl ?_
      refine j_aload_n x dX6_run_56 rfl ?_
      refine j_iload x dX6_run_57 rfl ?_
      refine j2_callVi x hb dX6_run_59 m_X6_isPlayed (cx_isPlayed (d := d) hb (m1 := j) (by omega)) wmX6_72 jc_10 rfl rfl rfl (Nat.le_of_ble_eq_true rfl) (j_fit_rm (by omega) (by omega) (by omega)) rfl ?_
      refine j_if_eq (tgt := 152) x dX6_run_62 (by decide) (fun h1 => ?_) (fun h1 => ?_)
      · refine j_iinc x dX6_run_152 rfl (by decide) rfl ?_
        refine j_goto (tgt := 26) x dX6_run_155 (by decide) ?_
        exact j_goal (ih (trivial)) (wk_c rfl (wk_c rfl (wk_c (congrArg (fun z => some (Value.int z)) (show _ = (gRun (jm M 94 19 0) t (j + 1)).1 by simp [gRun, jb_0.mp h1])) (wk_c (congrArg (fun z => some (Value.int z)) (show _ = (gRun (jm M 94 19 0) t (j + 1)).2 by simp [gRun, jb_0.mp h1])) (wk_c (congrArg (fun z => some (Value.int z)) (nI_1 _)) (wk_n (wk_n (wk_n (wk_0))))))))) (rfl)
      · refine j_iload x dX6_run_65 rfl ?_
        refine j_if_ne (tgt := 84) x dX6_run_67 (by decide) (fun hc => absurd hc (fun q => q rfl)) (fun hc => ?_)
        refine j_aload_n x dX6_run_70 rfl ?_
        refine j_iload x dX6_run_71 rfl ?_
        refine j_iconst (v := 1) x dX6_run_73 (by decide) ?_
        refine j2_callVi x hb dX6_run_74 m_X6_of (cx_of (d := d) hb (m1 := j) (w1 := 1) (by omega) (by decide)) wmX6_68 jc_10 rfl rfl rfl (Nat.le_of_ble_eq_true rfl) (j_fit_rm (by omega) (by omega) (by omega)) rfl ?_
        refine j_iload_n x dX6_run_77 rfl ?_
        refine j_icmp_eq (tgt := 84) x dX6_run_78 (by decide) (fun hB => ?_) (fun hB => ?_)
        · refine j_aload_n x dX6_run_84 rfl ?_
          refine j_iload x dX6_run_85 rfl ?_
          refine j_bipush (v := 6) x dX6_run_87 (by decide) ?_
          refine j2_callVi x hb dX6_run_89 m_X6_of (cx_of (d := d) hb (m1 := j) (w1 := 6) (by omega) (by decide)) wmX6_68 jc_10 rfl rfl rfl (Nat.le_of_ble_eq_true rfl) (j_fit_rm (by omega) (by omega) (by omega)) rfl ?_
          refine j_aload_n x dX6_run_92 rfl ?_
          refine j_iload x dX6_run_93 rfl ?_
          refine j_bipush (v := 7) x dX6_run_95 (by decide) ?_
          refine j2_callVi x hb dX6_run_97 m_X6_of (cx_of (d := d) hb (m1 := j) (w1 := 7) (by omega) (by decide)) wmX6_68 jc_10 rfl rfl rfl (Nat.le_of_ble_eq_true rfl) (j_fit_rm (by omega) (by omega) (by omega)) rfl ?_
          refine j_isub x dX6_run_100 ?_
          refine j_istore x dX6_run_101 (by decide) rfl ?_
          refine j_iload x dX6_run_103 rfl ?_
          refine j_if_eq (tgt := 121) x dX6_run_105 (by decide) (fun hc => ?_) (fun hc => absurd (rfl) hc)
          refine j_iload x dX6_run_121 rfl ?_
          refine j_if_le (tgt := 130) x dX6_run_123 (by decide) (fun g1 => ?_) (fun g1 => ?_)
          · refine j_iconst (v := 0) x dX6_run_130 (by decide) ?_
            refine j_istore x dX6_run_131 (by decide) rfl ?_
            refine j_iload x dX6_run_133 rfl ?_
            refine j_if_eq (tgt := 142) x dX6_run_135 (by decide) (fun hc => ?_) (fun hc => absurd (rfl) hc)
            refine j_iload_n x dX6_run_142 rfl ?_
            refine j_iconst (v := 1) x dX6_run_143 (by decide) ?_
            refine j_iadd x dX6_run_144 ?_
            refine j_istore_n x dX6_run_145 (by decide) rfl ?_
            refine j_iload_n x dX6_run_146 rfl ?_
            refine j_iload_n x dX6_run_147 rfl ?_
            refine j_max x wmath dX6_run_148 wmX6_182 (Nat.le_of_ble_eq_true rfl) (Nat.zero_le _) (Nat.zero_le _) ?_
            refine j_istore_n x dX6_run_151 (by decide) rfl ?_
            refine j_iinc x dX6_run_152 rfl (by decide) rfl ?_
            refine j_goto (tgt := 26) x dX6_run_155 (by decide) ?_
            exact j_goal (ih (trivial)) (wk_c rfl (wk_c rfl (wk_c (congrArg (fun z => some (Value.int z)) (show _ = (gRun (jm M 94 19 0) t (j + 1)).1 by simp [gRun, jb_nz.mp h1, hA, hB, jb, g1])) (wk_c (congrArg (fun z => some (Value.int z)) (show _ = (gRun (jm M 94 19 0) t (j + 1)).2 by simp [gRun, jb_nz.mp h1, hA, hB, jb, g1])) (wk_c (congrArg (fun z => some (Value.int z)) (nI_1 _)) (wk_n (wk_n (wk_n (wk_0))))))))) (rfl)
          · refine j_iconst (v := 1) x dX6_run_126 (by decide) ?_
            refine j_goto (tgt := 131) x dX6_run_127 (by decide) ?_
            refine j_istore x dX6_run_131 (by decide) rfl ?_
            refine j_iload x dX6_run_133 rfl ?_
            refine j_if_eq (tgt := 142) x dX6_run_135 (by decide) (fun hc => absurd hc (by decide)) (fun hc => ?_)
            refine j_iconst (v := 0) x dX6_run_138 (by decide) ?_
            refine j_goto (tgt := 145) x dX6_run_139 (by decide) ?_
            refine j_istore_n x dX6_run_145 (by decide) rfl ?_
            refine j_iload_n x dX6_run_146 rfl ?_
            refine j_iload_n x dX6_run_147 rfl ?_
            refine j_max x wmath dX6_run_148 wmX6_182 (Nat.le_of_ble_eq_true rfl) (Nat.zero_le _) (Nat.zero_le _) ?_
            refine j_istore_n x dX6_run_151 (by decide) rfl ?_
            refine j_iinc x dX6_run_152 rfl (by decide) rfl ?_
            refine j_goto (tgt := 26) x dX6_run_155 (by decide) ?_
            exact j_goal (ih (trivial)) (wk_c rfl (wk_c rfl (wk_c (congrArg (fun z => some (Value.int z)) (show _ = (gRun (jm M 94 19 0) t (j + 1)).1 by simp [gRun, jb_nz.mp h1, hA, hB, jb, g1])) (wk_c (congrArg (fun z => some (Value.int z)) (show _ = (gRun (jm M 94 19 0) t (j + 1)).2 by simp [gRun, jb_nz.mp h1, hA, hB, jb, g1])) (wk_c (congrArg (fun z => some (Value.int z)) (nI_1 _)) (wk_n (wk_n (wk_n (wk_0))))))))) (rfl)
        · refine j_goto (tgt := 152) x dX6_run_81 (by decide) ?_
          refine j_iinc x dX6_run_152 rfl (by decide) rfl ?_
          refine j_goto (tgt := 26) x dX6_run_155 (by decide) ?_
          exact j_goal (ih (trivial)) (wk_c rfl (wk_c rfl (wk_c (congrArg (fun z => some (Value.int z)) (show _ = (gRun (jm M 94 19 0) t (j + 1)).1 by simp [gRun, jb_nz.mp h1, hA, hB])) (wk_c (congrArg (fun z => some (Value.int z)) (show _ = (gRun (jm M 94 19 0) t (j + 1)).2 by simp [gRun, jb_nz.mp h1, hA, hB])) (wk_c (congrArg (fun z => some (Value.int z)) (nI_1 _)) (wk_n (wk_n (wk_n (wk_0))))))))) (rfl)
    · refine j_iconst (v := 1) x dX6_run_49 (by decide) ?_
      refine j_goto (tgt := 54) x dX6_run_50 (by decide) ?_
      refine j_istore x dX6_run_54 (by decide) rfl ?_
      refine j_aload_n x dX6_run_56 rfl ?_
      refine j_iload x dX6_run_57 rfl ?_
      refine j2_callVi x hb dX6_run_59 m_X6_isPlayed (cx_isPlayed (d := d) hb (m1 := j) (by omega)) wmX6_72 jc_10 rfl rfl rfl (Nat.le_of_ble_eq_true rfl) (j_fit_rm (by omega) (by omega) (by omega)) rfl ?_
      refine j_if_eq (tgt := 152) x dX6_run_62 (by decide) (fun h1 => ?_) (fun h1 => ?_)
      · refine j_iinc x dX6_run_152 rfl (by decide) rfl ?_
        refine j_goto (tgt := 26) x dX6_run_155 (by decide) ?_
        exact j_goal (ih (trivial)) (wk_c rfl (wk_c rfl (wk_c (congrArg (fun z => some (Value.int z)) (show _ = (gRun (jm M 94 19 0) t (j + 1)).1 by simp [gRun, jb_0.mp h1])) (wk_c (congrArg (fun z => some (Value.int z)) (show _ = (gRun (jm M 94 19 0) t (j + 1)).2 by simp [gRun, jb_0.mp h1])) (wk_c (congrArg (fun z => some (Value.int z)) (nI_1 _)) (wk_n (wk_n (wk_n (wk_0))))))))) (rfl)
      · refine j_iload x dX6_run_65 rfl ?_
        refine j_if_ne (tgt := 84) x dX6_run_67 (by decide) (fun hc => ?_) (fun hc => absurd hc (by decide))
        refine j_aload_n x dX6_run_84 rfl ?_
        refine j_iload x dX6_run_85 rfl ?_
        refine j_bipush (v := 6) x dX6_run_87 (by decide) ?_
        refine j2_callVi x hb dX6_run_89 m_X6_of (cx_of (d := d) hb (m1 := j) (w1 := 6) (by omega) (by decide)) wmX6_68 jc_10 rfl rfl rfl (Nat.le_of_ble_eq_true rfl) (j_fit_rm (by omega) (by omega) (by omega)) rfl ?_
        refine j_aload_n x dX6_run_92 rfl ?_
        refine j_iload x dX6_run_93 rfl ?_
        refine j_bipush (v := 7) x dX6_run_95 (by decide) ?_
        refine j2_callVi x hb dX6_run_97 m_X6_of (cx_of (d := d) hb (m1 := j) (w1 := 7) (by omega) (by decide)) wmX6_68 jc_10 rfl rfl rfl (Nat.le_of_ble_eq_true rfl) (j_fit_rm (by omega) (by omega) (by omega)) rfl ?_
        refine j_isub x dX6_run_100 ?_
        refine j_istore x dX6_run_101 (by decide) rfl ?_
        refine j_iload x dX6_run_103 rfl ?_
        refine j_if_eq (tgt := 121) x dX6_run_105 (by decide) (fun hc => absurd hc (by decide)) (fun hc => ?_)
        refine j_iload x dX6_run_108 rfl ?_
        refine j_if_ge (tgt := 117) x dX6_run_110 (by decide) (fun g1 => ?_) (fun g1 => ?_)
        · refine j_iconst (v := 0) x dX6_run_117 (by decide) ?_
          refine j_goto (tgt := 131) x dX6_run_118 (by decide) ?_
          refine j_istore x dX6_run_131 (by decide) rfl ?_
          refine j_iload x dX6_run_133 rfl ?_
          refine j_if_eq (tgt := 142) x dX6_run_135 (by decide) (fun hc => ?_) (fun hc => absurd (rfl) hc)
          refine j_iload_n x dX6_run_142 rfl ?_
          refine j_iconst (v := 1) x dX6_run_143 (by decide) ?_
          refine j_iadd x dX6_run_144 ?_
          refine j_istore_n x dX6_run_145 (by decide) rfl ?_
          refine j_iload_n x dX6_run_146 rfl ?_
          refine j_iload_n x dX6_run_147 rfl ?_
          refine j_max x wmath dX6_run_148 wmX6_182 (Nat.le_of_ble_eq_true rfl) (Nat.zero_le _) (Nat.zero_le _) ?_
          refine j_istore_n x dX6_run_151 (by decide) rfl ?_
          refine j_iinc x dX6_run_152 rfl (by decide) rfl ?_
          refine j_goto (tgt := 26) x dX6_run_155 (by decide) ?_
          exact j_goal (ih (trivial)) (wk_c rfl (wk_c rfl (wk_c (congrArg (fun z => some (Value.int z)) (show _ = (gRun (jm M 94 19 0) t (j + 1)).1 by simp [gRun, jb_nz.mp h1, hA, jb, g1])) (wk_c (congrArg (fun z => some (Value.int z)) (show _ = (gRun (jm M 94 19 0) t (j + 1)).2 by simp [gRun, jb_nz.mp h1, hA, jb, g1])) (wk_c (congrArg (fun z => some (Value.int z)) (nI_1 _)) (wk_n (wk_n (wk_n (wk_0))))))))) (rfl)
        · refine j_iconst (v := 1) x dX6_run_113 (by decide) ?_
          refine j_goto (tgt := 131) x dX6_run_114 (by decide) ?_
          refine j_istore x dX6_run_131 (by decide) rfl ?_
          refine j_iload x dX6_run_133 rfl ?_
          refine j_if_eq (tgt := 142) x dX6_run_135 (by decide) (fun hc => absurd hc (by decide)) (fun hc => ?_)
          refine j_iconst (v := 0) x dX6_run_138 (by decide) ?_
          refine j_goto (tgt := 145) x dX6_run_139 (by decide) ?_
          refine j_istore_n x dX6_run_145 (by decide) rfl ?_
          refine j_iload_n x dX6_run_146 rfl ?_
          refine j_iload_n x dX6_run_147 rfl ?_
          refine j_max x wmath dX6_run_148 wmX6_182 (Nat.le_of_ble_eq_true rfl) (Nat.zero_le _) (Nat.zero_le _) ?_
          refine j_istore_n x dX6_run_151 (by decide) rfl ?_
          refine j_iinc x dX6_run_152 rfl (by decide) rfl ?_
          refine j_goto (tgt := 26) x dX6_run_155 (by decide) ?_
          exact j_goal (ih (trivial)) (wk_c rfl (wk_c rfl (wk_c (congrArg (fun z => some (Value.int z)) (show _ = (gRun (jm M 94 19 0) t (j + 1)).1 by simp [gRun, jb_nz.mp h1, hA, jb, g1])) (wk_c (congrArg (fun z => some (Value.int z)) (show _ = (gRun (jm M 94 19 0) t (j + 1)).2 by simp [gRun, jb_nz.mp h1, hA, jb, g1])) (wk_c (congrArg (fun z => some (Value.int z)) (nI_1 _)) (wk_n (wk_n (wk_n (wk_0))))))))) (rfl)
  refine j_iload x dX6_run_26 rfl ?_
  refine j_aload_n x dX6_run_28 rfl ?_
  refine j2_getr (k := 0) (r := 95) x hb dX6_run_29 jc_10 wfX6_9 (by decide) rfl ?_
  refine j_bipush (v := 9) x dX6_run_32 (by decide) ?_
  refine j2_ialn x hb dX6_run_34 fa_95 (j := 9) (vp_c (by decide)) (by decide) ?_; rw [jm_n (by omega), hct]
  refine j_icmp_ge (tgt := 158) x dX6_run_35 (by decide) (fun hc => ?_) (fun hc => absurd (nI_le (Nat.le_refl _) (by omega)) hc)
  refine j_iload_n x dX6_run_158 rfl ?_
  exact j_ireturn x hr dX6_run_159 (by omega) (by omega) ⟨rfl, rfl⟩
