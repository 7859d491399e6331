/-! ===== leagues, the history, refusals ===== -/
def jref (M : MM) (r t : Int32) : MM := jm (jm (jm M 0 9 r) 0 10 t) 0 11 (M 0 12)
def jisS (q : Option (Int32 × Int32)) : Int32 := match q with
  | some _ => 1
  | none => 0
def jrf (M : MM) (q : Option (Int32 × Int32)) : MM := match q with
  | some z => jref M z.1 z.2
  | none => M
/-- how many meetings, weeks there are -/
def jmc (M : MM) : Int32 := if M 1 2 = 0 then 0 else M 69 1
def jwc (M : MM) : Int32 := if M 1 2 = 0 then 0 else M 69 0
theorem c_isGround {d : Nat} {b : SBt} {Y : OUt} {M : MM} (hb : 94 ≤ b.2.1) {t : Int32} : CM (d) 0 0 yX5_isGround cX5_isGround 1 (some .boolean) [.int t] b Y M (.inl (some (.int (jb (¬ t < 0 ∧ ¬ 9 < t))))) (M) := by
  refine Con.of (by decide +kernel) (Nat.le_of_ble_eq_true rfl) rfl fun p l e s m args below meth c D tyc A ad0 x hr htab hname => ?_
  change JJ _ _ _ _ _ _ _ _ _ _ _ _ _ _ _ _ _ 0 [some (.int t)] [] _ 0 0
  refine j_iload_n x dX5_isGround_0 rfl ?_
  refine j_if_lt (tgt := 14) x dX5_isGround_1 (by decide) (fun h1 => ?_) (fun h1 => ?_)
  · refine j_iconst (v := 0) x dX5_isGround_14 (by decide) ?_
    exact j_zreturn x hr dX5_isGround_15 (by decide) (by omega) (by omega) ⟨by rw [jb_f (fun q => q.1 h1)], rfl⟩
  · refine j_iload_n x dX5_isGround_4 rfl ?_
    refine j_bipush (v := 9) x dX5_isGround_5 (by decide) ?_
    refine j_icmp_gt (tgt := 14) x dX5_isGround_7 (by decide) (fun h2 => ?_) (fun h2 => ?_)
    · refine j_iconst (v := 0) x dX5_isGround_14 (by decide) ?_
      exact j_zreturn x hr dX5_isGround_15 (by decide) (by omega) (by omega) ⟨by rw [jb_f (fun q => q.2 h2)], rfl⟩
    · refine j_iconst (v := 1) x dX5_isGround_10 (by decide) ?_
      refine j_goto (tgt := 15) x dX5_isGround_11 (by decide) ?_
      exact j_zreturn x hr dX5_isGround_15 (by decide) (by omega) (by omega) ⟨by rw [jb_t ⟨h1, h2⟩], rfl⟩
theorem c_isRuleOrNone {d : Nat} {b : SBt} {Y : OUt} {M : MM} (hb : 94 ≤ b.2.1) {t : Int32} : CM (d) 0 0 yX5_isRuleOrNone cX5_isRuleOrNone 1 (some .boolean) [.int t] b Y M (.inl (some (.int (jb (¬ t < (-1) ∧ ¬ 4 < t))))) (M) := by
  refine Con.of (by decide +kernel) (Nat.le_of_ble_eq_true rfl) rfl fun p l e s m args below meth c D tyc A ad0 x hr htab hname => ?_
  change JJ _ _ _ _ _ _ _ _ _ _ _ _ _ _ _ _ _ 0 [some (.int t)] [] _ 0 0
  refine j_iload_n x dX5_isRuleOrNone_0 rfl ?_
  refine j_iconst (v := (-1)) x dX5_isRuleOrNone_1 (by decide) ?_
  refine j_icmp_lt (tgt := 14) x dX5_isRuleOrNone_2 (by decide) (fun h1 => ?_) (fun h1 => ?_)
  · refine j_iconst (v := 0) x dX5_isRuleOrNone_14 (by decide) ?_
    exact j_zreturn x hr dX5_isRuleOrNone_15 (by decide) (by omega) (by omega) ⟨by rw [jb_f (fun q => q.1 h1)], rfl⟩
  · refine j_iload_n x dX5_isRuleOrNone_5 rfl ?_
    refine j_iconst (v := 4) x dX5_isRuleOrNone_6 (by decide) ?_
    refine j_icmp_gt (tgt := 14) x dX5_isRuleOrNone_7 (by decide) (fun h2 => ?_) (fun h2 => ?_)
    · refine j_iconst (v := 0) x dX5_isRuleOrNone_14 (by decide) ?_
      exact j_zreturn x hr dX5_isRuleOrNone_15 (by decide) (by omega) (by omega) ⟨by rw [jb_f (fun q => q.2 h2)], rfl⟩
    · refine j_iconst (v := 1) x dX5_isRuleOrNone_10 (by decide) ?_
      refine j_goto (tgt := 15) x dX5_isRuleOrNone_11 (by decide) ?_
      exact j_zreturn x hr dX5_isRuleOrNone_15 (by decide) (by omega) (by omega) ⟨by rw [jb_t ⟨h1, h2⟩], rfl⟩
theorem c_refuse {d : Nat} {b : SBt} {Y : OUt} {M : MM} (hb : 94 ≤ b.2.1) {r t : Int32} : CM (d) 0 0 yX5_refuse cX5_refuse 3 (some .boolean) [.ref 0, .int r, .int t] b Y M (.inl (some (.int 1))) (jref M r t) := by
  refine Con.of (by decide +kernel) (Nat.le_of_ble_eq_true rfl) rfl fun p l e s m args below meth c D tyc A ad0 x hr htab hname => ?_
  change JJ _ _ _ _ _ _ _ _ _ _ _ _ _ _ _ _ _ 0 [some (.ref 0), some (.int r), some (.int t)] [] _ 0 0
  refine j_aload_n x dX5_refuse_0 rfl ?_
  refine j_iload_n x dX5_refuse_1 rfl ?_
  refine j2_puti (k := 9) x hb dX5_refuse_2 jc_9 wfX5_343 (by decide) rfl rfl rfl rfl ?_
  refine j_aload_n x dX5_refuse_5 rfl ?_
  refine j_iload_n x dX5_refuse_6 rfl ?_
  refine j2_puti (k := 10) x hb dX5_refuse_7 jc_9 wfX5_348 (by decide) rfl rfl rfl rfl ?_
  refine j_aload_n x dX5_refuse_10 rfl ?_
  refine j_aload_n x dX5_refuse_11 rfl ?_
  refine j2_geti (k := 12) x hb dX5_refuse_12 jc_9 wfX5_444 (by decide) rfl ?_
  refine j2_puti (k := 11) x hb dX5_refuse_15 jc_9 wfX5_351 (by decide) rfl rfl rfl rfl ?_
  refine j_iconst (v := 1) x dX5_refuse_18 (by decide) ?_
  exact j_zreturn x hr dX5_refuse_19 (by decide) (by omega) (by omega) ⟨rfl, rfl⟩
theorem c_isTeam {d : Nat} {b : SBt} {Y : OUt} {M : MM} (hb : 94 ≤ b.2.1) {t : Int32} : CM (d) 0 0 yX5_isTeam cX5_isTeam 2 (some .boolean) [.ref 0, .int t] b Y M (.inl (some (.int (jb (¬ t < 0 ∧ ¬ M 1 0 ≤ t))))) (M) := by
  refine Con.of (by decide +kernel) (Nat.le_of_ble_eq_true rfl) rfl fun p l e s m args below meth c D tyc A ad0 x hr htab hname => ?_
  change JJ _ _ _ _ _ _ _ _ _ _ _ _ _ _ _ _ _ 0 [some (.ref 0), some (.int t)] [] _ 0 0
  refine j_iload_n x dX5_isTeam_0 rfl ?_
  refine j_if_lt (tgt := 19) x dX5_isTeam_1 (by decide) (fun h1 => ?_) (fun h1 => ?_)
  · refine j_iconst (v := 0) x dX5_isTeam_19 (by decide) ?_
    exact j_zreturn x hr dX5_isTeam_20 (by decide) (by omega) (by omega) ⟨by rw [jb_f (fun q => q.1 h1)], rfl⟩
  · refine j_iload_n x dX5_isTeam_4 rfl ?_
    refine j_aload_n x dX5_isTeam_5 rfl ?_
    refine j2_getr (k := 0) (r := 1) x hb dX5_isTeam_6 jc_9 wfX5_10 (by decide) rfl ?_
    refine j2_geti (k := 0) x hb dX5_isTeam_9 jc_6 wfX5_80 (by decide) rfl ?_
    refine j_icmp_ge (tgt := 19) x dX5_isTeam_12 (by decide) (fun h2 => ?_) (fun h2 => ?_)
    · refine j_iconst (v := 0) x dX5_isTeam_19 (by decide) ?_
      exact j_zreturn x hr dX5_isTeam_20 (by decide) (by omega) (by omega) ⟨by rw [jb_f (fun q => q.2 h2)], rfl⟩
    · refine j_iconst (v := 1) x dX5_isTeam_15 (by decide) ?_
      refine j_goto (tgt := 20) x dX5_isTeam_16 (by decide) ?_
      exact j_zreturn x hr dX5_isTeam_20 (by decide) (by omega) (by omega) ⟨by rw [jb_t ⟨h1, h2⟩], rfl⟩
theorem c_meetingCount {d : Nat} {b : SBt} {Y : OUt} {M : MM} (hb : 94 ≤ b.2.1)  : CM (d) 0 0 yX5_meetingCount cX5_meetingCount 1 (some .int) [.ref 0] b Y M (.inl (some (.int (jmc M)))) (M) := by
  refine Con.of (by decide +kernel) (Nat.le_of_ble_eq_true rfl) rfl fun p l e s m args below meth c D tyc A ad0 x hr htab hname => ?_
  change JJ _ _ _ _ _ _ _ _ _ _ _ _ _ _ _ _ _ 0 [some (.ref 0)] [] _ 0 0
  refine j_aload_n x dX5_meetingCount_0 rfl ?_
  refine j2_getr (k := 0) (r := 1) x hb dX5_meetingCount_1 jc_9 wfX5_10 (by decide) rfl ?_
  refine j2_geti (k := 2) x hb dX5_meetingCount_4 jc_6 wfX5_388 (by decide) rfl ?_
  refine j_if_eq (tgt := 20) x dX5_meetingCount_7 (by decide) (fun h1 => ?_) (fun h1 => ?_)
  · refine j_iconst (v := 0) x dX5_meetingCount_20 (by decide) ?_
    exact j_ireturn x hr dX5_meetingCount_21 (by omega) (by omega) ⟨by rw [jmc, if_pos h1], rfl⟩
  · refine j_aload_n x dX5_meetingCount_10 rfl ?_
    refine j2_getr (k := 4) (r := 69) x hb dX5_meetingCount_11 jc_9 wfX5_29 (by decide) rfl ?_
    refine j2_geti (k := 1) x hb dX5_meetingCount_14 jc_4 wfX5_462 (by decide) rfl ?_
    refine j_goto (tgt := 21) x dX5_meetingCount_17 (by decide) ?_
    exact j_ireturn x hr dX5_meetingCount_21 (by omega) (by omega) ⟨by rw [jmc, if_neg h1], rfl⟩
theorem c_weekCount {d : Nat} {b : SBt} {Y : OUt} {M : MM} (hb : 94 ≤ b.2.1)  : CM (d) 0 0 yX5_weekCount cX5_weekCount 1 (some .int) [.ref 0] b Y M (.inl (some (.int (jwc M)))) (M) := by
  refine Con.of (by decide +kernel) (Nat.le_of_ble_eq_true rfl) rfl fun p l e s m args below meth c D tyc A ad0 x hr htab hname => ?_
  change JJ _ _ _ _ _ _ _ _ _ _ _ _ _ _ _ _ _ 0 [some (.ref 0)] [] _ 0 0
  refine j_aload_n x dX5_weekCount_0 rfl ?_
  refine j2_getr (k := 0) (r := 1) x hb dX5_weekCount_1 jc_9 wfX5_10 (by decide) rfl ?_
  refine j2_geti (k := 2) x hb dX5_weekCount_4 jc_6 wfX5_388 (by decide) rfl ?_
  refine j_if_eq (tgt := 20) x dX5_weekCount_7 (by decide) (fun h1 => ?_) (fun h1 => ?_)
  · refine j_iconst (v := 0) x dX5_weekCount_20 (by decide) ?_
    exact j_ireturn x hr dX5_weekCount_21 (by omega) (by omega) ⟨by rw [jwc, if_pos h1], rfl⟩
  · refine j_aload_n x dX5_weekCount_10 rfl ?_
    refine j2_getr (k := 4) (r := 69) x hb dX5_weekCount_11 jc_9 wfX5_29 (by decide) rfl ?_
    refine j2_geti (k := 0) x hb dX5_weekCount_14 jc_4 wfX5_111 (by decide) rfl ?_
    refine j_goto (tgt := 21) x dX5_weekCount_17 (by decide) ?_
    exact j_ireturn x hr dX5_weekCount_21 (by omega) (by omega) ⟨by rw [jwc, if_neg h1], rfl⟩
theorem c_isMeeting {d : Nat} {b : SBt} {Y : OUt} {M : MM} (hb : 94 ≤ b.2.1) {t : Int32} : CM (d + 1) 0 0 yX5_isMeeting cX5_isMeeting 2 (some .boolean) [.ref 0, .int t] b Y M (.inl (some (.int (jb (¬ t < 0 ∧ ¬ jmc M ≤ t))))) (M) := by
  refine Con.of (by decide +kernel) (Nat.le_of_ble_eq_true rfl) rfl fun p l e s m args below meth c D tyc A ad0 x hr htab hname => ?_
  change JJ _ _ _ _ _ _ _ _ _ _ _ _ _ _ _ _ _ 0 [some (.ref 0), some (.int t)] [] _ 0 0
  refine j_iload_n x dX5_isMeeting_0 rfl ?_
  refine j_if_lt (tgt := 16) x dX5_isMeeting_1 (by decide) (fun h1 => ?_) (fun h1 => ?_)
  · refine j_iconst (v := 0) x dX5_isMeeting_16 (by decide) ?_
    exact j_zreturn x hr dX5_isMeeting_17 (by decide) (by omega) (by omega) ⟨by rw [jb_f (fun q => q.1 h1)], rfl⟩
  · refine j_iload_n x dX5_isMeeting_4 rfl ?_
    refine j_aload_n x dX5_isMeeting_5 rfl ?_
    refine j2_callVi x hb dX5_isMeeting_6 m_X5_meetingCount (c_meetingCount (d := d) hb) wmX5_258 jc_9 rfl rfl rfl (Nat.le_of_ble_eq_true rfl) (j_fit_rm (by omega) (by omega) (by omega)) rfl ?_
    refine j_icmp_ge (tgt := 16) x dX5_isMeeting_9 (by decide) (fun h2 => ?_) (fun h2 => ?_)
    · refine j_iconst (v := 0) x dX5_isMeeting_16 (by decide) ?_
      exact j_zreturn x hr dX5_isMeeting_17 (by decide) (by omega) (by omega) ⟨by rw [jb_f (fun q => q.2 h2)], rfl⟩
    · refine j_iconst (v := 1) x dX5_isMeeting_12 (by decide) ?_
      refine j_goto (tgt := 17) x dX5_isMeeting_13 (by decide) ?_
      exact j_zreturn x hr dX5_isMeeting_17 (by decide) (by omega) (by omega) ⟨by rw [jb_t ⟨h1, h2⟩], rfl⟩
theorem c_isWeek {d : Nat} {b : SBt} {Y : OUt} {M : MM} (hb : 94 ≤ b.2.1) {t : Int32} : CM (d + 1) 0 0 yX5_isWeek cX5_isWeek 2 (some .boolean) [.ref 0, .int t] b Y M (.inl (some (.int (jb (¬ t < 0 ∧ ¬ jwc M ≤ t))))) (M) := by
  refine Con.of (by decide +kernel) (Nat.le_of_ble_eq_true rfl) rfl fun p l e s m args below meth c D tyc A ad0 x hr htab hname => ?_
  change JJ _ _ _ _ _ _ _ _ _ _ _ _ _ _ _ _ _ 0 [some (.ref 0), some (.int t)] [] _ 0 0
  refine j_iload_n x dX5_isWeek_0 rfl ?_
  refine j_if_lt (tgt := 16) x dX5_isWeek_1 (by decide) (fun h1 => ?_) (fun h1 => ?_)
  · refine j_iconst (v := 0) x dX5_isWeek_16 (by decide) ?_
    exact j_zreturn x hr dX5_isWeek_17 (by decide) (by omega) (by omega) ⟨by rw [jb_f (fun q => q.1 h1)], rfl⟩
  · refine j_iload_n x dX5_isWeek_4 rfl ?_
    refine j_aload_n x dX5_isWeek_5 rfl ?_
    refine j2_callVi x hb dX5_isWeek_6 m_X5_weekCount (c_weekCount (d := d) hb) wmX5_392 jc_9 rfl rfl rfl (Nat.le_of_ble_eq_true rfl) (j_fit_rm (by omega) (by omega) (by omega)) rfl ?_
    refine j_icmp_ge (tgt := 16) x dX5_isWeek_9 (by decide) (fun h2 => ?_) (fun h2 => ?_)
    · refine j_iconst (v := 0) x dX5_isWeek_16 (by decide) ?_
      exact j_zreturn x hr dX5_isWeek_17 (by decide) (by omega) (by omega) ⟨by rw [jb_f (fun q => q.2 h2)], rfl⟩
    · refine j_iconst (v := 1) x dX5_isWeek_12 (by decide) ?_
      refine j_goto (tgt := 17) x dX5_isWeek_13 (by decide) ?_
      exact j_zreturn x hr dX5_isWeek_17 (by decide) (by omega) (by omega) ⟨by rw [jb_t ⟨h1, h2⟩], rfl⟩
theorem c_slotAt {d : Nat} {b : SBt} {Y : OUt} {M : MM} (hb : 94 ≤ b.2.1) {j : Nat} (hj : j < 9) : CM (d) 0 0 yX1_slotAt cX1_slotAt 2 (some (FieldType.object "LeagueTables$League")) [.ref 13, .int (nI j)] b Y M (.inl (some (.ref (15 + 6 * j)))) (M) := by
  refine Con.of (by decide +kernel) (Nat.le_of_ble_eq_true rfl) rfl fun p l e s m args below meth c D tyc A ad0 x hr htab hname => ?_
  change JJ _ _ _ _ _ _ _ _ _ _ _ _ _ _ _ _ _ 0 [some (.ref 13), some (.int (nI j))] [] _ 0 0
  refine j_iload_n x dX1_slotAt_0 rfl ?_
  refine j_if_lt (tgt := 22) x dX1_slotAt_1 (by decide) (fun hc => absurd hc (nI_pos (by omega))) (fun hc => ?_)
  refine j_iload_n x dX1_slotAt_4 rfl ?_
  refine j_aload_n x dX1_slotAt_5 rfl ?_
  refine j2_getr (k := 0) (r := 14) x hb dX1_slotAt_6 jc_5 wfX1_13 (by decide) rfl ?_
  refine j2_alenr x hb dX1_slotAt_9 rfl ?_
  refine j_icmp_ge (tgt := 22) x dX1_slotAt_10 (by decide) (fun hc => absurd hc (show ¬ (9 : Int32) ≤ nI j from nI_ge hj (by decide))) (fun hc => ?_)
  refine j_aload_n x dX1_slotAt_13 rfl ?_
  refine j2_getr (k := 0) (r := 14) x hb dX1_slotAt_14 jc_5 wfX1_13 (by decide) rfl ?_
  refine j_iload_n x dX1_slotAt_17 rfl ?_
  refine j2_ring x hb dX1_slotAt_18 hj rfl ?_
  refine j_goto (tgt := 23) x dX1_slotAt_19 (by decide) ?_
  exact j_areturn x hr (Or.inl ⟨_, rfl⟩) dX1_slotAt_23 (by omega) (by omega) ⟨rfl, rfl⟩
/-- the league c becomes what a is -/
def jlg (M : MM) (a c : Nat) : MM := fun z k =>
  if z = c ∧ (k = 0 ∨ k = 2 ∨ k = 3 ∨ k = 4 ∨ k = 5 ∨ k = 6) then M a k else if z = c + 1 ∧ k < 8 then M (a + 1) k else if z = c + 2 ∧ k < 3 then M (a + 2) k else if z = c + 3 ∧ k < 56 then M (a + 3) k else if z = c + 4 ∧ k < 56 then M (a + 4) k else if z = c + 5 ∧ k < 56 then M (a + 5) k else M z k
theorem c_copyFrom {d : Nat} {b : SBt} {Y : OUt} {M : MM} (hb : 94 ≤ b.2.1) {a g : Nat} (ha : isLg a = true) (hc : isLg g = true) (hne : a ≠ g) (hz : M a 2 = 0 ∨ M a 2 = 1) : CM (d + 1) 0 0 yX2_copyFrom cX2_copyFrom 2 none [.ref g, .ref a] b Y M (.inl none) (jlg M a g) := by
  have hg := isLg_gap ha hc hne
  have n00 : (a = g) = False := by simp only [eq_iff_iff, iff_false]; omega
  have n01 : (a = g + 1) = False := by simp only [eq_iff_iff, iff_false]; omega
  have n02 : (a = g + 2) = False := by simp only [eq_iff_iff, iff_false]; omega
  have n03 : (a = g + 3) = False := by simp only [eq_iff_iff, iff_false]; omega
  have n04 : (a = g + 4) = False := by simp only [eq_iff_iff, iff_false]; omega
  have n05 : (a = g + 5) = False := by simp only [eq_iff_iff, iff_false]; omega
  have n10 : (a + 1 = g) = False := by simp only [eq_iff_iff, iff_false]; omega
  have n11 : (a + 1 = g + 1) = False := by simp only [eq_iff_iff, iff_false]; omega
  have n12 : (a + 1 = g + 2) = False := by simp only [eq_iff_iff, iff_false]; omega
  have n13 : (a + 1 = g + 3) = False := by simp only [eq_iff_iff, iff_false]; omega
  have n14 : (a + 1 = g + 4) = False := by simp only [eq_iff_iff, iff_false]; omega
  have n15 : (a + 1 = g + 5) = False := by simp only [eq_iff_iff, iff_false]; omega
  have n20 : (a + 2 = g) = False := by simp only [eq_iff_iff, iff_false]; omega
  have n21 : (a + 2 = g + 1) = False := by simp only [eq_iff_iff, iff_false]; omega
  have n22 : (a + 2 = g + 2) = False := by simp only [eq_iff_iff, iff_false]; omega
  have n23 : (a + 2 = g + 3) = False := by simp only [eq_iff_iff, iff_false]; omega
  have n24 : (a + 2 = g + 4) = False := by simp only [eq_iff_iff, iff_false]; omega
  have n25 : (a + 2 = g + 5) = False := by simp only [eq_iff_iff, iff_false]; omega
  have n30 : (a + 3 = g) = False := by simp only [eq_iff_iff, iff_false]; omega
  have n31 : (a + 3 = g + 1) = False := by simp only [eq_iff_iff, iff_false]; omega
  have n32 : (a + 3 = g + 2) = False := by simp only [eq_iff_iff, iff_false]; omega
  have n33 : (a + 3 = g + 3) = False := by simp only [eq_iff_iff, iff_false]; omega
  have n34 : (a + 3 = g + 4) = False := by simp only [eq_iff_iff, iff_false]; omega
  have n35 : (a + 3 = g + 5) = False := by simp only [eq_iff_iff, iff_false]; omega
  have n40 : (a + 4 = g) = False := by simp only [eq_iff_iff, iff_false]; omega
  have n41 : (a + 4 = g + 1) = False := by simp only [eq_iff_iff, iff_false]; omega
  have n42 : (a + 4 = g + 2) = False := by simp only [eq_iff_iff, iff_false]; omega
  have n43 : (a + 4 = g + 3) = False := by simp only [eq_iff_iff, iff_false]; omega
  have n44 : (a + 4 = g + 4) = False := by simp only [eq_iff_iff, iff_false]; omega
  have n45 : (a + 4 = g + 5) = False := by simp only [eq_iff_iff, iff_false]; omega
  have n50 : (a + 5 = g) = False := by simp only [eq_iff_iff, iff_false]; omega
  have n51 : (a + 5 = g + 1) = False := by simp only [eq_iff_iff, iff_false]; omega
  have n52 : (a + 5 = g + 2) = False := by simp only [eq_iff_iff, iff_false]; omega
  have n53 : (a + 5 = g + 3) = False := by simp only [eq_iff_iff, iff_false]; omega
  have n54 : (a + 5 = g + 4) = False := by simp only [eq_iff_iff, iff_false]; omega
  have n55 : (a + 5 = g + 5) = False := by simp only [eq_iff_iff, iff_false]; omega
  have he : jrow (jrow (jrow (jrow (jm (jm (jm (jm (jm (jrow (jm M g 0 (M a 0)) (a + 1) (g + 1) 8) g 2 (M a 2)) g 3 (M a 3)) g 4 (M a 4)) g 5 (M a 5)) g 6 (M a 6)) (a + 2) (g + 2) 3) (a + 3) (g + 3) 56) (a + 4) (g + 4) 56) (a + 5) (g + 5) 56 = jlg M a g := by
    funext z k
    simp only [jrow, jm, jlg, n00, n01, n02, n03, n04, n05, n10, n11, n12, n13, n14, n15, n20, n21, n22, n23, n24, n25, n30, n31, n32, n33, n34, n35, n40, n41, n42, n43, n44, n45, n50, n51, n52, n53, n54, n55, false_and, if_false]
    grind (splits := 60)
  have e2 : jrow (jm M g 0 (M a 0)) (a + 1) (g + 1) 8 a 2 = M a 2 := by simp only [jrow, jm, n00, n01, n02, n03, n04, n05, n10, n11, n12, n13, n14, n15, n20, n21, n22, n23, n24, n25, n30, n31, n32, n33, n34, n35, n40, n41, n42, n43, n44, n45, n50, n51, n52, n53, n54, n55, false_and, if_false]
  have e3 : jm (jrow (jm M g 0 (M a 0)) (a + 1) (g + 1) 8) g 2 (M a 2) a 3 = M a 3 := by simp only [jrow, jm, n00, n01, n02, n03, n04, n05, n10, n11, n12, n13, n14, n15, n20, n21, n22, n23, n24, n25, n30, n31, n32, n33, n34, n35, n40, n41, n42, n43, n44, n45, n50, n51, n52, n53, n54, n55, false_and, if_false]
  have e4 : jm (jm (jrow (jm M g 0 (M a 0)) (a + 1) (g + 1) 8) g 2 (M a 2)) g 3 (M a 3) a 4 = M a 4 := by simp only [jrow, jm, n00, n01, n02, n03, n04, n05, n10, n11, n12, n13, n14, n15, n20, n21, n22, n23, n24, n25, n30, n31, n32, n33, n34, n35, n40, n41, n42, n43, n44, n45, n50, n51, n52, n53, n54, n55, false_and, if_false]
  have e5 : jm (jm (jm (jrow (jm M g 0 (M a 0)) (a + 1) (g + 1) 8) g 2 (M a 2)) g 3 (M a 3)) g 4 (M a 4) a 5 = M a 5 := by simp only [jrow, jm, n00, n01, n02, n03, n04, n05, n10, n11, n12, n13, n14, n15, n20, n21, n22, n23, n24, n25, n30, n31, n32, n33, n34, n35, n40, n41, n42, n43, n44, n45, n50, n51, n52, n53, n54, n55, false_and, if_false]
  have e6 : jm (jm (jm (jm (jrow (jm M g 0 (M a 0)) (a + 1) (g + 1) 8) g 2 (M a 2)) g 3 (M a 3)) g 4 (M a 4)) g 5 (M a 5) a 6 = M a 6 := by simp only [jrow, jm, n00, n01, n02, n03, n04, n05, n10, n11, n12, n13, n14, n15, n20, n21, n22, n23, n24, n25, n30, n31, n32, n33, n34, n35, n40, n41, n42, n43, n44, n45, n50, n51, n52, n53, n54, n55, false_and, if_false]
  have hz1 : narrow (tyX2 2) (.int (M a 2)) = .int (M a 2) := by rcases hz with h | h <;> rw [h] <;> rfl
  have hz2 : fits (tyX2 2) (.int (M a 2)) = true := by rcases hz with h | h <;> rw [h] <;> rfl
  refine Con.of (by decide +kernel) (Nat.le_of_ble_eq_true rfl) rfl fun p l e s m args below meth c D tyc A ad0 x hr htab hname => ?_
  change JJ _ _ _ _ _ _ _ _ _ _ _ _ _ _ _ _ _ 0 [some (.ref g), some (.ref a)] [] _ 0 0
  refine j_aload_n x dX2_copyFrom_0 rfl ?_
  refine j_aload_n x dX2_copyFrom_1 rfl ?_
  refine j2_geti (k := 0) x hb dX2_copyFrom_2 jc_6 wfX2_37 (by decide) (lg0 ha) ?_
  refine j2_puti (k := 0) x hb dX2_copyFrom_5 jc_6 wfX2_37 (by decide) rfl rfl rfl (lg0 hc) ?_
  refine j_aload_n x dX2_copyFrom_8 rfl ?_
  refine j2_getr (k := 1) (r := a + 1) x hb dX2_copyFrom_9 jc_6 wfX2_9 (by decide) (lg1 ha) ?_
  refine j_aload_n x dX2_copyFrom_12 rfl ?_
  refine j2_getr (k := 1) (r := g + 1) x hb dX2_copyFrom_13 jc_6 wfX2_9 (by decide) (lg1 hc) ?_
  refine j2_callSNv x hb dX2_copyFrom_16 m_X5_copyRow (c_copyRow (d := d) hb (lgA1 ha) (lgA1 hc) (by decide)) wnX2_40 rfl (Nat.le_of_ble_eq_true rfl) (j_fit_rm (by omega) (by omega) (by omega)) rfl ?_
  refine j_aload_n x dX2_copyFrom_19 rfl ?_
  refine j_aload_n x dX2_copyFrom_20 rfl ?_
  refine j2_geti (k := 2) x hb dX2_copyFrom_21 jc_6 wfX2_44 (by decide) (lg2 ha) ?_
  rw [e2]; refine j2_puti (k := 2) x hb dX2_copyFrom_24 jc_6 wfX2_44 (by decide) rfl hz1 hz2 (lg2 hc) ?_
  refine j_aload_n x dX2_copyFrom_27 rfl ?_
  refine j_aload_n x dX2_copyFrom_28 rfl ?_
  refine j2_geti (k := 3) x hb dX2_copyFrom_29 jc_6 wfX2_48 (by decide) (lg3 ha) ?_
  rw [e3]; refine j2_puti (k := 3) x hb dX2_copyFrom_32 jc_6 wfX2_48 (by decide) rfl rfl rfl (lg3 hc) ?_
  refine j_aload_n x dX2_copyFrom_35 rfl ?_
  refine j_aload_n x dX2_copyFrom_36 rfl ?_
  refine j2_geti (k := 4) x hb dX2_copyFrom_37 jc_6 wfX2_15 (by decide) (lg4 ha) ?_
  rw [e4]; refine j2_puti (k := 4) x hb dX2_copyFrom_40 jc_6 wfX2_15 (by decide) rfl rfl rfl (lg4 hc) ?_
  refine j_aload_n x dX2_copyFrom_43 rfl ?_
  refine j_aload_n x dX2_copyFrom_44 rfl ?_
  refine j2_geti (k := 5) x hb dX2_copyFrom_45 jc_6 wfX2_19 (by decide) (lg5 ha) ?_
  rw [e5]; refine j2_puti (k := 5) x hb dX2_copyFrom_48 jc_6 wfX2_19 (by decide) rfl rfl rfl (lg5 hc) ?_
  refine j_aload_n x dX2_copyFrom_51 rfl ?_
  refine j_aload_n x dX2_copyFrom_52 rfl ?_
  refine j2_geti (k := 6) x hb dX2_copyFrom_53 jc_6 wfX2_22 (by decide) (lg6 ha) ?_
  rw [e6]; refine j2_puti (k := 6) x hb dX2_copyFrom_56 jc_6 wfX2_22 (by decide) rfl rfl rfl (lg6 hc) ?_
  refine j_aload_n x dX2_copyFrom_59 rfl ?_
  refine j2_getr (k := 7) (r := a + 2) x hb dX2_copyFrom_60 jc_6 wfX2_25 (by decide) (lg7 ha) ?_
  refine j_aload_n x dX2_copyFrom_63 rfl ?_
  refine j2_getr (k := 7) (r := g + 2) x hb dX2_copyFrom_64 jc_6 wfX2_25 (by decide) (lg7 hc) ?_
  refine j2_callSNv x hb dX2_copyFrom_67 m_X5_copyRow (c_copyRow (d := d) hb (lgA2 ha) (lgA2 hc) (by decide)) wnX2_40 rfl (Nat.le_of_ble_eq_true rfl) (j_fit_rm (by omega) (by omega) (by omega)) rfl ?_
  refine j_aload_n x dX2_copyFrom_70 rfl ?_
  refine j2_getr (k := 8) (r := a + 3) x hb dX2_copyFrom_71 jc_6 wfX2_28 (by decide) (lg8 ha) ?_
  refine j_aload_n x dX2_copyFrom_74 rfl ?_
  refine j2_getr (k := 8) (r := g + 3) x hb dX2_copyFrom_75 jc_6 wfX2_28 (by decide) (lg8 hc) ?_
  refine j2_callSNv x hb dX2_copyFrom_78 m_X5_copyRow (c_copyRow (d := d) hb (lgA3 ha) (lgA3 hc) (by decide)) wnX2_40 rfl (Nat.le_of_ble_eq_true rfl) (j_fit_rm (by omega) (by omega) (by omega)) rfl ?_
  refine j_aload_n x dX2_copyFrom_81 rfl ?_
  refine j2_getr (k := 9) (r := a + 4) x hb dX2_copyFrom_82 jc_6 wfX2_31 (by decide) (lg9 ha) ?_
  refine j_aload_n x dX2_copyFrom_85 rfl ?_
  refine j2_getr (k := 9) (r := g + 4) x hb dX2_copyFrom_86 jc_6 wfX2_31 (by decide) (lg9 hc) ?_
  refine j2_callSNv x hb dX2_copyFrom_89 m_X5_copyRow (c_copyRow (d := d) hb (lgA4 ha) (lgA4 hc) (by decide)) wnX2_40 rfl (Nat.le_of_ble_eq_true rfl) (j_fit_rm (by omega) (by omega) (by omega)) rfl ?_
  refine j_aload_n x dX2_copyFrom_92 rfl ?_
  refine j2_getr (k := 10) (r := a + 5) x hb dX2_copyFrom_93 jc_6 wfX2_34 (by decide) (lg10 ha) ?_
  refine j_aload_n x dX2_copyFrom_96 rfl ?_
  refine j2_getr (k := 10) (r := g + 5) x hb dX2_copyFrom_97 jc_6 wfX2_34 (by decide) (lg10 hc) ?_
  refine j2_callSNv x hb dX2_copyFrom_100 m_X5_copyRow (c_copyRow (d := d) hb (lgA5 ha) (lgA5 hc) (by decide)) wnX2_40 rfl (Nat.le_of_ble_eq_true rfl) (j_fit_rm (by omega) (by omega) (by omega)) rfl ?_
  exact j_return x hr dX2_copyFrom_103 (by omega) (by omega) ⟨rfl, by rw [he]⟩
