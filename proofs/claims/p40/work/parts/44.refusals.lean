/-! ===== refusals of a drawn league; a free week ===== -/
theorem jisS_nar {q : Option (Int32 × Int32)} : narrow .boolean (.int (jisS q)) = .int (jisS q) := by
  cases q with
  | none => decide
  | some v => exact (show narrow .boolean (.int 1) = .int 1 by decide)
def rNoM (M : MM) (t : Int32) : Option (Int32 × Int32) := if M 1 2 = 0 then some (5, 0) else if ¬ (¬ t < 0 ∧ ¬ jmc M ≤ t) then some (3, t) else none
def rOth (M : MM) (t : Int32) : Option (Int32 × Int32) := if jat 56 (M 4) t = M 1 3 then none else some (7, jat 56 (M 4) t)
def okG (t : Int32) : Prop := ¬ t < 0 ∧ ¬ 20 < t
def rRes (M : MM) (t u v : Int32) : Option (Int32 × Int32) := match rNoM M t with
  | some z => some z
  | none => if ¬ ((¬ u < 0 ∧ ¬ 20 < u) ∧ (¬ v < 0 ∧ ¬ 20 < v)) then some (1, 0) else if ¬ jat 56 (M 5) t = -1 then some (8, 0) else rOth M t
def rBack (M : MM) (t : Int32) : Option (Int32 × Int32) := match rNoM M t with
  | some z => some z
  | none => if jat 56 (M 5) t = -1 then some (9, jkind M t) else rOth M t
def rPut (M : MM) (t u : Int32) : Option (Int32 × Int32) := match rNoM M t with
  | some z => some z
  | none => if u < 1 ∨ ¬ u ≤ 9 then some (1, 0) else if ¬ jat 56 (M 5) t = -1 then some (8, 0) else match rOth M t with
    | some z => some z
    | none => if ¬ (¬ M 1 3 + u < 0 ∧ ¬ jwc M ≤ M 1 3 + u) then some (10, M 1 3 + u) else none
def rNext (M : MM) (n : Nat) : Option (Int32 × Int32) := if M 1 2 = 0 then some (5, 0) else if ¬ jfst (fNow M) n = -1 then some (11, jfst (fNow M) n) else if ¬ (¬ M 1 3 + 1 < 0 ∧ ¬ jwc M ≤ M 1 3 + 1) then some (14, M 1 3) else none
theorem CM_q {d mc ms : Nat} {y : MethodName} {cc : ByteArray} {maxL : Nat} {ret : Option FieldType} {as : List Value} {b : SBt} {Y : OUt} {M : MM} {q q2 : Option (Int32 × Int32)} (C : CM d mc ms y cc maxL ret as b Y M (.inl (some (.int (jisS q)))) (jrf M q)) (h : q = q2) : CM d mc ms y cc maxL ret as b Y M (.inl (some (.int (jisS q2)))) (jrf M q2) := by
  subst h
  exact C
theorem c_isNoMeetingRefused {d : Nat} {b : SBt} {Y : OUt} {M : MM} (hb : 94 ≤ b.2.1) {t : Int32} : CM (d + 2) 0 0 yX5_isNoMeetingRefused cX5_isNoMeetingRefused 2 (some .boolean) [.ref 0, .int t] b Y M (.inl (some (.int (jisS (rNoM M t))))) (jrf M (rNoM M t)) := by
  refine Con.of (by decide +kernel) (Nat.le_of_ble_eq_true rfl) rfl fun p l e s m args below meth c D tyc A ad0 x hr htab hname => ?_
  change JJ _ _ _ _ _ _ _ _ _ _ _ _ _ _ _ _ _ 0 [some (.ref 0), some (.int t)] [] _ 0 0
  refine j_aload_n x dX5_isNoMeetingRefused_0 rfl ?_
  refine j2_getr (k := 0) (r := 1) x hb dX5_isNoMeetingRefused_1 jc_9 wfX5_10 (by decide) rfl ?_
  refine j2_geti (k := 2) x hb dX5_isNoMeetingRefused_4 jc_6 wfX5_388 (by decide) rfl ?_
  refine j_if_ne (tgt := 17) x dX5_isNoMeetingRefused_7 (by decide) (fun h1 => ?_) (fun h1 => ?_)
  · refine j_aload_n x dX5_isNoMeetingRefused_17 rfl ?_
    refine j_iload_n x dX5_isNoMeetingRefused_18 rfl ?_
    refine j2_callVi x hb dX5_isNoMeetingRefused_19 m_X5_isMeeting (c_isMeeting (d := d) hb) wmX5_214 jc_9 rfl rfl rfl (Nat.le_of_ble_eq_true rfl) (j_fit_rm (by omega) (by omega) (by omega)) rfl ?_
    refine j_if_ne (tgt := 38) x dX5_isNoMeetingRefused_22 (by decide) (fun h2 => ?_) (fun h2 => ?_)
    · refine j_iconst (v := 0) x dX5_isNoMeetingRefused_38 (by decide) ?_
      exact j_zreturn x hr dX5_isNoMeetingRefused_39 (by first | decide | exact jisS_nar | exact jb_nar) (by omega) (by omega) ⟨by rw [show rNoM M t = none from (if_neg h1).trans (if_neg (fun q => q (jb_nz.mp h2)))]; rfl, by rw [show rNoM M t = none from (if_neg h1).trans (if_neg (fun q => q (jb_nz.mp h2)))]; rfl⟩
    · refine j_aload_n x dX5_isNoMeetingRefused_25 rfl ?_
      refine j_iconst (v := 3) x dX5_isNoMeetingRefused_26 (by decide) ?_
      refine j_iload_n x dX5_isNoMeetingRefused_27 rfl ?_
      refine j2_callVi x hb dX5_isNoMeetingRefused_28 m_X5_refuse (c_refuse (d := d) hb) wmX5_426 jc_9 rfl rfl rfl (Nat.le_of_ble_eq_true rfl) (j_fit_rm (by omega) (by omega) (by omega)) rfl ?_
      refine j_if_eq (tgt := 38) x dX5_isNoMeetingRefused_31 (by decide) (fun hc => absurd hc (by decide)) (fun hc => ?_)
      refine j_iconst (v := 1) x dX5_isNoMeetingRefused_34 (by decide) ?_
      refine j_goto (tgt := 39) x dX5_isNoMeetingRefused_35 (by decide) ?_
      exact j_zreturn x hr dX5_isNoMeetingRefused_39 (by first | decide | exact jisS_nar | exact jb_nar) (by omega) (by omega) ⟨by rw [show rNoM M t = some (3, t) from (if_neg h1).trans (if_pos (jb_0.mp h2))]; rfl, by rw [show rNoM M t = some (3, t) from (if_neg h1).trans (if_pos (jb_0.mp h2))]; rfl⟩
  · refine j_aload_n x dX5_isNoMeetingRefused_10 rfl ?_
    refine j_iconst (v := 5) x dX5_isNoMeetingRefused_11 (by decide) ?_
    refine j_iconst (v := 0) x dX5_isNoMeetingRefused_12 (by decide) ?_
    refine j2_callVi x hb dX5_isNoMeetingRefused_13 m_X5_refuse (c_refuse (d := d) hb) wmX5_426 jc_9 rfl rfl rfl (Nat.le_of_ble_eq_true rfl) (j_fit_rm (by omega) (by omega) (by omega)) rfl ?_
    exact j_zreturn x hr dX5_isNoMeetingRefused_16 (by first | decide | exact jisS_nar | exact jb_nar) (by omega) (by omega) ⟨by rw [show rNoM M t = some (5, 0) from if_pos h1]; rfl, by rw [show rNoM M t = some (5, 0) from if_pos h1]; rfl⟩
theorem c_isOtherWeekRefused {d : Nat} {b : SBt} {Y : OUt} {M : MM} (hb : 94 ≤ b.2.1) {t : Int32} : CM (d + 1) 0 0 yX5_isOtherWeekRefused cX5_isOtherWeekRefused 3 (some .boolean) [.ref 0, .int t] b Y M (.inl (some (.int (jisS (rOth M t))))) (jrf M (rOth M t)) := by
  refine Con.of (by decide +kernel) (Nat.le_of_ble_eq_true rfl) rfl fun p l e s m args below meth c D tyc A ad0 x hr htab hname => ?_
  change JJ _ _ _ _ _ _ _ _ _ _ _ _ _ _ _ _ _ 0 [some (.ref 0), some (.int t), none] [] _ 0 0
  refine j_aload_n x dX5_isOtherWeekRefused_0 rfl ?_
  refine j2_getr (k := 0) (r := 1) x hb dX5_isOtherWeekRefused_1 jc_9 wfX5_10 (by decide) rfl ?_
  refine j2_getr (k := 8) (r := 4) x hb dX5_isOtherWeekRefused_4 jc_6 wfX5_163 (by decide) rfl ?_
  refine j_iload_n x dX5_isOtherWeekRefused_7 rfl ?_
  refine j2_callSi x hb dX5_isOtherWeekRefused_8 m_X5_at (c_at (d := d) hb fa_4 (by decide)) wmX5_93 rfl (Nat.le_of_ble_eq_true rfl) (j_fit_rm (by omega) (by omega) (by omega)) rfl ?_
  refine j_istore_n x dX5_isOtherWeekRefused_11 (by decide) rfl ?_
  refine j_iload_n x dX5_isOtherWeekRefused_12 rfl ?_
  refine j_aload_n x dX5_isOtherWeekRefused_13 rfl ?_
  refine j2_getr (k := 0) (r := 1) x hb dX5_isOtherWeekRefused_14 jc_9 wfX5_10 (by decide) rfl ?_
  refine j2_geti (k := 3) x hb dX5_isOtherWeekRefused_17 jc_6 wfX5_160 (by decide) rfl ?_
  refine j_icmp_eq (tgt := 37) x dX5_isOtherWeekRefused_20 (by decide) (fun h1 => ?_) (fun h1 => ?_)
  · refine j_iconst (v := 0) x dX5_isOtherWeekRefused_37 (by decide) ?_
    exact j_zreturn x hr dX5_isOtherWeekRefused_38 (by first | decide | exact jisS_nar | exact jb_nar) (by omega) (by omega) ⟨by rw [show rOth M t = none from if_pos h1]; rfl, by rw [show rOth M t = none from if_pos h1]; rfl⟩
  · refine j_aload_n x dX5_isOtherWeekRefused_23 rfl ?_
    refine j_bipush (v := 7) x dX5_isOtherWeekRefused_24 (by decide) ?_
    refine j_iload_n x dX5_isOtherWeekRefused_26 rfl ?_
    refine j2_callVi x hb dX5_isOtherWeekRefused_27 m_X5_refuse (c_refuse (d := d) hb) wmX5_426 jc_9 rfl rfl rfl (Nat.le_of_ble_eq_true rfl) (j_fit_rm (by omega) (by omega) (by omega)) rfl ?_
    refine j_if_eq (tgt := 37) x dX5_isOtherWeekRefused_30 (by decide) (fun hc => absurd hc (by decide)) (fun hc => ?_)
    refine j_iconst (v := 1) x dX5_isOtherWeekRefused_33 (by decide) ?_
    refine j_goto (tgt := 38) x dX5_isOtherWeekRefused_34 (by decide) ?_
    exact j_zreturn x hr dX5_isOtherWeekRefused_38 (by first | decide | exact jisS_nar | exact jb_nar) (by omega) (by omega) ⟨by rw [show rOth M t = some (7, jat 56 (M 4) t) from if_neg h1]; rfl, by rw [show rOth M t = some (7, jat 56 (M 4) t) from if_neg h1]; rfl⟩
theorem c_isResultRefused_s {d : Nat} {b : SBt} {Y : OUt} {M : MM} (hb : 94 ≤ b.2.1) {t u v : Int32} {r z : Int32} (h0 : rNoM M t = some (r, z)) : CM (d + 3) 0 0 yX5_isResultRefused cX5_isResultRefused 4 (some .boolean) [.ref 0, .int t, .int u, .int v] b Y M (.inl (some (.int (jisS (rRes M t u v))))) (jrf M (rRes M t u v)) := by
  refine Con.of (by decide +kernel) (Nat.le_of_ble_eq_true rfl) rfl fun p l e s m args below meth c D tyc A ad0 x hr htab hname => ?_
  change JJ _ _ _ _ _ _ _ _ _ _ _ _ _ _ _ _ _ 0 [some (.ref 0), some (.int t), some (.int u), some (.int v)] [] _ 0 0
  refine j_aload_n x dX5_isResultRefused_0 rfl ?_
  refine j_iload_n x dX5_isResultRefused_1 rfl ?_
  refine j2_callVi x hb dX5_isResultRefused_2 m_X5_isNoMeetingRefused (CM_s (c_isNoMeetingRefused (d := d) hb) h0) wmX5_432 jc_9 rfl rfl rfl (Nat.le_of_ble_eq_true rfl) (j_fit_rm (by omega) (by omega) (by omega)) rfl ?_
  refine j_if_eq (tgt := 10) x dX5_isResultRefused_5 (by decide) (fun hc => absurd hc (by decide)) (fun hc => ?_)
  refine j_iconst (v := 1) x dX5_isResultRefused_8 (by decide) ?_
  exact j_zreturn x hr dX5_isResultRefused_9 (by first | decide | exact jisS_nar | exact jb_nar) (by omega) (by omega) ⟨by rw [show rRes M t u v = some (r, z) from by unfold rRes; rw [h0]]; rfl, by rw [show rRes M t u v = some (r, z) from by unfold rRes; rw [h0]]; rfl⟩
theorem c_isResultRefused_n {d : Nat} {b : SBt} {Y : OUt} {M : MM} (hb : 94 ≤ b.2.1) {t u v : Int32} (h0 : rNoM M t = none) : CM (d + 3) 0 0 yX5_isResultRefused cX5_isResultRefused 4 (some .boolean) [.ref 0, .int t, .int u, .int v] b Y M (.inl (some (.int (jisS (rRes M t u v))))) (jrf M (rRes M t u v)) := by
  refine Con.of (by decide +kernel) (Nat.le_of_ble_eq_true rfl) rfl fun p l e s m args below meth c D tyc A ad0 x hr htab hname => ?_
  change JJ _ _ _ _ _ _ _ _ _ _ _ _ _ _ _ _ _ 0 [some (.ref 0), some (.int t), some (.int u), some (.int v)] [] _ 0 0
  refine j_aload_n x dX5_isResultRefused_0 rfl ?_
  refine j_iload_n x dX5_isResultRefused_1 rfl ?_
  refine j2_callVi x hb dX5_isResultRefused_2 m_X5_isNoMeetingRefused (CM_n (c_isNoMeetingRefused (d := d) hb) h0) wmX5_432 jc_9 rfl rfl rfl (Nat.le_of_ble_eq_true rfl) (j_fit_rm (by omega) (by omega) (by omega)) rfl ?_
  refine j_if_eq (tgt := 10) x dX5_isResultRefused_5 (by decide) (fun hc => ?_) (fun hc => absurd (rfl) hc)
  refine j_iload_n x dX5_isResultRefused_10 rfl ?_
  refine j2_callSi x hb dX5_isResultRefused_11 m_X5_areGoals (c_areGoals (d := d) hb) wmX5_435 rfl (Nat.le_of_ble_eq_true rfl) (j_fit_rm (by omega) (by omega) (by omega)) rfl ?_
  refine j_if_eq (tgt := 24) x dX5_isResultRefused_14 (by decide) (fun h1 => ?_) (fun h1 => ?_)
  · refine j_aload_n x dX5_isResultRefused_24 rfl ?_
    refine j_iconst (v := 1) x dX5_isResultRefused_25 (by decide) ?_
    refine j_iconst (v := 0) x dX5_isResultRefused_26 (by decide) ?_
    refine j2_callVi x hb dX5_isResultRefused_27 m_X5_refuse (c_refuse (d := d) hb) wmX5_426 jc_9 rfl rfl rfl (Nat.le_of_ble_eq_true rfl) (j_fit_rm (by omega) (by omega) (by omega)) rfl ?_
    exact j_zreturn x hr dX5_isResultRefused_30 (by first | decide | exact jisS_nar | exact jb_nar) (by omega) (by omega) ⟨by rw [show rRes M t u v = some (1, 0) from by unfold rRes; rw [h0]; exact if_pos (fun q => jb_0.mp h1 q.1)]; rfl, by rw [show rRes M t u v = some (1, 0) from by unfold rRes; rw [h0]; exact if_pos (fun q => jb_0.mp h1 q.1)]; rfl⟩
  · refine j_iload_n x dX5_isResultRefused_17 rfl ?_
    refine j2_callSi x hb dX5_isResultRefused_18 m_X5_areGoals (c_areGoals (d := d) hb) wmX5_435 rfl (Nat.le_of_ble_eq_true rfl) (j_fit_rm (by omega) (by omega) (by omega)) rfl ?_
    refine j_if_ne (tgt := 31) x dX5_isResultRefused_21 (by decide) (fun h2 => ?_) (fun h2 => ?_)
    · refine j_aload_n x dX5_isResultRefused_31 rfl ?_
      refine j2_getr (k := 0) (r := 1) x hb dX5_isResultRefused_32 jc_9 wfX5_10 (by decide) rfl ?_
      refine j_iload_n x dX5_isResultRefused_35 rfl ?_
      refine j2_callVi x hb dX5_isResultRefused_36 m_X2_isPlayed (c_isPlayed (d := d) (a := 1) hb rfl) wmX5_288 jc_6 rfl rfl rfl (Nat.le_of_ble_eq_true rfl) (j_fit_rm (by omega) (by omega) (by omega)) rfl ?_
      refine j_if_eq (tgt := 50) x dX5_isResultRefused_39 (by decide) (fun h3 => ?_) (fun h3 => ?_)
      · refine j_aload_n x dX5_isResultRefused_50 rfl ?_
        refine j_iload_n x dX5_isResultRefused_51 rfl ?_
        refine j2_callVi x hb dX5_isResultRefused_52 m_X5_isOtherWeekRefused (c_isOtherWeekRefused (d := d) hb) wmX5_438 jc_9 rfl rfl rfl (Nat.le_of_ble_eq_true rfl) (j_fit_rm (by omega) (by omega) (by omega)) rfl ?_
        exact j_zreturn x hr dX5_isResultRefused_55 (by first | decide | exact jisS_nar | exact jb_nar) (by omega) (by omega) ⟨by rw [show rRes M t u v = rOth M t from by unfold rRes; rw [h0]; exact (if_neg (fun q => q ⟨jb_nz.mp h1, jb_nz.mp h2⟩)).trans (if_neg (jb_0.mp h3))], by rw [show rRes M t u v = rOth M t from by unfold rRes; rw [h0]; exact (if_neg (fun q => q ⟨jb_nz.mp h1, jb_nz.mp h2⟩)).trans (if_neg (jb_0.mp h3))]⟩
      · refine j_aload_n x dX5_isResultRefused_42 rfl ?_
        refine j_bipush (v := 8) x dX5_isResultRefused_43 (by decide) ?_
        refine j_iconst (v := 0) x dX5_isResultRefused_45 (by decide) ?_
        refine j2_callVi x hb dX5_isResultRefused_46 m_X5_refuse (c_refuse (d := d) hb) wmX5_426 jc_9 rfl rfl rfl (Nat.le_of_ble_eq_true rfl) (j_fit_rm (by omega) (by omega) (by omega)) rfl ?_
        exact j_zreturn x hr dX5_isResultRefused_49 (by first | decide | exact jisS_nar | exact jb_nar) (by omega) (by omega) ⟨by rw [show rRes M t u v = some (8, 0) from by unfold rRes; rw [h0]; exact (if_neg (fun q => q ⟨jb_nz.mp h1, jb_nz.mp h2⟩)).trans (if_pos (jb_nz.mp h3))]; rfl, by rw [show rRes M t u v = some (8, 0) from by unfold rRes; rw [h0]; exact (if_neg (fun q => q ⟨jb_nz.mp h1, jb_nz.mp h2⟩)).trans (if_pos (jb_nz.mp h3))]; rfl⟩
    · refine j_aload_n x dX5_isResultRefused_24 rfl ?_
      refine j_iconst (v := 1) x dX5_isResultRefused_25 (by decide) ?_
      refine j_iconst (v := 0) x dX5_isResultRefused_26 (by decide) ?_
      refine j2_callVi x hb dX5_isResultRefused_27 m_X5_refuse (c_refuse (d := d) hb) wmX5_426 jc_9 rfl rfl rfl (Nat.le_of_ble_eq_true rfl) (j_fit_rm (by omega) (by omega) (by omega)) rfl ?_
      exact j_zreturn x hr dX5_isResultRefused_30 (by first | decide | exact jisS_nar | exact jb_nar) (by omega) (by omega) ⟨by rw [show rRes M t u v = some (1, 0) from by unfold rRes; rw [h0]; exact if_pos (fun q => jb_0.mp h2 q.2)]; rfl, by rw [show rRes M t u v = some (1, 0) from by unfold rRes; rw [h0]; exact if_pos (fun q => jb_0.mp h2 q.2)]; rfl⟩
theorem c_isResultRefused {d : Nat} {b : SBt} {Y : OUt} {M : MM} (hb : 94 ≤ b.2.1) {t u v : Int32} : CM (d + 3) 0 0 yX5_isResultRefused cX5_isResultRefused 4 (some .boolean) [.ref 0, .int t, .int u, .int v] b Y M (.inl (some (.int (jisS (rRes M t u v))))) (jrf M (rRes M t u v)) := by
  cases h0 : rNoM M t with
  | none => exact c_isResultRefused_n hb h0
  | some q => exact c_isResultRefused_s hb h0
theorem c_isBackRefused_s {d : Nat} {b : SBt} {Y : OUt} {M : MM} (hb : 94 ≤ b.2.1) {t : Int32} {r z : Int32} (h0 : rNoM M t = some (r, z)) : CM (d + 3) 0 0 yX5_isBackRefused cX5_isBackRefused 2 (some .boolean) [.ref 0, .int t] b Y M (.inl (some (.int (jisS (rBack M t))))) (jrf M (rBack M t)) := by
  refine Con.of (by decide +kernel) (Nat.le_of_ble_eq_true rfl) rfl fun p l e s m args below meth c D tyc A ad0 x hr htab hname => ?_
  change JJ _ _ _ _ _ _ _ _ _ _ _ _ _ _ _ _ _ 0 [some (.ref 0), some (.int t)] [] _ 0 0
  refine j_aload_n x dX5_isBackRefused_0 rfl ?_
  refine j_iload_n x dX5_isBackRefused_1 rfl ?_
  refine j2_callVi x hb dX5_isBackRefused_2 m_X5_isNoMeetingRefused (CM_s (c_isNoMeetingRefused (d := d) hb) h0) wmX5_432 jc_9 rfl rfl rfl (Nat.le_of_ble_eq_true rfl) (j_fit_rm (by omega) (by omega) (by omega)) rfl ?_
  refine j_if_eq (tgt := 10) x dX5_isBackRefused_5 (by decide) (fun hc => absurd hc (by decide)) (fun hc => ?_)
  refine j_iconst (v := 1) x dX5_isBackRefused_8 (by decide) ?_
  exact j_zreturn x hr dX5_isBackRefused_9 (by first | decide | exact jisS_nar | exact jb_nar) (by omega) (by omega) ⟨by rw [show rBack M t = some (r, z) from by unfold rBack; rw [h0]]; rfl, by rw [show rBack M t = some (r, z) from by unfold rBack; rw [h0]]; rfl⟩
theorem c_isBackRefused_n {d : Nat} {b : SBt} {Y : OUt} {M : MM} (hb : 94 ≤ b.2.1) {t : Int32} (h0 : rNoM M t = none) : CM (d + 3) 0 0 yX5_isBackRefused cX5_isBackRefused 2 (some .boolean) [.ref 0, .int t] b Y M (.inl (some (.int (jisS (rBack M t))))) (jrf M (rBack M t)) := by
  refine Con.of (by decide +kernel) (Nat.le_of_ble_eq_true rfl) rfl fun p l e s m args below meth c D tyc A ad0 x hr htab hname => ?_
  change JJ _ _ _ _ _ _ _ _ _ _ _ _ _ _ _ _ _ 0 [some (.ref 0), some (.int t)] [] _ 0 0
  refine j_aload_n x dX5_isBackRefused_0 rfl ?_
  refine j_iload_n x dX5_isBackRefused_1 rfl ?_
  refine j2_callVi x hb dX5_isBackRefused_2 m_X5_isNoMeetingRefused (CM_n (c_isNoMeetingRefused (d := d) hb) h0) wmX5_432 jc_9 rfl rfl rfl (Nat.le_of_ble_eq_true rfl) (j_fit_rm (by omega) (by omega) (by omega)) rfl ?_
  refine j_if_eq (tgt := 10) x dX5_isBackRefused_5 (by decide) (fun hc => ?_) (fun hc => absurd (rfl) hc)
  refine j_aload_n x dX5_isBackRefused_10 rfl ?_
  refine j2_getr (k := 0) (r := 1) x hb dX5_isBackRefused_11 jc_9 wfX5_10 (by decide) rfl ?_
  refine j_iload_n x dX5_isBackRefused_14 rfl ?_
  refine j2_callVi x hb dX5_isBackRefused_15 m_X2_isPlayed (c_isPlayed (d := d) (a := 1) hb rfl) wmX5_288 jc_6 rfl rfl rfl (Nat.le_of_ble_eq_true rfl) (j_fit_rm (by omega) (by omega) (by omega)) rfl ?_
  refine j_if_ne (tgt := 33) x dX5_isBackRefused_18 (by decide) (fun h3 => ?_) (fun h3 => ?_)
  · refine j_aload_n x dX5_isBackRefused_33 rfl ?_
    refine j_iload_n x dX5_isBackRefused_34 rfl ?_
    refine j2_callVi x hb dX5_isBackRefused_35 m_X5_isOtherWeekRefused (c_isOtherWeekRefused (d := d) hb) wmX5_438 jc_9 rfl rfl rfl (Nat.le_of_ble_eq_true rfl) (j_fit_rm (by omega) (by omega) (by omega)) rfl ?_
    exact j_zreturn x hr dX5_isBackRefused_38 (by first | decide | exact jisS_nar | exact jb_nar) (by omega) (by omega) ⟨by rw [show rBack M t = rOth M t from by unfold rBack; rw [h0]; exact if_neg (jb_nz.mp h3)], by rw [show rBack M t = rOth M t from by unfold rBack; rw [h0]; exact if_neg (jb_nz.mp h3)]⟩
  · refine j_aload_n x dX5_isBackRefused_21 rfl ?_
    refine j_bipush (v := 9) x dX5_isBackRefused_22 (by decide) ?_
    refine j_aload_n x dX5_isBackRefused_24 rfl ?_
    refine j_iload_n x dX5_isBackRefused_25 rfl ?_
    refine j2_callVi x hb dX5_isBackRefused_26 m_X5_kindOf (c_kindOf (d := d) hb) wmX5_227 jc_9 rfl rfl rfl (Nat.le_of_ble_eq_true rfl) (j_fit_rm (by omega) (by omega) (by omega)) rfl ?_
    refine j2_callVi x hb dX5_isBackRefused_29 m_X5_refuse (c_refuse (d := d) hb) wmX5_426 jc_9 rfl rfl rfl (Nat.le_of_ble_eq_true rfl) (j_fit_rm (by omega) (by omega) (by omega)) rfl ?_
    exact j_zreturn x hr dX5_isBackRefused_32 (by first | decide | exact jisS_nar | exact jb_nar) (by omega) (by omega) ⟨by rw [show rBack M t = some (9, jkind M t) from by unfold rBack; rw [h0]; exact if_pos (Decidable.not_not.mp (jb_0.mp h3))]; rfl, by rw [show rBack M t = some (9, jkind M t) from by unfold rBack; rw [h0]; exact if_pos (Decidable.not_not.mp (jb_0.mp h3))]; rfl⟩
theorem c_isBackRefused {d : Nat} {b : SBt} {Y : OUt} {M : MM} (hb : 94 ≤ b.2.1) {t : Int32} : CM (d + 3) 0 0 yX5_isBackRefused cX5_isBackRefused 2 (some .boolean) [.ref 0, .int t] b Y M (.inl (some (.int (jisS (rBack M t))))) (jrf M (rBack M t)) := by
  cases h0 : rNoM M t with
  | none => exact c_isBackRefused_n hb h0
  | some q => exact c_isBackRefused_s hb h0
theorem c_isPutOffRefused_s {d : Nat} {b : SBt} {Y : OUt} {M : MM} (hb : 94 ≤ b.2.1) {t u : Int32} {r z : Int32} (h0 : rNoM M t = some (r, z)) : CM (d + 3) 0 0 yX5_isPutOffRefused cX5_isPutOffRefused 4 (some .boolean) [.ref 0, .int t, .int u] b Y M (.inl (some (.int (jisS (rPut M t u))))) (jrf M (rPut M t u)) := by
  refine Con.of (by decide +kernel) (Nat.le_of_ble_eq_true rfl) rfl fun p l e s m args below meth c D tyc A ad0 x hr htab hname => ?_
  change JJ _ _ _ _ _ _ _ _ _ _ _ _ _ _ _ _ _ 0 [some (.ref 0), some (.int t), some (.int u), none] [] _ 0 0
  refine j_aload_n x dX5_isPutOffRefused_0 rfl ?_
  refine j_iload_n x dX5_isPutOffRefused_1 rfl ?_
  refine j2_callVi x hb dX5_isPutOffRefused_2 m_X5_isNoMeetingRefused (CM_s (c_isNoMeetingRefused (d := d) hb) h0) wmX5_432 jc_9 rfl rfl rfl (Nat.le_of_ble_eq_true rfl) (j_fit_rm (by omega) (by omega) (by omega)) rfl ?_
  refine j_if_eq (tgt := 10) x dX5_isPutOffRefused_5 (by decide) (fun hc => absurd hc (by decide)) (fun hc => ?_)
  refine j_iconst (v := 1) x dX5_isPutOffRefused_8 (by decide) ?_
  exact j_zreturn x hr dX5_isPutOffRefused_9 (by first | decide | exact jisS_nar | exact jb_nar) (by omega) (by omega) ⟨by rw [show rPut M t u = some (r, z) from by unfold rPut; rw [h0]]; rfl, by rw [show rPut M t u = some (r, z) from by unfold rPut; rw [h0]]; rfl⟩
theorem c_isPutOffRefused_n {d : Nat} {b : SBt} {Y : OUt} {M : MM} (hb : 94 ≤ b.2.1) {t u : Int32} (h0 : rNoM M t = none) (h4 : rOth M t = none) : CM (d + 3) 0 0 yX5_isPutOffRefused cX5_isPutOffRefused 4 (some .boolean) [.ref 0, .int t, .int u] b Y M (.inl (some (.int (jisS (rPut M t u))))) (jrf M (rPut M t u)) := by
  refine Con.of (by decide +kernel) (Nat.le_of_ble_eq_true rfl) rfl fun p l e s m args below meth c D tyc A ad0 x hr htab hname => ?_
  change JJ _ _ _ _ _ _ _ _ _ _ _ _ _ _ _ _ _ 0 [some (.ref 0), some (.int t), some (.int u), none] [] _ 0 0
  refine j_aload_n x dX5_isPutOffRefused_0 rfl ?_
  refine j_iload_n x dX5_isPutOffRefused_1 rfl ?_
  refine j2_callVi x hb dX5_isPutOffRefused_2 m_X5_isNoMeetingRefused (CM_n (c_isNoMeetingRefused (d := d) hb) h0) wmX5_432 jc_9 rfl rfl rfl (Nat.le_of_ble_eq_true rfl) (j_fit_rm (by omega) (by omega) (by omega)) rfl ?_
  refine j_if_eq (tgt := 10) x dX5_isPutOffRefused_5 (by decide) (fun hc => ?_) (fun hc => absurd (rfl) hc)
  refine j_iload_n x dX5_isPutOffRefused_10 rfl ?_
  refine j_iconst (v := 1) x dX5_isPutOffRefused_11 (by decide) ?_
  refine j_icmp_lt (tgt := 21) x dX5_isPutOffRefused_12 (by decide) (fun h1 => ?_) (fun h1 => ?_)
  · refine j_aload_n x dX5_isPutOffRefused_21 rfl ?_
    refine j_iconst (v := 1) x dX5_isPutOffRefused_22 (by decide) ?_
    refine j_iconst (v := 0) x dX5_isPutOffRefused_23 (by decide) ?_
    refine j2_callVi x hb dX5_isPutOffRefused_24 m_X5_refuse (c_refuse (d := d) hb) wmX5_426 jc_9 rfl rfl rfl (Nat.le_of_ble_eq_true rfl) (j_fit_rm (by omega) (by omega) (by omega)) rfl ?_
    exact j_zreturn x hr dX5_isPutOffRefused_27 (by first | decide | exact jisS_nar | exact jb_nar) (by omega) (by omega) ⟨by rw [show rPut M t u = some (1, 0) from by unfold rPut; rw [h0]; exact if_pos (Or.inl h1)]; rfl, by rw [show rPut M t u = some (1, 0) from by unfold rPut; rw [h0]; exact if_pos (Or.inl h1)]; rfl⟩
  · refine j_iload_n x dX5_isPutOffRefused_15 rfl ?_
    refine j_bipush (v := 9) x dX5_isPutOffRefused_16 (by decide) ?_
    refine j_icmp_le (tgt := 28) x dX5_isPutOffRefused_18 (by decide) (fun h2 => ?_) (fun h2 => ?_)
    · refine j_aload_n x dX5_isPutOffRefused_28 rfl ?_
      refine j2_getr (k := 0) (r := 1) x hb dX5_isPutOffRefused_29 jc_9 wfX5_10 (by decide) rfl ?_
      refine j_iload_n x dX5_isPutOffRefused_32 rfl ?_
      refine j2_callVi x hb dX5_isPutOffRefused_33 m_X2_isPlayed (c_isPlayed (d := d) (a := 1) hb rfl) wmX5_288 jc_6 rfl rfl rfl (Nat.le_of_ble_eq_true rfl) (j_fit_rm (by omega) (by omega) (by omega)) rfl ?_
      refine j_if_eq (tgt := 47) x dX5_isPutOffRefused_36 (by decide) (fun h3 => ?_) (fun h3 => ?_)
      · refine j_aload_n x dX5_isPutOffRefused_47 rfl ?_
        refine j_iload_n x dX5_isPutOffRefused_48 rfl ?_
        refine j2_callVi x hb dX5_isPutOffRefused_49 m_X5_isOtherWeekRefused (CM_n (c_isOtherWeekRefused (d := d) hb) h4) wmX5_438 jc_9 rfl rfl rfl (Nat.le_of_ble_eq_true rfl) (j_fit_rm (by omega) (by omega) (by omega)) rfl ?_
        refine j_if_eq (tgt := 57) x dX5_isPutOffRefused_52 (by decide) (fun hc => ?_) (fun hc => absurd (rfl) hc)
        refine j_aload_n x dX5_isPutOffRefused_57 rfl ?_
        refine j2_getr (k := 0) (r := 1) x hb dX5_isPutOffRefused_58 jc_9 wfX5_10 (by decide) rfl ?_
        refine j2_geti (k := 3) x hb dX5_isPutOffRefused_61 jc_6 wfX5_160 (by decide) rfl ?_
        refine j_iload_n x dX5_isPutOffRefused_64 rfl ?_
        refine j_iadd x dX5_isPutOffRefused_65 ?_
        refine j_istore_n x dX5_isPutOffRefused_66 (by decide) rfl ?_
        refine j_aload_n x dX5_isPutOffRefused_67 rfl ?_
        refine j_iload_n x dX5_isPutOffRefused_68 rfl ?_
        refine j2_callVi x hb dX5_isPutOffRefused_69 m_X5_isWeek (c_isWeek (d := d) hb) wmX5_248 jc_9 rfl rfl rfl (Nat.le_of_ble_eq_true rfl) (j_fit_rm (by omega) (by omega) (by omega)) rfl ?_
        refine j_if_ne (tgt := 89) x dX5_isPutOffRefused_72 (by decide) (fun h5 => ?_) (fun h5 => ?_)
        · refine j_iconst (v := 0) x dX5_isPutOffRefused_89 (by decide) ?_
          exact j_zreturn x hr dX5_isPutOffRefused_90 (by first | decide | exact jisS_nar | exact jb_nar) (by omega) (by omega) ⟨by rw [show rPut M t u = none from by unfold rPut; rw [h0]; simp only []; rw [if_neg (fun q => q.elim h1 (fun q => q h2)), if_neg (jb_0.mp h3), h4]; exact if_neg (fun q => q (jb_nz.mp h5))]; rfl, by rw [show rPut M t u = none from by unfold rPut; rw [h0]; simp only []; rw [if_neg (fun q => q.elim h1 (fun q => q h2)), if_neg (jb_0.mp h3), h4]; exact if_neg (fun q => q (jb_nz.mp h5))]; rfl⟩
        · refine j_aload_n x dX5_isPutOffRefused_75 rfl ?_
          refine j_bipush (v := 10) x dX5_isPutOffRefused_76 (by decide) ?_
          refine j_iload_n x dX5_isPutOffRefused_78 rfl ?_
          refine j2_callVi x hb dX5_isPutOffRefused_79 m_X5_refuse (c_refuse (d := d) hb) wmX5_426 jc_9 rfl rfl rfl (Nat.le_of_ble_eq_true rfl) (j_fit_rm (by omega) (by omega) (by omega)) rfl ?_
          refine j_if_eq (tgt := 89) x dX5_isPutOffRefused_82 (by decide) (fun hc => absurd hc (by decide)) (fun hc => ?_)
          refine j_iconst (v := 1) x dX5_isPutOffRefused_85 (by decide) ?_
          refine j_goto (tgt := 90) x dX5_isPutOffRefused_86 (by decide) ?_
          exact j_zreturn x hr dX5_isPutOffRefused_90 (by first | decide | exact jisS_nar | exact jb_nar) (by omega) (by omega) ⟨by rw [show rPut M t u = some (10, M 1 3 + u) from by unfold rPut; rw [h0]; simp only []; rw [if_neg (fun q => q.elim h1 (fun q => q h2)), if_neg (jb_0.mp h3), h4]; exact if_pos (jb_0.mp h5)]; rfl, by rw [show rPut M t u = some (10, M 1 3 + u) from by unfold rPut; rw [h0]; simp only []; rw [if_neg (fun q => q.elim h1 (fun q => q h2)), if_neg (jb_0.mp h3), h4]; exact if_pos (jb_0.mp h5)]; rfl⟩
      · refine j_aload_n x dX5_isPutOffRefused_39 rfl ?_
        refine j_bipush (v := 8) x dX5_isPutOffRefused_40 (by decide) ?_
        refine j_iconst (v := 0) x dX5_isPutOffRefused_42 (by decide) ?_
        refine j2_callVi x hb dX5_isPutOffRefused_43 m_X5_refuse (c_refuse (d := d) hb) wmX5_426 jc_9 rfl rfl rfl (Nat.le_of_ble_eq_true rfl) (j_fit_rm (by omega) (by omega) (by omega)) rfl ?_
        exact j_zreturn x hr dX5_isPutOffRefused_46 (by first | decide | exact jisS_nar | exact jb_nar) (by omega) (by omega) ⟨by rw [show rPut M t u = some (8, 0) from by unfold rPut; rw [h0]; exact (if_neg (fun q => q.elim h1 (fun q => q h2))).trans (if_pos (jb_nz.mp h3))]; rfl, by rw [show rPut M t u = some (8, 0) from by unfold rPut; rw [h0]; exact (if_neg (fun q => q.elim h1 (fun q => q h2))).trans (if_pos (jb_nz.mp h3))]; rfl⟩
    · refine j_aload_n x dX5_isPutOffRefused_21 rfl ?_
      refine j_iconst (v := 1) x dX5_isPutOffRefused_22 (by decide) ?_
      refine j_iconst (v := 0) x dX5_isPutOffRefused_23 (by decide) ?_
      refine j2_callVi x hb dX5_isPutOffRefused_24 m_X5_refuse (c_refuse (d := d) hb) wmX5_426 jc_9 rfl rfl rfl (Nat.le_of_ble_eq_true rfl) (j_fit_rm (by omega) (by omega) (by omega)) rfl ?_
      exact j_zreturn x hr dX5_isPutOffRefused_27 (by first | decide | exact jisS_nar | exact jb_nar) (by omega) (by omega) ⟨by rw [show rPut M t u = some (1, 0) from by unfold rPut; rw [h0]; exact if_pos (Or.inr h2)]; rfl, by rw [show rPut M t u = some (1, 0) from by unfold rPut; rw [h0]; exact if_pos (Or.inr h2)]; rfl⟩
theorem c_isPutOffRefused_o {d : Nat} {b : SBt} {Y : OUt} {M : MM} (hb : 94 ≤ b.2.1) {t u : Int32} (h0 : rNoM M t = none) {r z : Int32} (h4 : rOth M t = some (r, z)) : CM (d + 3) 0 0 yX5_isPutOffRefused cX5_isPutOffRefused 4 (some .boolean) [.ref 0, .int t, .int u] b Y M (.inl (some (.int (jisS (rPut M t u))))) (jrf M (rPut M t u)) := by
  refine Con.of (by decide +kernel) (Nat.le_of_ble_eq_true rfl) rfl fun p l e s m args below meth c D tyc A ad0 x hr htab hname => ?_
  change JJ _ _ _ _ _ _ _ _ _ _ _ _ _ _ _ _ _ 0 [some (.ref 0), some (.int t), some (.int u), none] [] _ 0 0
  refine j_aload_n x dX5_isPutOffRefused_0 rfl ?_
  refine j_iload_n x dX5_isPutOffRefused_1 rfl ?_
  refine j2_callVi x hb dX5_isPutOffRefused_2 m_X5_isNoMeetingRefused (CM_n (c_isNoMeetingRefused (d := d) hb) h0) wmX5_432 jc_9 rfl rfl rfl (Nat.le_of_ble_eq_true rfl) (j_fit_rm (by omega) (by omega) (by omega)) rfl ?_
  refine j_if_eq (tgt := 10) x dX5_isPutOffRefused_5 (by decide) (fun hc => ?_) (fun hc => absurd (rfl) hc)
  refine j_iload_n x dX5_isPutOffRefused_10 rfl ?_
  refine j_iconst (v := 1) x dX5_isPutOffRefused_11 (by decide) ?_
  refine j_icmp_lt (tgt := 21) x dX5_isPutOffRefused_12 (by decide) (fun h1 => ?_) (fun h1 => ?_)
  · refine j_aload_n x dX5_isPutOffRefused_21 rfl ?_
    refine j_iconst (v := 1) x dX5_isPutOffRefused_22 (by decide) ?_
    refine j_iconst (v := 0) x dX5_isPutOffRefused_23 (by decide) ?_
    refine j2_callVi x hb dX5_isPutOffRefused_24 m_X5_refuse (c_refuse (d := d) hb) wmX5_426 jc_9 rfl rfl rfl (Nat.le_of_ble_eq_true rfl) (j_fit_rm (by omega) (by omega) (by omega)) rfl ?_
    exact j_zreturn x hr dX5_isPutOffRefused_27 (by first | decide | exact jisS_nar | exact jb_nar) (by omega) (by omega) ⟨by rw [show rPut M t u = some (1, 0) from by unfold rPut; rw [h0]; exact if_pos (Or.inl h1)]; rfl, by rw [show rPut M t u = some (1, 0) from by unfold rPut; rw [h0]; exact if_pos (Or.inl h1)]; rfl⟩
  · refine j_iload_n x dX5_isPutOffRefused_15 rfl ?_
    refine j_bipush (v := 9) x dX5_isPutOffRefused_16 (by decide) ?_
    refine j_icmp_le (tgt := 28) x dX5_isPutOffRefused_18 (by decide) (fun h2 => ?_) (fun h2 => ?_)
    · refine j_aload_n x dX5_isPutOffRefused_28 rfl ?_
      refine j2_getr (k := 0) (r := 1) x hb dX5_isPutOffRefused_29 jc_9 wfX5_10 (by decide) rfl ?_
      refine j_iload_n x dX5_isPutOffRefused_32 rfl ?_
      refine j2_callVi x hb dX5_isPutOffRefused_33 m_X2_isPlayed (c_isPlayed (d := d) (a := 1) hb rfl) wmX5_288 jc_6 rfl rfl rfl (Nat.le_of_ble_eq_true rfl) (j_fit_rm (by omega) (by omega) (by omega)) rfl ?_
      refine j_if_eq (tgt := 47) x dX5_isPutOffRefused_36 (by decide) (fun h3 => ?_) (fun h3 => ?_)
      · refine j_aload_n x dX5_isPutOffRefused_47 rfl ?_
        refine j_iload_n x dX5_isPutOffRefused_48 rfl ?_
        refine j2_callVi x hb dX5_isPutOffRefused_49 m_X5_isOtherWeekRefused (CM_s (c_isOtherWeekRefused (d := d) hb) h4) wmX5_438 jc_9 rfl rfl rfl (Nat.le_of_ble_eq_true rfl) (j_fit_rm (by omega) (by omega) (by omega)) rfl ?_
        refine j_if_eq (tgt := 57) x dX5_isPutOffRefused_52 (by decide) (fun hc => absurd hc (by decide)) (fun hc => ?_)
        refine j_iconst (v := 1) x dX5_isPutOffRefused_55 (by decide) ?_
        exact j_zreturn x hr dX5_isPutOffRefused_56 (by first | decide | exact jisS_nar | exact jb_nar) (by omega) (by omega) ⟨by rw [show rPut M t u = some (r, z) from by unfold rPut; rw [h0]; simp only []; rw [if_neg (fun q => q.elim h1 (fun q => q h2)), if_neg (jb_0.mp h3), h4]]; rfl, by rw [show rPut M t u = some (r, z) from by unfold rPut; rw [h0]; simp only []; rw [if_neg (fun q => q.elim h1 (fun q => q h2)), if_neg (jb_0.mp h3), h4]]; rfl⟩
      · refine j_aload_n x dX5_isPutOffRefused_39 rfl ?_
        refine j_bipush (v := 8) x dX5_isPutOffRefused_40 (by decide) ?_
        refine j_iconst (v := 0) x dX5_isPutOffRefused_42 (by decide) ?_
        refine j2_callVi x hb dX5_isPutOffRefused_43 m_X5_refuse (c_refuse (d := d) hb) wmX5_426 jc_9 rfl rfl rfl (Nat.le_of_ble_eq_true rfl) (j_fit_rm (by omega) (by omega) (by omega)) rfl ?_
        exact j_zreturn x hr dX5_isPutOffRefused_46 (by first | decide | exact jisS_nar | exact jb_nar) (by omega) (by omega) ⟨by rw [show rPut M t u = some (8, 0) from by unfold rPut; rw [h0]; exact (if_neg (fun q => q.elim h1 (fun q => q h2))).trans (if_pos (jb_nz.mp h3))]; rfl, by rw [show rPut M t u = some (8, 0) from by unfold rPut; rw [h0]; exact (if_neg (fun q => q.elim h1 (fun q => q h2))).trans (if_pos (jb_nz.mp h3))]; rfl⟩
    · refine j_aload_n x dX5_isPutOffRefused_21 rfl ?_
      refine j_iconst (v := 1) x dX5_isPutOffRefused_22 (by decide) ?_
      refine j_iconst (v := 0) x dX5_isPutOffRefused_23 (by decide) ?_
      refine j2_callVi x hb dX5_isPutOffRefused_24 m_X5_refuse (c_refuse (d := d) hb) wmX5_426 jc_9 rfl rfl rfl (Nat.le_of_ble_eq_true rfl) (j_fit_rm (by omega) (by omega) (by omega)) rfl ?_
      exact j_zreturn x hr dX5_isPutOffRefused_27 (by first | decide | exact jisS_nar | exact jb_nar) (by omega) (by omega) ⟨by rw [show rPut M t u = some (1, 0) from by unfold rPut; rw [h0]; exact if_pos (Or.inr h2)]; rfl, by rw [show rPut M t u = some (1, 0) from by unfold rPut; rw [h0]; exact if_pos (Or.inr h2)]; rfl⟩
theorem c_isPutOffRefused {d : Nat} {b : SBt} {Y : OUt} {M : MM} (hb : 94 ≤ b.2.1) {t u : Int32} : CM (d + 3) 0 0 yX5_isPutOffRefused cX5_isPutOffRefused 4 (some .boolean) [.ref 0, .int t, .int u] b Y M (.inl (some (.int (jisS (rPut M t u))))) (jrf M (rPut M t u)) := by
  cases h0 : rNoM M t with
  | some q => exact c_isPutOffRefused_s hb h0
  | none =>
    cases h4 : rOth M t with
    | some q => exact c_isPutOffRefused_o hb h0 h4
    | none => exact c_isPutOffRefused_n hb h0 h4
theorem c_isNextRefused {d : Nat} {b : SBt} {Y : OUt} {M : MM} (hb : 94 ≤ b.2.1) {n : Nat} (hn : n ≤ 56) (hm : jmc M = nI n) : CM (d + 3) 0 0 yX5_isNextRefused cX5_isNextRefused 2 (some .boolean) [.ref 0] b Y M (.inl (some (.int (jisS (rNext M n))))) (jrf M (rNext M n)) := by
  refine Con.of (by decide +kernel) (Nat.le_of_ble_eq_true rfl) rfl fun p l e s m args below meth c D tyc A ad0 x hr htab hname => ?_
  change JJ _ _ _ _ _ _ _ _ _ _ _ _ _ _ _ _ _ 0 [some (.ref 0), none] [] _ 0 0
  refine j_aload_n x dX5_isNextRefused_0 rfl ?_
  refine j2_getr (k := 0) (r := 1) x hb dX5_isNextRefused_1 jc_9 wfX5_10 (by decide) rfl ?_
  refine j2_geti (k := 2) x hb dX5_isNextRefused_4 jc_6 wfX5_388 (by decide) rfl ?_
  refine j_if_ne (tgt := 17) x dX5_isNextRefused_7 (by decide) (fun h1 => ?_) (fun h1 => ?_)
  · refine j_aload_n x dX5_isNextRefused_17 rfl ?_
    refine j2_callVi x hb dX5_isNextRefused_18 m_X5_firstNotPlayedNow (c_firstNotPlayedNow (d := d) hb hn hm) wmX5_441 jc_9 rfl rfl rfl (Nat.le_of_ble_eq_true rfl) (j_fit_rm (by omega) (by omega) (by omega)) rfl ?_
    refine j_istore_n x dX5_isNextRefused_21 (by decide) rfl ?_
    refine j_iload_n x dX5_isNextRefused_22 rfl ?_
    refine j_iconst (v := (-1)) x dX5_isNextRefused_23 (by decide) ?_
    refine j_icmp_eq (tgt := 35) x dX5_isNextRefused_24 (by decide) (fun h2 => ?_) (fun h2 => ?_)
    · refine j_aload_n x dX5_isNextRefused_35 rfl ?_
      refine j_aload_n x dX5_isNextRefused_36 rfl ?_
      refine j2_getr (k := 0) (r := 1) x hb dX5_isNextRefused_37 jc_9 wfX5_10 (by decide) rfl ?_
      refine j2_geti (k := 3) x hb dX5_isNextRefused_40 jc_6 wfX5_160 (by decide) rfl ?_
      refine j_iconst (v := 1) x dX5_isNextRefused_43 (by decide) ?_
      refine j_iadd x dX5_isNextRefused_44 ?_
      refine j2_callVi x hb dX5_isNextRefused_45 m_X5_isWeek (c_isWeek (d := d) hb) wmX5_248 jc_9 rfl rfl rfl (Nat.le_of_ble_eq_true rfl) (j_fit_rm (by omega) (by omega) (by omega)) rfl ?_
      refine j_if_ne (tgt := 71) x dX5_isNextRefused_48 (by decide) (fun h3 => ?_) (fun h3 => ?_)
      · refine j_iconst (v := 0) x dX5_isNextRefused_71 (by decide) ?_
        exact j_zreturn x hr dX5_isNextRefused_72 (by first | decide | exact jisS_nar | exact jb_nar) (by omega) (by omega) ⟨by rw [show rNext M n = none from (if_neg h1).trans ((if_neg (fun q => q h2)).trans (if_neg (fun q => q (jb_nz.mp h3))))]; rfl, by rw [show rNext M n = none from (if_neg h1).trans ((if_neg (fun q => q h2)).trans (if_neg (fun q => q (jb_nz.mp h3))))]; rfl⟩
      · refine j_aload_n x dX5_isNextRefused_51 rfl ?_
        refine j_bipush (v := 14) x dX5_isNextRefused_52 (by decide) ?_
        refine j_aload_n x dX5_isNextRefused_54 rfl ?_
        refine j2_getr (k := 0) (r := 1) x hb dX5_isNextRefused_55 jc_9 wfX5_10 (by decide) rfl ?_
        refine j2_geti (k := 3) x hb dX5_isNextRefused_58 jc_6 wfX5_160 (by decide) rfl ?_
        refine j2_callVi x hb dX5_isNextRefused_61 m_X5_refuse (c_refuse (d := d) hb) wmX5_426 jc_9 rfl rfl rfl (Nat.le_of_ble_eq_true rfl) (j_fit_rm (by omega) (by omega) (by omega)) rfl ?_
        refine j_if_eq (tgt := 71) x dX5_isNextRefused_64 (by decide) (fun hc => absurd hc (by decide)) (fun hc => ?_)
        refine j_iconst (v := 1) x dX5_isNextRefused_67 (by decide) ?_
        refine j_goto (tgt := 72) x dX5_isNextRefused_68 (by decide) ?_
        exact j_zreturn x hr dX5_isNextRefused_72 (by first | decide | exact jisS_nar | exact jb_nar) (by omega) (by omega) ⟨by rw [show rNext M n = some (14, M 1 3) from (if_neg h1).trans ((if_neg (fun q => q h2)).trans (if_pos (jb_0.mp h3)))]; rfl, by rw [show rNext M n = some (14, M 1 3) from (if_neg h1).trans ((if_neg (fun q => q h2)).trans (if_pos (jb_0.mp h3)))]; rfl⟩
    · refine j_aload_n x dX5_isNextRefused_27 rfl ?_
      refine j_bipush (v := 11) x dX5_isNextRefused_28 (by decide) ?_
      refine j_iload_n x dX5_isNextRefused_30 rfl ?_
      refine j2_callVi x hb dX5_isNextRefused_31 m_X5_refuse (c_refuse (d := d) hb) wmX5_426 jc_9 rfl rfl rfl (Nat.le_of_ble_eq_true rfl) (j_fit_rm (by omega) (by omega) (by omega)) rfl ?_
      exact j_zreturn x hr dX5_isNextRefused_34 (by first | decide | exact jisS_nar | exact jb_nar) (by omega) (by omega) ⟨by rw [show rNext M n = some (11, jfst (fNow M) n) from (if_neg h1).trans (if_pos h2)]; rfl, by rw [show rNext M n = some (11, jfst (fNow M) n) from (if_neg h1).trans (if_pos h2)]; rfl⟩
  · refine j_aload_n x dX5_isNextRefused_10 rfl ?_
    refine j_iconst (v := 5) x dX5_isNextRefused_11 (by decide) ?_
    refine j_iconst (v := 0) x dX5_isNextRefused_12 (by decide) ?_
    refine j2_callVi x hb dX5_isNextRefused_13 m_X5_refuse (c_refuse (d := d) hb) wmX5_426 jc_9 rfl rfl rfl (Nat.le_of_ble_eq_true rfl) (j_fit_rm (by omega) (by omega) (by omega)) rfl ?_
    exact j_zreturn x hr dX5_isNextRefused_16 (by first | decide | exact jisS_nar | exact jb_nar) (by omega) (by omega) ⟨by rw [show rNext M n = some (5, 0) from if_pos h1]; rfl, by rw [show rNext M n = some (5, 0) from if_pos h1]; rfl⟩
def rGive (M : MM) (t u : Int32) (n : Nat) : Option (Int32 × Int32) := if ¬ jcount M n 75 0 ≤ 0 then some (12, jcount M n 75 0) else none
theorem c_isGiveRefused_n {d : Nat} {b : SBt} {Y : OUt} {M : MM} (hb : 94 ≤ b.2.1) {t u : Int32} {n : Nat} (hn : n ≤ 56) (hm : jmc M = nI n) (hx : ¬ (t < 1 ∨ 5 < t ∨ u < 0 ∨ ¬ u ≤ 3)) (h3 : jcount M n 75 0 ≤ 0) : CM (d + 5) 0 0 yX5_isGiveRefused cX5_isGiveRefused 3 (some .boolean) [.ref 0, .int t, .int u] b Y M (.inl (some (.int 0))) (jcount M n) := by
  refine Con.of (by decide +kernel) (Nat.le_of_ble_eq_true rfl) rfl fun p l e s m args below meth c D tyc A ad0 x hr htab hname => ?_
  change JJ _ _ _ _ _ _ _ _ _ _ _ _ _ _ _ _ _ 0 [some (.ref 0), some (.int t), some (.int u)] [] _ 0 0
  refine j_iload_n x dX5_isGiveRefused_0 rfl ?_
  refine j_iconst (v := 1) x dX5_isGiveRefused_1 (by decide) ?_
  refine j_icmp_lt (tgt := 19) x dX5_isGiveRefused_2 (by decide) (fun hc => absurd hc (fun q => hx (Or.inl q))) (fun hc => ?_)
  refine j_iload_n x dX5_isGiveRefused_5 rfl ?_
  refine j_iconst (v := 5) x dX5_isGiveRefused_6 (by decide) ?_
  refine j_icmp_gt (tgt := 19) x dX5_isGiveRefused_7 (by decide) (fun hc => absurd hc (fun q => hx (Or.inr (Or.inl q)))) (fun hc => ?_)
  refine j_iload_n x dX5_isGiveRefused_10 rfl ?_
  refine j_if_lt (tgt := 19) x dX5_isGiveRefused_11 (by decide) (fun hc => absurd hc (fun q => hx (Or.inr (Or.inr (Or.inl q))))) (fun hc => ?_)
  refine j_iload_n x dX5_isGiveRefused_14 rfl ?_
  refine j_iconst (v := 3) x dX5_isGiveRefused_15 (by decide) ?_
  refine j_icmp_le (tgt := 26) x dX5_isGiveRefused_16 (by decide) (fun hc => ?_) (fun hc => absurd (Decidable.byContradiction fun q => hx (Or.inr (Or.inr (Or.inr q)))) hc)
  refine j_aload_n x dX5_isGiveRefused_26 rfl ?_
  refine j2_callVv x hb dX5_isGiveRefused_27 m_X5_count (c_count (d := d) hb hn hm) wmX5_187 jc_9 rfl rfl rfl (Nat.le_of_ble_eq_true rfl) (j_fit_rm (by omega) (by omega) (by omega)) rfl ?_
  refine j_aload_n x dX5_isGiveRefused_30 rfl ?_
  refine j2_getr (k := 5) (r := 75) x hb dX5_isGiveRefused_31 jc_9 wfX5_36 (by decide) rfl ?_
  refine j2_geti (k := 0) x hb dX5_isGiveRefused_34 jc_7 wfX5_372 (by decide) rfl ?_
  refine j_if_le (tgt := 60) x dX5_isGiveRefused_37 (by decide) (fun hc => ?_) (fun hc => absurd (h3) hc)
  refine j_iconst (v := 0) x dX5_isGiveRefused_60 (by decide) ?_
  exact j_zreturn x hr dX5_isGiveRefused_61 (by first | decide | exact jisS_nar | exact jb_nar) (by omega) (by omega) ⟨rfl, rfl⟩
theorem c_isGiveRefused_s {d : Nat} {b : SBt} {Y : OUt} {M : MM} (hb : 94 ≤ b.2.1) {t u : Int32} {n : Nat} (hn : n ≤ 56) (hm : jmc M = nI n) (hx : ¬ (t < 1 ∨ 5 < t ∨ u < 0 ∨ ¬ u ≤ 3)) (h3 : ¬ jcount M n 75 0 ≤ 0) : CM (d + 5) 0 0 yX5_isGiveRefused cX5_isGiveRefused 3 (some .boolean) [.ref 0, .int t, .int u] b Y M (.inl (some (.int 1))) (jref (jcount M n) 12 (jcount M n 75 0)) := by
  refine Con.of (by decide +kernel) (Nat.le_of_ble_eq_true rfl) rfl fun p l e s m args below meth c D tyc A ad0 x hr htab hname => ?_
  change JJ _ _ _ _ _ _ _ _ _ _ _ _ _ _ _ _ _ 0 [some (.ref 0), some (.int t), some (.int u)] [] _ 0 0
  refine j_iload_n x dX5_isGiveRefused_0 rfl ?_
  refine j_iconst (v := 1) x dX5_isGiveRefused_1 (by decide) ?_
  refine j_icmp_lt (tgt := 19) x dX5_isGiveRefused_2 (by decide) (fun hc => absurd hc (fun q => hx (Or.inl q))) (fun hc => ?_)
  refine j_iload_n x dX5_isGiveRefused_5 rfl ?_
  refine j_iconst (v := 5) x dX5_isGiveRefused_6 (by decide) ?_
  refine j_icmp_gt (tgt := 19) x dX5_isGiveRefused_7 (by decide) (fun hc => absurd hc (fun q => hx (Or.inr (Or.inl q)))) (fun hc => ?_)
  refine j_iload_n x dX5_isGiveRefused_10 rfl ?_
  refine j_if_lt (tgt := 19) x dX5_isGiveRefused_11 (by decide) (fun hc => absurd hc (fun q => hx (Or.inr (Or.inr (Or.inl q))))) (fun hc => ?_)
  refine j_iload_n x dX5_isGiveRefused_14 rfl ?_
  refine j_iconst (v := 3) x dX5_isGiveRefused_15 (by decide) ?_
  refine j_icmp_le (tgt := 26) x dX5_isGiveRefused_16 (by decide) (fun hc => ?_) (fun hc => absurd (Decidable.byContradiction fun q => hx (Or.inr (Or.inr (Or.inr q)))) hc)
  refine j_aload_n x dX5_isGiveRefused_26 rfl ?_
  refine j2_callVv x hb dX5_isGiveRefused_27 m_X5_count (c_count (d := d) hb hn hm) wmX5_187 jc_9 rfl rfl rfl (Nat.le_of_ble_eq_true rfl) (j_fit_rm (by omega) (by omega) (by omega)) rfl ?_
  refine j_aload_n x dX5_isGiveRefused_30 rfl ?_
  refine j2_getr (k := 5) (r := 75) x hb dX5_isGiveRefused_31 jc_9 wfX5_36 (by decide) rfl ?_
  refine j2_geti (k := 0) x hb dX5_isGiveRefused_34 jc_7 wfX5_372 (by decide) rfl ?_
  refine j_if_le (tgt := 60) x dX5_isGiveRefused_37 (by decide) (fun hc => absurd hc (h3)) (fun hc => ?_)
  refine j_aload_n x dX5_isGiveRefused_40 rfl ?_
  refine j_bipush (v := 12) x dX5_isGiveRefused_41 (by decide) ?_
  refine j_aload_n x dX5_isGiveRefused_43 rfl ?_
  refine j2_getr (k := 5) (r := 75) x hb dX5_isGiveRefused_44 jc_9 wfX5_36 (by decide) rfl ?_
  refine j2_geti (k := 0) x hb dX5_isGiveRefused_47 jc_7 wfX5_372 (by decide) rfl ?_
  refine j2_callVi x hb dX5_isGiveRefused_50 m_X5_refuse (c_refuse (d := d) hb) wmX5_426 jc_9 rfl rfl rfl (Nat.le_of_ble_eq_true rfl) (j_fit_rm (by omega) (by omega) (by omega)) rfl ?_
  refine j_if_eq (tgt := 60) x dX5_isGiveRefused_53 (by decide) (fun hc => absurd hc (by decide)) (fun hc => ?_)
  refine j_iconst (v := 1) x dX5_isGiveRefused_56 (by decide) ?_
  refine j_goto (tgt := 61) x dX5_isGiveRefused_57 (by decide) ?_
  exact j_zreturn x hr dX5_isGiveRefused_61 (by first | decide | exact jisS_nar | exact jb_nar) (by omega) (by omega) ⟨rfl, rfl⟩
def jfree (M : MM) (n z q0 : Nat) (t : Int32) : Int32 := if jfst (fun i => jb (jsum (fCl M t (nI (q0 + 1 + i))) n = 0)) (z - (q0 + 1)) = -1 then -1 else nI (q0 + 1) + jfst (fun i => jb (jsum (fCl M t (nI (q0 + 1 + i))) n = 0)) (z - (q0 + 1))
theorem c_firstFreeWeek {d : Nat} {b : SBt} {Y : OUt} {M : MM} (hb : 94 ≤ b.2.1) {t : Int32} {n z q0 : Nat} (hn : n ≤ 56) (hm : jmc M = nI n) (hz : z ≤ 14) (hw : jwc M = nI z) (h0 : jat 56 (M 4) t = nI q0) (hq : q0 < z) : CM (d + 3) 0 0 yX5_firstFreeWeek cX5_firstFreeWeek 3 (some .int) [.ref 0, .int t] b Y M (.inl (some (.int (jfree M n z q0 t)))) (M) := by
  refine Con.of (by decide +kernel) (Nat.le_of_ble_eq_true rfl) rfl fun p l e s m args below meth c D tyc A ad0 x hr htab hname => ?_
  change JJ _ _ _ _ _ _ _ _ _ _ _ _ _ _ _ _ _ 0 [some (.ref 0), some (.int t), none] [] _ 0 0
  refine j_aload_n x dX5_firstFreeWeek_0 rfl ?_
  refine j2_getr (k := 0) (r := 1) x hb dX5_firstFreeWeek_1 jc_9 wfX5_10 (by decide) rfl ?_
  refine j2_getr (k := 8) (r := 4) x hb dX5_firstFreeWeek_4 jc_6 wfX5_163 (by decide) rfl ?_
  refine j_iload_n x dX5_firstFreeWeek_7 rfl ?_
  refine j2_callSi x hb dX5_firstFreeWeek_8 m_X5_at (CM_v (c_at (d := d) hb fa_4 (by decide)) h0) wmX5_93 rfl (Nat.le_of_ble_eq_true rfl) (j_fit_rm (by omega) (by omega) (by omega)) rfl ?_
  refine j_iconst (v := 1) x dX5_firstFreeWeek_11 (by decide) ?_
  refine j_iadd x dX5_firstFreeWeek_12 ?_; rw [nI_1]
  refine j_istore_n x dX5_firstFreeWeek_13 (by decide) rfl ?_
  refine j_for (z - (q0 + 1)) (fun j => [some (.ref 0), some (.int t), some (.int (nI (q0 + 1 + j)))]) (fun j => M) (fun j => jfst (fun i => jb (jsum (fCl M t (nI (q0 + 1 + i))) n = 0)) j = -1) (rfl) (rfl) (rfl) (fun j hj hP ih => ?_) (fun hP => ?_)
  · refine j_iload_n x dX5_firstFreeWeek_14 rfl ?_
    refine j_aload_n x dX5_firstFreeWeek_15 rfl ?_
    refine j2_callVi x hb dX5_firstFreeWeek_16 m_X5_weekCount (CM_v (c_weekCount (d := d) hb) hw) wmX5_392 jc_9 rfl rfl rfl (Nat.le_of_ble_eq_true rfl) (j_fit_rm (by omega) (by omega) (by omega)) rfl ?_
    refine j_icmp_ge (tgt := 39) x dX5_firstFreeWeek_19 (by decide) (fun hc => absurd hc (nI_ge (by omega) (by omega))) (fun hc => ?_)
    refine j_aload_n x dX5_firstFreeWeek_22 rfl ?_
    refine j_iload_n x dX5_firstFreeWeek_23 rfl ?_
    refine j_iload_n x dX5_firstFreeWeek_24 rfl ?_
    refine j2_callVi x hb dX5_firstFreeWeek_25 m_X5_clashesOf (c_clashesOf (d := d) hb hn hm) wmX5_165 jc_9 rfl rfl rfl (Nat.le_of_ble_eq_true rfl) (j_fit_rm (by omega) (by omega) (by omega)) rfl ?_
    refine j_if_ne (tgt := 33) x dX5_firstFreeWeek_28 (by decide) (fun h1 => ?_) (fun h1 => ?_)
    · refine j_iinc x dX5_firstFreeWeek_33 rfl (by decide) rfl ?_
      refine j_goto (tgt := 14) x dX5_firstFreeWeek_36 (by decide) ?_
      exact j_goal (ih (jfst_no hP (fun q => absurd ((show (fun i => jb (jsum (fCl M t (nI (q0 + 1 + i))) n = 0)) j = 0 from jb_f h1).symm.trans q) (by decide)))) (wk_c rfl (wk_c rfl (wk_c (congrArg (fun z => some (Value.int z)) (nI_1 (q0 + 1 + j))) (wk_0)))) (rfl)
    · refine j_iload_n x dX5_firstFreeWeek_31 rfl ?_
      exact j_ireturn x hr dX5_firstFreeWeek_32 (by omega) (by omega) ⟨by unfold jfree; rw [jfst_at hP (show (fun i => jb (jsum (fCl M t (nI (q0 + 1 + i))) n = 0)) j = 1 from jb_t h1) (by omega) hj, if_neg (nI_nm1 (by omega)), nI_add], rfl⟩
  refine j_iload_n x dX5_firstFreeWeek_14 rfl ?_
  refine j_aload_n x dX5_firstFreeWeek_15 rfl ?_
  refine j2_callVi x hb dX5_firstFreeWeek_16 m_X5_weekCount (CM_v (c_weekCount (d := d) hb) hw) wmX5_392 jc_9 rfl rfl rfl (Nat.le_of_ble_eq_true rfl) (j_fit_rm (by omega) (by omega) (by omega)) rfl ?_
  refine j_icmp_ge (tgt := 39) x dX5_firstFreeWeek_19 (by decide) (fun hc => ?_) (fun hc => absurd (by rw [show q0 + 1 + (z - (q0 + 1)) = z from by omega]; exact nI_le (Nat.le_refl _) (by omega)) hc)
  refine j_iconst (v := (-1)) x dX5_firstFreeWeek_39 (by decide) ?_
  exact j_ireturn x hr dX5_firstFreeWeek_40 (by omega) (by omega) ⟨by unfold jfree; rw [if_pos hP], rfl⟩
