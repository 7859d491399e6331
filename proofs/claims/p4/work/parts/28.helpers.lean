/-! ===== the law's own methods: what the call answers, or which handler takes what it throws ===== -/
theorem H_team_r {d mc ms : Nat} {b : SBt} {Y : OUt} {M M1 : MM} (hb : 104 ≤ b.2.1) {u0 : Int32} {v : Int32} (hcon : CM d mc ms yX5_team cX5_team 2 (some .int) [.ref 0, .int u0] b Y M (.inl (some (.int v))) M1) : CMH (d + 1) mc ms yL_team cL_team 4 (some .int) [(0, 9, 12, 13)] [.ref 0, .int u0, .ref 102] b Y M 0 (ju Y.1 0 v.toInt64, Y.2) M1 := by
  refine ConH.of (by decide +kernel) (Nat.le_of_ble_eq_true rfl) rfl fun p l e s m args below meth c D tyc A ad0 x hr htab hname => ?_
  change JJ _ _ _ _ _ _ _ _ _ _ _ _ _ _ _ _ _ 0 [some (.ref 0), some (.int u0), some (.ref 102), none] [] _ 0 0
  refine j_aload_n x dL_team_0 rfl ?_
  refine j_iconst (v := 0) x dL_team_1 (by decide) ?_
  refine j_aload_n x dL_team_2 rfl ?_
  refine j_iload_n x dL_team_3 rfl ?_
  refine j2_callVi x hb dL_team_4 m_X5_team hcon wmL_7 jc_9 rfl rfl rfl (Nat.le_of_ble_eq_true rfl) (j_fit_rm (by omega) (by omega) (by omega)) rfl ?_
  refine j_i2l x dL_team_7 ?_
  refine j2_last x hb dL_team_8 ?_
  refine j_goto (tgt := 15) x dL_team_9 (by decide) ?_
  refine j_iconst (v := 0) x dL_team_15 (by decide) ?_
  exact j_ireturn x hr dL_team_16 (by omega) (by omega) ⟨rfl, rfl⟩
theorem H_team_t1 {d mc ms : Nat} {b : SBt} {Y : OUt} {M M1 : MM} (hb : 104 ≤ b.2.1) {u0 : Int32} (hcon : CM d mc ms yX5_team cX5_team 2 (some .int) [.ref 0, .int u0] b Y M (.inr "java/lang/UnsupportedOperationException") M1) : CMH (d + 1) mc ms yL_team cL_team 4 (some .int) [(0, 9, 12, 13)] [.ref 0, .int u0, .ref 102] b Y M 1 Y M1 := by
  refine ConH.of (by decide +kernel) (Nat.le_of_ble_eq_true rfl) rfl fun p l e s m args below meth c D tyc A ad0 x hr htab hname => ?_
  change JJ _ _ _ _ _ _ _ _ _ _ _ _ _ _ _ _ _ 0 [some (.ref 0), some (.int u0), some (.ref 102), none] [] _ 0 0
  refine j_aload_n x dL_team_0 rfl ?_
  refine j_iconst (v := 0) x dL_team_1 (by decide) ?_
  refine j_aload_n x dL_team_2 rfl ?_
  refine j_iload_n x dL_team_3 rfl ?_
  refine j2_callC x hb dL_team_4 m_X5_team hcon wmL_7 jc_9 rfl rfl rfl (Nat.le_of_ble_eq_true rfl) (j_fit_rm (by omega) (by omega) (by omega)) rfl [] ⟨0, 9, 12, 13⟩ [] htab (fun w hw => by cases hw) (by decide) (by decide) wcL_13 wx_UnsupportedOperationException rfl (fun a => ?_)
  refine j_astore_nR x dL_team_12 (by decide) rfl ?_
  refine j_iconst (v := 1) x dL_team_13 (by decide) ?_
  exact j_ireturn x hr dL_team_14 (by omega) (by omega) ⟨rfl, rfl⟩
theorem H_ground_r {d mc ms : Nat} {b : SBt} {Y : OUt} {M M1 : MM} (hb : 104 ≤ b.2.1) {u0 u1 : Int32} {v : Int32} (hcon : CM d mc ms yX5_ground cX5_ground 4 (some .int) [.ref 0, .int u0, .int u1] b Y M (.inl (some (.int v))) M1) : CMH (d + 1) mc ms yL_ground cL_ground 5 (some .int) [(0, 10, 13, 13)] [.ref 0, .int u0, .int u1, .ref 102] b Y M 0 (ju Y.1 0 v.toInt64, Y.2) M1 := by
  refine ConH.of (by decide +kernel) (Nat.le_of_ble_eq_true rfl) rfl fun p l e s m args below meth c D tyc A ad0 x hr htab hname => ?_
  change JJ _ _ _ _ _ _ _ _ _ _ _ _ _ _ _ _ _ 0 [some (.ref 0), some (.int u0), some (.int u1), some (.ref 102), none] [] _ 0 0
  refine j_aload_n x dL_ground_0 rfl ?_
  refine j_iconst (v := 0) x dL_ground_1 (by decide) ?_
  refine j_aload_n x dL_ground_2 rfl ?_
  refine j_iload_n x dL_ground_3 rfl ?_
  refine j_iload_n x dL_ground_4 rfl ?_
  refine j2_callVi x hb dL_ground_5 m_X5_ground hcon wmL_15 jc_9 rfl rfl rfl (Nat.le_of_ble_eq_true rfl) (j_fit_rm (by omega) (by omega) (by omega)) rfl ?_
  refine j_i2l x dL_ground_8 ?_
  refine j2_last x hb dL_ground_9 ?_
  refine j_goto (tgt := 17) x dL_ground_10 (by decide) ?_
  refine j_iconst (v := 0) x dL_ground_17 (by decide) ?_
  exact j_ireturn x hr dL_ground_18 (by omega) (by omega) ⟨rfl, rfl⟩
theorem H_ground_t1 {d mc ms : Nat} {b : SBt} {Y : OUt} {M M1 : MM} (hb : 104 ≤ b.2.1) {u0 u1 : Int32} (hcon : CM d mc ms yX5_ground cX5_ground 4 (some .int) [.ref 0, .int u0, .int u1] b Y M (.inr "java/lang/UnsupportedOperationException") M1) : CMH (d + 1) mc ms yL_ground cL_ground 5 (some .int) [(0, 10, 13, 13)] [.ref 0, .int u0, .int u1, .ref 102] b Y M 1 Y M1 := by
  refine ConH.of (by decide +kernel) (Nat.le_of_ble_eq_true rfl) rfl fun p l e s m args below meth c D tyc A ad0 x hr htab hname => ?_
  change JJ _ _ _ _ _ _ _ _ _ _ _ _ _ _ _ _ _ 0 [some (.ref 0), some (.int u0), some (.int u1), some (.ref 102), none] [] _ 0 0
  refine j_aload_n x dL_ground_0 rfl ?_
  refine j_iconst (v := 0) x dL_ground_1 (by decide) ?_
  refine j_aload_n x dL_ground_2 rfl ?_
  refine j_iload_n x dL_ground_3 rfl ?_
  refine j_iload_n x dL_ground_4 rfl ?_
  refine j2_callC x hb dL_ground_5 m_X5_ground hcon wmL_15 jc_9 rfl rfl rfl (Nat.le_of_ble_eq_true rfl) (j_fit_rm (by omega) (by omega) (by omega)) rfl [] ⟨0, 10, 13, 13⟩ [] htab (fun w hw => by cases hw) (by decide) (by decide) wcL_13 wx_UnsupportedOperationException rfl (fun a => ?_)
  refine j_astoreR x dL_ground_13 (by decide) rfl ?_
  refine j_iconst (v := 1) x dL_ground_15 (by decide) ?_
  exact j_ireturn x hr dL_ground_16 (by omega) (by omega) ⟨rfl, rfl⟩
theorem H_draw_r {d mc ms : Nat} {b : SBt} {Y : OUt} {M M1 : MM} (hb : 104 ≤ b.2.1) {v : Int32} (hcon : CM d mc ms yX5_draw cX5_draw 1 (some .int) [.ref 0] b Y M (.inl (some (.int v))) M1) : CMH (d + 1) mc ms yL_draw cL_draw 3 (some .int) [(0, 8, 11, 13)] [.ref 0, .ref 102] b Y M 0 (ju Y.1 0 v.toInt64, Y.2) M1 := by
  refine ConH.of (by decide +kernel) (Nat.le_of_ble_eq_true rfl) rfl fun p l e s m args below meth c D tyc A ad0 x hr htab hname => ?_
  change JJ _ _ _ _ _ _ _ _ _ _ _ _ _ _ _ _ _ 0 [some (.ref 0), some (.ref 102), none] [] _ 0 0
  refine j_aload_n x dL_draw_0 rfl ?_
  refine j_iconst (v := 0) x dL_draw_1 (by decide) ?_
  refine j_aload_n x dL_draw_2 rfl ?_
  refine j2_callVi x hb dL_draw_3 m_X5_draw hcon wmL_19 jc_9 rfl rfl rfl (Nat.le_of_ble_eq_true rfl) (j_fit_rm (by omega) (by omega) (by omega)) rfl ?_
  refine j_i2l x dL_draw_6 ?_
  refine j2_last x hb dL_draw_7 ?_
  refine j_goto (tgt := 14) x dL_draw_8 (by decide) ?_
  refine j_iconst (v := 0) x dL_draw_14 (by decide) ?_
  exact j_ireturn x hr dL_draw_15 (by omega) (by omega) ⟨rfl, rfl⟩
theorem H_draw_t1 {d mc ms : Nat} {b : SBt} {Y : OUt} {M M1 : MM} (hb : 104 ≤ b.2.1) (hcon : CM d mc ms yX5_draw cX5_draw 1 (some .int) [.ref 0] b Y M (.inr "java/lang/UnsupportedOperationException") M1) : CMH (d + 1) mc ms yL_draw cL_draw 3 (some .int) [(0, 8, 11, 13)] [.ref 0, .ref 102] b Y M 1 Y M1 := by
  refine ConH.of (by decide +kernel) (Nat.le_of_ble_eq_true rfl) rfl fun p l e s m args below meth c D tyc A ad0 x hr htab hname => ?_
  change JJ _ _ _ _ _ _ _ _ _ _ _ _ _ _ _ _ _ 0 [some (.ref 0), some (.ref 102), none] [] _ 0 0
  refine j_aload_n x dL_draw_0 rfl ?_
  refine j_iconst (v := 0) x dL_draw_1 (by decide) ?_
  refine j_aload_n x dL_draw_2 rfl ?_
  refine j2_callC x hb dL_draw_3 m_X5_draw hcon wmL_19 jc_9 rfl rfl rfl (Nat.le_of_ble_eq_true rfl) (j_fit_rm (by omega) (by omega) (by omega)) rfl [] ⟨0, 8, 11, 13⟩ [] htab (fun w hw => by cases hw) (by decide) (by decide) wcL_13 wx_UnsupportedOperationException rfl (fun a => ?_)
  refine j_astore_nR x dL_draw_11 (by decide) rfl ?_
  refine j_iconst (v := 1) x dL_draw_12 (by decide) ?_
  exact j_ireturn x hr dL_draw_13 (by omega) (by omega) ⟨rfl, rfl⟩
theorem H_give_r {d mc ms : Nat} {b : SBt} {Y : OUt} {M M1 : MM} (hb : 104 ≤ b.2.1) {u0 u1 : Int32} {v : Int32} (hcon : CM d mc ms yX5_give cX5_give 4 (some .int) [.ref 0, .int u0, .int u1] b Y M (.inl (some (.int v))) M1) : CMH (d + 1) mc ms yL_give cL_give 5 (some .int) [(0, 10, 13, 13)] [.ref 0, .int u0, .int u1, .ref 102] b Y M 0 (ju Y.1 0 v.toInt64, Y.2) M1 := by
  refine ConH.of (by decide +kernel) (Nat.le_of_ble_eq_true rfl) rfl fun p l e s m args below meth c D tyc A ad0 x hr htab hname => ?_
  change JJ _ _ _ _ _ _ _ _ _ _ _ _ _ _ _ _ _ 0 [some (.ref 0), some (.int u0), some (.int u1), some (.ref 102), none] [] _ 0 0
  refine j_aload_n x dL_give_0 rfl ?_
  refine j_iconst (v := 0) x dL_give_1 (by decide) ?_
  refine j_aload_n x dL_give_2 rfl ?_
  refine j_iload_n x dL_give_3 rfl ?_
  refine j_iload_n x dL_give_4 rfl ?_
  refine j2_callVi x hb dL_give_5 m_X5_give hcon wmL_23 jc_9 rfl rfl rfl (Nat.le_of_ble_eq_true rfl) (j_fit_rm (by omega) (by omega) (by omega)) rfl ?_
  refine j_i2l x dL_give_8 ?_
  refine j2_last x hb dL_give_9 ?_
  refine j_goto (tgt := 17) x dL_give_10 (by decide) ?_
  refine j_iconst (v := 0) x dL_give_17 (by decide) ?_
  exact j_ireturn x hr dL_give_18 (by omega) (by omega) ⟨rfl, rfl⟩
theorem H_give_t1 {d mc ms : Nat} {b : SBt} {Y : OUt} {M M1 : MM} (hb : 104 ≤ b.2.1) {u0 u1 : Int32} (hcon : CM d mc ms yX5_give cX5_give 4 (some .int) [.ref 0, .int u0, .int u1] b Y M (.inr "java/lang/UnsupportedOperationException") M1) : CMH (d + 1) mc ms yL_give cL_give 5 (some .int) [(0, 10, 13, 13)] [.ref 0, .int u0, .int u1, .ref 102] b Y M 1 Y M1 := by
  refine ConH.of (by decide +kernel) (Nat.le_of_ble_eq_true rfl) rfl fun p l e s m args below meth c D tyc A ad0 x hr htab hname => ?_
  change JJ _ _ _ _ _ _ _ _ _ _ _ _ _ _ _ _ _ 0 [some (.ref 0), some (.int u0), some (.int u1), some (.ref 102), none] [] _ 0 0
  refine j_aload_n x dL_give_0 rfl ?_
  refine j_iconst (v := 0) x dL_give_1 (by decide) ?_
  refine j_aload_n x dL_give_2 rfl ?_
  refine j_iload_n x dL_give_3 rfl ?_
  refine j_iload_n x dL_give_4 rfl ?_
  refine j2_callC x hb dL_give_5 m_X5_give hcon wmL_23 jc_9 rfl rfl rfl (Nat.le_of_ble_eq_true rfl) (j_fit_rm (by omega) (by omega) (by omega)) rfl [] ⟨0, 10, 13, 13⟩ [] htab (fun w hw => by cases hw) (by decide) (by decide) wcL_13 wx_UnsupportedOperationException rfl (fun a => ?_)
  refine j_astoreR x dL_give_13 (by decide) rfl ?_
  refine j_iconst (v := 1) x dL_give_15 (by decide) ?_
  exact j_ireturn x hr dL_give_16 (by omega) (by omega) ⟨rfl, rfl⟩
theorem H_rules_r {d mc ms : Nat} {b : SBt} {Y : OUt} {M M1 : MM} (hb : 104 ≤ b.2.1) {u0 u1 u2 : Int32} {v : Int32} (hcon : CM d mc ms yX5_rules cX5_rules 4 (some .int) [.ref 0, .int u0, .int u1, .int u2] b Y M (.inl (some (.int v))) M1) : CMH (d + 1) mc ms yL_rules cL_rules 6 (some .int) [(0, 12, 15, 13)] [.ref 0, .int u0, .int u1, .int u2, .ref 102] b Y M 0 (ju Y.1 0 v.toInt64, Y.2) M1 := by
  refine ConH.of (by decide +kernel) (Nat.le_of_ble_eq_true rfl) rfl fun p l e s m args below meth c D tyc A ad0 x hr htab hname => ?_
  change JJ _ _ _ _ _ _ _ _ _ _ _ _ _ _ _ _ _ 0 [some (.ref 0), some (.int u0), some (.int u1), some (.int u2), some (.ref 102), none] [] _ 0 0
  refine j_aload x dL_rules_0 rfl ?_
  refine j_iconst (v := 0) x dL_rules_2 (by decide) ?_
  refine j_aload_n x dL_rules_3 rfl ?_
  refine j_iload_n x dL_rules_4 rfl ?_
  refine j_iload_n x dL_rules_5 rfl ?_
  refine j_iload_n x dL_rules_6 rfl ?_
  refine j2_callVi x hb dL_rules_7 m_X5_rules hcon wmL_26 jc_9 rfl rfl rfl (Nat.le_of_ble_eq_true rfl) (j_fit_rm (by omega) (by omega) (by omega)) rfl ?_
  refine j_i2l x dL_rules_10 ?_
  refine j2_last x hb dL_rules_11 ?_
  refine j_goto (tgt := 19) x dL_rules_12 (by decide) ?_
  refine j_iconst (v := 0) x dL_rules_19 (by decide) ?_
  exact j_ireturn x hr dL_rules_20 (by omega) (by omega) ⟨rfl, rfl⟩
theorem H_rules_t1 {d mc ms : Nat} {b : SBt} {Y : OUt} {M M1 : MM} (hb : 104 ≤ b.2.1) {u0 u1 u2 : Int32} (hcon : CM d mc ms yX5_rules cX5_rules 4 (some .int) [.ref 0, .int u0, .int u1, .int u2] b Y M (.inr "java/lang/UnsupportedOperationException") M1) : CMH (d + 1) mc ms yL_rules cL_rules 6 (some .int) [(0, 12, 15, 13)] [.ref 0, .int u0, .int u1, .int u2, .ref 102] b Y M 1 Y M1 := by
  refine ConH.of (by decide +kernel) (Nat.le_of_ble_eq_true rfl) rfl fun p l e s m args below meth c D tyc A ad0 x hr htab hname => ?_
  change JJ _ _ _ _ _ _ _ _ _ _ _ _ _ _ _ _ _ 0 [some (.ref 0), some (.int u0), some (.int u1), some (.int u2), some (.ref 102), none] [] _ 0 0
  refine j_aload x dL_rules_0 rfl ?_
  refine j_iconst (v := 0) x dL_rules_2 (by decide) ?_
  refine j_aload_n x dL_rules_3 rfl ?_
  refine j_iload_n x dL_rules_4 rfl ?_
  refine j_iload_n x dL_rules_5 rfl ?_
  refine j_iload_n x dL_rules_6 rfl ?_
  refine j2_callC x hb dL_rules_7 m_X5_rules hcon wmL_26 jc_9 rfl rfl rfl (Nat.le_of_ble_eq_true rfl) (j_fit_rm (by omega) (by omega) (by omega)) rfl [] ⟨0, 12, 15, 13⟩ [] htab (fun w hw => by cases hw) (by decide) (by decide) wcL_13 wx_UnsupportedOperationException rfl (fun a => ?_)
  refine j_astoreR x dL_rules_15 (by decide) rfl ?_
  refine j_iconst (v := 1) x dL_rules_17 (by decide) ?_
  exact j_ireturn x hr dL_rules_18 (by omega) (by omega) ⟨rfl, rfl⟩
theorem H_result_r {d mc ms : Nat} {b : SBt} {Y : OUt} {M M1 : MM} (hb : 104 ≤ b.2.1) {u0 u1 u2 : Int32} {v : Int32} (hcon : CM d mc ms yX5_result cX5_result 4 (some .int) [.ref 0, .int u0, .int u1, .int u2] b Y M (.inl (some (.int v))) M1) : CMH (d + 1) mc ms yL_result cL_result 6 (some .int) [(0, 12, 15, 13)] [.ref 0, .int u0, .int u1, .int u2, .ref 102] b Y M 0 (ju Y.1 0 v.toInt64, Y.2) M1 := by
  refine ConH.of (by decide +kernel) (Nat.le_of_ble_eq_true rfl) rfl fun p l e s m args below meth c D tyc A ad0 x hr htab hname => ?_
  change JJ _ _ _ _ _ _ _ _ _ _ _ _ _ _ _ _ _ 0 [some (.ref 0), some (.int u0), some (.int u1), some (.int u2), some (.ref 102), none] [] _ 0 0
  refine j_aload x dL_result_0 rfl ?_
  refine j_iconst (v := 0) x dL_result_2 (by decide) ?_
  refine j_aload_n x dL_result_3 rfl ?_
  refine j_iload_n x dL_result_4 rfl ?_
  refine j_iload_n x dL_result_5 rfl ?_
  refine j_iload_n x dL_result_6 rfl ?_
  refine j2_callVi x hb dL_result_7 m_X5_result hcon wmL_30 jc_9 rfl rfl rfl (Nat.le_of_ble_eq_true rfl) (j_fit_rm (by omega) (by omega) (by omega)) rfl ?_
  refine j_i2l x dL_result_10 ?_
  refine j2_last x hb dL_result_11 ?_
  refine j_goto (tgt := 19) x dL_result_12 (by decide) ?_
  refine j_iconst (v := 0) x dL_result_19 (by decide) ?_
  exact j_ireturn x hr dL_result_20 (by omega) (by omega) ⟨rfl, rfl⟩
theorem H_result_t1 {d mc ms : Nat} {b : SBt} {Y : OUt} {M M1 : MM} (hb : 104 ≤ b.2.1) {u0 u1 u2 : Int32} (hcon : CM d mc ms yX5_result cX5_result 4 (some .int) [.ref 0, .int u0, .int u1, .int u2] b Y M (.inr "java/lang/UnsupportedOperationException") M1) : CMH (d + 1) mc ms yL_result cL_result 6 (some .int) [(0, 12, 15, 13)] [.ref 0, .int u0, .int u1, .int u2, .ref 102] b Y M 1 Y M1 := by
  refine ConH.of (by decide +kernel) (Nat.le_of_ble_eq_true rfl) rfl fun p l e s m args below meth c D tyc A ad0 x hr htab hname => ?_
  change JJ _ _ _ _ _ _ _ _ _ _ _ _ _ _ _ _ _ 0 [some (.ref 0), some (.int u0), some (.int u1), some (.int u2), some (.ref 102), none] [] _ 0 0
  refine j_aload x dL_result_0 rfl ?_
  refine j_iconst (v := 0) x dL_result_2 (by decide) ?_
  refine j_aload_n x dL_result_3 rfl ?_
  refine j_iload_n x dL_result_4 rfl ?_
  refine j_iload_n x dL_result_5 rfl ?_
  refine j_iload_n x dL_result_6 rfl ?_
  refine j2_callC x hb dL_result_7 m_X5_result hcon wmL_30 jc_9 rfl rfl rfl (Nat.le_of_ble_eq_true rfl) (j_fit_rm (by omega) (by omega) (by omega)) rfl [] ⟨0, 12, 15, 13⟩ [] htab (fun w hw => by cases hw) (by decide) (by decide) wcL_13 wx_UnsupportedOperationException rfl (fun a => ?_)
  refine j_astoreR x dL_result_15 (by decide) rfl ?_
  refine j_iconst (v := 1) x dL_result_17 (by decide) ?_
  exact j_ireturn x hr dL_result_18 (by omega) (by omega) ⟨rfl, rfl⟩
theorem H_back_r {d mc ms : Nat} {b : SBt} {Y : OUt} {M M1 : MM} (hb : 104 ≤ b.2.1) {u0 : Int32} {v : Int32} (hcon : CM d mc ms yX5_back cX5_back 2 (some .int) [.ref 0, .int u0] b Y M (.inl (some (.int v))) M1) : CMH (d + 1) mc ms yL_back cL_back 4 (some .int) [(0, 9, 12, 13)] [.ref 0, .int u0, .ref 102] b Y M 0 (ju Y.1 0 v.toInt64, Y.2) M1 := by
  refine ConH.of (by decide +kernel) (Nat.le_of_ble_eq_true rfl) rfl fun p l e s m args below meth c D tyc A ad0 x hr htab hname => ?_
  change JJ _ _ _ _ _ _ _ _ _ _ _ _ _ _ _ _ _ 0 [some (.ref 0), some (.int u0), some (.ref 102), none] [] _ 0 0
  refine j_aload_n x dL_back_0 rfl ?_
  refine j_iconst (v := 0) x dL_back_1 (by decide) ?_
  refine j_aload_n x dL_back_2 rfl ?_
  refine j_iload_n x dL_back_3 rfl ?_
  refine j2_callVi x hb dL_back_4 m_X5_back hcon wmL_33 jc_9 rfl rfl rfl (Nat.le_of_ble_eq_true rfl) (j_fit_rm (by omega) (by omega) (by omega)) rfl ?_
  refine j_i2l x dL_back_7 ?_
  refine j2_last x hb dL_back_8 ?_
  refine j_goto (tgt := 15) x dL_back_9 (by decide) ?_
  refine j_iconst (v := 0) x dL_back_15 (by decide) ?_
  exact j_ireturn x hr dL_back_16 (by omega) (by omega) ⟨rfl, rfl⟩
theorem H_back_t1 {d mc ms : Nat} {b : SBt} {Y : OUt} {M M1 : MM} (hb : 104 ≤ b.2.1) {u0 : Int32} (hcon : CM d mc ms yX5_back cX5_back 2 (some .int) [.ref 0, .int u0] b Y M (.inr "java/lang/UnsupportedOperationException") M1) : CMH (d + 1) mc ms yL_back cL_back 4 (some .int) [(0, 9, 12, 13)] [.ref 0, .int u0, .ref 102] b Y M 1 Y M1 := by
  refine ConH.of (by decide +kernel) (Nat.le_of_ble_eq_true rfl) rfl fun p l e s m args below meth c D tyc A ad0 x hr htab hname => ?_
  change JJ _ _ _ _ _ _ _ _ _ _ _ _ _ _ _ _ _ 0 [some (.ref 0), some (.int u0), some (.ref 102), none] [] _ 0 0
  refine j_aload_n x dL_back_0 rfl ?_
  refine j_iconst (v := 0) x dL_back_1 (by decide) ?_
  refine j_aload_n x dL_back_2 rfl ?_
  refine j_iload_n x dL_back_3 rfl ?_
  refine j2_callC x hb dL_back_4 m_X5_back hcon wmL_33 jc_9 rfl rfl rfl (Nat.le_of_ble_eq_true rfl) (j_fit_rm (by omega) (by omega) (by omega)) rfl [] ⟨0, 9, 12, 13⟩ [] htab (fun w hw => by cases hw) (by decide) (by decide) wcL_13 wx_UnsupportedOperationException rfl (fun a => ?_)
  refine j_astore_nR x dL_back_12 (by decide) rfl ?_
  refine j_iconst (v := 1) x dL_back_13 (by decide) ?_
  exact j_ireturn x hr dL_back_14 (by omega) (by omega) ⟨rfl, rfl⟩
theorem H_putOff_r {d mc ms : Nat} {b : SBt} {Y : OUt} {M M1 : MM} (hb : 104 ≤ b.2.1) {u0 u1 : Int32} {v : Int32} (hcon : CM d mc ms yX5_putOff cX5_putOff 4 (some .int) [.ref 0, .int u0, .int u1] b Y M (.inl (some (.int v))) M1) : CMH (d + 1) mc ms yL_putOff cL_putOff 5 (some .int) [(0, 10, 13, 13)] [.ref 0, .int u0, .int u1, .ref 102] b Y M 0 (ju Y.1 0 v.toInt64, Y.2) M1 := by
  refine ConH.of (by decide +kernel) (Nat.le_of_ble_eq_true rfl) rfl fun p l e s m args below meth c D tyc A ad0 x hr htab hname => ?_
  change JJ _ _ _ _ _ _ _ _ _ _ _ _ _ _ _ _ _ 0 [some (.ref 0), some (.int u0), some (.int u1), some (.ref 102), none] [] _ 0 0
  refine j_aload_n x dL_putOff_0 rfl ?_
  refine j_iconst (v := 0) x dL_putOff_1 (by decide) ?_
  refine j_aload_n x dL_putOff_2 rfl ?_
  refine j_iload_n x dL_putOff_3 rfl ?_
  refine j_iload_n x dL_putOff_4 rfl ?_
  refine j2_callVi x hb dL_putOff_5 m_X5_putOff hcon wmL_36 jc_9 rfl rfl rfl (Nat.le_of_ble_eq_true rfl) (j_fit_rm (by omega) (by omega) (by omega)) rfl ?_
  refine j_i2l x dL_putOff_8 ?_
  refine j2_last x hb dL_putOff_9 ?_
  refine j_goto (tgt := 17) x dL_putOff_10 (by decide) ?_
  refine j_iconst (v := 0) x dL_putOff_17 (by decide) ?_
  exact j_ireturn x hr dL_putOff_18 (by omega) (by omega) ⟨rfl, rfl⟩
theorem H_putOff_t1 {d mc ms : Nat} {b : SBt} {Y : OUt} {M M1 : MM} (hb : 104 ≤ b.2.1) {u0 u1 : Int32} (hcon : CM d mc ms yX5_putOff cX5_putOff 4 (some .int) [.ref 0, .int u0, .int u1] b Y M (.inr "java/lang/UnsupportedOperationException") M1) : CMH (d + 1) mc ms yL_putOff cL_putOff 5 (some .int) [(0, 10, 13, 13)] [.ref 0, .int u0, .int u1, .ref 102] b Y M 1 Y M1 := by
  refine ConH.of (by decide +kernel) (Nat.le_of_ble_eq_true rfl) rfl fun p l e s m args below meth c D tyc A ad0 x hr htab hname => ?_
  change JJ _ _ _ _ _ _ _ _ _ _ _ _ _ _ _ _ _ 0 [some (.ref 0), some (.int u0), some (.int u1), some (.ref 102), none] [] _ 0 0
  refine j_aload_n x dL_putOff_0 rfl ?_
  refine j_iconst (v := 0) x dL_putOff_1 (by decide) ?_
  refine j_aload_n x dL_putOff_2 rfl ?_
  refine j_iload_n x dL_putOff_3 rfl ?_
  refine j_iload_n x dL_putOff_4 rfl ?_
  refine j2_callC x hb dL_putOff_5 m_X5_putOff hcon wmL_36 jc_9 rfl rfl rfl (Nat.le_of_ble_eq_true rfl) (j_fit_rm (by omega) (by omega) (by omega)) rfl [] ⟨0, 10, 13, 13⟩ [] htab (fun w hw => by cases hw) (by decide) (by decide) wcL_13 wx_UnsupportedOperationException rfl (fun a => ?_)
  refine j_astoreR x dL_putOff_13 (by decide) rfl ?_
  refine j_iconst (v := 1) x dL_putOff_15 (by decide) ?_
  exact j_ireturn x hr dL_putOff_16 (by omega) (by omega) ⟨rfl, rfl⟩
theorem H_next_r {d mc ms : Nat} {b : SBt} {Y : OUt} {M M1 : MM} (hb : 104 ≤ b.2.1) {v : Int32} (hcon : CM d mc ms yX5_next cX5_next 1 (some .int) [.ref 0] b Y M (.inl (some (.int v))) M1) : CMH (d + 1) mc ms yL_next cL_next 3 (some .int) [(0, 8, 11, 13)] [.ref 0, .ref 102] b Y M 0 (ju Y.1 0 v.toInt64, Y.2) M1 := by
  refine ConH.of (by decide +kernel) (Nat.le_of_ble_eq_true rfl) rfl fun p l e s m args below meth c D tyc A ad0 x hr htab hname => ?_
  change JJ _ _ _ _ _ _ _ _ _ _ _ _ _ _ _ _ _ 0 [some (.ref 0), some (.ref 102), none] [] _ 0 0
  refine j_aload_n x dL_next_0 rfl ?_
  refine j_iconst (v := 0) x dL_next_1 (by decide) ?_
  refine j_aload_n x dL_next_2 rfl ?_
  refine j2_callVi x hb dL_next_3 m_X5_next hcon wmL_39 jc_9 rfl rfl rfl (Nat.le_of_ble_eq_true rfl) (j_fit_rm (by omega) (by omega) (by omega)) rfl ?_
  refine j_i2l x dL_next_6 ?_
  refine j2_last x hb dL_next_7 ?_
  refine j_goto (tgt := 14) x dL_next_8 (by decide) ?_
  refine j_iconst (v := 0) x dL_next_14 (by decide) ?_
  exact j_ireturn x hr dL_next_15 (by omega) (by omega) ⟨rfl, rfl⟩
theorem H_next_t1 {d mc ms : Nat} {b : SBt} {Y : OUt} {M M1 : MM} (hb : 104 ≤ b.2.1) (hcon : CM d mc ms yX5_next cX5_next 1 (some .int) [.ref 0] b Y M (.inr "java/lang/UnsupportedOperationException") M1) : CMH (d + 1) mc ms yL_next cL_next 3 (some .int) [(0, 8, 11, 13)] [.ref 0, .ref 102] b Y M 1 Y M1 := by
  refine ConH.of (by decide +kernel) (Nat.le_of_ble_eq_true rfl) rfl fun p l e s m args below meth c D tyc A ad0 x hr htab hname => ?_
  change JJ _ _ _ _ _ _ _ _ _ _ _ _ _ _ _ _ _ 0 [some (.ref 0), some (.ref 102), none] [] _ 0 0
  refine j_aload_n x dL_next_0 rfl ?_
  refine j_iconst (v := 0) x dL_next_1 (by decide) ?_
  refine j_aload_n x dL_next_2 rfl ?_
  refine j2_callC x hb dL_next_3 m_X5_next hcon wmL_39 jc_9 rfl rfl rfl (Nat.le_of_ble_eq_true rfl) (j_fit_rm (by omega) (by omega) (by omega)) rfl [] ⟨0, 8, 11, 13⟩ [] htab (fun w hw => by cases hw) (by decide) (by decide) wcL_13 wx_UnsupportedOperationException rfl (fun a => ?_)
  refine j_astore_nR x dL_next_11 (by decide) rfl ?_
  refine j_iconst (v := 1) x dL_next_12 (by decide) ?_
  exact j_ireturn x hr dL_next_13 (by omega) (by omega) ⟨rfl, rfl⟩
theorem H_teamOf_r {d mc ms : Nat} {b : SBt} {Y : OUt} {M M1 : MM} (hb : 104 ≤ b.2.1) {u0 u1 : Int32} {v : Int32} (hcon : CM d mc ms yX5_teamOf cX5_teamOf 3 (some .int) [.ref 0, .int u0, .int u1] b Y M (.inl (some (.int v))) M1) : CMH (d + 1) mc ms yL_teamOf cL_teamOf 5 (some .int) [(0, 10, 13, 45), (0, 10, 17, 47)] [.ref 0, .int u0, .int u1, .ref 102] b Y M 0 (ju Y.1 0 v.toInt64, Y.2) M1 := by
  refine ConH.of (by decide +kernel) (Nat.le_of_ble_eq_true rfl) rfl fun p l e s m args below meth c D tyc A ad0 x hr htab hname => ?_
  change JJ _ _ _ _ _ _ _ _ _ _ _ _ _ _ _ _ _ 0 [some (.ref 0), some (.int u0), some (.int u1), some (.ref 102), none] [] _ 0 0
  refine j_aload_n x dL_teamOf_0 rfl ?_
  refine j_iconst (v := 0) x dL_teamOf_1 (by decide) ?_
  refine j_aload_n x dL_teamOf_2 rfl ?_
  refine j_iload_n x dL_teamOf_3 rfl ?_
  refine j_iload_n x dL_teamOf_4 rfl ?_
  refine j2_callVi x hb dL_teamOf_5 m_X5_teamOf hcon wmL_42 jc_9 rfl rfl rfl (Nat.le_of_ble_eq_true rfl) (j_fit_rm (by omega) (by omega) (by omega)) rfl ?_
  refine j_i2l x dL_teamOf_8 ?_
  refine j2_last x hb dL_teamOf_9 ?_
  refine j_goto (tgt := 21) x dL_teamOf_10 (by decide) ?_
  refine j_iconst (v := 0) x dL_teamOf_21 (by decide) ?_
  exact j_ireturn x hr dL_teamOf_22 (by omega) (by omega) ⟨rfl, rfl⟩
theorem H_teamOf_t1 {d mc ms : Nat} {b : SBt} {Y : OUt} {M M1 : MM} (hb : 104 ≤ b.2.1) {u0 u1 : Int32} (hcon : CM d mc ms yX5_teamOf cX5_teamOf 3 (some .int) [.ref 0, .int u0, .int u1] b Y M (.inr "java/lang/IndexOutOfBoundsException") M1) : CMH (d + 1) mc ms yL_teamOf cL_teamOf 5 (some .int) [(0, 10, 13, 45), (0, 10, 17, 47)] [.ref 0, .int u0, .int u1, .ref 102] b Y M 1 Y M1 := by
  refine ConH.of (by decide +kernel) (Nat.le_of_ble_eq_true rfl) rfl fun p l e s m args below meth c D tyc A ad0 x hr htab hname => ?_
  change JJ _ _ _ _ _ _ _ _ _ _ _ _ _ _ _ _ _ 0 [some (.ref 0), some (.int u0), some (.int u1), some (.ref 102), none] [] _ 0 0
  refine j_aload_n x dL_teamOf_0 rfl ?_
  refine j_iconst (v := 0) x dL_teamOf_1 (by decide) ?_
  refine j_aload_n x dL_teamOf_2 rfl ?_
  refine j_iload_n x dL_teamOf_3 rfl ?_
  refine j_iload_n x dL_teamOf_4 rfl ?_
  refine j2_callC x hb dL_teamOf_5 m_X5_teamOf hcon wmL_42 jc_9 rfl rfl rfl (Nat.le_of_ble_eq_true rfl) (j_fit_rm (by omega) (by omega) (by omega)) rfl [] ⟨0, 10, 13, 45⟩ [⟨0, 10, 17, 47⟩] htab (fun w hw => by cases hw) (by decide) (by decide) wcL_45 wx_IndexOutOfBoundsException rfl (fun a => ?_)
  refine j_astoreR x dL_teamOf_13 (by decide) rfl ?_
  refine j_iconst (v := 1) x dL_teamOf_15 (by decide) ?_
  exact j_ireturn x hr dL_teamOf_16 (by omega) (by omega) ⟨rfl, rfl⟩
theorem H_teamOf_t2 {d mc ms : Nat} {b : SBt} {Y : OUt} {M M1 : MM} (hb : 104 ≤ b.2.1) {u0 u1 : Int32} (hcon : CM d mc ms yX5_teamOf cX5_teamOf 3 (some .int) [.ref 0, .int u0, .int u1] b Y M (.inr "java/lang/IllegalArgumentException") M1) : CMH (d + 1) mc ms yL_teamOf cL_teamOf 5 (some .int) [(0, 10, 13, 45), (0, 10, 17, 47)] [.ref 0, .int u0, .int u1, .ref 102] b Y M 2 Y M1 := by
  refine ConH.of (by decide +kernel) (Nat.le_of_ble_eq_true rfl) rfl fun p l e s m args below meth c D tyc A ad0 x hr htab hname => ?_
  change JJ _ _ _ _ _ _ _ _ _ _ _ _ _ _ _ _ _ 0 [some (.ref 0), some (.int u0), some (.int u1), some (.ref 102), none] [] _ 0 0
  refine j_aload_n x dL_teamOf_0 rfl ?_
  refine j_iconst (v := 0) x dL_teamOf_1 (by decide) ?_
  refine j_aload_n x dL_teamOf_2 rfl ?_
  refine j_iload_n x dL_teamOf_3 rfl ?_
  refine j_iload_n x dL_teamOf_4 rfl ?_
  refine j2_callC x hb dL_teamOf_5 m_X5_teamOf hcon wmL_42 jc_9 rfl rfl rfl (Nat.le_of_ble_eq_true rfl) (j_fit_rm (by omega) (by omega) (by omega)) rfl [⟨0, 10, 13, 45⟩] ⟨0, 10, 17, 47⟩ [] htab (fun w hw => by rcases List.mem_cons.mp hw with rfl | hw <;> first | exact Or.inr ⟨by decide, _, wcL_45, by decide +kernel⟩ | cases hw) (by decide) (by decide) wcL_47 wx_IllegalArgumentException rfl (fun a => ?_)
  refine j_astoreR x dL_teamOf_17 (by decide) rfl ?_
  refine j_iconst (v := 2) x dL_teamOf_19 (by decide) ?_
  exact j_ireturn x hr dL_teamOf_20 (by omega) (by omega) ⟨rfl, rfl⟩
theorem H_pointsAgain_r {d mc ms : Nat} {b : SBt} {Y : OUt} {M M1 : MM} (hb : 104 ≤ b.2.1) {u0 : Int32} {v : Int32} (hcon : CM d mc ms yX5_pointsAgain cX5_pointsAgain 2 (some .int) [.ref 0, .int u0] b Y M (.inl (some (.int v))) M1) : CMH (d + 1) mc ms yL_pointsAgain cL_pointsAgain 4 (some .int) [(0, 9, 12, 45)] [.ref 0, .int u0, .ref 102] b Y M 0 (ju Y.1 0 v.toInt64, Y.2) M1 := by
  refine ConH.of (by decide +kernel) (Nat.le_of_ble_eq_true rfl) rfl fun p l e s m args below meth c D tyc A ad0 x hr htab hname => ?_
  change JJ _ _ _ _ _ _ _ _ _ _ _ _ _ _ _ _ _ 0 [some (.ref 0), some (.int u0), some (.ref 102), none] [] _ 0 0
  refine j_aload_n x dL_pointsAgain_0 rfl ?_
  refine j_iconst (v := 0) x dL_pointsAgain_1 (by decide) ?_
  refine j_aload_n x dL_pointsAgain_2 rfl ?_
  refine j_iload_n x dL_pointsAgain_3 rfl ?_
  refine j2_callVi x hb dL_pointsAgain_4 m_X5_pointsAgain hcon wmL_49 jc_9 rfl rfl rfl (Nat.le_of_ble_eq_true rfl) (j_fit_rm (by omega) (by omega) (by omega)) rfl ?_
  refine j_i2l x dL_pointsAgain_7 ?_
  refine j2_last x hb dL_pointsAgain_8 ?_
  refine j_goto (tgt := 15) x dL_pointsAgain_9 (by decide) ?_
  refine j_iconst (v := 0) x dL_pointsAgain_15 (by decide) ?_
  exact j_ireturn x hr dL_pointsAgain_16 (by omega) (by omega) ⟨rfl, rfl⟩
theorem H_pointsAgain_t1 {d mc ms : Nat} {b : SBt} {Y : OUt} {M M1 : MM} (hb : 104 ≤ b.2.1) {u0 : Int32} (hcon : CM d mc ms yX5_pointsAgain cX5_pointsAgain 2 (some .int) [.ref 0, .int u0] b Y M (.inr "java/lang/IndexOutOfBoundsException") M1) : CMH (d + 1) mc ms yL_pointsAgain cL_pointsAgain 4 (some .int) [(0, 9, 12, 45)] [.ref 0, .int u0, .ref 102] b Y M 1 Y M1 := by
  refine ConH.of (by decide +kernel) (Nat.le_of_ble_eq_true rfl) rfl fun p l e s m args below meth c D tyc A ad0 x hr htab hname => ?_
  change JJ _ _ _ _ _ _ _ _ _ _ _ _ _ _ _ _ _ 0 [some (.ref 0), some (.int u0), some (.ref 102), none] [] _ 0 0
  refine j_aload_n x dL_pointsAgain_0 rfl ?_
  refine j_iconst (v := 0) x dL_pointsAgain_1 (by decide) ?_
  refine j_aload_n x dL_pointsAgain_2 rfl ?_
  refine j_iload_n x dL_pointsAgain_3 rfl ?_
  refine j2_callC x hb dL_pointsAgain_4 m_X5_pointsAgain hcon wmL_49 jc_9 rfl rfl rfl (Nat.le_of_ble_eq_true rfl) (j_fit_rm (by omega) (by omega) (by omega)) rfl [] ⟨0, 9, 12, 45⟩ [] htab (fun w hw => by cases hw) (by decide) (by decide) wcL_45 wx_IndexOutOfBoundsException rfl (fun a => ?_)
  refine j_astore_nR x dL_pointsAgain_12 (by decide) rfl ?_
  refine j_iconst (v := 1) x dL_pointsAgain_13 (by decide) ?_
  exact j_ireturn x hr dL_pointsAgain_14 (by omega) (by omega) ⟨rfl, rfl⟩
theorem H_meetingOf_r {d mc ms : Nat} {b : SBt} {Y : OUt} {M M1 : MM} (hb : 104 ≤ b.2.1) {u0 u1 : Int32} {v : Int32} (hcon : CM d mc ms yX5_meetingOf cX5_meetingOf 3 (some .int) [.ref 0, .int u0, .int u1] b Y M (.inl (some (.int v))) M1) : CMH (d + 1) mc ms yL_meetingOf cL_meetingOf 5 (some .int) [(0, 10, 13, 45), (0, 10, 17, 47)] [.ref 0, .int u0, .int u1, .ref 102] b Y M 0 (ju Y.1 0 v.toInt64, Y.2) M1 := by
  refine ConH.of (by decide +kernel) (Nat.le_of_ble_eq_true rfl) rfl fun p l e s m args below meth c D tyc A ad0 x hr htab hname => ?_
  change JJ _ _ _ _ _ _ _ _ _ _ _ _ _ _ _ _ _ 0 [some (.ref 0), some (.int u0), some (.int u1), some (.ref 102), none] [] _ 0 0
  refine j_aload_n x dL_meetingOf_0 rfl ?_
  refine j_iconst (v := 0) x dL_meetingOf_1 (by decide) ?_
  refine j_aload_n x dL_meetingOf_2 rfl ?_
  refine j_iload_n x dL_meetingOf_3 rfl ?_
  refine j_iload_n x dL_meetingOf_4 rfl ?_
  refine j2_callVi x hb dL_meetingOf_5 m_X5_meetingOf hcon wmL_52 jc_9 rfl rfl rfl (Nat.le_of_ble_eq_true rfl) (j_fit_rm (by omega) (by omega) (by omega)) rfl ?_
  refine j_i2l x dL_meetingOf_8 ?_
  refine j2_last x hb dL_meetingOf_9 ?_
  refine j_goto (tgt := 21) x dL_meetingOf_10 (by decide) ?_
  refine j_iconst (v := 0) x dL_meetingOf_21 (by decide) ?_
  exact j_ireturn x hr dL_meetingOf_22 (by omega) (by omega) ⟨rfl, rfl⟩
theorem H_meetingOf_t1 {d mc ms : Nat} {b : SBt} {Y : OUt} {M M1 : MM} (hb : 104 ≤ b.2.1) {u0 u1 : Int32} (hcon : CM d mc ms yX5_meetingOf cX5_meetingOf 3 (some .int) [.ref 0, .int u0, .int u1] b Y M (.inr "java/lang/IndexOutOfBoundsException") M1) : CMH (d + 1) mc ms yL_meetingOf cL_meetingOf 5 (some .int) [(0, 10, 13, 45), (0, 10, 17, 47)] [.ref 0, .int u0, .int u1, .ref 102] b Y M 1 Y M1 := by
  refine ConH.of (by decide +kernel) (Nat.le_of_ble_eq_true rfl) rfl fun p l e s m args below meth c D tyc A ad0 x hr htab hname => ?_
  change JJ _ _ _ _ _ _ _ _ _ _ _ _ _ _ _ _ _ 0 [some (.ref 0), some (.int u0), some (.int u1), some (.ref 102), none] [] _ 0 0
  refine j_aload_n x dL_meetingOf_0 rfl ?_
  refine j_iconst (v := 0) x dL_meetingOf_1 (by decide) ?_
  refine j_aload_n x dL_meetingOf_2 rfl ?_
  refine j_iload_n x dL_meetingOf_3 rfl ?_
  refine j_iload_n x dL_meetingOf_4 rfl ?_
  refine j2_callC x hb dL_meetingOf_5 m_X5_meetingOf hcon wmL_52 jc_9 rfl rfl rfl (Nat.le_of_ble_eq_true rfl) (j_fit_rm (by omega) (by omega) (by omega)) rfl [] ⟨0, 10, 13, 45⟩ [⟨0, 10, 17, 47⟩] htab (fun w hw => by cases hw) (by decide) (by decide) wcL_45 wx_IndexOutOfBoundsException rfl (fun a => ?_)
  refine j_astoreR x dL_meetingOf_13 (by decide) rfl ?_
  refine j_iconst (v := 1) x dL_meetingOf_15 (by decide) ?_
  exact j_ireturn x hr dL_meetingOf_16 (by omega) (by omega) ⟨rfl, rfl⟩
theorem H_meetingOf_t2 {d mc ms : Nat} {b : SBt} {Y : OUt} {M M1 : MM} (hb : 104 ≤ b.2.1) {u0 u1 : Int32} (hcon : CM d mc ms yX5_meetingOf cX5_meetingOf 3 (some .int) [.ref 0, .int u0, .int u1] b Y M (.inr "java/lang/IllegalArgumentException") M1) : CMH (d + 1) mc ms yL_meetingOf cL_meetingOf 5 (some .int) [(0, 10, 13, 45), (0, 10, 17, 47)] [.ref 0, .int u0, .int u1, .ref 102] b Y M 2 Y M1 := by
  refine ConH.of (by decide +kernel) (Nat.le_of_ble_eq_true rfl) rfl fun p l e s m args below meth c D tyc A ad0 x hr htab hname => ?_
  change JJ _ _ _ _ _ _ _ _ _ _ _ _ _ _ _ _ _ 0 [some (.ref 0), some (.int u0), some (.int u1), some (.ref 102), none] [] _ 0 0
  refine j_aload_n x dL_meetingOf_0 rfl ?_
  refine j_iconst (v := 0) x dL_meetingOf_1 (by decide) ?_
  refine j_aload_n x dL_meetingOf_2 rfl ?_
  refine j_iload_n x dL_meetingOf_3 rfl ?_
  refine j_iload_n x dL_meetingOf_4 rfl ?_
  refine j2_callC x hb dL_meetingOf_5 m_X5_meetingOf hcon wmL_52 jc_9 rfl rfl rfl (Nat.le_of_ble_eq_true rfl) (j_fit_rm (by omega) (by omega) (by omega)) rfl [⟨0, 10, 13, 45⟩] ⟨0, 10, 17, 47⟩ [] htab (fun w hw => by rcases List.mem_cons.mp hw with rfl | hw <;> first | exact Or.inr ⟨by decide, _, wcL_45, by decide +kernel⟩ | cases hw) (by decide) (by decide) wcL_47 wx_IllegalArgumentException rfl (fun a => ?_)
  refine j_astoreR x dL_meetingOf_17 (by decide) rfl ?_
  refine j_iconst (v := 2) x dL_meetingOf_19 (by decide) ?_
  exact j_ireturn x hr dL_meetingOf_20 (by omega) (by omega) ⟨rfl, rfl⟩
theorem H_find_r {d mc ms : Nat} {b : SBt} {Y : OUt} {M M1 : MM} (hb : 104 ≤ b.2.1) {u0 u1 : Int32} {v : Int32} (hcon : CM d mc ms yX5_find cX5_find 4 (some .int) [.ref 0, .int u0, .int u1] b Y M (.inl (some (.int v))) M1) : CMH (d + 1) mc ms yL_find cL_find 5 (some .int) [(0, 10, 13, 45), (0, 10, 17, 58)] [.ref 0, .int u0, .int u1, .ref 102] b Y M 0 (ju Y.1 0 v.toInt64, Y.2) M1 := by
  refine ConH.of (by decide +kernel) (Nat.le_of_ble_eq_true rfl) rfl fun p l e s m args below meth c D tyc A ad0 x hr htab hname => ?_
  change JJ _ _ _ _ _ _ _ _ _ _ _ _ _ _ _ _ _ 0 [some (.ref 0), some (.int u0), some (.int u1), some (.ref 102), none] [] _ 0 0
  refine j_aload_n x dL_find_0 rfl ?_
  refine j_iconst (v := 0) x dL_find_1 (by decide) ?_
  refine j_aload_n x dL_find_2 rfl ?_
  refine j_iload_n x dL_find_3 rfl ?_
  refine j_iload_n x dL_find_4 rfl ?_
  refine j2_callVi x hb dL_find_5 m_X5_find hcon wmL_55 jc_9 rfl rfl rfl (Nat.le_of_ble_eq_true rfl) (j_fit_rm (by omega) (by omega) (by omega)) rfl ?_
  refine j_i2l x dL_find_8 ?_
  refine j2_last x hb dL_find_9 ?_
  refine j_goto (tgt := 21) x dL_find_10 (by decide) ?_
  refine j_iconst (v := 0) x dL_find_21 (by decide) ?_
  exact j_ireturn x hr dL_find_22 (by omega) (by omega) ⟨rfl, rfl⟩
theorem H_find_t1 {d mc ms : Nat} {b : SBt} {Y : OUt} {M M1 : MM} (hb : 104 ≤ b.2.1) {u0 u1 : Int32} (hcon : CM d mc ms yX5_find cX5_find 4 (some .int) [.ref 0, .int u0, .int u1] b Y M (.inr "java/lang/IndexOutOfBoundsException") M1) : CMH (d + 1) mc ms yL_find cL_find 5 (some .int) [(0, 10, 13, 45), (0, 10, 17, 58)] [.ref 0, .int u0, .int u1, .ref 102] b Y M 1 Y M1 := by
  refine ConH.of (by decide +kernel) (Nat.le_of_ble_eq_true rfl) rfl fun p l e s m args below meth c D tyc A ad0 x hr htab hname => ?_
  change JJ _ _ _ _ _ _ _ _ _ _ _ _ _ _ _ _ _ 0 [some (.ref 0), some (.int u0), some (.int u1), some (.ref 102), none] [] _ 0 0
  refine j_aload_n x dL_find_0 rfl ?_
  refine j_iconst (v := 0) x dL_find_1 (by decide) ?_
  refine j_aload_n x dL_find_2 rfl ?_
  refine j_iload_n x dL_find_3 rfl ?_
  refine j_iload_n x dL_find_4 rfl ?_
  refine j2_callC x hb dL_find_5 m_X5_find hcon wmL_55 jc_9 rfl rfl rfl (Nat.le_of_ble_eq_true rfl) (j_fit_rm (by omega) (by omega) (by omega)) rfl [] ⟨0, 10, 13, 45⟩ [⟨0, 10, 17, 58⟩] htab (fun w hw => by cases hw) (by decide) (by decide) wcL_45 wx_IndexOutOfBoundsException rfl (fun a => ?_)
  refine j_astoreR x dL_find_13 (by decide) rfl ?_
  refine j_iconst (v := 1) x dL_find_15 (by decide) ?_
  exact j_ireturn x hr dL_find_16 (by omega) (by omega) ⟨rfl, rfl⟩
theorem H_find_t2 {d mc ms : Nat} {b : SBt} {Y : OUt} {M M1 : MM} (hb : 104 ≤ b.2.1) {u0 u1 : Int32} (hcon : CM d mc ms yX5_find cX5_find 4 (some .int) [.ref 0, .int u0, .int u1] b Y M (.inr "java/util/NoSuchElementException") M1) : CMH (d + 1) mc ms yL_find cL_find 5 (some .int) [(0, 10, 13, 45), (0, 10, 17, 58)] [.ref 0, .int u0, .int u1, .ref 102] b Y M 2 Y M1 := by
  refine ConH.of (by decide +kernel) (Nat.le_of_ble_eq_true rfl) rfl fun p l e s m args below meth c D tyc A ad0 x hr htab hname => ?_
  change JJ _ _ _ _ _ _ _ _ _ _ _ _ _ _ _ _ _ 0 [some (.ref 0), some (.int u0), some (.int u1), some (.ref 102), none] [] _ 0 0
  refine j_aload_n x dL_find_0 rfl ?_
  refine j_iconst (v := 0) x dL_find_1 (by decide) ?_
  refine j_aload_n x dL_find_2 rfl ?_
  refine j_iload_n x dL_find_3 rfl ?_
  refine j_iload_n x dL_find_4 rfl ?_
  refine j2_callC x hb dL_find_5 m_X5_find hcon wmL_55 jc_9 rfl rfl rfl (Nat.le_of_ble_eq_true rfl) (j_fit_rm (by omega) (by omega) (by omega)) rfl [⟨0, 10, 13, 45⟩] ⟨0, 10, 17, 58⟩ [] htab (fun w hw => by rcases List.mem_cons.mp hw with rfl | hw <;> first | exact Or.inr ⟨by decide, _, wcL_45, by decide +kernel⟩ | cases hw) (by decide) (by decide) wcL_58 wx_NoSuchElementException rfl (fun a => ?_)
  refine j_astoreR x dL_find_17 (by decide) rfl ?_
  refine j_iconst (v := 2) x dL_find_19 (by decide) ?_
  exact j_ireturn x hr dL_find_20 (by omega) (by omega) ⟨rfl, rfl⟩
theorem H_byeIn_r {d mc ms : Nat} {b : SBt} {Y : OUt} {M M1 : MM} (hb : 104 ≤ b.2.1) {u0 : Int32} {v : Int32} (hcon : CM d mc ms yX5_byeIn cX5_byeIn 3 (some .int) [.ref 0, .int u0] b Y M (.inl (some (.int v))) M1) : CMH (d + 1) mc ms yL_byeIn cL_byeIn 4 (some .int) [(0, 9, 12, 45), (0, 9, 15, 58)] [.ref 0, .int u0, .ref 102] b Y M 0 (ju Y.1 0 v.toInt64, Y.2) M1 := by
  refine ConH.of (by decide +kernel) (Nat.le_of_ble_eq_true rfl) rfl fun p l e s m args below meth c D tyc A ad0 x hr htab hname => ?_
  change JJ _ _ _ _ _ _ _ _ _ _ _ _ _ _ _ _ _ 0 [some (.ref 0), some (.int u0), some (.ref 102), none] [] _ 0 0
  refine j_aload_n x dL_byeIn_0 rfl ?_
  refine j_iconst (v := 0) x dL_byeIn_1 (by decide) ?_
  refine j_aload_n x dL_byeIn_2 rfl ?_
  refine j_iload_n x dL_byeIn_3 rfl ?_
  refine j2_callVi x hb dL_byeIn_4 m_X5_byeIn hcon wmL_60 jc_9 rfl rfl rfl (Nat.le_of_ble_eq_true rfl) (j_fit_rm (by omega) (by omega) (by omega)) rfl ?_
  refine j_i2l x dL_byeIn_7 ?_
  refine j2_last x hb dL_byeIn_8 ?_
  refine j_goto (tgt := 18) x dL_byeIn_9 (by decide) ?_
  refine j_iconst (v := 0) x dL_byeIn_18 (by decide) ?_
  exact j_ireturn x hr dL_byeIn_19 (by omega) (by omega) ⟨rfl, rfl⟩
theorem H_byeIn_t1 {d mc ms : Nat} {b : SBt} {Y : OUt} {M M1 : MM} (hb : 104 ≤ b.2.1) {u0 : Int32} (hcon : CM d mc ms yX5_byeIn cX5_byeIn 3 (some .int) [.ref 0, .int u0] b Y M (.inr "java/lang/IndexOutOfBoundsException") M1) : CMH (d + 1) mc ms yL_byeIn cL_byeIn 4 (some .int) [(0, 9, 12, 45), (0, 9, 15, 58)] [.ref 0, .int u0, .ref 102] b Y M 1 Y M1 := by
  refine ConH.of (by decide +kernel) (Nat.le_of_ble_eq_true rfl) rfl fun p l e s m args below meth c D tyc A ad0 x hr htab hname => ?_
  change JJ _ _ _ _ _ _ _ _ _ _ _ _ _ _ _ _ _ 0 [some (.ref 0), some (.int u0), some (.ref 102), none] [] _ 0 0
  refine j_aload_n x dL_byeIn_0 rfl ?_
  refine j_iconst (v := 0) x dL_byeIn_1 (by decide) ?_
  refine j_aload_n x dL_byeIn_2 rfl ?_
  refine j_iload_n x dL_byeIn_3 rfl ?_
  refine j2_callC x hb dL_byeIn_4 m_X5_byeIn hcon wmL_60 jc_9 rfl rfl rfl (Nat.le_of_ble_eq_true rfl) (j_fit_rm (by omega) (by omega) (by omega)) rfl [] ⟨0, 9, 12, 45⟩ [⟨0, 9, 15, 58⟩] htab (fun w hw => by cases hw) (by decide) (by decide) wcL_45 wx_IndexOutOfBoundsException rfl (fun a => ?_)
  refine j_astore_nR x dL_byeIn_12 (by decide) rfl ?_
  refine j_iconst (v := 1) x dL_byeIn_13 (by decide) ?_
  exact j_ireturn x hr dL_byeIn_14 (by omega) (by omega) ⟨rfl, rfl⟩
theorem H_byeIn_t2 {d mc ms : Nat} {b : SBt} {Y : OUt} {M M1 : MM} (hb : 104 ≤ b.2.1) {u0 : Int32} (hcon : CM d mc ms yX5_byeIn cX5_byeIn 3 (some .int) [.ref 0, .int u0] b Y M (.inr "java/util/NoSuchElementException") M1) : CMH (d + 1) mc ms yL_byeIn cL_byeIn 4 (some .int) [(0, 9, 12, 45), (0, 9, 15, 58)] [.ref 0, .int u0, .ref 102] b Y M 2 Y M1 := by
  refine ConH.of (by decide +kernel) (Nat.le_of_ble_eq_true rfl) rfl fun p l e s m args below meth c D tyc A ad0 x hr htab hname => ?_
  change JJ _ _ _ _ _ _ _ _ _ _ _ _ _ _ _ _ _ 0 [some (.ref 0), some (.int u0), some (.ref 102), none] [] _ 0 0
  refine j_aload_n x dL_byeIn_0 rfl ?_
  refine j_iconst (v := 0) x dL_byeIn_1 (by decide) ?_
  refine j_aload_n x dL_byeIn_2 rfl ?_
  refine j_iload_n x dL_byeIn_3 rfl ?_
  refine j2_callC x hb dL_byeIn_4 m_X5_byeIn hcon wmL_60 jc_9 rfl rfl rfl (Nat.le_of_ble_eq_true rfl) (j_fit_rm (by omega) (by omega) (by omega)) rfl [⟨0, 9, 12, 45⟩] ⟨0, 9, 15, 58⟩ [] htab (fun w hw => by rcases List.mem_cons.mp hw with rfl | hw <;> first | exact Or.inr ⟨by decide, _, wcL_45, by decide +kernel⟩ | cases hw) (by decide) (by decide) wcL_58 wx_NoSuchElementException rfl (fun a => ?_)
  refine j_astore_nR x dL_byeIn_15 (by decide) rfl ?_
  refine j_iconst (v := 2) x dL_byeIn_16 (by decide) ?_
  exact j_ireturn x hr dL_byeIn_17 (by omega) (by omega) ⟨rfl, rfl⟩
theorem H_meetingsIn_r {d mc ms : Nat} {b : SBt} {Y : OUt} {M M1 : MM} (hb : 104 ≤ b.2.1) {u0 : Int32} {v : Int32} (hcon : CM d mc ms yX5_meetingsIn cX5_meetingsIn 4 (some .int) [.ref 0, .int u0] b Y M (.inl (some (.int v))) M1) : CMH (d + 1) mc ms yL_meetingsIn cL_meetingsIn 4 (some .int) [(0, 9, 12, 45)] [.ref 0, .int u0, .ref 102] b Y M 0 (ju Y.1 0 v.toInt64, Y.2) M1 := by
  refine ConH.of (by decide +kernel) (Nat.le_of_ble_eq_true rfl) rfl fun p l e s m args below meth c D tyc A ad0 x hr htab hname => ?_
  change JJ _ _ _ _ _ _ _ _ _ _ _ _ _ _ _ _ _ 0 [some (.ref 0), some (.int u0), some (.ref 102), none] [] _ 0 0
  refine j_aload_n x dL_meetingsIn_0 rfl ?_
  refine j_iconst (v := 0) x dL_meetingsIn_1 (by decide) ?_
  refine j_aload_n x dL_meetingsIn_2 rfl ?_
  refine j_iload_n x dL_meetingsIn_3 rfl ?_
  refine j2_callVi x hb dL_meetingsIn_4 m_X5_meetingsIn hcon wmL_63 jc_9 rfl rfl rfl (Nat.le_of_ble_eq_true rfl) (j_fit_rm (by omega) (by omega) (by omega)) rfl ?_
  refine j_i2l x dL_meetingsIn_7 ?_
  refine j2_last x hb dL_meetingsIn_8 ?_
  refine j_goto (tgt := 15) x dL_meetingsIn_9 (by decide) ?_
  refine j_iconst (v := 0) x dL_meetingsIn_15 (by decide) ?_
  exact j_ireturn x hr dL_meetingsIn_16 (by omega) (by omega) ⟨rfl, rfl⟩
theorem H_meetingsIn_t1 {d mc ms : Nat} {b : SBt} {Y : OUt} {M M1 : MM} (hb : 104 ≤ b.2.1) {u0 : Int32} (hcon : CM d mc ms yX5_meetingsIn cX5_meetingsIn 4 (some .int) [.ref 0, .int u0] b Y M (.inr "java/lang/IndexOutOfBoundsException") M1) : CMH (d + 1) mc ms yL_meetingsIn cL_meetingsIn 4 (some .int) [(0, 9, 12, 45)] [.ref 0, .int u0, .ref 102] b Y M 1 Y M1 := by
  refine ConH.of (by decide +kernel) (Nat.le_of_ble_eq_true rfl) rfl fun p l e s m args below meth c D tyc A ad0 x hr htab hname => ?_
  change JJ _ _ _ _ _ _ _ _ _ _ _ _ _ _ _ _ _ 0 [some (.ref 0), some (.int u0), some (.ref 102), none] [] _ 0 0
  refine j_aload_n x dL_meetingsIn_0 rfl ?_
  refine j_iconst (v := 0) x dL_meetingsIn_1 (by decide) ?_
  refine j_aload_n x dL_meetingsIn_2 rfl ?_
  refine j_iload_n x dL_meetingsIn_3 rfl ?_
  refine j2_callC x hb dL_meetingsIn_4 m_X5_meetingsIn hcon wmL_63 jc_9 rfl rfl rfl (Nat.le_of_ble_eq_true rfl) (j_fit_rm (by omega) (by omega) (by omega)) rfl [] ⟨0, 9, 12, 45⟩ [] htab (fun w hw => by cases hw) (by decide) (by decide) wcL_45 wx_IndexOutOfBoundsException rfl (fun a => ?_)
  refine j_astore_nR x dL_meetingsIn_12 (by decide) rfl ?_
  refine j_iconst (v := 1) x dL_meetingsIn_13 (by decide) ?_
  exact j_ireturn x hr dL_meetingsIn_14 (by omega) (by omega) ⟨rfl, rfl⟩
theorem H_clashes_r {d mc ms : Nat} {b : SBt} {Y : OUt} {M M1 : MM} (hb : 104 ≤ b.2.1) {u0 : Int32} {v : Int32} (hcon : CM d mc ms yX5_clashes cX5_clashes 2 (some .int) [.ref 0, .int u0] b Y M (.inl (some (.int v))) M1) : CMH (d + 1) mc ms yL_clashes cL_clashes 4 (some .int) [(0, 9, 12, 45)] [.ref 0, .int u0, .ref 102] b Y M 0 (ju Y.1 0 v.toInt64, Y.2) M1 := by
  refine ConH.of (by decide +kernel) (Nat.le_of_ble_eq_true rfl) rfl fun p l e s m args below meth c D tyc A ad0 x hr htab hname => ?_
  change JJ _ _ _ _ _ _ _ _ _ _ _ _ _ _ _ _ _ 0 [some (.ref 0), some (.int u0), some (.ref 102), none] [] _ 0 0
  refine j_aload_n x dL_clashes_0 rfl ?_
  refine j_iconst (v := 0) x dL_clashes_1 (by decide) ?_
  refine j_aload_n x dL_clashes_2 rfl ?_
  refine j_iload_n x dL_clashes_3 rfl ?_
  refine j2_callVi x hb dL_clashes_4 m_X5_clashes hcon wmL_66 jc_9 rfl rfl rfl (Nat.le_of_ble_eq_true rfl) (j_fit_rm (by omega) (by omega) (by omega)) rfl ?_
  refine j_i2l x dL_clashes_7 ?_
  refine j2_last x hb dL_clashes_8 ?_
  refine j_goto (tgt := 15) x dL_clashes_9 (by decide) ?_
  refine j_iconst (v := 0) x dL_clashes_15 (by decide) ?_
  exact j_ireturn x hr dL_clashes_16 (by omega) (by omega) ⟨rfl, rfl⟩
theorem H_clashes_t1 {d mc ms : Nat} {b : SBt} {Y : OUt} {M M1 : MM} (hb : 104 ≤ b.2.1) {u0 : Int32} (hcon : CM d mc ms yX5_clashes cX5_clashes 2 (some .int) [.ref 0, .int u0] b Y M (.inr "java/lang/IndexOutOfBoundsException") M1) : CMH (d + 1) mc ms yL_clashes cL_clashes 4 (some .int) [(0, 9, 12, 45)] [.ref 0, .int u0, .ref 102] b Y M 1 Y M1 := by
  refine ConH.of (by decide +kernel) (Nat.le_of_ble_eq_true rfl) rfl fun p l e s m args below meth c D tyc A ad0 x hr htab hname => ?_
  change JJ _ _ _ _ _ _ _ _ _ _ _ _ _ _ _ _ _ 0 [some (.ref 0), some (.int u0), some (.ref 102), none] [] _ 0 0
  refine j_aload_n x dL_clashes_0 rfl ?_
  refine j_iconst (v := 0) x dL_clashes_1 (by decide) ?_
  refine j_aload_n x dL_clashes_2 rfl ?_
  refine j_iload_n x dL_clashes_3 rfl ?_
  refine j2_callC x hb dL_clashes_4 m_X5_clashes hcon wmL_66 jc_9 rfl rfl rfl (Nat.le_of_ble_eq_true rfl) (j_fit_rm (by omega) (by omega) (by omega)) rfl [] ⟨0, 9, 12, 45⟩ [] htab (fun w hw => by cases hw) (by decide) (by decide) wcL_45 wx_IndexOutOfBoundsException rfl (fun a => ?_)
  refine j_astore_nR x dL_clashes_12 (by decide) rfl ?_
  refine j_iconst (v := 1) x dL_clashes_13 (by decide) ?_
  exact j_ireturn x hr dL_clashes_14 (by omega) (by omega) ⟨rfl, rfl⟩
theorem H_freeWeek_r {d mc ms : Nat} {b : SBt} {Y : OUt} {M M1 : MM} (hb : 104 ≤ b.2.1) {u0 : Int32} {v : Int32} (hcon : CM d mc ms yX5_freeWeek cX5_freeWeek 3 (some .int) [.ref 0, .int u0] b Y M (.inl (some (.int v))) M1) : CMH (d + 1) mc ms yL_freeWeek cL_freeWeek 4 (some .int) [(0, 9, 12, 45), (0, 9, 15, 58)] [.ref 0, .int u0, .ref 102] b Y M 0 (ju Y.1 0 v.toInt64, Y.2) M1 := by
  refine ConH.of (by decide +kernel) (Nat.le_of_ble_eq_true rfl) rfl fun p l e s m args below meth c D tyc A ad0 x hr htab hname => ?_
  change JJ _ _ _ _ _ _ _ _ _ _ _ _ _ _ _ _ _ 0 [some (.ref 0), some (.int u0), some (.ref 102), none] [] _ 0 0
  refine j_aload_n x dL_freeWeek_0 rfl ?_
  refine j_iconst (v := 0) x dL_freeWeek_1 (by decide) ?_
  refine j_aload_n x dL_freeWeek_2 rfl ?_
  refine j_iload_n x dL_freeWeek_3 rfl ?_
  refine j2_callVi x hb dL_freeWeek_4 m_X5_freeWeek hcon wmL_69 jc_9 rfl rfl rfl (Nat.le_of_ble_eq_true rfl) (j_fit_rm (by omega) (by omega) (by omega)) rfl ?_
  refine j_i2l x dL_freeWeek_7 ?_
  refine j2_last x hb dL_freeWeek_8 ?_
  refine j_goto (tgt := 18) x dL_freeWeek_9 (by decide) ?_
  refine j_iconst (v := 0) x dL_freeWeek_18 (by decide) ?_
  exact j_ireturn x hr dL_freeWeek_19 (by omega) (by omega) ⟨rfl, rfl⟩
theorem H_freeWeek_t1 {d mc ms : Nat} {b : SBt} {Y : OUt} {M M1 : MM} (hb : 104 ≤ b.2.1) {u0 : Int32} (hcon : CM d mc ms yX5_freeWeek cX5_freeWeek 3 (some .int) [.ref 0, .int u0] b Y M (.inr "java/lang/IndexOutOfBoundsException") M1) : CMH (d + 1) mc ms yL_freeWeek cL_freeWeek 4 (some .int) [(0, 9, 12, 45), (0, 9, 15, 58)] [.ref 0, .int u0, .ref 102] b Y M 1 Y M1 := by
  refine ConH.of (by decide +kernel) (Nat.le_of_ble_eq_true rfl) rfl fun p l e s m args below meth c D tyc A ad0 x hr htab hname => ?_
  change JJ _ _ _ _ _ _ _ _ _ _ _ _ _ _ _ _ _ 0 [some (.ref 0), some (.int u0), some (.ref 102), none] [] _ 0 0
  refine j_aload_n x dL_freeWeek_0 rfl ?_
  refine j_iconst (v := 0) x dL_freeWeek_1 (by decide) ?_
  refine j_aload_n x dL_freeWeek_2 rfl ?_
  refine j_iload_n x dL_freeWeek_3 rfl ?_
  refine j2_callC x hb dL_freeWeek_4 m_X5_freeWeek hcon wmL_69 jc_9 rfl rfl rfl (Nat.le_of_ble_eq_true rfl) (j_fit_rm (by omega) (by omega) (by omega)) rfl [] ⟨0, 9, 12, 45⟩ [⟨0, 9, 15, 58⟩] htab (fun w hw => by cases hw) (by decide) (by decide) wcL_45 wx_IndexOutOfBoundsException rfl (fun a => ?_)
  refine j_astore_nR x dL_freeWeek_12 (by decide) rfl ?_
  refine j_iconst (v := 1) x dL_freeWeek_13 (by decide) ?_
  exact j_ireturn x hr dL_freeWeek_14 (by omega) (by omega) ⟨rfl, rfl⟩
theorem H_freeWeek_t2 {d mc ms : Nat} {b : SBt} {Y : OUt} {M M1 : MM} (hb : 104 ≤ b.2.1) {u0 : Int32} (hcon : CM d mc ms yX5_freeWeek cX5_freeWeek 3 (some .int) [.ref 0, .int u0] b Y M (.inr "java/util/NoSuchElementException") M1) : CMH (d + 1) mc ms yL_freeWeek cL_freeWeek 4 (some .int) [(0, 9, 12, 45), (0, 9, 15, 58)] [.ref 0, .int u0, .ref 102] b Y M 2 Y M1 := by
  refine ConH.of (by decide +kernel) (Nat.le_of_ble_eq_true rfl) rfl fun p l e s m args below meth c D tyc A ad0 x hr htab hname => ?_
  change JJ _ _ _ _ _ _ _ _ _ _ _ _ _ _ _ _ _ 0 [some (.ref 0), some (.int u0), some (.ref 102), none] [] _ 0 0
  refine j_aload_n x dL_freeWeek_0 rfl ?_
  refine j_iconst (v := 0) x dL_freeWeek_1 (by decide) ?_
  refine j_aload_n x dL_freeWeek_2 rfl ?_
  refine j_iload_n x dL_freeWeek_3 rfl ?_
  refine j2_callC x hb dL_freeWeek_4 m_X5_freeWeek hcon wmL_69 jc_9 rfl rfl rfl (Nat.le_of_ble_eq_true rfl) (j_fit_rm (by omega) (by omega) (by omega)) rfl [⟨0, 9, 12, 45⟩] ⟨0, 9, 15, 58⟩ [] htab (fun w hw => by rcases List.mem_cons.mp hw with rfl | hw <;> first | exact Or.inr ⟨by decide, _, wcL_45, by decide +kernel⟩ | cases hw) (by decide) (by decide) wcL_58 wx_NoSuchElementException rfl (fun a => ?_)
  refine j_astore_nR x dL_freeWeek_15 (by decide) rfl ?_
  refine j_iconst (v := 2) x dL_freeWeek_16 (by decide) ?_
  exact j_ireturn x hr dL_freeWeek_17 (by omega) (by omega) ⟨rfl, rfl⟩
theorem H_ranked_r {d mc ms : Nat} {b : SBt} {Y : OUt} {M M1 : MM} (hb : 104 ≤ b.2.1) {u0 : Int32} {v : Int32} (hcon : CM d mc ms yX5_ranked cX5_ranked 2 (some .int) [.ref 0, .int u0] b Y M (.inl (some (.int v))) M1) : CMH (d + 1) mc ms yL_ranked cL_ranked 4 (some .int) [(0, 9, 12, 58)] [.ref 0, .int u0, .ref 102] b Y M 0 (ju Y.1 0 v.toInt64, Y.2) M1 := by
  refine ConH.of (by decide +kernel) (Nat.le_of_ble_eq_true rfl) rfl fun p l e s m args below meth c D tyc A ad0 x hr htab hname => ?_
  change JJ _ _ _ _ _ _ _ _ _ _ _ _ _ _ _ _ _ 0 [some (.ref 0), some (.int u0), some (.ref 102), none] [] _ 0 0
  refine j_aload_n x dL_ranked_0 rfl ?_
  refine j_iconst (v := 0) x dL_ranked_1 (by decide) ?_
  refine j_aload_n x dL_ranked_2 rfl ?_
  refine j_iload_n x dL_ranked_3 rfl ?_
  refine j2_callVi x hb dL_ranked_4 m_X5_ranked hcon wmL_72 jc_9 rfl rfl rfl (Nat.le_of_ble_eq_true rfl) (j_fit_rm (by omega) (by omega) (by omega)) rfl ?_
  refine j_i2l x dL_ranked_7 ?_
  refine j2_last x hb dL_ranked_8 ?_
  refine j_goto (tgt := 15) x dL_ranked_9 (by decide) ?_
  refine j_iconst (v := 0) x dL_ranked_15 (by decide) ?_
  exact j_ireturn x hr dL_ranked_16 (by omega) (by omega) ⟨rfl, rfl⟩
theorem H_ranked_t1 {d mc ms : Nat} {b : SBt} {Y : OUt} {M M1 : MM} (hb : 104 ≤ b.2.1) {u0 : Int32} (hcon : CM d mc ms yX5_ranked cX5_ranked 2 (some .int) [.ref 0, .int u0] b Y M (.inr "java/util/NoSuchElementException") M1) : CMH (d + 1) mc ms yL_ranked cL_ranked 4 (some .int) [(0, 9, 12, 58)] [.ref 0, .int u0, .ref 102] b Y M 1 Y M1 := by
  refine ConH.of (by decide +kernel) (Nat.le_of_ble_eq_true rfl) rfl fun p l e s m args below meth c D tyc A ad0 x hr htab hname => ?_
  change JJ _ _ _ _ _ _ _ _ _ _ _ _ _ _ _ _ _ 0 [some (.ref 0), some (.int u0), some (.ref 102), none] [] _ 0 0
  refine j_aload_n x dL_ranked_0 rfl ?_
  refine j_iconst (v := 0) x dL_ranked_1 (by decide) ?_
  refine j_aload_n x dL_ranked_2 rfl ?_
  refine j_iload_n x dL_ranked_3 rfl ?_
  refine j2_callC x hb dL_ranked_4 m_X5_ranked hcon wmL_72 jc_9 rfl rfl rfl (Nat.le_of_ble_eq_true rfl) (j_fit_rm (by omega) (by omega) (by omega)) rfl [] ⟨0, 9, 12, 58⟩ [] htab (fun w hw => by cases hw) (by decide) (by decide) wcL_58 wx_NoSuchElementException rfl (fun a => ?_)
  refine j_astore_nR x dL_ranked_12 (by decide) rfl ?_
  refine j_iconst (v := 1) x dL_ranked_13 (by decide) ?_
  exact j_ireturn x hr dL_ranked_14 (by omega) (by omega) ⟨rfl, rfl⟩
theorem H_placeOf_r {d mc ms : Nat} {b : SBt} {Y : OUt} {M M1 : MM} (hb : 104 ≤ b.2.1) {u0 : Int32} {v : Int32} (hcon : CM d mc ms yX5_placeOf cX5_placeOf 4 (some .int) [.ref 0, .int u0] b Y M (.inl (some (.int v))) M1) : CMH (d + 1) mc ms yL_placeOf cL_placeOf 4 (some .int) [(0, 9, 12, 45)] [.ref 0, .int u0, .ref 102] b Y M 0 (ju Y.1 0 v.toInt64, Y.2) M1 := by
  refine ConH.of (by decide +kernel) (Nat.le_of_ble_eq_true rfl) rfl fun p l e s m args below meth c D tyc A ad0 x hr htab hname => ?_
  change JJ _ _ _ _ _ _ _ _ _ _ _ _ _ _ _ _ _ 0 [some (.ref 0), some (.int u0), some (.ref 102), none] [] _ 0 0
  refine j_aload_n x dL_placeOf_0 rfl ?_
  refine j_iconst (v := 0) x dL_placeOf_1 (by decide) ?_
  refine j_aload_n x dL_placeOf_2 rfl ?_
  refine j_iload_n x dL_placeOf_3 rfl ?_
  refine j2_callVi x hb dL_placeOf_4 m_X5_placeOf hcon wmL_75 jc_9 rfl rfl rfl (Nat.le_of_ble_eq_true rfl) (j_fit_rm (by omega) (by omega) (by omega)) rfl ?_
  refine j_i2l x dL_placeOf_7 ?_
  refine j2_last x hb dL_placeOf_8 ?_
  refine j_goto (tgt := 15) x dL_placeOf_9 (by decide) ?_
  refine j_iconst (v := 0) x dL_placeOf_15 (by decide) ?_
  exact j_ireturn x hr dL_placeOf_16 (by omega) (by omega) ⟨rfl, rfl⟩
theorem H_placeOf_t1 {d mc ms : Nat} {b : SBt} {Y : OUt} {M M1 : MM} (hb : 104 ≤ b.2.1) {u0 : Int32} (hcon : CM d mc ms yX5_placeOf cX5_placeOf 4 (some .int) [.ref 0, .int u0] b Y M (.inr "java/lang/IndexOutOfBoundsException") M1) : CMH (d + 1) mc ms yL_placeOf cL_placeOf 4 (some .int) [(0, 9, 12, 45)] [.ref 0, .int u0, .ref 102] b Y M 1 Y M1 := by
  refine ConH.of (by decide +kernel) (Nat.le_of_ble_eq_true rfl) rfl fun p l e s m args below meth c D tyc A ad0 x hr htab hname => ?_
  change JJ _ _ _ _ _ _ _ _ _ _ _ _ _ _ _ _ _ 0 [some (.ref 0), some (.int u0), some (.ref 102), none] [] _ 0 0
  refine j_aload_n x dL_placeOf_0 rfl ?_
  refine j_iconst (v := 0) x dL_placeOf_1 (by decide) ?_
  refine j_aload_n x dL_placeOf_2 rfl ?_
  refine j_iload_n x dL_placeOf_3 rfl ?_
  refine j2_callC x hb dL_placeOf_4 m_X5_placeOf hcon wmL_75 jc_9 rfl rfl rfl (Nat.le_of_ble_eq_true rfl) (j_fit_rm (by omega) (by omega) (by omega)) rfl [] ⟨0, 9, 12, 45⟩ [] htab (fun w hw => by cases hw) (by decide) (by decide) wcL_45 wx_IndexOutOfBoundsException rfl (fun a => ?_)
  refine j_astore_nR x dL_placeOf_12 (by decide) rfl ?_
  refine j_iconst (v := 1) x dL_placeOf_13 (by decide) ?_
  exact j_ireturn x hr dL_placeOf_14 (by omega) (by omega) ⟨rfl, rfl⟩
theorem H_valueOf_r {d mc ms : Nat} {b : SBt} {Y : OUt} {M M1 : MM} (hb : 104 ≤ b.2.1) {u0 u1 : Int32} {v : Int32} (hcon : CM d mc ms yX5_valueOf cX5_valueOf 3 (some .int) [.ref 0, .int u0, .int u1] b Y M (.inl (some (.int v))) M1) : CMH (d + 1) mc ms yL_valueOf cL_valueOf 5 (some .int) [(0, 10, 13, 45), (0, 10, 17, 47)] [.ref 0, .int u0, .int u1, .ref 102] b Y M 0 (ju Y.1 0 v.toInt64, Y.2) M1 := by
  refine ConH.of (by decide +kernel) (Nat.le_of_ble_eq_true rfl) rfl fun p l e s m args below meth c D tyc A ad0 x hr htab hname => ?_
  change JJ _ _ _ _ _ _ _ _ _ _ _ _ _ _ _ _ _ 0 [some (.ref 0), some (.int u0), some (.int u1), some (.ref 102), none] [] _ 0 0
  refine j_aload_n x dL_valueOf_0 rfl ?_
  refine j_iconst (v := 0) x dL_valueOf_1 (by decide) ?_
  refine j_aload_n x dL_valueOf_2 rfl ?_
  refine j_iload_n x dL_valueOf_3 rfl ?_
  refine j_iload_n x dL_valueOf_4 rfl ?_
  refine j2_callVi x hb dL_valueOf_5 m_X5_valueOf hcon wmL_78 jc_9 rfl rfl rfl (Nat.le_of_ble_eq_true rfl) (j_fit_rm (by omega) (by omega) (by omega)) rfl ?_
  refine j_i2l x dL_valueOf_8 ?_
  refine j2_last x hb dL_valueOf_9 ?_
  refine j_goto (tgt := 21) x dL_valueOf_10 (by decide) ?_
  refine j_iconst (v := 0) x dL_valueOf_21 (by decide) ?_
  exact j_ireturn x hr dL_valueOf_22 (by omega) (by omega) ⟨rfl, rfl⟩
theorem H_valueOf_t1 {d mc ms : Nat} {b : SBt} {Y : OUt} {M M1 : MM} (hb : 104 ≤ b.2.1) {u0 u1 : Int32} (hcon : CM d mc ms yX5_valueOf cX5_valueOf 3 (some .int) [.ref 0, .int u0, .int u1] b Y M (.inr "java/lang/IndexOutOfBoundsException") M1) : CMH (d + 1) mc ms yL_valueOf cL_valueOf 5 (some .int) [(0, 10, 13, 45), (0, 10, 17, 47)] [.ref 0, .int u0, .int u1, .ref 102] b Y M 1 Y M1 := by
  refine ConH.of (by decide +kernel) (Nat.le_of_ble_eq_true rfl) rfl fun p l e s m args below meth c D tyc A ad0 x hr htab hname => ?_
  change JJ _ _ _ _ _ _ _ _ _ _ _ _ _ _ _ _ _ 0 [some (.ref 0), some (.int u0), some (.int u1), some (.ref 102), none] [] _ 0 0
  refine j_aload_n x dL_valueOf_0 rfl ?_
  refine j_iconst (v := 0) x dL_valueOf_1 (by decide) ?_
  refine j_aload_n x dL_valueOf_2 rfl ?_
  refine j_iload_n x dL_valueOf_3 rfl ?_
  refine j_iload_n x dL_valueOf_4 rfl ?_
  refine j2_callC x hb dL_valueOf_5 m_X5_valueOf hcon wmL_78 jc_9 rfl rfl rfl (Nat.le_of_ble_eq_true rfl) (j_fit_rm (by omega) (by omega) (by omega)) rfl [] ⟨0, 10, 13, 45⟩ [⟨0, 10, 17, 47⟩] htab (fun w hw => by cases hw) (by decide) (by decide) wcL_45 wx_IndexOutOfBoundsException rfl (fun a => ?_)
  refine j_astoreR x dL_valueOf_13 (by decide) rfl ?_
  refine j_iconst (v := 1) x dL_valueOf_15 (by decide) ?_
  exact j_ireturn x hr dL_valueOf_16 (by omega) (by omega) ⟨rfl, rfl⟩
theorem H_valueOf_t2 {d mc ms : Nat} {b : SBt} {Y : OUt} {M M1 : MM} (hb : 104 ≤ b.2.1) {u0 u1 : Int32} (hcon : CM d mc ms yX5_valueOf cX5_valueOf 3 (some .int) [.ref 0, .int u0, .int u1] b Y M (.inr "java/lang/IllegalArgumentException") M1) : CMH (d + 1) mc ms yL_valueOf cL_valueOf 5 (some .int) [(0, 10, 13, 45), (0, 10, 17, 47)] [.ref 0, .int u0, .int u1, .ref 102] b Y M 2 Y M1 := by
  refine ConH.of (by decide +kernel) (Nat.le_of_ble_eq_true rfl) rfl fun p l e s m args below meth c D tyc A ad0 x hr htab hname => ?_
  change JJ _ _ _ _ _ _ _ _ _ _ _ _ _ _ _ _ _ 0 [some (.ref 0), some (.int u0), some (.int u1), some (.ref 102), none] [] _ 0 0
  refine j_aload_n x dL_valueOf_0 rfl ?_
  refine j_iconst (v := 0) x dL_valueOf_1 (by decide) ?_
  refine j_aload_n x dL_valueOf_2 rfl ?_
  refine j_iload_n x dL_valueOf_3 rfl ?_
  refine j_iload_n x dL_valueOf_4 rfl ?_
  refine j2_callC x hb dL_valueOf_5 m_X5_valueOf hcon wmL_78 jc_9 rfl rfl rfl (Nat.le_of_ble_eq_true rfl) (j_fit_rm (by omega) (by omega) (by omega)) rfl [⟨0, 10, 13, 45⟩] ⟨0, 10, 17, 47⟩ [] htab (fun w hw => by rcases List.mem_cons.mp hw with rfl | hw <;> first | exact Or.inr ⟨by decide, _, wcL_45, by decide +kernel⟩ | cases hw) (by decide) (by decide) wcL_47 wx_IllegalArgumentException rfl (fun a => ?_)
  refine j_astoreR x dL_valueOf_17 (by decide) rfl ?_
  refine j_iconst (v := 2) x dL_valueOf_19 (by decide) ?_
  exact j_ireturn x hr dL_valueOf_20 (by omega) (by omega) ⟨rfl, rfl⟩
theorem H_tied_r {d mc ms : Nat} {b : SBt} {Y : OUt} {M M1 : MM} (hb : 104 ≤ b.2.1) {u0 : Int32} {v : Int32} (hcon : CM d mc ms yX5_tied cX5_tied 4 (some .int) [.ref 0, .int u0] b Y M (.inl (some (.int v))) M1) : CMH (d + 1) mc ms yL_tied cL_tied 4 (some .int) [(0, 9, 12, 45)] [.ref 0, .int u0, .ref 102] b Y M 0 (ju Y.1 0 v.toInt64, Y.2) M1 := by
  refine ConH.of (by decide +kernel) (Nat.le_of_ble_eq_true rfl) rfl fun p l e s m args below meth c D tyc A ad0 x hr htab hname => ?_
  change JJ _ _ _ _ _ _ _ _ _ _ _ _ _ _ _ _ _ 0 [some (.ref 0), some (.int u0), some (.ref 102), none] [] _ 0 0
  refine j_aload_n x dL_tied_0 rfl ?_
  refine j_iconst (v := 0) x dL_tied_1 (by decide) ?_
  refine j_aload_n x dL_tied_2 rfl ?_
  refine j_iload_n x dL_tied_3 rfl ?_
  refine j2_callVi x hb dL_tied_4 m_X5_tied hcon wmL_81 jc_9 rfl rfl rfl (Nat.le_of_ble_eq_true rfl) (j_fit_rm (by omega) (by omega) (by omega)) rfl ?_
  refine j_i2l x dL_tied_7 ?_
  refine j2_last x hb dL_tied_8 ?_
  refine j_goto (tgt := 15) x dL_tied_9 (by decide) ?_
  refine j_iconst (v := 0) x dL_tied_15 (by decide) ?_
  exact j_ireturn x hr dL_tied_16 (by omega) (by omega) ⟨rfl, rfl⟩
theorem H_tied_t1 {d mc ms : Nat} {b : SBt} {Y : OUt} {M M1 : MM} (hb : 104 ≤ b.2.1) {u0 : Int32} (hcon : CM d mc ms yX5_tied cX5_tied 4 (some .int) [.ref 0, .int u0] b Y M (.inr "java/lang/IndexOutOfBoundsException") M1) : CMH (d + 1) mc ms yL_tied cL_tied 4 (some .int) [(0, 9, 12, 45)] [.ref 0, .int u0, .ref 102] b Y M 1 Y M1 := by
  refine ConH.of (by decide +kernel) (Nat.le_of_ble_eq_true rfl) rfl fun p l e s m args below meth c D tyc A ad0 x hr htab hname => ?_
  change JJ _ _ _ _ _ _ _ _ _ _ _ _ _ _ _ _ _ 0 [some (.ref 0), some (.int u0), some (.ref 102), none] [] _ 0 0
  refine j_aload_n x dL_tied_0 rfl ?_
  refine j_iconst (v := 0) x dL_tied_1 (by decide) ?_
  refine j_aload_n x dL_tied_2 rfl ?_
  refine j_iload_n x dL_tied_3 rfl ?_
  refine j2_callC x hb dL_tied_4 m_X5_tied hcon wmL_81 jc_9 rfl rfl rfl (Nat.le_of_ble_eq_true rfl) (j_fit_rm (by omega) (by omega) (by omega)) rfl [] ⟨0, 9, 12, 45⟩ [] htab (fun w hw => by cases hw) (by decide) (by decide) wcL_45 wx_IndexOutOfBoundsException rfl (fun a => ?_)
  refine j_astore_nR x dL_tied_12 (by decide) rfl ?_
  refine j_iconst (v := 1) x dL_tied_13 (by decide) ?_
  exact j_ireturn x hr dL_tied_14 (by omega) (by omega) ⟨rfl, rfl⟩
theorem H_most_r {d mc ms : Nat} {b : SBt} {Y : OUt} {M M1 : MM} (hb : 104 ≤ b.2.1) {u0 : Int32} {v : Int32} (hcon : CM d mc ms yX5_most cX5_most 2 (some .int) [.ref 0, .int u0] b Y M (.inl (some (.int v))) M1) : CMH (d + 1) mc ms yL_most cL_most 4 (some .int) [(0, 9, 12, 45)] [.ref 0, .int u0, .ref 102] b Y M 0 (ju Y.1 0 v.toInt64, Y.2) M1 := by
  refine ConH.of (by decide +kernel) (Nat.le_of_ble_eq_true rfl) rfl fun p l e s m args below meth c D tyc A ad0 x hr htab hname => ?_
  change JJ _ _ _ _ _ _ _ _ _ _ _ _ _ _ _ _ _ 0 [some (.ref 0), some (.int u0), some (.ref 102), none] [] _ 0 0
  refine j_aload_n x dL_most_0 rfl ?_
  refine j_iconst (v := 0) x dL_most_1 (by decide) ?_
  refine j_aload_n x dL_most_2 rfl ?_
  refine j_iload_n x dL_most_3 rfl ?_
  refine j2_callVi x hb dL_most_4 m_X5_most hcon wmL_84 jc_9 rfl rfl rfl (Nat.le_of_ble_eq_true rfl) (j_fit_rm (by omega) (by omega) (by omega)) rfl ?_
  refine j_i2l x dL_most_7 ?_
  refine j2_last x hb dL_most_8 ?_
  refine j_goto (tgt := 15) x dL_most_9 (by decide) ?_
  refine j_iconst (v := 0) x dL_most_15 (by decide) ?_
  exact j_ireturn x hr dL_most_16 (by omega) (by omega) ⟨rfl, rfl⟩
theorem H_most_t1 {d mc ms : Nat} {b : SBt} {Y : OUt} {M M1 : MM} (hb : 104 ≤ b.2.1) {u0 : Int32} (hcon : CM d mc ms yX5_most cX5_most 2 (some .int) [.ref 0, .int u0] b Y M (.inr "java/lang/IndexOutOfBoundsException") M1) : CMH (d + 1) mc ms yL_most cL_most 4 (some .int) [(0, 9, 12, 45)] [.ref 0, .int u0, .ref 102] b Y M 1 Y M1 := by
  refine ConH.of (by decide +kernel) (Nat.le_of_ble_eq_true rfl) rfl fun p l e s m args below meth c D tyc A ad0 x hr htab hname => ?_
  change JJ _ _ _ _ _ _ _ _ _ _ _ _ _ _ _ _ _ 0 [some (.ref 0), some (.int u0), some (.ref 102), none] [] _ 0 0
  refine j_aload_n x dL_most_0 rfl ?_
  refine j_iconst (v := 0) x dL_most_1 (by decide) ?_
  refine j_aload_n x dL_most_2 rfl ?_
  refine j_iload_n x dL_most_3 rfl ?_
  refine j2_callC x hb dL_most_4 m_X5_most hcon wmL_84 jc_9 rfl rfl rfl (Nat.le_of_ble_eq_true rfl) (j_fit_rm (by omega) (by omega) (by omega)) rfl [] ⟨0, 9, 12, 45⟩ [] htab (fun w hw => by cases hw) (by decide) (by decide) wcL_45 wx_IndexOutOfBoundsException rfl (fun a => ?_)
  refine j_astore_nR x dL_most_12 (by decide) rfl ?_
  refine j_iconst (v := 1) x dL_most_13 (by decide) ?_
  exact j_ireturn x hr dL_most_14 (by omega) (by omega) ⟨rfl, rfl⟩
theorem H_isSafe_r {d mc ms : Nat} {b : SBt} {Y : OUt} {M M1 : MM} (hb : 104 ≤ b.2.1) {u0 : Int32} {v : Int32} (hcon : CM d mc ms yX5_isSafe cX5_isSafe 2 (some .boolean) [.ref 0, .int u0] b Y M (.inl (some (.int v))) M1) : CMH (d + 1) mc ms yL_isSafe cL_isSafe 4 (some .int) [(0, 16, 19, 45)] [.ref 0, .int u0, .ref 102] b Y M 0 (ju Y.1 0 (if v = 0 then 0 else 1), Y.2) M1 := by
  refine ConH.of (by decide +kernel) (Nat.le_of_ble_eq_true rfl) rfl fun p l e s m args below meth c D tyc A ad0 x hr htab hname => ?_
  change JJ _ _ _ _ _ _ _ _ _ _ _ _ _ _ _ _ _ 0 [some (.ref 0), some (.int u0), some (.ref 102), none] [] _ 0 0
  refine j_aload_n x dL_isSafe_0 rfl ?_
  refine j_iconst (v := 0) x dL_isSafe_1 (by decide) ?_
  refine j_aload_n x dL_isSafe_2 rfl ?_
  refine j_iload_n x dL_isSafe_3 rfl ?_
  refine j2_callVi x hb dL_isSafe_4 m_X5_isSafe hcon wmL_87 jc_9 rfl rfl rfl (Nat.le_of_ble_eq_true rfl) (j_fit_rm (by omega) (by omega) (by omega)) rfl ?_
  refine j_if_eq (tgt := 14) x dL_isSafe_7 (by decide) (fun hv => ?_) (fun hv => ?_)
  · refine j_lconst (v := 0) x dL_isSafe_14 (by decide) ?_
    refine j2_last x hb dL_isSafe_15 ?_
    refine j_goto (tgt := 22) x dL_isSafe_16 (by decide) ?_
    refine j_iconst (v := 0) x dL_isSafe_22 (by decide) ?_
    exact j_ireturn x hr dL_isSafe_23 (by omega) (by omega) ⟨rfl, by rw [if_pos hv]⟩
  · refine j_lconst (v := 1) x dL_isSafe_10 (by decide) ?_
    refine j_goto (tgt := 15) x dL_isSafe_11 (by decide) ?_
    refine j2_last x hb dL_isSafe_15 ?_
    refine j_goto (tgt := 22) x dL_isSafe_16 (by decide) ?_
    refine j_iconst (v := 0) x dL_isSafe_22 (by decide) ?_
    exact j_ireturn x hr dL_isSafe_23 (by omega) (by omega) ⟨rfl, by rw [if_neg hv]⟩
theorem H_isSafe_t1 {d mc ms : Nat} {b : SBt} {Y : OUt} {M M1 : MM} (hb : 104 ≤ b.2.1) {u0 : Int32} (hcon : CM d mc ms yX5_isSafe cX5_isSafe 2 (some .boolean) [.ref 0, .int u0] b Y M (.inr "java/lang/IndexOutOfBoundsException") M1) : CMH (d + 1) mc ms yL_isSafe cL_isSafe 4 (some .int) [(0, 16, 19, 45)] [.ref 0, .int u0, .ref 102] b Y M 1 Y M1 := by
  refine ConH.of (by decide +kernel) (Nat.le_of_ble_eq_true rfl) rfl fun p l e s m args below meth c D tyc A ad0 x hr htab hname => ?_
  change JJ _ _ _ _ _ _ _ _ _ _ _ _ _ _ _ _ _ 0 [some (.ref 0), some (.int u0), some (.ref 102), none] [] _ 0 0
  refine j_aload_n x dL_isSafe_0 rfl ?_
  refine j_iconst (v := 0) x dL_isSafe_1 (by decide) ?_
  refine j_aload_n x dL_isSafe_2 rfl ?_
  refine j_iload_n x dL_isSafe_3 rfl ?_
  refine j2_callC x hb dL_isSafe_4 m_X5_isSafe hcon wmL_87 jc_9 rfl rfl rfl (Nat.le_of_ble_eq_true rfl) (j_fit_rm (by omega) (by omega) (by omega)) rfl [] ⟨0, 16, 19, 45⟩ [] htab (fun w hw => by cases hw) (by decide) (by decide) wcL_45 wx_IndexOutOfBoundsException rfl (fun a => ?_)
  refine j_astore_nR x dL_isSafe_19 (by decide) rfl ?_
  refine j_iconst (v := 1) x dL_isSafe_20 (by decide) ?_
  exact j_ireturn x hr dL_isSafe_21 (by omega) (by omega) ⟨rfl, rfl⟩
theorem H_isOut_r {d mc ms : Nat} {b : SBt} {Y : OUt} {M M1 : MM} (hb : 104 ≤ b.2.1) {u0 : Int32} {v : Int32} (hcon : CM d mc ms yX5_isOut cX5_isOut 2 (some .boolean) [.ref 0, .int u0] b Y M (.inl (some (.int v))) M1) : CMH (d + 1) mc ms yL_isOut cL_isOut 4 (some .int) [(0, 16, 19, 45)] [.ref 0, .int u0, .ref 102] b Y M 0 (ju Y.1 0 (if v = 0 then 0 else 1), Y.2) M1 := by
  refine ConH.of (by decide +kernel) (Nat.le_of_ble_eq_true rfl) rfl fun p l e s m args below meth c D tyc A ad0 x hr htab hname => ?_
  change JJ _ _ _ _ _ _ _ _ _ _ _ _ _ _ _ _ _ 0 [some (.ref 0), some (.int u0), some (.ref 102), none] [] _ 0 0
  refine j_aload_n x dL_isOut_0 rfl ?_
  refine j_iconst (v := 0) x dL_isOut_1 (by decide) ?_
  refine j_aload_n x dL_isOut_2 rfl ?_
  refine j_iload_n x dL_isOut_3 rfl ?_
  refine j2_callVi x hb dL_isOut_4 m_X5_isOut hcon wmL_91 jc_9 rfl rfl rfl (Nat.le_of_ble_eq_true rfl) (j_fit_rm (by omega) (by omega) (by omega)) rfl ?_
  refine j_if_eq (tgt := 14) x dL_isOut_7 (by decide) (fun hv => ?_) (fun hv => ?_)
  · refine j_lconst (v := 0) x dL_isOut_14 (by decide) ?_
    refine j2_last x hb dL_isOut_15 ?_
    refine j_goto (tgt := 22) x dL_isOut_16 (by decide) ?_
    refine j_iconst (v := 0) x dL_isOut_22 (by decide) ?_
    exact j_ireturn x hr dL_isOut_23 (by omega) (by omega) ⟨rfl, by rw [if_pos hv]⟩
  · refine j_lconst (v := 1) x dL_isOut_10 (by decide) ?_
    refine j_goto (tgt := 15) x dL_isOut_11 (by decide) ?_
    refine j2_last x hb dL_isOut_15 ?_
    refine j_goto (tgt := 22) x dL_isOut_16 (by decide) ?_
    refine j_iconst (v := 0) x dL_isOut_22 (by decide) ?_
    exact j_ireturn x hr dL_isOut_23 (by omega) (by omega) ⟨rfl, by rw [if_neg hv]⟩
theorem H_isOut_t1 {d mc ms : Nat} {b : SBt} {Y : OUt} {M M1 : MM} (hb : 104 ≤ b.2.1) {u0 : Int32} (hcon : CM d mc ms yX5_isOut cX5_isOut 2 (some .boolean) [.ref 0, .int u0] b Y M (.inr "java/lang/IndexOutOfBoundsException") M1) : CMH (d + 1) mc ms yL_isOut cL_isOut 4 (some .int) [(0, 16, 19, 45)] [.ref 0, .int u0, .ref 102] b Y M 1 Y M1 := by
  refine ConH.of (by decide +kernel) (Nat.le_of_ble_eq_true rfl) rfl fun p l e s m args below meth c D tyc A ad0 x hr htab hname => ?_
  change JJ _ _ _ _ _ _ _ _ _ _ _ _ _ _ _ _ _ 0 [some (.ref 0), some (.int u0), some (.ref 102), none] [] _ 0 0
  refine j_aload_n x dL_isOut_0 rfl ?_
  refine j_iconst (v := 0) x dL_isOut_1 (by decide) ?_
  refine j_aload_n x dL_isOut_2 rfl ?_
  refine j_iload_n x dL_isOut_3 rfl ?_
  refine j2_callC x hb dL_isOut_4 m_X5_isOut hcon wmL_91 jc_9 rfl rfl rfl (Nat.le_of_ble_eq_true rfl) (j_fit_rm (by omega) (by omega) (by omega)) rfl [] ⟨0, 16, 19, 45⟩ [] htab (fun w hw => by cases hw) (by decide) (by decide) wcL_45 wx_IndexOutOfBoundsException rfl (fun a => ?_)
  refine j_astore_nR x dL_isOut_19 (by decide) rfl ?_
  refine j_iconst (v := 1) x dL_isOut_20 (by decide) ?_
  exact j_ireturn x hr dL_isOut_21 (by omega) (by omega) ⟨rfl, rfl⟩
theorem H_run_r {d mc ms : Nat} {b : SBt} {Y : OUt} {M M1 : MM} (hb : 104 ≤ b.2.1) {u0 : Int32} {v : Int32} (hcon : CM d mc ms yX5_run cX5_run 5 (some .int) [.ref 0, .int u0] b Y M (.inl (some (.int v))) M1) : CMH (d + 1) mc ms yL_run cL_run 4 (some .int) [(0, 9, 12, 45)] [.ref 0, .int u0, .ref 102] b Y M 0 (ju Y.1 0 v.toInt64, Y.2) M1 := by
  refine ConH.of (by decide +kernel) (Nat.le_of_ble_eq_true rfl) rfl fun p l e s m args below meth c D tyc A ad0 x hr htab hname => ?_
  change JJ _ _ _ _ _ _ _ _ _ _ _ _ _ _ _ _ _ 0 [some (.ref 0), some (.int u0), some (.ref 102), none] [] _ 0 0
  refine j_aload_n x dL_run_0 rfl ?_
  refine j_iconst (v := 0) x dL_run_1 (by decide) ?_
  refine j_aload_n x dL_run_2 rfl ?_
  refine j_iload_n x dL_run_3 rfl ?_
  refine j2_callVi x hb dL_run_4 m_X5_run hcon wmL_94 jc_9 rfl rfl rfl (Nat.le_of_ble_eq_true rfl) (j_fit_rm (by omega) (by omega) (by omega)) rfl ?_
  refine j_i2l x dL_run_7 ?_
  refine j2_last x hb dL_run_8 ?_
  refine j_goto (tgt := 15) x dL_run_9 (by decide) ?_
  refine j_iconst (v := 0) x dL_run_15 (by decide) ?_
  exact j_ireturn x hr dL_run_16 (by omega) (by omega) ⟨rfl, rfl⟩
theorem H_run_t1 {d mc ms : Nat} {b : SBt} {Y : OUt} {M M1 : MM} (hb : 104 ≤ b.2.1) {u0 : Int32} (hcon : CM d mc ms yX5_run cX5_run 5 (some .int) [.ref 0, .int u0] b Y M (.inr "java/lang/IndexOutOfBoundsException") M1) : CMH (d + 1) mc ms yL_run cL_run 4 (some .int) [(0, 9, 12, 45)] [.ref 0, .int u0, .ref 102] b Y M 1 Y M1 := by
  refine ConH.of (by decide +kernel) (Nat.le_of_ble_eq_true rfl) rfl fun p l e s m args below meth c D tyc A ad0 x hr htab hname => ?_
  change JJ _ _ _ _ _ _ _ _ _ _ _ _ _ _ _ _ _ 0 [some (.ref 0), some (.int u0), some (.ref 102), none] [] _ 0 0
  refine j_aload_n x dL_run_0 rfl ?_
  refine j_iconst (v := 0) x dL_run_1 (by decide) ?_
  refine j_aload_n x dL_run_2 rfl ?_
  refine j_iload_n x dL_run_3 rfl ?_
  refine j2_callC x hb dL_run_4 m_X5_run hcon wmL_94 jc_9 rfl rfl rfl (Nat.le_of_ble_eq_true rfl) (j_fit_rm (by omega) (by omega) (by omega)) rfl [] ⟨0, 9, 12, 45⟩ [] htab (fun w hw => by cases hw) (by decide) (by decide) wcL_45 wx_IndexOutOfBoundsException rfl (fun a => ?_)
  refine j_astore_nR x dL_run_12 (by decide) rfl ?_
  refine j_iconst (v := 1) x dL_run_13 (by decide) ?_
  exact j_ireturn x hr dL_run_14 (by omega) (by omega) ⟨rfl, rfl⟩
theorem H_append_r {d mc ms : Nat} {b : SBt} {Y : OUt} {M M1 : MM} (hb : 104 ≤ b.2.1) {u0 : Int32} {v : Int32} (hcon : CM d mc ms yX5_append cX5_append 2 (some .int) [.ref 0, .int u0] b Y M (.inl (some (.int v))) M1) : CMH (d + 1) mc ms yL_append cL_append 4 (some .int) [(0, 9, 12, 101)] [.ref 0, .int u0, .ref 102] b Y M 0 (ju Y.1 0 v.toInt64, Y.2) M1 := by
  refine ConH.of (by decide +kernel) (Nat.le_of_ble_eq_true rfl) rfl fun p l e s m args below meth c D tyc A ad0 x hr htab hname => ?_
  change JJ _ _ _ _ _ _ _ _ _ _ _ _ _ _ _ _ _ 0 [some (.ref 0), some (.int u0), some (.ref 102), none] [] _ 0 0
  refine j_aload_n x dL_append_0 rfl ?_
  refine j_iconst (v := 0) x dL_append_1 (by decide) ?_
  refine j_aload_n x dL_append_2 rfl ?_
  refine j_iload_n x dL_append_3 rfl ?_
  refine j2_callVi x hb dL_append_4 m_X5_append hcon wmL_97 jc_9 rfl rfl rfl (Nat.le_of_ble_eq_true rfl) (j_fit_rm (by omega) (by omega) (by omega)) rfl ?_
  refine j_i2l x dL_append_7 ?_
  refine j2_last x hb dL_append_8 ?_
  refine j_goto (tgt := 15) x dL_append_9 (by decide) ?_
  refine j_iconst (v := 0) x dL_append_15 (by decide) ?_
  exact j_ireturn x hr dL_append_16 (by omega) (by omega) ⟨rfl, rfl⟩
theorem H_append_t1 {d mc ms : Nat} {b : SBt} {Y : OUt} {M M1 : MM} (hb : 104 ≤ b.2.1) {u0 : Int32} (hcon : CM d mc ms yX5_append cX5_append 2 (some .int) [.ref 0, .int u0] b Y M (.inr "java/lang/IllegalStateException") M1) : CMH (d + 1) mc ms yL_append cL_append 4 (some .int) [(0, 9, 12, 101)] [.ref 0, .int u0, .ref 102] b Y M 1 Y M1 := by
  refine ConH.of (by decide +kernel) (Nat.le_of_ble_eq_true rfl) rfl fun p l e s m args below meth c D tyc A ad0 x hr htab hname => ?_
  change JJ _ _ _ _ _ _ _ _ _ _ _ _ _ _ _ _ _ 0 [some (.ref 0), some (.int u0), some (.ref 102), none] [] _ 0 0
  refine j_aload_n x dL_append_0 rfl ?_
  refine j_iconst (v := 0) x dL_append_1 (by decide) ?_
  refine j_aload_n x dL_append_2 rfl ?_
  refine j_iload_n x dL_append_3 rfl ?_
  refine j2_callC x hb dL_append_4 m_X5_append hcon wmL_97 jc_9 rfl rfl rfl (Nat.le_of_ble_eq_true rfl) (j_fit_rm (by omega) (by omega) (by omega)) rfl [] ⟨0, 9, 12, 101⟩ [] htab (fun w hw => by cases hw) (by decide) (by decide) wcL_101 wx_IllegalStateException rfl (fun a => ?_)
  refine j_astore_nR x dL_append_12 (by decide) rfl ?_
  refine j_iconst (v := 1) x dL_append_13 (by decide) ?_
  exact j_ireturn x hr dL_append_14 (by omega) (by omega) ⟨rfl, rfl⟩
theorem H_commands_r {d mc ms : Nat} {b : SBt} {Y : OUt} {M M1 : MM} (hb : 104 ≤ b.2.1) {v : Int32} (hcon : CM d mc ms yX5_commands cX5_commands 2 (some .int) [.ref 0] b Y M (.inl (some (.int v))) M1) : CMH (d + 1) mc ms yL_commands cL_commands 3 (some .int) [(0, 8, 11, 47), (0, 8, 14, 13)] [.ref 0, .ref 102] b Y M 0 (ju Y.1 0 v.toInt64, Y.2) M1 := by
  refine ConH.of (by decide +kernel) (Nat.le_of_ble_eq_true rfl) rfl fun p l e s m args below meth c D tyc A ad0 x hr htab hname => ?_
  change JJ _ _ _ _ _ _ _ _ _ _ _ _ _ _ _ _ _ 0 [some (.ref 0), some (.ref 102), none] [] _ 0 0
  refine j_aload_n x dL_commands_0 rfl ?_
  refine j_iconst (v := 0) x dL_commands_1 (by decide) ?_
  refine j_aload_n x dL_commands_2 rfl ?_
  refine j2_callVi x hb dL_commands_3 m_X5_commands hcon wmL_103 jc_9 rfl rfl rfl (Nat.le_of_ble_eq_true rfl) (j_fit_rm (by omega) (by omega) (by omega)) rfl ?_
  refine j_i2l x dL_commands_6 ?_
  refine j2_last x hb dL_commands_7 ?_
  refine j_goto (tgt := 17) x dL_commands_8 (by decide) ?_
  refine j_iconst (v := 0) x dL_commands_17 (by decide) ?_
  exact j_ireturn x hr dL_commands_18 (by omega) (by omega) ⟨rfl, rfl⟩
theorem H_commands_t1 {d mc ms : Nat} {b : SBt} {Y : OUt} {M M1 : MM} (hb : 104 ≤ b.2.1) (hcon : CM d mc ms yX5_commands cX5_commands 2 (some .int) [.ref 0] b Y M (.inr "java/lang/IllegalArgumentException") M1) : CMH (d + 1) mc ms yL_commands cL_commands 3 (some .int) [(0, 8, 11, 47), (0, 8, 14, 13)] [.ref 0, .ref 102] b Y M 1 Y M1 := by
  refine ConH.of (by decide +kernel) (Nat.le_of_ble_eq_true rfl) rfl fun p l e s m args below meth c D tyc A ad0 x hr htab hname => ?_
  change JJ _ _ _ _ _ _ _ _ _ _ _ _ _ _ _ _ _ 0 [some (.ref 0), some (.ref 102), none] [] _ 0 0
  refine j_aload_n x dL_commands_0 rfl ?_
  refine j_iconst (v := 0) x dL_commands_1 (by decide) ?_
  refine j_aload_n x dL_commands_2 rfl ?_
  refine j2_callC x hb dL_commands_3 m_X5_commands hcon wmL_103 jc_9 rfl rfl rfl (Nat.le_of_ble_eq_true rfl) (j_fit_rm (by omega) (by omega) (by omega)) rfl [] ⟨0, 8, 11, 47⟩ [⟨0, 8, 14, 13⟩] htab (fun w hw => by cases hw) (by decide) (by decide) wcL_47 wx_IllegalArgumentException rfl (fun a => ?_)
  refine j_astore_nR x dL_commands_11 (by decide) rfl ?_
  refine j_iconst (v := 1) x dL_commands_12 (by decide) ?_
  exact j_ireturn x hr dL_commands_13 (by omega) (by omega) ⟨rfl, rfl⟩
theorem H_commands_t2 {d mc ms : Nat} {b : SBt} {Y : OUt} {M M1 : MM} (hb : 104 ≤ b.2.1) (hcon : CM d mc ms yX5_commands cX5_commands 2 (some .int) [.ref 0] b Y M (.inr "java/lang/UnsupportedOperationException") M1) : CMH (d + 1) mc ms yL_commands cL_commands 3 (some .int) [(0, 8, 11, 47), (0, 8, 14, 13)] [.ref 0, .ref 102] b Y M 2 Y M1 := by
  refine ConH.of (by decide +kernel) (Nat.le_of_ble_eq_true rfl) rfl fun p l e s m args below meth c D tyc A ad0 x hr htab hname => ?_
  change JJ _ _ _ _ _ _ _ _ _ _ _ _ _ _ _ _ _ 0 [some (.ref 0), some (.ref 102), none] [] _ 0 0
  refine j_aload_n x dL_commands_0 rfl ?_
  refine j_iconst (v := 0) x dL_commands_1 (by decide) ?_
  refine j_aload_n x dL_commands_2 rfl ?_
  refine j2_callC x hb dL_commands_3 m_X5_commands hcon wmL_103 jc_9 rfl rfl rfl (Nat.le_of_ble_eq_true rfl) (j_fit_rm (by omega) (by omega) (by omega)) rfl [⟨0, 8, 11, 47⟩] ⟨0, 8, 14, 13⟩ [] htab (fun w hw => by rcases List.mem_cons.mp hw with rfl | hw <;> first | exact Or.inr ⟨by decide, _, wcL_47, by decide +kernel⟩ | cases hw) (by decide) (by decide) wcL_13 wx_UnsupportedOperationException rfl (fun a => ?_)
  refine j_astore_nR x dL_commands_14 (by decide) rfl ?_
  refine j_iconst (v := 2) x dL_commands_15 (by decide) ?_
  exact j_ireturn x hr dL_commands_16 (by omega) (by omega) ⟨rfl, rfl⟩
theorem H_reason_r {d mc ms : Nat} {b : SBt} {Y : OUt} {M M1 : MM} (hb : 104 ≤ b.2.1) {u0 : Int32} {v : Int32} (hcon : CM d mc ms yX5_reason cX5_reason 2 (some .int) [.ref 0, .int u0] b Y M (.inl (some (.int v))) M1) : CMH (d + 1) mc ms yL_reason cL_reason 4 (some .int) [(0, 9, 12, 47), (0, 9, 15, 58)] [.ref 0, .int u0, .ref 102] b Y M 0 (ju Y.1 0 v.toInt64, Y.2) M1 := by
  refine ConH.of (by decide +kernel) (Nat.le_of_ble_eq_true rfl) rfl fun p l e s m args below meth c D tyc A ad0 x hr htab hname => ?_
  change JJ _ _ _ _ _ _ _ _ _ _ _ _ _ _ _ _ _ 0 [some (.ref 0), some (.int u0), some (.ref 102), none] [] _ 0 0
  refine j_aload_n x dL_reason_0 rfl ?_
  refine j_iconst (v := 0) x dL_reason_1 (by decide) ?_
  refine j_aload_n x dL_reason_2 rfl ?_
  refine j_iload_n x dL_reason_3 rfl ?_
  refine j2_callVi x hb dL_reason_4 m_X5_reason hcon wmL_106 jc_9 rfl rfl rfl (Nat.le_of_ble_eq_true rfl) (j_fit_rm (by omega) (by omega) (by omega)) rfl ?_
  refine j_i2l x dL_reason_7 ?_
  refine j2_last x hb dL_reason_8 ?_
  refine j_goto (tgt := 18) x dL_reason_9 (by decide) ?_
  refine j_iconst (v := 0) x dL_reason_18 (by decide) ?_
  exact j_ireturn x hr dL_reason_19 (by omega) (by omega) ⟨rfl, rfl⟩
theorem H_reason_t1 {d mc ms : Nat} {b : SBt} {Y : OUt} {M M1 : MM} (hb : 104 ≤ b.2.1) {u0 : Int32} (hcon : CM d mc ms yX5_reason cX5_reason 2 (some .int) [.ref 0, .int u0] b Y M (.inr "java/lang/IllegalArgumentException") M1) : CMH (d + 1) mc ms yL_reason cL_reason 4 (some .int) [(0, 9, 12, 47), (0, 9, 15, 58)] [.ref 0, .int u0, .ref 102] b Y M 1 Y M1 := by
  refine ConH.of (by decide +kernel) (Nat.le_of_ble_eq_true rfl) rfl fun p l e s m args below meth c D tyc A ad0 x hr htab hname => ?_
  change JJ _ _ _ _ _ _ _ _ _ _ _ _ _ _ _ _ _ 0 [some (.ref 0), some (.int u0), some (.ref 102), none] [] _ 0 0
  refine j_aload_n x dL_reason_0 rfl ?_
  refine j_iconst (v := 0) x dL_reason_1 (by decide) ?_
  refine j_aload_n x dL_reason_2 rfl ?_
  refine j_iload_n x dL_reason_3 rfl ?_
  refine j2_callC x hb dL_reason_4 m_X5_reason hcon wmL_106 jc_9 rfl rfl rfl (Nat.le_of_ble_eq_true rfl) (j_fit_rm (by omega) (by omega) (by omega)) rfl [] ⟨0, 9, 12, 47⟩ [⟨0, 9, 15, 58⟩] htab (fun w hw => by cases hw) (by decide) (by decide) wcL_47 wx_IllegalArgumentException rfl (fun a => ?_)
  refine j_astore_nR x dL_reason_12 (by decide) rfl ?_
  refine j_iconst (v := 1) x dL_reason_13 (by decide) ?_
  exact j_ireturn x hr dL_reason_14 (by omega) (by omega) ⟨rfl, rfl⟩
theorem H_reason_t2 {d mc ms : Nat} {b : SBt} {Y : OUt} {M M1 : MM} (hb : 104 ≤ b.2.1) {u0 : Int32} (hcon : CM d mc ms yX5_reason cX5_reason 2 (some .int) [.ref 0, .int u0] b Y M (.inr "java/util/NoSuchElementException") M1) : CMH (d + 1) mc ms yL_reason cL_reason 4 (some .int) [(0, 9, 12, 47), (0, 9, 15, 58)] [.ref 0, .int u0, .ref 102] b Y M 2 Y M1 := by
  refine ConH.of (by decide +kernel) (Nat.le_of_ble_eq_true rfl) rfl fun p l e s m args below meth c D tyc A ad0 x hr htab hname => ?_
  change JJ _ _ _ _ _ _ _ _ _ _ _ _ _ _ _ _ _ 0 [some (.ref 0), some (.int u0), some (.ref 102), none] [] _ 0 0
  refine j_aload_n x dL_reason_0 rfl ?_
  refine j_iconst (v := 0) x dL_reason_1 (by decide) ?_
  refine j_aload_n x dL_reason_2 rfl ?_
  refine j_iload_n x dL_reason_3 rfl ?_
  refine j2_callC x hb dL_reason_4 m_X5_reason hcon wmL_106 jc_9 rfl rfl rfl (Nat.le_of_ble_eq_true rfl) (j_fit_rm (by omega) (by omega) (by omega)) rfl [⟨0, 9, 12, 47⟩] ⟨0, 9, 15, 58⟩ [] htab (fun w hw => by rcases List.mem_cons.mp hw with rfl | hw <;> first | exact Or.inr ⟨by decide, _, wcL_47, by decide +kernel⟩ | cases hw) (by decide) (by decide) wcL_58 wx_NoSuchElementException rfl (fun a => ?_)
  refine j_astore_nR x dL_reason_15 (by decide) rfl ?_
  refine j_iconst (v := 2) x dL_reason_16 (by decide) ?_
  exact j_ireturn x hr dL_reason_17 (by omega) (by omega) ⟨rfl, rfl⟩
theorem H_line_r {d mc ms : Nat} {b : SBt} {Y : OUt} {M M1 : MM} (hb : 104 ≤ b.2.1) {u0 : Int32} {v : Int32} (hcon : CM d mc ms yX5_line cX5_line 2 (some .int) [.ref 0, .int u0] b Y M (.inl (some (.int v))) M1) : CMH (d + 1) mc ms yL_line cL_line 4 (some .int) [(0, 9, 12, 45)] [.ref 0, .int u0, .ref 102] b Y M 0 (ju Y.1 0 v.toInt64, Y.2) M1 := by
  refine ConH.of (by decide +kernel) (Nat.le_of_ble_eq_true rfl) rfl fun p l e s m args below meth c D tyc A ad0 x hr htab hname => ?_
  change JJ _ _ _ _ _ _ _ _ _ _ _ _ _ _ _ _ _ 0 [some (.ref 0), some (.int u0), some (.ref 102), none] [] _ 0 0
  refine j_aload_n x dL_line_0 rfl ?_
  refine j_iconst (v := 0) x dL_line_1 (by decide) ?_
  refine j_aload_n x dL_line_2 rfl ?_
  refine j_iload_n x dL_line_3 rfl ?_
  refine j2_callVi x hb dL_line_4 m_X5_line hcon wmL_109 jc_9 rfl rfl rfl (Nat.le_of_ble_eq_true rfl) (j_fit_rm (by omega) (by omega) (by omega)) rfl ?_
  refine j_i2l x dL_line_7 ?_
  refine j2_last x hb dL_line_8 ?_
  refine j_goto (tgt := 15) x dL_line_9 (by decide) ?_
  refine j_iconst (v := 0) x dL_line_15 (by decide) ?_
  exact j_ireturn x hr dL_line_16 (by omega) (by omega) ⟨rfl, rfl⟩
theorem H_line_t1 {d mc ms : Nat} {b : SBt} {Y : OUt} {M M1 : MM} (hb : 104 ≤ b.2.1) {u0 : Int32} (hcon : CM d mc ms yX5_line cX5_line 2 (some .int) [.ref 0, .int u0] b Y M (.inr "java/lang/IndexOutOfBoundsException") M1) : CMH (d + 1) mc ms yL_line cL_line 4 (some .int) [(0, 9, 12, 45)] [.ref 0, .int u0, .ref 102] b Y M 1 Y M1 := by
  refine ConH.of (by decide +kernel) (Nat.le_of_ble_eq_true rfl) rfl fun p l e s m args below meth c D tyc A ad0 x hr htab hname => ?_
  change JJ _ _ _ _ _ _ _ _ _ _ _ _ _ _ _ _ _ 0 [some (.ref 0), some (.int u0), some (.ref 102), none] [] _ 0 0
  refine j_aload_n x dL_line_0 rfl ?_
  refine j_iconst (v := 0) x dL_line_1 (by decide) ?_
  refine j_aload_n x dL_line_2 rfl ?_
  refine j_iload_n x dL_line_3 rfl ?_
  refine j2_callC x hb dL_line_4 m_X5_line hcon wmL_109 jc_9 rfl rfl rfl (Nat.le_of_ble_eq_true rfl) (j_fit_rm (by omega) (by omega) (by omega)) rfl [] ⟨0, 9, 12, 45⟩ [] htab (fun w hw => by cases hw) (by decide) (by decide) wcL_45 wx_IndexOutOfBoundsException rfl (fun a => ?_)
  refine j_astore_nR x dL_line_12 (by decide) rfl ?_
  refine j_iconst (v := 1) x dL_line_13 (by decide) ?_
  exact j_ireturn x hr dL_line_14 (by omega) (by omega) ⟨rfl, rfl⟩
theorem H_character_r {d mc ms : Nat} {b : SBt} {Y : OUt} {M M1 : MM} (hb : 104 ≤ b.2.1) {u0 : Int32} {v : Int32} (hcon : CM d mc ms yX5_character cX5_character 2 (some .char) [.ref 0, .int u0] b Y M (.inl (some (.int v))) M1) : CMH (d + 1) mc ms yL_character cL_character 4 (some .int) [(0, 9, 12, 45)] [.ref 0, .int u0, .ref 102] b Y M 0 (ju Y.1 0 v.toInt64, Y.2) M1 := by
  refine ConH.of (by decide +kernel) (Nat.le_of_ble_eq_true rfl) rfl fun p l e s m args below meth c D tyc A ad0 x hr htab hname => ?_
  change JJ _ _ _ _ _ _ _ _ _ _ _ _ _ _ _ _ _ 0 [some (.ref 0), some (.int u0), some (.ref 102), none] [] _ 0 0
  refine j_aload_n x dL_character_0 rfl ?_
  refine j_iconst (v := 0) x dL_character_1 (by decide) ?_
  refine j_aload_n x dL_character_2 rfl ?_
  refine j_iload_n x dL_character_3 rfl ?_
  refine j2_callVi x hb dL_character_4 m_X5_character hcon wmL_112 jc_9 rfl rfl rfl (Nat.le_of_ble_eq_true rfl) (j_fit_rm (by omega) (by omega) (by omega)) rfl ?_
  refine j_i2l x dL_character_7 ?_
  refine j2_last x hb dL_character_8 ?_
  refine j_goto (tgt := 15) x dL_character_9 (by decide) ?_
  refine j_iconst (v := 0) x dL_character_15 (by decide) ?_
  exact j_ireturn x hr dL_character_16 (by omega) (by omega) ⟨rfl, rfl⟩
theorem H_character_t1 {d mc ms : Nat} {b : SBt} {Y : OUt} {M M1 : MM} (hb : 104 ≤ b.2.1) {u0 : Int32} (hcon : CM d mc ms yX5_character cX5_character 2 (some .char) [.ref 0, .int u0] b Y M (.inr "java/lang/IndexOutOfBoundsException") M1) : CMH (d + 1) mc ms yL_character cL_character 4 (some .int) [(0, 9, 12, 45)] [.ref 0, .int u0, .ref 102] b Y M 1 Y M1 := by
  refine ConH.of (by decide +kernel) (Nat.le_of_ble_eq_true rfl) rfl fun p l e s m args below meth c D tyc A ad0 x hr htab hname => ?_
  change JJ _ _ _ _ _ _ _ _ _ _ _ _ _ _ _ _ _ 0 [some (.ref 0), some (.int u0), some (.ref 102), none] [] _ 0 0
  refine j_aload_n x dL_character_0 rfl ?_
  refine j_iconst (v := 0) x dL_character_1 (by decide) ?_
  refine j_aload_n x dL_character_2 rfl ?_
  refine j_iload_n x dL_character_3 rfl ?_
  refine j2_callC x hb dL_character_4 m_X5_character hcon wmL_112 jc_9 rfl rfl rfl (Nat.le_of_ble_eq_true rfl) (j_fit_rm (by omega) (by omega) (by omega)) rfl [] ⟨0, 9, 12, 45⟩ [] htab (fun w hw => by cases hw) (by decide) (by decide) wcL_45 wx_IndexOutOfBoundsException rfl (fun a => ?_)
  refine j_astore_nR x dL_character_12 (by decide) rfl ?_
  refine j_iconst (v := 1) x dL_character_13 (by decide) ?_
  exact j_ireturn x hr dL_character_14 (by omega) (by omega) ⟨rfl, rfl⟩
theorem H_meanGoals_t1 {d mc ms : Nat} {b : SBt} {Y : OUt} {M M1 : MM} (hb : 104 ≤ b.2.1) (hcon : CM d mc ms yX5_meanGoals cX5_meanGoals 1 (some .float) [.ref 0] b Y M (.inr "java/lang/ArithmeticException") M1) : CMH (d + 1) mc ms yL_meanGoals cL_meanGoals 3 (some .int) [(0, 8, 11, 120)] [.ref 0, .ref 103] b Y M 1 Y M1 := by
  refine ConH.of (by decide +kernel) (Nat.le_of_ble_eq_true rfl) rfl fun p l e s m args below meth c D tyc A ad0 x hr htab hname => ?_
  change JJ _ _ _ _ _ _ _ _ _ _ _ _ _ _ _ _ _ 0 [some (.ref 0), some (.ref 103), none] [] _ 0 0
  refine j_aload_n x dL_meanGoals_0 rfl ?_
  refine j_iconst (v := 0) x dL_meanGoals_1 (by decide) ?_
  refine j_aload_n x dL_meanGoals_2 rfl ?_
  refine j2_callC x hb dL_meanGoals_3 m_X5_meanGoals hcon wmL_116 jc_9 rfl rfl rfl (Nat.le_of_ble_eq_true rfl) (j_fit_rm (by omega) (by omega) (by omega)) rfl [] ⟨0, 8, 11, 120⟩ [] htab (fun w hw => by cases hw) (by decide) (by decide) wcL_120 wx_ArithmeticException rfl (fun a => ?_)
  refine j_astore_nR x dL_meanGoals_11 (by decide) rfl ?_
  refine j_iconst (v := 1) x dL_meanGoals_12 (by decide) ?_
  exact j_ireturn x hr dL_meanGoals_13 (by omega) (by omega) ⟨rfl, rfl⟩
theorem H_homeShare_t1 {d mc ms : Nat} {b : SBt} {Y : OUt} {M M1 : MM} (hb : 104 ≤ b.2.1) (hcon : CM d mc ms yX5_homeShare cX5_homeShare 1 (some .double) [.ref 0] b Y M (.inr "java/lang/ArithmeticException") M1) : CMH (d + 1) mc ms yL_homeShare cL_homeShare 3 (some .int) [(0, 7, 10, 120)] [.ref 0, .ref 103] b Y M 1 Y M1 := by
  refine ConH.of (by decide +kernel) (Nat.le_of_ble_eq_true rfl) rfl fun p l e s m args below meth c D tyc A ad0 x hr htab hname => ?_
  change JJ _ _ _ _ _ _ _ _ _ _ _ _ _ _ _ _ _ 0 [some (.ref 0), some (.ref 103), none] [] _ 0 0
  refine j_aload_n x dL_homeShare_0 rfl ?_
  refine j_iconst (v := 0) x dL_homeShare_1 (by decide) ?_
  refine j_aload_n x dL_homeShare_2 rfl ?_
  refine j2_callC x hb dL_homeShare_3 m_X5_homeShare hcon wmL_122 jc_9 rfl rfl rfl (Nat.le_of_ble_eq_true rfl) (j_fit_rm (by omega) (by omega) (by omega)) rfl [] ⟨0, 7, 10, 120⟩ [] htab (fun w hw => by cases hw) (by decide) (by decide) wcL_120 wx_ArithmeticException rfl (fun a => ?_)
  refine j_astore_nR x dL_homeShare_10 (by decide) rfl ?_
  refine j_iconst (v := 1) x dL_homeShare_11 (by decide) ?_
  exact j_ireturn x hr dL_homeShare_12 (by omega) (by omega) ⟨rfl, rfl⟩
theorem H_account_r {d mc ms : Nat} {b : SBt} {Y : OUt} {M M1 : MM} (hb : 104 ≤ b.2.1) {u0 : Int32} {v : Int32} (hcon : CM d mc ms yX5_account cX5_account 2 (some .int) [.ref 0, .int u0] b Y M (.inl (some (.int v))) M1) : CMH (d + 1) mc ms yL_account cL_account 4 (some .int) [(0, 9, 12, 47)] [.ref 0, .int u0, .ref 102] b Y M 0 (ju Y.1 0 v.toInt64, Y.2) M1 := by
  refine ConH.of (by decide +kernel) (Nat.le_of_ble_eq_true rfl) rfl fun p l e s m args below meth c D tyc A ad0 x hr htab hname => ?_
  change JJ _ _ _ _ _ _ _ _ _ _ _ _ _ _ _ _ _ 0 [some (.ref 0), some (.int u0), some (.ref 102), none] [] _ 0 0
  refine j_aload_n x dL_account_0 rfl ?_
  refine j_iconst (v := 0) x dL_account_1 (by decide) ?_
  refine j_aload_n x dL_account_2 rfl ?_
  refine j_iload_n x dL_account_3 rfl ?_
  refine j2_callVi x hb dL_account_4 m_X5_account hcon wmL_126 jc_9 rfl rfl rfl (Nat.le_of_ble_eq_true rfl) (j_fit_rm (by omega) (by omega) (by omega)) rfl ?_
  refine j_i2l x dL_account_7 ?_
  refine j2_last x hb dL_account_8 ?_
  refine j_goto (tgt := 15) x dL_account_9 (by decide) ?_
  refine j_iconst (v := 0) x dL_account_15 (by decide) ?_
  exact j_ireturn x hr dL_account_16 (by omega) (by omega) ⟨rfl, rfl⟩
theorem H_account_t1 {d mc ms : Nat} {b : SBt} {Y : OUt} {M M1 : MM} (hb : 104 ≤ b.2.1) {u0 : Int32} (hcon : CM d mc ms yX5_account cX5_account 2 (some .int) [.ref 0, .int u0] b Y M (.inr "java/lang/IllegalArgumentException") M1) : CMH (d + 1) mc ms yL_account cL_account 4 (some .int) [(0, 9, 12, 47)] [.ref 0, .int u0, .ref 102] b Y M 1 Y M1 := by
  refine ConH.of (by decide +kernel) (Nat.le_of_ble_eq_true rfl) rfl fun p l e s m args below meth c D tyc A ad0 x hr htab hname => ?_
  change JJ _ _ _ _ _ _ _ _ _ _ _ _ _ _ _ _ _ 0 [some (.ref 0), some (.int u0), some (.ref 102), none] [] _ 0 0
  refine j_aload_n x dL_account_0 rfl ?_
  refine j_iconst (v := 0) x dL_account_1 (by decide) ?_
  refine j_aload_n x dL_account_2 rfl ?_
  refine j_iload_n x dL_account_3 rfl ?_
  refine j2_callC x hb dL_account_4 m_X5_account hcon wmL_126 jc_9 rfl rfl rfl (Nat.le_of_ble_eq_true rfl) (j_fit_rm (by omega) (by omega) (by omega)) rfl [] ⟨0, 9, 12, 47⟩ [] htab (fun w hw => by cases hw) (by decide) (by decide) wcL_47 wx_IllegalArgumentException rfl (fun a => ?_)
  refine j_astore_nR x dL_account_12 (by decide) rfl ?_
  refine j_iconst (v := 1) x dL_account_13 (by decide) ?_
  exact j_ireturn x hr dL_account_14 (by omega) (by omega) ⟨rfl, rfl⟩
theorem H_undo_r {d mc ms : Nat} {b : SBt} {Y : OUt} {M M1 : MM} (hb : 104 ≤ b.2.1) {v : Int32} (hcon : CM d mc ms yX5_undo cX5_undo 1 (some .int) [.ref 0] b Y M (.inl (some (.int v))) M1) : CMH (d + 1) mc ms yL_undo cL_undo 3 (some .int) [(0, 8, 11, 101)] [.ref 0, .ref 102] b Y M 0 (ju Y.1 0 v.toInt64, Y.2) M1 := by
  refine ConH.of (by decide +kernel) (Nat.le_of_ble_eq_true rfl) rfl fun p l e s m args below meth c D tyc A ad0 x hr htab hname => ?_
  change JJ _ _ _ _ _ _ _ _ _ _ _ _ _ _ _ _ _ 0 [some (.ref 0), some (.ref 102), none] [] _ 0 0
  refine j_aload_n x dL_undo_0 rfl ?_
  refine j_iconst (v := 0) x dL_undo_1 (by decide) ?_
  refine j_aload_n x dL_undo_2 rfl ?_
  refine j2_callVi x hb dL_undo_3 m_X5_undo hcon wmL_129 jc_9 rfl rfl rfl (Nat.le_of_ble_eq_true rfl) (j_fit_rm (by omega) (by omega) (by omega)) rfl ?_
  refine j_i2l x dL_undo_6 ?_
  refine j2_last x hb dL_undo_7 ?_
  refine j_goto (tgt := 14) x dL_undo_8 (by decide) ?_
  refine j_iconst (v := 0) x dL_undo_14 (by decide) ?_
  exact j_ireturn x hr dL_undo_15 (by omega) (by omega) ⟨rfl, rfl⟩
theorem H_undo_t1 {d mc ms : Nat} {b : SBt} {Y : OUt} {M M1 : MM} (hb : 104 ≤ b.2.1) (hcon : CM d mc ms yX5_undo cX5_undo 1 (some .int) [.ref 0] b Y M (.inr "java/lang/IllegalStateException") M1) : CMH (d + 1) mc ms yL_undo cL_undo 3 (some .int) [(0, 8, 11, 101)] [.ref 0, .ref 102] b Y M 1 Y M1 := by
  refine ConH.of (by decide +kernel) (Nat.le_of_ble_eq_true rfl) rfl fun p l e s m args below meth c D tyc A ad0 x hr htab hname => ?_
  change JJ _ _ _ _ _ _ _ _ _ _ _ _ _ _ _ _ _ 0 [some (.ref 0), some (.ref 102), none] [] _ 0 0
  refine j_aload_n x dL_undo_0 rfl ?_
  refine j_iconst (v := 0) x dL_undo_1 (by decide) ?_
  refine j_aload_n x dL_undo_2 rfl ?_
  refine j2_callC x hb dL_undo_3 m_X5_undo hcon wmL_129 jc_9 rfl rfl rfl (Nat.le_of_ble_eq_true rfl) (j_fit_rm (by omega) (by omega) (by omega)) rfl [] ⟨0, 8, 11, 101⟩ [] htab (fun w hw => by cases hw) (by decide) (by decide) wcL_101 wx_IllegalStateException rfl (fun a => ?_)
  refine j_astore_nR x dL_undo_11 (by decide) rfl ?_
  refine j_iconst (v := 1) x dL_undo_12 (by decide) ?_
  exact j_ireturn x hr dL_undo_13 (by omega) (by omega) ⟨rfl, rfl⟩
theorem H_restore_r {d mc ms : Nat} {b : SBt} {Y : OUt} {M M1 : MM} (hb : 104 ≤ b.2.1) {v : Int32} (hcon : CM d mc ms yX5_restore cX5_restore 1 (some .int) [.ref 0] b Y M (.inl (some (.int v))) M1) : CMH (d + 1) mc ms yL_restore cL_restore 3 (some .int) [(0, 8, 11, 101)] [.ref 0, .ref 102] b Y M 0 (ju Y.1 0 v.toInt64, Y.2) M1 := by
  refine ConH.of (by decide +kernel) (Nat.le_of_ble_eq_true rfl) rfl fun p l e s m args below meth c D tyc A ad0 x hr htab hname => ?_
  change JJ _ _ _ _ _ _ _ _ _ _ _ _ _ _ _ _ _ 0 [some (.ref 0), some (.ref 102), none] [] _ 0 0
  refine j_aload_n x dL_restore_0 rfl ?_
  refine j_iconst (v := 0) x dL_restore_1 (by decide) ?_
  refine j_aload_n x dL_restore_2 rfl ?_
  refine j2_callVi x hb dL_restore_3 m_X5_restore hcon wmL_132 jc_9 rfl rfl rfl (Nat.le_of_ble_eq_true rfl) (j_fit_rm (by omega) (by omega) (by omega)) rfl ?_
  refine j_i2l x dL_restore_6 ?_
  refine j2_last x hb dL_restore_7 ?_
  refine j_goto (tgt := 14) x dL_restore_8 (by decide) ?_
  refine j_iconst (v := 0) x dL_restore_14 (by decide) ?_
  exact j_ireturn x hr dL_restore_15 (by omega) (by omega) ⟨rfl, rfl⟩
theorem H_restore_t1 {d mc ms : Nat} {b : SBt} {Y : OUt} {M M1 : MM} (hb : 104 ≤ b.2.1) (hcon : CM d mc ms yX5_restore cX5_restore 1 (some .int) [.ref 0] b Y M (.inr "java/lang/IllegalStateException") M1) : CMH (d + 1) mc ms yL_restore cL_restore 3 (some .int) [(0, 8, 11, 101)] [.ref 0, .ref 102] b Y M 1 Y M1 := by
  refine ConH.of (by decide +kernel) (Nat.le_of_ble_eq_true rfl) rfl fun p l e s m args below meth c D tyc A ad0 x hr htab hname => ?_
  change JJ _ _ _ _ _ _ _ _ _ _ _ _ _ _ _ _ _ 0 [some (.ref 0), some (.ref 102), none] [] _ 0 0
  refine j_aload_n x dL_restore_0 rfl ?_
  refine j_iconst (v := 0) x dL_restore_1 (by decide) ?_
  refine j_aload_n x dL_restore_2 rfl ?_
  refine j2_callC x hb dL_restore_3 m_X5_restore hcon wmL_132 jc_9 rfl rfl rfl (Nat.le_of_ble_eq_true rfl) (j_fit_rm (by omega) (by omega) (by omega)) rfl [] ⟨0, 8, 11, 101⟩ [] htab (fun w hw => by cases hw) (by decide) (by decide) wcL_101 wx_IllegalStateException rfl (fun a => ?_)
  refine j_astore_nR x dL_restore_11 (by decide) rfl ?_
  refine j_iconst (v := 1) x dL_restore_12 (by decide) ?_
  exact j_ireturn x hr dL_restore_13 (by omega) (by omega) ⟨rfl, rfl⟩
