/-! ===== the law's own methods: what the call answers, or -1001, -1002 for what it throws ===== -/
abbrev CMW (d mc ms : Nat) (y : MethodName) (cc : ByteArray) (maxL : Nat) (ret : Option FieldType) (hh : List (Nat × Nat × Nat × Nat)) (as : List Value) (b : SBt) (Y : OUt) (M : MM) (v : Value) (M1 : MM) : Prop := ConH d mc ms y cc maxL ret hh as (HH b Y M) (fun o k => o = .inl (some v) ∧ k = HH b Y M1)
theorem H_team_r {d mc ms : Nat} {b : SBt} {Y : OUt} {M M1 : MM} (hb : 94 ≤ b.2.1) {u0 : Int32} {v : Int32} (hcon : CM d mc ms yX5_team cX5_team 2 (some .int) [.ref 0, .int u0] b Y M (.inl (some (.int v))) M1) : CMH (d + 1) mc ms yL_team cL_team 3 (some .int) [(0, 5, 6, 13)] [.ref 0, .int u0] b Y M (v) Y M1 := by
  refine ConH.of (by decide +kernel) (Nat.le_of_ble_eq_true rfl) rfl fun p l e s m args below meth c D tyc A ad0 x hr htab hname => ?_
  change JJ _ _ _ _ _ _ _ _ _ _ _ _ _ _ _ _ _ 0 [some (.ref 0), some (.int u0), none] [] _ 0 0
  refine j_aload_n x dL_team_0 rfl ?_
  refine j_iload_n x dL_team_1 rfl ?_
  refine j2_callVi x hb dL_team_2 m_X5_team hcon wmL_7 jc_9 rfl rfl rfl (Nat.le_of_ble_eq_true rfl) (j_fit_rm (by omega) (by omega) (by omega)) rfl ?_
  exact j_ireturn x hr dL_team_5 (by omega) (by omega) ⟨rfl, rfl⟩
theorem H_team_t1 {d mc ms : Nat} {b : SBt} {Y : OUt} {M M1 : MM} (hb : 94 ≤ b.2.1) {u0 : Int32} (hcon : CM d mc ms yX5_team cX5_team 2 (some .int) [.ref 0, .int u0] b Y M (.inr "java/lang/UnsupportedOperationException") M1) : CMH (d + 1) mc ms yL_team cL_team 3 (some .int) [(0, 5, 6, 13)] [.ref 0, .int u0] b Y M (-1001) Y M1 := by
  refine ConH.of (by decide +kernel) (Nat.le_of_ble_eq_true rfl) rfl fun p l e s m args below meth c D tyc A ad0 x hr htab hname => ?_
  change JJ _ _ _ _ _ _ _ _ _ _ _ _ _ _ _ _ _ 0 [some (.ref 0), some (.int u0), none] [] _ 0 0
  refine j_aload_n x dL_team_0 rfl ?_
  refine j_iload_n x dL_team_1 rfl ?_
  refine j2_callC x hb dL_team_2 m_X5_team hcon wmL_7 jc_9 rfl rfl rfl (Nat.le_of_ble_eq_true rfl) (j_fit_rm (by omega) (by omega) (by omega)) rfl [] ⟨0, 5, 6, 13⟩ [] htab (fun w hw => by cases hw) (by decide) (by decide) wcL_13 wx_UnsupportedOperationException rfl (fun a => ?_)
  refine j_astore_nR x dL_team_6 (by decide) rfl ?_
  refine j_sipush (v := (-1001)) x dL_team_7 (by decide) ?_
  exact j_ireturn x hr dL_team_10 (by omega) (by omega) ⟨rfl, rfl⟩
theorem H_ground_r {d mc ms : Nat} {b : SBt} {Y : OUt} {M M1 : MM} (hb : 94 ≤ b.2.1) {u0 u1 : Int32} {v : Int32} (hcon : CM d mc ms yX5_ground cX5_ground 4 (some .int) [.ref 0, .int u0, .int u1] b Y M (.inl (some (.int v))) M1) : CMH (d + 1) mc ms yL_ground cL_ground 4 (some .int) [(0, 6, 7, 13)] [.ref 0, .int u0, .int u1] b Y M (v) Y M1 := by
  refine ConH.of (by decide +kernel) (Nat.le_of_ble_eq_true rfl) rfl fun p l e s m args below meth c D tyc A ad0 x hr htab hname => ?_
  change JJ _ _ _ _ _ _ _ _ _ _ _ _ _ _ _ _ _ 0 [some (.ref 0), some (.int u0), some (.int u1), none] [] _ 0 0
  refine j_aload_n x dL_ground_0 rfl ?_
  refine j_iload_n x dL_ground_1 rfl ?_
  refine j_iload_n x dL_ground_2 rfl ?_
  refine j2_callVi x hb dL_ground_3 m_X5_ground hcon wmL_15 jc_9 rfl rfl rfl (Nat.le_of_ble_eq_true rfl) (j_fit_rm (by omega) (by omega) (by omega)) rfl ?_
  exact j_ireturn x hr dL_ground_6 (by omega) (by omega) ⟨rfl, rfl⟩
theorem H_ground_t1 {d mc ms : Nat} {b : SBt} {Y : OUt} {M M1 : MM} (hb : 94 ≤ b.2.1) {u0 u1 : Int32} (hcon : CM d mc ms yX5_ground cX5_ground 4 (some .int) [.ref 0, .int u0, .int u1] b Y M (.inr "java/lang/UnsupportedOperationException") M1) : CMH (d + 1) mc ms yL_ground cL_ground 4 (some .int) [(0, 6, 7, 13)] [.ref 0, .int u0, .int u1] b Y M (-1001) Y M1 := by
  refine ConH.of (by decide +kernel) (Nat.le_of_ble_eq_true rfl) rfl fun p l e s m args below meth c D tyc A ad0 x hr htab hname => ?_
  change JJ _ _ _ _ _ _ _ _ _ _ _ _ _ _ _ _ _ 0 [some (.ref 0), some (.int u0), some (.int u1), none] [] _ 0 0
  refine j_aload_n x dL_ground_0 rfl ?_
  refine j_iload_n x dL_ground_1 rfl ?_
  refine j_iload_n x dL_ground_2 rfl ?_
  refine j2_callC x hb dL_ground_3 m_X5_ground hcon wmL_15 jc_9 rfl rfl rfl (Nat.le_of_ble_eq_true rfl) (j_fit_rm (by omega) (by omega) (by omega)) rfl [] ⟨0, 6, 7, 13⟩ [] htab (fun w hw => by cases hw) (by decide) (by decide) wcL_13 wx_UnsupportedOperationException rfl (fun a => ?_)
  refine j_astore_nR x dL_ground_7 (by decide) rfl ?_
  refine j_sipush (v := (-1001)) x dL_ground_8 (by decide) ?_
  exact j_ireturn x hr dL_ground_11 (by omega) (by omega) ⟨rfl, rfl⟩
theorem H_draw_r {d mc ms : Nat} {b : SBt} {Y : OUt} {M M1 : MM} (hb : 94 ≤ b.2.1) {v : Int32} (hcon : CM d mc ms yX5_draw cX5_draw 1 (some .int) [.ref 0] b Y M (.inl (some (.int v))) M1) : CMH (d + 1) mc ms yL_draw cL_draw 2 (some .int) [(0, 4, 5, 13)] [.ref 0] b Y M (v) Y M1 := by
  refine ConH.of (by decide +kernel) (Nat.le_of_ble_eq_true rfl) rfl fun p l e s m args below meth c D tyc A ad0 x hr htab hname => ?_
  change JJ _ _ _ _ _ _ _ _ _ _ _ _ _ _ _ _ _ 0 [some (.ref 0), none] [] _ 0 0
  refine j_aload_n x dL_draw_0 rfl ?_
  refine j2_callVi x hb dL_draw_1 m_X5_draw hcon wmL_19 jc_9 rfl rfl rfl (Nat.le_of_ble_eq_true rfl) (j_fit_rm (by omega) (by omega) (by omega)) rfl ?_
  exact j_ireturn x hr dL_draw_4 (by omega) (by omega) ⟨rfl, rfl⟩
theorem H_draw_t1 {d mc ms : Nat} {b : SBt} {Y : OUt} {M M1 : MM} (hb : 94 ≤ b.2.1) (hcon : CM d mc ms yX5_draw cX5_draw 1 (some .int) [.ref 0] b Y M (.inr "java/lang/UnsupportedOperationException") M1) : CMH (d + 1) mc ms yL_draw cL_draw 2 (some .int) [(0, 4, 5, 13)] [.ref 0] b Y M (-1001) Y M1 := by
  refine ConH.of (by decide +kernel) (Nat.le_of_ble_eq_true rfl) rfl fun p l e s m args below meth c D tyc A ad0 x hr htab hname => ?_
  change JJ _ _ _ _ _ _ _ _ _ _ _ _ _ _ _ _ _ 0 [some (.ref 0), none] [] _ 0 0
  refine j_aload_n x dL_draw_0 rfl ?_
  refine j2_callC x hb dL_draw_1 m_X5_draw hcon wmL_19 jc_9 rfl rfl rfl (Nat.le_of_ble_eq_true rfl) (j_fit_rm (by omega) (by omega) (by omega)) rfl [] ⟨0, 4, 5, 13⟩ [] htab (fun w hw => by cases hw) (by decide) (by decide) wcL_13 wx_UnsupportedOperationException rfl (fun a => ?_)
  refine j_astore_nR x dL_draw_5 (by decide) rfl ?_
  refine j_sipush (v := (-1001)) x dL_draw_6 (by decide) ?_
  exact j_ireturn x hr dL_draw_9 (by omega) (by omega) ⟨rfl, rfl⟩
theorem H_rules_r {d mc ms : Nat} {b : SBt} {Y : OUt} {M M1 : MM} (hb : 94 ≤ b.2.1) {u0 u1 u2 : Int32} {v : Int32} (hcon : CM d mc ms yX5_rules cX5_rules 4 (some .int) [.ref 0, .int u0, .int u1, .int u2] b Y M (.inl (some (.int v))) M1) : CMH (d + 1) mc ms yL_rules cL_rules 5 (some .int) [(0, 7, 8, 13)] [.ref 0, .int u0, .int u1, .int u2] b Y M (v) Y M1 := by
  refine ConH.of (by decide +kernel) (Nat.le_of_ble_eq_true rfl) rfl fun p l e s m args below meth c D tyc A ad0 x hr htab hname => ?_
  change JJ _ _ _ _ _ _ _ _ _ _ _ _ _ _ _ _ _ 0 [some (.ref 0), some (.int u0), some (.int u1), some (.int u2), none] [] _ 0 0
  refine j_aload_n x dL_rules_0 rfl ?_
  refine j_iload_n x dL_rules_1 rfl ?_
  refine j_iload_n x dL_rules_2 rfl ?_
  refine j_iload_n x dL_rules_3 rfl ?_
  refine j2_callVi x hb dL_rules_4 m_X5_rules hcon wmL_26 jc_9 rfl rfl rfl (Nat.le_of_ble_eq_true rfl) (j_fit_rm (by omega) (by omega) (by omega)) rfl ?_
  exact j_ireturn x hr dL_rules_7 (by omega) (by omega) ⟨rfl, rfl⟩
theorem H_rules_t1 {d mc ms : Nat} {b : SBt} {Y : OUt} {M M1 : MM} (hb : 94 ≤ b.2.1) {u0 u1 u2 : Int32} (hcon : CM d mc ms yX5_rules cX5_rules 4 (some .int) [.ref 0, .int u0, .int u1, .int u2] b Y M (.inr "java/lang/UnsupportedOperationException") M1) : CMH (d + 1) mc ms yL_rules cL_rules 5 (some .int) [(0, 7, 8, 13)] [.ref 0, .int u0, .int u1, .int u2] b Y M (-1001) Y M1 := by
  refine ConH.of (by decide +kernel) (Nat.le_of_ble_eq_true rfl) rfl fun p l e s m args below meth c D tyc A ad0 x hr htab hname => ?_
  change JJ _ _ _ _ _ _ _ _ _ _ _ _ _ _ _ _ _ 0 [some (.ref 0), some (.int u0), some (.int u1), some (.int u2), none] [] _ 0 0
  refine j_aload_n x dL_rules_0 rfl ?_
  refine j_iload_n x dL_rules_1 rfl ?_
  refine j_iload_n x dL_rules_2 rfl ?_
  refine j_iload_n x dL_rules_3 rfl ?_
  refine j2_callC x hb dL_rules_4 m_X5_rules hcon wmL_26 jc_9 rfl rfl rfl (Nat.le_of_ble_eq_true rfl) (j_fit_rm (by omega) (by omega) (by omega)) rfl [] ⟨0, 7, 8, 13⟩ [] htab (fun w hw => by cases hw) (by decide) (by decide) wcL_13 wx_UnsupportedOperationException rfl (fun a => ?_)
  refine j_astoreR x dL_rules_8 (by decide) rfl ?_
  refine j_sipush (v := (-1001)) x dL_rules_10 (by decide) ?_
  exact j_ireturn x hr dL_rules_13 (by omega) (by omega) ⟨rfl, rfl⟩
theorem H_result_r {d mc ms : Nat} {b : SBt} {Y : OUt} {M M1 : MM} (hb : 94 ≤ b.2.1) {u0 u1 u2 : Int32} {v : Int32} (hcon : CM d mc ms yX5_result cX5_result 4 (some .int) [.ref 0, .int u0, .int u1, .int u2] b Y M (.inl (some (.int v))) M1) : CMH (d + 1) mc ms yL_result cL_result 5 (some .int) [(0, 7, 8, 13)] [.ref 0, .int u0, .int u1, .int u2] b Y M (v) Y M1 := by
  refine ConH.of (by decide +kernel) (Nat.le_of_ble_eq_true rfl) rfl fun p l e s m args below meth c D tyc A ad0 x hr htab hname => ?_
  change JJ _ _ _ _ _ _ _ _ _ _ _ _ _ _ _ _ _ 0 [some (.ref 0), some (.int u0), some (.int u1), some (.int u2), none] [] _ 0 0
  refine j_aload_n x dL_result_0 rfl ?_
  refine j_iload_n x dL_result_1 rfl ?_
  refine j_iload_n x dL_result_2 rfl ?_
  refine j_iload_n x dL_result_3 rfl ?_
  refine j2_callVi x hb dL_result_4 m_X5_result hcon wmL_30 jc_9 rfl rfl rfl (Nat.le_of_ble_eq_true rfl) (j_fit_rm (by omega) (by omega) (by omega)) rfl ?_
  exact j_ireturn x hr dL_result_7 (by omega) (by omega) ⟨rfl, rfl⟩
theorem H_result_t1 {d mc ms : Nat} {b : SBt} {Y : OUt} {M M1 : MM} (hb : 94 ≤ b.2.1) {u0 u1 u2 : Int32} (hcon : CM d mc ms yX5_result cX5_result 4 (some .int) [.ref 0, .int u0, .int u1, .int u2] b Y M (.inr "java/lang/UnsupportedOperationException") M1) : CMH (d + 1) mc ms yL_result cL_result 5 (some .int) [(0, 7, 8, 13)] [.ref 0, .int u0, .int u1, .int u2] b Y M (-1001) Y M1 := by
  refine ConH.of (by decide +kernel) (Nat.le_of_ble_eq_true rfl) rfl fun p l e s m args below meth c D tyc A ad0 x hr htab hname => ?_
  change JJ _ _ _ _ _ _ _ _ _ _ _ _ _ _ _ _ _ 0 [some (.ref 0), some (.int u0), some (.int u1), some (.int u2), none] [] _ 0 0
  refine j_aload_n x dL_result_0 rfl ?_
  refine j_iload_n x dL_result_1 rfl ?_
  refine j_iload_n x dL_result_2 rfl ?_
  refine j_iload_n x dL_result_3 rfl ?_
  refine j2_callC x hb dL_result_4 m_X5_result hcon wmL_30 jc_9 rfl rfl rfl (Nat.le_of_ble_eq_true rfl) (j_fit_rm (by omega) (by omega) (by omega)) rfl [] ⟨0, 7, 8, 13⟩ [] htab (fun w hw => by cases hw) (by decide) (by decide) wcL_13 wx_UnsupportedOperationException rfl (fun a => ?_)
  refine j_astoreR x dL_result_8 (by decide) rfl ?_
  refine j_sipush (v := (-1001)) x dL_result_10 (by decide) ?_
  exact j_ireturn x hr dL_result_13 (by omega) (by omega) ⟨rfl, rfl⟩
theorem H_putOff_r {d mc ms : Nat} {b : SBt} {Y : OUt} {M M1 : MM} (hb : 94 ≤ b.2.1) {u0 u1 : Int32} {v : Int32} (hcon : CM d mc ms yX5_putOff cX5_putOff 4 (some .int) [.ref 0, .int u0, .int u1] b Y M (.inl (some (.int v))) M1) : CMH (d + 1) mc ms yL_putOff cL_putOff 4 (some .int) [(0, 6, 7, 13)] [.ref 0, .int u0, .int u1] b Y M (v) Y M1 := by
  refine ConH.of (by decide +kernel) (Nat.le_of_ble_eq_true rfl) rfl fun p l e s m args below meth c D tyc A ad0 x hr htab hname => ?_
  change JJ _ _ _ _ _ _ _ _ _ _ _ _ _ _ _ _ _ 0 [some (.ref 0), some (.int u0), some (.int u1), none] [] _ 0 0
  refine j_aload_n x dL_putOff_0 rfl ?_
  refine j_iload_n x dL_putOff_1 rfl ?_
  refine j_iload_n x dL_putOff_2 rfl ?_
  refine j2_callVi x hb dL_putOff_3 m_X5_putOff hcon wmL_36 jc_9 rfl rfl rfl (Nat.le_of_ble_eq_true rfl) (j_fit_rm (by omega) (by omega) (by omega)) rfl ?_
  exact j_ireturn x hr dL_putOff_6 (by omega) (by omega) ⟨rfl, rfl⟩
theorem H_putOff_t1 {d mc ms : Nat} {b : SBt} {Y : OUt} {M M1 : MM} (hb : 94 ≤ b.2.1) {u0 u1 : Int32} (hcon : CM d mc ms yX5_putOff cX5_putOff 4 (some .int) [.ref 0, .int u0, .int u1] b Y M (.inr "java/lang/UnsupportedOperationException") M1) : CMH (d + 1) mc ms yL_putOff cL_putOff 4 (some .int) [(0, 6, 7, 13)] [.ref 0, .int u0, .int u1] b Y M (-1001) Y M1 := by
  refine ConH.of (by decide +kernel) (Nat.le_of_ble_eq_true rfl) rfl fun p l e s m args below meth c D tyc A ad0 x hr htab hname => ?_
  change JJ _ _ _ _ _ _ _ _ _ _ _ _ _ _ _ _ _ 0 [some (.ref 0), some (.int u0), some (.int u1), none] [] _ 0 0
  refine j_aload_n x dL_putOff_0 rfl ?_
  refine j_iload_n x dL_putOff_1 rfl ?_
  refine j_iload_n x dL_putOff_2 rfl ?_
  refine j2_callC x hb dL_putOff_3 m_X5_putOff hcon wmL_36 jc_9 rfl rfl rfl (Nat.le_of_ble_eq_true rfl) (j_fit_rm (by omega) (by omega) (by omega)) rfl [] ⟨0, 6, 7, 13⟩ [] htab (fun w hw => by cases hw) (by decide) (by decide) wcL_13 wx_UnsupportedOperationException rfl (fun a => ?_)
  refine j_astore_nR x dL_putOff_7 (by decide) rfl ?_
  refine j_sipush (v := (-1001)) x dL_putOff_8 (by decide) ?_
  exact j_ireturn x hr dL_putOff_11 (by omega) (by omega) ⟨rfl, rfl⟩
theorem H_next_r {d mc ms : Nat} {b : SBt} {Y : OUt} {M M1 : MM} (hb : 94 ≤ b.2.1) {v : Int32} (hcon : CM d mc ms yX5_next cX5_next 1 (some .int) [.ref 0] b Y M (.inl (some (.int v))) M1) : CMH (d + 1) mc ms yL_next cL_next 2 (some .int) [(0, 4, 5, 13)] [.ref 0] b Y M (v) Y M1 := by
  refine ConH.of (by decide +kernel) (Nat.le_of_ble_eq_true rfl) rfl fun p l e s m args below meth c D tyc A ad0 x hr htab hname => ?_
  change JJ _ _ _ _ _ _ _ _ _ _ _ _ _ _ _ _ _ 0 [some (.ref 0), none] [] _ 0 0
  refine j_aload_n x dL_next_0 rfl ?_
  refine j2_callVi x hb dL_next_1 m_X5_next hcon wmL_39 jc_9 rfl rfl rfl (Nat.le_of_ble_eq_true rfl) (j_fit_rm (by omega) (by omega) (by omega)) rfl ?_
  exact j_ireturn x hr dL_next_4 (by omega) (by omega) ⟨rfl, rfl⟩
theorem H_next_t1 {d mc ms : Nat} {b : SBt} {Y : OUt} {M M1 : MM} (hb : 94 ≤ b.2.1) (hcon : CM d mc ms yX5_next cX5_next 1 (some .int) [.ref 0] b Y M (.inr "java/lang/UnsupportedOperationException") M1) : CMH (d + 1) mc ms yL_next cL_next 2 (some .int) [(0, 4, 5, 13)] [.ref 0] b Y M (-1001) Y M1 := by
  refine ConH.of (by decide +kernel) (Nat.le_of_ble_eq_true rfl) rfl fun p l e s m args below meth c D tyc A ad0 x hr htab hname => ?_
  change JJ _ _ _ _ _ _ _ _ _ _ _ _ _ _ _ _ _ 0 [some (.ref 0), none] [] _ 0 0
  refine j_aload_n x dL_next_0 rfl ?_
  refine j2_callC x hb dL_next_1 m_X5_next hcon wmL_39 jc_9 rfl rfl rfl (Nat.le_of_ble_eq_true rfl) (j_fit_rm (by omega) (by omega) (by omega)) rfl [] ⟨0, 4, 5, 13⟩ [] htab (fun w hw => by cases hw) (by decide) (by decide) wcL_13 wx_UnsupportedOperationException rfl (fun a => ?_)
  refine j_astore_nR x dL_next_5 (by decide) rfl ?_
  refine j_sipush (v := (-1001)) x dL_next_6 (by decide) ?_
  exact j_ireturn x hr dL_next_9 (by omega) (by omega) ⟨rfl, rfl⟩
theorem H_meetingOf_r {d mc ms : Nat} {b : SBt} {Y : OUt} {M M1 : MM} (hb : 94 ≤ b.2.1) {u0 u1 : Int32} {v : Int32} (hcon : CM d mc ms yX5_meetingOf cX5_meetingOf 3 (some .int) [.ref 0, .int u0, .int u1] b Y M (.inl (some (.int v))) M1) : CMH (d + 1) mc ms yL_meetingOf cL_meetingOf 4 (some .int) [(0, 6, 7, 45), (0, 6, 12, 47)] [.ref 0, .int u0, .int u1] b Y M (v) Y M1 := by
  refine ConH.of (by decide +kernel) (Nat.le_of_ble_eq_true rfl) rfl fun p l e s m args below meth c D tyc A ad0 x hr htab hname => ?_
  change JJ _ _ _ _ _ _ _ _ _ _ _ _ _ _ _ _ _ 0 [some (.ref 0), some (.int u0), some (.int u1), none] [] _ 0 0
  refine j_aload_n x dL_meetingOf_0 rfl ?_
  refine j_iload_n x dL_meetingOf_1 rfl ?_
  refine j_iload_n x dL_meetingOf_2 rfl ?_
  refine j2_callVi x hb dL_meetingOf_3 m_X5_meetingOf hcon wmL_52 jc_9 rfl rfl rfl (Nat.le_of_ble_eq_true rfl) (j_fit_rm (by omega) (by omega) (by omega)) rfl ?_
  exact j_ireturn x hr dL_meetingOf_6 (by omega) (by omega) ⟨rfl, rfl⟩
theorem H_meetingOf_t1 {d mc ms : Nat} {b : SBt} {Y : OUt} {M M1 : MM} (hb : 94 ≤ b.2.1) {u0 u1 : Int32} (hcon : CM d mc ms yX5_meetingOf cX5_meetingOf 3 (some .int) [.ref 0, .int u0, .int u1] b Y M (.inr "java/lang/IndexOutOfBoundsException") M1) : CMH (d + 1) mc ms yL_meetingOf cL_meetingOf 4 (some .int) [(0, 6, 7, 45), (0, 6, 12, 47)] [.ref 0, .int u0, .int u1] b Y M (-1001) Y M1 := by
  refine ConH.of (by decide +kernel) (Nat.le_of_ble_eq_true rfl) rfl fun p l e s m args below meth c D tyc A ad0 x hr htab hname => ?_
  change JJ _ _ _ _ _ _ _ _ _ _ _ _ _ _ _ _ _ 0 [some (.ref 0), some (.int u0), some (.int u1), none] [] _ 0 0
  refine j_aload_n x dL_meetingOf_0 rfl ?_
  refine j_iload_n x dL_meetingOf_1 rfl ?_
  refine j_iload_n x dL_meetingOf_2 rfl ?_
  refine j2_callC x hb dL_meetingOf_3 m_X5_meetingOf hcon wmL_52 jc_9 rfl rfl rfl (Nat.le_of_ble_eq_true rfl) (j_fit_rm (by omega) (by omega) (by omega)) rfl [] ⟨0, 6, 7, 45⟩ [⟨0, 6, 12, 47⟩] htab (fun w hw => by cases hw) (by decide) (by decide) wcL_45 wx_IndexOutOfBoundsException rfl (fun a => ?_)
  refine j_astore_nR x dL_meetingOf_7 (by decide) rfl ?_
  refine j_sipush (v := (-1001)) x dL_meetingOf_8 (by decide) ?_
  exact j_ireturn x hr dL_meetingOf_11 (by omega) (by omega) ⟨rfl, rfl⟩
theorem H_meetingOf_t2 {d mc ms : Nat} {b : SBt} {Y : OUt} {M M1 : MM} (hb : 94 ≤ b.2.1) {u0 u1 : Int32} (hcon : CM d mc ms yX5_meetingOf cX5_meetingOf 3 (some .int) [.ref 0, .int u0, .int u1] b Y M (.inr "java/lang/IllegalArgumentException") M1) : CMH (d + 1) mc ms yL_meetingOf cL_meetingOf 4 (some .int) [(0, 6, 7, 45), (0, 6, 12, 47)] [.ref 0, .int u0, .int u1] b Y M (-1002) Y M1 := by
  refine ConH.of (by decide +kernel) (Nat.le_of_ble_eq_true rfl) rfl fun p l e s m args below meth c D tyc A ad0 x hr htab hname => ?_
  change JJ _ _ _ _ _ _ _ _ _ _ _ _ _ _ _ _ _ 0 [some (.ref 0), some (.int u0), some (.int u1), none] [] _ 0 0
  refine j_aload_n x dL_meetingOf_0 rfl ?_
  refine j_iload_n x dL_meetingOf_1 rfl ?_
  refine j_iload_n x dL_meetingOf_2 rfl ?_
  refine j2_callC x hb dL_meetingOf_3 m_X5_meetingOf hcon wmL_52 jc_9 rfl rfl rfl (Nat.le_of_ble_eq_true rfl) (j_fit_rm (by omega) (by omega) (by omega)) rfl [⟨0, 6, 7, 45⟩] ⟨0, 6, 12, 47⟩ [] htab (fun w hw => by rcases List.mem_cons.mp hw with rfl | hw <;> first | exact Or.inr ⟨by decide, _, wcL_45, by decide +kernel⟩ | cases hw) (by decide) (by decide) wcL_47 wx_IllegalArgumentException rfl (fun a => ?_)
  refine j_astore_nR x dL_meetingOf_12 (by decide) rfl ?_
  refine j_sipush (v := (-1002)) x dL_meetingOf_13 (by decide) ?_
  exact j_ireturn x hr dL_meetingOf_16 (by omega) (by omega) ⟨rfl, rfl⟩
theorem H_byeIn_r {d mc ms : Nat} {b : SBt} {Y : OUt} {M M1 : MM} (hb : 94 ≤ b.2.1) {u0 : Int32} {v : Int32} (hcon : CM d mc ms yX5_byeIn cX5_byeIn 3 (some .int) [.ref 0, .int u0] b Y M (.inl (some (.int v))) M1) : CMH (d + 1) mc ms yL_byeIn cL_byeIn 3 (some .int) [(0, 5, 6, 45), (0, 5, 11, 58)] [.ref 0, .int u0] b Y M (v) Y M1 := by
  refine ConH.of (by decide +kernel) (Nat.le_of_ble_eq_true rfl) rfl fun p l e s m args below meth c D tyc A ad0 x hr htab hname => ?_
  change JJ _ _ _ _ _ _ _ _ _ _ _ _ _ _ _ _ _ 0 [some (.ref 0), some (.int u0), none] [] _ 0 0
  refine j_aload_n x dL_byeIn_0 rfl ?_
  refine j_iload_n x dL_byeIn_1 rfl ?_
  refine j2_callVi x hb dL_byeIn_2 m_X5_byeIn hcon wmL_60 jc_9 rfl rfl rfl (Nat.le_of_ble_eq_true rfl) (j_fit_rm (by omega) (by omega) (by omega)) rfl ?_
  exact j_ireturn x hr dL_byeIn_5 (by omega) (by omega) ⟨rfl, rfl⟩
theorem H_byeIn_t1 {d mc ms : Nat} {b : SBt} {Y : OUt} {M M1 : MM} (hb : 94 ≤ b.2.1) {u0 : Int32} (hcon : CM d mc ms yX5_byeIn cX5_byeIn 3 (some .int) [.ref 0, .int u0] b Y M (.inr "java/lang/IndexOutOfBoundsException") M1) : CMH (d + 1) mc ms yL_byeIn cL_byeIn 3 (some .int) [(0, 5, 6, 45), (0, 5, 11, 58)] [.ref 0, .int u0] b Y M (-1001) Y M1 := by
  refine ConH.of (by decide +kernel) (Nat.le_of_ble_eq_true rfl) rfl fun p l e s m args below meth c D tyc A ad0 x hr htab hname => ?_
  change JJ _ _ _ _ _ _ _ _ _ _ _ _ _ _ _ _ _ 0 [some (.ref 0), some (.int u0), none] [] _ 0 0
  refine j_aload_n x dL_byeIn_0 rfl ?_
  refine j_iload_n x dL_byeIn_1 rfl ?_
  refine j2_callC x hb dL_byeIn_2 m_X5_byeIn hcon wmL_60 jc_9 rfl rfl rfl (Nat.le_of_ble_eq_true rfl) (j_fit_rm (by omega) (by omega) (by omega)) rfl [] ⟨0, 5, 6, 45⟩ [⟨0, 5, 11, 58⟩] htab (fun w hw => by cases hw) (by decide) (by decide) wcL_45 wx_IndexOutOfBoundsException rfl (fun a => ?_)
  refine j_astore_nR x dL_byeIn_6 (by decide) rfl ?_
  refine j_sipush (v := (-1001)) x dL_byeIn_7 (by decide) ?_
  exact j_ireturn x hr dL_byeIn_10 (by omega) (by omega) ⟨rfl, rfl⟩
theorem H_byeIn_t2 {d mc ms : Nat} {b : SBt} {Y : OUt} {M M1 : MM} (hb : 94 ≤ b.2.1) {u0 : Int32} (hcon : CM d mc ms yX5_byeIn cX5_byeIn 3 (some .int) [.ref 0, .int u0] b Y M (.inr "java/util/NoSuchElementException") M1) : CMH (d + 1) mc ms yL_byeIn cL_byeIn 3 (some .int) [(0, 5, 6, 45), (0, 5, 11, 58)] [.ref 0, .int u0] b Y M (-1002) Y M1 := by
  refine ConH.of (by decide +kernel) (Nat.le_of_ble_eq_true rfl) rfl fun p l e s m args below meth c D tyc A ad0 x hr htab hname => ?_
  change JJ _ _ _ _ _ _ _ _ _ _ _ _ _ _ _ _ _ 0 [some (.ref 0), some (.int u0), none] [] _ 0 0
  refine j_aload_n x dL_byeIn_0 rfl ?_
  refine j_iload_n x dL_byeIn_1 rfl ?_
  refine j2_callC x hb dL_byeIn_2 m_X5_byeIn hcon wmL_60 jc_9 rfl rfl rfl (Nat.le_of_ble_eq_true rfl) (j_fit_rm (by omega) (by omega) (by omega)) rfl [⟨0, 5, 6, 45⟩] ⟨0, 5, 11, 58⟩ [] htab (fun w hw => by rcases List.mem_cons.mp hw with rfl | hw <;> first | exact Or.inr ⟨by decide, _, wcL_45, by decide +kernel⟩ | cases hw) (by decide) (by decide) wcL_58 wx_NoSuchElementException rfl (fun a => ?_)
  refine j_astore_nR x dL_byeIn_11 (by decide) rfl ?_
  refine j_sipush (v := (-1002)) x dL_byeIn_12 (by decide) ?_
  exact j_ireturn x hr dL_byeIn_15 (by omega) (by omega) ⟨rfl, rfl⟩
theorem H_meetingsIn_r {d mc ms : Nat} {b : SBt} {Y : OUt} {M M1 : MM} (hb : 94 ≤ b.2.1) {u0 : Int32} {v : Int32} (hcon : CM d mc ms yX5_meetingsIn cX5_meetingsIn 4 (some .int) [.ref 0, .int u0] b Y M (.inl (some (.int v))) M1) : CMH (d + 1) mc ms yL_meetingsIn cL_meetingsIn 3 (some .int) [(0, 5, 6, 45)] [.ref 0, .int u0] b Y M (v) Y M1 := by
  refine ConH.of (by decide +kernel) (Nat.le_of_ble_eq_true rfl) rfl fun p l e s m args below meth c D tyc A ad0 x hr htab hname => ?_
  change JJ _ _ _ _ _ _ _ _ _ _ _ _ _ _ _ _ _ 0 [some (.ref 0), some (.int u0), none] [] _ 0 0
  refine j_aload_n x dL_meetingsIn_0 rfl ?_
  refine j_iload_n x dL_meetingsIn_1 rfl ?_
  refine j2_callVi x hb dL_meetingsIn_2 m_X5_meetingsIn hcon wmL_63 jc_9 rfl rfl rfl (Nat.le_of_ble_eq_true rfl) (j_fit_rm (by omega) (by omega) (by omega)) rfl ?_
  exact j_ireturn x hr dL_meetingsIn_5 (by omega) (by omega) ⟨rfl, rfl⟩
theorem H_meetingsIn_t1 {d mc ms : Nat} {b : SBt} {Y : OUt} {M M1 : MM} (hb : 94 ≤ b.2.1) {u0 : Int32} (hcon : CM d mc ms yX5_meetingsIn cX5_meetingsIn 4 (some .int) [.ref 0, .int u0] b Y M (.inr "java/lang/IndexOutOfBoundsException") M1) : CMH (d + 1) mc ms yL_meetingsIn cL_meetingsIn 3 (some .int) [(0, 5, 6, 45)] [.ref 0, .int u0] b Y M (-1001) Y M1 := by
  refine ConH.of (by decide +kernel) (Nat.le_of_ble_eq_true rfl) rfl fun p l e s m args below meth c D tyc A ad0 x hr htab hname => ?_
  change JJ _ _ _ _ _ _ _ _ _ _ _ _ _ _ _ _ _ 0 [some (.ref 0), some (.int u0), none] [] _ 0 0
  refine j_aload_n x dL_meetingsIn_0 rfl ?_
  refine j_iload_n x dL_meetingsIn_1 rfl ?_
  refine j2_callC x hb dL_meetingsIn_2 m_X5_meetingsIn hcon wmL_63 jc_9 rfl rfl rfl (Nat.le_of_ble_eq_true rfl) (j_fit_rm (by omega) (by omega) (by omega)) rfl [] ⟨0, 5, 6, 45⟩ [] htab (fun w hw => by cases hw) (by decide) (by decide) wcL_45 wx_IndexOutOfBoundsException rfl (fun a => ?_)
  refine j_astore_nR x dL_meetingsIn_6 (by decide) rfl ?_
  refine j_sipush (v := (-1001)) x dL_meetingsIn_7 (by decide) ?_
  exact j_ireturn x hr dL_meetingsIn_10 (by omega) (by omega) ⟨rfl, rfl⟩
theorem H_clashes_r {d mc ms : Nat} {b : SBt} {Y : OUt} {M M1 : MM} (hb : 94 ≤ b.2.1) {u0 : Int32} {v : Int32} (hcon : CM d mc ms yX5_clashes cX5_clashes 2 (some .int) [.ref 0, .int u0] b Y M (.inl (some (.int v))) M1) : CMH (d + 1) mc ms yL_clashes cL_clashes 3 (some .int) [(0, 5, 6, 45)] [.ref 0, .int u0] b Y M (v) Y M1 := by
  refine ConH.of (by decide +kernel) (Nat.le_of_ble_eq_true rfl) rfl fun p l e s m args below meth c D tyc A ad0 x hr htab hname => ?_
  change JJ _ _ _ _ _ _ _ _ _ _ _ _ _ _ _ _ _ 0 [some (.ref 0), some (.int u0), none] [] _ 0 0
  refine j_aload_n x dL_clashes_0 rfl ?_
  refine j_iload_n x dL_clashes_1 rfl ?_
  refine j2_callVi x hb dL_clashes_2 m_X5_clashes hcon wmL_66 jc_9 rfl rfl rfl (Nat.le_of_ble_eq_true rfl) (j_fit_rm (by omega) (by omega) (by omega)) rfl ?_
  exact j_ireturn x hr dL_clashes_5 (by omega) (by omega) ⟨rfl, rfl⟩
theorem H_clashes_t1 {d mc ms : Nat} {b : SBt} {Y : OUt} {M M1 : MM} (hb : 94 ≤ b.2.1) {u0 : Int32} (hcon : CM d mc ms yX5_clashes cX5_clashes 2 (some .int) [.ref 0, .int u0] b Y M (.inr "java/lang/IndexOutOfBoundsException") M1) : CMH (d + 1) mc ms yL_clashes cL_clashes 3 (some .int) [(0, 5, 6, 45)] [.ref 0, .int u0] b Y M (-1001) Y M1 := by
  refine ConH.of (by decide +kernel) (Nat.le_of_ble_eq_true rfl) rfl fun p l e s m args below meth c D tyc A ad0 x hr htab hname => ?_
  change JJ _ _ _ _ _ _ _ _ _ _ _ _ _ _ _ _ _ 0 [some (.ref 0), some (.int u0), none] [] _ 0 0
  refine j_aload_n x dL_clashes_0 rfl ?_
  refine j_iload_n x dL_clashes_1 rfl ?_
  refine j2_callC x hb dL_clashes_2 m_X5_clashes hcon wmL_66 jc_9 rfl rfl rfl (Nat.le_of_ble_eq_true rfl) (j_fit_rm (by omega) (by omega) (by omega)) rfl [] ⟨0, 5, 6, 45⟩ [] htab (fun w hw => by cases hw) (by decide) (by decide) wcL_45 wx_IndexOutOfBoundsException rfl (fun a => ?_)
  refine j_astore_nR x dL_clashes_6 (by decide) rfl ?_
  refine j_sipush (v := (-1001)) x dL_clashes_7 (by decide) ?_
  exact j_ireturn x hr dL_clashes_10 (by omega) (by omega) ⟨rfl, rfl⟩
theorem H_freeWeek_r {d mc ms : Nat} {b : SBt} {Y : OUt} {M M1 : MM} (hb : 94 ≤ b.2.1) {u0 : Int32} {v : Int32} (hcon : CM d mc ms yX5_freeWeek cX5_freeWeek 3 (some .int) [.ref 0, .int u0] b Y M (.inl (some (.int v))) M1) : CMH (d + 1) mc ms yL_freeWeek cL_freeWeek 3 (some .int) [(0, 5, 6, 45), (0, 5, 11, 58)] [.ref 0, .int u0] b Y M (v) Y M1 := by
  refine ConH.of (by decide +kernel) (Nat.le_of_ble_eq_true rfl) rfl fun p l e s m args below meth c D tyc A ad0 x hr htab hname => ?_
  change JJ _ _ _ _ _ _ _ _ _ _ _ _ _ _ _ _ _ 0 [some (.ref 0), some (.int u0), none] [] _ 0 0
  refine j_aload_n x dL_freeWeek_0 rfl ?_
  refine j_iload_n x dL_freeWeek_1 rfl ?_
  refine j2_callVi x hb dL_freeWeek_2 m_X5_freeWeek hcon wmL_69 jc_9 rfl rfl rfl (Nat.le_of_ble_eq_true rfl) (j_fit_rm (by omega) (by omega) (by omega)) rfl ?_
  exact j_ireturn x hr dL_freeWeek_5 (by omega) (by omega) ⟨rfl, rfl⟩
theorem H_freeWeek_t1 {d mc ms : Nat} {b : SBt} {Y : OUt} {M M1 : MM} (hb : 94 ≤ b.2.1) {u0 : Int32} (hcon : CM d mc ms yX5_freeWeek cX5_freeWeek 3 (some .int) [.ref 0, .int u0] b Y M (.inr "java/lang/IndexOutOfBoundsException") M1) : CMH (d + 1) mc ms yL_freeWeek cL_freeWeek 3 (some .int) [(0, 5, 6, 45), (0, 5, 11, 58)] [.ref 0, .int u0] b Y M (-1001) Y M1 := by
  refine ConH.of (by decide +kernel) (Nat.le_of_ble_eq_true rfl) rfl fun p l e s m args below meth c D tyc A ad0 x hr htab hname => ?_
  change JJ _ _ _ _ _ _ _ _ _ _ _ _ _ _ _ _ _ 0 [some (.ref 0), some (.int u0), none] [] _ 0 0
  refine j_aload_n x dL_freeWeek_0 rfl ?_
  refine j_iload_n x dL_freeWeek_1 rfl ?_
  refine j2_callC x hb dL_freeWeek_2 m_X5_freeWeek hcon wmL_69 jc_9 rfl rfl rfl (Nat.le_of_ble_eq_true rfl) (j_fit_rm (by omega) (by omega) (by omega)) rfl [] ⟨0, 5, 6, 45⟩ [⟨0, 5, 11, 58⟩] htab (fun w hw => by cases hw) (by decide) (by decide) wcL_45 wx_IndexOutOfBoundsException rfl (fun a => ?_)
  refine j_astore_nR x dL_freeWeek_6 (by decide) rfl ?_
  refine j_sipush (v := (-1001)) x dL_freeWeek_7 (by decide) ?_
  exact j_ireturn x hr dL_freeWeek_10 (by omega) (by omega) ⟨rfl, rfl⟩
theorem H_freeWeek_t2 {d mc ms : Nat} {b : SBt} {Y : OUt} {M M1 : MM} (hb : 94 ≤ b.2.1) {u0 : Int32} (hcon : CM d mc ms yX5_freeWeek cX5_freeWeek 3 (some .int) [.ref 0, .int u0] b Y M (.inr "java/util/NoSuchElementException") M1) : CMH (d + 1) mc ms yL_freeWeek cL_freeWeek 3 (some .int) [(0, 5, 6, 45), (0, 5, 11, 58)] [.ref 0, .int u0] b Y M (-1002) Y M1 := by
  refine ConH.of (by decide +kernel) (Nat.le_of_ble_eq_true rfl) rfl fun p l e s m args below meth c D tyc A ad0 x hr htab hname => ?_
  change JJ _ _ _ _ _ _ _ _ _ _ _ _ _ _ _ _ _ 0 [some (.ref 0), some (.int u0), none] [] _ 0 0
  refine j_aload_n x dL_freeWeek_0 rfl ?_
  refine j_iload_n x dL_freeWeek_1 rfl ?_
  refine j2_callC x hb dL_freeWeek_2 m_X5_freeWeek hcon wmL_69 jc_9 rfl rfl rfl (Nat.le_of_ble_eq_true rfl) (j_fit_rm (by omega) (by omega) (by omega)) rfl [⟨0, 5, 6, 45⟩] ⟨0, 5, 11, 58⟩ [] htab (fun w hw => by rcases List.mem_cons.mp hw with rfl | hw <;> first | exact Or.inr ⟨by decide, _, wcL_45, by decide +kernel⟩ | cases hw) (by decide) (by decide) wcL_58 wx_NoSuchElementException rfl (fun a => ?_)
  refine j_astore_nR x dL_freeWeek_11 (by decide) rfl ?_
  refine j_sipush (v := (-1002)) x dL_freeWeek_12 (by decide) ?_
  exact j_ireturn x hr dL_freeWeek_15 (by omega) (by omega) ⟨rfl, rfl⟩
theorem H_append_r {d mc ms : Nat} {b : SBt} {Y : OUt} {M M1 : MM} (hb : 94 ≤ b.2.1) {u0 : Int32} {v : Int32} (hcon : CM d mc ms yX5_append cX5_append 2 (some .int) [.ref 0, .int u0] b Y M (.inl (some (.int v))) M1) : CMH (d + 1) mc ms yL_append cL_append 3 (some .int) [(0, 5, 6, 101)] [.ref 0, .int u0] b Y M (v) Y M1 := by
  refine ConH.of (by decide +kernel) (Nat.le_of_ble_eq_true rfl) rfl fun p l e s m args below meth c D tyc A ad0 x hr htab hname => ?_
  change JJ _ _ _ _ _ _ _ _ _ _ _ _ _ _ _ _ _ 0 [some (.ref 0), some (.int u0), none] [] _ 0 0
  refine j_aload_n x dL_append_0 rfl ?_
  refine j_iload_n x dL_append_1 rfl ?_
  refine j2_callVi x hb dL_append_2 m_X5_append hcon wmL_97 jc_9 rfl rfl rfl (Nat.le_of_ble_eq_true rfl) (j_fit_rm (by omega) (by omega) (by omega)) rfl ?_
  exact j_ireturn x hr dL_append_5 (by omega) (by omega) ⟨rfl, rfl⟩
theorem H_append_t1 {d mc ms : Nat} {b : SBt} {Y : OUt} {M M1 : MM} (hb : 94 ≤ b.2.1) {u0 : Int32} (hcon : CM d mc ms yX5_append cX5_append 2 (some .int) [.ref 0, .int u0] b Y M (.inr "java/lang/IllegalStateException") M1) : CMH (d + 1) mc ms yL_append cL_append 3 (some .int) [(0, 5, 6, 101)] [.ref 0, .int u0] b Y M (-1001) Y M1 := by
  refine ConH.of (by decide +kernel) (Nat.le_of_ble_eq_true rfl) rfl fun p l e s m args below meth c D tyc A ad0 x hr htab hname => ?_
  change JJ _ _ _ _ _ _ _ _ _ _ _ _ _ _ _ _ _ 0 [some (.ref 0), some (.int u0), none] [] _ 0 0
  refine j_aload_n x dL_append_0 rfl ?_
  refine j_iload_n x dL_append_1 rfl ?_
  refine j2_callC x hb dL_append_2 m_X5_append hcon wmL_97 jc_9 rfl rfl rfl (Nat.le_of_ble_eq_true rfl) (j_fit_rm (by omega) (by omega) (by omega)) rfl [] ⟨0, 5, 6, 101⟩ [] htab (fun w hw => by cases hw) (by decide) (by decide) wcL_101 wx_IllegalStateException rfl (fun a => ?_)
  refine j_astore_nR x dL_append_6 (by decide) rfl ?_
  refine j_sipush (v := (-1001)) x dL_append_7 (by decide) ?_
  exact j_ireturn x hr dL_append_10 (by omega) (by omega) ⟨rfl, rfl⟩
theorem H_commands_r {d mc ms : Nat} {b : SBt} {Y : OUt} {M M1 : MM} (hb : 94 ≤ b.2.1) {v : Int32} (hcon : CM d mc ms yX5_commands cX5_commands 2 (some .int) [.ref 0] b Y M (.inl (some (.int v))) M1) : CMH (d + 1) mc ms yL_commands cL_commands 2 (some .int) [(0, 4, 5, 47), (0, 4, 10, 13)] [.ref 0] b Y M (v) Y M1 := by
  refine ConH.of (by decide +kernel) (Nat.le_of_ble_eq_true rfl) rfl fun p l e s m args below meth c D tyc A ad0 x hr htab hname => ?_
  change JJ _ _ _ _ _ _ _ _ _ _ _ _ _ _ _ _ _ 0 [some (.ref 0), none] [] _ 0 0
  refine j_aload_n x dL_commands_0 rfl ?_
  refine j2_callVi x hb dL_commands_1 m_X5_commands hcon wmL_103 jc_9 rfl rfl rfl (Nat.le_of_ble_eq_true rfl) (j_fit_rm (by omega) (by omega) (by omega)) rfl ?_
  exact j_ireturn x hr dL_commands_4 (by omega) (by omega) ⟨rfl, rfl⟩
theorem H_commands_t1 {d mc ms : Nat} {b : SBt} {Y : OUt} {M M1 : MM} (hb : 94 ≤ b.2.1) (hcon : CM d mc ms yX5_commands cX5_commands 2 (some .int) [.ref 0] b Y M (.inr "java/lang/IllegalArgumentException") M1) : CMH (d + 1) mc ms yL_commands cL_commands 2 (some .int) [(0, 4, 5, 47), (0, 4, 10, 13)] [.ref 0] b Y M (-1001) Y M1 := by
  refine ConH.of (by decide +kernel) (Nat.le_of_ble_eq_true rfl) rfl fun p l e s m args below meth c D tyc A ad0 x hr htab hname => ?_
  change JJ _ _ _ _ _ _ _ _ _ _ _ _ _ _ _ _ _ 0 [some (.ref 0), none] [] _ 0 0
  refine j_aload_n x dL_commands_0 rfl ?_
  refine j2_callC x hb dL_commands_1 m_X5_commands hcon wmL_103 jc_9 rfl rfl rfl (Nat.le_of_ble_eq_true rfl) (j_fit_rm (by omega) (by omega) (by omega)) rfl [] ⟨0, 4, 5, 47⟩ [⟨0, 4, 10, 13⟩] htab (fun w hw => by cases hw) (by decide) (by decide) wcL_47 wx_IllegalArgumentException rfl (fun a => ?_)
  refine j_astore_nR x dL_commands_5 (by decide) rfl ?_
  refine j_sipush (v := (-1001)) x dL_commands_6 (by decide) ?_
  exact j_ireturn x hr dL_commands_9 (by omega) (by omega) ⟨rfl, rfl⟩
theorem H_commands_t2 {d mc ms : Nat} {b : SBt} {Y : OUt} {M M1 : MM} (hb : 94 ≤ b.2.1) (hcon : CM d mc ms yX5_commands cX5_commands 2 (some .int) [.ref 0] b Y M (.inr "java/lang/UnsupportedOperationException") M1) : CMH (d + 1) mc ms yL_commands cL_commands 2 (some .int) [(0, 4, 5, 47), (0, 4, 10, 13)] [.ref 0] b Y M (-1002) Y M1 := by
  refine ConH.of (by decide +kernel) (Nat.le_of_ble_eq_true rfl) rfl fun p l e s m args below meth c D tyc A ad0 x hr htab hname => ?_
  change JJ _ _ _ _ _ _ _ _ _ _ _ _ _ _ _ _ _ 0 [some (.ref 0), none] [] _ 0 0
  refine j_aload_n x dL_commands_0 rfl ?_
  refine j2_callC x hb dL_commands_1 m_X5_commands hcon wmL_103 jc_9 rfl rfl rfl (Nat.le_of_ble_eq_true rfl) (j_fit_rm (by omega) (by omega) (by omega)) rfl [⟨0, 4, 5, 47⟩] ⟨0, 4, 10, 13⟩ [] htab (fun w hw => by rcases List.mem_cons.mp hw with rfl | hw <;> first | exact Or.inr ⟨by decide, _, wcL_47, by decide +kernel⟩ | cases hw) (by decide) (by decide) wcL_13 wx_UnsupportedOperationException rfl (fun a => ?_)
  refine j_astore_nR x dL_commands_10 (by decide) rfl ?_
  refine j_sipush (v := (-1002)) x dL_commands_11 (by decide) ?_
  exact j_ireturn x hr dL_commands_14 (by omega) (by omega) ⟨rfl, rfl⟩
theorem H_account_r {d mc ms : Nat} {b : SBt} {Y : OUt} {M M1 : MM} (hb : 94 ≤ b.2.1) {u0 : Int32} {v : Int32} (hcon : CM d mc ms yX5_account cX5_account 2 (some .int) [.ref 0, .int u0] b Y M (.inl (some (.int v))) M1) : CMH (d + 1) mc ms yL_account cL_account 3 (some .int) [(0, 5, 6, 47)] [.ref 0, .int u0] b Y M (v) Y M1 := by
  refine ConH.of (by decide +kernel) (Nat.le_of_ble_eq_true rfl) rfl fun p l e s m args below meth c D tyc A ad0 x hr htab hname => ?_
  change JJ _ _ _ _ _ _ _ _ _ _ _ _ _ _ _ _ _ 0 [some (.ref 0), some (.int u0), none] [] _ 0 0
  refine j_aload_n x dL_account_0 rfl ?_
  refine j_iload_n x dL_account_1 rfl ?_
  refine j2_callVi x hb dL_account_2 m_X5_account hcon wmL_129 jc_9 rfl rfl rfl (Nat.le_of_ble_eq_true rfl) (j_fit_rm (by omega) (by omega) (by omega)) rfl ?_
  exact j_ireturn x hr dL_account_5 (by omega) (by omega) ⟨rfl, rfl⟩
theorem H_account_t1 {d mc ms : Nat} {b : SBt} {Y : OUt} {M M1 : MM} (hb : 94 ≤ b.2.1) {u0 : Int32} (hcon : CM d mc ms yX5_account cX5_account 2 (some .int) [.ref 0, .int u0] b Y M (.inr "java/lang/IllegalArgumentException") M1) : CMH (d + 1) mc ms yL_account cL_account 3 (some .int) [(0, 5, 6, 47)] [.ref 0, .int u0] b Y M (-1001) Y M1 := by
  refine ConH.of (by decide +kernel) (Nat.le_of_ble_eq_true rfl) rfl fun p l e s m args below meth c D tyc A ad0 x hr htab hname => ?_
  change JJ _ _ _ _ _ _ _ _ _ _ _ _ _ _ _ _ _ 0 [some (.ref 0), some (.int u0), none] [] _ 0 0
  refine j_aload_n x dL_account_0 rfl ?_
  refine j_iload_n x dL_account_1 rfl ?_
  refine j2_callC x hb dL_account_2 m_X5_account hcon wmL_129 jc_9 rfl rfl rfl (Nat.le_of_ble_eq_true rfl) (j_fit_rm (by omega) (by omega) (by omega)) rfl [] ⟨0, 5, 6, 47⟩ [] htab (fun w hw => by cases hw) (by decide) (by decide) wcL_47 wx_IllegalArgumentException rfl (fun a => ?_)
  refine j_astore_nR x dL_account_6 (by decide) rfl ?_
  refine j_sipush (v := (-1001)) x dL_account_7 (by decide) ?_
  exact j_ireturn x hr dL_account_10 (by omega) (by omega) ⟨rfl, rfl⟩
theorem H_undo_r {d mc ms : Nat} {b : SBt} {Y : OUt} {M M1 : MM} (hb : 94 ≤ b.2.1) {v : Int32} (hcon : CM d mc ms yX5_undo cX5_undo 1 (some .int) [.ref 0] b Y M (.inl (some (.int v))) M1) : CMH (d + 1) mc ms yL_undo cL_undo 2 (some .int) [(0, 4, 5, 101)] [.ref 0] b Y M (v) Y M1 := by
  refine ConH.of (by decide +kernel) (Nat.le_of_ble_eq_true rfl) rfl fun p l e s m args below meth c D tyc A ad0 x hr htab hname => ?_
  change JJ _ _ _ _ _ _ _ _ _ _ _ _ _ _ _ _ _ 0 [some (.ref 0), none] [] _ 0 0
  refine j_aload_n x dL_undo_0 rfl ?_
  refine j2_callVi x hb dL_undo_1 m_X5_undo hcon wmL_132 jc_9 rfl rfl rfl (Nat.le_of_ble_eq_true rfl) (j_fit_rm (by omega) (by omega) (by omega)) rfl ?_
  exact j_ireturn x hr dL_undo_4 (by omega) (by omega) ⟨rfl, rfl⟩
theorem H_undo_t1 {d mc ms : Nat} {b : SBt} {Y : OUt} {M M1 : MM} (hb : 94 ≤ b.2.1) (hcon : CM d mc ms yX5_undo cX5_undo 1 (some .int) [.ref 0] b Y M (.inr "java/lang/IllegalStateException") M1) : CMH (d + 1) mc ms yL_undo cL_undo 2 (some .int) [(0, 4, 5, 101)] [.ref 0] b Y M (-1001) Y M1 := by
  refine ConH.of (by decide +kernel) (Nat.le_of_ble_eq_true rfl) rfl fun p l e s m args below meth c D tyc A ad0 x hr htab hname => ?_
  change JJ _ _ _ _ _ _ _ _ _ _ _ _ _ _ _ _ _ 0 [some (.ref 0), none] [] _ 0 0
  refine j_aload_n x dL_undo_0 rfl ?_
  refine j2_callC x hb dL_undo_1 m_X5_undo hcon wmL_132 jc_9 rfl rfl rfl (Nat.le_of_ble_eq_true rfl) (j_fit_rm (by omega) (by omega) (by omega)) rfl [] ⟨0, 4, 5, 101⟩ [] htab (fun w hw => by cases hw) (by decide) (by decide) wcL_101 wx_IllegalStateException rfl (fun a => ?_)
  refine j_astore_nR x dL_undo_5 (by decide) rfl ?_
  refine j_sipush (v := (-1001)) x dL_undo_6 (by decide) ?_
  exact j_ireturn x hr dL_undo_9 (by omega) (by omega) ⟨rfl, rfl⟩
theorem H_restore_r {d mc ms : Nat} {b : SBt} {Y : OUt} {M M1 : MM} (hb : 94 ≤ b.2.1) {v : Int32} (hcon : CM d mc ms yX5_restore cX5_restore 1 (some .int) [.ref 0] b Y M (.inl (some (.int v))) M1) : CMH (d + 1) mc ms yL_restore cL_restore 2 (some .int) [(0, 4, 5, 101)] [.ref 0] b Y M (v) Y M1 := by
  refine ConH.of (by decide +kernel) (Nat.le_of_ble_eq_true rfl) rfl fun p l e s m args below meth c D tyc A ad0 x hr htab hname => ?_
  change JJ _ _ _ _ _ _ _ _ _ _ _ _ _ _ _ _ _ 0 [some (.ref 0), none] [] _ 0 0
  refine j_aload_n x dL_restore_0 rfl ?_
  refine j2_callVi x hb dL_restore_1 m_X5_restore hcon wmL_135 jc_9 rfl rfl rfl (Nat.le_of_ble_eq_true rfl) (j_fit_rm (by omega) (by omega) (by omega)) rfl ?_
  exact j_ireturn x hr dL_restore_4 (by omega) (by omega) ⟨rfl, rfl⟩
theorem H_restore_t1 {d mc ms : Nat} {b : SBt} {Y : OUt} {M M1 : MM} (hb : 94 ≤ b.2.1) (hcon : CM d mc ms yX5_restore cX5_restore 1 (some .int) [.ref 0] b Y M (.inr "java/lang/IllegalStateException") M1) : CMH (d + 1) mc ms yL_restore cL_restore 2 (some .int) [(0, 4, 5, 101)] [.ref 0] b Y M (-1001) Y M1 := by
  refine ConH.of (by decide +kernel) (Nat.le_of_ble_eq_true rfl) rfl fun p l e s m args below meth c D tyc A ad0 x hr htab hname => ?_
  change JJ _ _ _ _ _ _ _ _ _ _ _ _ _ _ _ _ _ 0 [some (.ref 0), none] [] _ 0 0
  refine j_aload_n x dL_restore_0 rfl ?_
  refine j2_callC x hb dL_restore_1 m_X5_restore hcon wmL_135 jc_9 rfl rfl rfl (Nat.le_of_ble_eq_true rfl) (j_fit_rm (by omega) (by omega) (by omega)) rfl [] ⟨0, 4, 5, 101⟩ [] htab (fun w hw => by cases hw) (by decide) (by decide) wcL_101 wx_IllegalStateException rfl (fun a => ?_)
  refine j_astore_nR x dL_restore_5 (by decide) rfl ?_
  refine j_sipush (v := (-1001)) x dL_restore_6 (by decide) ?_
  exact j_ireturn x hr dL_restore_9 (by omega) (by omega) ⟨rfl, rfl⟩
theorem H_reason_r {d mc ms : Nat} {b : SBt} {Y : OUt} {M M1 : MM} (hb : 94 ≤ b.2.1) {u0 : Int32} {v : Int32} (hcon : CM d mc ms yX5_reason cX5_reason 2 (some .int) [.ref 0, .int u0] b Y M (.inl (some (.int v))) M1) : CMH (d + 1) mc ms yL_reason cL_reason 3 (some .int) [(0, 5, 6, 47), (0, 5, 11, 58)] [.ref 0, .int u0] b Y M (v) Y M1 := by
  refine ConH.of (by decide +kernel) (Nat.le_of_ble_eq_true rfl) rfl fun p l e s m args below meth c D tyc A ad0 x hr htab hname => ?_
  change JJ _ _ _ _ _ _ _ _ _ _ _ _ _ _ _ _ _ 0 [some (.ref 0), some (.int u0), none] [] _ 0 0
  refine j_aload_n x dL_reason_0 rfl ?_
  refine j_iload_n x dL_reason_1 rfl ?_
  refine j2_callVi x hb dL_reason_2 m_X5_reason hcon wmL_106 jc_9 rfl rfl rfl (Nat.le_of_ble_eq_true rfl) (j_fit_rm (by omega) (by omega) (by omega)) rfl ?_
  exact j_ireturn x hr dL_reason_5 (by omega) (by omega) ⟨rfl, rfl⟩
theorem H_reason_t1 {d mc ms : Nat} {b : SBt} {Y : OUt} {M M1 : MM} (hb : 94 ≤ b.2.1) {u0 : Int32} (hcon : CM d mc ms yX5_reason cX5_reason 2 (some .int) [.ref 0, .int u0] b Y M (.inr "java/lang/IllegalArgumentException") M1) : CMH (d + 1) mc ms yL_reason cL_reason 3 (some .int) [(0, 5, 6, 47), (0, 5, 11, 58)] [.ref 0, .int u0] b Y M (-1001) Y M1 := by
  refine ConH.of (by decide +kernel) (Nat.le_of_ble_eq_true rfl) rfl fun p l e s m args below meth c D tyc A ad0 x hr htab hname => ?_
  change JJ _ _ _ _ _ _ _ _ _ _ _ _ _ _ _ _ _ 0 [some (.ref 0), some (.int u0), none] [] _ 0 0
  refine j_aload_n x dL_reason_0 rfl ?_
  refine j_iload_n x dL_reason_1 rfl ?_
  refine j2_callC x hb dL_reason_2 m_X5_reason hcon wmL_106 jc_9 rfl rfl rfl (Nat.le_of_ble_eq_true rfl) (j_fit_rm (by omega) (by omega) (by omega)) rfl [] ⟨0, 5, 6, 47⟩ [⟨0, 5, 11, 58⟩] htab (fun w hw => by cases hw) (by decide) (by decide) wcL_47 wx_IllegalArgumentException rfl (fun a => ?_)
  refine j_astore_nR x dL_reason_6 (by decide) rfl ?_
  refine j_sipush (v := (-1001)) x dL_reason_7 (by decide) ?_
  exact j_ireturn x hr dL_reason_10 (by omega) (by omega) ⟨rfl, rfl⟩
theorem H_reason_t2 {d mc ms : Nat} {b : SBt} {Y : OUt} {M M1 : MM} (hb : 94 ≤ b.2.1) {u0 : Int32} (hcon : CM d mc ms yX5_reason cX5_reason 2 (some .int) [.ref 0, .int u0] b Y M (.inr "java/util/NoSuchElementException") M1) : CMH (d + 1) mc ms yL_reason cL_reason 3 (some .int) [(0, 5, 6, 47), (0, 5, 11, 58)] [.ref 0, .int u0] b Y M (-1002) Y M1 := by
  refine ConH.of (by decide +kernel) (Nat.le_of_ble_eq_true rfl) rfl fun p l e s m args below meth c D tyc A ad0 x hr htab hname => ?_
  change JJ _ _ _ _ _ _ _ _ _ _ _ _ _ _ _ _ _ 0 [some (.ref 0), some (.int u0), none] [] _ 0 0
  refine j_aload_n x dL_reason_0 rfl ?_
  refine j_iload_n x dL_reason_1 rfl ?_
  refine j2_callC x hb dL_reason_2 m_X5_reason hcon wmL_106 jc_9 rfl rfl rfl (Nat.le_of_ble_eq_true rfl) (j_fit_rm (by omega) (by omega) (by omega)) rfl [⟨0, 5, 6, 47⟩] ⟨0, 5, 11, 58⟩ [] htab (fun w hw => by rcases List.mem_cons.mp hw with rfl | hw <;> first | exact Or.inr ⟨by decide, _, wcL_47, by decide +kernel⟩ | cases hw) (by decide) (by decide) wcL_58 wx_NoSuchElementException rfl (fun a => ?_)
  refine j_astore_nR x dL_reason_11 (by decide) rfl ?_
  refine j_sipush (v := (-1002)) x dL_reason_12 (by decide) ?_
  exact j_ireturn x hr dL_reason_15 (by omega) (by omega) ⟨rfl, rfl⟩
theorem H_teamOf_r {d mc ms : Nat} {b : SBt} {Y : OUt} {M M1 : MM} (hb : 94 ≤ b.2.1) {u0 u1 : Int32} {v : Int32} (hcon : CM d mc ms yX5_teamOf cX5_teamOf 3 (some .int) [.ref 0, .int u0, .int u1] b Y M (.inl (some (.int v))) M1) : CMH (d + 1) mc ms yL_teamOf cL_teamOf 4 (some .int) [(0, 6, 7, 45), (0, 6, 12, 47)] [.ref 0, .int u0, .int u1] b Y M (v) Y M1 := by
  refine ConH.of (by decide +kernel) (Nat.le_of_ble_eq_true rfl) rfl fun p l e s m args below meth c D tyc A ad0 x hr htab hname => ?_
  change JJ _ _ _ _ _ _ _ _ _ _ _ _ _ _ _ _ _ 0 [some (.ref 0), some (.int u0), some (.int u1), none] [] _ 0 0
  refine j_aload_n x dL_teamOf_0 rfl ?_
  refine j_iload_n x dL_teamOf_1 rfl ?_
  refine j_iload_n x dL_teamOf_2 rfl ?_
  refine j2_callVi x hb dL_teamOf_3 m_X5_teamOf hcon wmL_42 jc_9 rfl rfl rfl (Nat.le_of_ble_eq_true rfl) (j_fit_rm (by omega) (by omega) (by omega)) rfl ?_
  exact j_ireturn x hr dL_teamOf_6 (by omega) (by omega) ⟨rfl, rfl⟩
theorem H_teamOf_t1 {d mc ms : Nat} {b : SBt} {Y : OUt} {M M1 : MM} (hb : 94 ≤ b.2.1) {u0 u1 : Int32} (hcon : CM d mc ms yX5_teamOf cX5_teamOf 3 (some .int) [.ref 0, .int u0, .int u1] b Y M (.inr "java/lang/IndexOutOfBoundsException") M1) : CMH (d + 1) mc ms yL_teamOf cL_teamOf 4 (some .int) [(0, 6, 7, 45), (0, 6, 12, 47)] [.ref 0, .int u0, .int u1] b Y M (-1001) Y M1 := by
  refine ConH.of (by decide +kernel) (Nat.le_of_ble_eq_true rfl) rfl fun p l e s m args below meth c D tyc A ad0 x hr htab hname => ?_
  change JJ _ _ _ _ _ _ _ _ _ _ _ _ _ _ _ _ _ 0 [some (.ref 0), some (.int u0), some (.int u1), none] [] _ 0 0
  refine j_aload_n x dL_teamOf_0 rfl ?_
  refine j_iload_n x dL_teamOf_1 rfl ?_
  refine j_iload_n x dL_teamOf_2 rfl ?_
  refine j2_callC x hb dL_teamOf_3 m_X5_teamOf hcon wmL_42 jc_9 rfl rfl rfl (Nat.le_of_ble_eq_true rfl) (j_fit_rm (by omega) (by omega) (by omega)) rfl [] ⟨0, 6, 7, 45⟩ [⟨0, 6, 12, 47⟩] htab (fun w hw => by cases hw) (by decide) (by decide) wcL_45 wx_IndexOutOfBoundsException rfl (fun a => ?_)
  refine j_astore_nR x dL_teamOf_7 (by decide) rfl ?_
  refine j_sipush (v := (-1001)) x dL_teamOf_8 (by decide) ?_
  exact j_ireturn x hr dL_teamOf_11 (by omega) (by omega) ⟨rfl, rfl⟩
theorem H_teamOf_t2 {d mc ms : Nat} {b : SBt} {Y : OUt} {M M1 : MM} (hb : 94 ≤ b.2.1) {u0 u1 : Int32} (hcon : CM d mc ms yX5_teamOf cX5_teamOf 3 (some .int) [.ref 0, .int u0, .int u1] b Y M (.inr "java/lang/IllegalArgumentException") M1) : CMH (d + 1) mc ms yL_teamOf cL_teamOf 4 (some .int) [(0, 6, 7, 45), (0, 6, 12, 47)] [.ref 0, .int u0, .int u1] b Y M (-1002) Y M1 := by
  refine ConH.of (by decide +kernel) (Nat.le_of_ble_eq_true rfl) rfl fun p l e s m args below meth c D tyc A ad0 x hr htab hname => ?_
  change JJ _ _ _ _ _ _ _ _ _ _ _ _ _ _ _ _ _ 0 [some (.ref 0), some (.int u0), some (.int u1), none] [] _ 0 0
  refine j_aload_n x dL_teamOf_0 rfl ?_
  refine j_iload_n x dL_teamOf_1 rfl ?_
  refine j_iload_n x dL_teamOf_2 rfl ?_
  refine j2_callC x hb dL_teamOf_3 m_X5_teamOf hcon wmL_42 jc_9 rfl rfl rfl (Nat.le_of_ble_eq_true rfl) (j_fit_rm (by omega) (by omega) (by omega)) rfl [⟨0, 6, 7, 45⟩] ⟨0, 6, 12, 47⟩ [] htab (fun w hw => by rcases List.mem_cons.mp hw with rfl | hw <;> first | exact Or.inr ⟨by decide, _, wcL_45, by decide +kernel⟩ | cases hw) (by decide) (by decide) wcL_47 wx_IllegalArgumentException rfl (fun a => ?_)
  refine j_astore_nR x dL_teamOf_12 (by decide) rfl ?_
  refine j_sipush (v := (-1002)) x dL_teamOf_13 (by decide) ?_
  exact j_ireturn x hr dL_teamOf_16 (by omega) (by omega) ⟨rfl, rfl⟩
theorem H_valueOf_r {d mc ms : Nat} {b : SBt} {Y : OUt} {M M1 : MM} (hb : 94 ≤ b.2.1) {u0 u1 : Int32} {v : Int32} (hcon : CM d mc ms yX5_valueOf cX5_valueOf 3 (some .int) [.ref 0, .int u0, .int u1] b Y M (.inl (some (.int v))) M1) : CMH (d + 1) mc ms yL_valueOf cL_valueOf 4 (some .int) [(0, 6, 7, 45), (0, 6, 12, 47)] [.ref 0, .int u0, .int u1] b Y M (v) Y M1 := by
  refine ConH.of (by decide +kernel) (Nat.le_of_ble_eq_true rfl) rfl fun p l e s m args below meth c D tyc A ad0 x hr htab hname => ?_
  change JJ _ _ _ _ _ _ _ _ _ _ _ _ _ _ _ _ _ 0 [some (.ref 0), some (.int u0), some (.int u1), none] [] _ 0 0
  refine j_aload_n x dL_valueOf_0 rfl ?_
  refine j_iload_n x dL_valueOf_1 rfl ?_
  refine j_iload_n x dL_valueOf_2 rfl ?_
  refine j2_callVi x hb dL_valueOf_3 m_X5_valueOf hcon wmL_78 jc_9 rfl rfl rfl (Nat.le_of_ble_eq_true rfl) (j_fit_rm (by omega) (by omega) (by omega)) rfl ?_
  exact j_ireturn x hr dL_valueOf_6 (by omega) (by omega) ⟨rfl, rfl⟩
theorem H_valueOf_t1 {d mc ms : Nat} {b : SBt} {Y : OUt} {M M1 : MM} (hb : 94 ≤ b.2.1) {u0 u1 : Int32} (hcon : CM d mc ms yX5_valueOf cX5_valueOf 3 (some .int) [.ref 0, .int u0, .int u1] b Y M (.inr "java/lang/IndexOutOfBoundsException") M1) : CMH (d + 1) mc ms yL_valueOf cL_valueOf 4 (some .int) [(0, 6, 7, 45), (0, 6, 12, 47)] [.ref 0, .int u0, .int u1] b Y M (-1001) Y M1 := by
  refine ConH.of (by decide +kernel) (Nat.le_of_ble_eq_true rfl) rfl fun p l e s m args below meth c D tyc A ad0 x hr htab hname => ?_
  change JJ _ _ _ _ _ _ _ _ _ _ _ _ _ _ _ _ _ 0 [some (.ref 0), some (.int u0), some (.int u1), none] [] _ 0 0
  refine j_aload_n x dL_valueOf_0 rfl ?_
  refine j_iload_n x dL_valueOf_1 rfl ?_
  refine j_iload_n x dL_valueOf_2 rfl ?_
  refine j2_callC x hb dL_valueOf_3 m_X5_valueOf hcon wmL_78 jc_9 rfl rfl rfl (Nat.le_of_ble_eq_true rfl) (j_fit_rm (by omega) (by omega) (by omega)) rfl [] ⟨0, 6, 7, 45⟩ [⟨0, 6, 12, 47⟩] htab (fun w hw => by cases hw) (by decide) (by decide) wcL_45 wx_IndexOutOfBoundsException rfl (fun a => ?_)
  refine j_astore_nR x dL_valueOf_7 (by decide) rfl ?_
  refine j_sipush (v := (-1001)) x dL_valueOf_8 (by decide) ?_
  exact j_ireturn x hr dL_valueOf_11 (by omega) (by omega) ⟨rfl, rfl⟩
theorem H_valueOf_t2 {d mc ms : Nat} {b : SBt} {Y : OUt} {M M1 : MM} (hb : 94 ≤ b.2.1) {u0 u1 : Int32} (hcon : CM d mc ms yX5_valueOf cX5_valueOf 3 (some .int) [.ref 0, .int u0, .int u1] b Y M (.inr "java/lang/IllegalArgumentException") M1) : CMH (d + 1) mc ms yL_valueOf cL_valueOf 4 (some .int) [(0, 6, 7, 45), (0, 6, 12, 47)] [.ref 0, .int u0, .int u1] b Y M (-1002) Y M1 := by
  refine ConH.of (by decide +kernel) (Nat.le_of_ble_eq_true rfl) rfl fun p l e s m args below meth c D tyc A ad0 x hr htab hname => ?_
  change JJ _ _ _ _ _ _ _ _ _ _ _ _ _ _ _ _ _ 0 [some (.ref 0), some (.int u0), some (.int u1), none] [] _ 0 0
  refine j_aload_n x dL_valueOf_0 rfl ?_
  refine j_iload_n x dL_valueOf_1 rfl ?_
  refine j_iload_n x dL_valueOf_2 rfl ?_
  refine j2_callC x hb dL_valueOf_3 m_X5_valueOf hcon wmL_78 jc_9 rfl rfl rfl (Nat.le_of_ble_eq_true rfl) (j_fit_rm (by omega) (by omega) (by omega)) rfl [⟨0, 6, 7, 45⟩] ⟨0, 6, 12, 47⟩ [] htab (fun w hw => by rcases List.mem_cons.mp hw with rfl | hw <;> first | exact Or.inr ⟨by decide, _, wcL_45, by decide +kernel⟩ | cases hw) (by decide) (by decide) wcL_47 wx_IllegalArgumentException rfl (fun a => ?_)
  refine j_astore_nR x dL_valueOf_12 (by decide) rfl ?_
  refine j_sipush (v := (-1002)) x dL_valueOf_13 (by decide) ?_
  exact j_ireturn x hr dL_valueOf_16 (by omega) (by omega) ⟨rfl, rfl⟩
theorem H_pointsAgain_r {d mc ms : Nat} {b : SBt} {Y : OUt} {M M1 : MM} (hb : 94 ≤ b.2.1) {u0 : Int32} {v : Int32} (hcon : CM d mc ms yX5_pointsAgain cX5_pointsAgain 2 (some .int) [.ref 0, .int u0] b Y M (.inl (some (.int v))) M1) : CMH (d + 1) mc ms yL_pointsAgain cL_pointsAgain 3 (some .int) [(0, 5, 6, 45)] [.ref 0, .int u0] b Y M (v) Y M1 := by
  refine ConH.of (by decide +kernel) (Nat.le_of_ble_eq_true rfl) rfl fun p l e s m args below meth c D tyc A ad0 x hr htab hname => ?_
  change JJ _ _ _ _ _ _ _ _ _ _ _ _ _ _ _ _ _ 0 [some (.ref 0), some (.int u0), none] [] _ 0 0
  refine j_aload_n x dL_pointsAgain_0 rfl ?_
  refine j_iload_n x dL_pointsAgain_1 rfl ?_
  refine j2_callVi x hb dL_pointsAgain_2 m_X5_pointsAgain hcon wmL_49 jc_9 rfl rfl rfl (Nat.le_of_ble_eq_true rfl) (j_fit_rm (by omega) (by omega) (by omega)) rfl ?_
  exact j_ireturn x hr dL_pointsAgain_5 (by omega) (by omega) ⟨rfl, rfl⟩
theorem H_pointsAgain_t1 {d mc ms : Nat} {b : SBt} {Y : OUt} {M M1 : MM} (hb : 94 ≤ b.2.1) {u0 : Int32} (hcon : CM d mc ms yX5_pointsAgain cX5_pointsAgain 2 (some .int) [.ref 0, .int u0] b Y M (.inr "java/lang/IndexOutOfBoundsException") M1) : CMH (d + 1) mc ms yL_pointsAgain cL_pointsAgain 3 (some .int) [(0, 5, 6, 45)] [.ref 0, .int u0] b Y M (-1001) Y M1 := by
  refine ConH.of (by decide +kernel) (Nat.le_of_ble_eq_true rfl) rfl fun p l e s m args below meth c D tyc A ad0 x hr htab hname => ?_
  change JJ _ _ _ _ _ _ _ _ _ _ _ _ _ _ _ _ _ 0 [some (.ref 0), some (.int u0), none] [] _ 0 0
  refine j_aload_n x dL_pointsAgain_0 rfl ?_
  refine j_iload_n x dL_pointsAgain_1 rfl ?_
  refine j2_callC x hb dL_pointsAgain_2 m_X5_pointsAgain hcon wmL_49 jc_9 rfl rfl rfl (Nat.le_of_ble_eq_true rfl) (j_fit_rm (by omega) (by omega) (by omega)) rfl [] ⟨0, 5, 6, 45⟩ [] htab (fun w hw => by cases hw) (by decide) (by decide) wcL_45 wx_IndexOutOfBoundsException rfl (fun a => ?_)
  refine j_astore_nR x dL_pointsAgain_6 (by decide) rfl ?_
  refine j_sipush (v := (-1001)) x dL_pointsAgain_7 (by decide) ?_
  exact j_ireturn x hr dL_pointsAgain_10 (by omega) (by omega) ⟨rfl, rfl⟩
theorem H_placeOf_r {d mc ms : Nat} {b : SBt} {Y : OUt} {M M1 : MM} (hb : 94 ≤ b.2.1) {u0 : Int32} {v : Int32} (hcon : CM d mc ms yX5_placeOf cX5_placeOf 4 (some .int) [.ref 0, .int u0] b Y M (.inl (some (.int v))) M1) : CMH (d + 1) mc ms yL_placeOf cL_placeOf 3 (some .int) [(0, 5, 6, 45)] [.ref 0, .int u0] b Y M (v) Y M1 := by
  refine ConH.of (by decide +kernel) (Nat.le_of_ble_eq_true rfl) rfl fun p l e s m args below meth c D tyc A ad0 x hr htab hname => ?_
  change JJ _ _ _ _ _ _ _ _ _ _ _ _ _ _ _ _ _ 0 [some (.ref 0), some (.int u0), none] [] _ 0 0
  refine j_aload_n x dL_placeOf_0 rfl ?_
  refine j_iload_n x dL_placeOf_1 rfl ?_
  refine j2_callVi x hb dL_placeOf_2 m_X5_placeOf hcon wmL_75 jc_9 rfl rfl rfl (Nat.le_of_ble_eq_true rfl) (j_fit_rm (by omega) (by omega) (by omega)) rfl ?_
  exact j_ireturn x hr dL_placeOf_5 (by omega) (by omega) ⟨rfl, rfl⟩
theorem H_placeOf_t1 {d mc ms : Nat} {b : SBt} {Y : OUt} {M M1 : MM} (hb : 94 ≤ b.2.1) {u0 : Int32} (hcon : CM d mc ms yX5_placeOf cX5_placeOf 4 (some .int) [.ref 0, .int u0] b Y M (.inr "java/lang/IndexOutOfBoundsException") M1) : CMH (d + 1) mc ms yL_placeOf cL_placeOf 3 (some .int) [(0, 5, 6, 45)] [.ref 0, .int u0] b Y M (-1001) Y M1 := by
  refine ConH.of (by decide +kernel) (Nat.le_of_ble_eq_true rfl) rfl fun p l e s m args below meth c D tyc A ad0 x hr htab hname => ?_
  change JJ _ _ _ _ _ _ _ _ _ _ _ _ _ _ _ _ _ 0 [some (.ref 0), some (.int u0), none] [] _ 0 0
  refine j_aload_n x dL_placeOf_0 rfl ?_
  refine j_iload_n x dL_placeOf_1 rfl ?_
  refine j2_callC x hb dL_placeOf_2 m_X5_placeOf hcon wmL_75 jc_9 rfl rfl rfl (Nat.le_of_ble_eq_true rfl) (j_fit_rm (by omega) (by omega) (by omega)) rfl [] ⟨0, 5, 6, 45⟩ [] htab (fun w hw => by cases hw) (by decide) (by decide) wcL_45 wx_IndexOutOfBoundsException rfl (fun a => ?_)
  refine j_astore_nR x dL_placeOf_6 (by decide) rfl ?_
  refine j_sipush (v := (-1001)) x dL_placeOf_7 (by decide) ?_
  exact j_ireturn x hr dL_placeOf_10 (by omega) (by omega) ⟨rfl, rfl⟩
theorem H_ranked_r {d mc ms : Nat} {b : SBt} {Y : OUt} {M M1 : MM} (hb : 94 ≤ b.2.1) {u0 : Int32} {v : Int32} (hcon : CM d mc ms yX5_ranked cX5_ranked 2 (some .int) [.ref 0, .int u0] b Y M (.inl (some (.int v))) M1) : CMH (d + 1) mc ms yL_ranked cL_ranked 3 (some .int) [(0, 5, 6, 58)] [.ref 0, .int u0] b Y M (v) Y M1 := by
  refine ConH.of (by decide +kernel) (Nat.le_of_ble_eq_true rfl) rfl fun p l e s m args below meth c D tyc A ad0 x hr htab hname => ?_
  change JJ _ _ _ _ _ _ _ _ _ _ _ _ _ _ _ _ _ 0 [some (.ref 0), some (.int u0), none] [] _ 0 0
  refine j_aload_n x dL_ranked_0 rfl ?_
  refine j_iload_n x dL_ranked_1 rfl ?_
  refine j2_callVi x hb dL_ranked_2 m_X5_ranked hcon wmL_72 jc_9 rfl rfl rfl (Nat.le_of_ble_eq_true rfl) (j_fit_rm (by omega) (by omega) (by omega)) rfl ?_
  exact j_ireturn x hr dL_ranked_5 (by omega) (by omega) ⟨rfl, rfl⟩
theorem H_ranked_t1 {d mc ms : Nat} {b : SBt} {Y : OUt} {M M1 : MM} (hb : 94 ≤ b.2.1) {u0 : Int32} (hcon : CM d mc ms yX5_ranked cX5_ranked 2 (some .int) [.ref 0, .int u0] b Y M (.inr "java/util/NoSuchElementException") M1) : CMH (d + 1) mc ms yL_ranked cL_ranked 3 (some .int) [(0, 5, 6, 58)] [.ref 0, .int u0] b Y M (-1001) Y M1 := by
  refine ConH.of (by decide +kernel) (Nat.le_of_ble_eq_true rfl) rfl fun p l e s m args below meth c D tyc A ad0 x hr htab hname => ?_
  change JJ _ _ _ _ _ _ _ _ _ _ _ _ _ _ _ _ _ 0 [some (.ref 0), some (.int u0), none] [] _ 0 0
  refine j_aload_n x dL_ranked_0 rfl ?_
  refine j_iload_n x dL_ranked_1 rfl ?_
  refine j2_callC x hb dL_ranked_2 m_X5_ranked hcon wmL_72 jc_9 rfl rfl rfl (Nat.le_of_ble_eq_true rfl) (j_fit_rm (by omega) (by omega) (by omega)) rfl [] ⟨0, 5, 6, 58⟩ [] htab (fun w hw => by cases hw) (by decide) (by decide) wcL_58 wx_NoSuchElementException rfl (fun a => ?_)
  refine j_astore_nR x dL_ranked_6 (by decide) rfl ?_
  refine j_sipush (v := (-1001)) x dL_ranked_7 (by decide) ?_
  exact j_ireturn x hr dL_ranked_10 (by omega) (by omega) ⟨rfl, rfl⟩
theorem H_tied_r {d mc ms : Nat} {b : SBt} {Y : OUt} {M M1 : MM} (hb : 94 ≤ b.2.1) {u0 : Int32} {v : Int32} (hcon : CM d mc ms yX5_tied cX5_tied 4 (some .int) [.ref 0, .int u0] b Y M (.inl (some (.int v))) M1) : CMH (d + 1) mc ms yL_tied cL_tied 3 (some .int) [(0, 5, 6, 45)] [.ref 0, .int u0] b Y M (v) Y M1 := by
  refine ConH.of (by decide +kernel) (Nat.le_of_ble_eq_true rfl) rfl fun p l e s m args below meth c D tyc A ad0 x hr htab hname => ?_
  change JJ _ _ _ _ _ _ _ _ _ _ _ _ _ _ _ _ _ 0 [some (.ref 0), some (.int u0), none] [] _ 0 0
  refine j_aload_n x dL_tied_0 rfl ?_
  refine j_iload_n x dL_tied_1 rfl ?_
  refine j2_callVi x hb dL_tied_2 m_X5_tied hcon wmL_81 jc_9 rfl rfl rfl (Nat.le_of_ble_eq_true rfl) (j_fit_rm (by omega) (by omega) (by omega)) rfl ?_
  exact j_ireturn x hr dL_tied_5 (by omega) (by omega) ⟨rfl, rfl⟩
theorem H_tied_t1 {d mc ms : Nat} {b : SBt} {Y : OUt} {M M1 : MM} (hb : 94 ≤ b.2.1) {u0 : Int32} (hcon : CM d mc ms yX5_tied cX5_tied 4 (some .int) [.ref 0, .int u0] b Y M (.inr "java/lang/IndexOutOfBoundsException") M1) : CMH (d + 1) mc ms yL_tied cL_tied 3 (some .int) [(0, 5, 6, 45)] [.ref 0, .int u0] b Y M (-1001) Y M1 := by
  refine ConH.of (by decide +kernel) (Nat.le_of_ble_eq_true rfl) rfl fun p l e s m args below meth c D tyc A ad0 x hr htab hname => ?_
  change JJ _ _ _ _ _ _ _ _ _ _ _ _ _ _ _ _ _ 0 [some (.ref 0), some (.int u0), none] [] _ 0 0
  refine j_aload_n x dL_tied_0 rfl ?_
  refine j_iload_n x dL_tied_1 rfl ?_
  refine j2_callC x hb dL_tied_2 m_X5_tied hcon wmL_81 jc_9 rfl rfl rfl (Nat.le_of_ble_eq_true rfl) (j_fit_rm (by omega) (by omega) (by omega)) rfl [] ⟨0, 5, 6, 45⟩ [] htab (fun w hw => by cases hw) (by decide) (by decide) wcL_45 wx_IndexOutOfBoundsException rfl (fun a => ?_)
  refine j_astore_nR x dL_tied_6 (by decide) rfl ?_
  refine j_sipush (v := (-1001)) x dL_tied_7 (by decide) ?_
  exact j_ireturn x hr dL_tied_10 (by omega) (by omega) ⟨rfl, rfl⟩
theorem H_most_r {d mc ms : Nat} {b : SBt} {Y : OUt} {M M1 : MM} (hb : 94 ≤ b.2.1) {u0 : Int32} {v : Int32} (hcon : CM d mc ms yX5_most cX5_most 2 (some .int) [.ref 0, .int u0] b Y M (.inl (some (.int v))) M1) : CMH (d + 1) mc ms yL_most cL_most 3 (some .int) [(0, 5, 6, 45)] [.ref 0, .int u0] b Y M (v) Y M1 := by
  refine ConH.of (by decide +kernel) (Nat.le_of_ble_eq_true rfl) rfl fun p l e s m args below meth c D tyc A ad0 x hr htab hname => ?_
  change JJ _ _ _ _ _ _ _ _ _ _ _ _ _ _ _ _ _ 0 [some (.ref 0), some (.int u0), none] [] _ 0 0
  refine j_aload_n x dL_most_0 rfl ?_
  refine j_iload_n x dL_most_1 rfl ?_
  refine j2_callVi x hb dL_most_2 m_X5_most hcon wmL_84 jc_9 rfl rfl rfl (Nat.le_of_ble_eq_true rfl) (j_fit_rm (by omega) (by omega) (by omega)) rfl ?_
  exact j_ireturn x hr dL_most_5 (by omega) (by omega) ⟨rfl, rfl⟩
theorem H_most_t1 {d mc ms : Nat} {b : SBt} {Y : OUt} {M M1 : MM} (hb : 94 ≤ b.2.1) {u0 : Int32} (hcon : CM d mc ms yX5_most cX5_most 2 (some .int) [.ref 0, .int u0] b Y M (.inr "java/lang/IndexOutOfBoundsException") M1) : CMH (d + 1) mc ms yL_most cL_most 3 (some .int) [(0, 5, 6, 45)] [.ref 0, .int u0] b Y M (-1001) Y M1 := by
  refine ConH.of (by decide +kernel) (Nat.le_of_ble_eq_true rfl) rfl fun p l e s m args below meth c D tyc A ad0 x hr htab hname => ?_
  change JJ _ _ _ _ _ _ _ _ _ _ _ _ _ _ _ _ _ 0 [some (.ref 0), some (.int u0), none] [] _ 0 0
  refine j_aload_n x dL_most_0 rfl ?_
  refine j_iload_n x dL_most_1 rfl ?_
  refine j2_callC x hb dL_most_2 m_X5_most hcon wmL_84 jc_9 rfl rfl rfl (Nat.le_of_ble_eq_true rfl) (j_fit_rm (by omega) (by omega) (by omega)) rfl [] ⟨0, 5, 6, 45⟩ [] htab (fun w hw => by cases hw) (by decide) (by decide) wcL_45 wx_IndexOutOfBoundsException rfl (fun a => ?_)
  refine j_astore_nR x dL_most_6 (by decide) rfl ?_
  refine j_sipush (v := (-1001)) x dL_most_7 (by decide) ?_
  exact j_ireturn x hr dL_most_10 (by omega) (by omega) ⟨rfl, rfl⟩
theorem H_isSafe_r {d mc ms : Nat} {b : SBt} {Y : OUt} {M M1 : MM} (hb : 94 ≤ b.2.1) {u0 : Int32} {v : Int32} (hcon : CM d mc ms yX5_isSafe cX5_isSafe 2 (some .boolean) [.ref 0, .int u0] b Y M (.inl (some (.int v))) M1) : CMH (d + 1) mc ms yL_isSafe cL_isSafe 3 (some .int) [(0, 13, 14, 45)] [.ref 0, .int u0] b Y M (if v = 0 then 0 else 1) Y M1 := by
  refine ConH.of (by decide +kernel) (Nat.le_of_ble_eq_true rfl) rfl fun p l e s m args below meth c D tyc A ad0 x hr htab hname => ?_
  change JJ _ _ _ _ _ _ _ _ _ _ _ _ _ _ _ _ _ 0 [some (.ref 0), some (.int u0), none] [] _ 0 0
  refine j_aload_n x dL_isSafe_0 rfl ?_
  refine j_iload_n x dL_isSafe_1 rfl ?_
  refine j2_callVi x hb dL_isSafe_2 m_X5_isSafe hcon wmL_87 jc_9 rfl rfl rfl (Nat.le_of_ble_eq_true rfl) (j_fit_rm (by omega) (by omega) (by omega)) rfl ?_
  refine j_if_eq (tgt := 12) x dL_isSafe_5 (by decide) (fun hv => ?_) (fun hv => ?_)
  · refine j_iconst (v := 0) x dL_isSafe_12 (by decide) ?_
    exact j_ireturn x hr dL_isSafe_13 (by omega) (by omega) ⟨by rw [if_pos hv], rfl⟩
  · refine j_iconst (v := 1) x dL_isSafe_8 (by decide) ?_
    refine j_goto (tgt := 13) x dL_isSafe_9 (by decide) ?_
    exact j_ireturn x hr dL_isSafe_13 (by omega) (by omega) ⟨by rw [if_neg hv], rfl⟩
theorem H_isSafe_t1 {d mc ms : Nat} {b : SBt} {Y : OUt} {M M1 : MM} (hb : 94 ≤ b.2.1) {u0 : Int32} (hcon : CM d mc ms yX5_isSafe cX5_isSafe 2 (some .boolean) [.ref 0, .int u0] b Y M (.inr "java/lang/IndexOutOfBoundsException") M1) : CMH (d + 1) mc ms yL_isSafe cL_isSafe 3 (some .int) [(0, 13, 14, 45)] [.ref 0, .int u0] b Y M (-1001) Y M1 := by
  refine ConH.of (by decide +kernel) (Nat.le_of_ble_eq_true rfl) rfl fun p l e s m args below meth c D tyc A ad0 x hr htab hname => ?_
  change JJ _ _ _ _ _ _ _ _ _ _ _ _ _ _ _ _ _ 0 [some (.ref 0), some (.int u0), none] [] _ 0 0
  refine j_aload_n x dL_isSafe_0 rfl ?_
  refine j_iload_n x dL_isSafe_1 rfl ?_
  refine j2_callC x hb dL_isSafe_2 m_X5_isSafe hcon wmL_87 jc_9 rfl rfl rfl (Nat.le_of_ble_eq_true rfl) (j_fit_rm (by omega) (by omega) (by omega)) rfl [] ⟨0, 13, 14, 45⟩ [] htab (fun w hw => by cases hw) (by decide) (by decide) wcL_45 wx_IndexOutOfBoundsException rfl (fun a => ?_)
  refine j_astore_nR x dL_isSafe_14 (by decide) rfl ?_
  refine j_sipush (v := (-1001)) x dL_isSafe_15 (by decide) ?_
  exact j_ireturn x hr dL_isSafe_18 (by omega) (by omega) ⟨rfl, rfl⟩
theorem H_isOut_r {d mc ms : Nat} {b : SBt} {Y : OUt} {M M1 : MM} (hb : 94 ≤ b.2.1) {u0 : Int32} {v : Int32} (hcon : CM d mc ms yX5_isOut cX5_isOut 2 (some .boolean) [.ref 0, .int u0] b Y M (.inl (some (.int v))) M1) : CMH (d + 1) mc ms yL_isOut cL_isOut 3 (some .int) [(0, 13, 14, 45)] [.ref 0, .int u0] b Y M (if v = 0 then 0 else 1) Y M1 := by
  refine ConH.of (by decide +kernel) (Nat.le_of_ble_eq_true rfl) rfl fun p l e s m args below meth c D tyc A ad0 x hr htab hname => ?_
  change JJ _ _ _ _ _ _ _ _ _ _ _ _ _ _ _ _ _ 0 [some (.ref 0), some (.int u0), none] [] _ 0 0
  refine j_aload_n x dL_isOut_0 rfl ?_
  refine j_iload_n x dL_isOut_1 rfl ?_
  refine j2_callVi x hb dL_isOut_2 m_X5_isOut hcon wmL_91 jc_9 rfl rfl rfl (Nat.le_of_ble_eq_true rfl) (j_fit_rm (by omega) (by omega) (by omega)) rfl ?_
  refine j_if_eq (tgt := 12) x dL_isOut_5 (by decide) (fun hv => ?_) (fun hv => ?_)
  · refine j_iconst (v := 0) x dL_isOut_12 (by decide) ?_
    exact j_ireturn x hr dL_isOut_13 (by omega) (by omega) ⟨by rw [if_pos hv], rfl⟩
  · refine j_iconst (v := 1) x dL_isOut_8 (by decide) ?_
    refine j_goto (tgt := 13) x dL_isOut_9 (by decide) ?_
    exact j_ireturn x hr dL_isOut_13 (by omega) (by omega) ⟨by rw [if_neg hv], rfl⟩
theorem H_isOut_t1 {d mc ms : Nat} {b : SBt} {Y : OUt} {M M1 : MM} (hb : 94 ≤ b.2.1) {u0 : Int32} (hcon : CM d mc ms yX5_isOut cX5_isOut 2 (some .boolean) [.ref 0, .int u0] b Y M (.inr "java/lang/IndexOutOfBoundsException") M1) : CMH (d + 1) mc ms yL_isOut cL_isOut 3 (some .int) [(0, 13, 14, 45)] [.ref 0, .int u0] b Y M (-1001) Y M1 := by
  refine ConH.of (by decide +kernel) (Nat.le_of_ble_eq_true rfl) rfl fun p l e s m args below meth c D tyc A ad0 x hr htab hname => ?_
  change JJ _ _ _ _ _ _ _ _ _ _ _ _ _ _ _ _ _ 0 [some (.ref 0), some (.int u0), none] [] _ 0 0
  refine j_aload_n x dL_isOut_0 rfl ?_
  refine j_iload_n x dL_isOut_1 rfl ?_
  refine j2_callC x hb dL_isOut_2 m_X5_isOut hcon wmL_91 jc_9 rfl rfl rfl (Nat.le_of_ble_eq_true rfl) (j_fit_rm (by omega) (by omega) (by omega)) rfl [] ⟨0, 13, 14, 45⟩ [] htab (fun w hw => by cases hw) (by decide) (by decide) wcL_45 wx_IndexOutOfBoundsException rfl (fun a => ?_)
  refine j_astore_nR x dL_isOut_14 (by decide) rfl ?_
  refine j_sipush (v := (-1001)) x dL_isOut_15 (by decide) ?_
  exact j_ireturn x hr dL_isOut_18 (by omega) (by omega) ⟨rfl, rfl⟩
theorem H_run_r {d mc ms : Nat} {b : SBt} {Y : OUt} {M M1 : MM} (hb : 94 ≤ b.2.1) {u0 : Int32} {v : Int32} (hcon : CM d mc ms yX5_run cX5_run 5 (some .int) [.ref 0, .int u0] b Y M (.inl (some (.int v))) M1) : CMH (d + 1) mc ms yL_run cL_run 3 (some .int) [(0, 5, 6, 45)] [.ref 0, .int u0] b Y M (v) Y M1 := by
  refine ConH.of (by decide +kernel) (Nat.le_of_ble_eq_true rfl) rfl fun p l e s m args below meth c D tyc A ad0 x hr htab hname => ?_
  change JJ _ _ _ _ _ _ _ _ _ _ _ _ _ _ _ _ _ 0 [some (.ref 0), some (.int u0), none] [] _ 0 0
  refine j_aload_n x dL_run_0 rfl ?_
  refine j_iload_n x dL_run_1 rfl ?_
  refine j2_callVi x hb dL_run_2 m_X5_run hcon wmL_94 jc_9 rfl rfl rfl (Nat.le_of_ble_eq_true rfl) (j_fit_rm (by omega) (by omega) (by omega)) rfl ?_
  exact j_ireturn x hr dL_run_5 (by omega) (by omega) ⟨rfl, rfl⟩
theorem H_run_t1 {d mc ms : Nat} {b : SBt} {Y : OUt} {M M1 : MM} (hb : 94 ≤ b.2.1) {u0 : Int32} (hcon : CM d mc ms yX5_run cX5_run 5 (some .int) [.ref 0, .int u0] b Y M (.inr "java/lang/IndexOutOfBoundsException") M1) : CMH (d + 1) mc ms yL_run cL_run 3 (some .int) [(0, 5, 6, 45)] [.ref 0, .int u0] b Y M (-1001) Y M1 := by
  refine ConH.of (by decide +kernel) (Nat.le_of_ble_eq_true rfl) rfl fun p l e s m args below meth c D tyc A ad0 x hr htab hname => ?_
  change JJ _ _ _ _ _ _ _ _ _ _ _ _ _ _ _ _ _ 0 [some (.ref 0), some (.int u0), none] [] _ 0 0
  refine j_aload_n x dL_run_0 rfl ?_
  refine j_iload_n x dL_run_1 rfl ?_
  refine j2_callC x hb dL_run_2 m_X5_run hcon wmL_94 jc_9 rfl rfl rfl (Nat.le_of_ble_eq_true rfl) (j_fit_rm (by omega) (by omega) (by omega)) rfl [] ⟨0, 5, 6, 45⟩ [] htab (fun w hw => by cases hw) (by decide) (by decide) wcL_45 wx_IndexOutOfBoundsException rfl (fun a => ?_)
  refine j_astore_nR x dL_run_6 (by decide) rfl ?_
  refine j_sipush (v := (-1001)) x dL_run_7 (by decide) ?_
  exact j_ireturn x hr dL_run_10 (by omega) (by omega) ⟨rfl, rfl⟩
theorem H_line_r {d mc ms : Nat} {b : SBt} {Y : OUt} {M M1 : MM} (hb : 94 ≤ b.2.1) {u0 : Int32} {v : Int32} (hcon : CM d mc ms yX5_line cX5_line 2 (some .int) [.ref 0, .int u0] b Y M (.inl (some (.int v))) M1) : CMH (d + 1) mc ms yL_line cL_line 3 (some .int) [(0, 5, 6, 45)] [.ref 0, .int u0] b Y M (v) Y M1 := by
  refine ConH.of (by decide +kernel) (Nat.le_of_ble_eq_true rfl) rfl fun p l e s m args below meth c D tyc A ad0 x hr htab hname => ?_
  change JJ _ _ _ _ _ _ _ _ _ _ _ _ _ _ _ _ _ 0 [some (.ref 0), some (.int u0), none] [] _ 0 0
  refine j_aload_n x dL_line_0 rfl ?_
  refine j_iload_n x dL_line_1 rfl ?_
  refine j2_callVi x hb dL_line_2 m_X5_line hcon wmL_109 jc_9 rfl rfl rfl (Nat.le_of_ble_eq_true rfl) (j_fit_rm (by omega) (by omega) (by omega)) rfl ?_
  exact j_ireturn x hr dL_line_5 (by omega) (by omega) ⟨rfl, rfl⟩
theorem H_line_t1 {d mc ms : Nat} {b : SBt} {Y : OUt} {M M1 : MM} (hb : 94 ≤ b.2.1) {u0 : Int32} (hcon : CM d mc ms yX5_line cX5_line 2 (some .int) [.ref 0, .int u0] b Y M (.inr "java/lang/IndexOutOfBoundsException") M1) : CMH (d + 1) mc ms yL_line cL_line 3 (some .int) [(0, 5, 6, 45)] [.ref 0, .int u0] b Y M (-1001) Y M1 := by
  refine ConH.of (by decide +kernel) (Nat.le_of_ble_eq_true rfl) rfl fun p l e s m args below meth c D tyc A ad0 x hr htab hname => ?_
  change JJ _ _ _ _ _ _ _ _ _ _ _ _ _ _ _ _ _ 0 [some (.ref 0), some (.int u0), none] [] _ 0 0
  refine j_aload_n x dL_line_0 rfl ?_
  refine j_iload_n x dL_line_1 rfl ?_
  refine j2_callC x hb dL_line_2 m_X5_line hcon wmL_109 jc_9 rfl rfl rfl (Nat.le_of_ble_eq_true rfl) (j_fit_rm (by omega) (by omega) (by omega)) rfl [] ⟨0, 5, 6, 45⟩ [] htab (fun w hw => by cases hw) (by decide) (by decide) wcL_45 wx_IndexOutOfBoundsException rfl (fun a => ?_)
  refine j_astore_nR x dL_line_6 (by decide) rfl ?_
  refine j_sipush (v := (-1001)) x dL_line_7 (by decide) ?_
  exact j_ireturn x hr dL_line_10 (by omega) (by omega) ⟨rfl, rfl⟩
theorem H_character_r {d mc ms : Nat} {b : SBt} {Y : OUt} {M M1 : MM} (hb : 94 ≤ b.2.1) {u0 : Int32} {v : Int32} (hcon : CM d mc ms yX5_character cX5_character 2 (some .char) [.ref 0, .int u0] b Y M (.inl (some (.int v))) M1) : CMH (d + 1) mc ms yL_character cL_character 3 (some .int) [(0, 5, 6, 45)] [.ref 0, .int u0] b Y M (v) Y M1 := by
  refine ConH.of (by decide +kernel) (Nat.le_of_ble_eq_true rfl) rfl fun p l e s m args below meth c D tyc A ad0 x hr htab hname => ?_
  change JJ _ _ _ _ _ _ _ _ _ _ _ _ _ _ _ _ _ 0 [some (.ref 0), some (.int u0), none] [] _ 0 0
  refine j_aload_n x dL_character_0 rfl ?_
  refine j_iload_n x dL_character_1 rfl ?_
  refine j2_callVi x hb dL_character_2 m_X5_character hcon wmL_112 jc_9 rfl rfl rfl (Nat.le_of_ble_eq_true rfl) (j_fit_rm (by omega) (by omega) (by omega)) rfl ?_
  exact j_ireturn x hr dL_character_5 (by omega) (by omega) ⟨rfl, rfl⟩
theorem H_character_t1 {d mc ms : Nat} {b : SBt} {Y : OUt} {M M1 : MM} (hb : 94 ≤ b.2.1) {u0 : Int32} (hcon : CM d mc ms yX5_character cX5_character 2 (some .char) [.ref 0, .int u0] b Y M (.inr "java/lang/IndexOutOfBoundsException") M1) : CMH (d + 1) mc ms yL_character cL_character 3 (some .int) [(0, 5, 6, 45)] [.ref 0, .int u0] b Y M (-1001) Y M1 := by
  refine ConH.of (by decide +kernel) (Nat.le_of_ble_eq_true rfl) rfl fun p l e s m args below meth c D tyc A ad0 x hr htab hname => ?_
  change JJ _ _ _ _ _ _ _ _ _ _ _ _ _ _ _ _ _ 0 [some (.ref 0), some (.int u0), none] [] _ 0 0
  refine j_aload_n x dL_character_0 rfl ?_
  refine j_iload_n x dL_character_1 rfl ?_
  refine j2_callC x hb dL_character_2 m_X5_character hcon wmL_112 jc_9 rfl rfl rfl (Nat.le_of_ble_eq_true rfl) (j_fit_rm (by omega) (by omega) (by omega)) rfl [] ⟨0, 5, 6, 45⟩ [] htab (fun w hw => by cases hw) (by decide) (by decide) wcL_45 wx_IndexOutOfBoundsException rfl (fun a => ?_)
  refine j_astore_nR x dL_character_6 (by decide) rfl ?_
  refine j_sipush (v := (-1001)) x dL_character_7 (by decide) ?_
  exact j_ireturn x hr dL_character_10 (by omega) (by omega) ⟨rfl, rfl⟩
theorem H_find_r {d mc ms : Nat} {b : SBt} {Y : OUt} {M M1 : MM} (hb : 94 ≤ b.2.1) {u0 u1 : Int32} {v : Int32} (hcon : CM d mc ms yX5_find cX5_find 4 (some .int) [.ref 0, .int u0, .int u1] b Y M (.inl (some (.int v))) M1) : CMH (d + 1) mc ms yL_find cL_find 4 (some .int) [(0, 6, 7, 45), (0, 6, 12, 58)] [.ref 0, .int u0, .int u1] b Y M (v) Y M1 := by
  refine ConH.of (by decide +kernel) (Nat.le_of_ble_eq_true rfl) rfl fun p l e s m args below meth c D tyc A ad0 x hr htab hname => ?_
  change JJ _ _ _ _ _ _ _ _ _ _ _ _ _ _ _ _ _ 0 [some (.ref 0), some (.int u0), some (.int u1), none] [] _ 0 0
  refine j_aload_n x dL_find_0 rfl ?_
  refine j_iload_n x dL_find_1 rfl ?_
  refine j_iload_n x dL_find_2 rfl ?_
  refine j2_callVi x hb dL_find_3 m_X5_find hcon wmL_55 jc_9 rfl rfl rfl (Nat.le_of_ble_eq_true rfl) (j_fit_rm (by omega) (by omega) (by omega)) rfl ?_
  exact j_ireturn x hr dL_find_6 (by omega) (by omega) ⟨rfl, rfl⟩
theorem H_find_t1 {d mc ms : Nat} {b : SBt} {Y : OUt} {M M1 : MM} (hb : 94 ≤ b.2.1) {u0 u1 : Int32} (hcon : CM d mc ms yX5_find cX5_find 4 (some .int) [.ref 0, .int u0, .int u1] b Y M (.inr "java/lang/IndexOutOfBoundsException") M1) : CMH (d + 1) mc ms yL_find cL_find 4 (some .int) [(0, 6, 7, 45), (0, 6, 12, 58)] [.ref 0, .int u0, .int u1] b Y M (-1001) Y M1 := by
  refine ConH.of (by decide +kernel) (Nat.le_of_ble_eq_true rfl) rfl fun p l e s m args below meth c D tyc A ad0 x hr htab hname => ?_
  change JJ _ _ _ _ _ _ _ _ _ _ _ _ _ _ _ _ _ 0 [some (.ref 0), some (.int u0), some (.int u1), none] [] _ 0 0
  refine j_aload_n x dL_find_0 rfl ?_
  refine j_iload_n x dL_find_1 rfl ?_
  refine j_iload_n x dL_find_2 rfl ?_
  refine j2_callC x hb dL_find_3 m_X5_find hcon wmL_55 jc_9 rfl rfl rfl (Nat.le_of_ble_eq_true rfl) (j_fit_rm (by omega) (by omega) (by omega)) rfl [] ⟨0, 6, 7, 45⟩ [⟨0, 6, 12, 58⟩] htab (fun w hw => by cases hw) (by decide) (by decide) wcL_45 wx_IndexOutOfBoundsException rfl (fun a => ?_)
  refine j_astore_nR x dL_find_7 (by decide) rfl ?_
  refine j_sipush (v := (-1001)) x dL_find_8 (by decide) ?_
  exact j_ireturn x hr dL_find_11 (by omega) (by omega) ⟨rfl, rfl⟩
theorem H_find_t2 {d mc ms : Nat} {b : SBt} {Y : OUt} {M M1 : MM} (hb : 94 ≤ b.2.1) {u0 u1 : Int32} (hcon : CM d mc ms yX5_find cX5_find 4 (some .int) [.ref 0, .int u0, .int u1] b Y M (.inr "java/util/NoSuchElementException") M1) : CMH (d + 1) mc ms yL_find cL_find 4 (some .int) [(0, 6, 7, 45), (0, 6, 12, 58)] [.ref 0, .int u0, .int u1] b Y M (-1002) Y M1 := by
  refine ConH.of (by decide +kernel) (Nat.le_of_ble_eq_true rfl) rfl fun p l e s m args below meth c D tyc A ad0 x hr htab hname => ?_
  change JJ _ _ _ _ _ _ _ _ _ _ _ _ _ _ _ _ _ 0 [some (.ref 0), some (.int u0), some (.int u1), none] [] _ 0 0
  refine j_aload_n x dL_find_0 rfl ?_
  refine j_iload_n x dL_find_1 rfl ?_
  refine j_iload_n x dL_find_2 rfl ?_
  refine j2_callC x hb dL_find_3 m_X5_find hcon wmL_55 jc_9 rfl rfl rfl (Nat.le_of_ble_eq_true rfl) (j_fit_rm (by omega) (by omega) (by omega)) rfl [⟨0, 6, 7, 45⟩] ⟨0, 6, 12, 58⟩ [] htab (fun w hw => by rcases List.mem_cons.mp hw with rfl | hw <;> first | exact Or.inr ⟨by decide, _, wcL_45, by decide +kernel⟩ | cases hw) (by decide) (by decide) wcL_58 wx_NoSuchElementException rfl (fun a => ?_)
  refine j_astore_nR x dL_find_12 (by decide) rfl ?_
  refine j_sipush (v := (-1002)) x dL_find_13 (by decide) ?_
  exact j_ireturn x hr dL_find_16 (by omega) (by omega) ⟨rfl, rfl⟩
theorem H_give_r {d mc ms : Nat} {b : SBt} {Y : OUt} {M M1 : MM} (hb : 94 ≤ b.2.1) {u0 u1 : Int32} {v : Int32} (hcon : CM d mc ms yX5_give cX5_give 4 (some .int) [.ref 0, .int u0, .int u1] b Y M (.inl (some (.int v))) M1) : CMH (d + 1) mc ms yL_give cL_give 4 (some .int) [(0, 6, 7, 13)] [.ref 0, .int u0, .int u1] b Y M (v) Y M1 := by
  refine ConH.of (by decide +kernel) (Nat.le_of_ble_eq_true rfl) rfl fun p l e s m args below meth c D tyc A ad0 x hr htab hname => ?_
  change JJ _ _ _ _ _ _ _ _ _ _ _ _ _ _ _ _ _ 0 [some (.ref 0), some (.int u0), some (.int u1), none] [] _ 0 0
  refine j_aload_n x dL_give_0 rfl ?_
  refine j_iload_n x dL_give_1 rfl ?_
  refine j_iload_n x dL_give_2 rfl ?_
  refine j2_callVi x hb dL_give_3 m_X5_give hcon wmL_23 jc_9 rfl rfl rfl (Nat.le_of_ble_eq_true rfl) (j_fit_rm (by omega) (by omega) (by omega)) rfl ?_
  exact j_ireturn x hr dL_give_6 (by omega) (by omega) ⟨rfl, rfl⟩
theorem H_give_t1 {d mc ms : Nat} {b : SBt} {Y : OUt} {M M1 : MM} (hb : 94 ≤ b.2.1) {u0 u1 : Int32} (hcon : CM d mc ms yX5_give cX5_give 4 (some .int) [.ref 0, .int u0, .int u1] b Y M (.inr "java/lang/UnsupportedOperationException") M1) : CMH (d + 1) mc ms yL_give cL_give 4 (some .int) [(0, 6, 7, 13)] [.ref 0, .int u0, .int u1] b Y M (-1001) Y M1 := by
  refine ConH.of (by decide +kernel) (Nat.le_of_ble_eq_true rfl) rfl fun p l e s m args below meth c D tyc A ad0 x hr htab hname => ?_
  change JJ _ _ _ _ _ _ _ _ _ _ _ _ _ _ _ _ _ 0 [some (.ref 0), some (.int u0), some (.int u1), none] [] _ 0 0
  refine j_aload_n x dL_give_0 rfl ?_
  refine j_iload_n x dL_give_1 rfl ?_
  refine j_iload_n x dL_give_2 rfl ?_
  refine j2_callC x hb dL_give_3 m_X5_give hcon wmL_23 jc_9 rfl rfl rfl (Nat.le_of_ble_eq_true rfl) (j_fit_rm (by omega) (by omega) (by omega)) rfl [] ⟨0, 6, 7, 13⟩ [] htab (fun w hw => by cases hw) (by decide) (by decide) wcL_13 wx_UnsupportedOperationException rfl (fun a => ?_)
  refine j_astore_nR x dL_give_7 (by decide) rfl ?_
  refine j_sipush (v := (-1001)) x dL_give_8 (by decide) ?_
  exact j_ireturn x hr dL_give_11 (by omega) (by omega) ⟨rfl, rfl⟩
theorem H_back_r {d mc ms : Nat} {b : SBt} {Y : OUt} {M M1 : MM} (hb : 94 ≤ b.2.1) {u0 : Int32} {v : Int32} (hcon : CM d mc ms yX5_back cX5_back 2 (some .int) [.ref 0, .int u0] b Y M (.inl (some (.int v))) M1) : CMH (d + 1) mc ms yL_back cL_back 3 (some .int) [(0, 5, 6, 13)] [.ref 0, .int u0] b Y M (v) Y M1 := by
  refine ConH.of (by decide +kernel) (Nat.le_of_ble_eq_true rfl) rfl fun p l e s m args below meth c D tyc A ad0 x hr htab hname => ?_
  change JJ _ _ _ _ _ _ _ _ _ _ _ _ _ _ _ _ _ 0 [some (.ref 0), some (.int u0), none] [] _ 0 0
  refine j_aload_n x dL_back_0 rfl ?_
  refine j_iload_n x dL_back_1 rfl ?_
  refine j2_callVi x hb dL_back_2 m_X5_back hcon wmL_33 jc_9 rfl rfl rfl (Nat.le_of_ble_eq_true rfl) (j_fit_rm (by omega) (by omega) (by omega)) rfl ?_
  exact j_ireturn x hr dL_back_5 (by omega) (by omega) ⟨rfl, rfl⟩
theorem H_back_t1 {d mc ms : Nat} {b : SBt} {Y : OUt} {M M1 : MM} (hb : 94 ≤ b.2.1) {u0 : Int32} (hcon : CM d mc ms yX5_back cX5_back 2 (some .int) [.ref 0, .int u0] b Y M (.inr "java/lang/UnsupportedOperationException") M1) : CMH (d + 1) mc ms yL_back cL_back 3 (some .int) [(0, 5, 6, 13)] [.ref 0, .int u0] b Y M (-1001) Y M1 := by
  refine ConH.of (by decide +kernel) (Nat.le_of_ble_eq_true rfl) rfl fun p l e s m args below meth c D tyc A ad0 x hr htab hname => ?_
  change JJ _ _ _ _ _ _ _ _ _ _ _ _ _ _ _ _ _ 0 [some (.ref 0), some (.int u0), none] [] _ 0 0
  refine j_aload_n x dL_back_0 rfl ?_
  refine j_iload_n x dL_back_1 rfl ?_
  refine j2_callC x hb dL_back_2 m_X5_back hcon wmL_33 jc_9 rfl rfl rfl (Nat.le_of_ble_eq_true rfl) (j_fit_rm (by omega) (by omega) (by omega)) rfl [] ⟨0, 5, 6, 13⟩ [] htab (fun w hw => by cases hw) (by decide) (by decide) wcL_13 wx_UnsupportedOperationException rfl (fun a => ?_)
  refine j_astore_nR x dL_back_6 (by decide) rfl ?_
  refine j_sipush (v := (-1001)) x dL_back_7 (by decide) ?_
  exact j_ireturn x hr dL_back_10 (by omega) (by omega) ⟨rfl, rfl⟩
