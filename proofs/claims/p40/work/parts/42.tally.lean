/-! ===== the tally ===== -/
def jraise (M : MM) (i : Nat) (t v : Int32) : MM := jput 8 M i t (M i t.toNatClampNeg + v)
theorem jraise_n {M : MM} {a : Nat} {t v : Int32} {i k : Nat} (h : i ≠ a) : jraise M a t v i k = M i k := m_put h
def jag (M : MM) (t u v : Int32) : MM := jraise (jraise (jraise (jraise (jraise M 80 t u) 81 t v) 77 t (jb (¬ u ≤ v))) 78 t (jb (u = v))) 79 t (jb (¬ v ≤ u))
theorem c_addGoals {d : Nat} {b : SBt} {Y : OUt} {M : MM} (hb : 94 ≤ b.2.1) {t u v : Int32} : CM (d + 1) 0 0 yX3_addGoals cX3_addGoals 4 none [.ref 75, .int t, .int u, .int v] b Y M (.inl none) (jag M t u v) := by
  refine Con.of (by decide +kernel) (Nat.le_of_ble_eq_true rfl) rfl fun p l e s m args below meth c D tyc A ad0 x hr htab hname => ?_
  change JJ _ _ _ _ _ _ _ _ _ _ _ _ _ _ _ _ _ 0 [some (.ref 75), some (.int t), some (.int u), some (.int v)] [] _ 0 0
  refine j_aload_n x dX3_addGoals_0 rfl ?_
  refine j2_getr (k := 7) (r := 80) x hb dX3_addGoals_1 jc_7 wfX3_24 (by decide) rfl ?_
  refine j_iload_n x dX3_addGoals_4 rfl ?_
  refine j_iload_n x dX3_addGoals_5 rfl ?_
  refine j2_callSNv x hb dX3_addGoals_6 m_X5_raise (c_raise (d := d) hb fa_80 (by decide)) wnX3_74 rfl (Nat.le_of_ble_eq_true rfl) (j_fit_rm (by omega) (by omega) (by omega)) rfl ?_
  refine j_aload_n x dX3_addGoals_9 rfl ?_
  refine j2_getr (k := 8) (r := 81) x hb dX3_addGoals_10 jc_7 wfX3_27 (by decide) rfl ?_
  refine j_iload_n x dX3_addGoals_13 rfl ?_
  refine j_iload_n x dX3_addGoals_14 rfl ?_
  refine j2_callSNv x hb dX3_addGoals_15 m_X5_raise (c_raise (d := d) hb fa_81 (by decide)) wnX3_74 rfl (Nat.le_of_ble_eq_true rfl) (j_fit_rm (by omega) (by omega) (by omega)) rfl ?_
  refine j_aload_n x dX3_addGoals_18 rfl ?_
  refine j2_getr (k := 4) (r := 77) x hb dX3_addGoals_19 jc_7 wfX3_15 (by decide) rfl ?_
  refine j_iload_n x dX3_addGoals_22 rfl ?_
  refine j_iload_n x dX3_addGoals_23 rfl ?_
  refine j_iload_n x dX3_addGoals_24 rfl ?_
  refine j_b_icmp_le (T := 32) (E := 33) x dX3_addGoals_25 (by decide) dX3_addGoals_28 dX3_addGoals_29 (by decide) dX3_addGoals_32 (by decide) ?_
  refine j2_callSNv x hb dX3_addGoals_33 m_X5_raise (c_raise (d := d) hb fa_77 (by decide)) wnX3_74 rfl (Nat.le_of_ble_eq_true rfl) (j_fit_rm (by omega) (by omega) (by omega)) rfl ?_
  refine j_aload_n x dX3_addGoals_36 rfl ?_
  refine j2_getr (k := 5) (r := 78) x hb dX3_addGoals_37 jc_7 wfX3_18 (by decide) rfl ?_
  refine j_iload_n x dX3_addGoals_40 rfl ?_
  refine j_iload_n x dX3_addGoals_41 rfl ?_
  refine j_iload_n x dX3_addGoals_42 rfl ?_
  refine j_b_icmp_ne (T := 50) (E := 51) x dX3_addGoals_43 (by decide) dX3_addGoals_46 dX3_addGoals_47 (by decide) dX3_addGoals_50 (by decide) ?_
  refine j2_callSNv x hb dX3_addGoals_51 m_X5_raise (c_raise (d := d) hb fa_78 (by decide)) wnX3_74 rfl (Nat.le_of_ble_eq_true rfl) (j_fit_rm (by omega) (by omega) (by omega)) rfl ?_
  refine j_aload_n x dX3_addGoals_54 rfl ?_
  refine j2_getr (k := 6) (r := 79) x hb dX3_addGoals_55 jc_7 wfX3_21 (by decide) rfl ?_
  refine j_iload_n x dX3_addGoals_58 rfl ?_
  refine j_iload_n x dX3_addGoals_59 rfl ?_
  refine j_iload_n x dX3_addGoals_60 rfl ?_
  refine j_b_icmp_ge (T := 68) (E := 69) x dX3_addGoals_61 (by decide) dX3_addGoals_64 dX3_addGoals_65 (by decide) dX3_addGoals_68 (by decide) ?_
  refine j2_callSNv x hb dX3_addGoals_69 m_X5_raise (c_raise (d := d) hb fa_79 (by decide)) wnX3_74 rfl (Nat.le_of_ble_eq_true rfl) (j_fit_rm (by omega) (by omega) (by omega)) rfl ?_
  exact j_return x hr dX3_addGoals_72 (by omega) (by omega) ⟨rfl, rfl⟩
def jap (M : MM) (t u v w : Int32) : MM := jraise (jag (jag (jm (jm (jm M 75 0 (M 75 0 + 1)) 75 1 (M 75 1 + (v + w))) 75 2 (M 75 2 + jb (¬ v ≤ w))) t v w) u w v) 82 u w
theorem c_addPlayed {d : Nat} {b : SBt} {Y : OUt} {M : MM} (hb : 94 ≤ b.2.1) {t u v w : Int32} : CM (d + 2) 0 0 yX3_addPlayed cX3_addPlayed 5 none [.ref 75, .int t, .int u, .int v, .int w] b Y M (.inl none) (jap M t u v w) := by
  refine Con.of (by decide +kernel) (Nat.le_of_ble_eq_true rfl) rfl fun p l e s m args below meth c D tyc A ad0 x hr htab hname => ?_
  change JJ _ _ _ _ _ _ _ _ _ _ _ _ _ _ _ _ _ 0 [some (.ref 75), some (.int t), some (.int u), some (.int v), some (.int w)] [] _ 0 0
  refine j_aload_n x dX3_addPlayed_0 rfl ?_
  refine j_dup x dX3_addPlayed_1 rfl ?_
  refine j2_geti (k := 0) x hb dX3_addPlayed_2 jc_7 wfX3_78 (by decide) rfl ?_
  refine j_iconst (v := 1) x dX3_addPlayed_5 (by decide) ?_
  refine j_iadd x dX3_addPlayed_6 ?_
  refine j2_puti (k := 0) x hb dX3_addPlayed_7 jc_7 wfX3_78 (by decide) rfl rfl rfl rfl ?_
  refine j_aload_n x dX3_addPlayed_10 rfl ?_
  refine j_dup x dX3_addPlayed_11 rfl ?_
  refine j2_geti (k := 1) x hb dX3_addPlayed_12 jc_7 wfX3_82 (by decide) rfl ?_; rw [jm_n (by omega)]
  refine j_iload_n x dX3_addPlayed_15 rfl ?_
  refine j_iload x dX3_addPlayed_16 rfl ?_
  refine j_iadd x dX3_addPlayed_18 ?_
  refine j_iadd x dX3_addPlayed_19 ?_
  refine j2_puti (k := 1) x hb dX3_addPlayed_20 jc_7 wfX3_82 (by decide) rfl rfl rfl rfl ?_
  refine j_aload_n x dX3_addPlayed_23 rfl ?_
  refine j_dup x dX3_addPlayed_24 rfl ?_
  refine j2_geti (k := 2) x hb dX3_addPlayed_25 jc_7 wfX3_85 (by decide) rfl ?_; rw [jm_n (by omega), jm_n (by omega)]
  refine j_iload_n x dX3_addPlayed_28 rfl ?_
  refine j_iload x dX3_addPlayed_29 rfl ?_
  refine j_b_icmp_le (T := 38) (E := 39) x dX3_addPlayed_31 (by decide) dX3_addPlayed_34 dX3_addPlayed_35 (by decide) dX3_addPlayed_38 (by decide) ?_
  refine j_iadd x dX3_addPlayed_39 ?_
  refine j2_puti (k := 2) x hb dX3_addPlayed_40 jc_7 wfX3_85 (by decide) rfl rfl rfl rfl ?_
  refine j_aload_n x dX3_addPlayed_43 rfl ?_
  refine j_iload_n x dX3_addPlayed_44 rfl ?_
  refine j_iload_n x dX3_addPlayed_45 rfl ?_
  refine j_iload x dX3_addPlayed_46 rfl ?_
  refine j2_callVv x hb dX3_addPlayed_48 m_X3_addGoals (c_addGoals (d := d) hb) wmX3_92 jc_7 rfl rfl rfl (Nat.le_of_ble_eq_true rfl) (j_fit_rm (by omega) (by omega) (by omega)) rfl ?_
  refine j_aload_n x dX3_addPlayed_51 rfl ?_
  refine j_iload_n x dX3_addPlayed_52 rfl ?_
  refine j_iload x dX3_addPlayed_53 rfl ?_
  refine j_iload_n x dX3_addPlayed_55 rfl ?_
  refine j2_callVv x hb dX3_addPlayed_56 m_X3_addGoals (c_addGoals (d := d) hb) wmX3_92 jc_7 rfl rfl rfl (Nat.le_of_ble_eq_true rfl) (j_fit_rm (by omega) (by omega) (by omega)) rfl ?_
  refine j_aload_n x dX3_addPlayed_59 rfl ?_
  refine j2_getr (k := 9) (r := 82) x hb dX3_addPlayed_60 jc_7 wfX3_30 (by decide) rfl ?_
  refine j_iload_n x dX3_addPlayed_63 rfl ?_
  refine j_iload x dX3_addPlayed_64 rfl ?_
  refine j2_callSNv x hb dX3_addPlayed_66 m_X5_raise (c_raise (d := d) hb fa_82 (by decide)) wnX3_74 rfl (Nat.le_of_ble_eq_true rfl) (j_fit_rm (by omega) (by omega) (by omega)) rfl ?_
  exact j_return x hr dX3_addPlayed_69 (by omega) (by omega) ⟨rfl, rfl⟩
/-- the points of a meeting that ended u : v, w for a win, z for a draw, into the row i -/
def jpts (M : MM) (i : Nat) (t y u v w z : Int32) : MM := if u - v = 0 then jraise (jraise M i t z) i y z else jraise M i (if u - v ≤ 0 then y else t) w
theorem c_addPoints {d : Nat} {b : SBt} {Y : OUt} {M : MM} (hb : 94 ≤ b.2.1) {i n : Nat} {t y : Int32} (hi : fA i 100 8 = true) (hi1 : i ≠ 1) (hn : n < 56) : CM (d + 1) 0 0 yX3_addPoints cX3_addPoints 6 none [.ref i, .int t, .int y, .ref 1, .int (nI n)] b Y M (.inl none) (jpts M i t y (M 5 n) (M 6 n) (M 1 4) (M 1 5)) := by
  refine Con.of (by decide +kernel) (Nat.le_of_ble_eq_true rfl) rfl fun p l e s m args below meth c D tyc A ad0 x hr htab hname => ?_
  change JJ _ _ _ _ _ _ _ _ _ _ _ _ _ _ _ _ _ 0 [some (.ref i), some (.int t), some (.int y), some (.ref 1), some (.int (nI n)), none] [] _ 0 0
  refine j_aload_n x dX3_addPoints_0 rfl ?_
  refine j2_getr (k := 9) (r := 5) x hb dX3_addPoints_1 jc_6 wfX3_60 (by decide) rfl ?_
  refine j_iload x dX3_addPoints_4 rfl ?_
  refine j2_callSNi x hb dX3_addPoints_6 m_X5_at (c_at (d := d) hb fa_5 (by decide)) wnX3_47 rfl (Nat.le_of_ble_eq_true rfl) (j_fit_rm (by omega) (by omega) (by omega)) rfl ?_
  rw [jat_nI hn (by decide)]
  refine j_aload_n x dX3_addPoints_9 rfl ?_
  refine j2_getr (k := 10) (r := 6) x hb dX3_addPoints_10 jc_6 wfX3_63 (by decide) rfl ?_
  refine j_iload x dX3_addPoints_13 rfl ?_
  refine j2_callSNi x hb dX3_addPoints_15 m_X5_at (c_at (d := d) hb fa_6 (by decide)) wnX3_47 rfl (Nat.le_of_ble_eq_true rfl) (j_fit_rm (by omega) (by omega) (by omega)) rfl ?_
  rw [jat_nI hn (by decide)]
  refine j_isub x dX3_addPoints_18 ?_
  refine j_istore x dX3_addPoints_19 (by decide) rfl ?_
  refine j_iload x dX3_addPoints_21 rfl ?_
  refine j_if_ne (tgt := 47) x dX3_addPoints_23 (by decide) (fun h1 => ?_) (fun h1 => ?_)
  · refine j_aload_n x dX3_addPoints_47 rfl ?_
    refine j_iload x dX3_addPoints_48 rfl ?_
    refine j_if_le (tgt := 57) x dX3_addPoints_50 (by decide) (fun h2 => ?_) (fun h2 => ?_)
    · refine j_iload_n x dX3_addPoints_57 rfl ?_
      refine j_aload_n x dX3_addPoints_58 rfl ?_
      refine j2_geti (k := 4) x hb dX3_addPoints_59 jc_6 wfX3_99 (by decide) rfl ?_
      refine j2_callSNv x hb dX3_addPoints_62 m_X5_raise (c_raise (d := d) hb hi (by decide)) wnX3_74 rfl (Nat.le_of_ble_eq_true rfl) (j_fit_rm (by omega) (by omega) (by omega)) rfl ?_
      exact j_return x hr dX3_addPoints_65 (by omega) (by omega) ⟨rfl, by rw [jpts, if_neg h1, if_pos h2]; rfl⟩
    · refine j_iload_n x dX3_addPoints_53 rfl ?_
      refine j_goto (tgt := 58) x dX3_addPoints_54 (by decide) ?_
      refine j_aload_n x dX3_addPoints_58 rfl ?_
      refine j2_geti (k := 4) x hb dX3_addPoints_59 jc_6 wfX3_99 (by decide) rfl ?_
      refine j2_callSNv x hb dX3_addPoints_62 m_X5_raise (c_raise (d := d) hb hi (by decide)) wnX3_74 rfl (Nat.le_of_ble_eq_true rfl) (j_fit_rm (by omega) (by omega) (by omega)) rfl ?_
      exact j_return x hr dX3_addPoints_65 (by omega) (by omega) ⟨rfl, by rw [jpts, if_neg h1, if_neg h2]; rfl⟩
  · refine j_aload_n x dX3_addPoints_26 rfl ?_
    refine j_iload_n x dX3_addPoints_27 rfl ?_
    refine j_aload_n x dX3_addPoints_28 rfl ?_
    refine j2_geti (k := 5) x hb dX3_addPoints_29 jc_6 wfX3_96 (by decide) rfl ?_
    refine j2_callSNv x hb dX3_addPoints_32 m_X5_raise (c_raise (d := d) hb hi (by decide)) wnX3_74 rfl (Nat.le_of_ble_eq_true rfl) (j_fit_rm (by omega) (by omega) (by omega)) rfl ?_
    refine j_aload_n x dX3_addPoints_35 rfl ?_
    refine j_iload_n x dX3_addPoints_36 rfl ?_
    refine j_aload_n x dX3_addPoints_37 rfl ?_
    refine j2_geti (k := 5) x hb dX3_addPoints_38 jc_6 wfX3_96 (by decide) rfl ?_; rw [m_put (Ne.symm hi1)]
    refine j2_callSNv x hb dX3_addPoints_41 m_X5_raise (c_raise (d := d) hb hi (by decide)) wnX3_74 rfl (Nat.le_of_ble_eq_true rfl) (j_fit_rm (by omega) (by omega) (by omega)) rfl ?_
    refine j_goto (tgt := 65) x dX3_addPoints_44 (by decide) ?_
    exact j_return x hr dX3_addPoints_65 (by omega) (by omega) ⟨rfl, by rw [jpts, if_pos h1]; rfl⟩
def jwo (M : MM) (t r : Int32) : Int32 := if r = 0 then jat 8 (M 80) t - jat 8 (M 81) t else if r = 1 then jat 8 (M 80) t else if r = 2 then jat 8 (M 77) t else if r = 3 then jat 8 (M 84) t else jat 8 (M 82) t
theorem c_worth_0 {d : Nat} {b : SBt} {Y : OUt} {M : MM} (hb : 94 ≤ b.2.1) {t : Int32} : CM (d + 1) 0 0 yX3_worth cX3_worth 3 (some .int) [.ref 75, .int t, .int 0] b Y M (.inl (some (.int (jwo M t 0)))) (M) := by
  refine Con.of (by decide +kernel) (Nat.le_of_ble_eq_true rfl) rfl fun p l e s m args below meth c D tyc A ad0 x hr htab hname => ?_
  change JJ _ _ _ _ _ _ _ _ _ _ _ _ _ _ _ _ _ 0 [some (.ref 75), some (.int t), some (.int 0)] [] _ 0 0
  refine j_iload_n x dX3_worth_0 rfl ?_
  refine j_tableIn (tgt := 32) x dX3_worth_1 (by decide) (by decide) rfl (by decide) ?_
  refine j_aload_n x dX3_worth_32 rfl ?_
  refine j2_getr (k := 7) (r := 80) x hb dX3_worth_33 jc_7 wfX3_24 (by decide) rfl ?_
  refine j_iload_n x dX3_worth_36 rfl ?_
  refine j2_callSNi x hb dX3_worth_37 m_X5_at (c_at (d := d) hb fa_80 (by decide)) wnX3_47 rfl (Nat.le_of_ble_eq_true rfl) (j_fit_rm (by omega) (by omega) (by omega)) rfl ?_
  refine j_aload_n x dX3_worth_40 rfl ?_
  refine j2_getr (k := 8) (r := 81) x hb dX3_worth_41 jc_7 wfX3_27 (by decide) rfl ?_
  refine j_iload_n x dX3_worth_44 rfl ?_
  refine j2_callSNi x hb dX3_worth_45 m_X5_at (c_at (d := d) hb fa_81 (by decide)) wnX3_47 rfl (Nat.le_of_ble_eq_true rfl) (j_fit_rm (by omega) (by omega) (by omega)) rfl ?_
  refine j_isub x dX3_worth_48 ?_
  exact j_ireturn x hr dX3_worth_49 (by omega) (by omega) ⟨rfl, rfl⟩
theorem c_worth_1 {d : Nat} {b : SBt} {Y : OUt} {M : MM} (hb : 94 ≤ b.2.1) {t : Int32} : CM (d + 1) 0 0 yX3_worth cX3_worth 3 (some .int) [.ref 75, .int t, .int 1] b Y M (.inl (some (.int (jwo M t 1)))) (M) := by
  refine Con.of (by decide +kernel) (Nat.le_of_ble_eq_true rfl) rfl fun p l e s m args below meth c D tyc A ad0 x hr htab hname => ?_
  change JJ _ _ _ _ _ _ _ _ _ _ _ _ _ _ _ _ _ 0 [some (.ref 75), some (.int t), some (.int 1)] [] _ 0 0
  refine j_iload_n x dX3_worth_0 rfl ?_
  refine j_tableIn (tgt := 50) x dX3_worth_1 (by decide) (by decide) rfl (by decide) ?_
  refine j_aload_n x dX3_worth_50 rfl ?_
  refine j2_getr (k := 7) (r := 80) x hb dX3_worth_51 jc_7 wfX3_24 (by decide) rfl ?_
  refine j_iload_n x dX3_worth_54 rfl ?_
  refine j2_callSNi x hb dX3_worth_55 m_X5_at (c_at (d := d) hb fa_80 (by decide)) wnX3_47 rfl (Nat.le_of_ble_eq_true rfl) (j_fit_rm (by omega) (by omega) (by omega)) rfl ?_
  exact j_ireturn x hr dX3_worth_58 (by omega) (by omega) ⟨rfl, rfl⟩
theorem c_worth_2 {d : Nat} {b : SBt} {Y : OUt} {M : MM} (hb : 94 ≤ b.2.1) {t : Int32} : CM (d + 1) 0 0 yX3_worth cX3_worth 3 (some .int) [.ref 75, .int t, .int 2] b Y M (.inl (some (.int (jwo M t 2)))) (M) := by
  refine Con.of (by decide +kernel) (Nat.le_of_ble_eq_true rfl) rfl fun p l e s m args below meth c D tyc A ad0 x hr htab hname => ?_
  change JJ _ _ _ _ _ _ _ _ _ _ _ _ _ _ _ _ _ 0 [some (.ref 75), some (.int t), some (.int 2)] [] _ 0 0
  refine j_iload_n x dX3_worth_0 rfl ?_
  refine j_tableIn (tgt := 59) x dX3_worth_1 (by decide) (by decide) rfl (by decide) ?_
  refine j_aload_n x dX3_worth_59 rfl ?_
  refine j2_getr (k := 4) (r := 77) x hb dX3_worth_60 jc_7 wfX3_15 (by decide) rfl ?_
  refine j_iload_n x dX3_worth_63 rfl ?_
  refine j2_callSNi x hb dX3_worth_64 m_X5_at (c_at (d := d) hb fa_77 (by decide)) wnX3_47 rfl (Nat.le_of_ble_eq_true rfl) (j_fit_rm (by omega) (by omega) (by omega)) rfl ?_
  exact j_ireturn x hr dX3_worth_67 (by omega) (by omega) ⟨rfl, rfl⟩
theorem c_worth_3 {d : Nat} {b : SBt} {Y : OUt} {M : MM} (hb : 94 ≤ b.2.1) {t : Int32} : CM (d + 1) 0 0 yX3_worth cX3_worth 3 (some .int) [.ref 75, .int t, .int 3] b Y M (.inl (some (.int (jwo M t 3)))) (M) := by
  refine Con.of (by decide +kernel) (Nat.le_of_ble_eq_true rfl) rfl fun p l e s m args below meth c D tyc A ad0 x hr htab hname => ?_
  change JJ _ _ _ _ _ _ _ _ _ _ _ _ _ _ _ _ _ 0 [some (.ref 75), some (.int t), some (.int 3)] [] _ 0 0
  refine j_iload_n x dX3_worth_0 rfl ?_
  refine j_tableIn (tgt := 68) x dX3_worth_1 (by decide) (by decide) rfl (by decide) ?_
  refine j_aload_n x dX3_worth_68 rfl ?_
  refine j2_getr (k := 11) (r := 84) x hb dX3_worth_69 jc_7 wfX3_36 (by decide) rfl ?_
  refine j_iload_n x dX3_worth_72 rfl ?_
  refine j2_callSNi x hb dX3_worth_73 m_X5_at (c_at (d := d) hb fa_84 (by decide)) wnX3_47 rfl (Nat.le_of_ble_eq_true rfl) (j_fit_rm (by omega) (by omega) (by omega)) rfl ?_
  exact j_ireturn x hr dX3_worth_76 (by omega) (by omega) ⟨rfl, rfl⟩
theorem c_worth_4 {d : Nat} {b : SBt} {Y : OUt} {M : MM} (hb : 94 ≤ b.2.1) {t : Int32} : CM (d + 1) 0 0 yX3_worth cX3_worth 3 (some .int) [.ref 75, .int t, .int 4] b Y M (.inl (some (.int (jwo M t 4)))) (M) := by
  refine Con.of (by decide +kernel) (Nat.le_of_ble_eq_true rfl) rfl fun p l e s m args below meth c D tyc A ad0 x hr htab hname => ?_
  change JJ _ _ _ _ _ _ _ _ _ _ _ _ _ _ _ _ _ 0 [some (.ref 75), some (.int t), some (.int 4)] [] _ 0 0
  refine j_iload_n x dX3_worth_0 rfl ?_
  refine j_tableOut (tgt := 77) x dX3_worth_1 (by decide) (by decide) ?_
  refine j_aload_n x dX3_worth_77 rfl ?_
  refine j2_getr (k := 9) (r := 82) x hb dX3_worth_78 jc_7 wfX3_30 (by decide) rfl ?_
  refine j_iload_n x dX3_worth_81 rfl ?_
  refine j2_callSNi x hb dX3_worth_82 m_X5_at (c_at (d := d) hb fa_82 (by decide)) wnX3_47 rfl (Nat.le_of_ble_eq_true rfl) (j_fit_rm (by omega) (by omega) (by omega)) rfl ?_
  exact j_ireturn x hr dX3_worth_85 (by omega) (by omega) ⟨rfl, rfl⟩
theorem jpts_n {M : MM} {a : Nat} {t y u v w z : Int32} {i k : Nat} (h : i ≠ a) : jpts M a t y u v w z i k = M i k := by
  unfold jpts
  split
  · rw [jraise_n h, jraise_n h]
  · rw [jraise_n h]
theorem jag_n {M : MM} {t u v : Int32} {i k : Nat} (h : i < 77 ∨ 81 < i) : jag M t u v i k = M i k := by
  unfold jag
  rw [jraise_n (by omega), jraise_n (by omega), jraise_n (by omega), jraise_n (by omega), jraise_n (by omega)]
theorem jap_n {M : MM} {t u v w : Int32} {i k : Nat} (h : i < 75 ∨ i = 76 ∨ 82 < i) : jap M t u v w i k = M i k := by
  unfold jap
  rw [jraise_n (by omega), jag_n (by omega), jag_n (by omega), jm_n (by omega), jm_n (by omega), jm_n (by omega)]
def jt1 (M : MM) : Nat → MM
  | 0 => jclear M
  | m + 1 => if M 5 m = -1 then jraise (jraise (jt1 M m) 83 (M 70 m) 1) 83 (M 71 m) 1 else jpts (jap (jt1 M m) (M 70 m) (M 71 m) (M 5 m) (M 6 m)) 76 (M 70 m) (M 71 m) (M 5 m) (M 6 m) (M 1 4) (M 1 5)
theorem jt1_n {M : MM} {i k : Nat} (h : i < 75 ∨ 84 < i) : ∀ n, jt1 M n i k = M i k
  | 0 => jclear_n h
  | n + 1 => by
    rw [jt1]
    split
    · rw [jraise_n (by omega), jraise_n (by omega)]; exact jt1_n h n
    · rw [jpts_n (by omega), jap_n (by omega)]; exact jt1_n h n
def jt2 (M : MM) (n : Nat) : Nat → MM
  | 0 => jt1 M n
  | m + 1 => if M 5 m = -1 then jt2 M n m else if jat 8 (jt1 M n 76) (M 70 m) = jat 8 (jt1 M n 76) (M 71 m) then jpts (jt2 M n m) 84 (M 70 m) (M 71 m) (M 5 m) (M 6 m) (M 1 4) (M 1 5) else jt2 M n m
theorem jt2_n {M : MM} {i k n : Nat} (h : i ≠ 84) : ∀ m, jt2 M n m i k = jt1 M n i k
  | 0 => rfl
  | m + 1 => by
    rw [jt2]
    split
    · exact jt2_n h m
    · split
      · rw [jpts_n (by omega)]; exact jt2_n h m
      · exact jt2_n h m
theorem jt2_o {M : MM} {i k n : Nat} (h : i < 75 ∨ 84 < i) (m : Nat) : jt2 M n m i k = M i k := by rw [jt2_n (by omega), jt1_n h]
theorem c_tallyTake {d : Nat} {b : SBt} {Y : OUt} {M : MM} (hb : 94 ≤ b.2.1) {n : Nat} (hn : n ≤ 56) : CM (d + 3) 0 0 yX3_take cX3_take 7 none [.ref 75, .ref 1, .ref 69, .int (nI n)] b Y M (.inl none) (jt2 M n n) := by
  refine Con.of (by decide +kernel) (Nat.le_of_ble_eq_true rfl) rfl fun p l e s m args below meth c D tyc A ad0 x hr htab hname => ?_
  change JJ _ _ _ _ _ _ _ _ _ _ _ _ _ _ _ _ _ 0 [some (.ref 75), some (.ref 1), some (.ref 69), some (.int (nI n)), none, none, none] [] _ 0 0
  refine j_aload_n x dX3_take_0 rfl ?_
  refine j2_callVv x hb dX3_take_1 m_X3_clear (c_clear (d := d) hb) wmX3_39 jc_7 rfl rfl rfl (Nat.le_of_ble_eq_true rfl) (j_fit_rm (by omega) (by omega) (by omega)) rfl ?_
  refine j_iconst (v := 0) x dX3_take_4 (by decide) ?_
  refine j_istore x dX3_take_5 (by decide) rfl ?_
  refine j_for (n) (fun j => [some (.ref 75), some (.ref 1), some (.ref 69), some (.int (nI n)), some (.int (nI j)), none, none]) (fun j => jt1 M j) (fun j => True) (rfl) (rfl) (trivial) (fun j hj hP ih => ?_) (fun hP => ?_)
  · refine j_iload x dX3_take_7 rfl ?_
    refine j_iload_n x dX3_take_9 rfl ?_
    refine j_icmp_ge (tgt := 113) x dX3_take_10 (by decide) (fun hc => absurd hc (nI_ge hj (by omega))) (fun hc => ?_)
    refine j_aload_n x dX3_take_13 rfl ?_
    refine j2_getr (k := 2) (r := 70) x hb dX3_take_14 jc_4 wfX3_42 (by decide) rfl ?_
    refine j_iload x dX3_take_17 rfl ?_
    refine j2_callSNi x hb dX3_take_19 m_X5_at (CM_v (c_at (d := d) hb fa_70 (by decide)) (show jat 56 _ (nI j) = M 70 j by rw [jat_nI (by omega) (by decide), jt1_n (by omega)])) wnX3_47 rfl (Nat.le_of_ble_eq_true rfl) (j_fit_rm (by omega) (by omega) (by omega)) rfl ?_
    refine j_istore x dX3_take_22 (by decide) rfl ?_
    refine j_aload_n x dX3_take_24 rfl ?_
    refine j2_getr (k := 3) (r := 71) x hb dX3_take_25 jc_4 wfX3_51 (by decide) rfl ?_
    refine j_iload x dX3_take_28 rfl ?_
    refine j2_callSNi x hb dX3_take_30 m_X5_at (CM_v (c_at (d := d) hb fa_71 (by decide)) (show jat 56 _ (nI j) = M 71 j by rw [jat_nI (by omega) (by decide), jt1_n (by omega)])) wnX3_47 rfl (Nat.le_of_ble_eq_true rfl) (j_fit_rm (by omega) (by omega) (by omega)) rfl ?_
    refine j_istore x dX3_take_33 (by decide) rfl ?_
    refine j_aload_n x dX3_take_35 rfl ?_
    refine j_iload x dX3_take_36 rfl ?_
    refine j2_callVi x hb dX3_take_38 m_X2_isPlayed (CM_v (c_isPlayed (d := d) (a := 1) hb rfl) (show _ = jb (¬ M 5 j = -1) by rw [jat_nI (by omega) (by decide), jt1_n (by omega)])) wmX3_54 jc_6 rfl rfl rfl (Nat.le_of_ble_eq_true rfl) (j_fit_rm (by omega) (by omega) (by omega)) rfl ?_
    refine j_if_eq (tgt := 87) x dX3_take_41 (by decide) (fun h1 => ?_) (fun h1 => ?_)
    · refine j_aload_n x dX3_take_87 rfl ?_
      refine j2_getr (k := 10) (r := 83) x hb dX3_take_88 jc_7 wfX3_33 (by decide) rfl ?_
      refine j_iload x dX3_take_91 rfl ?_
      refine j_iconst (v := 1) x dX3_take_93 (by decide) ?_
      refine j2_callSNv x hb dX3_take_94 m_X5_raise (c_raise (d := d) hb fa_83 (by decide)) wnX3_74 rfl (Nat.le_of_ble_eq_true rfl) (j_fit_rm (by omega) (by omega) (by omega)) rfl ?_
      refine j_aload_n x dX3_take_97 rfl ?_
      refine j2_getr (k := 10) (r := 83) x hb dX3_take_98 jc_7 wfX3_33 (by decide) rfl ?_
      refine j_iload x dX3_take_101 rfl ?_
      refine j_iconst (v := 1) x dX3_take_103 (by decide) ?_
      refine j2_callSNv x hb dX3_take_104 m_X5_raise (c_raise (d := d) hb fa_83 (by decide)) wnX3_74 rfl (Nat.le_of_ble_eq_true rfl) (j_fit_rm (by omega) (by omega) (by omega)) rfl ?_
      refine j_iinc x dX3_take_107 rfl (by decide) rfl ?_
      refine j_goto (tgt := 7) x dX3_take_110 (by decide) ?_
      exact j_goal (ih (trivial)) (wk_c rfl (wk_c rfl (wk_c rfl (wk_c rfl (wk_c (congrArg (fun z => some (Value.int z)) (nI_1 _)) (wk_n (wk_n (wk_0)))))))) (by rw [jt1, if_pos (Decidable.not_not.mp (jb_0.mp h1))]; rfl)
    · refine j_aload_n x dX3_take_44 rfl ?_
      refine j_iload x dX3_take_45 rfl ?_
      refine j_iload x dX3_take_47 rfl ?_
      refine j_aload_n x dX3_take_49 rfl ?_
      refine j2_getr (k := 9) (r := 5) x hb dX3_take_50 jc_6 wfX3_60 (by decide) rfl ?_
      refine j_iload x dX3_take_53 rfl ?_
      refine j2_callSNi x hb dX3_take_55 m_X5_at (CM_v (c_at (d := d) hb fa_5 (by decide)) (show jat 56 _ (nI j) = M 5 j by rw [jat_nI (by omega) (by decide), jt1_n (by omega)])) wnX3_47 rfl (Nat.le_of_ble_eq_true rfl) (j_fit_rm (by omega) (by omega) (by omega)) rfl ?_
      refine j_aload_n x dX3_take_58 rfl ?_
      refine j2_getr (k := 10) (r := 6) x hb dX3_take_59 jc_6 wfX3_63 (by decide) rfl ?_
      refine j_iload x dX3_take_62 rfl ?_
      refine j2_callSNi x hb dX3_take_64 m_X5_at (CM_v (c_at (d := d) hb fa_6 (by decide)) (show jat 56 _ (nI j) = M 6 j by rw [jat_nI (by omega) (by decide), jt1_n (by omega)])) wnX3_47 rfl (Nat.le_of_ble_eq_true rfl) (j_fit_rm (by omega) (by omega) (by omega)) rfl ?_
      refine j2_callVv x hb dX3_take_67 m_X3_addPlayed (c_addPlayed (d := d) hb) wmX3_66 jc_7 rfl rfl rfl (Nat.le_of_ble_eq_true rfl) (j_fit_rm (by omega) (by omega) (by omega)) rfl ?_
      refine j_aload_n x dX3_take_70 rfl ?_
      refine j2_getr (k := 3) (r := 76) x hb dX3_take_71 jc_7 wfX3_9 (by decide) rfl ?_
      refine j_iload x dX3_take_74 rfl ?_
      refine j_iload x dX3_take_76 rfl ?_
      refine j_aload_n x dX3_take_78 rfl ?_
      refine j_iload x dX3_take_79 rfl ?_
      refine j2_callSv x hb dX3_take_81 m_X3_addPoints (show CM (d + 1) 0 0 _ _ _ _ _ b Y (jap (jt1 M j) (M 70 j) (M 71 j) (M 5 j) (M 6 j)) (.inl none) (jpts (jap (jt1 M j) (M 70 j) (M 71 j) (M 5 j) (M 6 j)) 76 (M 70 j) (M 71 j) (M 5 j) (M 6 j) (M 1 4) (M 1 5)) from by have q := c_addPoints (d := d) (Y := Y) (M := (jap (jt1 M j) (M 70 j) (M 71 j) (M 5 j) (M 6 j))) hb (i := 76) (n := j) (t := M 70 j) (y := M 71 j) fa_76 (by decide) (by omega); rw [jap_n (by omega), jap_n (by omega), jap_n (by omega), jap_n (by omega), jt1_n (by omega), jt1_n (by omega), jt1_n (by omega), jt1_n (by omega)] at q; exact q) wmX3_70 rfl (Nat.le_of_ble_eq_true rfl) (j_fit_rm (by omega) (by omega) (by omega)) rfl ?_
      refine j_goto (tgt := 107) x dX3_take_84 (by decide) ?_
      refine j_iinc x dX3_take_107 rfl (by decide) rfl ?_
      refine j_goto (tgt := 7) x dX3_take_110 (by decide) ?_
      exact j_goal (ih (trivial)) (wk_c rfl (wk_c rfl (wk_c rfl (wk_c rfl (wk_c (congrArg (fun z => some (Value.int z)) (nI_1 _)) (wk_n (wk_n (wk_0)))))))) (by rw [jt1, if_neg (jb_nz.mp h1)])
  refine j_iload x dX3_take_7 rfl ?_
  refine j_iload_n x dX3_take_9 rfl ?_
  refine j_icmp_ge (tgt := 113) x dX3_take_10 (by decide) (fun hc => ?_) (fun hc => absurd (nI_le (Nat.le_refl _) (by omega)) hc)
  refine j_iconst (v := 0) x dX3_take_113 (by decide) ?_
  refine j_istore x dX3_take_114 (by decide) rfl ?_
  refine j_for (n) (fun j => [some (.ref 75), some (.ref 1), some (.ref 69), some (.int (nI n)), some (.int (nI j)), none, none]) (fun j => jt2 M n j) (fun j => True) (rfl) (rfl) (trivial) (fun j hj hP ih => ?_) (fun hP => ?_)
  · refine j_iload x dX3_take_116 rfl ?_
    refine j_iload_n x dX3_take_118 rfl ?_
    refine j_icmp_ge (tgt := 194) x dX3_take_119 (by decide) (fun hc => absurd hc (nI_ge hj (by omega))) (fun hc => ?_)
    refine j_aload_n x dX3_take_122 rfl ?_
    refine j2_getr (k := 2) (r := 70) x hb dX3_take_123 jc_4 wfX3_42 (by decide) rfl ?_
    refine j_iload x dX3_take_126 rfl ?_
    refine j2_callSNi x hb dX3_take_128 m_X5_at (CM_v (c_at (d := d) hb fa_70 (by decide)) (show jat 56 _ (nI j) = M 70 j by rw [jat_nI (by omega) (by decide), jt2_o (by omega)])) wnX3_47 rfl (Nat.le_of_ble_eq_true rfl) (j_fit_rm (by omega) (by omega) (by omega)) rfl ?_
    refine j_istore x dX3_take_131 (by decide) rfl ?_
    refine j_aload_n x dX3_take_133 rfl ?_
    refine j2_getr (k := 3) (r := 71) x hb dX3_take_134 jc_4 wfX3_51 (by decide) rfl ?_
    refine j_iload x dX3_take_137 rfl ?_
    refine j2_callSNi x hb dX3_take_139 m_X5_at (CM_v (c_at (d := d) hb fa_71 (by decide)) (show jat 56 _ (nI j) = M 71 j by rw [jat_nI (by omega) (by decide), jt2_o (by omega)])) wnX3_47 rfl (Nat.le_of_ble_eq_true rfl) (j_fit_rm (by omega) (by omega) (by omega)) rfl ?_
    refine j_istore x dX3_take_142 (by decide) rfl ?_
    refine j_aload_n x dX3_take_144 rfl ?_
    refine j_iload x dX3_take_145 rfl ?_
    refine j2_callVi x hb dX3_take_147 m_X2_isPlayed (CM_v (c_isPlayed (d := d) (a := 1) hb rfl) (show _ = jb (¬ M 5 j = -1) by rw [jat_nI (by omega) (by decide), jt2_o (by omega)])) wmX3_54 jc_6 rfl rfl rfl (Nat.le_of_ble_eq_true rfl) (j_fit_rm (by omega) (by omega) (by omega)) rfl ?_
    refine j_if_eq (tgt := 188) x dX3_take_150 (by decide) (fun h1 => ?_) (fun h1 => ?_)
    · refine j_iinc x dX3_take_188 rfl (by decide) rfl ?_
      refine j_goto (tgt := 116) x dX3_take_191 (by decide) ?_
      exact j_goal (ih (trivial)) (wk_c rfl (wk_c rfl (wk_c rfl (wk_c rfl (wk_c (congrArg (fun z => some (Value.int z)) (nI_1 _)) (wk_n (wk_n (wk_0)))))))) (by rw [jt2, if_pos (Decidable.not_not.mp (jb_0.mp h1))])
    · refine j_aload_n x dX3_take_153 rfl ?_
      refine j2_getr (k := 3) (r := 76) x hb dX3_take_154 jc_7 wfX3_9 (by decide) rfl ?_
      refine j_iload x dX3_take_157 rfl ?_
      refine j2_callSNi x hb dX3_take_159 m_X5_at (CM_v (c_at (d := d) hb fa_76 (by decide)) (show _ = jat 8 (jt1 M n 76) (M 70 j) by rw [show jt2 M n j 76 = jt1 M n 76 from funext fun k => jt2_n (by omega) j])) wnX3_47 rfl (Nat.le_of_ble_eq_true rfl) (j_fit_rm (by omega) (by omega) (by omega)) rfl ?_
      refine j_aload_n x dX3_take_162 rfl ?_
      refine j2_getr (k := 3) (r := 76) x hb dX3_take_163 jc_7 wfX3_9 (by decide) rfl ?_
      refine j_iload x dX3_take_166 rfl ?_
      refine j2_callSNi x hb dX3_take_168 m_X5_at (CM_v (c_at (d := d) hb fa_76 (by decide)) (show _ = jat 8 (jt1 M n 76) (M 71 j) by rw [show jt2 M n j 76 = jt1 M n 76 from funext fun k => jt2_n (by omega) j])) wnX3_47 rfl (Nat.le_of_ble_eq_true rfl) (j_fit_rm (by omega) (by omega) (by omega)) rfl ?_
      refine j_icmp_ne (tgt := 188) x dX3_take_171 (by decide) (fun h2 => ?_) (fun h2 => ?_)
      · refine j_iinc x dX3_take_188 rfl (by decide) rfl ?_
        refine j_goto (tgt := 116) x dX3_take_191 (by decide) ?_
        exact j_goal (ih (trivial)) (wk_c rfl (wk_c rfl (wk_c rfl (wk_c rfl (wk_c (congrArg (fun z => some (Value.int z)) (nI_1 _)) (wk_n (wk_n (wk_0)))))))) (by rw [jt2, if_neg (jb_nz.mp h1), if_neg h2])
      · refine j_aload_n x dX3_take_174 rfl ?_
        refine j2_getr (k := 11) (r := 84) x hb dX3_take_175 jc_7 wfX3_36 (by decide) rfl ?_
        refine j_iload x dX3_take_178 rfl ?_
        refine j_iload x dX3_take_180 rfl ?_
        refine j_aload_n x dX3_take_182 rfl ?_
        refine j_iload x dX3_take_183 rfl ?_
        refine j2_callSv x hb dX3_take_185 m_X3_addPoints (show CM (d + 1) 0 0 _ _ _ _ _ b Y (jt2 M n j) (.inl none) (jpts (jt2 M n j) 84 (M 70 j) (M 71 j) (M 5 j) (M 6 j) (M 1 4) (M 1 5)) from by have q := c_addPoints (d := d) (Y := Y) (M := (jt2 M n j)) hb (i := 84) (n := j) (t := M 70 j) (y := M 71 j) fa_84 (by decide) (by omega); rw [jt2_o (by omega), jt2_o (by omega), jt2_o (by omega), jt2_o (by omega)] at q; exact q) wmX3_70 rfl (Nat.le_of_ble_eq_true rfl) (j_fit_rm (by omega) (by omega) (by omega)) rfl ?_
        refine j_iinc x dX3_take_188 rfl (by decide) rfl ?_
        refine j_goto (tgt := 116) x dX3_take_191 (by decide) ?_
        exact j_goal (ih (trivial)) (wk_c rfl (wk_c rfl (wk_c rfl (wk_c rfl (wk_c (congrArg (fun z => some (Value.int z)) (nI_1 _)) (wk_n (wk_n (wk_0)))))))) (by rw [jt2, if_neg (jb_nz.mp h1), if_pos h2])
  refine j_iload x dX3_take_116 rfl ?_
  refine j_iload_n x dX3_take_118 rfl ?_
  refine j_icmp_ge (tgt := 194) x dX3_take_119 (by decide) (fun hc => ?_) (fun hc => absurd (nI_le (Nat.le_refl _) (by omega)) hc)
  exact j_return x hr dX3_take_194 (by omega) (by omega) ⟨rfl, rfl⟩
def jcount (M : MM) (n : Nat) : MM := jt2 M n n
theorem c_count {d : Nat} {b : SBt} {Y : OUt} {M : MM} (hb : 94 ≤ b.2.1) {n : Nat} (hn : n ≤ 56) (hm : jmc M = nI n) : CM (d + 4) 0 0 yX5_count cX5_count 1 none [.ref 0] b Y M (.inl none) (jcount M n) := by
  refine Con.of (by decide +kernel) (Nat.le_of_ble_eq_true rfl) rfl fun p l e s m args below meth c D tyc A ad0 x hr htab hname => ?_
  change JJ _ _ _ _ _ _ _ _ _ _ _ _ _ _ _ _ _ 0 [some (.ref 0)] [] _ 0 0
  refine j_aload_n x dX5_count_0 rfl ?_
  refine j2_getr (k := 5) (r := 75) x hb dX5_count_1 jc_9 wfX5_36 (by decide) rfl ?_
  refine j_aload_n x dX5_count_4 rfl ?_
  refine j2_getr (k := 0) (r := 1) x hb dX5_count_5 jc_9 wfX5_10 (by decide) rfl ?_
  refine j_aload_n x dX5_count_8 rfl ?_
  refine j2_getr (k := 4) (r := 69) x hb dX5_count_9 jc_9 wfX5_29 (by decide) rfl ?_
  refine j_aload_n x dX5_count_12 rfl ?_
  refine j2_callVi x hb dX5_count_13 m_X5_meetingCount (CM_v (c_meetingCount (d := d) hb) hm) wmX5_258 jc_9 rfl rfl rfl (Nat.le_of_ble_eq_true rfl) (j_fit_rm (by omega) (by omega) (by omega)) rfl ?_
  refine j2_callVv x hb dX5_count_16 m_X3_take (c_tallyTake (d := d) hb hn) wmX5_466 jc_7 rfl rfl rfl (Nat.le_of_ble_eq_true rfl) (j_fit_rm (by omega) (by omega) (by omega)) rfl ?_
  exact j_return x hr dX5_count_19 (by omega) (by omega) ⟨rfl, rfl⟩
theorem jcount_n {M : MM} {i k n : Nat} (h : i < 75 ∨ 84 < i) : jcount M n i k = M i k := jt2_o h n
