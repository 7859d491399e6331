/-! ===== the questions, at any store ===== -/
theorem c_worth {d : Nat} {b : SBt} {Y : OUt} {M : MM} (hb : 94 ≤ b.2.1) {t r : Int32} (h : r = 0 ∨ r = 1 ∨ r = 2 ∨ r = 3 ∨ r = 4) : CM (d + 1) 0 0 yX3_worth cX3_worth 3 (some .int) [.ref 75, .int t, .int r] b Y M (.inl (some (.int (jwo M t r)))) M := by
  rcases h with rfl | rfl | rfl | rfl | rfl
  · exact c_worth_0 hb
  · exact c_worth_1 hb
  · exact c_worth_2 hb
  · exact c_worth_3 hb
  · exact c_worth_4 hb
def jlead (M : MM) (u v : Int32) : Nat → Int32
  | 0 => jat 8 (M 76) u - jat 8 (M 76) v
  | i + 1 => if jlead M u v i = 0 then jwo M u (M 3 i) - jwo M v (M 3 i) else jlead M u v i
theorem jlead_keep {M : MM} {u v : Int32} {i : Nat} (h : ¬ jlead M u v i = 0) : ∀ {r : Nat}, i ≤ r → jlead M u v r = jlead M u v i
  | 0, h1 => by rw [show i = 0 by omega]
  | r + 1, h1 => by
    by_cases hr : i = r + 1
    · rw [hr]
    · have h2 := jlead_keep h (r := r) (by omega)
      rw [jlead, h2, if_neg h]
def jah (M : MM) (r : Nat) (u v : Int32) : Int32 := if jlead M u v r = 0 then jb (¬ v ≤ u) else jb (¬ jlead M u v r ≤ 0)
theorem c_isAhead {d : Nat} {b : SBt} {Y : OUt} {M : MM} (hb : 94 ≤ b.2.1) {u v : Int32} {r : Nat} (hr3 : r ≤ 3) (h6 : M 1 6 = nI r) (hru : ∀ i, i < r → M 3 i = 0 ∨ M 3 i = 1 ∨ M 3 i = 2 ∨ M 3 i = 3 ∨ M 3 i = 4) : CM (d + 2) 0 0 yX5_isAhead cX5_isAhead 6 (some .boolean) [.ref 0, .int u, .int v] b Y M (.inl (some (.int (jah M r u v)))) (M) := by
  refine Con.of (by decide +kernel) (Nat.le_of_ble_eq_true rfl) rfl fun p l e s m args below meth c D tyc A ad0 x hr htab hname => ?_
  change JJ _ _ _ _ _ _ _ _ _ _ _ _ _ _ _ _ _ 0 [some (.ref 0), some (.int u), some (.int v), none, none, none] [] _ 0 0
  refine j_aload_n x dX5_isAhead_0 rfl ?_
  refine j2_getr (k := 5) (r := 75) x hb dX5_isAhead_1 jc_9 wfX5_36 (by decide) rfl ?_
  refine j2_getr (k := 3) (r := 76) x hb dX5_isAhead_4 jc_7 wfX5_190 (by decide) rfl ?_
  refine j_iload_n x dX5_isAhead_7 rfl ?_
  refine j2_callSi x hb dX5_isAhead_8 m_X5_at (c_at (d := d) hb fa_76 (by decide)) wmX5_93 rfl (Nat.le_of_ble_eq_true rfl) (j_fit_rm (by omega) (by omega) (by omega)) rfl ?_
  refine j_aload_n x dX5_isAhead_11 rfl ?_
  refine j2_getr (k := 5) (r := 75) x hb dX5_isAhead_12 jc_9 wfX5_36 (by decide) rfl ?_
  refine j2_getr (k := 3) (r := 76) x hb dX5_isAhead_15 jc_7 wfX5_190 (by decide) rfl ?_
  refine j_iload_n x dX5_isAhead_18 rfl ?_
  refine j2_callSi x hb dX5_isAhead_19 m_X5_at (c_at (d := d) hb fa_76 (by decide)) wmX5_93 rfl (Nat.le_of_ble_eq_true rfl) (j_fit_rm (by omega) (by omega) (by omega)) rfl ?_
  refine j_isub x dX5_isAhead_22 ?_
  refine j_istore_n x dX5_isAhead_23 (by decide) rfl ?_
  refine j_iconst (v := 0) x dX5_isAhead_24 (by decide) ?_
  refine j_istore x dX5_isAhead_25 (by decide) rfl ?_
  refine j_for (r) (fun z0 => [some (.ref 0), some (.int u), some (.int v), some (.int (jlead M u v z0)), some (.int (nI z0)), none]) (fun z0 => M) (fun z0 => True) (rfl) (rfl) (trivial) (fun j hj hP ih => ?_) (fun hP => ?_)
  · refine j_iload x dX5_isAhead_27 rfl ?_
    refine j_aload_n x dX5_isAhead_29 rfl ?_
    refine j2_getr (k := 0) (r := 1) x hb dX5_isAhead_30 jc_9 wfX5_10 (by decide) rfl ?_
    refine j2_geti (k := 6) x hb dX5_isAhead_33 jc_6 wfX5_135 (by decide) rfl ?_; rw [h6]
    refine j_icmp_ge (tgt := 85) x dX5_isAhead_36 (by decide) (fun hc => absurd hc (nI_ge hj (by omega))) (fun hc => ?_)
    refine j_iload_n x dX5_isAhead_39 rfl ?_
    refine j_if_ne (tgt := 85) x dX5_isAhead_40 (by decide) (fun h1 => ?_) (fun h1 => ?_)
    · refine j_iload_n x dX5_isAhead_85 rfl ?_
      refine j_if_eq (tgt := 101) x dX5_isAhead_86 (by decide) (fun g0 => ?_) (fun g0 => ?_)
      · refine j_iload_n x dX5_isAhead_101 rfl ?_
        refine j_iload_n x dX5_isAhead_102 rfl ?_
        refine j_b_icmp_ge (T := 110) (E := 111) x dX5_isAhead_103 (by decide) dX5_isAhead_106 dX5_isAhead_107 (by decide) dX5_isAhead_110 (by decide) ?_
        exact j_zreturn x hr dX5_isAhead_111 (by first | decide | with_reducible exact jb_nar | with_reducible exact jisS_nar | with_reducible exact gno_nar) (by omega) (by omega) ⟨by rw [jah, jlead_keep h1 (Nat.le_of_lt hj), if_pos g0], rfl⟩
      · refine j_iload_n x dX5_isAhead_89 rfl ?_
        refine j_if_le (tgt := 97) x dX5_isAhead_90 (by decide) (fun g1 => ?_) (fun g1 => ?_)
        · refine j_iconst (v := 0) x dX5_isAhead_97 (by decide) ?_
          refine j_goto (tgt := 111) x dX5_isAhead_98 (by decide) ?_
          exact j_zreturn x hr dX5_isAhead_111 (by first | decide | with_reducible exact jb_nar | with_reducible exact jisS_nar | with_reducible exact gno_nar) (by omega) (by omega) ⟨by rw [jah, jlead_keep h1 (Nat.le_of_lt hj), if_neg g0, jb_f (fun q => q g1)], rfl⟩
        · refine j_iconst (v := 1) x dX5_isAhead_93 (by decide) ?_
          refine j_goto (tgt := 111) x dX5_isAhead_94 (by decide) ?_
          exact j_zreturn x hr dX5_isAhead_111 (by first | decide | with_reducible exact jb_nar | with_reducible exact jisS_nar | with_reducible exact gno_nar) (by omega) (by omega) ⟨by rw [jah, jlead_keep h1 (Nat.le_of_lt hj), if_neg g0, jb_t g1], rfl⟩
    · refine j_aload_n x dX5_isAhead_43 rfl ?_
      refine j2_getr (k := 0) (r := 1) x hb dX5_isAhead_44 jc_9 wfX5_10 (by decide) rfl ?_
      refine j2_getr (k := 7) (r := 3) x hb dX5_isAhead_47 jc_6 wfX5_469 (by decide) rfl ?_
      refine j_iload x dX5_isAhead_50 rfl ?_
      refine j2_callSi x hb dX5_isAhead_52 m_X5_at (CM_v (c_at (d := d) hb fa_3 (by decide)) (jat_nI (show j < 3 by omega) (by decide))) wmX5_93 rfl (Nat.le_of_ble_eq_true rfl) (j_fit_rm (by omega) (by omega) (by omega)) rfl ?_
      refine j_istore x dX5_isAhead_55 (by decide) rfl ?_
      refine j_aload_n x dX5_isAhead_57 rfl ?_
      refine j2_getr (k := 5) (r := 75) x hb dX5_isAhead_58 jc_9 wfX5_36 (by decide) rfl ?_
      refine j_iload_n x dX5_isAhead_61 rfl ?_
      refine j_iload x dX5_isAhead_62 rfl ?_
      refine j2_callVi x hb dX5_isAhead_64 m_X3_worth (c_worth (d := d) hb (hru j hj)) wmX5_279 jc_7 rfl rfl rfl (Nat.le_of_ble_eq_true rfl) (j_fit_rm (by omega) (by omega) (by omega)) rfl ?_
      refine j_aload_n x dX5_isAhead_67 rfl ?_
      refine j2_getr (k := 5) (r := 75) x hb dX5_isAhead_68 jc_9 wfX5_36 (by decide) rfl ?_
      refine j_iload_n x dX5_isAhead_71 rfl ?_
      refine j_iload x dX5_isAhead_72 rfl ?_
      refine j2_callVi x hb dX5_isAhead_74 m_X3_worth (c_worth (d := d) hb (hru j hj)) wmX5_279 jc_7 rfl rfl rfl (Nat.le_of_ble_eq_true rfl) (j_fit_rm (by omega) (by omega) (by omega)) rfl ?_
      refine j_isub x dX5_isAhead_77 ?_
      refine j_istore_n x dX5_isAhead_78 (by decide) rfl ?_
      refine j_iinc x dX5_isAhead_79 rfl (by decide) rfl ?_
      refine j_goto (tgt := 27) x dX5_isAhead_82 (by decide) ?_
      exact j_goal (ih (trivial)) (wk_c rfl (wk_c rfl (wk_c rfl (wk_c (congrArg (fun z => some (Value.int z)) (show _ = jlead M u v (j + 1) by rw [jlead, if_pos h1])) (wk_c (congrArg (fun z => some (Value.int z)) (nI_1 _)) (wk_n (wk_0))))))) (rfl)
  refine j_iload x dX5_isAhead_27 rfl ?_
  refine j_aload_n x dX5_isAhead_29 rfl ?_
  refine j2_getr (k := 0) (r := 1) x hb dX5_isAhead_30 jc_9 wfX5_10 (by decide) rfl ?_
  refine j2_geti (k := 6) x hb dX5_isAhead_33 jc_6 wfX5_135 (by decide) rfl ?_; rw [h6]
  refine j_icmp_ge (tgt := 85) x dX5_isAhead_36 (by decide) (fun hc => ?_) (fun hc => absurd (nI_le (Nat.le_refl _) (by omega)) hc)
  refine j_iload_n x dX5_isAhead_85 rfl ?_
  refine j_if_eq (tgt := 101) x dX5_isAhead_86 (by decide) (fun g0 => ?_) (fun g0 => ?_)
  · refine j_iload_n x dX5_isAhead_101 rfl ?_
    refine j_iload_n x dX5_isAhead_102 rfl ?_
    refine j_b_icmp_ge (T := 110) (E := 111) x dX5_isAhead_103 (by decide) dX5_isAhead_106 dX5_isAhead_107 (by decide) dX5_isAhead_110 (by decide) ?_
    exact j_zreturn x hr dX5_isAhead_111 (by first | decide | with_reducible exact jb_nar | with_reducible exact jisS_nar | with_reducible exact gno_nar) (by omega) (by omega) ⟨by rw [jah, if_pos g0], rfl⟩
  · refine j_iload_n x dX5_isAhead_89 rfl ?_
    refine j_if_le (tgt := 97) x dX5_isAhead_90 (by decide) (fun g1 => ?_) (fun g1 => ?_)
    · refine j_iconst (v := 0) x dX5_isAhead_97 (by decide) ?_
      refine j_goto (tgt := 111) x dX5_isAhead_98 (by decide) ?_
      exact j_zreturn x hr dX5_isAhead_111 (by first | decide | with_reducible exact jb_nar | with_reducible exact jisS_nar | with_reducible exact gno_nar) (by omega) (by omega) ⟨by rw [jah, if_neg g0, jb_f (fun q => q g1)], rfl⟩
    · refine j_iconst (v := 1) x dX5_isAhead_93 (by decide) ?_
      refine j_goto (tgt := 111) x dX5_isAhead_94 (by decide) ?_
      exact j_zreturn x hr dX5_isAhead_111 (by first | decide | with_reducible exact jb_nar | with_reducible exact jisS_nar | with_reducible exact gno_nar) (by omega) (by omega) ⟨by rw [jah, if_neg g0, jb_t g1], rfl⟩
def jreach (M : MM) (t : Int32) : Int32 := jat 8 (M 76) t + (if M 1 4 < M 1 5 then M 1 5 else M 1 4) * jat 8 (M 83) t
theorem c_reachOf {d : Nat} {b : SBt} {Y : OUt} {M : MM} (hb : 94 ≤ b.2.1) {t : Int32} : CM (d + 1) 0 0 yX5_reachOf cX5_reachOf 2 (some .int) [.ref 0, .int t] b Y M (.inl (some (.int (jreach M t)))) (M) := by
  refine Con.of (by decide +kernel) (Nat.le_of_ble_eq_true rfl) rfl fun p l e s m args below meth c D tyc A ad0 x hr htab hname => ?_
  change JJ _ _ _ _ _ _ _ _ _ _ _ _ _ _ _ _ _ 0 [some (.ref 0), some (.int t)] [] _ 0 0
  refine j_aload_n x dX5_reachOf_0 rfl ?_
  refine j2_getr (k := 5) (r := 75) x hb dX5_reachOf_1 jc_9 wfX5_36 (by decide) rfl ?_
  refine j2_getr (k := 3) (r := 76) x hb dX5_reachOf_4 jc_7 wfX5_190 (by decide) rfl ?_
  refine j_iload_n x dX5_reachOf_7 rfl ?_
  refine j2_callSi x hb dX5_reachOf_8 m_X5_at (c_at (d := d) hb fa_76 (by decide)) wmX5_93 rfl (Nat.le_of_ble_eq_true rfl) (j_fit_rm (by omega) (by omega) (by omega)) rfl ?_
  refine j_aload_n x dX5_reachOf_11 rfl ?_
  refine j2_getr (k := 0) (r := 1) x hb dX5_reachOf_12 jc_9 wfX5_10 (by decide) rfl ?_
  refine j2_geti (k := 4) x hb dX5_reachOf_15 jc_6 wfX5_119 (by decide) rfl ?_
  refine j_aload_n x dX5_reachOf_18 rfl ?_
  refine j2_getr (k := 0) (r := 1) x hb dX5_reachOf_19 jc_9 wfX5_10 (by decide) rfl ?_
  refine j2_geti (k := 5) x hb dX5_reachOf_22 jc_6 wfX5_122 (by decide) rfl ?_
  refine j_max x wmath dX5_reachOf_25 wmX5_297 (Nat.le_of_ble_eq_true rfl) (Nat.zero_le _) (Nat.zero_le _) ?_
  refine j_aload_n x dX5_reachOf_28 rfl ?_
  refine j2_getr (k := 5) (r := 75) x hb dX5_reachOf_29 jc_9 wfX5_36 (by decide) rfl ?_
  refine j2_getr (k := 10) (r := 83) x hb dX5_reachOf_32 jc_7 wfX5_211 (by decide) rfl ?_
  refine j_iload_n x dX5_reachOf_35 rfl ?_
  refine j2_callSi x hb dX5_reachOf_36 m_X5_at (c_at (d := d) hb fa_83 (by decide)) wmX5_93 rfl (Nat.le_of_ble_eq_true rfl) (j_fit_rm (by omega) (by omega) (by omega)) rfl ?_
  refine j_imul x dX5_reachOf_39 ?_
  refine j_iadd x dX5_reachOf_40 ?_
  exact j_ireturn x hr dX5_reachOf_41 (by omega) (by omega) ⟨rfl, rfl⟩
def fSafe (M : MM) (t : Int32) (i : Nat) : Int32 := jb (¬ nI i = t ∧ ¬ jreach M (nI i) < jat 8 (M 76) t)
def fOut (M : MM) (t : Int32) (i : Nat) : Int32 := jb (¬ nI i = t ∧ ¬ jat 8 (M 76) (nI i) ≤ jreach M t)
theorem c_isBeyondOthers {d : Nat} {b : SBt} {Y : OUt} {M : MM} (hb : 94 ≤ b.2.1) {t : Int32} {w : Nat} (hw : w ≤ 8) (h0 : M 1 0 = nI w) : CM (d + 2) 0 0 yX5_isBeyondOthers cX5_isBeyondOthers 3 (some .boolean) [.ref 0, .int t] b Y M (.inl (some (.int (jb (jfst (fSafe M t) w = -1))))) (M) := by
  refine Con.of (by decide +kernel) (Nat.le_of_ble_eq_true rfl) rfl fun p l e s m args below meth c D tyc A ad0 x hr htab hname => ?_
  change JJ _ _ _ _ _ _ _ _ _ _ _ _ _ _ _ _ _ 0 [some (.ref 0), some (.int t), none] [] _ 0 0
  refine j_iconst (v := 0) x dX5_isBeyondOthers_0 (by decide) ?_
  refine j_istore_n x dX5_isBeyondOthers_1 (by decide) rfl ?_
  refine j_for (w) (fun z0 => [some (.ref 0), some (.int t), some (.int (nI z0))]) (fun z0 => M) (fun z0 => jfst (fSafe M t) z0 = -1) (rfl) (rfl) (rfl) (fun j hj hP ih => ?_) (fun hP => ?_)
  · refine j_iload_n x dX5_isBeyondOthers_2 rfl ?_
    refine j_aload_n x dX5_isBeyondOthers_3 rfl ?_
    refine j2_getr (k := 0) (r := 1) x hb dX5_isBeyondOthers_4 jc_9 wfX5_10 (by decide) rfl ?_
    refine j2_geti (k := 0) x hb dX5_isBeyondOthers_7 jc_6 wfX5_80 (by decide) rfl ?_; rw [h0]
    refine j_icmp_ge (tgt := 45) x dX5_isBeyondOthers_10 (by decide) (fun hc => absurd hc (nI_ge hj (by omega))) (fun hc => ?_)
    refine j_iload_n x dX5_isBeyondOthers_13 rfl ?_
    refine j_iload_n x dX5_isBeyondOthers_14 rfl ?_
    refine j_icmp_eq (tgt := 39) x dX5_isBeyondOthers_15 (by decide) (fun h1 => ?_) (fun h1 => ?_)
    · refine j_iinc x dX5_isBeyondOthers_39 rfl (by decide) rfl ?_
      refine j_goto (tgt := 2) x dX5_isBeyondOthers_42 (by decide) ?_
      exact j_goal (ih (jfst_no hP (fun q => absurd ((show fSafe M t j = 0 from jb_f (fun q => q.1 h1)).symm.trans q) (by decide)))) (wk_c rfl (wk_c rfl (wk_c (congrArg (fun z => some (Value.int z)) (nI_1 _)) (wk_0)))) (rfl)
    · refine j_aload_n x dX5_isBeyondOthers_18 rfl ?_
      refine j_iload_n x dX5_isBeyondOthers_19 rfl ?_
      refine j2_callVi x hb dX5_isBeyondOthers_20 m_X5_reachOf (c_reachOf (d := d) hb) wmX5_472 jc_9 rfl rfl rfl (Nat.le_of_ble_eq_true rfl) (j_fit_rm (by omega) (by omega) (by omega)) rfl ?_
      refine j_aload_n x dX5_isBeyondOthers_23 rfl ?_
      refine j2_getr (k := 5) (r := 75) x hb dX5_isBeyondOthers_24 jc_9 wfX5_36 (by decide) rfl ?_
      refine j2_getr (k := 3) (r := 76) x hb dX5_isBeyondOthers_27 jc_7 wfX5_190 (by decide) rfl ?_
      refine j_iload_n x dX5_isBeyondOthers_30 rfl ?_
      refine j2_callSi x hb dX5_isBeyondOthers_31 m_X5_at (c_at (d := d) hb fa_76 (by decide)) wmX5_93 rfl (Nat.le_of_ble_eq_true rfl) (j_fit_rm (by omega) (by omega) (by omega)) rfl ?_
      refine j_icmp_lt (tgt := 39) x dX5_isBeyondOthers_34 (by decide) (fun h2 => ?_) (fun h2 => ?_)
      · refine j_iinc x dX5_isBeyondOthers_39 rfl (by decide) rfl ?_
        refine j_goto (tgt := 2) x dX5_isBeyondOthers_42 (by decide) ?_
        exact j_goal (ih (jfst_no hP (fun q => absurd ((show fSafe M t j = 0 from jb_f (fun q => q.2 h2)).symm.trans q) (by decide)))) (wk_c rfl (wk_c rfl (wk_c (congrArg (fun z => some (Value.int z)) (nI_1 _)) (wk_0)))) (rfl)
      · refine j_iconst (v := 0) x dX5_isBeyondOthers_37 (by decide) ?_
        exact j_zreturn x hr dX5_isBeyondOthers_38 (by first | decide | with_reducible exact jb_nar | with_reducible exact jisS_nar | with_reducible exact gno_nar) (by omega) (by omega) ⟨by rw [jb_f (fun q => absurd ((jfst_at hP (show fSafe M t j = 1 from jb_t ⟨h1, h2⟩) (by omega) hj).symm.trans q) (nI_nm1 (by omega)))], rfl⟩
  refine j_iload_n x dX5_isBeyondOthers_2 rfl ?_
  refine j_aload_n x dX5_isBeyondOthers_3 rfl ?_
  refine j2_getr (k := 0) (r := 1) x hb dX5_isBeyondOthers_4 jc_9 wfX5_10 (by decide) rfl ?_
  refine j2_geti (k := 0) x hb dX5_isBeyondOthers_7 jc_6 wfX5_80 (by decide) rfl ?_; rw [h0]
  refine j_icmp_ge (tgt := 45) x dX5_isBeyondOthers_10 (by decide) (fun hc => ?_) (fun hc => absurd (nI_le (Nat.le_refl _) (by omega)) hc)
  refine j_iconst (v := 1) x dX5_isBeyondOthers_45 (by decide) ?_
  exact j_zreturn x hr dX5_isBeyondOthers_46 (by first | decide | with_reducible exact jb_nar | with_reducible exact jisS_nar | with_reducible exact gno_nar) (by omega) (by omega) ⟨by rw [jb_t hP], rfl⟩
theorem c_isBehindAnother {d : Nat} {b : SBt} {Y : OUt} {M : MM} (hb : 94 ≤ b.2.1) {t : Int32} {w : Nat} (hw : w ≤ 8) (h0 : M 1 0 = nI w) : CM (d + 2) 0 0 yX5_isBehindAnother cX5_isBehindAnother 3 (some .boolean) [.ref 0, .int t] b Y M (.inl (some (.int (jb (¬ jfst (fOut M t) w = -1))))) (M) := by
  refine Con.of (by decide +kernel) (Nat.le_of_ble_eq_true rfl) rfl fun p l e s m args below meth c D tyc A ad0 x hr htab hname => ?_
  change JJ _ _ _ _ _ _ _ _ _ _ _ _ _ _ _ _ _ 0 [some (.ref 0), some (.int t), none] [] _ 0 0
  refine j_iconst (v := 0) x dX5_isBehindAnother_0 (by decide) ?_
  refine j_istore_n x dX5_isBehindAnother_1 (by decide) rfl ?_
  refine j_for (w) (fun z0 => [some (.ref 0), some (.int t), some (.int (nI z0))]) (fun z0 => M) (fun z0 => jfst (fOut M t) z0 = -1) (rfl) (rfl) (rfl) (fun j hj hP ih => ?_) (fun hP => ?_)
  · refine j_iload_n x dX5_isBehindAnother_2 rfl ?_
    refine j_aload_n x dX5_isBehindAnother_3 rfl ?_
    refine j2_getr (k := 0) (r := 1) x hb dX5_isBehindAnother_4 jc_9 wfX5_10 (by decide) rfl ?_
    refine j2_geti (k := 0) x hb dX5_isBehindAnother_7 jc_6 wfX5_80 (by decide) rfl ?_; rw [h0]
    refine j_icmp_ge (tgt := 45) x dX5_isBehindAnother_10 (by decide) (fun hc => absurd hc (nI_ge hj (by omega))) (fun hc => ?_)
    refine j_iload_n x dX5_isBehindAnother_13 rfl ?_
    refine j_iload_n x dX5_isBehindAnother_14 rfl ?_
    refine j_icmp_eq (tgt := 39) x dX5_isBehindAnother_15 (by decide) (fun h1 => ?_) (fun h1 => ?_)
    · refine j_iinc x dX5_isBehindAnother_39 rfl (by decide) rfl ?_
      refine j_goto (tgt := 2) x dX5_isBehindAnother_42 (by decide) ?_
      exact j_goal (ih (jfst_no hP (fun q => absurd ((show fOut M t j = 0 from jb_f (fun q => q.1 h1)).symm.trans q) (by decide)))) (wk_c rfl (wk_c rfl (wk_c (congrArg (fun z => some (Value.int z)) (nI_1 _)) (wk_0)))) (rfl)
    · refine j_aload_n x dX5_isBehindAnother_18 rfl ?_
      refine j2_getr (k := 5) (r := 75) x hb dX5_isBehindAnother_19 jc_9 wfX5_36 (by decide) rfl ?_
      refine j2_getr (k := 3) (r := 76) x hb dX5_isBehindAnother_22 jc_7 wfX5_190 (by decide) rfl ?_
      refine j_iload_n x dX5_isBehindAnother_25 rfl ?_
      refine j2_callSi x hb dX5_isBehindAnother_26 m_X5_at (c_at (d := d) hb fa_76 (by decide)) wmX5_93 rfl (Nat.le_of_ble_eq_true rfl) (j_fit_rm (by omega) (by omega) (by omega)) rfl ?_
      refine j_aload_n x dX5_isBehindAnother_29 rfl ?_
      refine j_iload_n x dX5_isBehindAnother_30 rfl ?_
      refine j2_callVi x hb dX5_isBehindAnother_31 m_X5_reachOf (c_reachOf (d := d) hb) wmX5_472 jc_9 rfl rfl rfl (Nat.le_of_ble_eq_true rfl) (j_fit_rm (by omega) (by omega) (by omega)) rfl ?_
      refine j_icmp_le (tgt := 39) x dX5_isBehindAnother_34 (by decide) (fun h2 => ?_) (fun h2 => ?_)
      · refine j_iinc x dX5_isBehindAnother_39 rfl (by decide) rfl ?_
        refine j_goto (tgt := 2) x dX5_isBehindAnother_42 (by decide) ?_
        exact j_goal (ih (jfst_no hP (fun q => absurd ((show fOut M t j = 0 from jb_f (fun q => q.2 h2)).symm.trans q) (by decide)))) (wk_c rfl (wk_c rfl (wk_c (congrArg (fun z => some (Value.int z)) (nI_1 _)) (wk_0)))) (rfl)
      · refine j_iconst (v := 1) x dX5_isBehindAnother_37 (by decide) ?_
        exact j_zreturn x hr dX5_isBehindAnother_38 (by first | decide | with_reducible exact jb_nar | with_reducible exact jisS_nar | with_reducible exact gno_nar) (by omega) (by omega) ⟨by rw [jb_t (p := ¬ jfst (fOut M t) w = -1) (fun q => absurd ((jfst_at hP (show fOut M t j = 1 from jb_t ⟨h1, h2⟩) (by omega) hj).symm.trans q) (nI_nm1 (by omega)))], rfl⟩
  refine j_iload_n x dX5_isBehindAnother_2 rfl ?_
  refine j_aload_n x dX5_isBehindAnother_3 rfl ?_
  refine j2_getr (k := 0) (r := 1) x hb dX5_isBehindAnother_4 jc_9 wfX5_10 (by decide) rfl ?_
  refine j2_geti (k := 0) x hb dX5_isBehindAnother_7 jc_6 wfX5_80 (by decide) rfl ?_; rw [h0]
  refine j_icmp_ge (tgt := 45) x dX5_isBehindAnother_10 (by decide) (fun hc => ?_) (fun hc => absurd (nI_le (Nat.le_refl _) (by omega)) hc)
  refine j_iconst (v := 0) x dX5_isBehindAnother_45 (by decide) ?_
  exact j_zreturn x hr dX5_isBehindAnother_46 (by first | decide | with_reducible exact jb_nar | with_reducible exact jisS_nar | with_reducible exact gno_nar) (by omega) (by omega) ⟨by rw [jb_f (fun q => q hP)], rfl⟩
theorem c_allPoints {d : Nat} {b : SBt} {Y : OUt} {M : MM} (hb : 94 ≤ b.2.1) {w : Nat} (hw : w ≤ 8) (h0 : M 1 0 = nI w) : CM (d + 1) 0 0 yX5_allPoints cX5_allPoints 3 (some .int) [.ref 0] b Y M (.inl (some (.int (jsum (fun i => jat 8 (M 76) (nI i)) w)))) (M) := by
  refine Con.of (by decide +kernel) (Nat.le_of_ble_eq_true rfl) rfl fun p l e s m args below meth c D tyc A ad0 x hr htab hname => ?_
  change JJ _ _ _ _ _ _ _ _ _ _ _ _ _ _ _ _ _ 0 [some (.ref 0), none, none] [] _ 0 0
  refine j_iconst (v := 0) x dX5_allPoints_0 (by decide) ?_
  refine j_istore_n x dX5_allPoints_1 (by decide) rfl ?_
  refine j_iconst (v := 0) x dX5_allPoints_2 (by decide) ?_
  refine j_istore_n x dX5_allPoints_3 (by decide) rfl ?_
  refine j_for (w) (fun z0 => [some (.ref 0), some (.int (jsum (fun i => jat 8 (M 76) (nI i)) z0)), some (.int (nI z0))]) (fun z0 => M) (fun z0 => True) (rfl) (rfl) (trivial) (fun j hj hP ih => ?_) (fun hP => ?_)
  · refine j_iload_n x dX5_allPoints_4 rfl ?_
    refine j_aload_n x dX5_allPoints_5 rfl ?_
    refine j2_getr (k := 0) (r := 1) x hb dX5_allPoints_6 jc_9 wfX5_10 (by decide) rfl ?_
    refine j2_geti (k := 0) x hb dX5_allPoints_9 jc_6 wfX5_80 (by decide) rfl ?_; rw [h0]
    refine j_icmp_ge (tgt := 35) x dX5_allPoints_12 (by decide) (fun hc => absurd hc (nI_ge hj (by omega))) (fun hc => ?_)
    refine j_iload_n x dX5_allPoints_15 rfl ?_
    refine j_aload_n x dX5_allPoints_16 rfl ?_
    refine j2_getr (k := 5) (r := 75) x hb dX5_allPoints_17 jc_9 wfX5_36 (by decide) rfl ?_
    refine j2_getr (k := 3) (r := 76) x hb dX5_allPoints_20 jc_7 wfX5_190 (by decide) rfl ?_
    refine j_iload_n x dX5_allPoints_23 rfl ?_
    refine j2_callSi x hb dX5_allPoints_24 m_X5_at (c_at (d := d) hb fa_76 (by decide)) wmX5_93 rfl (Nat.le_of_ble_eq_true rfl) (j_fit_rm (by omega) (by omega) (by omega)) rfl ?_
    refine j_iadd x dX5_allPoints_27 ?_
    refine j_istore_n x dX5_allPoints_28 (by decide) rfl ?_
    refine j_iinc x dX5_allPoints_29 rfl (by decide) rfl ?_
    refine j_goto (tgt := 4) x dX5_allPoints_32 (by decide) ?_
    exact j_goal (ih (trivial)) (wk_c rfl (wk_c (congrArg (fun z => some (Value.int z)) (jsum_v rfl)) (wk_c (congrArg (fun z => some (Value.int z)) (nI_1 _)) (wk_0)))) (rfl)
  refine j_iload_n x dX5_allPoints_4 rfl ?_
  refine j_aload_n x dX5_allPoints_5 rfl ?_
  refine j2_getr (k := 0) (r := 1) x hb dX5_allPoints_6 jc_9 wfX5_10 (by decide) rfl ?_
  refine j2_geti (k := 0) x hb dX5_allPoints_9 jc_6 wfX5_80 (by decide) rfl ?_; rw [h0]
  refine j_icmp_ge (tgt := 35) x dX5_allPoints_12 (by decide) (fun hc => ?_) (fun hc => absurd (nI_le (Nat.le_refl _) (by omega)) hc)
  refine j_iload_n x dX5_allPoints_35 rfl ?_
  exact j_ireturn x hr dX5_allPoints_36 (by omega) (by omega) ⟨rfl, rfl⟩
theorem no_mem {M : MM} {t u : Int32} (h : ¬ (¬ t < 0 ∧ ¬ u ≤ t)) : jb (¬ t < 0 ∧ ¬ u ≤ t) = 0 := jb_f h
theorem c_teamOf_nt {d : Nat} {b : SBt} {Y : OUt} {M : MM} (hb : 94 ≤ b.2.1) {t u : Int32} (hT : ¬ (¬ t < 0 ∧ ¬ M 1 0 ≤ t)) : CM (d + 1) 1 6 yX5_teamOf cX5_teamOf 3 (some .int) [.ref 0, .int t, .int u] b Y M (.inr "java/lang/IndexOutOfBoundsException") (M) := by
  refine Con.of (by decide +kernel) (Nat.le_of_ble_eq_true rfl) rfl fun p l e s m args below meth c D tyc A ad0 x hr htab hname => ?_
  change JJ _ _ _ _ _ _ _ _ _ _ _ _ _ _ _ _ _ 0 [some (.ref 0), some (.int t), some (.int u)] [] _ 0 0
  refine j_aload_n x dX5_teamOf_0 rfl ?_
  refine j_iload_n x dX5_teamOf_1 rfl ?_
  refine j2_callVi x hb dX5_teamOf_2 m_X5_isTeam (CM_v (c_isTeam (d := d) hb) (jb_f hT)) wmX5_174 jc_9 rfl rfl rfl (Nat.le_of_ble_eq_true rfl) (j_fit_rm (by omega) (by omega) (by omega)) rfl ?_
  refine j_if_ne (tgt := 18) x dX5_teamOf_5 (by decide) (fun hc => absurd hc (fun q => q rfl)) (fun hc => ?_)
  exact j_throwS x exX5_177 wsX5_179 dX5_teamOf_8 dX5_teamOf_11 dX5_teamOf_12 dX5_teamOf_14 dX5_teamOf_17 htab (by omega) (by omega) ⟨rfl, rfl⟩
theorem c_pointsAgain_nt {d : Nat} {b : SBt} {Y : OUt} {M : MM} (hb : 94 ≤ b.2.1) {t : Int32} (hT : ¬ (¬ t < 0 ∧ ¬ M 1 0 ≤ t)) : CM (d + 1) 1 6 yX5_pointsAgain cX5_pointsAgain 2 (some .int) [.ref 0, .int t] b Y M (.inr "java/lang/IndexOutOfBoundsException") (M) := by
  refine Con.of (by decide +kernel) (Nat.le_of_ble_eq_true rfl) rfl fun p l e s m args below meth c D tyc A ad0 x hr htab hname => ?_
  change JJ _ _ _ _ _ _ _ _ _ _ _ _ _ _ _ _ _ 0 [some (.ref 0), some (.int t)] [] _ 0 0
  refine j_aload_n x dX5_pointsAgain_0 rfl ?_
  refine j_iload_n x dX5_pointsAgain_1 rfl ?_
  refine j2_callVi x hb dX5_pointsAgain_2 m_X5_isTeam (CM_v (c_isTeam (d := d) hb) (jb_f hT)) wmX5_174 jc_9 rfl rfl rfl (Nat.le_of_ble_eq_true rfl) (j_fit_rm (by omega) (by omega) (by omega)) rfl ?_
  refine j_if_ne (tgt := 18) x dX5_pointsAgain_5 (by decide) (fun hc => absurd hc (fun q => q rfl)) (fun hc => ?_)
  exact j_throwS x exX5_177 wsX5_179 dX5_pointsAgain_8 dX5_pointsAgain_11 dX5_pointsAgain_12 dX5_pointsAgain_14 dX5_pointsAgain_17 htab (by omega) (by omega) ⟨rfl, rfl⟩
theorem c_placeOf_nt {d : Nat} {b : SBt} {Y : OUt} {M : MM} (hb : 94 ≤ b.2.1) {t : Int32} (hT : ¬ (¬ t < 0 ∧ ¬ M 1 0 ≤ t)) : CM (d + 1) 1 6 yX5_placeOf cX5_placeOf 4 (some .int) [.ref 0, .int t] b Y M (.inr "java/lang/IndexOutOfBoundsException") (M) := by
  refine Con.of (by decide +kernel) (Nat.le_of_ble_eq_true rfl) rfl fun p l e s m args below meth c D tyc A ad0 x hr htab hname => ?_
  change JJ _ _ _ _ _ _ _ _ _ _ _ _ _ _ _ _ _ 0 [some (.ref 0), some (.int t), none, none] [] _ 0 0
  refine j_aload_n x dX5_placeOf_0 rfl ?_
  refine j_iload_n x dX5_placeOf_1 rfl ?_
  refine j2_callVi x hb dX5_placeOf_2 m_X5_isTeam (CM_v (c_isTeam (d := d) hb) (jb_f hT)) wmX5_174 jc_9 rfl rfl rfl (Nat.le_of_ble_eq_true rfl) (j_fit_rm (by omega) (by omega) (by omega)) rfl ?_
  refine j_if_ne (tgt := 18) x dX5_placeOf_5 (by decide) (fun hc => absurd hc (fun q => q rfl)) (fun hc => ?_)
  exact j_throwS x exX5_177 wsX5_179 dX5_placeOf_8 dX5_placeOf_11 dX5_placeOf_12 dX5_placeOf_14 dX5_placeOf_17 htab (by omega) (by omega) ⟨rfl, rfl⟩
theorem c_valueOf_nt {d : Nat} {b : SBt} {Y : OUt} {M : MM} (hb : 94 ≤ b.2.1) {t u : Int32} (hT : ¬ (¬ t < 0 ∧ ¬ M 1 0 ≤ t)) : CM (d + 1) 1 6 yX5_valueOf cX5_valueOf 3 (some .int) [.ref 0, .int t, .int u] b Y M (.inr "java/lang/IndexOutOfBoundsException") (M) := by
  refine Con.of (by decide +kernel) (Nat.le_of_ble_eq_true rfl) rfl fun p l e s m args below meth c D tyc A ad0 x hr htab hname => ?_
  change JJ _ _ _ _ _ _ _ _ _ _ _ _ _ _ _ _ _ 0 [some (.ref 0), some (.int t), some (.int u)] [] _ 0 0
  refine j_aload_n x dX5_valueOf_0 rfl ?_
  refine j_iload_n x dX5_valueOf_1 rfl ?_
  refine j2_callVi x hb dX5_valueOf_2 m_X5_isTeam (CM_v (c_isTeam (d := d) hb) (jb_f hT)) wmX5_174 jc_9 rfl rfl rfl (Nat.le_of_ble_eq_true rfl) (j_fit_rm (by omega) (by omega) (by omega)) rfl ?_
  refine j_if_ne (tgt := 18) x dX5_valueOf_5 (by decide) (fun hc => absurd hc (fun q => q rfl)) (fun hc => ?_)
  exact j_throwS x exX5_177 wsX5_179 dX5_valueOf_8 dX5_valueOf_11 dX5_valueOf_12 dX5_valueOf_14 dX5_valueOf_17 htab (by omega) (by omega) ⟨rfl, rfl⟩
theorem c_tied_nt {d : Nat} {b : SBt} {Y : OUt} {M : MM} (hb : 94 ≤ b.2.1) {t : Int32} (hT : ¬ (¬ t < 0 ∧ ¬ M 1 0 ≤ t)) : CM (d + 1) 1 6 yX5_tied cX5_tied 4 (some .int) [.ref 0, .int t] b Y M (.inr "java/lang/IndexOutOfBoundsException") (M) := by
  refine Con.of (by decide +kernel) (Nat.le_of_ble_eq_true rfl) rfl fun p l e s m args below meth c D tyc A ad0 x hr htab hname => ?_
  change JJ _ _ _ _ _ _ _ _ _ _ _ _ _ _ _ _ _ 0 [some (.ref 0), some (.int t), none, none] [] _ 0 0
  refine j_aload_n x dX5_tied_0 rfl ?_
  refine j_iload_n x dX5_tied_1 rfl ?_
  refine j2_callVi x hb dX5_tied_2 m_X5_isTeam (CM_v (c_isTeam (d := d) hb) (jb_f hT)) wmX5_174 jc_9 rfl rfl rfl (Nat.le_of_ble_eq_true rfl) (j_fit_rm (by omega) (by omega) (by omega)) rfl ?_
  refine j_if_ne (tgt := 18) x dX5_tied_5 (by decide) (fun hc => absurd hc (fun q => q rfl)) (fun hc => ?_)
  exact j_throwS x exX5_177 wsX5_179 dX5_tied_8 dX5_tied_11 dX5_tied_12 dX5_tied_14 dX5_tied_17 htab (by omega) (by omega) ⟨rfl, rfl⟩
theorem c_most_nt {d : Nat} {b : SBt} {Y : OUt} {M : MM} (hb : 94 ≤ b.2.1) {t : Int32} (hT : ¬ (¬ t < 0 ∧ ¬ M 1 0 ≤ t)) : CM (d + 1) 1 6 yX5_most cX5_most 2 (some .int) [.ref 0, .int t] b Y M (.inr "java/lang/IndexOutOfBoundsException") (M) := by
  refine Con.of (by decide +kernel) (Nat.le_of_ble_eq_true rfl) rfl fun p l e s m args below meth c D tyc A ad0 x hr htab hname => ?_
  change JJ _ _ _ _ _ _ _ _ _ _ _ _ _ _ _ _ _ 0 [some (.ref 0), some (.int t)] [] _ 0 0
  refine j_aload_n x dX5_most_0 rfl ?_
  refine j_iload_n x dX5_most_1 rfl ?_
  refine j2_callVi x hb dX5_most_2 m_X5_isTeam (CM_v (c_isTeam (d := d) hb) (jb_f hT)) wmX5_174 jc_9 rfl rfl rfl (Nat.le_of_ble_eq_true rfl) (j_fit_rm (by omega) (by omega) (by omega)) rfl ?_
  refine j_if_ne (tgt := 18) x dX5_most_5 (by decide) (fun hc => absurd hc (fun q => q rfl)) (fun hc => ?_)
  exact j_throwS x exX5_177 wsX5_179 dX5_most_8 dX5_most_11 dX5_most_12 dX5_most_14 dX5_most_17 htab (by omega) (by omega) ⟨rfl, rfl⟩
theorem c_isSafe_nt {d : Nat} {b : SBt} {Y : OUt} {M : MM} (hb : 94 ≤ b.2.1) {t : Int32} (hT : ¬ (¬ t < 0 ∧ ¬ M 1 0 ≤ t)) : CM (d + 1) 1 6 yX5_isSafe cX5_isSafe 2 (some .boolean) [.ref 0, .int t] b Y M (.inr "java/lang/IndexOutOfBoundsException") (M) := by
  refine Con.of (by decide +kernel) (Nat.le_of_ble_eq_true rfl) rfl fun p l e s m args below meth c D tyc A ad0 x hr htab hname => ?_
  change JJ _ _ _ _ _ _ _ _ _ _ _ _ _ _ _ _ _ 0 [some (.ref 0), some (.int t)] [] _ 0 0
  refine j_aload_n x dX5_isSafe_0 rfl ?_
  refine j_iload_n x dX5_isSafe_1 rfl ?_
  refine j2_callVi x hb dX5_isSafe_2 m_X5_isTeam (CM_v (c_isTeam (d := d) hb) (jb_f hT)) wmX5_174 jc_9 rfl rfl rfl (Nat.le_of_ble_eq_true rfl) (j_fit_rm (by omega) (by omega) (by omega)) rfl ?_
  refine j_if_ne (tgt := 18) x dX5_isSafe_5 (by decide) (fun hc => absurd hc (fun q => q rfl)) (fun hc => ?_)
  exact j_throwS x exX5_177 wsX5_179 dX5_isSafe_8 dX5_isSafe_11 dX5_isSafe_12 dX5_isSafe_14 dX5_isSafe_17 htab (by omega) (by omega) ⟨rfl, rfl⟩
theorem c_isOut_nt {d : Nat} {b : SBt} {Y : OUt} {M : MM} (hb : 94 ≤ b.2.1) {t : Int32} (hT : ¬ (¬ t < 0 ∧ ¬ M 1 0 ≤ t)) : CM (d + 1) 1 6 yX5_isOut cX5_isOut 2 (some .boolean) [.ref 0, .int t] b Y M (.inr "java/lang/IndexOutOfBoundsException") (M) := by
  refine Con.of (by decide +kernel) (Nat.le_of_ble_eq_true rfl) rfl fun p l e s m args below meth c D tyc A ad0 x hr htab hname => ?_
  change JJ _ _ _ _ _ _ _ _ _ _ _ _ _ _ _ _ _ 0 [some (.ref 0), some (.int t)] [] _ 0 0
  refine j_aload_n x dX5_isOut_0 rfl ?_
  refine j_iload_n x dX5_isOut_1 rfl ?_
  refine j2_callVi x hb dX5_isOut_2 m_X5_isTeam (CM_v (c_isTeam (d := d) hb) (jb_f hT)) wmX5_174 jc_9 rfl rfl rfl (Nat.le_of_ble_eq_true rfl) (j_fit_rm (by omega) (by omega) (by omega)) rfl ?_
  refine j_if_ne (tgt := 18) x dX5_isOut_5 (by decide) (fun hc => absurd hc (fun q => q rfl)) (fun hc => ?_)
  exact j_throwS x exX5_177 wsX5_179 dX5_isOut_8 dX5_isOut_11 dX5_isOut_12 dX5_isOut_14 dX5_isOut_17 htab (by omega) (by omega) ⟨rfl, rfl⟩
theorem c_run_nt {d : Nat} {b : SBt} {Y : OUt} {M : MM} (hb : 94 ≤ b.2.1) {t : Int32} (hT : ¬ (¬ t < 0 ∧ ¬ M 1 0 ≤ t)) : CM (d + 1) 1 6 yX5_run cX5_run 5 (some .int) [.ref 0, .int t] b Y M (.inr "java/lang/IndexOutOfBoundsException") (M) := by
  refine Con.of (by decide +kernel) (Nat.le_of_ble_eq_true rfl) rfl fun p l e s m args below meth c D tyc A ad0 x hr htab hname => ?_
  change JJ _ _ _ _ _ _ _ _ _ _ _ _ _ _ _ _ _ 0 [some (.ref 0), some (.int t), none, none, none] [] _ 0 0
  refine j_aload_n x dX5_run_0 rfl ?_
  refine j_iload_n x dX5_run_1 rfl ?_
  refine j2_callVi x hb dX5_run_2 m_X5_isTeam (CM_v (c_isTeam (d := d) hb) (jb_f hT)) wmX5_174 jc_9 rfl rfl rfl (Nat.le_of_ble_eq_true rfl) (j_fit_rm (by omega) (by omega) (by omega)) rfl ?_
  refine j_if_ne (tgt := 18) x dX5_run_5 (by decide) (fun hc => absurd hc (fun q => q rfl)) (fun hc => ?_)
  exact j_throwS x exX5_177 wsX5_179 dX5_run_8 dX5_run_11 dX5_run_12 dX5_run_14 dX5_run_17 htab (by omega) (by omega) ⟨rfl, rfl⟩
theorem c_line_nt {d : Nat} {b : SBt} {Y : OUt} {M : MM} (hb : 94 ≤ b.2.1) {t : Int32} (hT : ¬ (¬ t < 0 ∧ ¬ M 1 0 ≤ t)) : CM (d + 1) 1 6 yX5_line cX5_line 2 (some .int) [.ref 0, .int t] b Y M (.inr "java/lang/IndexOutOfBoundsException") (M) := by
  refine Con.of (by decide +kernel) (Nat.le_of_ble_eq_true rfl) rfl fun p l e s m args below meth c D tyc A ad0 x hr htab hname => ?_
  change JJ _ _ _ _ _ _ _ _ _ _ _ _ _ _ _ _ _ 0 [some (.ref 0), some (.int t)] [] _ 0 0
  refine j_aload_n x dX5_line_0 rfl ?_
  refine j_iload_n x dX5_line_1 rfl ?_
  refine j2_callVi x hb dX5_line_2 m_X5_isTeam (CM_v (c_isTeam (d := d) hb) (jb_f hT)) wmX5_174 jc_9 rfl rfl rfl (Nat.le_of_ble_eq_true rfl) (j_fit_rm (by omega) (by omega) (by omega)) rfl ?_
  refine j_if_ne (tgt := 18) x dX5_line_5 (by decide) (fun hc => absurd hc (fun q => q rfl)) (fun hc => ?_)
  exact j_throwS x exX5_177 wsX5_179 dX5_line_8 dX5_line_11 dX5_line_12 dX5_line_14 dX5_line_17 htab (by omega) (by omega) ⟨rfl, rfl⟩
theorem c_teamOf_bad {d : Nat} {b : SBt} {Y : OUt} {M : MM} (hb : 94 ≤ b.2.1) {t u : Int32} (hT : ¬ t < 0 ∧ ¬ M 1 0 ≤ t) (hx : u < 0 ∨ ¬ u ≤ 8) : CM (d + 1) 1 6 yX5_teamOf cX5_teamOf 3 (some .int) [.ref 0, .int t, .int u] b Y M (.inr "java/lang/IllegalArgumentException") (M) := by
  refine Con.of (by decide +kernel) (Nat.le_of_ble_eq_true rfl) rfl fun p l e s m args below meth c D tyc A ad0 x hr htab hname => ?_
  change JJ _ _ _ _ _ _ _ _ _ _ _ _ _ _ _ _ _ 0 [some (.ref 0), some (.int t), some (.int u)] [] _ 0 0
  refine j_aload_n x dX5_teamOf_0 rfl ?_
  refine j_iload_n x dX5_teamOf_1 rfl ?_
  refine j2_callVi x hb dX5_teamOf_2 m_X5_isTeam (CM_v (c_isTeam (d := d) hb) (jb_t hT)) wmX5_174 jc_9 rfl rfl rfl (Nat.le_of_ble_eq_true rfl) (j_fit_rm (by omega) (by omega) (by omega)) rfl ?_
  refine j_if_ne (tgt := 18) x dX5_teamOf_5 (by decide) (fun hc => ?_) (fun hc => absurd hc (by decide))
  refine j_iload_n x dX5_teamOf_18 rfl ?_
  refine j_if_lt (tgt := 28) x dX5_teamOf_19 (by decide) (fun h1 => ?_) (fun h1 => ?_)
  · exact j_throwS x exX5_182 wsX5_184 dX5_teamOf_28 dX5_teamOf_31 dX5_teamOf_32 dX5_teamOf_34 dX5_teamOf_37 htab (by omega) (by omega) ⟨rfl, rfl⟩
  · refine j_iload_n x dX5_teamOf_22 rfl ?_
    refine j_bipush (v := 8) x dX5_teamOf_23 (by decide) ?_
    refine j_icmp_le (tgt := 38) x dX5_teamOf_25 (by decide) (fun hc => absurd hc (hx.resolve_left h1)) (fun hc => ?_)
    exact j_throwS x exX5_182 wsX5_184 dX5_teamOf_28 dX5_teamOf_31 dX5_teamOf_32 dX5_teamOf_34 dX5_teamOf_37 htab (by omega) (by omega) ⟨rfl, rfl⟩
theorem c_teamOf_k0 {d : Nat} {b : SBt} {Y : OUt} {M : MM} (hb : 94 ≤ b.2.1) {t : Int32} (hT : ¬ t < 0 ∧ ¬ M 1 0 ≤ t) {n : Nat} (hn : n ≤ 56) (hm : jmc M = nI n) : CM (d + 5) 1 6 yX5_teamOf cX5_teamOf 3 (some .int) [.ref 0, .int t, .int 0] b Y M (.inl (some (.int (jat 8 (jcount M n 2) t)))) (jcount M n) := by
  refine Con.of (by decide +kernel) (Nat.le_of_ble_eq_true rfl) rfl fun p l e s m args below meth c D tyc A ad0 x hr htab hname => ?_
  change JJ _ _ _ _ _ _ _ _ _ _ _ _ _ _ _ _ _ 0 [some (.ref 0), some (.int t), some (.int 0)] [] _ 0 0
  refine j_aload_n x dX5_teamOf_0 rfl ?_
  refine j_iload_n x dX5_teamOf_1 rfl ?_
  refine j2_callVi x hb dX5_teamOf_2 m_X5_isTeam (CM_v (c_isTeam (d := d) hb) (jb_t hT)) wmX5_174 jc_9 rfl rfl rfl (Nat.le_of_ble_eq_true rfl) (j_fit_rm (by omega) (by omega) (by omega)) rfl ?_
  refine j_if_ne (tgt := 18) x dX5_teamOf_5 (by decide) (fun hc => ?_) (fun hc => absurd hc (by decide))
  refine j_iload_n x dX5_teamOf_18 rfl ?_
  refine j_if_lt (tgt := 28) x dX5_teamOf_19 (by decide) (fun hc => absurd hc (by decide)) (fun hc => ?_)
  refine j_iload_n x dX5_teamOf_22 rfl ?_
  refine j_bipush (v := 8) x dX5_teamOf_23 (by decide) ?_
  refine j_icmp_le (tgt := 38) x dX5_teamOf_25 (by decide) (fun hc => ?_) (fun hc => absurd (by decide) hc)
  refine j_aload_n x dX5_teamOf_38 rfl ?_
  refine j2_callVv x hb dX5_teamOf_39 m_X5_count (c_count (d := d) hb hn hm) wmX5_187 jc_9 rfl rfl rfl (Nat.le_of_ble_eq_true rfl) (j_fit_rm (by omega) (by omega) (by omega)) rfl ?_
  refine j_iload_n x dX5_teamOf_42 rfl ?_
  refine j_tableIn (tgt := 88) x dX5_teamOf_43 (by decide) (by decide) rfl (by decide) ?_
  refine j_aload_n x dX5_teamOf_88 rfl ?_
  refine j2_getr (k := 0) (r := 1) x hb dX5_teamOf_89 jc_9 wfX5_10 (by decide) rfl ?_
  refine j2_getr (k := 1) (r := 2) x hb dX5_teamOf_92 jc_6 wfX5_77 (by decide) rfl ?_
  refine j_iload_n x dX5_teamOf_95 rfl ?_
  refine j2_callSi x hb dX5_teamOf_96 m_X5_at (c_at (d := d) hb fa_2 (by decide)) wmX5_93 rfl (Nat.le_of_ble_eq_true rfl) (j_fit_rm (by omega) (by omega) (by omega)) rfl ?_
  exact j_ireturn x hr dX5_teamOf_99 (by omega) (by omega) ⟨rfl, rfl⟩
theorem c_teamOf_k1 {d : Nat} {b : SBt} {Y : OUt} {M : MM} (hb : 94 ≤ b.2.1) {t : Int32} (hT : ¬ t < 0 ∧ ¬ M 1 0 ≤ t) {n : Nat} (hn : n ≤ 56) (hm : jmc M = nI n) : CM (d + 5) 1 6 yX5_teamOf cX5_teamOf 3 (some .int) [.ref 0, .int t, .int 1] b Y M (.inl (some (.int (jat 8 (jcount M n 76) t)))) (jcount M n) := by
  refine Con.of (by decide +kernel) (Nat.le_of_ble_eq_true rfl) rfl fun p l e s m args below meth c D tyc A ad0 x hr htab hname => ?_
  change JJ _ _ _ _ _ _ _ _ _ _ _ _ _ _ _ _ _ 0 [some (.ref 0), some (.int t), some (.int 1)] [] _ 0 0
  refine j_aload_n x dX5_teamOf_0 rfl ?_
  refine j_iload_n x dX5_teamOf_1 rfl ?_
  refine j2_callVi x hb dX5_teamOf_2 m_X5_isTeam (CM_v (c_isTeam (d := d) hb) (jb_t hT)) wmX5_174 jc_9 rfl rfl rfl (Nat.le_of_ble_eq_true rfl) (j_fit_rm (by omega) (by omega) (by omega)) rfl ?_
  refine j_if_ne (tgt := 18) x dX5_teamOf_5 (by decide) (fun hc => ?_) (fun hc => absurd hc (by decide))
  refine j_iload_n x dX5_teamOf_18 rfl ?_
  refine j_if_lt (tgt := 28) x dX5_teamOf_19 (by decide) (fun hc => absurd hc (by decide)) (fun hc => ?_)
  refine j_iload_n x dX5_teamOf_22 rfl ?_
  refine j_bipush (v := 8) x dX5_teamOf_23 (by decide) ?_
  refine j_icmp_le (tgt := 38) x dX5_teamOf_25 (by decide) (fun hc => ?_) (fun hc => absurd (by decide) hc)
  refine j_aload_n x dX5_teamOf_38 rfl ?_
  refine j2_callVv x hb dX5_teamOf_39 m_X5_count (c_count (d := d) hb hn hm) wmX5_187 jc_9 rfl rfl rfl (Nat.le_of_ble_eq_true rfl) (j_fit_rm (by omega) (by omega) (by omega)) rfl ?_
  refine j_iload_n x dX5_teamOf_42 rfl ?_
  refine j_tableIn (tgt := 100) x dX5_teamOf_43 (by decide) (by decide) rfl (by decide) ?_
  refine j_aload_n x dX5_teamOf_100 rfl ?_
  refine j2_getr (k := 5) (r := 75) x hb dX5_teamOf_101 jc_9 wfX5_36 (by decide) rfl ?_
  refine j2_getr (k := 3) (r := 76) x hb dX5_teamOf_104 jc_7 wfX5_190 (by decide) rfl ?_
  refine j_iload_n x dX5_teamOf_107 rfl ?_
  refine j2_callSi x hb dX5_teamOf_108 m_X5_at (c_at (d := d) hb fa_76 (by decide)) wmX5_93 rfl (Nat.le_of_ble_eq_true rfl) (j_fit_rm (by omega) (by omega) (by omega)) rfl ?_
  exact j_ireturn x hr dX5_teamOf_111 (by omega) (by omega) ⟨rfl, rfl⟩
theorem c_teamOf_k2 {d : Nat} {b : SBt} {Y : OUt} {M : MM} (hb : 94 ≤ b.2.1) {t : Int32} (hT : ¬ t < 0 ∧ ¬ M 1 0 ≤ t) {n : Nat} (hn : n ≤ 56) (hm : jmc M = nI n) : CM (d + 5) 1 6 yX5_teamOf cX5_teamOf 3 (some .int) [.ref 0, .int t, .int 2] b Y M (.inl (some (.int (jat 8 (jcount M n 77) t)))) (jcount M n) := by
  refine Con.of (by decide +kernel) (Nat.le_of_ble_eq_true rfl) rfl fun p l e s m args below meth c D tyc A ad0 x hr htab hname => ?_
  change JJ _ _ _ _ _ _ _ _ _ _ _ _ _ _ _ _ _ 0 [some (.ref 0), some (.int t), some (.int 2)] [] _ 0 0
  refine j_aload_n x dX5_teamOf_0 rfl ?_
  refine j_iload_n x dX5_teamOf_1 rfl ?_
  refine j2_callVi x hb dX5_teamOf_2 m_X5_isTeam (CM_v (c_isTeam (d := d) hb) (jb_t hT)) wmX5_174 jc_9 rfl rfl rfl (Nat.le_of_ble_eq_true rfl) (j_fit_rm (by omega) (by omega) (by omega)) rfl ?_
  refine j_if_ne (tgt := 18) x dX5_teamOf_5 (by decide) (fun hc => ?_) (fun hc => absurd hc (by decide))
  refine j_iload_n x dX5_teamOf_18 rfl ?_
  refine j_if_lt (tgt := 28) x dX5_teamOf_19 (by decide) (fun hc => absurd hc (by decide)) (fun hc => ?_)
  refine j_iload_n x dX5_teamOf_22 rfl ?_
  refine j_bipush (v := 8) x dX5_teamOf_23 (by decide) ?_
  refine j_icmp_le (tgt := 38) x dX5_teamOf_25 (by decide) (fun hc => ?_) (fun hc => absurd (by decide) hc)
  refine j_aload_n x dX5_teamOf_38 rfl ?_
  refine j2_callVv x hb dX5_teamOf_39 m_X5_count (c_count (d := d) hb hn hm) wmX5_187 jc_9 rfl rfl rfl (Nat.le_of_ble_eq_true rfl) (j_fit_rm (by omega) (by omega) (by omega)) rfl ?_
  refine j_iload_n x dX5_teamOf_42 rfl ?_
  refine j_tableIn (tgt := 112) x dX5_teamOf_43 (by decide) (by decide) rfl (by decide) ?_
  refine j_aload_n x dX5_teamOf_112 rfl ?_
  refine j2_getr (k := 5) (r := 75) x hb dX5_teamOf_113 jc_9 wfX5_36 (by decide) rfl ?_
  refine j2_getr (k := 4) (r := 77) x hb dX5_teamOf_116 jc_7 wfX5_193 (by decide) rfl ?_
  refine j_iload_n x dX5_teamOf_119 rfl ?_
  refine j2_callSi x hb dX5_teamOf_120 m_X5_at (c_at (d := d) hb fa_77 (by decide)) wmX5_93 rfl (Nat.le_of_ble_eq_true rfl) (j_fit_rm (by omega) (by omega) (by omega)) rfl ?_
  exact j_ireturn x hr dX5_teamOf_123 (by omega) (by omega) ⟨rfl, rfl⟩
theorem c_teamOf_k3 {d : Nat} {b : SBt} {Y : OUt} {M : MM} (hb : 94 ≤ b.2.1) {t : Int32} (hT : ¬ t < 0 ∧ ¬ M 1 0 ≤ t) {n : Nat} (hn : n ≤ 56) (hm : jmc M = nI n) : CM (d + 5) 1 6 yX5_teamOf cX5_teamOf 3 (some .int) [.ref 0, .int t, .int 3] b Y M (.inl (some (.int (jat 8 (jcount M n 78) t)))) (jcount M n) := by
  refine Con.of (by decide +kernel) (Nat.le_of_ble_eq_true rfl) rfl fun p l e s m args below meth c D tyc A ad0 x hr htab hname => ?_
  change JJ _ _ _ _ _ _ _ _ _ _ _ _ _ _ _ _ _ 0 [some (.ref 0), some (.int t), some (.int 3)] [] _ 0 0
  refine j_aload_n x dX5_teamOf_0 rfl ?_
  refine j_iload_n x dX5_teamOf_1 rfl ?_
  refine j2_callVi x hb dX5_teamOf_2 m_X5_isTeam (CM_v (c_isTeam (d := d) hb) (jb_t hT)) wmX5_174 jc_9 rfl rfl rfl (Nat.le_of_ble_eq_true rfl) (j_fit_rm (by omega) (by omega) (by omega)) rfl ?_
  refine j_if_ne (tgt := 18) x dX5_teamOf_5 (by decide) (fun hc => ?_) (fun hc => absurd hc (by decide))
  refine j_iload_n x dX5_teamOf_18 rfl ?_
  refine j_if_lt (tgt := 28) x dX5_teamOf_19 (by decide) (fun hc => absurd hc (by decide)) (fun hc => ?_)
  refine j_iload_n x dX5_teamOf_22 rfl ?_
  refine j_bipush (v := 8) x dX5_teamOf_23 (by decide) ?_
  refine j_icmp_le (tgt := 38) x dX5_teamOf_25 (by decide) (fun hc => ?_) (fun hc => absurd (by decide) hc)
  refine j_aload_n x dX5_teamOf_38 rfl ?_
  refine j2_callVv x hb dX5_teamOf_39 m_X5_count (c_count (d := d) hb hn hm) wmX5_187 jc_9 rfl rfl rfl (Nat.le_of_ble_eq_true rfl) (j_fit_rm (by omega) (by omega) (by omega)) rfl ?_
  refine j_iload_n x dX5_teamOf_42 rfl ?_
  refine j_tableIn (tgt := 124) x dX5_teamOf_43 (by decide) (by decide) rfl (by decide) ?_
  refine j_aload_n x dX5_teamOf_124 rfl ?_
  refine j2_getr (k := 5) (r := 75) x hb dX5_teamOf_125 jc_9 wfX5_36 (by decide) rfl ?_
  refine j2_getr (k := 5) (r := 78) x hb dX5_teamOf_128 jc_7 wfX5_196 (by decide) rfl ?_
  refine j_iload_n x dX5_teamOf_131 rfl ?_
  refine j2_callSi x hb dX5_teamOf_132 m_X5_at (c_at (d := d) hb fa_78 (by decide)) wmX5_93 rfl (Nat.le_of_ble_eq_true rfl) (j_fit_rm (by omega) (by omega) (by omega)) rfl ?_
  exact j_ireturn x hr dX5_teamOf_135 (by omega) (by omega) ⟨rfl, rfl⟩
theorem c_teamOf_k4 {d : Nat} {b : SBt} {Y : OUt} {M : MM} (hb : 94 ≤ b.2.1) {t : Int32} (hT : ¬ t < 0 ∧ ¬ M 1 0 ≤ t) {n : Nat} (hn : n ≤ 56) (hm : jmc M = nI n) : CM (d + 5) 1 6 yX5_teamOf cX5_teamOf 3 (some .int) [.ref 0, .int t, .int 4] b Y M (.inl (some (.int (jat 8 (jcount M n 79) t)))) (jcount M n) := by
  refine Con.of (by decide +kernel) (Nat.le_of_ble_eq_true rfl) rfl fun p l e s m args below meth c D tyc A ad0 x hr htab hname => ?_
  change JJ _ _ _ _ _ _ _ _ _ _ _ _ _ _ _ _ _ 0 [some (.ref 0), some (.int t), some (.int 4)] [] _ 0 0
  refine j_aload_n x dX5_teamOf_0 rfl ?_
  refine j_iload_n x dX5_teamOf_1 rfl ?_
  refine j2_callVi x hb dX5_teamOf_2 m_X5_isTeam (CM_v (c_isTeam (d := d) hb) (jb_t hT)) wmX5_174 jc_9 rfl rfl rfl (Nat.le_of_ble_eq_true rfl) (j_fit_rm (by omega) (by omega) (by omega)) rfl ?_
  refine j_if_ne (tgt := 18) x dX5_teamOf_5 (by decide) (fun hc => ?_) (fun hc => absurd hc (by decide))
  refine j_iload_n x dX5_teamOf_18 rfl ?_
  refine j_if_lt (tgt := 28) x dX5_teamOf_19 (by decide) (fun hc => absurd hc (by decide)) (fun hc => ?_)
  refine j_iload_n x dX5_teamOf_22 rfl ?_
  refine j_bipush (v := 8) x dX5_teamOf_23 (by decide) ?_
  refine j_icmp_le (tgt := 38) x dX5_teamOf_25 (by decide) (fun hc => ?_) (fun hc => absurd (by decide) hc)
  refine j_aload_n x dX5_teamOf_38 rfl ?_
  refine j2_callVv x hb dX5_teamOf_39 m_X5_count (c_count (d := d) hb hn hm) wmX5_187 jc_9 rfl rfl rfl (Nat.le_of_ble_eq_true rfl) (j_fit_rm (by omega) (by omega) (by omega)) rfl ?_
  refine j_iload_n x dX5_teamOf_42 rfl ?_
  refine j_tableIn (tgt := 136) x dX5_teamOf_43 (by decide) (by decide) rfl (by decide) ?_
  refine j_aload_n x dX5_teamOf_136 rfl ?_
  refine j2_getr (k := 5) (r := 75) x hb dX5_teamOf_137 jc_9 wfX5_36 (by decide) rfl ?_
  refine j2_getr (k := 6) (r := 79) x hb dX5_teamOf_140 jc_7 wfX5_199 (by decide) rfl ?_
  refine j_iload_n x dX5_teamOf_143 rfl ?_
  refine j2_callSi x hb dX5_teamOf_144 m_X5_at (c_at (d := d) hb fa_79 (by decide)) wmX5_93 rfl (Nat.le_of_ble_eq_true rfl) (j_fit_rm (by omega) (by omega) (by omega)) rfl ?_
  exact j_ireturn x hr dX5_teamOf_147 (by omega) (by omega) ⟨rfl, rfl⟩
theorem c_teamOf_k5 {d : Nat} {b : SBt} {Y : OUt} {M : MM} (hb : 94 ≤ b.2.1) {t : Int32} (hT : ¬ t < 0 ∧ ¬ M 1 0 ≤ t) {n : Nat} (hn : n ≤ 56) (hm : jmc M = nI n) : CM (d + 5) 1 6 yX5_teamOf cX5_teamOf 3 (some .int) [.ref 0, .int t, .int 5] b Y M (.inl (some (.int (jat 8 (jcount M n 80) t)))) (jcount M n) := by
  refine Con.of (by decide +kernel) (Nat.le_of_ble_eq_true rfl) rfl fun p l e s m args below meth c D tyc A ad0 x hr htab hname => ?_
  change JJ _ _ _ _ _ _ _ _ _ _ _ _ _ _ _ _ _ 0 [some (.ref 0), some (.int t), some (.int 5)] [] _ 0 0
  refine j_aload_n x dX5_teamOf_0 rfl ?_
  refine j_iload_n x dX5_teamOf_1 rfl ?_
  refine j2_callVi x hb dX5_teamOf_2 m_X5_isTeam (CM_v (c_isTeam (d := d) hb) (jb_t hT)) wmX5_174 jc_9 rfl rfl rfl (Nat.le_of_ble_eq_true rfl) (j_fit_rm (by omega) (by omega) (by omega)) rfl ?_
  refine j_if_ne (tgt := 18) x dX5_teamOf_5 (by decide) (fun hc => ?_) (fun hc => absurd hc (by decide))
  refine j_iload_n x dX5_teamOf_18 rfl ?_
  refine j_if_lt (tgt := 28) x dX5_teamOf_19 (by decide) (fun hc => absurd hc (by decide)) (fun hc => ?_)
  refine j_iload_n x dX5_teamOf_22 rfl ?_
  refine j_bipush (v := 8) x dX5_teamOf_23 (by decide) ?_
  refine j_icmp_le (tgt := 38) x dX5_teamOf_25 (by decide) (fun hc => ?_) (fun hc => absurd (by decide) hc)
  refine j_aload_n x dX5_teamOf_38 rfl ?_
  refine j2_callVv x hb dX5_teamOf_39 m_X5_count (c_count (d := d) hb hn hm) wmX5_187 jc_9 rfl rfl rfl (Nat.le_of_ble_eq_true rfl) (j_fit_rm (by omega) (by omega) (by omega)) rfl ?_
  refine j_iload_n x dX5_teamOf_42 rfl ?_
  refine j_tableIn (tgt := 148) x dX5_teamOf_43 (by decide) (by decide) rfl (by decide) ?_
  refine j_aload_n x dX5_teamOf_148 rfl ?_
  refine j2_getr (k := 5) (r := 75) x hb dX5_teamOf_149 jc_9 wfX5_36 (by decide) rfl ?_
  refine j2_getr (k := 7) (r := 80) x hb dX5_teamOf_152 jc_7 wfX5_202 (by decide) rfl ?_
  refine j_iload_n x dX5_teamOf_155 rfl ?_
  refine j2_callSi x hb dX5_teamOf_156 m_X5_at (c_at (d := d) hb fa_80 (by decide)) wmX5_93 rfl (Nat.le_of_ble_eq_true rfl) (j_fit_rm (by omega) (by omega) (by omega)) rfl ?_
  exact j_ireturn x hr dX5_teamOf_159 (by omega) (by omega) ⟨rfl, rfl⟩
theorem c_teamOf_k6 {d : Nat} {b : SBt} {Y : OUt} {M : MM} (hb : 94 ≤ b.2.1) {t : Int32} (hT : ¬ t < 0 ∧ ¬ M 1 0 ≤ t) {n : Nat} (hn : n ≤ 56) (hm : jmc M = nI n) : CM (d + 5) 1 6 yX5_teamOf cX5_teamOf 3 (some .int) [.ref 0, .int t, .int 6] b Y M (.inl (some (.int (jat 8 (jcount M n 81) t)))) (jcount M n) := by
  refine Con.of (by decide +kernel) (Nat.le_of_ble_eq_true rfl) rfl fun p l e s m args below meth c D tyc A ad0 x hr htab hname => ?_
  change JJ _ _ _ _ _ _ _ _ _ _ _ _ _ _ _ _ _ 0 [some (.ref 0), some (.int t), some (.int 6)] [] _ 0 0
  refine j_aload_n x dX5_teamOf_0 rfl ?_
  refine j_iload_n x dX5_teamOf_1 rfl ?_
  refine j2_callVi x hb dX5_teamOf_2 m_X5_isTeam (CM_v (c_isTeam (d := d) hb) (jb_t hT)) wmX5_174 jc_9 rfl rfl rfl (Nat.le_of_ble_eq_true rfl) (j_fit_rm (by omega) (by omega) (by omega)) rfl ?_
  refine j_if_ne (tgt := 18) x dX5_teamOf_5 (by decide) (fun hc => ?_) (fun hc => absurd hc (by decide))
  refine j_iload_n x dX5_teamOf_18 rfl ?_
  refine j_if_lt (tgt := 28) x dX5_teamOf_19 (by decide) (fun hc => absurd hc (by decide)) (fun hc => ?_)
  refine j_iload_n x dX5_teamOf_22 rfl ?_
  refine j_bipush (v := 8) x dX5_teamOf_23 (by decide) ?_
  refine j_icmp_le (tgt := 38) x dX5_teamOf_25 (by decide) (fun hc => ?_) (fun hc => absurd (by decide) hc)
  refine j_aload_n x dX5_teamOf_38 rfl ?_
  refine j2_callVv x hb dX5_teamOf_39 m_X5_count (c_count (d := d) hb hn hm) wmX5_187 jc_9 rfl rfl rfl (Nat.le_of_ble_eq_true rfl) (j_fit_rm (by omega) (by omega) (by omega)) rfl ?_
  refine j_iload_n x dX5_teamOf_42 rfl ?_
  refine j_tableIn (tgt := 160) x dX5_teamOf_43 (by decide) (by decide) rfl (by decide) ?_
  refine j_aload_n x dX5_teamOf_160 rfl ?_
  refine j2_getr (k := 5) (r := 75) x hb dX5_teamOf_161 jc_9 wfX5_36 (by decide) rfl ?_
  refine j2_getr (k := 8) (r := 81) x hb dX5_teamOf_164 jc_7 wfX5_205 (by decide) rfl ?_
  refine j_iload_n x dX5_teamOf_167 rfl ?_
  refine j2_callSi x hb dX5_teamOf_168 m_X5_at (c_at (d := d) hb fa_81 (by decide)) wmX5_93 rfl (Nat.le_of_ble_eq_true rfl) (j_fit_rm (by omega) (by omega) (by omega)) rfl ?_
  exact j_ireturn x hr dX5_teamOf_171 (by omega) (by omega) ⟨rfl, rfl⟩
theorem c_teamOf_k7 {d : Nat} {b : SBt} {Y : OUt} {M : MM} (hb : 94 ≤ b.2.1) {t : Int32} (hT : ¬ t < 0 ∧ ¬ M 1 0 ≤ t) {n : Nat} (hn : n ≤ 56) (hm : jmc M = nI n) : CM (d + 5) 1 6 yX5_teamOf cX5_teamOf 3 (some .int) [.ref 0, .int t, .int 7] b Y M (.inl (some (.int (jat 8 (jcount M n 82) t)))) (jcount M n) := by
  refine Con.of (by decide +kernel) (Nat.le_of_ble_eq_true rfl) rfl fun p l e s m args below meth c D tyc A ad0 x hr htab hname => ?_
  change JJ _ _ _ _ _ _ _ _ _ _ _ _ _ _ _ _ _ 0 [some (.ref 0), some (.int t), some (.int 7)] [] _ 0 0
  refine j_aload_n x dX5_teamOf_0 rfl ?_
  refine j_iload_n x dX5_teamOf_1 rfl ?_
  refine j2_callVi x hb dX5_teamOf_2 m_X5_isTeam (CM_v (c_isTeam (d := d) hb) (jb_t hT)) wmX5_174 jc_9 rfl rfl rfl (Nat.le_of_ble_eq_true rfl) (j_fit_rm (by omega) (by omega) (by omega)) rfl ?_
  refine j_if_ne (tgt := 18) x dX5_teamOf_5 (by decide) (fun hc => ?_) (fun hc => absurd hc (by decide))
  refine j_iload_n x dX5_teamOf_18 rfl ?_
  refine j_if_lt (tgt := 28) x dX5_teamOf_19 (by decide) (fun hc => absurd hc (by decide)) (fun hc => ?_)
  refine j_iload_n x dX5_teamOf_22 rfl ?_
  refine j_bipush (v := 8) x dX5_teamOf_23 (by decide) ?_
  refine j_icmp_le (tgt := 38) x dX5_teamOf_25 (by decide) (fun hc => ?_) (fun hc => absurd (by decide) hc)
  refine j_aload_n x dX5_teamOf_38 rfl ?_
  refine j2_callVv x hb dX5_teamOf_39 m_X5_count (c_count (d := d) hb hn hm) wmX5_187 jc_9 rfl rfl rfl (Nat.le_of_ble_eq_true rfl) (j_fit_rm (by omega) (by omega) (by omega)) rfl ?_
  refine j_iload_n x dX5_teamOf_42 rfl ?_
  refine j_tableIn (tgt := 172) x dX5_teamOf_43 (by decide) (by decide) rfl (by decide) ?_
  refine j_aload_n x dX5_teamOf_172 rfl ?_
  refine j2_getr (k := 5) (r := 75) x hb dX5_teamOf_173 jc_9 wfX5_36 (by decide) rfl ?_
  refine j2_getr (k := 9) (r := 82) x hb dX5_teamOf_176 jc_7 wfX5_208 (by decide) rfl ?_
  refine j_iload_n x dX5_teamOf_179 rfl ?_
  refine j2_callSi x hb dX5_teamOf_180 m_X5_at (c_at (d := d) hb fa_82 (by decide)) wmX5_93 rfl (Nat.le_of_ble_eq_true rfl) (j_fit_rm (by omega) (by omega) (by omega)) rfl ?_
  exact j_ireturn x hr dX5_teamOf_183 (by omega) (by omega) ⟨rfl, rfl⟩
theorem c_teamOf_k8 {d : Nat} {b : SBt} {Y : OUt} {M : MM} (hb : 94 ≤ b.2.1) {t : Int32} (hT : ¬ t < 0 ∧ ¬ M 1 0 ≤ t) {n : Nat} (hn : n ≤ 56) (hm : jmc M = nI n) : CM (d + 5) 1 6 yX5_teamOf cX5_teamOf 3 (some .int) [.ref 0, .int t, .int 8] b Y M (.inl (some (.int (jat 8 (jcount M n 83) t)))) (jcount M n) := by
  refine Con.of (by decide +kernel) (Nat.le_of_ble_eq_true rfl) rfl fun p l e s m args below meth c D tyc A ad0 x hr htab hname => ?_
  change JJ _ _ _ _ _ _ _ _ _ _ _ _ _ _ _ _ _ 0 [some (.ref 0), some (.int t), some (.int 8)] [] _ 0 0
  refine j_aload_n x dX5_teamOf_0 rfl ?_
  refine j_iload_n x dX5_teamOf_1 rfl ?_
  refine j2_callVi x hb dX5_teamOf_2 m_X5_isTeam (CM_v (c_isTeam (d := d) hb) (jb_t hT)) wmX5_174 jc_9 rfl rfl rfl (Nat.le_of_ble_eq_true rfl) (j_fit_rm (by omega) (by omega) (by omega)) rfl ?_
  refine j_if_ne (tgt := 18) x dX5_teamOf_5 (by decide) (fun hc => ?_) (fun hc => absurd hc (by decide))
  refine j_iload_n x dX5_teamOf_18 rfl ?_
  refine j_if_lt (tgt := 28) x dX5_teamOf_19 (by decide) (fun hc => absurd hc (by decide)) (fun hc => ?_)
  refine j_iload_n x dX5_teamOf_22 rfl ?_
  refine j_bipush (v := 8) x dX5_teamOf_23 (by decide) ?_
  refine j_icmp_le (tgt := 38) x dX5_teamOf_25 (by decide) (fun hc => ?_) (fun hc => absurd (by decide) hc)
  refine j_aload_n x dX5_teamOf_38 rfl ?_
  refine j2_callVv x hb dX5_teamOf_39 m_X5_count (c_count (d := d) hb hn hm) wmX5_187 jc_9 rfl rfl rfl (Nat.le_of_ble_eq_true rfl) (j_fit_rm (by omega) (by omega) (by omega)) rfl ?_
  refine j_iload_n x dX5_teamOf_42 rfl ?_
  refine j_tableOut (tgt := 184) x dX5_teamOf_43 (by decide) (by decide) ?_
  refine j_aload_n x dX5_teamOf_184 rfl ?_
  refine j2_getr (k := 5) (r := 75) x hb dX5_teamOf_185 jc_9 wfX5_36 (by decide) rfl ?_
  refine j2_getr (k := 10) (r := 83) x hb dX5_teamOf_188 jc_7 wfX5_211 (by decide) rfl ?_
  refine j_iload_n x dX5_teamOf_191 rfl ?_
  refine j2_callSi x hb dX5_teamOf_192 m_X5_at (c_at (d := d) hb fa_83 (by decide)) wmX5_93 rfl (Nat.le_of_ble_eq_true rfl) (j_fit_rm (by omega) (by omega) (by omega)) rfl ?_
  exact j_ireturn x hr dX5_teamOf_195 (by omega) (by omega) ⟨rfl, rfl⟩
theorem c_pointsAgain {d : Nat} {b : SBt} {Y : OUt} {M : MM} (hb : 94 ≤ b.2.1) {t : Int32} (hT : ¬ t < 0 ∧ ¬ M 1 0 ≤ t) {n : Nat} (hn : n ≤ 56) (hm : jmc M = nI n) : CM (d + 5) 1 6 yX5_pointsAgain cX5_pointsAgain 2 (some .int) [.ref 0, .int t] b Y M (.inl (some (.int (jat 8 (jcount M n 77) t * jcount M n 1 4 + jat 8 (jcount M n 78) t * jcount M n 1 5)))) (jcount M n) := by
  refine Con.of (by decide +kernel) (Nat.le_of_ble_eq_true rfl) rfl fun p l e s m args below meth c D tyc A ad0 x hr htab hname => ?_
  change JJ _ _ _ _ _ _ _ _ _ _ _ _ _ _ _ _ _ 0 [some (.ref 0), some (.int t)] [] _ 0 0
  refine j_aload_n x dX5_pointsAgain_0 rfl ?_
  refine j_iload_n x dX5_pointsAgain_1 rfl ?_
  refine j2_callVi x hb dX5_pointsAgain_2 m_X5_isTeam (CM_v (c_isTeam (d := d) hb) (jb_t hT)) wmX5_174 jc_9 rfl rfl rfl (Nat.le_of_ble_eq_true rfl) (j_fit_rm (by omega) (by omega) (by omega)) rfl ?_
  refine j_if_ne (tgt := 18) x dX5_pointsAgain_5 (by decide) (fun hc => ?_) (fun hc => absurd hc (by decide))
  refine j_aload_n x dX5_pointsAgain_18 rfl ?_
  refine j2_callVv x hb dX5_pointsAgain_19 m_X5_count (c_count (d := d) hb hn hm) wmX5_187 jc_9 rfl rfl rfl (Nat.le_of_ble_eq_true rfl) (j_fit_rm (by omega) (by omega) (by omega)) rfl ?_
  refine j_aload_n x dX5_pointsAgain_22 rfl ?_
  refine j2_getr (k := 5) (r := 75) x hb dX5_pointsAgain_23 jc_9 wfX5_36 (by decide) rfl ?_
  refine j2_getr (k := 4) (r := 77) x hb dX5_pointsAgain_26 jc_7 wfX5_193 (by decide) rfl ?_
  refine j_iload_n x dX5_pointsAgain_29 rfl ?_
  refine j2_callSi x hb dX5_pointsAgain_30 m_X5_at (c_at (d := d) hb fa_77 (by decide)) wmX5_93 rfl (Nat.le_of_ble_eq_true rfl) (j_fit_rm (by omega) (by omega) (by omega)) rfl ?_
  refine j_aload_n x dX5_pointsAgain_33 rfl ?_
  refine j2_getr (k := 0) (r := 1) x hb dX5_pointsAgain_34 jc_9 wfX5_10 (by decide) rfl ?_
  refine j2_geti (k := 4) x hb dX5_pointsAgain_37 jc_6 wfX5_119 (by decide) rfl ?_
  refine j_imul x dX5_pointsAgain_40 ?_
  refine j_aload_n x dX5_pointsAgain_41 rfl ?_
  refine j2_getr (k := 5) (r := 75) x hb dX5_pointsAgain_42 jc_9 wfX5_36 (by decide) rfl ?_
  refine j2_getr (k := 5) (r := 78) x hb dX5_pointsAgain_45 jc_7 wfX5_196 (by decide) rfl ?_
  refine j_iload_n x dX5_pointsAgain_48 rfl ?_
  refine j2_callSi x hb dX5_pointsAgain_49 m_X5_at (c_at (d := d) hb fa_78 (by decide)) wmX5_93 rfl (Nat.le_of_ble_eq_true rfl) (j_fit_rm (by omega) (by omega) (by omega)) rfl ?_
  refine j_aload_n x dX5_pointsAgain_52 rfl ?_
  refine j2_getr (k := 0) (r := 1) x hb dX5_pointsAgain_53 jc_9 wfX5_10 (by decide) rfl ?_
  refine j2_geti (k := 5) x hb dX5_pointsAgain_56 jc_6 wfX5_122 (by decide) rfl ?_
  refine j_imul x dX5_pointsAgain_59 ?_
  refine j_iadd x dX5_pointsAgain_60 ?_
  exact j_ireturn x hr dX5_pointsAgain_61 (by omega) (by omega) ⟨rfl, rfl⟩
theorem c_most {d : Nat} {b : SBt} {Y : OUt} {M : MM} (hb : 94 ≤ b.2.1) {t : Int32} (hT : ¬ t < 0 ∧ ¬ M 1 0 ≤ t) {n : Nat} (hn : n ≤ 56) (hm : jmc M = nI n) : CM (d + 5) 1 6 yX5_most cX5_most 2 (some .int) [.ref 0, .int t] b Y M (.inl (some (.int (jat 8 (jcount M n 76) t + jcount M n 1 4 * jat 8 (jcount M n 83) t)))) (jcount M n) := by
  refine Con.of (by decide +kernel) (Nat.le_of_ble_eq_true rfl) rfl fun p l e s m args below meth c D tyc A ad0 x hr htab hname => ?_
  change JJ _ _ _ _ _ _ _ _ _ _ _ _ _ _ _ _ _ 0 [some (.ref 0), some (.int t)] [] _ 0 0
  refine j_aload_n x dX5_most_0 rfl ?_
  refine j_iload_n x dX5_most_1 rfl ?_
  refine j2_callVi x hb dX5_most_2 m_X5_isTeam (CM_v (c_isTeam (d := d) hb) (jb_t hT)) wmX5_174 jc_9 rfl rfl rfl (Nat.le_of_ble_eq_true rfl) (j_fit_rm (by omega) (by omega) (by omega)) rfl ?_
  refine j_if_ne (tgt := 18) x dX5_most_5 (by decide) (fun hc => ?_) (fun hc => absurd hc (by decide))
  refine j_aload_n x dX5_most_18 rfl ?_
  refine j2_callVv x hb dX5_most_19 m_X5_count (c_count (d := d) hb hn hm) wmX5_187 jc_9 rfl rfl rfl (Nat.le_of_ble_eq_true rfl) (j_fit_rm (by omega) (by omega) (by omega)) rfl ?_
  refine j_aload_n x dX5_most_22 rfl ?_
  refine j2_getr (k := 5) (r := 75) x hb dX5_most_23 jc_9 wfX5_36 (by decide) rfl ?_
  refine j2_getr (k := 3) (r := 76) x hb dX5_most_26 jc_7 wfX5_190 (by decide) rfl ?_
  refine j_iload_n x dX5_most_29 rfl ?_
  refine j2_callSi x hb dX5_most_30 m_X5_at (c_at (d := d) hb fa_76 (by decide)) wmX5_93 rfl (Nat.le_of_ble_eq_true rfl) (j_fit_rm (by omega) (by omega) (by omega)) rfl ?_
  refine j_aload_n x dX5_most_33 rfl ?_
  refine j2_getr (k := 0) (r := 1) x hb dX5_most_34 jc_9 wfX5_10 (by decide) rfl ?_
  refine j2_geti (k := 4) x hb dX5_most_37 jc_6 wfX5_119 (by decide) rfl ?_
  refine j_aload_n x dX5_most_40 rfl ?_
  refine j2_getr (k := 5) (r := 75) x hb dX5_most_41 jc_9 wfX5_36 (by decide) rfl ?_
  refine j2_getr (k := 10) (r := 83) x hb dX5_most_44 jc_7 wfX5_211 (by decide) rfl ?_
  refine j_iload_n x dX5_most_47 rfl ?_
  refine j2_callSi x hb dX5_most_48 m_X5_at (c_at (d := d) hb fa_83 (by decide)) wmX5_93 rfl (Nat.le_of_ble_eq_true rfl) (j_fit_rm (by omega) (by omega) (by omega)) rfl ?_
  refine j_imul x dX5_most_51 ?_
  refine j_iadd x dX5_most_52 ?_
  exact j_ireturn x hr dX5_most_53 (by omega) (by omega) ⟨rfl, rfl⟩
theorem c_isSafe {d : Nat} {b : SBt} {Y : OUt} {M : MM} (hb : 94 ≤ b.2.1) {t : Int32} (hT : ¬ t < 0 ∧ ¬ M 1 0 ≤ t) {n : Nat} (hn : n ≤ 56) (hm : jmc M = nI n) {w : Nat} (hw : w ≤ 8) (h0 : M 1 0 = nI w) : CM (d + 5) 1 6 yX5_isSafe cX5_isSafe 2 (some .boolean) [.ref 0, .int t] b Y M (.inl (some (.int (jb (jfst (fSafe (jcount M n) t) w = -1))))) (jcount M n) := by
  refine Con.of (by decide +kernel) (Nat.le_of_ble_eq_true rfl) rfl fun p l e s m args below meth c D tyc A ad0 x hr htab hname => ?_
  change JJ _ _ _ _ _ _ _ _ _ _ _ _ _ _ _ _ _ 0 [some (.ref 0), some (.int t)] [] _ 0 0
  refine j_aload_n x dX5_isSafe_0 rfl ?_
  refine j_iload_n x dX5_isSafe_1 rfl ?_
  refine j2_callVi x hb dX5_isSafe_2 m_X5_isTeam (CM_v (c_isTeam (d := d) hb) (jb_t hT)) wmX5_174 jc_9 rfl rfl rfl (Nat.le_of_ble_eq_true rfl) (j_fit_rm (by omega) (by omega) (by omega)) rfl ?_
  refine j_if_ne (tgt := 18) x dX5_isSafe_5 (by decide) (fun hc => ?_) (fun hc => absurd hc (by decide))
  refine j_aload_n x dX5_isSafe_18 rfl ?_
  refine j2_callVv x hb dX5_isSafe_19 m_X5_count (c_count (d := d) hb hn hm) wmX5_187 jc_9 rfl rfl rfl (Nat.le_of_ble_eq_true rfl) (j_fit_rm (by omega) (by omega) (by omega)) rfl ?_
  refine j_aload_n x dX5_isSafe_22 rfl ?_
  refine j_iload_n x dX5_isSafe_23 rfl ?_
  refine j2_callVi x hb dX5_isSafe_24 m_X5_isBeyondOthers (c_isBeyondOthers (d := d) hb hw (by rw [jcount_n (by omega)]; exact h0)) wmX5_282 jc_9 rfl rfl rfl (Nat.le_of_ble_eq_true rfl) (j_fit_rm (by omega) (by omega) (by omega)) rfl ?_
  exact j_zreturn x hr dX5_isSafe_27 (by first | decide | with_reducible exact jb_nar | with_reducible exact jisS_nar | with_reducible exact gno_nar) (by omega) (by omega) ⟨rfl, rfl⟩
theorem c_isOut {d : Nat} {b : SBt} {Y : OUt} {M : MM} (hb : 94 ≤ b.2.1) {t : Int32} (hT : ¬ t < 0 ∧ ¬ M 1 0 ≤ t) {n : Nat} (hn : n ≤ 56) (hm : jmc M = nI n) {w : Nat} (hw : w ≤ 8) (h0 : M 1 0 = nI w) : CM (d + 5) 1 6 yX5_isOut cX5_isOut 2 (some .boolean) [.ref 0, .int t] b Y M (.inl (some (.int (jb (¬ jfst (fOut (jcount M n) t) w = -1))))) (jcount M n) := by
  refine Con.of (by decide +kernel) (Nat.le_of_ble_eq_true rfl) rfl fun p l e s m args below meth c D tyc A ad0 x hr htab hname => ?_
  change JJ _ _ _ _ _ _ _ _ _ _ _ _ _ _ _ _ _ 0 [some (.ref 0), some (.int t)] [] _ 0 0
  refine j_aload_n x dX5_isOut_0 rfl ?_
  refine j_iload_n x dX5_isOut_1 rfl ?_
  refine j2_callVi x hb dX5_isOut_2 m_X5_isTeam (CM_v (c_isTeam (d := d) hb) (jb_t hT)) wmX5_174 jc_9 rfl rfl rfl (Nat.le_of_ble_eq_true rfl) (j_fit_rm (by omega) (by omega) (by omega)) rfl ?_
  refine j_if_ne (tgt := 18) x dX5_isOut_5 (by decide) (fun hc => ?_) (fun hc => absurd hc (by decide))
  refine j_aload_n x dX5_isOut_18 rfl ?_
  refine j2_callVv x hb dX5_isOut_19 m_X5_count (c_count (d := d) hb hn hm) wmX5_187 jc_9 rfl rfl rfl (Nat.le_of_ble_eq_true rfl) (j_fit_rm (by omega) (by omega) (by omega)) rfl ?_
  refine j_aload_n x dX5_isOut_22 rfl ?_
  refine j_iload_n x dX5_isOut_23 rfl ?_
  refine j2_callVi x hb dX5_isOut_24 m_X5_isBehindAnother (c_isBehindAnother (d := d) hb hw (by rw [jcount_n (by omega)]; exact h0)) wmX5_285 jc_9 rfl rfl rfl (Nat.le_of_ble_eq_true rfl) (j_fit_rm (by omega) (by omega) (by omega)) rfl ?_
  exact j_zreturn x hr dX5_isOut_27 (by first | decide | with_reducible exact jb_nar | with_reducible exact jisS_nar | with_reducible exact gno_nar) (by omega) (by omega) ⟨rfl, rfl⟩
theorem c_valueOf_bad {d : Nat} {b : SBt} {Y : OUt} {M : MM} (hb : 94 ≤ b.2.1) {t u : Int32} (hT : ¬ t < 0 ∧ ¬ M 1 0 ≤ t) (hx : u < 0 ∨ ¬ u ≤ 4) : CM (d + 1) 1 6 yX5_valueOf cX5_valueOf 3 (some .int) [.ref 0, .int t, .int u] b Y M (.inr "java/lang/IllegalArgumentException") (M) := by
  refine Con.of (by decide +kernel) (Nat.le_of_ble_eq_true rfl) rfl fun p l e s m args below meth c D tyc A ad0 x hr htab hname => ?_
  change JJ _ _ _ _ _ _ _ _ _ _ _ _ _ _ _ _ _ 0 [some (.ref 0), some (.int t), some (.int u)] [] _ 0 0
  refine j_aload_n x dX5_valueOf_0 rfl ?_
  refine j_iload_n x dX5_valueOf_1 rfl ?_
  refine j2_callVi x hb dX5_valueOf_2 m_X5_isTeam (CM_v (c_isTeam (d := d) hb) (jb_t hT)) wmX5_174 jc_9 rfl rfl rfl (Nat.le_of_ble_eq_true rfl) (j_fit_rm (by omega) (by omega) (by omega)) rfl ?_
  refine j_if_ne (tgt := 18) x dX5_valueOf_5 (by decide) (fun hc => ?_) (fun hc => absurd hc (by decide))
  refine j_iload_n x dX5_valueOf_18 rfl ?_
  refine j_if_lt (tgt := 27) x dX5_valueOf_19 (by decide) (fun h1 => ?_) (fun h1 => ?_)
  · exact j_throwSW x exX5_182 wsX5_277 dX5_valueOf_27 dX5_valueOf_30 dX5_valueOf_31 dX5_valueOf_34 dX5_valueOf_37 htab (by omega) (by omega) ⟨rfl, rfl⟩
  · refine j_iload_n x dX5_valueOf_22 rfl ?_
    refine j_iconst (v := 4) x dX5_valueOf_23 (by decide) ?_
    refine j_icmp_le (tgt := 38) x dX5_valueOf_24 (by decide) (fun hc => absurd hc (hx.resolve_left h1)) (fun hc => ?_)
    exact j_throwSW x exX5_182 wsX5_277 dX5_valueOf_27 dX5_valueOf_30 dX5_valueOf_31 dX5_valueOf_34 dX5_valueOf_37 htab (by omega) (by omega) ⟨rfl, rfl⟩
theorem c_valueOf {d : Nat} {b : SBt} {Y : OUt} {M : MM} (hb : 94 ≤ b.2.1) {t u : Int32} (hT : ¬ t < 0 ∧ ¬ M 1 0 ≤ t) (hx : ¬ (u < 0 ∨ ¬ u ≤ 4)) (hu : u = 0 ∨ u = 1 ∨ u = 2 ∨ u = 3 ∨ u = 4) {n : Nat} (hn : n ≤ 56) (hm : jmc M = nI n) : CM (d + 5) 1 6 yX5_valueOf cX5_valueOf 3 (some .int) [.ref 0, .int t, .int u] b Y M (.inl (some (.int (jwo (jcount M n) t u)))) (jcount M n) := by
  refine Con.of (by decide +kernel) (Nat.le_of_ble_eq_true rfl) rfl fun p l e s m args below meth c D tyc A ad0 x hr htab hname => ?_
  change JJ _ _ _ _ _ _ _ _ _ _ _ _ _ _ _ _ _ 0 [some (.ref 0), some (.int t), some (.int u)] [] _ 0 0
  refine j_aload_n x dX5_valueOf_0 rfl ?_
  refine j_iload_n x dX5_valueOf_1 rfl ?_
  refine j2_callVi x hb dX5_valueOf_2 m_X5_isTeam (CM_v (c_isTeam (d := d) hb) (jb_t hT)) wmX5_174 jc_9 rfl rfl rfl (Nat.le_of_ble_eq_true rfl) (j_fit_rm (by omega) (by omega) (by omega)) rfl ?_
  refine j_if_ne (tgt := 18) x dX5_valueOf_5 (by decide) (fun hc => ?_) (fun hc => absurd hc (by decide))
  refine j_iload_n x dX5_valueOf_18 rfl ?_
  refine j_if_lt (tgt := 27) x dX5_valueOf_19 (by decide) (fun hc => absurd hc (fun q => hx (Or.inl q))) (fun hc => ?_)
  refine j_iload_n x dX5_valueOf_22 rfl ?_
  refine j_iconst (v := 4) x dX5_valueOf_23 (by decide) ?_
  refine j_icmp_le (tgt := 38) x dX5_valueOf_24 (by decide) (fun hc => ?_) (fun hc => absurd (Decidable.byContradiction fun q => hx (Or.inr q)) hc)
  refine j_aload_n x dX5_valueOf_38 rfl ?_
  refine j2_callVv x hb dX5_valueOf_39 m_X5_count (c_count (d := d) hb hn hm) wmX5_187 jc_9 rfl rfl rfl (Nat.le_of_ble_eq_true rfl) (j_fit_rm (by omega) (by omega) (by omega)) rfl ?_
  refine j_aload_n x dX5_valueOf_42 rfl ?_
  refine j2_getr (k := 5) (r := 75) x hb dX5_valueOf_43 jc_9 wfX5_36 (by decide) rfl ?_
  refine j_iload_n x dX5_valueOf_46 rfl ?_
  refine j_iload_n x dX5_valueOf_47 rfl ?_
  refine j2_callVi x hb dX5_valueOf_48 m_X3_worth (c_worth (d := d) hb hu) wmX5_279 jc_7 rfl rfl rfl (Nat.le_of_ble_eq_true rfl) (j_fit_rm (by omega) (by omega) (by omega)) rfl ?_
  exact j_ireturn x hr dX5_valueOf_51 (by omega) (by omega) ⟨rfl, rfl⟩
def fPlace (M : MM) (r : Nat) (t : Int32) (i : Nat) : Int32 := if jah M r (nI i) t = 0 then 0 else 1
theorem c_placeOf {d : Nat} {b : SBt} {Y : OUt} {M : MM} (hb : 94 ≤ b.2.1) {t : Int32} (hT : ¬ t < 0 ∧ ¬ M 1 0 ≤ t) {n : Nat} (hn : n ≤ 56) (hm : jmc M = nI n) {w : Nat} (hw : w ≤ 8) (h0 : M 1 0 = nI w) {r : Nat} (hr3 : r ≤ 3) (h6 : M 1 6 = nI r) (hru : ∀ i, i < r → M 3 i = 0 ∨ M 3 i = 1 ∨ M 3 i = 2 ∨ M 3 i = 3 ∨ M 3 i = 4) : CM (d + 5) 1 6 yX5_placeOf cX5_placeOf 4 (some .int) [.ref 0, .int t] b Y M (.inl (some (.int (jsum (fPlace (jcount M n) r t) w)))) (jcount M n) := by
  refine Con.of (by decide +kernel) (Nat.le_of_ble_eq_true rfl) rfl fun p l e s m args below meth c D tyc A ad0 x hr htab hname => ?_
  change JJ _ _ _ _ _ _ _ _ _ _ _ _ _ _ _ _ _ 0 [some (.ref 0), some (.int t), none, none] [] _ 0 0
  refine j_aload_n x dX5_placeOf_0 rfl ?_
  refine j_iload_n x dX5_placeOf_1 rfl ?_
  refine j2_callVi x hb dX5_placeOf_2 m_X5_isTeam (CM_v (c_isTeam (d := d) hb) (jb_t hT)) wmX5_174 jc_9 rfl rfl rfl (Nat.le_of_ble_eq_true rfl) (j_fit_rm (by omega) (by omega) (by omega)) rfl ?_
  refine j_if_ne (tgt := 18) x dX5_placeOf_5 (by decide) (fun hc => ?_) (fun hc => absurd hc (by decide))
  refine j_aload_n x dX5_placeOf_18 rfl ?_
  refine j2_callVv x hb dX5_placeOf_19 m_X5_count (c_count (d := d) hb hn hm) wmX5_187 jc_9 rfl rfl rfl (Nat.le_of_ble_eq_true rfl) (j_fit_rm (by omega) (by omega) (by omega)) rfl ?_
  refine j_iconst (v := 0) x dX5_placeOf_22 (by decide) ?_
  refine j_istore_n x dX5_placeOf_23 (by decide) rfl ?_
  refine j_iconst (v := 0) x dX5_placeOf_24 (by decide) ?_
  refine j_istore_n x dX5_placeOf_25 (by decide) rfl ?_
  refine j_for (w) (fun z0 => [some (.ref 0), some (.int t), some (.int (jsum (fPlace (jcount M n) r t) z0)), some (.int (nI z0))]) (fun z0 => jcount M n) (fun z0 => True) (rfl) (rfl) (trivial) (fun j hj hP ih => ?_) (fun hP => ?_)
  · refine j_iload_n x dX5_placeOf_26 rfl ?_
    refine j_aload_n x dX5_placeOf_27 rfl ?_
    refine j2_getr (k := 0) (r := 1) x hb dX5_placeOf_28 jc_9 wfX5_10 (by decide) rfl ?_
    refine j2_geti (k := 0) x hb dX5_placeOf_31 jc_6 wfX5_80 (by decide) rfl ?_; rw [jcount_n (by omega), h0]
    refine j_icmp_ge (tgt := 55) x dX5_placeOf_34 (by decide) (fun hc => absurd hc (nI_ge hj (by omega))) (fun hc => ?_)
    refine j_aload_n x dX5_placeOf_37 rfl ?_
    refine j_iload_n x dX5_placeOf_38 rfl ?_
    refine j_iload_n x dX5_placeOf_39 rfl ?_
    refine j2_callVi x hb dX5_placeOf_40 m_X5_isAhead (c_isAhead (d := d) hb hr3 (by rw [jcount_n (by omega)]; exact h6) (fun i hi => by rw [jcount_n (by omega)]; exact hru i hi)) wmX5_274 jc_9 rfl rfl rfl (Nat.le_of_ble_eq_true rfl) (j_fit_rm (by omega) (by omega) (by omega)) rfl ?_
    refine j_if_eq (tgt := 49) x dX5_placeOf_43 (by decide) (fun h1 => ?_) (fun h1 => ?_)
    · refine j_iinc x dX5_placeOf_49 rfl (by decide) rfl ?_
      refine j_goto (tgt := 26) x dX5_placeOf_52 (by decide) ?_
      exact j_goal (ih (trivial)) (wk_c rfl (wk_c rfl (wk_c (congrArg (fun z => some (Value.int z)) (jsum_f (if_pos h1))) (wk_c (congrArg (fun z => some (Value.int z)) (nI_1 _)) (wk_0))))) (rfl)
    · refine j_iinc x dX5_placeOf_46 rfl (by decide) rfl ?_
      refine j_iinc x dX5_placeOf_49 rfl (by decide) rfl ?_
      refine j_goto (tgt := 26) x dX5_placeOf_52 (by decide) ?_
      exact j_goal (ih (trivial)) (wk_c rfl (wk_c rfl (wk_c (congrArg (fun z => some (Value.int z)) (jsum_v (if_neg h1))) (wk_c (congrArg (fun z => some (Value.int z)) (nI_1 _)) (wk_0))))) (rfl)
  refine j_iload_n x dX5_placeOf_26 rfl ?_
  refine j_aload_n x dX5_placeOf_27 rfl ?_
  refine j2_getr (k := 0) (r := 1) x hb dX5_placeOf_28 jc_9 wfX5_10 (by decide) rfl ?_
  refine j2_geti (k := 0) x hb dX5_placeOf_31 jc_6 wfX5_80 (by decide) rfl ?_; rw [jcount_n (by omega), h0]
  refine j_icmp_ge (tgt := 55) x dX5_placeOf_34 (by decide) (fun hc => ?_) (fun hc => absurd (nI_le (Nat.le_refl _) (by omega)) hc)
  refine j_iload_n x dX5_placeOf_55 rfl ?_
  exact j_ireturn x hr dX5_placeOf_56 (by omega) (by omega) ⟨rfl, rfl⟩
def jtied (M : MM) (t : Int32) : Nat → Int32
  | 0 => 0
  | i + 1 => if jat 8 (M 76) (nI i) = jat 8 (M 76) t then jtied M t i ||| (1 <<< (nI i &&& 31)) else jtied M t i
theorem c_tied {d : Nat} {b : SBt} {Y : OUt} {M : MM} (hb : 94 ≤ b.2.1) {t : Int32} (hT : ¬ t < 0 ∧ ¬ M 1 0 ≤ t) {n : Nat} (hn : n ≤ 56) (hm : jmc M = nI n) {w : Nat} (hw : w ≤ 8) (h0 : M 1 0 = nI w) : CM (d + 5) 1 6 yX5_tied cX5_tied 4 (some .int) [.ref 0, .int t] b Y M (.inl (some (.int (jtied (jcount M n) t w)))) (jcount M n) := by
  refine Con.of (by decide +kernel) (Nat.le_of_ble_eq_true rfl) rfl fun p l e s m args below meth c D tyc A ad0 x hr htab hname => ?_
  change JJ _ _ _ _ _ _ _ _ _ _ _ _ _ _ _ _ _ 0 [some (.ref 0), some (.int t), none, none] [] _ 0 0
  refine j_aload_n x dX5_tied_0 rfl ?_
  refine j_iload_n x dX5_tied_1 rfl ?_
  refine j2_callVi x hb dX5_tied_2 m_X5_isTeam (CM_v (c_isTeam (d := d) hb) (jb_t hT)) wmX5_174 jc_9 rfl rfl rfl (Nat.le_of_ble_eq_true rfl) (j_fit_rm (by omega) (by omega) (by omega)) rfl ?_
  refine j_if_ne (tgt := 18) x dX5_tied_5 (by decide) (fun hc => ?_) (fun hc => absurd hc (by decide))
  refine j_aload_n x dX5_tied_18 rfl ?_
  refine j2_callVv x hb dX5_tied_19 m_X5_count (c_count (d := d) hb hn hm) wmX5_187 jc_9 rfl rfl rfl (Nat.le_of_ble_eq_true rfl) (j_fit_rm (by omega) (by omega) (by omega)) rfl ?_
  refine j_iconst (v := 0) x dX5_tied_22 (by decide) ?_
  refine j_istore_n x dX5_tied_23 (by decide) rfl ?_
  refine j_iconst (v := 0) x dX5_tied_24 (by decide) ?_
  refine j_istore_n x dX5_tied_25 (by decide) rfl ?_
  refine j_for (w) (fun z0 => [some (.ref 0), some (.int t), some (.int (jtied (jcount M n) t z0)), some (.int (nI z0))]) (fun z0 => jcount M n) (fun z0 => True) (rfl) (rfl) (trivial) (fun j hj hP ih => ?_) (fun hP => ?_)
  · refine j_iload_n x dX5_tied_26 rfl ?_
    refine j_aload_n x dX5_tied_27 rfl ?_
    refine j2_getr (k := 0) (r := 1) x hb dX5_tied_28 jc_9 wfX5_10 (by decide) rfl ?_
    refine j2_geti (k := 0) x hb dX5_tied_31 jc_6 wfX5_80 (by decide) rfl ?_; rw [jcount_n (by omega), h0]
    refine j_icmp_ge (tgt := 74) x dX5_tied_34 (by decide) (fun hc => absurd hc (nI_ge hj (by omega))) (fun hc => ?_)
    refine j_aload_n x dX5_tied_37 rfl ?_
    refine j2_getr (k := 5) (r := 75) x hb dX5_tied_38 jc_9 wfX5_36 (by decide) rfl ?_
    refine j2_getr (k := 3) (r := 76) x hb dX5_tied_41 jc_7 wfX5_190 (by decide) rfl ?_
    refine j_iload_n x dX5_tied_44 rfl ?_
    refine j2_callSi x hb dX5_tied_45 m_X5_at (c_at (d := d) hb fa_76 (by decide)) wmX5_93 rfl (Nat.le_of_ble_eq_true rfl) (j_fit_rm (by omega) (by omega) (by omega)) rfl ?_
    refine j_aload_n x dX5_tied_48 rfl ?_
    refine j2_getr (k := 5) (r := 75) x hb dX5_tied_49 jc_9 wfX5_36 (by decide) rfl ?_
    refine j2_getr (k := 3) (r := 76) x hb dX5_tied_52 jc_7 wfX5_190 (by decide) rfl ?_
    refine j_iload_n x dX5_tied_55 rfl ?_
    refine j2_callSi x hb dX5_tied_56 m_X5_at (c_at (d := d) hb fa_76 (by decide)) wmX5_93 rfl (Nat.le_of_ble_eq_true rfl) (j_fit_rm (by omega) (by omega) (by omega)) rfl ?_
    refine j_icmp_ne (tgt := 68) x dX5_tied_59 (by decide) (fun h1 => ?_) (fun h1 => ?_)
    · refine j_iinc x dX5_tied_68 rfl (by decide) rfl ?_
      refine j_goto (tgt := 26) x dX5_tied_71 (by decide) ?_
      exact j_goal (ih (trivial)) (wk_c rfl (wk_c rfl (wk_c (congrArg (fun z => some (Value.int z)) (show _ = jtied (jcount M n) t (j + 1) by rw [jtied, if_neg h1])) (wk_c (congrArg (fun z => some (Value.int z)) (nI_1 _)) (wk_0))))) (rfl)
    · refine j_iload_n x dX5_tied_62 rfl ?_
      refine j_iconst (v := 1) x dX5_tied_63 (by decide) ?_
      refine j_iload_n x dX5_tied_64 rfl ?_
      refine j_ishl x dX5_tied_65 ?_
      refine j_ior x dX5_tied_66 ?_
      refine j_istore_n x dX5_tied_67 (by decide) rfl ?_
      refine j_iinc x dX5_tied_68 rfl (by decide) rfl ?_
      refine j_goto (tgt := 26) x dX5_tied_71 (by decide) ?_
      exact j_goal (ih (trivial)) (wk_c rfl (wk_c rfl (wk_c (congrArg (fun z => some (Value.int z)) (show _ = jtied (jcount M n) t (j + 1) by rw [jtied, if_pos h1])) (wk_c (congrArg (fun z => some (Value.int z)) (nI_1 _)) (wk_0))))) (rfl)
  refine j_iload_n x dX5_tied_26 rfl ?_
  refine j_aload_n x dX5_tied_27 rfl ?_
  refine j2_getr (k := 0) (r := 1) x hb dX5_tied_28 jc_9 wfX5_10 (by decide) rfl ?_
  refine j2_geti (k := 0) x hb dX5_tied_31 jc_6 wfX5_80 (by decide) rfl ?_; rw [jcount_n (by omega), h0]
  refine j_icmp_ge (tgt := 74) x dX5_tied_34 (by decide) (fun hc => ?_) (fun hc => absurd (nI_le (Nat.le_refl _) (by omega)) hc)
  refine j_iload_n x dX5_tied_74 rfl ?_
  exact j_ireturn x hr dX5_tied_75 (by omega) (by omega) ⟨rfl, rfl⟩
