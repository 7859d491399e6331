/-! ===== the history, the tally, refusals ===== -/
theorem jlg_n {M : MM} {a g z k : Nat} (h : z < g ∨ g + 5 < z) : jlg M a g z k = M z k := by
  simp only [jlg]
  grind
def jkh (M : MM) (j k : Nat) : MM := jm (jm M 13 1 (nI ((j + 1) % 9))) 13 2 (nI (min (k + 1) 8))
def jkeep (M : MM) (j k : Nat) : MM := jkh (jlg M 1 (15 + 6 * j)) j k
theorem c_hold {d : Nat} {b : SBt} {Y : OUt} {M : MM} (hb : 94 ≤ b.2.1) {j : Nat} (hj : j < 9) (hh : M 13 1 = nI j) (hz : M 1 2 = 0 ∨ M 1 2 = 1) : CM (d + 2) 0 0 yX1_hold cX1_hold 3 none [.ref 13, .ref 1] b Y M (.inl none) (jlg M 1 (15 + 6 * j)) := by
  refine Con.of (by decide +kernel) (Nat.le_of_ble_eq_true rfl) rfl fun p l e s m args below meth c D tyc A ad0 x hr htab hname => ?_
  change JJ _ _ _ _ _ _ _ _ _ _ _ _ _ _ _ _ _ 0 [some (.ref 13), some (.ref 1), none] [] _ 0 0
  refine j_aload_n x dX1_hold_0 rfl ?_
  refine j_aload_n x dX1_hold_1 rfl ?_
  refine j2_geti (k := 1) x hb dX1_hold_2 jc_5 wfX1_25 (by decide) rfl ?_
  rw [hh]; refine j2_callVr x hb dX1_hold_5 m_X1_slotAt (c_slotAt (d := d) hb hj) wmX1_29 jc_5 rfl rfl rfl (Nat.le_of_ble_eq_true rfl) (j_fit_rm (by omega) (by omega) (by omega)) rfl ?_
  refine j_astore_n x dX1_hold_8 (by decide) rfl ?_
  refine j_aload_n x dX1_hold_9 rfl ?_
  refine j_ifnull x dX1_hold_10 ?_
  refine j_aload_n x dX1_hold_13 rfl ?_
  refine j_aload_n x dX1_hold_14 rfl ?_
  refine j2_callVv x hb dX1_hold_15 m_X2_copyFrom (c_copyFrom (d := d) (a := 1) (g := 15 + 6 * j) hb rfl (lgR j hj) (by omega) hz) wmX1_33 jc_6 rfl (lgT (lgR j hj)) rfl (Nat.le_of_ble_eq_true rfl) (j_fit_rm (by omega) (by omega) (by omega)) rfl ?_
  exact j_return x hr dX1_hold_18 (by omega) (by omega) ⟨rfl, rfl⟩
theorem c_keepHeld {d : Nat} {b : SBt} {Y : OUt} {M : MM} (hb : 94 ≤ b.2.1) {j k : Nat} (hj : j < 9) (hk : k ≤ 8) (hh : M 13 1 = nI j) (h2 : M 13 2 = nI k) : CM (d) 0 0 yX1_keepHeld cX1_keepHeld 1 none [.ref 13] b Y M (.inl none) (jkh M j k) := by
  have e1 : M 13 1 + 1 - (M 13 1 + 1) / 9 * 9 = nI ((j + 1) % 9) := by rw [hh, nI_1]; exact pk_rem (a := j + 1) (d := 9) (by omega) (by omega) (by omega)
  have e2 : (if (8 : Int32) < jm M 13 1 (nI ((j + 1) % 9)) 13 2 + 1 then 8 else jm M 13 1 (nI ((j + 1) % 9)) 13 2 + 1) = nI (min (k + 1) 8) := by
    rw [jm_n (by omega), h2, nI_1]
    by_cases q : k + 1 ≤ 8
    · rw [if_neg (show ¬ (8 : Int32) < nI (k + 1) from nI_nlt (a := 8) (b := k + 1) q (by omega)), Nat.min_eq_left q]
    · rw [if_pos (show (8 : Int32) < nI (k + 1) from nI_lt (a := 8) (b := k + 1) (by omega) (by omega)), Nat.min_eq_right (by omega)]; rfl
  refine Con.of (by decide +kernel) (Nat.le_of_ble_eq_true rfl) rfl fun p l e s m args below meth c D tyc A ad0 x hr htab hname => ?_
  change JJ _ _ _ _ _ _ _ _ _ _ _ _ _ _ _ _ _ 0 [some (.ref 13)] [] _ 0 0
  refine j_aload_n x dX1_keepHeld_0 rfl ?_
  refine j_aload_n x dX1_keepHeld_1 rfl ?_
  refine j2_geti (k := 1) x hb dX1_keepHeld_2 jc_5 wfX1_25 (by decide) rfl ?_
  refine j_iconst (v := 1) x dX1_keepHeld_5 (by decide) ?_
  refine j_iadd x dX1_keepHeld_6 ?_
  refine j_bipush (v := 9) x dX1_keepHeld_7 (by decide) ?_
  refine j_irem x dX1_keepHeld_9 (by decide) ?_
  rw [e1]; refine j2_puti (k := 1) x hb dX1_keepHeld_10 jc_5 wfX1_25 (by decide) rfl rfl rfl rfl ?_
  refine j_aload_n x dX1_keepHeld_13 rfl ?_
  refine j_aload_n x dX1_keepHeld_14 rfl ?_
  refine j2_geti (k := 2) x hb dX1_keepHeld_15 jc_5 wfX1_36 (by decide) rfl ?_
  refine j_iconst (v := 1) x dX1_keepHeld_18 (by decide) ?_
  refine j_iadd x dX1_keepHeld_19 ?_
  refine j_bipush (v := 8) x dX1_keepHeld_20 (by decide) ?_
  refine j_min x wmath dX1_keepHeld_22 wmX1_39 (Nat.le_of_ble_eq_true rfl) (Nat.zero_le _) (Nat.zero_le _) ?_
  rw [e2]; refine j2_puti (k := 2) x hb dX1_keepHeld_25 jc_5 wfX1_36 (by decide) rfl rfl rfl rfl ?_
  exact j_return x hr dX1_keepHeld_28 (by omega) (by omega) ⟨rfl, rfl⟩
theorem c_keep {d : Nat} {b : SBt} {Y : OUt} {M : MM} (hb : 94 ≤ b.2.1) {j k : Nat} (hj : j < 9) (hk : k ≤ 8) (hh : M 13 1 = nI j) (h2 : M 13 2 = nI k) (hz : M 1 2 = 0 ∨ M 1 2 = 1) : CM (d + 3) 0 0 yX1_keep cX1_keep 2 none [.ref 13, .ref 1] b Y M (.inl none) (jkeep M j k) := by
  refine Con.of (by decide +kernel) (Nat.le_of_ble_eq_true rfl) rfl fun p l e s m args below meth c D tyc A ad0 x hr htab hname => ?_
  change JJ _ _ _ _ _ _ _ _ _ _ _ _ _ _ _ _ _ 0 [some (.ref 13), some (.ref 1)] [] _ 0 0
  refine j_aload_n x dX1_keep_0 rfl ?_
  refine j_aload_n x dX1_keep_1 rfl ?_
  refine j2_callVv x hb dX1_keep_2 m_X1_hold (c_hold (d := d) hb hj hh hz) wmX1_18 jc_5 rfl rfl rfl (Nat.le_of_ble_eq_true rfl) (j_fit_rm (by omega) (by omega) (by omega)) rfl ?_
  refine j_aload_n x dX1_keep_5 rfl ?_
  refine j2_callVv x hb dX1_keep_6 m_X1_keepHeld (c_keepHeld (d := d) hb hj hk (by rw [jlg_n (by omega)]; exact hh) (by rw [jlg_n (by omega)]; exact h2)) wmX1_22 jc_5 rfl rfl rfl (Nat.le_of_ble_eq_true rfl) (j_fit_rm (by omega) (by omega) (by omega)) rfl ?_
  exact j_return x hr dX1_keep_9 (by omega) (by omega) ⟨rfl, rfl⟩
def jaddr (M : MM) (g : Nat) (t : Int32) : MM := if t = -1 then M else jm (jput 3 M (g + 2) (M g 6) t) g 6 (M g 6 + 1)
def jsetr (M : MM) (g : Nat) (t u v : Int32) : MM := jaddr (jaddr (jaddr (jm M g 6 0) g t) g u) g v
theorem jput_n {n : Nat} {M : MM} {i a k : Nat} {t v : Int32} (h : a ≠ i) : jput n M i t v a k = M a k := by
  unfold jput
  split
  · rfl
  · exact jm_n (fun q => h q.1)
theorem c_addRule {d : Nat} {b : SBt} {Y : OUt} {M : MM} (hb : 94 ≤ b.2.1) {g : Nat} {t : Int32} (hg : isLg g = true) : CM (d + 1) 0 0 yX2_addRule cX2_addRule 2 none [.ref g, .int t] b Y M (.inl none) (jaddr M g t) := by
  refine Con.of (by decide +kernel) (Nat.le_of_ble_eq_true rfl) rfl fun p l e s m args below meth c D tyc A ad0 x hr htab hname => ?_
  change JJ _ _ _ _ _ _ _ _ _ _ _ _ _ _ _ _ _ 0 [some (.ref g), some (.int t)] [] _ 0 0
  refine j_iload_n x dX2_addRule_0 rfl ?_
  refine j_iconst (v := (-1)) x dX2_addRule_1 (by decide) ?_
  refine j_icmp_eq (tgt := 27) x dX2_addRule_2 (by decide) (fun h1 => ?_) (fun h1 => ?_)
  · exact j_return x hr dX2_addRule_27 (by omega) (by omega) ⟨rfl, by rw [jaddr, if_pos h1]⟩
  · refine j_aload_n x dX2_addRule_5 rfl ?_
    refine j2_getr (k := 7) (r := g + 2) x hb dX2_addRule_6 jc_6 wfX2_25 (by decide) (lg7 hg) ?_
    refine j_aload_n x dX2_addRule_9 rfl ?_
    refine j2_geti (k := 6) x hb dX2_addRule_10 jc_6 wfX2_22 (by decide) (lg6 hg) ?_
    refine j_iload_n x dX2_addRule_13 rfl ?_
    refine j2_callSNv x hb dX2_addRule_14 m_X5_put (c_put (d := d) hb (lgA2 hg) (by decide)) wnX2_64 rfl (Nat.le_of_ble_eq_true rfl) (j_fit_rm (by omega) (by omega) (by omega)) rfl ?_
    refine j_aload_n x dX2_addRule_17 rfl ?_
    refine j_dup x dX2_addRule_18 rfl ?_
    refine j2_geti (k := 6) x hb dX2_addRule_19 jc_6 wfX2_22 (by decide) (lg6 hg) ?_
    refine j_iconst (v := 1) x dX2_addRule_22 (by decide) ?_
    refine j_iadd x dX2_addRule_23 ?_
    refine j2_puti (k := 6) x hb dX2_addRule_24 jc_6 wfX2_22 (by decide) rfl rfl rfl (lg6 hg) ?_
    exact j_return x hr dX2_addRule_27 (by omega) (by omega) ⟨rfl, by rw [jaddr, if_neg h1, jput_n (by omega)]⟩
theorem c_setRules {d : Nat} {b : SBt} {Y : OUt} {M : MM} (hb : 94 ≤ b.2.1) {g : Nat} {t u v : Int32} (hg : isLg g = true) : CM (d + 2) 0 0 yX2_setRules cX2_setRules 4 none [.ref g, .int t, .int u, .int v] b Y M (.inl none) (jsetr M g t u v) := by
  refine Con.of (by decide +kernel) (Nat.le_of_ble_eq_true rfl) rfl fun p l e s m args below meth c D tyc A ad0 x hr htab hname => ?_
  change JJ _ _ _ _ _ _ _ _ _ _ _ _ _ _ _ _ _ 0 [some (.ref g), some (.int t), some (.int u), some (.int v)] [] _ 0 0
  refine j_aload_n x dX2_setRules_0 rfl ?_
  refine j_iconst (v := 0) x dX2_setRules_1 (by decide) ?_
  refine j2_puti (k := 6) x hb dX2_setRules_2 jc_6 wfX2_22 (by decide) rfl rfl rfl (lg6 hg) ?_
  refine j_aload_n x dX2_setRules_5 rfl ?_
  refine j_iload_n x dX2_setRules_6 rfl ?_
  refine j2_callVv x hb dX2_setRules_7 m_X2_addRule (c_addRule (d := d) hb hg) wmX2_60 jc_6 rfl (lgT hg) rfl (Nat.le_of_ble_eq_true rfl) (j_fit_rm (by omega) (by omega) (by omega)) rfl ?_
  refine j_aload_n x dX2_setRules_10 rfl ?_
  refine j_iload_n x dX2_setRules_11 rfl ?_
  refine j2_callVv x hb dX2_setRules_12 m_X2_addRule (c_addRule (d := d) hb hg) wmX2_60 jc_6 rfl (lgT hg) rfl (Nat.le_of_ble_eq_true rfl) (j_fit_rm (by omega) (by omega) (by omega)) rfl ?_
  refine j_aload_n x dX2_setRules_15 rfl ?_
  refine j_iload_n x dX2_setRules_16 rfl ?_
  refine j2_callVv x hb dX2_setRules_17 m_X2_addRule (c_addRule (d := d) hb hg) wmX2_60 jc_6 rfl (lgT hg) rfl (Nat.le_of_ble_eq_true rfl) (j_fit_rm (by omega) (by omega) (by omega)) rfl ?_
  exact j_return x hr dX2_setRules_20 (by omega) (by omega) ⟨rfl, rfl⟩
def jclear (M : MM) : MM := jfill (jfill (jfill (jfill (jfill (jfill (jfill (jfill (jfill (jm (jm (jm M 75 0 0) 75 1 0) 75 2 0) 76 8 0) 77 8 0) 78 8 0) 79 8 0) 80 8 0) 81 8 0) 82 8 0) 83 8 0) 84 8 0
theorem jclear_0 {M : MM} : jclear M 75 0 = 0 := by simp [jclear, jfill, jm]
theorem c_clear {d : Nat} {b : SBt} {Y : OUt} {M : MM} (hb : 94 ≤ b.2.1)  : CM (d + 1) 0 0 yX3_clear cX3_clear 1 none [.ref 75] b Y M (.inl none) (jclear M) := by
  refine Con.of (by decide +kernel) (Nat.le_of_ble_eq_true rfl) rfl fun p l e s m args below meth c D tyc A ad0 x hr htab hname => ?_
  change JJ _ _ _ _ _ _ _ _ _ _ _ _ _ _ _ _ _ 0 [some (.ref 75)] [] _ 0 0
  refine j_aload_n x dX3_clear_0 rfl ?_
  refine j_iconst (v := 0) x dX3_clear_1 (by decide) ?_
  refine j2_puti (k := 0) x hb dX3_clear_2 jc_7 wfX3_78 (by decide) rfl rfl rfl rfl ?_
  refine j_aload_n x dX3_clear_5 rfl ?_
  refine j_iconst (v := 0) x dX3_clear_6 (by decide) ?_
  refine j2_puti (k := 1) x hb dX3_clear_7 jc_7 wfX3_82 (by decide) rfl rfl rfl rfl ?_
  refine j_aload_n x dX3_clear_10 rfl ?_
  refine j_iconst (v := 0) x dX3_clear_11 (by decide) ?_
  refine j2_puti (k := 2) x hb dX3_clear_12 jc_7 wfX3_85 (by decide) rfl rfl rfl rfl ?_
  refine j_aload_n x dX3_clear_15 rfl ?_
  refine j2_getr (k := 3) (r := 76) x hb dX3_clear_16 jc_7 wfX3_9 (by decide) rfl ?_
  refine j_iconst (v := 0) x dX3_clear_19 (by decide) ?_
  refine j2_callSNv x hb dX3_clear_20 m_X5_fillRow (c_fillRow (d := d) hb fa_76 (by decide)) wnX3_88 rfl (Nat.le_of_ble_eq_true rfl) (j_fit_rm (by omega) (by omega) (by omega)) rfl ?_
  refine j_aload_n x dX3_clear_23 rfl ?_
  refine j2_getr (k := 4) (r := 77) x hb dX3_clear_24 jc_7 wfX3_15 (by decide) rfl ?_
  refine j_iconst (v := 0) x dX3_clear_27 (by decide) ?_
  refine j2_callSNv x hb dX3_clear_28 m_X5_fillRow (c_fillRow (d := d) hb fa_77 (by decide)) wnX3_88 rfl (Nat.le_of_ble_eq_true rfl) (j_fit_rm (by omega) (by omega) (by omega)) rfl ?_
  refine j_aload_n x dX3_clear_31 rfl ?_
  refine j2_getr (k := 5) (r := 78) x hb dX3_clear_32 jc_7 wfX3_18 (by decide) rfl ?_
  refine j_iconst (v := 0) x dX3_clear_35 (by decide) ?_
  refine j2_callSNv x hb dX3_clear_36 m_X5_fillRow (c_fillRow (d := d) hb fa_78 (by decide)) wnX3_88 rfl (Nat.le_of_ble_eq_true rfl) (j_fit_rm (by omega) (by omega) (by omega)) rfl ?_
  refine j_aload_n x dX3_clear_39 rfl ?_
  refine j2_getr (k := 6) (r := 79) x hb dX3_clear_40 jc_7 wfX3_21 (by decide) rfl ?_
  refine j_iconst (v := 0) x dX3_clear_43 (by decide) ?_
  refine j2_callSNv x hb dX3_clear_44 m_X5_fillRow (c_fillRow (d := d) hb fa_79 (by decide)) wnX3_88 rfl (Nat.le_of_ble_eq_true rfl) (j_fit_rm (by omega) (by omega) (by omega)) rfl ?_
  refine j_aload_n x dX3_clear_47 rfl ?_
  refine j2_getr (k := 7) (r := 80) x hb dX3_clear_48 jc_7 wfX3_24 (by decide) rfl ?_
  refine j_iconst (v := 0) x dX3_clear_51 (by decide) ?_
  refine j2_callSNv x hb dX3_clear_52 m_X5_fillRow (c_fillRow (d := d) hb fa_80 (by decide)) wnX3_88 rfl (Nat.le_of_ble_eq_true rfl) (j_fit_rm (by omega) (by omega) (by omega)) rfl ?_
  refine j_aload_n x dX3_clear_55 rfl ?_
  refine j2_getr (k := 8) (r := 81) x hb dX3_clear_56 jc_7 wfX3_27 (by decide) rfl ?_
  refine j_iconst (v := 0) x dX3_clear_59 (by decide) ?_
  refine j2_callSNv x hb dX3_clear_60 m_X5_fillRow (c_fillRow (d := d) hb fa_81 (by decide)) wnX3_88 rfl (Nat.le_of_ble_eq_true rfl) (j_fit_rm (by omega) (by omega) (by omega)) rfl ?_
  refine j_aload_n x dX3_clear_63 rfl ?_
  refine j2_getr (k := 9) (r := 82) x hb dX3_clear_64 jc_7 wfX3_30 (by decide) rfl ?_
  refine j_iconst (v := 0) x dX3_clear_67 (by decide) ?_
  refine j2_callSNv x hb dX3_clear_68 m_X5_fillRow (c_fillRow (d := d) hb fa_82 (by decide)) wnX3_88 rfl (Nat.le_of_ble_eq_true rfl) (j_fit_rm (by omega) (by omega) (by omega)) rfl ?_
  refine j_aload_n x dX3_clear_71 rfl ?_
  refine j2_getr (k := 10) (r := 83) x hb dX3_clear_72 jc_7 wfX3_33 (by decide) rfl ?_
  refine j_iconst (v := 0) x dX3_clear_75 (by decide) ?_
  refine j2_callSNv x hb dX3_clear_76 m_X5_fillRow (c_fillRow (d := d) hb fa_83 (by decide)) wnX3_88 rfl (Nat.le_of_ble_eq_true rfl) (j_fit_rm (by omega) (by omega) (by omega)) rfl ?_
  refine j_aload_n x dX3_clear_79 rfl ?_
  refine j2_getr (k := 11) (r := 84) x hb dX3_clear_80 jc_7 wfX3_36 (by decide) rfl ?_
  refine j_iconst (v := 0) x dX3_clear_83 (by decide) ?_
  refine j2_callSNv x hb dX3_clear_84 m_X5_fillRow (c_fillRow (d := d) hb fa_84 (by decide)) wnX3_88 rfl (Nat.le_of_ble_eq_true rfl) (j_fit_rm (by omega) (by omega) (by omega)) rfl ?_
  exact j_return x hr dX3_clear_87 (by omega) (by omega) ⟨rfl, rfl⟩
theorem c_take0 {d : Nat} {b : SBt} {Y : OUt} {M : MM} (hb : 94 ≤ b.2.1)  : CM (d + 2) 0 0 yX3_take cX3_take 7 none [.ref 75, .ref 1, .ref 69, .int 0] b Y M (.inl none) (jclear M) := by
  refine Con.of (by decide +kernel) (Nat.le_of_ble_eq_true rfl) rfl fun p l e s m args below meth c D tyc A ad0 x hr htab hname => ?_
  change JJ _ _ _ _ _ _ _ _ _ _ _ _ _ _ _ _ _ 0 [some (.ref 75), some (.ref 1), some (.ref 69), some (.int 0), none, none, none] [] _ 0 0
  refine j_aload_n x dX3_take_0 rfl ?_
  refine j2_callVv x hb dX3_take_1 m_X3_clear (c_clear (d := d) hb) wmX3_39 jc_7 rfl rfl rfl (Nat.le_of_ble_eq_true rfl) (j_fit_rm (by omega) (by omega) (by omega)) rfl ?_
  refine j_iconst (v := 0) x dX3_take_4 (by decide) ?_
  refine j_istore x dX3_take_5 (by decide) rfl ?_
  refine j_iload x dX3_take_7 rfl ?_
  refine j_iload_n x dX3_take_9 rfl ?_
  refine j_icmp_ge (tgt := 113) x dX3_take_10 (by decide) (fun hc => ?_) (fun hc => absurd (by decide) hc)
  refine j_iconst (v := 0) x dX3_take_113 (by decide) ?_
  refine j_istore x dX3_take_114 (by decide) rfl ?_
  refine j_iload x dX3_take_116 rfl ?_
  refine j_iload_n x dX3_take_118 rfl ?_
  refine j_icmp_ge (tgt := 194) x dX3_take_119 (by decide) (fun hc => ?_) (fun hc => absurd (by decide) hc)
  exact j_return x hr dX3_take_194 (by omega) (by omega) ⟨rfl, rfl⟩
theorem c_count0 {d : Nat} {b : SBt} {Y : OUt} {M : MM} (hb : 94 ≤ b.2.1) (hD : M 1 2 = 0) : CM (d + 3) 0 0 yX5_count cX5_count 1 none [.ref 0] b Y M (.inl none) (jclear M) := by
  refine Con.of (by decide +kernel) (Nat.le_of_ble_eq_true rfl) rfl fun p l e s m args below meth c D tyc A ad0 x hr htab hname => ?_
  change JJ _ _ _ _ _ _ _ _ _ _ _ _ _ _ _ _ _ 0 [some (.ref 0)] [] _ 0 0
  refine j_aload_n x dX5_count_0 rfl ?_
  refine j2_getr (k := 5) (r := 75) x hb dX5_count_1 jc_9 wfX5_36 (by decide) rfl ?_
  refine j_aload_n x dX5_count_4 rfl ?_
  refine j2_getr (k := 0) (r := 1) x hb dX5_count_5 jc_9 wfX5_10 (by decide) rfl ?_
  refine j_aload_n x dX5_count_8 rfl ?_
  refine j2_getr (k := 4) (r := 69) x hb dX5_count_9 jc_9 wfX5_29 (by decide) rfl ?_
  refine j_aload_n x dX5_count_12 rfl ?_
  refine j2_callVi x hb dX5_count_13 m_X5_meetingCount (c_meetingCount (d := d) hb) wmX5_258 jc_9 rfl rfl rfl (Nat.le_of_ble_eq_true rfl) (j_fit_rm (by omega) (by omega) (by omega)) rfl ?_
  rw [show jmc M = 0 from if_pos hD]; refine j2_callVv x hb dX5_count_16 m_X3_take (c_take0 (d := d) hb) wmX5_466 jc_7 rfl rfl rfl (Nat.le_of_ble_eq_true rfl) (j_fit_rm (by omega) (by omega) (by omega)) rfl ?_
  exact j_return x hr dX5_count_19 (by omega) (by omega) ⟨rfl, rfl⟩
/-- for which reason a call is refused, if it is: the reason, its detail -/
def rTeam (M : MM) (t : Int32) : Option (Int32 × Int32) := if ¬ (¬ t < 0 ∧ ¬ 9 < t) then some (1, 0) else if ¬ M 1 2 = 0 then some (4, 0) else if ¬ M 1 0 < 8 then some (2, 8) else none
def rGround (M : MM) (t u : Int32) : Option (Int32 × Int32) := if ¬ (¬ t < 0 ∧ ¬ M 1 0 ≤ t) then some (3, t) else if ¬ (¬ u < 0 ∧ ¬ 9 < u) then some (1, 0) else none
def rDraw (M : MM) : Option (Int32 × Int32) := if ¬ M 1 2 = 0 then some (4, 0) else if ¬ 2 ≤ M 1 0 then some (6, M 1 0) else none
def okR (t : Int32) : Prop := ¬ t < (-1) ∧ ¬ 4 < t
def rRules (t u v : Int32) : Option (Int32 × Int32) := if ¬ ((¬ t < (-1) ∧ ¬ 4 < t) ∧ (¬ u < (-1) ∧ ¬ 4 < u) ∧ (¬ v < (-1) ∧ ¬ 4 < v)) then some (1, 0) else if ¬ t = -1 ∧ (t = u ∨ t = v) then some (13, t) else if ¬ u = -1 ∧ u = v then some (13, u) else none
theorem jS {b : SBt} {Y : OUt} {M : MM} {q : Option (Int32 × Int32)} {r t : Int32} (h : q = some (r, t)) : jres b Y (.inl (some (.int (jisS q)))) (jrf M q) (.inl (some (.int 1))) (HH b Y (jref M r t)) := by
  subst h
  exact ⟨rfl, rfl⟩
theorem jN {b : SBt} {Y : OUt} {M : MM} {q : Option (Int32 × Int32)} (h : q = none) : jres b Y (.inl (some (.int (jisS q)))) (jrf M q) (.inl (some (.int 0))) (HH b Y M) := by
  subst h
  exact ⟨rfl, rfl⟩
theorem c_isTeamRefused {d : Nat} {b : SBt} {Y : OUt} {M : MM} (hb : 94 ≤ b.2.1) {t : Int32} : CM (d + 1) 0 0 yX5_isTeamRefused cX5_isTeamRefused 2 (some .boolean) [.ref 0, .int t] b Y M (.inl (some (.int (jisS (rTeam M t))))) (jrf M (rTeam M t)) := by
  refine Con.of (by decide +kernel) (Nat.le_of_ble_eq_true rfl) rfl fun p l e s m args below meth c D tyc A ad0 x hr htab hname => ?_
  change JJ _ _ _ _ _ _ _ _ _ _ _ _ _ _ _ _ _ 0 [some (.ref 0), some (.int t)] [] _ 0 0
  refine j_iload_n x dX5_isTeamRefused_0 rfl ?_
  refine j2_callSi x hb dX5_isTeamRefused_1 m_X5_isGround (c_isGround (d := d) hb) wmX5_423 rfl (Nat.le_of_ble_eq_true rfl) (j_fit_rm (by omega) (by omega) (by omega)) rfl ?_
  refine j_if_ne (tgt := 14) x dX5_isTeamRefused_4 (by decide) (fun h1 => ?_) (fun h1 => ?_)
  · refine j_aload_n x dX5_isTeamRefused_14 rfl ?_
    refine j2_getr (k := 0) (r := 1) x hb dX5_isTeamRefused_15 jc_9 wfX5_10 (by decide) rfl ?_
    refine j2_geti (k := 2) x hb dX5_isTeamRefused_18 jc_6 wfX5_388 (by decide) rfl ?_
    refine j_if_eq (tgt := 31) x dX5_isTeamRefused_21 (by decide) (fun h2 => ?_) (fun h2 => ?_)
    · refine j_aload_n x dX5_isTeamRefused_31 rfl ?_
      refine j2_getr (k := 0) (r := 1) x hb dX5_isTeamRefused_32 jc_9 wfX5_10 (by decide) rfl ?_
      refine j2_geti (k := 0) x hb dX5_isTeamRefused_35 jc_6 wfX5_80 (by decide) rfl ?_
      refine j_bipush (v := 8) x dX5_isTeamRefused_38 (by decide) ?_
      refine j_icmp_lt (tgt := 57) x dX5_isTeamRefused_40 (by decide) (fun h3 => ?_) (fun h3 => ?_)
      · refine j_iconst (v := 0) x dX5_isTeamRefused_57 (by decide) ?_
        exact j_zreturn x hr dX5_isTeamRefused_58 (by decide) (by omega) (by omega) (jN (by rw [rTeam, if_neg (fun q => q (jb_nz.mp h1)), if_neg (fun q => q h2), if_neg (fun q => q h3)]))
      · refine j_aload_n x dX5_isTeamRefused_43 rfl ?_
        refine j_iconst (v := 2) x dX5_isTeamRefused_44 (by decide) ?_
        refine j_bipush (v := 8) x dX5_isTeamRefused_45 (by decide) ?_
        refine j2_callVi x hb dX5_isTeamRefused_47 m_X5_refuse (c_refuse (d := d) hb) wmX5_426 jc_9 rfl rfl rfl (Nat.le_of_ble_eq_true rfl) (j_fit_rm (by omega) (by omega) (by omega)) rfl ?_
        refine j_if_eq (tgt := 57) x dX5_isTeamRefused_50 (by decide) (fun hc => absurd hc (by decide)) (fun hc => ?_)
        refine j_iconst (v := 1) x dX5_isTeamRefused_53 (by decide) ?_
        refine j_goto (tgt := 58) x dX5_isTeamRefused_54 (by decide) ?_
        exact j_zreturn x hr dX5_isTeamRefused_58 (by decide) (by omega) (by omega) (jS (by rw [rTeam, if_neg (fun q => q (jb_nz.mp h1)), if_neg (fun q => q h2), if_pos (h3)]))
    · refine j_aload_n x dX5_isTeamRefused_24 rfl ?_
      refine j_iconst (v := 4) x dX5_isTeamRefused_25 (by decide) ?_
      refine j_iconst (v := 0) x dX5_isTeamRefused_26 (by decide) ?_
      refine j2_callVi x hb dX5_isTeamRefused_27 m_X5_refuse (c_refuse (d := d) hb) wmX5_426 jc_9 rfl rfl rfl (Nat.le_of_ble_eq_true rfl) (j_fit_rm (by omega) (by omega) (by omega)) rfl ?_
      exact j_zreturn x hr dX5_isTeamRefused_30 (by decide) (by omega) (by omega) (jS (by rw [rTeam, if_neg (fun q => q (jb_nz.mp h1)), if_pos (h2)]))
  · refine j_aload_n x dX5_isTeamRefused_7 rfl ?_
    refine j_iconst (v := 1) x dX5_isTeamRefused_8 (by decide) ?_
    refine j_iconst (v := 0) x dX5_isTeamRefused_9 (by decide) ?_
    refine j2_callVi x hb dX5_isTeamRefused_10 m_X5_refuse (c_refuse (d := d) hb) wmX5_426 jc_9 rfl rfl rfl (Nat.le_of_ble_eq_true rfl) (j_fit_rm (by omega) (by omega) (by omega)) rfl ?_
    exact j_zreturn x hr dX5_isTeamRefused_13 (by decide) (by omega) (by omega) (jS (by rw [rTeam, if_pos (jb_0.mp h1)]))
theorem c_isGroundRefused {d : Nat} {b : SBt} {Y : OUt} {M : MM} (hb : 94 ≤ b.2.1) {t u : Int32} : CM (d + 1) 0 0 yX5_isGroundRefused cX5_isGroundRefused 3 (some .boolean) [.ref 0, .int t, .int u] b Y M (.inl (some (.int (jisS (rGround M t u))))) (jrf M (rGround M t u)) := by
  refine Con.of (by decide +kernel) (Nat.le_of_ble_eq_true rfl) rfl fun p l e s m args below meth c D tyc A ad0 x hr htab hname => ?_
  change JJ _ _ _ _ _ _ _ _ _ _ _ _ _ _ _ _ _ 0 [some (.ref 0), some (.int t), some (.int u)] [] _ 0 0
  refine j_aload_n x dX5_isGroundRefused_0 rfl ?_
  refine j_iload_n x dX5_isGroundRefused_1 rfl ?_
  refine j2_callVi x hb dX5_isGroundRefused_2 m_X5_isTeam (c_isTeam (d := d) hb) wmX5_174 jc_9 rfl rfl rfl (Nat.le_of_ble_eq_true rfl) (j_fit_rm (by omega) (by omega) (by omega)) rfl ?_
  refine j_if_ne (tgt := 15) x dX5_isGroundRefused_5 (by decide) (fun h1 => ?_) (fun h1 => ?_)
  · refine j_iload_n x dX5_isGroundRefused_15 rfl ?_
    refine j2_callSi x hb dX5_isGroundRefused_16 m_X5_isGround (c_isGround (d := d) hb) wmX5_423 rfl (Nat.le_of_ble_eq_true rfl) (j_fit_rm (by omega) (by omega) (by omega)) rfl ?_
    refine j_if_ne (tgt := 35) x dX5_isGroundRefused_19 (by decide) (fun h2 => ?_) (fun h2 => ?_)
    · refine j_iconst (v := 0) x dX5_isGroundRefused_35 (by decide) ?_
      exact j_zreturn x hr dX5_isGroundRefused_36 (by decide) (by omega) (by omega) (jN (by rw [rGround, if_neg (fun q => q (jb_nz.mp h1)), if_neg (fun q => q (jb_nz.mp h2))]))
    · refine j_aload_n x dX5_isGroundRefused_22 rfl ?_
      refine j_iconst (v := 1) x dX5_isGroundRefused_23 (by decide) ?_
      refine j_iconst (v := 0) x dX5_isGroundRefused_24 (by decide) ?_
      refine j2_callVi x hb dX5_isGroundRefused_25 m_X5_refuse (c_refuse (d := d) hb) wmX5_426 jc_9 rfl rfl rfl (Nat.le_of_ble_eq_true rfl) (j_fit_rm (by omega) (by omega) (by omega)) rfl ?_
      refine j_if_eq (tgt := 35) x dX5_isGroundRefused_28 (by decide) (fun hc => absurd hc (by decide)) (fun hc => ?_)
      refine j_iconst (v := 1) x dX5_isGroundRefused_31 (by decide) ?_
      refine j_goto (tgt := 36) x dX5_isGroundRefused_32 (by decide) ?_
      exact j_zreturn x hr dX5_isGroundRefused_36 (by decide) (by omega) (by omega) (jS (by rw [rGround, if_neg (fun q => q (jb_nz.mp h1)), if_pos (jb_0.mp h2)]))
  · refine j_aload_n x dX5_isGroundRefused_8 rfl ?_
    refine j_iconst (v := 3) x dX5_isGroundRefused_9 (by decide) ?_
    refine j_iload_n x dX5_isGroundRefused_10 rfl ?_
    refine j2_callVi x hb dX5_isGroundRefused_11 m_X5_refuse (c_refuse (d := d) hb) wmX5_426 jc_9 rfl rfl rfl (Nat.le_of_ble_eq_true rfl) (j_fit_rm (by omega) (by omega) (by omega)) rfl ?_
    exact j_zreturn x hr dX5_isGroundRefused_14 (by decide) (by omega) (by omega) (jS (by rw [rGround, if_pos (jb_0.mp h1)]))
theorem c_isDrawRefused {d : Nat} {b : SBt} {Y : OUt} {M : MM} (hb : 94 ≤ b.2.1)  : CM (d + 1) 0 0 yX5_isDrawRefused cX5_isDrawRefused 1 (some .boolean) [.ref 0] b Y M (.inl (some (.int (jisS (rDraw M))))) (jrf M (rDraw M)) := by
  refine Con.of (by decide +kernel) (Nat.le_of_ble_eq_true rfl) rfl fun p l e s m args below meth c D tyc A ad0 x hr htab hname => ?_
  change JJ _ _ _ _ _ _ _ _ _ _ _ _ _ _ _ _ _ 0 [some (.ref 0)] [] _ 0 0
  refine j_aload_n x dX5_isDrawRefused_0 rfl ?_
  refine j2_getr (k := 0) (r := 1) x hb dX5_isDrawRefused_1 jc_9 wfX5_10 (by decide) rfl ?_
  refine j2_geti (k := 2) x hb dX5_isDrawRefused_4 jc_6 wfX5_388 (by decide) rfl ?_
  refine j_if_eq (tgt := 17) x dX5_isDrawRefused_7 (by decide) (fun h1 => ?_) (fun h1 => ?_)
  · refine j_aload_n x dX5_isDrawRefused_17 rfl ?_
    refine j2_getr (k := 0) (r := 1) x hb dX5_isDrawRefused_18 jc_9 wfX5_10 (by decide) rfl ?_
    refine j2_geti (k := 0) x hb dX5_isDrawRefused_21 jc_6 wfX5_80 (by decide) rfl ?_
    refine j_iconst (v := 2) x dX5_isDrawRefused_24 (by decide) ?_
    refine j_icmp_ge (tgt := 48) x dX5_isDrawRefused_25 (by decide) (fun h2 => ?_) (fun h2 => ?_)
    · refine j_iconst (v := 0) x dX5_isDrawRefused_48 (by decide) ?_
      exact j_zreturn x hr dX5_isDrawRefused_49 (by decide) (by omega) (by omega) (jN (by rw [rDraw, if_neg (fun q => q h1), if_neg (fun q => q h2)]))
    · refine j_aload_n x dX5_isDrawRefused_28 rfl ?_
      refine j_bipush (v := 6) x dX5_isDrawRefused_29 (by decide) ?_
      refine j_aload_n x dX5_isDrawRefused_31 rfl ?_
      refine j2_getr (k := 0) (r := 1) x hb dX5_isDrawRefused_32 jc_9 wfX5_10 (by decide) rfl ?_
      refine j2_geti (k := 0) x hb dX5_isDrawRefused_35 jc_6 wfX5_80 (by decide) rfl ?_
      refine j2_callVi x hb dX5_isDrawRefused_38 m_X5_refuse (c_refuse (d := d) hb) wmX5_426 jc_9 rfl rfl rfl (Nat.le_of_ble_eq_true rfl) (j_fit_rm (by omega) (by omega) (by omega)) rfl ?_
      refine j_if_eq (tgt := 48) x dX5_isDrawRefused_41 (by decide) (fun hc => absurd hc (by decide)) (fun hc => ?_)
      refine j_iconst (v := 1) x dX5_isDrawRefused_44 (by decide) ?_
      refine j_goto (tgt := 49) x dX5_isDrawRefused_45 (by decide) ?_
      exact j_zreturn x hr dX5_isDrawRefused_49 (by decide) (by omega) (by omega) (jS (by rw [rDraw, if_neg (fun q => q h1), if_pos (h2)]))
  · refine j_aload_n x dX5_isDrawRefused_10 rfl ?_
    refine j_iconst (v := 4) x dX5_isDrawRefused_11 (by decide) ?_
    refine j_iconst (v := 0) x dX5_isDrawRefused_12 (by decide) ?_
    refine j2_callVi x hb dX5_isDrawRefused_13 m_X5_refuse (c_refuse (d := d) hb) wmX5_426 jc_9 rfl rfl rfl (Nat.le_of_ble_eq_true rfl) (j_fit_rm (by omega) (by omega) (by omega)) rfl ?_
    exact j_zreturn x hr dX5_isDrawRefused_16 (by decide) (by omega) (by omega) (jS (by rw [rDraw, if_pos (h1)]))
theorem c_isRulesRefused {d : Nat} {b : SBt} {Y : OUt} {M : MM} (hb : 94 ≤ b.2.1) {t u v : Int32} : CM (d + 1) 0 0 yX5_isRulesRefused cX5_isRulesRefused 4 (some .boolean) [.ref 0, .int t, .int u, .int v] b Y M (.inl (some (.int (jisS (rRules t u v))))) (jrf M (rRules t u v)) := by
  refine Con.of (by decide +kernel) (Nat.le_of_ble_eq_true rfl) rfl fun p l e s m args below meth c D tyc A ad0 x hr htab hname => ?_
  change JJ _ _ _ _ _ _ _ _ _ _ _ _ _ _ _ _ _ 0 [some (.ref 0), some (.int t), some (.int u), some (.int v)] [] _ 0 0
  refine j_iload_n x dX5_isRulesRefused_0 rfl ?_
  refine j2_callSi x hb dX5_isRulesRefused_1 m_X5_isRuleOrNone (c_isRuleOrNone (d := d) hb) wmX5_429 rfl (Nat.le_of_ble_eq_true rfl) (j_fit_rm (by omega) (by omega) (by omega)) rfl ?_
  refine j_if_eq (tgt := 21) x dX5_isRulesRefused_4 (by decide) (fun h1 => ?_) (fun h1 => ?_)
  · refine j_aload_n x dX5_isRulesRefused_21 rfl ?_
    refine j_iconst (v := 1) x dX5_isRulesRefused_22 (by decide) ?_
    refine j_iconst (v := 0) x dX5_isRulesRefused_23 (by decide) ?_
    refine j2_callVi x hb dX5_isRulesRefused_24 m_X5_refuse (c_refuse (d := d) hb) wmX5_426 jc_9 rfl rfl rfl (Nat.le_of_ble_eq_true rfl) (j_fit_rm (by omega) (by omega) (by omega)) rfl ?_
    exact j_zreturn x hr dX5_isRulesRefused_27 (by decide) (by omega) (by omega) (jS (by rw [rRules, if_pos (fun q => jb_0.mp h1 q.1)]))
  · refine j_iload_n x dX5_isRulesRefused_7 rfl ?_
    refine j2_callSi x hb dX5_isRulesRefused_8 m_X5_isRuleOrNone (c_isRuleOrNone (d := d) hb) wmX5_429 rfl (Nat.le_of_ble_eq_true rfl) (j_fit_rm (by omega) (by omega) (by omega)) rfl ?_
    refine j_if_eq (tgt := 21) x dX5_isRulesRefused_11 (by decide) (fun h2 => ?_) (fun h2 => ?_)
    · refine j_aload_n x dX5_isRulesRefused_21 rfl ?_
      refine j_iconst (v := 1) x dX5_isRulesRefused_22 (by decide) ?_
      refine j_iconst (v := 0) x dX5_isRulesRefused_23 (by decide) ?_
      refine j2_callVi x hb dX5_isRulesRefused_24 m_X5_refuse (c_refuse (d := d) hb) wmX5_426 jc_9 rfl rfl rfl (Nat.le_of_ble_eq_true rfl) (j_fit_rm (by omega) (by omega) (by omega)) rfl ?_
      exact j_zreturn x hr dX5_isRulesRefused_27 (by decide) (by omega) (by omega) (jS (by rw [rRules, if_pos (fun q => jb_0.mp h2 q.2.1)]))
    · refine j_iload_n x dX5_isRulesRefused_14 rfl ?_
      refine j2_callSi x hb dX5_isRulesRefused_15 m_X5_isRuleOrNone (c_isRuleOrNone (d := d) hb) wmX5_429 rfl (Nat.le_of_ble_eq_true rfl) (j_fit_rm (by omega) (by omega) (by omega)) rfl ?_
      refine j_if_ne (tgt := 28) x dX5_isRulesRefused_18 (by decide) (fun h3 => ?_) (fun h3 => ?_)
      · refine j_iload_n x dX5_isRulesRefused_28 rfl ?_
        refine j_iconst (v := (-1)) x dX5_isRulesRefused_29 (by decide) ?_
        refine j_icmp_eq (tgt := 51) x dX5_isRulesRefused_30 (by decide) (fun h4 => ?_) (fun h4 => ?_)
        · refine j_iload_n x dX5_isRulesRefused_51 rfl ?_
          refine j_iconst (v := (-1)) x dX5_isRulesRefused_52 (by decide) ?_
          refine j_icmp_eq (tgt := 75) x dX5_isRulesRefused_53 (by decide) (fun h7 => ?_) (fun h7 => ?_)
          · refine j_iconst (v := 0) x dX5_isRulesRefused_75 (by decide) ?_
            exact j_zreturn x hr dX5_isRulesRefused_76 (by decide) (by omega) (by omega) (jN (by rw [rRules, if_neg (fun q => q ⟨jb_nz.mp h1, jb_nz.mp h2, jb_nz.mp h3⟩), if_neg (fun q => q.1 h4), if_neg (fun q => q.1 h7)]))
          · refine j_iload_n x dX5_isRulesRefused_56 rfl ?_
            refine j_iload_n x dX5_isRulesRefused_57 rfl ?_
            refine j_icmp_ne (tgt := 75) x dX5_isRulesRefused_58 (by decide) (fun h8 => ?_) (fun h8 => ?_)
            · refine j_iconst (v := 0) x dX5_isRulesRefused_75 (by decide) ?_
              exact j_zreturn x hr dX5_isRulesRefused_76 (by decide) (by omega) (by omega) (jN (by rw [rRules, if_neg (fun q => q ⟨jb_nz.mp h1, jb_nz.mp h2, jb_nz.mp h3⟩), if_neg (fun q => q.1 h4), if_neg (fun q => h8 q.2)]))
            · refine j_aload_n x dX5_isRulesRefused_61 rfl ?_
              refine j_bipush (v := 13) x dX5_isRulesRefused_62 (by decide) ?_
              refine j_iload_n x dX5_isRulesRefused_64 rfl ?_
              refine j2_callVi x hb dX5_isRulesRefused_65 m_X5_refuse (c_refuse (d := d) hb) wmX5_426 jc_9 rfl rfl rfl (Nat.le_of_ble_eq_true rfl) (j_fit_rm (by omega) (by omega) (by omega)) rfl ?_
              refine j_if_eq (tgt := 75) x dX5_isRulesRefused_68 (by decide) (fun hc => absurd hc (by decide)) (fun hc => ?_)
              refine j_iconst (v := 1) x dX5_isRulesRefused_71 (by decide) ?_
              refine j_goto (tgt := 76) x dX5_isRulesRefused_72 (by decide) ?_
              exact j_zreturn x hr dX5_isRulesRefused_76 (by decide) (by omega) (by omega) (jS (by rw [rRules, if_neg (fun q => q ⟨jb_nz.mp h1, jb_nz.mp h2, jb_nz.mp h3⟩), if_neg (fun q => q.1 h4), if_pos (⟨h7, h8⟩)]))
        · refine j_iload_n x dX5_isRulesRefused_33 rfl ?_
          refine j_iload_n x dX5_isRulesRefused_34 rfl ?_
          refine j_icmp_eq (tgt := 43) x dX5_isRulesRefused_35 (by decide) (fun h5 => ?_) (fun h5 => ?_)
          · refine j_aload_n x dX5_isRulesRefused_43 rfl ?_
            refine j_bipush (v := 13) x dX5_isRulesRefused_44 (by decide) ?_
            refine j_iload_n x dX5_isRulesRefused_46 rfl ?_
            refine j2_callVi x hb dX5_isRulesRefused_47 m_X5_refuse (c_refuse (d := d) hb) wmX5_426 jc_9 rfl rfl rfl (Nat.le_of_ble_eq_true rfl) (j_fit_rm (by omega) (by omega) (by omega)) rfl ?_
            exact j_zreturn x hr dX5_isRulesRefused_50 (by decide) (by omega) (by omega) (jS (by rw [rRules, if_neg (fun q => q ⟨jb_nz.mp h1, jb_nz.mp h2, jb_nz.mp h3⟩), if_pos (⟨h4, Or.inl h5⟩)]))
          · refine j_iload_n x dX5_isRulesRefused_38 rfl ?_
            refine j_iload_n x dX5_isRulesRefused_39 rfl ?_
            refine j_icmp_ne (tgt := 51) x dX5_isRulesRefused_40 (by decide) (fun h6 => ?_) (fun h6 => ?_)
            · refine j_iload_n x dX5_isRulesRefused_51 rfl ?_
              refine j_iconst (v := (-1)) x dX5_isRulesRefused_52 (by decide) ?_
              refine j_icmp_eq (tgt := 75) x dX5_isRulesRefused_53 (by decide) (fun h7 => ?_) (fun h7 => ?_)
              · refine j_iconst (v := 0) x dX5_isRulesRefused_75 (by decide) ?_
                exact j_zreturn x hr dX5_isRulesRefused_76 (by decide) (by omega) (by omega) (jN (by rw [rRules, if_neg (fun q => q ⟨jb_nz.mp h1, jb_nz.mp h2, jb_nz.mp h3⟩), if_neg (fun q => q.2.elim h5 h6), if_neg (fun q => q.1 h7)]))
              · refine j_iload_n x dX5_isRulesRefused_56 rfl ?_
                refine j_iload_n x dX5_isRulesRefused_57 rfl ?_
                refine j_icmp_ne (tgt := 75) x dX5_isRulesRefused_58 (by decide) (fun h8 => ?_) (fun h8 => ?_)
                · refine j_iconst (v := 0) x dX5_isRulesRefused_75 (by decide) ?_
                  exact j_zreturn x hr dX5_isRulesRefused_76 (by decide) (by omega) (by omega) (jN (by rw [rRules, if_neg (fun q => q ⟨jb_nz.mp h1, jb_nz.mp h2, jb_nz.mp h3⟩), if_neg (fun q => q.2.elim h5 h6), if_neg (fun q => h8 q.2)]))
                · refine j_aload_n x dX5_isRulesRefused_61 rfl ?_
                  refine j_bipush (v := 13) x dX5_isRulesRefused_62 (by decide) ?_
                  refine j_iload_n x dX5_isRulesRefused_64 rfl ?_
                  refine j2_callVi x hb dX5_isRulesRefused_65 m_X5_refuse (c_refuse (d := d) hb) wmX5_426 jc_9 rfl rfl rfl (Nat.le_of_ble_eq_true rfl) (j_fit_rm (by omega) (by omega) (by omega)) rfl ?_
                  refine j_if_eq (tgt := 75) x dX5_isRulesRefused_68 (by decide) (fun hc => absurd hc (by decide)) (fun hc => ?_)
                  refine j_iconst (v := 1) x dX5_isRulesRefused_71 (by decide) ?_
                  refine j_goto (tgt := 76) x dX5_isRulesRefused_72 (by decide) ?_
                  exact j_zreturn x hr dX5_isRulesRefused_76 (by decide) (by omega) (by omega) (jS (by rw [rRules, if_neg (fun q => q ⟨jb_nz.mp h1, jb_nz.mp h2, jb_nz.mp h3⟩), if_neg (fun q => q.2.elim h5 h6), if_pos (⟨h7, h8⟩)]))
            · refine j_aload_n x dX5_isRulesRefused_43 rfl ?_
              refine j_bipush (v := 13) x dX5_isRulesRefused_44 (by decide) ?_
              refine j_iload_n x dX5_isRulesRefused_46 rfl ?_
              refine j2_callVi x hb dX5_isRulesRefused_47 m_X5_refuse (c_refuse (d := d) hb) wmX5_426 jc_9 rfl rfl rfl (Nat.le_of_ble_eq_true rfl) (j_fit_rm (by omega) (by omega) (by omega)) rfl ?_
              exact j_zreturn x hr dX5_isRulesRefused_50 (by decide) (by omega) (by omega) (jS (by rw [rRules, if_neg (fun q => q ⟨jb_nz.mp h1, jb_nz.mp h2, jb_nz.mp h3⟩), if_pos (⟨h4, Or.inr (h6)⟩)]))
      · refine j_aload_n x dX5_isRulesRefused_21 rfl ?_
        refine j_iconst (v := 1) x dX5_isRulesRefused_22 (by decide) ?_
        refine j_iconst (v := 0) x dX5_isRulesRefused_23 (by decide) ?_
        refine j2_callVi x hb dX5_isRulesRefused_24 m_X5_refuse (c_refuse (d := d) hb) wmX5_426 jc_9 rfl rfl rfl (Nat.le_of_ble_eq_true rfl) (j_fit_rm (by omega) (by omega) (by omega)) rfl ?_
        exact j_zreturn x hr dX5_isRulesRefused_27 (by decide) (by omega) (by omega) (jS (by rw [rRules, if_pos (fun q => jb_0.mp h3 q.2.2)]))
theorem c_isNoMeetingRefused0 {d : Nat} {b : SBt} {Y : OUt} {M : MM} (hb : 94 ≤ b.2.1) {t : Int32} (hD : M 1 2 = 0) : CM (d + 1) 0 0 yX5_isNoMeetingRefused cX5_isNoMeetingRefused 2 (some .boolean) [.ref 0, .int t] b Y M (.inl (some (.int 1))) (jref M 5 0) := by
  refine Con.of (by decide +kernel) (Nat.le_of_ble_eq_true rfl) rfl fun p l e s m args below meth c D tyc A ad0 x hr htab hname => ?_
  change JJ _ _ _ _ _ _ _ _ _ _ _ _ _ _ _ _ _ 0 [some (.ref 0), some (.int t)] [] _ 0 0
  refine j_aload_n x dX5_isNoMeetingRefused_0 rfl ?_
  refine j2_getr (k := 0) (r := 1) x hb dX5_isNoMeetingRefused_1 jc_9 wfX5_10 (by decide) rfl ?_
  refine j2_geti (k := 2) x hb dX5_isNoMeetingRefused_4 jc_6 wfX5_388 (by decide) rfl ?_
  refine j_if_ne (tgt := 17) x dX5_isNoMeetingRefused_7 (by decide) (fun hc => absurd hc (fun q => q hD)) (fun hc => ?_)
  refine j_aload_n x dX5_isNoMeetingRefused_10 rfl ?_
  refine j_iconst (v := 5) x dX5_isNoMeetingRefused_11 (by decide) ?_
  refine j_iconst (v := 0) x dX5_isNoMeetingRefused_12 (by decide) ?_
  refine j2_callVi x hb dX5_isNoMeetingRefused_13 m_X5_refuse (c_refuse (d := d) hb) wmX5_426 jc_9 rfl rfl rfl (Nat.le_of_ble_eq_true rfl) (j_fit_rm (by omega) (by omega) (by omega)) rfl ?_
  exact j_zreturn x hr dX5_isNoMeetingRefused_16 (by decide) (by omega) (by omega) ⟨rfl, rfl⟩
theorem c_isResultRefused0 {d : Nat} {b : SBt} {Y : OUt} {M : MM} (hb : 94 ≤ b.2.1) {t u v : Int32} (hD : M 1 2 = 0) : CM (d + 2) 0 0 yX5_isResultRefused cX5_isResultRefused 4 (some .boolean) [.ref 0, .int t, .int u, .int v] b Y M (.inl (some (.int 1))) (jref M 5 0) := by
  refine Con.of (by decide +kernel) (Nat.le_of_ble_eq_true rfl) rfl fun p l e s m args below meth c D tyc A ad0 x hr htab hname => ?_
  change JJ _ _ _ _ _ _ _ _ _ _ _ _ _ _ _ _ _ 0 [some (.ref 0), some (.int t), some (.int u), some (.int v)] [] _ 0 0
  refine j_aload_n x dX5_isResultRefused_0 rfl ?_
  refine j_iload_n x dX5_isResultRefused_1 rfl ?_
  refine j2_callVi x hb dX5_isResultRefused_2 m_X5_isNoMeetingRefused (c_isNoMeetingRefused0 (d := d) hb hD) wmX5_432 jc_9 rfl rfl rfl (Nat.le_of_ble_eq_true rfl) (j_fit_rm (by omega) (by omega) (by omega)) rfl ?_
  refine j_if_eq (tgt := 10) x dX5_isResultRefused_5 (by decide) (fun hc => absurd hc (by decide)) (fun hc => ?_)
  refine j_iconst (v := 1) x dX5_isResultRefused_8 (by decide) ?_
  exact j_zreturn x hr dX5_isResultRefused_9 (by decide) (by omega) (by omega) ⟨rfl, rfl⟩
theorem c_isBackRefused0 {d : Nat} {b : SBt} {Y : OUt} {M : MM} (hb : 94 ≤ b.2.1) {t : Int32} (hD : M 1 2 = 0) : CM (d + 2) 0 0 yX5_isBackRefused cX5_isBackRefused 2 (some .boolean) [.ref 0, .int t] b Y M (.inl (some (.int 1))) (jref M 5 0) := by
  refine Con.of (by decide +kernel) (Nat.le_of_ble_eq_true rfl) rfl fun p l e s m args below meth c D tyc A ad0 x hr htab hname => ?_
  change JJ _ _ _ _ _ _ _ _ _ _ _ _ _ _ _ _ _ 0 [some (.ref 0), some (.int t)] [] _ 0 0
  refine j_aload_n x dX5_isBackRefused_0 rfl ?_
  refine j_iload_n x dX5_isBackRefused_1 rfl ?_
  refine j2_callVi x hb dX5_isBackRefused_2 m_X5_isNoMeetingRefused (c_isNoMeetingRefused0 (d := d) hb hD) wmX5_432 jc_9 rfl rfl rfl (Nat.le_of_ble_eq_true rfl) (j_fit_rm (by omega) (by omega) (by omega)) rfl ?_
  refine j_if_eq (tgt := 10) x dX5_isBackRefused_5 (by decide) (fun hc => absurd hc (by decide)) (fun hc => ?_)
  refine j_iconst (v := 1) x dX5_isBackRefused_8 (by decide) ?_
  exact j_zreturn x hr dX5_isBackRefused_9 (by decide) (by omega) (by omega) ⟨rfl, rfl⟩
theorem c_isPutOffRefused0 {d : Nat} {b : SBt} {Y : OUt} {M : MM} (hb : 94 ≤ b.2.1) {t u : Int32} (hD : M 1 2 = 0) : CM (d + 2) 0 0 yX5_isPutOffRefused cX5_isPutOffRefused 4 (some .boolean) [.ref 0, .int t, .int u] b Y M (.inl (some (.int 1))) (jref M 5 0) := by
  refine Con.of (by decide +kernel) (Nat.le_of_ble_eq_true rfl) rfl fun p l e s m args below meth c D tyc A ad0 x hr htab hname => ?_
  change JJ _ _ _ _ _ _ _ _ _ _ _ _ _ _ _ _ _ 0 [some (.ref 0), some (.int t), some (.int u), none] [] _ 0 0
  refine j_aload_n x dX5_isPutOffRefused_0 rfl ?_
  refine j_iload_n x dX5_isPutOffRefused_1 rfl ?_
  refine j2_callVi x hb dX5_isPutOffRefused_2 m_X5_isNoMeetingRefused (c_isNoMeetingRefused0 (d := d) hb hD) wmX5_432 jc_9 rfl rfl rfl (Nat.le_of_ble_eq_true rfl) (j_fit_rm (by omega) (by omega) (by omega)) rfl ?_
  refine j_if_eq (tgt := 10) x dX5_isPutOffRefused_5 (by decide) (fun hc => absurd hc (by decide)) (fun hc => ?_)
  refine j_iconst (v := 1) x dX5_isPutOffRefused_8 (by decide) ?_
  exact j_zreturn x hr dX5_isPutOffRefused_9 (by decide) (by omega) (by omega) ⟨rfl, rfl⟩
theorem c_isNextRefused0 {d : Nat} {b : SBt} {Y : OUt} {M : MM} (hb : 94 ≤ b.2.1) (hD : M 1 2 = 0) : CM (d + 1) 0 0 yX5_isNextRefused cX5_isNextRefused 2 (some .boolean) [.ref 0] b Y M (.inl (some (.int 1))) (jref M 5 0) := by
  refine Con.of (by decide +kernel) (Nat.le_of_ble_eq_true rfl) rfl fun p l e s m args below meth c D tyc A ad0 x hr htab hname => ?_
  change JJ _ _ _ _ _ _ _ _ _ _ _ _ _ _ _ _ _ 0 [some (.ref 0), none] [] _ 0 0
  refine j_aload_n x dX5_isNextRefused_0 rfl ?_
  refine j2_getr (k := 0) (r := 1) x hb dX5_isNextRefused_1 jc_9 wfX5_10 (by decide) rfl ?_
  refine j2_geti (k := 2) x hb dX5_isNextRefused_4 jc_6 wfX5_388 (by decide) rfl ?_
  refine j_if_ne (tgt := 17) x dX5_isNextRefused_7 (by decide) (fun hc => absurd hc (fun q => q hD)) (fun hc => ?_)
  refine j_aload_n x dX5_isNextRefused_10 rfl ?_
  refine j_iconst (v := 5) x dX5_isNextRefused_11 (by decide) ?_
  refine j_iconst (v := 0) x dX5_isNextRefused_12 (by decide) ?_
  refine j2_callVi x hb dX5_isNextRefused_13 m_X5_refuse (c_refuse (d := d) hb) wmX5_426 jc_9 rfl rfl rfl (Nat.le_of_ble_eq_true rfl) (j_fit_rm (by omega) (by omega) (by omega)) rfl ?_
  exact j_zreturn x hr dX5_isNextRefused_16 (by decide) (by omega) (by omega) ⟨rfl, rfl⟩
theorem c_isGiveRefused1 {d : Nat} {b : SBt} {Y : OUt} {M : MM} (hb : 94 ≤ b.2.1) {t u : Int32} (hx : t < 1 ∨ 5 < t ∨ u < 0 ∨ ¬ u ≤ 3) : CM (d + 4) 0 0 yX5_isGiveRefused cX5_isGiveRefused 3 (some .boolean) [.ref 0, .int t, .int u] b Y M (.inl (some (.int 1))) (jref M 1 0) := by
  refine Con.of (by decide +kernel) (Nat.le_of_ble_eq_true rfl) rfl fun p l e s m args below meth c D tyc A ad0 x hr htab hname => ?_
  change JJ _ _ _ _ _ _ _ _ _ _ _ _ _ _ _ _ _ 0 [some (.ref 0), some (.int t), some (.int u)] [] _ 0 0
  refine j_iload_n x dX5_isGiveRefused_0 rfl ?_
  refine j_iconst (v := 1) x dX5_isGiveRefused_1 (by decide) ?_
  refine j_icmp_lt (tgt := 19) x dX5_isGiveRefused_2 (by decide) (fun h1 => ?_) (fun h1 => ?_)
  · refine j_aload_n x dX5_isGiveRefused_19 rfl ?_
    refine j_iconst (v := 1) x dX5_isGiveRefused_20 (by decide) ?_
    refine j_iconst (v := 0) x dX5_isGiveRefused_21 (by decide) ?_
    refine j2_callVi x hb dX5_isGiveRefused_22 m_X5_refuse (c_refuse (d := d) hb) wmX5_426 jc_9 rfl rfl rfl (Nat.le_of_ble_eq_true rfl) (j_fit_rm (by omega) (by omega) (by omega)) rfl ?_
    exact j_zreturn x hr dX5_isGiveRefused_25 (by decide) (by omega) (by omega) ⟨rfl, rfl⟩
  · refine j_iload_n x dX5_isGiveRefused_5 rfl ?_
    refine j_iconst (v := 5) x dX5_isGiveRefused_6 (by decide) ?_
    refine j_icmp_gt (tgt := 19) x dX5_isGiveRefused_7 (by decide) (fun h2 => ?_) (fun h2 => ?_)
    · refine j_aload_n x dX5_isGiveRefused_19 rfl ?_
      refine j_iconst (v := 1) x dX5_isGiveRefused_20 (by decide) ?_
      refine j_iconst (v := 0) x dX5_isGiveRefused_21 (by decide) ?_
      refine j2_callVi x hb dX5_isGiveRefused_22 m_X5_refuse (c_refuse (d := d) hb) wmX5_426 jc_9 rfl rfl rfl (Nat.le_of_ble_eq_true rfl) (j_fit_rm (by omega) (by omega) (by omega)) rfl ?_
      exact j_zreturn x hr dX5_isGiveRefused_25 (by decide) (by omega) (by omega) ⟨rfl, rfl⟩
    · refine j_iload_n x dX5_isGiveRefused_10 rfl ?_
      refine j_if_lt (tgt := 19) x dX5_isGiveRefused_11 (by decide) (fun h3 => ?_) (fun h3 => ?_)
      · refine j_aload_n x dX5_isGiveRefused_19 rfl ?_
        refine j_iconst (v := 1) x dX5_isGiveRefused_20 (by decide) ?_
        refine j_iconst (v := 0) x dX5_isGiveRefused_21 (by decide) ?_
        refine j2_callVi x hb dX5_isGiveRefused_22 m_X5_refuse (c_refuse (d := d) hb) wmX5_426 jc_9 rfl rfl rfl (Nat.le_of_ble_eq_true rfl) (j_fit_rm (by omega) (by omega) (by omega)) rfl ?_
        exact j_zreturn x hr dX5_isGiveRefused_25 (by decide) (by omega) (by omega) ⟨rfl, rfl⟩
      · refine j_iload_n x dX5_isGiveRefused_14 rfl ?_
        refine j_iconst (v := 3) x dX5_isGiveRefused_15 (by decide) ?_
        refine j_icmp_le (tgt := 26) x dX5_isGiveRefused_16 (by decide) (fun hc => absurd hc (by rcases hx with q | q | q | q; exact absurd q h1; exact absurd q h2; exact absurd q h3; exact q)) (fun hc => ?_)
        refine j_aload_n x dX5_isGiveRefused_19 rfl ?_
        refine j_iconst (v := 1) x dX5_isGiveRefused_20 (by decide) ?_
        refine j_iconst (v := 0) x dX5_isGiveRefused_21 (by decide) ?_
        refine j2_callVi x hb dX5_isGiveRefused_22 m_X5_refuse (c_refuse (d := d) hb) wmX5_426 jc_9 rfl rfl rfl (Nat.le_of_ble_eq_true rfl) (j_fit_rm (by omega) (by omega) (by omega)) rfl ?_
        exact j_zreturn x hr dX5_isGiveRefused_25 (by decide) (by omega) (by omega) ⟨rfl, rfl⟩
theorem c_isGiveRefused0 {d : Nat} {b : SBt} {Y : OUt} {M : MM} (hb : 94 ≤ b.2.1) {t u : Int32} (hx : ¬ (t < 1 ∨ 5 < t ∨ u < 0 ∨ ¬ u ≤ 3)) (hD : M 1 2 = 0) : CM (d + 4) 0 0 yX5_isGiveRefused cX5_isGiveRefused 3 (some .boolean) [.ref 0, .int t, .int u] b Y M (.inl (some (.int 0))) (jclear M) := by
  refine Con.of (by decide +kernel) (Nat.le_of_ble_eq_true rfl) rfl fun p l e s m args below meth c D tyc A ad0 x hr htab hname => ?_
  change JJ _ _ _ _ _ _ _ _ _ _ _ _ _ _ _ _ _ 0 [some (.ref 0), some (.int t), some (.int u)] [] _ 0 0
  refine j_iload_n x dX5_isGiveRefused_0 rfl ?_
  refine j_iconst (v := 1) x dX5_isGiveRefused_1 (by decide) ?_
  refine j_icmp_lt (tgt := 19) x dX5_isGiveRefused_2 (by decide) (fun hc => absurd hc (fun q => hx (Or.inl q))) (fun hc => ?_)
  refine j_iload_n x dX5_isGiveRefused_5 rfl ?_
  refine j_iconst (v := 5) x dX5_isGiveRefused_6 (by decide) ?_
  refine j_icmp_gt (tgt := 19) x dX5_isGiveRefused_7 (by decide) (fun hc => absurd hc (fun q => hx (Or.inr (Or.inl q)))) (fun hc => ?_)
  refine j_iload_n x dX5_isGiveRefused_10 rfl ?_
  refine j_if_lt (tgt := 19) x dX5_isGiveRefused_11 (by decide) (fun hc => absurd hc (fun q => hx (Or.inr (Or.inr (Or.inl q))))) (fun hc => ?_)
  refine j_iload_n x dX5_isGiveRefused_14 rfl ?_
  refine j_iconst (v := 3) x dX5_isGiveRefused_15 (by decide) ?_
  refine j_icmp_le (tgt := 26) x dX5_isGiveRefused_16 (by decide) (fun hc => ?_) (fun hc => absurd (Decidable.byContradiction fun q => hx (Or.inr (Or.inr (Or.inr q)))) hc)
  refine j_aload_n x dX5_isGiveRefused_26 rfl ?_
  refine j2_callVv x hb dX5_isGiveRefused_27 m_X5_count (c_count0 (d := d) hb hD) wmX5_187 jc_9 rfl rfl rfl (Nat.le_of_ble_eq_true rfl) (j_fit_rm (by omega) (by omega) (by omega)) rfl ?_
  refine j_aload_n x dX5_isGiveRefused_30 rfl ?_
  refine j2_getr (k := 5) (r := 75) x hb dX5_isGiveRefused_31 jc_9 wfX5_36 (by decide) rfl ?_
  refine j2_geti (k := 0) x hb dX5_isGiveRefused_34 jc_7 wfX5_372 (by decide) rfl ?_
  refine j_if_le (tgt := 60) x dX5_isGiveRefused_37 (by decide) (fun hc => ?_) (fun hc => absurd (by rw [jclear_0]; decide) hc)
  refine j_iconst (v := 0) x dX5_isGiveRefused_60 (by decide) ?_
  exact j_zreturn x hr dX5_isGiveRefused_61 (by decide) (by omega) (by omega) ⟨rfl, rfl⟩
