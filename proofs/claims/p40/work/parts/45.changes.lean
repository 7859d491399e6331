/-! ===== the changes of the league, at any store ===== -/
theorem jmc_c {M N : MM} (h1 : N 1 2 = M 1 2) (h2 : N 69 1 = M 69 1) : jmc N = jmc M := by unfold jmc; rw [h1, h2]
theorem jwc_c {M N : MM} (h1 : N 1 2 = M 1 2) (h2 : N 69 0 = M 69 0) : jwc N = jwc M := by unfold jwc; rw [h1, h2]
theorem jkeep_n {M : MM} {j k i z : Nat} (hj : j < 9) (h : i < 13 ∨ 68 < i ∨ (i = 13 ∧ z ≠ 1 ∧ z ≠ 2)) : jkeep M j k i z = M i z := by
  unfold jkeep jkh
  rw [jm_n (by omega), jm_n (by omega), jlg_n (by omega)]
theorem jsetg_n {M : MM} {a i z : Nat} {t u v : Int32} (h : i ≠ a + 4) (h1 : i ≠ a + 5) : jsetg M a t u v i z = M i z := by
  unfold jsetg
  rw [m_put h1, m_put h]
theorem c_giveHeld {d : Nat} {b : SBt} {Y : OUt} {M : MM} (hb : 94 ≤ b.2.1) {j : Nat} (hj : j < 9) (hh : M 13 1 = nI j) (hz : M (15 + 6 * j) 2 = 0 ∨ M (15 + 6 * j) 2 = 1) : CM (d + 2) 0 0 yX1_giveHeld cX1_giveHeld 3 none [.ref 13, .ref 1] b Y M (.inl none) (jlg M (15 + 6 * j) 1) := by
  refine Con.of (by decide +kernel) (Nat.le_of_ble_eq_true rfl) rfl fun p l e s m args below meth c D tyc A ad0 x hr htab hname => ?_
  change JJ _ _ _ _ _ _ _ _ _ _ _ _ _ _ _ _ _ 0 [some (.ref 13), some (.ref 1), none] [] _ 0 0
  refine j_aload_n x dX1_giveHeld_0 rfl ?_
  refine j_aload_n x dX1_giveHeld_1 rfl ?_
  refine j2_geti (k := 1) x hb dX1_giveHeld_2 jc_5 wfX1_25 (by decide) rfl ?_
  rw [hh]; refine j2_callVr x hb dX1_giveHeld_5 m_X1_slotAt (c_slotAt (d := d) hb hj) wmX1_29 jc_5 rfl rfl rfl (Nat.le_of_ble_eq_true rfl) (j_fit_rm (by omega) (by omega) (by omega)) rfl ?_
  refine j_astore_n x dX1_giveHeld_8 (by decide) rfl ?_
  refine j_aload_n x dX1_giveHeld_9 rfl ?_
  refine j_ifnull x dX1_giveHeld_10 ?_
  refine j_aload_n x dX1_giveHeld_13 rfl ?_
  refine j_aload_n x dX1_giveHeld_14 rfl ?_
  refine j2_callVv x hb dX1_giveHeld_15 m_X2_copyFrom (c_copyFrom (d := d) (a := 15 + 6 * j) (g := 1) hb (lgR j hj) rfl (by omega) hz) wmX1_33 jc_6 rfl rfl rfl (Nat.le_of_ble_eq_true rfl) (j_fit_rm (by omega) (by omega) (by omega)) rfl ?_
  exact j_return x hr dX1_giveHeld_18 (by omega) (by omega) ⟨rfl, rfl⟩
def jgl (M : MM) (j k : Nat) : MM := jlg (jm (jm M 13 1 (nI ((j + 8) % 9))) 13 2 (nI (k - 1))) (15 + 6 * ((j + 8) % 9)) 1
theorem c_giveLatest {d : Nat} {b : SBt} {Y : OUt} {M : MM} (hb : 94 ≤ b.2.1) {j k : Nat} (hj : j < 9) (hk0 : 0 < k) (hk : k ≤ 8) (hh : M 13 1 = nI j) (h2 : M 13 2 = nI k) (hz : M (15 + 6 * ((j + 8) % 9)) 2 = 0 ∨ M (15 + 6 * ((j + 8) % 9)) 2 = 1) : CM (d + 3) 0 0 yX1_giveLatest cX1_giveLatest 2 none [.ref 13, .ref 1] b Y M (.inl none) (jgl M j k) := by
  have e1 : M 13 1 + 9 - 1 - (M 13 1 + 9 - 1) / 9 * 9 = nI ((j + 8) % 9) := by
    have e0 : M 13 1 + 9 - 1 = nI (j + 8) := by rw [hh, show nI j + 9 = nI (j + 8 + 1) from nI_add j 9]; exact nI_pred (j + 8)
    rw [e0]; exact nI_rem (d := 9) (by omega) (by omega) (by omega)
  have e2 : (if jm M 13 1 (nI ((j + 8) % 9)) 13 2 - 1 < (0 : Int32) then (0 : Int32) else jm M 13 1 (nI ((j + 8) % 9)) 13 2 - 1) = nI (k - 1) := by
    rw [jm_n (by omega), h2, show (nI k - 1 : Int32) = nI (k - 1) from nI_sub (d := 1) (by omega)]
    exact if_neg (nI_pos (by omega))
  refine Con.of (by decide +kernel) (Nat.le_of_ble_eq_true rfl) rfl fun p l e s m args below meth c D tyc A ad0 x hr htab hname => ?_
  change JJ _ _ _ _ _ _ _ _ _ _ _ _ _ _ _ _ _ 0 [some (.ref 13), some (.ref 1)] [] _ 0 0
  refine j_aload_n x dX1_giveLatest_0 rfl ?_
  refine j_aload_n x dX1_giveLatest_1 rfl ?_
  refine j2_geti (k := 1) x hb dX1_giveLatest_2 jc_5 wfX1_25 (by decide) rfl ?_
  refine j_bipush (v := 9) x dX1_giveLatest_5 (by decide) ?_
  refine j_iadd x dX1_giveLatest_7 ?_
  refine j_iconst (v := 1) x dX1_giveLatest_8 (by decide) ?_
  refine j_isub x dX1_giveLatest_9 ?_
  refine j_bipush (v := 9) x dX1_giveLatest_10 (by decide) ?_
  refine j_irem x dX1_giveLatest_12 (by decide) ?_
  rw [e1]; refine j2_puti (k := 1) x hb dX1_giveLatest_13 jc_5 wfX1_25 (by decide) rfl rfl rfl rfl ?_
  refine j_aload_n x dX1_giveLatest_16 rfl ?_
  refine j_aload_n x dX1_giveLatest_17 rfl ?_
  refine j2_geti (k := 2) x hb dX1_giveLatest_18 jc_5 wfX1_36 (by decide) rfl ?_
  refine j_iconst (v := 1) x dX1_giveLatest_21 (by decide) ?_
  refine j_isub x dX1_giveLatest_22 ?_
  refine j_iconst (v := 0) x dX1_giveLatest_23 (by decide) ?_
  refine j_max x wmath dX1_giveLatest_24 wmX1_45 (Nat.le_of_ble_eq_true rfl) (Nat.zero_le _) (Nat.zero_le _) ?_
  rw [e2]; refine j2_puti (k := 2) x hb dX1_giveLatest_27 jc_5 wfX1_36 (by decide) rfl rfl rfl rfl ?_
  refine j_aload_n x dX1_giveLatest_30 rfl ?_
  refine j_aload_n x dX1_giveLatest_31 rfl ?_
  refine j2_callVv x hb dX1_giveLatest_32 m_X1_giveHeld (c_giveHeld (d := d) hb (j := (j + 8) % 9) (Nat.mod_lt _ (by decide)) (by rw [jm_n (by omega), jm_s]) (by rw [jm_n (by omega), jm_n (by omega)]; exact hz)) wmX1_48 jc_5 rfl rfl rfl (Nat.le_of_ble_eq_true rfl) (j_fit_rm (by omega) (by omega) (by omega)) rfl ?_
  exact j_return x hr dX1_giveLatest_35 (by omega) (by omega) ⟨rfl, rfl⟩
theorem c_forget {d : Nat} {b : SBt} {Y : OUt} {M : MM} (hb : 94 ≤ b.2.1)  : CM (d) 0 0 yX1_forget cX1_forget 1 none [.ref 13] b Y M (.inl none) (jm M 13 2 0) := by
  refine Con.of (by decide +kernel) (Nat.le_of_ble_eq_true rfl) rfl fun p l e s m args below meth c D tyc A ad0 x hr htab hname => ?_
  change JJ _ _ _ _ _ _ _ _ _ _ _ _ _ _ _ _ _ 0 [some (.ref 13)] [] _ 0 0
  refine j_aload_n x dX1_forget_0 rfl ?_
  refine j_iconst (v := 0) x dX1_forget_1 (by decide) ?_
  refine j2_puti (k := 2) x hb dX1_forget_2 jc_5 wfX1_36 (by decide) rfl rfl rfl rfl ?_
  exact j_return x hr dX1_forget_5 (by omega) (by omega) ⟨rfl, rfl⟩
theorem c_result_no {d : Nat} {b : SBt} {Y : OUt} {M : MM} (hb : 94 ≤ b.2.1) {t u v : Int32} {r z : Int32} (h : rRes M t u v = some (r, z)) : CM (d + 4) 1 6 yX5_result cX5_result 4 (some .int) [.ref 0, .int t, .int u, .int v] b Y M (.inr "java/lang/UnsupportedOperationException") (jref M r z) := by
  refine Con.of (by decide +kernel) (Nat.le_of_ble_eq_true rfl) rfl fun p l e s m args below meth c D tyc A ad0 x hr htab hname => ?_
  change JJ _ _ _ _ _ _ _ _ _ _ _ _ _ _ _ _ _ 0 [some (.ref 0), some (.int t), some (.int u), some (.int v)] [] _ 0 0
  refine j_aload_n x dX5_result_0 rfl ?_
  refine j_iload_n x dX5_result_1 rfl ?_
  refine j_iload_n x dX5_result_2 rfl ?_
  refine j_iload_n x dX5_result_3 rfl ?_
  refine j2_callVi x hb dX5_result_4 m_X5_isResultRefused (CM_s (c_isResultRefused (d := d) hb) h) wmX5_138 jc_9 rfl rfl rfl (Nat.le_of_ble_eq_true rfl) (j_fit_rm (by omega) (by omega) (by omega)) rfl ?_
  refine j_if_eq (tgt := 20) x dX5_result_7 (by decide) (fun hc => absurd hc (by decide)) (fun hc => ?_)
  exact j_throwS x exX5_66 wsX5_141 dX5_result_10 dX5_result_13 dX5_result_14 dX5_result_16 dX5_result_19 htab (by omega) (by omega) ⟨rfl, rfl⟩
theorem c_back_no {d : Nat} {b : SBt} {Y : OUt} {M : MM} (hb : 94 ≤ b.2.1) {t : Int32} {r z : Int32} (h : rBack M t = some (r, z)) : CM (d + 4) 1 6 yX5_back cX5_back 2 (some .int) [.ref 0, .int t] b Y M (.inr "java/lang/UnsupportedOperationException") (jref M r z) := by
  refine Con.of (by decide +kernel) (Nat.le_of_ble_eq_true rfl) rfl fun p l e s m args below meth c D tyc A ad0 x hr htab hname => ?_
  change JJ _ _ _ _ _ _ _ _ _ _ _ _ _ _ _ _ _ 0 [some (.ref 0), some (.int t)] [] _ 0 0
  refine j_aload_n x dX5_back_0 rfl ?_
  refine j_iload_n x dX5_back_1 rfl ?_
  refine j2_callVi x hb dX5_back_2 m_X5_isBackRefused (CM_s (c_isBackRefused (d := d) hb) h) wmX5_150 jc_9 rfl rfl rfl (Nat.le_of_ble_eq_true rfl) (j_fit_rm (by omega) (by omega) (by omega)) rfl ?_
  refine j_if_eq (tgt := 18) x dX5_back_5 (by decide) (fun hc => absurd hc (by decide)) (fun hc => ?_)
  exact j_throwS x exX5_66 wsX5_153 dX5_back_8 dX5_back_11 dX5_back_12 dX5_back_14 dX5_back_17 htab (by omega) (by omega) ⟨rfl, rfl⟩
theorem c_putOff_no {d : Nat} {b : SBt} {Y : OUt} {M : MM} (hb : 94 ≤ b.2.1) {t u : Int32} {r z : Int32} (h : rPut M t u = some (r, z)) : CM (d + 4) 1 6 yX5_putOff cX5_putOff 4 (some .int) [.ref 0, .int t, .int u] b Y M (.inr "java/lang/UnsupportedOperationException") (jref M r z) := by
  refine Con.of (by decide +kernel) (Nat.le_of_ble_eq_true rfl) rfl fun p l e s m args below meth c D tyc A ad0 x hr htab hname => ?_
  change JJ _ _ _ _ _ _ _ _ _ _ _ _ _ _ _ _ _ 0 [some (.ref 0), some (.int t), some (.int u), none] [] _ 0 0
  refine j_aload_n x dX5_putOff_0 rfl ?_
  refine j_iload_n x dX5_putOff_1 rfl ?_
  refine j_iload_n x dX5_putOff_2 rfl ?_
  refine j2_callVi x hb dX5_putOff_3 m_X5_isPutOffRefused (CM_s (c_isPutOffRefused (d := d) hb) h) wmX5_155 jc_9 rfl rfl rfl (Nat.le_of_ble_eq_true rfl) (j_fit_rm (by omega) (by omega) (by omega)) rfl ?_
  refine j_if_eq (tgt := 19) x dX5_putOff_6 (by decide) (fun hc => absurd hc (by decide)) (fun hc => ?_)
  exact j_throwS x exX5_66 wsX5_158 dX5_putOff_9 dX5_putOff_12 dX5_putOff_13 dX5_putOff_15 dX5_putOff_18 htab (by omega) (by omega) ⟨rfl, rfl⟩
theorem c_next_no {d : Nat} {b : SBt} {Y : OUt} {M : MM} (hb : 94 ≤ b.2.1) {n : Nat} (hn : n ≤ 56) (hm : jmc M = nI n) {r z : Int32} (h : rNext M n = some (r, z)) : CM (d + 4) 1 6 yX5_next cX5_next 1 (some .int) [.ref 0] b Y M (.inr "java/lang/UnsupportedOperationException") (jref M r z) := by
  refine Con.of (by decide +kernel) (Nat.le_of_ble_eq_true rfl) rfl fun p l e s m args below meth c D tyc A ad0 x hr htab hname => ?_
  change JJ _ _ _ _ _ _ _ _ _ _ _ _ _ _ _ _ _ 0 [some (.ref 0)] [] _ 0 0
  refine j_aload_n x dX5_next_0 rfl ?_
  refine j2_callVi x hb dX5_next_1 m_X5_isNextRefused (CM_s (c_isNextRefused (d := d) hb hn hm) h) wmX5_169 jc_9 rfl rfl rfl (Nat.le_of_ble_eq_true rfl) (j_fit_rm (by omega) (by omega) (by omega)) rfl ?_
  refine j_if_eq (tgt := 17) x dX5_next_4 (by decide) (fun hc => absurd hc (by decide)) (fun hc => ?_)
  exact j_throwS x exX5_66 wsX5_172 dX5_next_7 dX5_next_10 dX5_next_11 dX5_next_13 dX5_next_16 htab (by omega) (by omega) ⟨rfl, rfl⟩
theorem c_give_no {d : Nat} {b : SBt} {Y : OUt} {M : MM} (hb : 94 ≤ b.2.1) {t u : Int32} {n : Nat} (hn : n ≤ 56) (hm : jmc M = nI n) (hx : ¬ (t < 1 ∨ 5 < t ∨ u < 0 ∨ ¬ u ≤ 3)) (h3 : ¬ jcount M n 75 0 ≤ 0) : CM (d + 6) 1 6 yX5_give cX5_give 4 (some .int) [.ref 0, .int t, .int u] b Y M (.inr "java/lang/UnsupportedOperationException") (jref (jcount M n) 12 (jcount M n 75 0)) := by
  refine Con.of (by decide +kernel) (Nat.le_of_ble_eq_true rfl) rfl fun p l e s m args below meth c D tyc A ad0 x hr htab hname => ?_
  change JJ _ _ _ _ _ _ _ _ _ _ _ _ _ _ _ _ _ 0 [some (.ref 0), some (.int t), some (.int u), none] [] _ 0 0
  refine j_aload_n x dX5_give_0 rfl ?_
  refine j_iload_n x dX5_give_1 rfl ?_
  refine j_iload_n x dX5_give_2 rfl ?_
  refine j2_callVi x hb dX5_give_3 m_X5_isGiveRefused (c_isGiveRefused_s (d := d) hb hn hm hx h3) wmX5_114 jc_9 rfl rfl rfl (Nat.le_of_ble_eq_true rfl) (j_fit_rm (by omega) (by omega) (by omega)) rfl ?_
  refine j_if_eq (tgt := 19) x dX5_give_6 (by decide) (fun hc => absurd hc (by decide)) (fun hc => ?_)
  exact j_throwS x exX5_66 wsX5_117 dX5_give_9 dX5_give_12 dX5_give_13 dX5_give_15 dX5_give_18 htab (by omega) (by omega) ⟨rfl, rfl⟩
def jresult (M : MM) (j k : Nat) (t u v : Int32) : MM := jsetg (jkeep M j k) 1 t u v
theorem c_result_ok {d : Nat} {b : SBt} {Y : OUt} {M : MM} (hb : 94 ≤ b.2.1) {t u v : Int32} (h : rRes M t u v = none) {n : Nat} (hn : n ≤ 56) (hm : jmc M = nI n) {j k : Nat} (hj : j < 9) (hk : k ≤ 8) (hh : M 13 1 = nI j) (h2 : M 13 2 = nI k) (hz : M 1 2 = 0 ∨ M 1 2 = 1) : CM (d + 6) 1 6 yX5_result cX5_result 4 (some .int) [.ref 0, .int t, .int u, .int v] b Y M (.inl (some (.int (jsum (fNow (jresult M j k t u v)) n)))) (jresult M j k t u v) := by
  refine Con.of (by decide +kernel) (Nat.le_of_ble_eq_true rfl) rfl fun p l e s m args below meth c D tyc A ad0 x hr htab hname => ?_
  change JJ _ _ _ _ _ _ _ _ _ _ _ _ _ _ _ _ _ 0 [some (.ref 0), some (.int t), some (.int u), some (.int v)] [] _ 0 0
  refine j_aload_n x dX5_result_0 rfl ?_
  refine j_iload_n x dX5_result_1 rfl ?_
  refine j_iload_n x dX5_result_2 rfl ?_
  refine j_iload_n x dX5_result_3 rfl ?_
  refine j2_callVi x hb dX5_result_4 m_X5_isResultRefused (CM_n (c_isResultRefused (d := d + 2) hb) h) wmX5_138 jc_9 rfl rfl rfl (Nat.le_of_ble_eq_true rfl) (j_fit_rm (by omega) (by omega) (by omega)) rfl ?_
  refine j_if_eq (tgt := 20) x dX5_result_7 (by decide) (fun hc => ?_) (fun hc => absurd (rfl) hc)
  refine j_aload_n x dX5_result_20 rfl ?_
  refine j2_getr (k := 3) (r := 13) x hb dX5_result_21 jc_9 wfX5_22 (by decide) rfl ?_
  refine j_aload_n x dX5_result_24 rfl ?_
  refine j2_getr (k := 0) (r := 1) x hb dX5_result_25 jc_9 wfX5_10 (by decide) rfl ?_
  refine j2_callVv x hb dX5_result_28 m_X1_keep (c_keep (d := d) hb hj hk hh h2 hz) wmX5_73 jc_5 rfl rfl rfl (Nat.le_of_ble_eq_true rfl) (j_fit_rm (by omega) (by omega) (by omega)) rfl ?_
  refine j_aload_n x dX5_result_31 rfl ?_
  refine j2_getr (k := 0) (r := 1) x hb dX5_result_32 jc_9 wfX5_10 (by decide) rfl ?_
  refine j_iload_n x dX5_result_35 rfl ?_
  refine j_iload_n x dX5_result_36 rfl ?_
  refine j_iload_n x dX5_result_37 rfl ?_
  refine j2_callVv x hb dX5_result_38 m_X2_setGoals (c_setGoals (d := d) (a := 1) hb rfl) wmX5_143 jc_6 rfl rfl rfl (Nat.le_of_ble_eq_true rfl) (j_fit_rm (by omega) (by omega) (by omega)) rfl ?_
  refine j_aload_n x dX5_result_41 rfl ?_
  refine j2_callVi x hb dX5_result_42 m_X5_notPlayedNow (c_notPlayedNow (d := d) hb hn (by rw [jmc_c (M := M) (by rw [jsetg_n (by omega) (by omega), jkeep_n hj (by omega)]) (by rw [jsetg_n (by omega) (by omega), jkeep_n hj (by omega)])]; exact hm)) wmX5_146 jc_9 rfl rfl rfl (Nat.le_of_ble_eq_true rfl) (j_fit_rm (by omega) (by omega) (by omega)) rfl ?_
  exact j_ireturn x hr dX5_result_45 (by omega) (by omega) ⟨rfl, rfl⟩
theorem c_back_ok {d : Nat} {b : SBt} {Y : OUt} {M : MM} (hb : 94 ≤ b.2.1) {t : Int32} (h : rBack M t = none) {n : Nat} (hn : n ≤ 56) (hm : jmc M = nI n) {j k : Nat} (hj : j < 9) (hk : k ≤ 8) (hh : M 13 1 = nI j) (h2 : M 13 2 = nI k) (hz : M 1 2 = 0 ∨ M 1 2 = 1) : CM (d + 6) 1 6 yX5_back cX5_back 2 (some .int) [.ref 0, .int t] b Y M (.inl (some (.int (jsum (fNow (jresult M j k t (-1) (-1))) n)))) (jresult M j k t (-1) (-1)) := by
  refine Con.of (by decide +kernel) (Nat.le_of_ble_eq_true rfl) rfl fun p l e s m args below meth c D tyc A ad0 x hr htab hname => ?_
  change JJ _ _ _ _ _ _ _ _ _ _ _ _ _ _ _ _ _ 0 [some (.ref 0), some (.int t)] [] _ 0 0
  refine j_aload_n x dX5_back_0 rfl ?_
  refine j_iload_n x dX5_back_1 rfl ?_
  refine j2_callVi x hb dX5_back_2 m_X5_isBackRefused (CM_n (c_isBackRefused (d := d + 2) hb) h) wmX5_150 jc_9 rfl rfl rfl (Nat.le_of_ble_eq_true rfl) (j_fit_rm (by omega) (by omega) (by omega)) rfl ?_
  refine j_if_eq (tgt := 18) x dX5_back_5 (by decide) (fun hc => ?_) (fun hc => absurd (rfl) hc)
  refine j_aload_n x dX5_back_18 rfl ?_
  refine j2_getr (k := 3) (r := 13) x hb dX5_back_19 jc_9 wfX5_22 (by decide) rfl ?_
  refine j_aload_n x dX5_back_22 rfl ?_
  refine j2_getr (k := 0) (r := 1) x hb dX5_back_23 jc_9 wfX5_10 (by decide) rfl ?_
  refine j2_callVv x hb dX5_back_26 m_X1_keep (c_keep (d := d) hb hj hk hh h2 hz) wmX5_73 jc_5 rfl rfl rfl (Nat.le_of_ble_eq_true rfl) (j_fit_rm (by omega) (by omega) (by omega)) rfl ?_
  refine j_aload_n x dX5_back_29 rfl ?_
  refine j2_getr (k := 0) (r := 1) x hb dX5_back_30 jc_9 wfX5_10 (by decide) rfl ?_
  refine j_iload_n x dX5_back_33 rfl ?_
  refine j_iconst (v := (-1)) x dX5_back_34 (by decide) ?_
  refine j_iconst (v := (-1)) x dX5_back_35 (by decide) ?_
  refine j2_callVv x hb dX5_back_36 m_X2_setGoals (c_setGoals (d := d) (a := 1) hb rfl) wmX5_143 jc_6 rfl rfl rfl (Nat.le_of_ble_eq_true rfl) (j_fit_rm (by omega) (by omega) (by omega)) rfl ?_
  refine j_aload_n x dX5_back_39 rfl ?_
  refine j2_callVi x hb dX5_back_40 m_X5_notPlayedNow (c_notPlayedNow (d := d) hb hn (by rw [jmc_c (M := M) (by rw [jsetg_n (by omega) (by omega), jkeep_n hj (by omega)]) (by rw [jsetg_n (by omega) (by omega), jkeep_n hj (by omega)])]; exact hm)) wmX5_146 jc_9 rfl rfl rfl (Nat.le_of_ble_eq_true rfl) (j_fit_rm (by omega) (by omega) (by omega)) rfl ?_
  exact j_ireturn x hr dX5_back_43 (by omega) (by omega) ⟨rfl, rfl⟩
def jputoff (M : MM) (j k : Nat) (t u : Int32) : MM := jput 56 (jkeep M j k) 4 t (jkeep M j k 1 3 + u)
theorem c_putOff_ok {d : Nat} {b : SBt} {Y : OUt} {M : MM} (hb : 94 ≤ b.2.1) {t u : Int32} (h : rPut M t u = none) {n : Nat} (hn : n ≤ 56) (hm : jmc M = nI n) {j k : Nat} (hj : j < 9) (hk : k ≤ 8) (hh : M 13 1 = nI j) (h2 : M 13 2 = nI k) (hz : M 1 2 = 0 ∨ M 1 2 = 1) : CM (d + 6) 1 6 yX5_putOff cX5_putOff 4 (some .int) [.ref 0, .int t, .int u] b Y M (.inl (some (.int (jsum (fCl (jputoff M j k t u) t (jkeep M j k 1 3 + u)) n)))) (jputoff M j k t u) := by
  refine Con.of (by decide +kernel) (Nat.le_of_ble_eq_true rfl) rfl fun p l e s m args below meth c D tyc A ad0 x hr htab hname => ?_
  change JJ _ _ _ _ _ _ _ _ _ _ _ _ _ _ _ _ _ 0 [some (.ref 0), some (.int t), some (.int u), none] [] _ 0 0
  refine j_aload_n x dX5_putOff_0 rfl ?_
  refine j_iload_n x dX5_putOff_1 rfl ?_
  refine j_iload_n x dX5_putOff_2 rfl ?_
  refine j2_callVi x hb dX5_putOff_3 m_X5_isPutOffRefused (CM_n (c_isPutOffRefused (d := d + 2) hb) h) wmX5_155 jc_9 rfl rfl rfl (Nat.le_of_ble_eq_true rfl) (j_fit_rm (by omega) (by omega) (by omega)) rfl ?_
  refine j_if_eq (tgt := 19) x dX5_putOff_6 (by decide) (fun hc => ?_) (fun hc => absurd (rfl) hc)
  refine j_aload_n x dX5_putOff_19 rfl ?_
  refine j2_getr (k := 3) (r := 13) x hb dX5_putOff_20 jc_9 wfX5_22 (by decide) rfl ?_
  refine j_aload_n x dX5_putOff_23 rfl ?_
  refine j2_getr (k := 0) (r := 1) x hb dX5_putOff_24 jc_9 wfX5_10 (by decide) rfl ?_
  refine j2_callVv x hb dX5_putOff_27 m_X1_keep (c_keep (d := d) hb hj hk hh h2 hz) wmX5_73 jc_5 rfl rfl rfl (Nat.le_of_ble_eq_true rfl) (j_fit_rm (by omega) (by omega) (by omega)) rfl ?_
  refine j_aload_n x dX5_putOff_30 rfl ?_
  refine j2_getr (k := 0) (r := 1) x hb dX5_putOff_31 jc_9 wfX5_10 (by decide) rfl ?_
  refine j2_geti (k := 3) x hb dX5_putOff_34 jc_6 wfX5_160 (by decide) rfl ?_
  refine j_iload_n x dX5_putOff_37 rfl ?_
  refine j_iadd x dX5_putOff_38 ?_
  refine j_istore_n x dX5_putOff_39 (by decide) rfl ?_
  refine j_aload_n x dX5_putOff_40 rfl ?_
  refine j2_getr (k := 0) (r := 1) x hb dX5_putOff_41 jc_9 wfX5_10 (by decide) rfl ?_
  refine j2_getr (k := 8) (r := 4) x hb dX5_putOff_44 jc_6 wfX5_163 (by decide) rfl ?_
  refine j_iload_n x dX5_putOff_47 rfl ?_
  refine j_iload_n x dX5_putOff_48 rfl ?_
  refine j2_callSv x hb dX5_putOff_49 m_X5_put (c_put (d := d) hb fa_4 (by decide)) wmX5_83 rfl (Nat.le_of_ble_eq_true rfl) (j_fit_rm (by omega) (by omega) (by omega)) rfl ?_
  refine j_aload_n x dX5_putOff_52 rfl ?_
  refine j_iload_n x dX5_putOff_53 rfl ?_
  refine j_iload_n x dX5_putOff_54 rfl ?_
  refine j2_callVi x hb dX5_putOff_55 m_X5_clashesOf (c_clashesOf (d := d) hb hn (by rw [jmc_c (M := M) (by rw [m_put (by omega), jkeep_n hj (by omega)]) (by rw [m_put (by omega), jkeep_n hj (by omega)])]; exact hm)) wmX5_165 jc_9 rfl rfl rfl (Nat.le_of_ble_eq_true rfl) (j_fit_rm (by omega) (by omega) (by omega)) rfl ?_
  exact j_ireturn x hr dX5_putOff_58 (by omega) (by omega) ⟨rfl, rfl⟩
def jnext (M : MM) (j k : Nat) : MM := jm (jkeep M j k) 1 3 (jkeep M j k 1 3 + 1)
theorem c_next_ok {d : Nat} {b : SBt} {Y : OUt} {M : MM} (hb : 94 ≤ b.2.1) {n : Nat} (hn : n ≤ 56) (hm : jmc M = nI n) (h : rNext M n = none) {j k : Nat} (hj : j < 9) (hk : k ≤ 8) (hh : M 13 1 = nI j) (h2 : M 13 2 = nI k) (hz : M 1 2 = 0 ∨ M 1 2 = 1) : CM (d + 6) 1 6 yX5_next cX5_next 1 (some .int) [.ref 0] b Y M (.inl (some (.int (jnext M j k 1 3)))) (jnext M j k) := by
  refine Con.of (by decide +kernel) (Nat.le_of_ble_eq_true rfl) rfl fun p l e s m args below meth c D tyc A ad0 x hr htab hname => ?_
  change JJ _ _ _ _ _ _ _ _ _ _ _ _ _ _ _ _ _ 0 [some (.ref 0)] [] _ 0 0
  refine j_aload_n x dX5_next_0 rfl ?_
  refine j2_callVi x hb dX5_next_1 m_X5_isNextRefused (CM_n (c_isNextRefused (d := d + 2) hb hn hm) h) wmX5_169 jc_9 rfl rfl rfl (Nat.le_of_ble_eq_true rfl) (j_fit_rm (by omega) (by omega) (by omega)) rfl ?_
  refine j_if_eq (tgt := 17) x dX5_next_4 (by decide) (fun hc => ?_) (fun hc => absurd (rfl) hc)
  refine j_aload_n x dX5_next_17 rfl ?_
  refine j2_getr (k := 3) (r := 13) x hb dX5_next_18 jc_9 wfX5_22 (by decide) rfl ?_
  refine j_aload_n x dX5_next_21 rfl ?_
  refine j2_getr (k := 0) (r := 1) x hb dX5_next_22 jc_9 wfX5_10 (by decide) rfl ?_
  refine j2_callVv x hb dX5_next_25 m_X1_keep (c_keep (d := d) hb hj hk hh h2 hz) wmX5_73 jc_5 rfl rfl rfl (Nat.le_of_ble_eq_true rfl) (j_fit_rm (by omega) (by omega) (by omega)) rfl ?_
  refine j_aload_n x dX5_next_28 rfl ?_
  refine j2_getr (k := 0) (r := 1) x hb dX5_next_29 jc_9 wfX5_10 (by decide) rfl ?_
  refine j_dup x dX5_next_32 rfl ?_
  refine j2_geti (k := 3) x hb dX5_next_33 jc_6 wfX5_160 (by decide) rfl ?_
  refine j_iconst (v := 1) x dX5_next_36 (by decide) ?_
  refine j_iadd x dX5_next_37 ?_
  refine j2_puti (k := 3) x hb dX5_next_38 jc_6 wfX5_160 (by decide) rfl rfl rfl rfl ?_
  refine j_aload_n x dX5_next_41 rfl ?_
  refine j2_getr (k := 0) (r := 1) x hb dX5_next_42 jc_9 wfX5_10 (by decide) rfl ?_
  refine j2_geti (k := 3) x hb dX5_next_45 jc_6 wfX5_160 (by decide) rfl ?_
  exact j_ireturn x hr dX5_next_48 (by omega) (by omega) ⟨rfl, rfl⟩
def jgiven (M : MM) (j k n : Nat) (t u : Int32) : MM := jm (jm (jkeep (jcount M n) j k) 1 4 t) 1 5 u
theorem c_give_ok {d : Nat} {b : SBt} {Y : OUt} {M : MM} (hb : 94 ≤ b.2.1) {t u : Int32} {n : Nat} (hn : n ≤ 56) (hm : jmc M = nI n) (hx : ¬ (t < 1 ∨ 5 < t ∨ u < 0 ∨ ¬ u ≤ 3)) (h3 : jcount M n 75 0 ≤ 0) {j k : Nat} (hj : j < 9) (hk : k ≤ 8) (hh : M 13 1 = nI j) (h2 : M 13 2 = nI k) (hz : M 1 2 = 0 ∨ M 1 2 = 1) : CM (d + 6) 1 6 yX5_give cX5_give 4 (some .int) [.ref 0, .int t, .int u] b Y M (.inl (some (.int (10 * jkeep (jcount M n) j k 1 4 + jkeep (jcount M n) j k 1 5)))) (jgiven M j k n t u) := by
  refine Con.of (by decide +kernel) (Nat.le_of_ble_eq_true rfl) rfl fun p l e s m args below meth c D tyc A ad0 x hr htab hname => ?_
  change JJ _ _ _ _ _ _ _ _ _ _ _ _ _ _ _ _ _ 0 [some (.ref 0), some (.int t), some (.int u), none] [] _ 0 0
  refine j_aload_n x dX5_give_0 rfl ?_
  refine j_iload_n x dX5_give_1 rfl ?_
  refine j_iload_n x dX5_give_2 rfl ?_
  refine j2_callVi x hb dX5_give_3 m_X5_isGiveRefused (c_isGiveRefused_n (d := d) hb hn hm hx h3) wmX5_114 jc_9 rfl rfl rfl (Nat.le_of_ble_eq_true rfl) (j_fit_rm (by omega) (by omega) (by omega)) rfl ?_
  refine j_if_eq (tgt := 19) x dX5_give_6 (by decide) (fun hc => ?_) (fun hc => absurd (rfl) hc)
  refine j_aload_n x dX5_give_19 rfl ?_
  refine j2_getr (k := 3) (r := 13) x hb dX5_give_20 jc_9 wfX5_22 (by decide) rfl ?_
  refine j_aload_n x dX5_give_23 rfl ?_
  refine j2_getr (k := 0) (r := 1) x hb dX5_give_24 jc_9 wfX5_10 (by decide) rfl ?_
  refine j2_callVv x hb dX5_give_27 m_X1_keep (c_keep (d := d) hb hj hk (by rw [jcount_n (by omega)]; exact hh) (by rw [jcount_n (by omega)]; exact h2) (by rw [jcount_n (by omega)]; exact hz)) wmX5_73 jc_5 rfl rfl rfl (Nat.le_of_ble_eq_true rfl) (j_fit_rm (by omega) (by omega) (by omega)) rfl ?_
  refine j_bipush (v := 10) x dX5_give_30 (by decide) ?_
  refine j_aload_n x dX5_give_32 rfl ?_
  refine j2_getr (k := 0) (r := 1) x hb dX5_give_33 jc_9 wfX5_10 (by decide) rfl ?_
  refine j2_geti (k := 4) x hb dX5_give_36 jc_6 wfX5_119 (by decide) rfl ?_
  refine j_imul x dX5_give_39 ?_
  refine j_aload_n x dX5_give_40 rfl ?_
  refine j2_getr (k := 0) (r := 1) x hb dX5_give_41 jc_9 wfX5_10 (by decide) rfl ?_
  refine j2_geti (k := 5) x hb dX5_give_44 jc_6 wfX5_122 (by decide) rfl ?_
  refine j_iadd x dX5_give_47 ?_
  refine j_istore_n x dX5_give_48 (by decide) rfl ?_
  refine j_aload_n x dX5_give_49 rfl ?_
  refine j2_getr (k := 0) (r := 1) x hb dX5_give_50 jc_9 wfX5_10 (by decide) rfl ?_
  refine j_iload_n x dX5_give_53 rfl ?_
  refine j2_puti (k := 4) x hb dX5_give_54 jc_6 wfX5_119 (by decide) rfl rfl rfl rfl ?_
  refine j_aload_n x dX5_give_57 rfl ?_
  refine j2_getr (k := 0) (r := 1) x hb dX5_give_58 jc_9 wfX5_10 (by decide) rfl ?_
  refine j_iload_n x dX5_give_61 rfl ?_
  refine j2_puti (k := 5) x hb dX5_give_62 jc_6 wfX5_122 (by decide) rfl rfl rfl rfl ?_
  refine j_iload_n x dX5_give_65 rfl ?_
  exact j_ireturn x hr dX5_give_66 (by omega) (by omega) ⟨rfl, rfl⟩
def jground (M : MM) (j k : Nat) (t u : Int32) : MM := jput 8 (jkeep M j k) 2 t u
theorem c_ground_ok {d : Nat} {b : SBt} {Y : OUt} {M : MM} (hb : 94 ≤ b.2.1) {t u : Int32} (h : rGround M t u = none) {j k : Nat} (hj : j < 9) (hk : k ≤ 8) (hh : M 13 1 = nI j) (h2 : M 13 2 = nI k) (hz : M 1 2 = 0 ∨ M 1 2 = 1) : CM (d + 6) 1 6 yX5_ground cX5_ground 4 (some .int) [.ref 0, .int t, .int u] b Y M (.inl (some (.int (jat 8 (jkeep M j k 2) t)))) (jground M j k t u) := by
  refine Con.of (by decide +kernel) (Nat.le_of_ble_eq_true rfl) rfl fun p l e s m args below meth c D tyc A ad0 x hr htab hname => ?_
  change JJ _ _ _ _ _ _ _ _ _ _ _ _ _ _ _ _ _ 0 [some (.ref 0), some (.int t), some (.int u), none] [] _ 0 0
  refine j_aload_n x dX5_ground_0 rfl ?_
  refine j_iload_n x dX5_ground_1 rfl ?_
  refine j_iload_n x dX5_ground_2 rfl ?_
  refine j2_callVi x hb dX5_ground_3 m_X5_isGroundRefused (CM_n (c_isGroundRefused (d := d + 2) hb) h) wmX5_87 jc_9 rfl rfl rfl (Nat.le_of_ble_eq_true rfl) (j_fit_rm (by omega) (by omega) (by omega)) rfl ?_
  refine j_if_eq (tgt := 19) x dX5_ground_6 (by decide) (fun hc => ?_) (fun hc => absurd (rfl) hc)
  refine j_aload_n x dX5_ground_19 rfl ?_
  refine j2_getr (k := 3) (r := 13) x hb dX5_ground_20 jc_9 wfX5_22 (by decide) rfl ?_
  refine j_aload_n x dX5_ground_23 rfl ?_
  refine j2_getr (k := 0) (r := 1) x hb dX5_ground_24 jc_9 wfX5_10 (by decide) rfl ?_
  refine j2_callVv x hb dX5_ground_27 m_X1_keep (c_keep (d := d) hb hj hk hh h2 hz) wmX5_73 jc_5 rfl rfl rfl (Nat.le_of_ble_eq_true rfl) (j_fit_rm (by omega) (by omega) (by omega)) rfl ?_
  refine j_aload_n x dX5_ground_30 rfl ?_
  refine j2_getr (k := 0) (r := 1) x hb dX5_ground_31 jc_9 wfX5_10 (by decide) rfl ?_
  refine j2_getr (k := 1) (r := 2) x hb dX5_ground_34 jc_6 wfX5_77 (by decide) rfl ?_
  refine j_iload_n x dX5_ground_37 rfl ?_
  refine j2_callSi x hb dX5_ground_38 m_X5_at (c_at (d := d) hb fa_2 (by decide)) wmX5_93 rfl (Nat.le_of_ble_eq_true rfl) (j_fit_rm (by omega) (by omega) (by omega)) rfl ?_
  refine j_istore_n x dX5_ground_41 (by decide) rfl ?_
  refine j_aload_n x dX5_ground_42 rfl ?_
  refine j2_getr (k := 0) (r := 1) x hb dX5_ground_43 jc_9 wfX5_10 (by decide) rfl ?_
  refine j2_getr (k := 1) (r := 2) x hb dX5_ground_46 jc_6 wfX5_77 (by decide) rfl ?_
  refine j_iload_n x dX5_ground_49 rfl ?_
  refine j_iload_n x dX5_ground_50 rfl ?_
  refine j2_callSv x hb dX5_ground_51 m_X5_put (c_put (d := d) hb fa_2 (by decide)) wmX5_83 rfl (Nat.le_of_ble_eq_true rfl) (j_fit_rm (by omega) (by omega) (by omega)) rfl ?_
  refine j_iload_n x dX5_ground_54 rfl ?_
  exact j_ireturn x hr dX5_ground_55 (by omega) (by omega) ⟨rfl, rfl⟩
def jdraw (M : MM) (j k t q : Nat) : MM := jstart (jly t q (jkeep M j k) (2 * q)) 1
theorem jstart_n {M : MM} {i z : Nat} (h : 6 < i ∨ i = 0 ∨ i = 2 ∨ i = 3 ∨ (i = 1 ∧ z ≠ 2 ∧ z ≠ 3)) : jstart M 1 i z = M i z := by
  unfold jstart
  rw [jfill_n (by omega), jfill_n (by omega)]
  unfold jrow
  rw [if_neg (by omega), jm_n (by omega), jm_n (by omega)]
theorem c_draw_ok {d : Nat} {b : SBt} {Y : OUt} {M : MM} (hb : 94 ≤ b.2.1) {t q : Nat} (h : rDraw M = none) (h1 : M 1 0 = nI t) (hl : (t % 2 = 0 ∧ q + 1 = t) ∨ (t % 2 = 1 ∧ q = t)) (hq0 : 1 ≤ q) (ht : t ≤ 8) {j k : Nat} (hj : j < 9) (hk : k ≤ 8) (hh : M 13 1 = nI j) (h2 : M 13 2 = nI k) (hz : M 1 2 = 0 ∨ M 1 2 = 1) : CM (d + 6) 1 6 yX5_draw cX5_draw 1 (some .int) [.ref 0] b Y M (.inl (some (.int (nI (2 * q))))) (jdraw M j k t q) := by
  refine Con.of (by decide +kernel) (Nat.le_of_ble_eq_true rfl) rfl fun p l e s m args below meth c D tyc A ad0 x hr htab hname => ?_
  change JJ _ _ _ _ _ _ _ _ _ _ _ _ _ _ _ _ _ 0 [some (.ref 0)] [] _ 0 0
  refine j_aload_n x dX5_draw_0 rfl ?_
  refine j2_callVi x hb dX5_draw_1 m_X5_isDrawRefused (CM_n (c_isDrawRefused (d := d + 2) hb) h) wmX5_97 jc_9 rfl rfl rfl (Nat.le_of_ble_eq_true rfl) (j_fit_rm (by omega) (by omega) (by omega)) rfl ?_
  refine j_if_eq (tgt := 17) x dX5_draw_4 (by decide) (fun hc => ?_) (fun hc => absurd (rfl) hc)
  refine j_aload_n x dX5_draw_17 rfl ?_
  refine j2_getr (k := 3) (r := 13) x hb dX5_draw_18 jc_9 wfX5_22 (by decide) rfl ?_
  refine j_aload_n x dX5_draw_21 rfl ?_
  refine j2_getr (k := 0) (r := 1) x hb dX5_draw_22 jc_9 wfX5_10 (by decide) rfl ?_
  refine j2_callVv x hb dX5_draw_25 m_X1_keep (c_keep (d := d) hb hj hk hh h2 hz) wmX5_73 jc_5 rfl rfl rfl (Nat.le_of_ble_eq_true rfl) (j_fit_rm (by omega) (by omega) (by omega)) rfl ?_
  refine j_aload_n x dX5_draw_28 rfl ?_
  refine j2_getr (k := 4) (r := 69) x hb dX5_draw_29 jc_9 wfX5_29 (by decide) rfl ?_
  refine j_aload_n x dX5_draw_32 rfl ?_
  refine j2_getr (k := 0) (r := 1) x hb dX5_draw_33 jc_9 wfX5_10 (by decide) rfl ?_
  refine j2_geti (k := 0) x hb dX5_draw_36 jc_6 wfX5_80 (by decide) rfl ?_
  rw [jkeep_n hj (by omega), h1]; refine j2_callVv x hb dX5_draw_39 m_X0_lay (c_lay (d := d) hb hl hq0 ht) wmX5_103 jc_4 rfl rfl rfl (Nat.le_of_ble_eq_true rfl) (j_fit_rm (by omega) (by omega) (by omega)) rfl ?_
  refine j_aload_n x dX5_draw_42 rfl ?_
  refine j2_getr (k := 0) (r := 1) x hb dX5_draw_43 jc_9 wfX5_10 (by decide) rfl ?_
  refine j_aload_n x dX5_draw_46 rfl ?_
  refine j2_getr (k := 4) (r := 69) x hb dX5_draw_47 jc_9 wfX5_29 (by decide) rfl ?_
  refine j2_callVv x hb dX5_draw_50 m_X2_start (c_start (d := d) (a := 1) hb rfl) wmX5_107 jc_6 rfl rfl rfl (Nat.le_of_ble_eq_true rfl) (j_fit_rm (by omega) (by omega) (by omega)) rfl ?_
  refine j_aload_n x dX5_draw_53 rfl ?_
  refine j2_getr (k := 4) (r := 69) x hb dX5_draw_54 jc_9 wfX5_29 (by decide) rfl ?_
  refine j2_geti (k := 0) x hb dX5_draw_57 jc_4 wfX5_111 (by decide) rfl ?_
  exact j_ireturn x hr dX5_draw_60 (by omega) (by omega) ⟨by rw [jstart_n (by omega), jly_w], rfl⟩
theorem c_undo_ok {d : Nat} {b : SBt} {Y : OUt} {M : MM} (hb : 94 ≤ b.2.1) {j k : Nat} (hj : j < 9) (hk0 : 0 < k) (hk : k ≤ 8) (hh : M 13 1 = nI j) (h2 : M 13 2 = nI k) (hz : M (15 + 6 * ((j + 8) % 9)) 2 = 0 ∨ M (15 + 6 * ((j + 8) % 9)) 2 = 1) : CM (d + 4) 1 6 yX5_undo cX5_undo 1 (some .int) [.ref 0] b Y M (.inl (some (.int (nI (k - 1))))) (jgl M j k) := by
  refine Con.of (by decide +kernel) (Nat.le_of_ble_eq_true rfl) rfl fun p l e s m args below meth c D tyc A ad0 x hr htab hname => ?_
  change JJ _ _ _ _ _ _ _ _ _ _ _ _ _ _ _ _ _ 0 [some (.ref 0)] [] _ 0 0
  refine j_aload_n x dX5_undo_0 rfl ?_
  refine j2_getr (k := 3) (r := 13) x hb dX5_undo_1 jc_9 wfX5_22 (by decide) rfl ?_
  refine j2_geti (k := 2) x hb dX5_undo_4 jc_5 wfX5_404 (by decide) rfl ?_
  refine j_if_ne (tgt := 21) x dX5_undo_7 (by decide) (fun hc => ?_) (fun hc => absurd hc (by rw [h2]; exact nI_ne0 hk0 (by omega)))
  refine j_aload_n x dX5_undo_21 rfl ?_
  refine j2_getr (k := 3) (r := 13) x hb dX5_undo_22 jc_9 wfX5_22 (by decide) rfl ?_
  refine j_aload_n x dX5_undo_25 rfl ?_
  refine j2_getr (k := 0) (r := 1) x hb dX5_undo_26 jc_9 wfX5_10 (by decide) rfl ?_
  refine j2_callVv x hb dX5_undo_29 m_X1_giveLatest (c_giveLatest (d := d) hb hj hk0 hk hh h2 hz) wmX5_409 jc_5 rfl rfl rfl (Nat.le_of_ble_eq_true rfl) (j_fit_rm (by omega) (by omega) (by omega)) rfl ?_
  refine j_aload_n x dX5_undo_32 rfl ?_
  refine j2_getr (k := 3) (r := 13) x hb dX5_undo_33 jc_9 wfX5_22 (by decide) rfl ?_
  refine j2_geti (k := 2) x hb dX5_undo_36 jc_5 wfX5_404 (by decide) rfl ?_
  exact j_ireturn x hr dX5_undo_39 (by omega) (by omega) ⟨by unfold jgl; rw [jlg_n (by omega), jm_s], rfl⟩
def jres1 (M : MM) : MM := jm (jlg M 7 1) 13 2 0
theorem jres1_at {M : MM} {z : Nat} (h : z = 0 ∨ z = 2 ∨ z = 3 ∨ z = 4 ∨ z = 5 ∨ z = 6) : jres1 M 1 z = M 7 z := by
  unfold jres1
  rw [jm_n (by omega)]
  unfold jlg
  rw [if_pos ⟨rfl, h⟩]
theorem c_restore_un {d : Nat} {b : SBt} {Y : OUt} {M : MM} (hb : 94 ≤ b.2.1) (hs : ¬ M 0 2 = 0) (hz : M 7 2 = 0 ∨ M 7 2 = 1) (h0 : M 7 2 = 0) : CM (d + 4) 1 6 yX5_restore cX5_restore 1 (some .int) [.ref 0] b Y M (.inl (some (.int (M 7 0)))) (jres1 M) := by
  refine Con.of (by decide +kernel) (Nat.le_of_ble_eq_true rfl) rfl fun p l e s m args below meth c D tyc A ad0 x hr htab hname => ?_
  change JJ _ _ _ _ _ _ _ _ _ _ _ _ _ _ _ _ _ 0 [some (.ref 0)] [] _ 0 0
  refine j_aload_n x dX5_restore_0 rfl ?_
  refine j2_geti (k := 2) x hb dX5_restore_1 jc_9 wfX5_415 (by decide) rfl ?_
  refine j_if_ne (tgt := 18) x dX5_restore_4 (by decide) (fun hc => ?_) (fun hc => absurd hc (hs))
  refine j_aload_n x dX5_restore_18 rfl ?_
  refine j2_getr (k := 0) (r := 1) x hb dX5_restore_19 jc_9 wfX5_10 (by decide) rfl ?_
  refine j_aload_n x dX5_restore_22 rfl ?_
  refine j2_getr (k := 1) (r := 7) x hb dX5_restore_23 jc_9 wfX5_16 (by decide) rfl ?_
  refine j2_callVv x hb dX5_restore_26 m_X2_copyFrom (c_copyFrom (d := d) (a := 7) (g := 1) hb rfl rfl (by decide) hz) wmX5_412 jc_6 rfl rfl rfl (Nat.le_of_ble_eq_true rfl) (j_fit_rm (by omega) (by omega) (by omega)) rfl ?_
  refine j_aload_n x dX5_restore_29 rfl ?_
  refine j2_getr (k := 3) (r := 13) x hb dX5_restore_30 jc_9 wfX5_22 (by decide) rfl ?_
  refine j2_callVv x hb dX5_restore_33 m_X1_forget (c_forget (d := d) hb) wmX5_420 jc_5 rfl rfl rfl (Nat.le_of_ble_eq_true rfl) (j_fit_rm (by omega) (by omega) (by omega)) rfl ?_
  refine j_aload_n x dX5_restore_36 rfl ?_
  refine j2_getr (k := 0) (r := 1) x hb dX5_restore_37 jc_9 wfX5_10 (by decide) rfl ?_
  refine j2_geti (k := 2) x hb dX5_restore_40 jc_6 wfX5_388 (by decide) rfl ?_
  refine j_if_eq (tgt := 60) x dX5_restore_43 (by decide) (fun hc => ?_) (fun hc => absurd (show jres1 M 1 2 = 0 by rw [jres1_at (by omega)]; exact h0) hc)
  refine j_aload_n x dX5_restore_60 rfl ?_
  refine j2_getr (k := 0) (r := 1) x hb dX5_restore_61 jc_9 wfX5_10 (by decide) rfl ?_
  refine j2_geti (k := 0) x hb dX5_restore_64 jc_6 wfX5_80 (by decide) rfl ?_
  exact j_ireturn x hr dX5_restore_67 (by omega) (by omega) ⟨by rw [show jm (jlg M 7 1) 13 2 0 1 0 = M 7 0 from jres1_at (by omega)], rfl⟩
theorem c_restore_dr {d : Nat} {b : SBt} {Y : OUt} {M : MM} (hb : 94 ≤ b.2.1) (hs : ¬ M 0 2 = 0) (hz : M 7 2 = 0 ∨ M 7 2 = 1) (h0 : ¬ M 7 2 = 0) {t q : Nat} (h1 : M 7 0 = nI t) (hl : (t % 2 = 0 ∧ q + 1 = t) ∨ (t % 2 = 1 ∧ q = t)) (hq0 : 1 ≤ q) (ht : t ≤ 8) : CM (d + 4) 1 6 yX5_restore cX5_restore 1 (some .int) [.ref 0] b Y M (.inl (some (.int (nI t)))) (jly t q (jres1 M) (2 * q)) := by
  refine Con.of (by decide +kernel) (Nat.le_of_ble_eq_true rfl) rfl fun p l e s m args below meth c D tyc A ad0 x hr htab hname => ?_
  change JJ _ _ _ _ _ _ _ _ _ _ _ _ _ _ _ _ _ 0 [some (.ref 0)] [] _ 0 0
  refine j_aload_n x dX5_restore_0 rfl ?_
  refine j2_geti (k := 2) x hb dX5_restore_1 jc_9 wfX5_415 (by decide) rfl ?_
  refine j_if_ne (tgt := 18) x dX5_restore_4 (by decide) (fun hc => ?_) (fun hc => absurd hc (hs))
  refine j_aload_n x dX5_restore_18 rfl ?_
  refine j2_getr (k := 0) (r := 1) x hb dX5_restore_19 jc_9 wfX5_10 (by decide) rfl ?_
  refine j_aload_n x dX5_restore_22 rfl ?_
  refine j2_getr (k := 1) (r := 7) x hb dX5_restore_23 jc_9 wfX5_16 (by decide) rfl ?_
  refine j2_callVv x hb dX5_restore_26 m_X2_copyFrom (c_copyFrom (d := d) (a := 7) (g := 1) hb rfl rfl (by decide) hz) wmX5_412 jc_6 rfl rfl rfl (Nat.le_of_ble_eq_true rfl) (j_fit_rm (by omega) (by omega) (by omega)) rfl ?_
  refine j_aload_n x dX5_restore_29 rfl ?_
  refine j2_getr (k := 3) (r := 13) x hb dX5_restore_30 jc_9 wfX5_22 (by decide) rfl ?_
  refine j2_callVv x hb dX5_restore_33 m_X1_forget (c_forget (d := d) hb) wmX5_420 jc_5 rfl rfl rfl (Nat.le_of_ble_eq_true rfl) (j_fit_rm (by omega) (by omega) (by omega)) rfl ?_
  refine j_aload_n x dX5_restore_36 rfl ?_
  refine j2_getr (k := 0) (r := 1) x hb dX5_restore_37 jc_9 wfX5_10 (by decide) rfl ?_
  refine j2_geti (k := 2) x hb dX5_restore_40 jc_6 wfX5_388 (by decide) rfl ?_
  refine j_if_eq (tgt := 60) x dX5_restore_43 (by decide) (fun hc => absurd hc (show ¬ jres1 M 1 2 = 0 by rw [jres1_at (by omega)]; exact h0)) (fun hc => ?_)
  refine j_aload_n x dX5_restore_46 rfl ?_
  refine j2_getr (k := 4) (r := 69) x hb dX5_restore_47 jc_9 wfX5_29 (by decide) rfl ?_
  refine j_aload_n x dX5_restore_50 rfl ?_
  refine j2_getr (k := 0) (r := 1) x hb dX5_restore_51 jc_9 wfX5_10 (by decide) rfl ?_
  refine j2_geti (k := 0) x hb dX5_restore_54 jc_6 wfX5_80 (by decide) rfl ?_
  rw [show jm (jlg M 7 1) 13 2 0 1 0 = nI t from (jres1_at (by omega)).trans h1]; refine j2_callVv x hb dX5_restore_57 m_X0_lay (c_lay (d := d) hb hl hq0 ht) wmX5_103 jc_4 rfl rfl rfl (Nat.le_of_ble_eq_true rfl) (j_fit_rm (by omega) (by omega) (by omega)) rfl ?_
  refine j_aload_n x dX5_restore_60 rfl ?_
  refine j2_getr (k := 0) (r := 1) x hb dX5_restore_61 jc_9 wfX5_10 (by decide) rfl ?_
  refine j2_geti (k := 0) x hb dX5_restore_64 jc_6 wfX5_80 (by decide) rfl ?_
  exact j_ireturn x hr dX5_restore_67 (by omega) (by omega) ⟨by rw [jly_n (by omega), show jm (jlg M 7 1) 13 2 0 1 0 = nI t from (jres1_at (by omega)).trans h1], rfl⟩
