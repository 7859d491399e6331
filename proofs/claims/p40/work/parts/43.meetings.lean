/-! ===== meetings: counts, searches, refusals ===== -/
def jsum (f : Nat → Int32) : Nat → Int32
  | 0 => 0
  | n + 1 => jsum f n + f n
theorem jsum_v {f : Nat → Int32} {n : Nat} {v : Int32} (h : f n = v) : jsum f n + v = jsum f (n + 1) := by rw [jsum, h]
theorem jsum_f {f : Nat → Int32} {n : Nat} (h : f n = 0) : jsum f n = jsum f (n + 1) := by rw [jsum, h, Int32.add_zero]
theorem jsum_c {f g : Nat → Int32} : ∀ {n : Nat}, (∀ i, i < n → f i = g i) → jsum f n = jsum g n
  | 0, _ => rfl
  | n + 1, h => by rw [jsum, jsum, jsum_c (n := n) (fun i hi => h i (by omega)), h n (by omega)]
/-- the first place below n where f is 1, else -1 -/
def jfst (f : Nat → Int32) : Nat → Int32
  | 0 => -1
  | n + 1 => if jfst f n = -1 then (if f n = 1 then nI n else -1) else jfst f n
theorem nI_nm1 {n : Nat} (h : n < 2 ^ 31) : ¬ nI n = -1 := fun q => nI_pos h (by rw [q]; decide)
theorem jfst_no {f : Nat → Int32} {n : Nat} (h : jfst f n = -1) (h1 : ¬ f n = 1) : jfst f (n + 1) = -1 := by rw [jfst, if_pos h, if_neg h1]
theorem jfst_at {f : Nat → Int32} {j : Nat} (h : jfst f j = -1) (h1 : f j = 1) (hj : j < 2 ^ 31) : ∀ {n : Nat}, j < n → jfst f n = nI j
  | 0, h2 => absurd h2 (Nat.not_lt_zero j)
  | n + 1, h2 => by
    by_cases hn : j = n
    · subst hn; rw [jfst, if_pos h, if_pos h1]
    · have h3 := jfst_at h h1 hj (n := n) (by omega)
      rw [jfst, h3, if_neg (nI_nm1 hj)]
theorem jfst_c {f g : Nat → Int32} : ∀ {n : Nat}, (∀ i, i < n → f i = g i) → jfst f n = jfst g n
  | 0, _ => rfl
  | n + 1, h => by rw [jfst, jfst, jfst_c (n := n) (fun i hi => h i (by omega)), h n (by omega)]
def jkind (M : MM) (t : Int32) : Int32 := if ¬ jat 56 (M 5) t = -1 then 1 else if jat 56 (M 4) t = jat 56 (M 72) t then 0 else 2
def jgr (M : MM) (t : Int32) : Int32 := jat 8 (M 2) (jat 56 (M 70) t)
def fNow (M : MM) (m : Nat) : Int32 := jb (M 4 m = M 1 3 ∧ M 5 m = -1)
def fPut (M : MM) (m : Nat) : Int32 := jb (M 5 m = -1 ∧ ¬ M 4 m = M 72 m)
def fBet (M : MM) (u v : Int32) (m : Nat) : Int32 := jb (M 70 m = u ∧ M 71 m = v)
def fCl (M : MM) (t w : Int32) (m : Nat) : Int32 := jb (¬ nI m = t ∧ M 4 m = w ∧ jgr M (nI m) = jgr M t)
def fPair (M : MM) (n : Nat) (w : Int32) (m : Nat) : Int32 := if M 4 m = w then jsum (fCl M (nI m) w) n else 0
def jpairs (M : MM) (n : Nat) (w : Int32) : Int32 := jsum (fPair M n w) n / 2
theorem c_kindOf {d : Nat} {b : SBt} {Y : OUt} {M : MM} (hb : 94 ≤ b.2.1) {t : Int32} : CM (d + 2) 0 0 yX5_kindOf cX5_kindOf 2 (some .int) [.ref 0, .int t] b Y M (.inl (some (.int (jkind M t)))) (M) := by
  refine Con.of (by decide +kernel) (Nat.le_of_ble_eq_true rfl) rfl fun p l e s m args below meth c D tyc A ad0 x hr htab hname => ?_
  change JJ _ _ _ _ _ _ _ _ _ _ _ _ _ _ _ _ _ 0 [some (.ref 0), some (.int t)] [] _ 0 0
  refine j_aload_n x dX5_kindOf_0 rfl ?_
  refine j2_getr (k := 0) (r := 1) x hb dX5_kindOf_1 jc_9 wfX5_10 (by decide) rfl ?_
  refine j_iload_n x dX5_kindOf_4 rfl ?_
  refine j2_callVi x hb dX5_kindOf_5 m_X2_isPlayed (c_isPlayed (d := d) (a := 1) hb rfl) wmX5_288 jc_6 rfl rfl rfl (Nat.le_of_ble_eq_true rfl) (j_fit_rm (by omega) (by omega) (by omega)) rfl ?_
  refine j_if_eq (tgt := 13) x dX5_kindOf_8 (by decide) (fun h1 => ?_) (fun h1 => ?_)
  · refine j_aload_n x dX5_kindOf_13 rfl ?_
    refine j2_getr (k := 0) (r := 1) x hb dX5_kindOf_14 jc_9 wfX5_10 (by decide) rfl ?_
    refine j2_getr (k := 8) (r := 4) x hb dX5_kindOf_17 jc_6 wfX5_163 (by decide) rfl ?_
    refine j_iload_n x dX5_kindOf_20 rfl ?_
    refine j2_callSi x hb dX5_kindOf_21 m_X5_at (c_at (d := d) hb fa_4 (by decide)) wmX5_93 rfl (Nat.le_of_ble_eq_true rfl) (j_fit_rm (by omega) (by omega) (by omega)) rfl ?_
    refine j_aload_n x dX5_kindOf_24 rfl ?_
    refine j2_getr (k := 4) (r := 69) x hb dX5_kindOf_25 jc_9 wfX5_29 (by decide) rfl ?_
    refine j2_getr (k := 4) (r := 72) x hb dX5_kindOf_28 jc_4 wfX5_237 (by decide) rfl ?_
    refine j_iload_n x dX5_kindOf_31 rfl ?_
    refine j2_callSi x hb dX5_kindOf_32 m_X5_at (c_at (d := d) hb fa_72 (by decide)) wmX5_93 rfl (Nat.le_of_ble_eq_true rfl) (j_fit_rm (by omega) (by omega) (by omega)) rfl ?_
    refine j_icmp_ne (tgt := 42) x dX5_kindOf_35 (by decide) (fun h2 => ?_) (fun h2 => ?_)
    · refine j_iconst (v := 2) x dX5_kindOf_42 (by decide) ?_
      exact j_ireturn x hr dX5_kindOf_43 (by omega) (by omega) ⟨by rw [jkind, if_neg (jb_0.mp h1), if_neg h2], rfl⟩
    · refine j_iconst (v := 0) x dX5_kindOf_38 (by decide) ?_
      refine j_goto (tgt := 43) x dX5_kindOf_39 (by decide) ?_
      exact j_ireturn x hr dX5_kindOf_43 (by omega) (by omega) ⟨by rw [jkind, if_neg (jb_0.mp h1), if_pos h2], rfl⟩
  · refine j_iconst (v := 1) x dX5_kindOf_11 (by decide) ?_
    exact j_ireturn x hr dX5_kindOf_12 (by omega) (by omega) ⟨by rw [jkind, if_pos (jb_nz.mp h1)], rfl⟩
theorem c_isIn {d : Nat} {b : SBt} {Y : OUt} {M : MM} (hb : 94 ≤ b.2.1) {t : Int32} {m1 : Nat} (hm1 : m1 < 56) : CM (d + 1) 0 0 yX5_isIn cX5_isIn 3 (some .boolean) [.ref 0, .int t, .int (nI m1)] b Y M (.inl (some (.int (jb (M 70 m1 = t ∨ M 71 m1 = t))))) (M) := by
  refine Con.of (by decide +kernel) (Nat.le_of_ble_eq_true rfl) rfl fun p l e s m args below meth c D tyc A ad0 x hr htab hname => ?_
  change JJ _ _ _ _ _ _ _ _ _ _ _ _ _ _ _ _ _ 0 [some (.ref 0), some (.int t), some (.int (nI m1))] [] _ 0 0
  refine j_aload_n x dX5_isIn_0 rfl ?_
  refine j2_getr (k := 4) (r := 69) x hb dX5_isIn_1 jc_9 wfX5_29 (by decide) rfl ?_
  refine j2_getr (k := 2) (r := 70) x hb dX5_isIn_4 jc_4 wfX5_221 (by decide) rfl ?_
  refine j_iload_n x dX5_isIn_7 rfl ?_
  refine j2_callSi x hb dX5_isIn_8 m_X5_at (CM_v (c_at (d := d) hb fa_70 (by decide)) (jat_nI hm1 (by decide))) wmX5_93 rfl (Nat.le_of_ble_eq_true rfl) (j_fit_rm (by omega) (by omega) (by omega)) rfl ?_
  refine j_iload_n x dX5_isIn_11 rfl ?_
  refine j_icmp_eq (tgt := 30) x dX5_isIn_12 (by decide) (fun h1 => ?_) (fun h1 => ?_)
  · refine j_iconst (v := 1) x dX5_isIn_30 (by decide) ?_
    refine j_goto (tgt := 35) x dX5_isIn_31 (by decide) ?_
    exact j_zreturn x hr dX5_isIn_35 (by first | decide | with_reducible exact jb_nar | with_reducible exact jisS_nar | with_reducible exact gno_nar) (by omega) (by omega) ⟨by rw [jb_t (Or.inl h1)], rfl⟩
  · refine j_aload_n x dX5_isIn_15 rfl ?_
    refine j2_getr (k := 4) (r := 69) x hb dX5_isIn_16 jc_9 wfX5_29 (by decide) rfl ?_
    refine j2_getr (k := 3) (r := 71) x hb dX5_isIn_19 jc_4 wfX5_224 (by decide) rfl ?_
    refine j_iload_n x dX5_isIn_22 rfl ?_
    refine j2_callSi x hb dX5_isIn_23 m_X5_at (CM_v (c_at (d := d) hb fa_71 (by decide)) (jat_nI hm1 (by decide))) wmX5_93 rfl (Nat.le_of_ble_eq_true rfl) (j_fit_rm (by omega) (by omega) (by omega)) rfl ?_
    refine j_iload_n x dX5_isIn_26 rfl ?_
    refine j_icmp_ne (tgt := 34) x dX5_isIn_27 (by decide) (fun h2 => ?_) (fun h2 => ?_)
    · refine j_iconst (v := 0) x dX5_isIn_34 (by decide) ?_
      exact j_zreturn x hr dX5_isIn_35 (by first | decide | with_reducible exact jb_nar | with_reducible exact jisS_nar | with_reducible exact gno_nar) (by omega) (by omega) ⟨by rw [jb_f (fun q => q.elim h1 h2)], rfl⟩
    · refine j_iconst (v := 1) x dX5_isIn_30 (by decide) ?_
      refine j_goto (tgt := 35) x dX5_isIn_31 (by decide) ?_
      exact j_zreturn x hr dX5_isIn_35 (by first | decide | with_reducible exact jb_nar | with_reducible exact jisS_nar | with_reducible exact gno_nar) (by omega) (by omega) ⟨by rw [jb_t (Or.inr h2)], rfl⟩
theorem c_hasLost {d : Nat} {b : SBt} {Y : OUt} {M : MM} (hb : 94 ≤ b.2.1) {t : Int32} {m1 : Nat} (hm1 : m1 < 56) : CM (d + 1) 0 0 yX5_hasLost cX5_hasLost 4 (some .boolean) [.ref 0, .int t, .int (nI m1)] b Y M (.inl (some (.int (if M 70 m1 = t then jb (¬ 0 ≤ M 5 m1 - M 6 m1) else jb (¬ M 5 m1 - M 6 m1 ≤ 0))))) (M) := by
  refine Con.of (by decide +kernel) (Nat.le_of_ble_eq_true rfl) rfl fun p l e s m args below meth c D tyc A ad0 x hr htab hname => ?_
  change JJ _ _ _ _ _ _ _ _ _ _ _ _ _ _ _ _ _ 0 [some (.ref 0), some (.int t), some (.int (nI m1)), none] [] _ 0 0
  refine j_aload_n x dX5_hasLost_0 rfl ?_
  refine j2_getr (k := 0) (r := 1) x hb dX5_hasLost_1 jc_9 wfX5_10 (by decide) rfl ?_
  refine j2_getr (k := 9) (r := 5) x hb dX5_hasLost_4 jc_6 wfX5_231 (by decide) rfl ?_
  refine j_iload_n x dX5_hasLost_7 rfl ?_
  refine j2_callSi x hb dX5_hasLost_8 m_X5_at (CM_v (c_at (d := d) hb fa_5 (by decide)) (jat_nI hm1 (by decide))) wmX5_93 rfl (Nat.le_of_ble_eq_true rfl) (j_fit_rm (by omega) (by omega) (by omega)) rfl ?_
  refine j_aload_n x dX5_hasLost_11 rfl ?_
  refine j2_getr (k := 0) (r := 1) x hb dX5_hasLost_12 jc_9 wfX5_10 (by decide) rfl ?_
  refine j2_getr (k := 10) (r := 6) x hb dX5_hasLost_15 jc_6 wfX5_234 (by decide) rfl ?_
  refine j_iload_n x dX5_hasLost_18 rfl ?_
  refine j2_callSi x hb dX5_hasLost_19 m_X5_at (CM_v (c_at (d := d) hb fa_6 (by decide)) (jat_nI hm1 (by decide))) wmX5_93 rfl (Nat.le_of_ble_eq_true rfl) (j_fit_rm (by omega) (by omega) (by omega)) rfl ?_
  refine j_isub x dX5_hasLost_22 ?_
  refine j_istore_n x dX5_hasLost_23 (by decide) rfl ?_
  refine j_aload_n x dX5_hasLost_24 rfl ?_
  refine j2_getr (k := 4) (r := 69) x hb dX5_hasLost_25 jc_9 wfX5_29 (by decide) rfl ?_
  refine j2_getr (k := 2) (r := 70) x hb dX5_hasLost_28 jc_4 wfX5_221 (by decide) rfl ?_
  refine j_iload_n x dX5_hasLost_31 rfl ?_
  refine j2_callSi x hb dX5_hasLost_32 m_X5_at (CM_v (c_at (d := d) hb fa_70 (by decide)) (jat_nI hm1 (by decide))) wmX5_93 rfl (Nat.le_of_ble_eq_true rfl) (j_fit_rm (by omega) (by omega) (by omega)) rfl ?_
  refine j_iload_n x dX5_hasLost_35 rfl ?_
  refine j_icmp_ne (tgt := 51) x dX5_hasLost_36 (by decide) (fun h1 => ?_) (fun h1 => ?_)
  · refine j_iload_n x dX5_hasLost_51 rfl ?_
    refine j_if_le (tgt := 59) x dX5_hasLost_52 (by decide) (fun h2 => ?_) (fun h2 => ?_)
    · refine j_iconst (v := 0) x dX5_hasLost_59 (by decide) ?_
      exact j_zreturn x hr dX5_hasLost_60 (by first | decide | with_reducible exact jb_nar | with_reducible exact jisS_nar | with_reducible exact gno_nar) (by omega) (by omega) ⟨by rw [if_neg h1, jb_f (fun q => q h2)], rfl⟩
    · refine j_iconst (v := 1) x dX5_hasLost_55 (by decide) ?_
      refine j_goto (tgt := 60) x dX5_hasLost_56 (by decide) ?_
      exact j_zreturn x hr dX5_hasLost_60 (by first | decide | with_reducible exact jb_nar | with_reducible exact jisS_nar | with_reducible exact gno_nar) (by omega) (by omega) ⟨by rw [if_neg h1, jb_t h2], rfl⟩
  · refine j_iload_n x dX5_hasLost_39 rfl ?_
    refine j_if_ge (tgt := 47) x dX5_hasLost_40 (by decide) (fun h2 => ?_) (fun h2 => ?_)
    · refine j_iconst (v := 0) x dX5_hasLost_47 (by decide) ?_
      refine j_goto (tgt := 60) x dX5_hasLost_48 (by decide) ?_
      exact j_zreturn x hr dX5_hasLost_60 (by first | decide | with_reducible exact jb_nar | with_reducible exact jisS_nar | with_reducible exact gno_nar) (by omega) (by omega) ⟨by rw [if_pos h1, jb_f (fun q => q h2)], rfl⟩
    · refine j_iconst (v := 1) x dX5_hasLost_43 (by decide) ?_
      refine j_goto (tgt := 60) x dX5_hasLost_44 (by decide) ?_
      exact j_zreturn x hr dX5_hasLost_60 (by first | decide | with_reducible exact jb_nar | with_reducible exact jisS_nar | with_reducible exact gno_nar) (by omega) (by omega) ⟨by rw [if_pos h1, jb_t h2], rfl⟩
theorem c_meetingBetween {d : Nat} {b : SBt} {Y : OUt} {M : MM} (hb : 94 ≤ b.2.1) {u v : Int32} {n : Nat} (hn : n ≤ 56) (hm : jmc M = nI n) : CM (d + 1) 0 0 yX5_meetingBetween cX5_meetingBetween 4 (some .int) [.ref 0, .int u, .int v] b Y M (.inl (some (.int (jfst (fBet M u v) n)))) (M) := by
  refine Con.of (by decide +kernel) (Nat.le_of_ble_eq_true rfl) rfl fun p l e s m args below meth c D tyc A ad0 x hr htab hname => ?_
  change JJ _ _ _ _ _ _ _ _ _ _ _ _ _ _ _ _ _ 0 [some (.ref 0), some (.int u), some (.int v), none] [] _ 0 0
  refine j_iconst (v := 0) x dX5_meetingBetween_0 (by decide) ?_
  refine j_istore_n x dX5_meetingBetween_1 (by decide) rfl ?_
  refine j_for (n) (fun z0 => [some (.ref 0), some (.int u), some (.int v), some (.int (nI z0))]) (fun z0 => M) (fun z0 => jfst (fBet M u v) z0 = -1) (rfl) (rfl) (rfl) (fun j hj hP ih => ?_) (fun hP => ?_)
  · refine j_iload_n x dX5_meetingBetween_2 rfl ?_
    refine j_aload_n x dX5_meetingBetween_3 rfl ?_
    refine j2_callVi x hb dX5_meetingBetween_4 m_X5_meetingCount (CM_v (c_meetingCount (d := d) hb) hm) wmX5_258 jc_9 rfl rfl rfl (Nat.le_of_ble_eq_true rfl) (j_fit_rm (by omega) (by omega) (by omega)) rfl ?_
    refine j_icmp_ge (tgt := 48) x dX5_meetingBetween_7 (by decide) (fun hc => absurd hc (nI_ge hj (by omega))) (fun hc => ?_)
    refine j_aload_n x dX5_meetingBetween_10 rfl ?_
    refine j2_getr (k := 4) (r := 69) x hb dX5_meetingBetween_11 jc_9 wfX5_29 (by decide) rfl ?_
    refine j2_getr (k := 2) (r := 70) x hb dX5_meetingBetween_14 jc_4 wfX5_221 (by decide) rfl ?_
    refine j_iload_n x dX5_meetingBetween_17 rfl ?_
    refine j2_callSi x hb dX5_meetingBetween_18 m_X5_at (CM_v (c_at (d := d) hb fa_70 (by decide)) (jat_nI (show j < 56 by omega) (by decide))) wmX5_93 rfl (Nat.le_of_ble_eq_true rfl) (j_fit_rm (by omega) (by omega) (by omega)) rfl ?_
    refine j_iload_n x dX5_meetingBetween_21 rfl ?_
    refine j_icmp_ne (tgt := 42) x dX5_meetingBetween_22 (by decide) (fun h1 => ?_) (fun h1 => ?_)
    · refine j_iinc x dX5_meetingBetween_42 rfl (by decide) rfl ?_
      refine j_goto (tgt := 2) x dX5_meetingBetween_45 (by decide) ?_
      exact j_goal (ih (jfst_no hP (by rw [show fBet M u v j = 0 from jb_f (fun q => h1 q.1)]; decide))) (wk_c rfl (wk_c rfl (wk_c rfl (wk_c (congrArg (fun z => some (Value.int z)) (nI_1 _)) (wk_0))))) (rfl)
    · refine j_aload_n x dX5_meetingBetween_25 rfl ?_
      refine j2_getr (k := 4) (r := 69) x hb dX5_meetingBetween_26 jc_9 wfX5_29 (by decide) rfl ?_
      refine j2_getr (k := 3) (r := 71) x hb dX5_meetingBetween_29 jc_4 wfX5_224 (by decide) rfl ?_
      refine j_iload_n x dX5_meetingBetween_32 rfl ?_
      refine j2_callSi x hb dX5_meetingBetween_33 m_X5_at (CM_v (c_at (d := d) hb fa_71 (by decide)) (jat_nI (show j < 56 by omega) (by decide))) wmX5_93 rfl (Nat.le_of_ble_eq_true rfl) (j_fit_rm (by omega) (by omega) (by omega)) rfl ?_
      refine j_iload_n x dX5_meetingBetween_36 rfl ?_
      refine j_icmp_ne (tgt := 42) x dX5_meetingBetween_37 (by decide) (fun h2 => ?_) (fun h2 => ?_)
      · refine j_iinc x dX5_meetingBetween_42 rfl (by decide) rfl ?_
        refine j_goto (tgt := 2) x dX5_meetingBetween_45 (by decide) ?_
        exact j_goal (ih (jfst_no hP (by rw [show fBet M u v j = 0 from jb_f (fun q => h2 q.2)]; decide))) (wk_c rfl (wk_c rfl (wk_c rfl (wk_c (congrArg (fun z => some (Value.int z)) (nI_1 _)) (wk_0))))) (rfl)
      · refine j_iload_n x dX5_meetingBetween_40 rfl ?_
        exact j_ireturn x hr dX5_meetingBetween_41 (by omega) (by omega) ⟨by rw [jfst_at hP (show fBet M u v j = 1 from jb_t ⟨h1, h2⟩) (by omega) hj], rfl⟩
  refine j_iload_n x dX5_meetingBetween_2 rfl ?_
  refine j_aload_n x dX5_meetingBetween_3 rfl ?_
  refine j2_callVi x hb dX5_meetingBetween_4 m_X5_meetingCount (CM_v (c_meetingCount (d := d) hb) hm) wmX5_258 jc_9 rfl rfl rfl (Nat.le_of_ble_eq_true rfl) (j_fit_rm (by omega) (by omega) (by omega)) rfl ?_
  refine j_icmp_ge (tgt := 48) x dX5_meetingBetween_7 (by decide) (fun hc => ?_) (fun hc => absurd (nI_le (Nat.le_refl _) (by omega)) hc)
  refine j_iconst (v := (-1)) x dX5_meetingBetween_48 (by decide) ?_
  exact j_ireturn x hr dX5_meetingBetween_49 (by omega) (by omega) ⟨by rw [hP], rfl⟩
theorem c_firstNotPlayedNow {d : Nat} {b : SBt} {Y : OUt} {M : MM} (hb : 94 ≤ b.2.1)  {n : Nat} (hn : n ≤ 56) (hm : jmc M = nI n) : CM (d + 2) 0 0 yX5_firstNotPlayedNow cX5_firstNotPlayedNow 2 (some .int) [.ref 0] b Y M (.inl (some (.int (jfst (fNow M) n)))) (M) := by
  refine Con.of (by decide +kernel) (Nat.le_of_ble_eq_true rfl) rfl fun p l e s m args below meth c D tyc A ad0 x hr htab hname => ?_
  change JJ _ _ _ _ _ _ _ _ _ _ _ _ _ _ _ _ _ 0 [some (.ref 0), none] [] _ 0 0
  refine j_iconst (v := 0) x dX5_firstNotPlayedNow_0 (by decide) ?_
  refine j_istore_n x dX5_firstNotPlayedNow_1 (by decide) rfl ?_
  refine j_for (n) (fun z0 => [some (.ref 0), some (.int (nI z0))]) (fun z0 => M) (fun z0 => jfst (fNow M) z0 = -1) (rfl) (rfl) (rfl) (fun j hj hP ih => ?_) (fun hP => ?_)
  · refine j_iload_n x dX5_firstNotPlayedNow_2 rfl ?_
    refine j_aload_n x dX5_firstNotPlayedNow_3 rfl ?_
    refine j2_callVi x hb dX5_firstNotPlayedNow_4 m_X5_meetingCount (CM_v (c_meetingCount (d := d) hb) hm) wmX5_258 jc_9 rfl rfl rfl (Nat.le_of_ble_eq_true rfl) (j_fit_rm (by omega) (by omega) (by omega)) rfl ?_
    refine j_icmp_ge (tgt := 50) x dX5_firstNotPlayedNow_7 (by decide) (fun hc => absurd hc (nI_ge hj (by omega))) (fun hc => ?_)
    refine j_aload_n x dX5_firstNotPlayedNow_10 rfl ?_
    refine j2_getr (k := 0) (r := 1) x hb dX5_firstNotPlayedNow_11 jc_9 wfX5_10 (by decide) rfl ?_
    refine j2_getr (k := 8) (r := 4) x hb dX5_firstNotPlayedNow_14 jc_6 wfX5_163 (by decide) rfl ?_
    refine j_iload_n x dX5_firstNotPlayedNow_17 rfl ?_
    refine j2_callSi x hb dX5_firstNotPlayedNow_18 m_X5_at (CM_v (c_at (d := d) hb fa_4 (by decide)) (jat_nI (show j < 56 by omega) (by decide))) wmX5_93 rfl (Nat.le_of_ble_eq_true rfl) (j_fit_rm (by omega) (by omega) (by omega)) rfl ?_
    refine j_aload_n x dX5_firstNotPlayedNow_21 rfl ?_
    refine j2_getr (k := 0) (r := 1) x hb dX5_firstNotPlayedNow_22 jc_9 wfX5_10 (by decide) rfl ?_
    refine j2_geti (k := 3) x hb dX5_firstNotPlayedNow_25 jc_6 wfX5_160 (by decide) rfl ?_
    refine j_icmp_ne (tgt := 44) x dX5_firstNotPlayedNow_28 (by decide) (fun h1 => ?_) (fun h1 => ?_)
    · refine j_iinc x dX5_firstNotPlayedNow_44 rfl (by decide) rfl ?_
      refine j_goto (tgt := 2) x dX5_firstNotPlayedNow_47 (by decide) ?_
      exact j_goal (ih (jfst_no hP (by rw [show fNow M j = 0 from jb_f (fun q => h1 q.1)]; decide))) (wk_c rfl (wk_c (congrArg (fun z => some (Value.int z)) (nI_1 _)) (wk_0))) (rfl)
    · refine j_aload_n x dX5_firstNotPlayedNow_31 rfl ?_
      refine j2_getr (k := 0) (r := 1) x hb dX5_firstNotPlayedNow_32 jc_9 wfX5_10 (by decide) rfl ?_
      refine j_iload_n x dX5_firstNotPlayedNow_35 rfl ?_
      refine j2_callVi x hb dX5_firstNotPlayedNow_36 m_X2_isPlayed (CM_v (c_isPlayed (d := d) (a := 1) hb rfl) (show _ = jb (¬ M 5 j = -1) by rw [jat_nI (show j < 56 by omega) (by decide)])) wmX5_288 jc_6 rfl rfl rfl (Nat.le_of_ble_eq_true rfl) (j_fit_rm (by omega) (by omega) (by omega)) rfl ?_
      refine j_if_ne (tgt := 44) x dX5_firstNotPlayedNow_39 (by decide) (fun h2 => ?_) (fun h2 => ?_)
      · refine j_iinc x dX5_firstNotPlayedNow_44 rfl (by decide) rfl ?_
        refine j_goto (tgt := 2) x dX5_firstNotPlayedNow_47 (by decide) ?_
        exact j_goal (ih (jfst_no hP (by rw [show fNow M j = 0 from jb_f (fun q => jb_nz.mp h2 q.2)]; decide))) (wk_c rfl (wk_c (congrArg (fun z => some (Value.int z)) (nI_1 _)) (wk_0))) (rfl)
      · refine j_iload_n x dX5_firstNotPlayedNow_42 rfl ?_
        exact j_ireturn x hr dX5_firstNotPlayedNow_43 (by omega) (by omega) ⟨by rw [jfst_at hP (show fNow M j = 1 from jb_t ⟨h1, Decidable.not_not.mp (jb_0.mp h2)⟩) (by omega) hj], rfl⟩
  refine j_iload_n x dX5_firstNotPlayedNow_2 rfl ?_
  refine j_aload_n x dX5_firstNotPlayedNow_3 rfl ?_
  refine j2_callVi x hb dX5_firstNotPlayedNow_4 m_X5_meetingCount (CM_v (c_meetingCount (d := d) hb) hm) wmX5_258 jc_9 rfl rfl rfl (Nat.le_of_ble_eq_true rfl) (j_fit_rm (by omega) (by omega) (by omega)) rfl ?_
  refine j_icmp_ge (tgt := 50) x dX5_firstNotPlayedNow_7 (by decide) (fun hc => ?_) (fun hc => absurd (nI_le (Nat.le_refl _) (by omega)) hc)
  refine j_iconst (v := (-1)) x dX5_firstNotPlayedNow_50 (by decide) ?_
  exact j_ireturn x hr dX5_firstNotPlayedNow_51 (by omega) (by omega) ⟨by rw [hP], rfl⟩
theorem c_notPlayedNow {d : Nat} {b : SBt} {Y : OUt} {M : MM} (hb : 94 ≤ b.2.1)  {n : Nat} (hn : n ≤ 56) (hm : jmc M = nI n) : CM (d + 2) 0 0 yX5_notPlayedNow cX5_notPlayedNow 3 (some .int) [.ref 0] b Y M (.inl (some (.int (jsum (fNow M) n)))) (M) := by
  refine Con.of (by decide +kernel) (Nat.le_of_ble_eq_true rfl) rfl fun p l e s m args below meth c D tyc A ad0 x hr htab hname => ?_
  change JJ _ _ _ _ _ _ _ _ _ _ _ _ _ _ _ _ _ 0 [some (.ref 0), none, none] [] _ 0 0
  refine j_iconst (v := 0) x dX5_notPlayedNow_0 (by decide) ?_
  refine j_istore_n x dX5_notPlayedNow_1 (by decide) rfl ?_
  refine j_iconst (v := 0) x dX5_notPlayedNow_2 (by decide) ?_
  refine j_istore_n x dX5_notPlayedNow_3 (by decide) rfl ?_
  refine j_for (n) (fun z0 => [some (.ref 0), some (.int (jsum (fNow M) z0)), some (.int (nI z0))]) (fun z0 => M) (fun z0 => True) (rfl) (rfl) (trivial) (fun j hj hP ih => ?_) (fun hP => ?_)
  · refine j_iload_n x dX5_notPlayedNow_4 rfl ?_
    refine j_aload_n x dX5_notPlayedNow_5 rfl ?_
    refine j2_callVi x hb dX5_notPlayedNow_6 m_X5_meetingCount (CM_v (c_meetingCount (d := d) hb) hm) wmX5_258 jc_9 rfl rfl rfl (Nat.le_of_ble_eq_true rfl) (j_fit_rm (by omega) (by omega) (by omega)) rfl ?_
    refine j_icmp_ge (tgt := 53) x dX5_notPlayedNow_9 (by decide) (fun hc => absurd hc (nI_ge hj (by omega))) (fun hc => ?_)
    refine j_aload_n x dX5_notPlayedNow_12 rfl ?_
    refine j2_getr (k := 0) (r := 1) x hb dX5_notPlayedNow_13 jc_9 wfX5_10 (by decide) rfl ?_
    refine j2_getr (k := 8) (r := 4) x hb dX5_notPlayedNow_16 jc_6 wfX5_163 (by decide) rfl ?_
    refine j_iload_n x dX5_notPlayedNow_19 rfl ?_
    refine j2_callSi x hb dX5_notPlayedNow_20 m_X5_at (CM_v (c_at (d := d) hb fa_4 (by decide)) (jat_nI (show j < 56 by omega) (by decide))) wmX5_93 rfl (Nat.le_of_ble_eq_true rfl) (j_fit_rm (by omega) (by omega) (by omega)) rfl ?_
    refine j_aload_n x dX5_notPlayedNow_23 rfl ?_
    refine j2_getr (k := 0) (r := 1) x hb dX5_notPlayedNow_24 jc_9 wfX5_10 (by decide) rfl ?_
    refine j2_geti (k := 3) x hb dX5_notPlayedNow_27 jc_6 wfX5_160 (by decide) rfl ?_
    refine j_icmp_ne (tgt := 47) x dX5_notPlayedNow_30 (by decide) (fun h1 => ?_) (fun h1 => ?_)
    · refine j_iinc x dX5_notPlayedNow_47 rfl (by decide) rfl ?_
      refine j_goto (tgt := 4) x dX5_notPlayedNow_50 (by decide) ?_
      exact j_goal (ih (trivial)) (wk_c rfl (wk_c (congrArg (fun z => some (Value.int z)) (jsum_f (jb_f (fun q => h1 q.1)))) (wk_c (congrArg (fun z => some (Value.int z)) (nI_1 _)) (wk_0)))) (rfl)
    · refine j_aload_n x dX5_notPlayedNow_33 rfl ?_
      refine j2_getr (k := 0) (r := 1) x hb dX5_notPlayedNow_34 jc_9 wfX5_10 (by decide) rfl ?_
      refine j_iload_n x dX5_notPlayedNow_37 rfl ?_
      refine j2_callVi x hb dX5_notPlayedNow_38 m_X2_isPlayed (CM_v (c_isPlayed (d := d) (a := 1) hb rfl) (show _ = jb (¬ M 5 j = -1) by rw [jat_nI (show j < 56 by omega) (by decide)])) wmX5_288 jc_6 rfl rfl rfl (Nat.le_of_ble_eq_true rfl) (j_fit_rm (by omega) (by omega) (by omega)) rfl ?_
      refine j_if_ne (tgt := 47) x dX5_notPlayedNow_41 (by decide) (fun h2 => ?_) (fun h2 => ?_)
      · refine j_iinc x dX5_notPlayedNow_47 rfl (by decide) rfl ?_
        refine j_goto (tgt := 4) x dX5_notPlayedNow_50 (by decide) ?_
        exact j_goal (ih (trivial)) (wk_c rfl (wk_c (congrArg (fun z => some (Value.int z)) (jsum_f (jb_f (fun q => jb_nz.mp h2 q.2)))) (wk_c (congrArg (fun z => some (Value.int z)) (nI_1 _)) (wk_0)))) (rfl)
      · refine j_iinc x dX5_notPlayedNow_44 rfl (by decide) rfl ?_
        refine j_iinc x dX5_notPlayedNow_47 rfl (by decide) rfl ?_
        refine j_goto (tgt := 4) x dX5_notPlayedNow_50 (by decide) ?_
        exact j_goal (ih (trivial)) (wk_c rfl (wk_c (congrArg (fun z => some (Value.int z)) (jsum_v (jb_t ⟨h1, Decidable.not_not.mp (jb_0.mp h2)⟩))) (wk_c (congrArg (fun z => some (Value.int z)) (nI_1 _)) (wk_0)))) (rfl)
  refine j_iload_n x dX5_notPlayedNow_4 rfl ?_
  refine j_aload_n x dX5_notPlayedNow_5 rfl ?_
  refine j2_callVi x hb dX5_notPlayedNow_6 m_X5_meetingCount (CM_v (c_meetingCount (d := d) hb) hm) wmX5_258 jc_9 rfl rfl rfl (Nat.le_of_ble_eq_true rfl) (j_fit_rm (by omega) (by omega) (by omega)) rfl ?_
  refine j_icmp_ge (tgt := 53) x dX5_notPlayedNow_9 (by decide) (fun hc => ?_) (fun hc => absurd (nI_le (Nat.le_refl _) (by omega)) hc)
  refine j_iload_n x dX5_notPlayedNow_53 rfl ?_
  exact j_ireturn x hr dX5_notPlayedNow_54 (by omega) (by omega) ⟨rfl, rfl⟩
theorem c_putOffCount {d : Nat} {b : SBt} {Y : OUt} {M : MM} (hb : 94 ≤ b.2.1)  {n : Nat} (hn : n ≤ 56) (hm : jmc M = nI n) : CM (d + 3) 0 0 yX5_putOffCount cX5_putOffCount 3 (some .int) [.ref 0] b Y M (.inl (some (.int (jsum (fPut M) n)))) (M) := by
  refine Con.of (by decide +kernel) (Nat.le_of_ble_eq_true rfl) rfl fun p l e s m args below meth c D tyc A ad0 x hr htab hname => ?_
  change JJ _ _ _ _ _ _ _ _ _ _ _ _ _ _ _ _ _ 0 [some (.ref 0), none, none] [] _ 0 0
  refine j_iconst (v := 0) x dX5_putOffCount_0 (by decide) ?_
  refine j_istore_n x dX5_putOffCount_1 (by decide) rfl ?_
  refine j_iconst (v := 0) x dX5_putOffCount_2 (by decide) ?_
  refine j_istore_n x dX5_putOffCount_3 (by decide) rfl ?_
  refine j_for (n) (fun z0 => [some (.ref 0), some (.int (jsum (fPut M) z0)), some (.int (nI z0))]) (fun z0 => M) (fun z0 => True) (rfl) (rfl) (trivial) (fun j hj hP ih => ?_) (fun hP => ?_)
  · refine j_iload_n x dX5_putOffCount_4 rfl ?_
    refine j_aload_n x dX5_putOffCount_5 rfl ?_
    refine j2_callVi x hb dX5_putOffCount_6 m_X5_meetingCount (CM_v (c_meetingCount (d := d) hb) hm) wmX5_258 jc_9 rfl rfl rfl (Nat.le_of_ble_eq_true rfl) (j_fit_rm (by omega) (by omega) (by omega)) rfl ?_
    refine j_icmp_ge (tgt := 30) x dX5_putOffCount_9 (by decide) (fun hc => absurd hc (nI_ge hj (by omega))) (fun hc => ?_)
    refine j_aload_n x dX5_putOffCount_12 rfl ?_
    refine j_iload_n x dX5_putOffCount_13 rfl ?_
    refine j2_callVi x hb dX5_putOffCount_14 m_X5_kindOf (CM_v (c_kindOf (d := d) hb) (show _ = (if ¬ M 5 j = -1 then (1 : Int32) else if M 4 j = M 72 j then 0 else 2) by rw [jkind, jat_nI (show j < 56 by omega) (by decide), jat_nI (show j < 56 by omega) (by decide), jat_nI (show j < 56 by omega) (by decide)])) wmX5_227 jc_9 rfl rfl rfl (Nat.le_of_ble_eq_true rfl) (j_fit_rm (by omega) (by omega) (by omega)) rfl ?_
    refine j_iconst (v := 2) x dX5_putOffCount_17 (by decide) ?_
    refine j_icmp_ne (tgt := 24) x dX5_putOffCount_18 (by decide) (fun h1 => ?_) (fun h1 => ?_)
    · refine j_iinc x dX5_putOffCount_24 rfl (by decide) rfl ?_
      refine j_goto (tgt := 4) x dX5_putOffCount_27 (by decide) ?_
      exact j_goal (ih (trivial)) (wk_c rfl (wk_c (congrArg (fun z => some (Value.int z)) (jsum_f (jb_f (fun q => h1 (by rw [if_neg (fun z => z q.1), if_neg q.2]))))) (wk_c (congrArg (fun z => some (Value.int z)) (nI_1 _)) (wk_0)))) (rfl)
    · refine j_iinc x dX5_putOffCount_21 rfl (by decide) rfl ?_
      refine j_iinc x dX5_putOffCount_24 rfl (by decide) rfl ?_
      refine j_goto (tgt := 4) x dX5_putOffCount_27 (by decide) ?_
      exact j_goal (ih (trivial)) (wk_c rfl (wk_c (congrArg (fun z => some (Value.int z)) (jsum_v (jb_t (by by_cases q1 : M 5 j = -1; by_cases q2 : M 4 j = M 72 j; rw [if_neg (fun z => z q1), if_pos q2] at h1; exact absurd h1 (by decide); exact ⟨q1, q2⟩; rw [if_pos q1] at h1; exact absurd h1 (by decide))))) (wk_c (congrArg (fun z => some (Value.int z)) (nI_1 _)) (wk_0)))) (rfl)
  refine j_iload_n x dX5_putOffCount_4 rfl ?_
  refine j_aload_n x dX5_putOffCount_5 rfl ?_
  refine j2_callVi x hb dX5_putOffCount_6 m_X5_meetingCount (CM_v (c_meetingCount (d := d) hb) hm) wmX5_258 jc_9 rfl rfl rfl (Nat.le_of_ble_eq_true rfl) (j_fit_rm (by omega) (by omega) (by omega)) rfl ?_
  refine j_icmp_ge (tgt := 30) x dX5_putOffCount_9 (by decide) (fun hc => ?_) (fun hc => absurd (nI_le (Nat.le_refl _) (by omega)) hc)
  refine j_iload_n x dX5_putOffCount_30 rfl ?_
  exact j_ireturn x hr dX5_putOffCount_31 (by omega) (by omega) ⟨rfl, rfl⟩
theorem c_groundOf {d : Nat} {b : SBt} {Y : OUt} {M : MM} (hb : 94 ≤ b.2.1) {t : Int32} : CM (d + 1) 0 0 yX5_groundOf cX5_groundOf 2 (some .int) [.ref 0, .int t] b Y M (.inl (some (.int (jgr M t)))) (M) := by
  refine Con.of (by decide +kernel) (Nat.le_of_ble_eq_true rfl) rfl fun p l e s m args below meth c D tyc A ad0 x hr htab hname => ?_
  change JJ _ _ _ _ _ _ _ _ _ _ _ _ _ _ _ _ _ 0 [some (.ref 0), some (.int t)] [] _ 0 0
  refine j_aload_n x dX5_groundOf_0 rfl ?_
  refine j2_getr (k := 0) (r := 1) x hb dX5_groundOf_1 jc_9 wfX5_10 (by decide) rfl ?_
  refine j2_getr (k := 1) (r := 2) x hb dX5_groundOf_4 jc_6 wfX5_77 (by decide) rfl ?_
  refine j_aload_n x dX5_groundOf_7 rfl ?_
  refine j2_getr (k := 4) (r := 69) x hb dX5_groundOf_8 jc_9 wfX5_29 (by decide) rfl ?_
  refine j2_getr (k := 2) (r := 70) x hb dX5_groundOf_11 jc_4 wfX5_221 (by decide) rfl ?_
  refine j_iload_n x dX5_groundOf_14 rfl ?_
  refine j2_callSi x hb dX5_groundOf_15 m_X5_at (c_at (d := d) hb fa_70 (by decide)) wmX5_93 rfl (Nat.le_of_ble_eq_true rfl) (j_fit_rm (by omega) (by omega) (by omega)) rfl ?_
  refine j2_callSi x hb dX5_groundOf_18 m_X5_at (c_at (d := d) hb fa_2 (by decide)) wmX5_93 rfl (Nat.le_of_ble_eq_true rfl) (j_fit_rm (by omega) (by omega) (by omega)) rfl ?_
  exact j_ireturn x hr dX5_groundOf_21 (by omega) (by omega) ⟨rfl, rfl⟩
theorem c_clashesOf {d : Nat} {b : SBt} {Y : OUt} {M : MM} (hb : 94 ≤ b.2.1) {t w : Int32} {n : Nat} (hn : n ≤ 56) (hm : jmc M = nI n) : CM (d + 2) 0 0 yX5_clashesOf cX5_clashesOf 5 (some .int) [.ref 0, .int t, .int w] b Y M (.inl (some (.int (jsum (fCl M t w) n)))) (M) := by
  refine Con.of (by decide +kernel) (Nat.le_of_ble_eq_true rfl) rfl fun p l e s m args below meth c D tyc A ad0 x hr htab hname => ?_
  change JJ _ _ _ _ _ _ _ _ _ _ _ _ _ _ _ _ _ 0 [some (.ref 0), some (.int t), some (.int w), none, none] [] _ 0 0
  refine j_iconst (v := 0) x dX5_clashesOf_0 (by decide) ?_
  refine j_istore_n x dX5_clashesOf_1 (by decide) rfl ?_
  refine j_iconst (v := 0) x dX5_clashesOf_2 (by decide) ?_
  refine j_istore x dX5_clashesOf_3 (by decide) rfl ?_
  refine j_for (n) (fun z0 => [some (.ref 0), some (.int t), some (.int w), some (.int (jsum (fCl M t w) z0)), some (.int (nI z0))]) (fun z0 => M) (fun z0 => True) (rfl) (rfl) (trivial) (fun j hj hP ih => ?_) (fun hP => ?_)
  · refine j_iload x dX5_clashesOf_5 rfl ?_
    refine j_aload_n x dX5_clashesOf_7 rfl ?_
    refine j2_callVi x hb dX5_clashesOf_8 m_X5_meetingCount (CM_v (c_meetingCount (d := d) hb) hm) wmX5_258 jc_9 rfl rfl rfl (Nat.le_of_ble_eq_true rfl) (j_fit_rm (by omega) (by omega) (by omega)) rfl ?_
    refine j_icmp_ge (tgt := 59) x dX5_clashesOf_11 (by decide) (fun hc => absurd hc (nI_ge hj (by omega))) (fun hc => ?_)
    refine j_iload x dX5_clashesOf_14 rfl ?_
    refine j_iload_n x dX5_clashesOf_16 rfl ?_
    refine j_icmp_eq (tgt := 53) x dX5_clashesOf_17 (by decide) (fun h1 => ?_) (fun h1 => ?_)
    · refine j_iinc x dX5_clashesOf_53 rfl (by decide) rfl ?_
      refine j_goto (tgt := 5) x dX5_clashesOf_56 (by decide) ?_
      exact j_goal (ih (trivial)) (wk_c rfl (wk_c rfl (wk_c rfl (wk_c (congrArg (fun z => some (Value.int z)) (jsum_f (jb_f (fun q => q.1 h1)))) (wk_c (congrArg (fun z => some (Value.int z)) (nI_1 _)) (wk_0)))))) (rfl)
    · refine j_aload_n x dX5_clashesOf_20 rfl ?_
      refine j2_getr (k := 0) (r := 1) x hb dX5_clashesOf_21 jc_9 wfX5_10 (by decide) rfl ?_
      refine j2_getr (k := 8) (r := 4) x hb dX5_clashesOf_24 jc_6 wfX5_163 (by decide) rfl ?_
      refine j_iload x dX5_clashesOf_27 rfl ?_
      refine j2_callSi x hb dX5_clashesOf_29 m_X5_at (CM_v (c_at (d := d) hb fa_4 (by decide)) (jat_nI (show j < 56 by omega) (by decide))) wmX5_93 rfl (Nat.le_of_ble_eq_true rfl) (j_fit_rm (by omega) (by omega) (by omega)) rfl ?_
      refine j_iload_n x dX5_clashesOf_32 rfl ?_
      refine j_icmp_ne (tgt := 53) x dX5_clashesOf_33 (by decide) (fun h2 => ?_) (fun h2 => ?_)
      · refine j_iinc x dX5_clashesOf_53 rfl (by decide) rfl ?_
        refine j_goto (tgt := 5) x dX5_clashesOf_56 (by decide) ?_
        exact j_goal (ih (trivial)) (wk_c rfl (wk_c rfl (wk_c rfl (wk_c (congrArg (fun z => some (Value.int z)) (jsum_f (jb_f (fun q => h2 q.2.1)))) (wk_c (congrArg (fun z => some (Value.int z)) (nI_1 _)) (wk_0)))))) (rfl)
      · refine j_aload_n x dX5_clashesOf_36 rfl ?_
        refine j_iload x dX5_clashesOf_37 rfl ?_
        refine j2_callVi x hb dX5_clashesOf_39 m_X5_groundOf (c_groundOf (d := d) hb) wmX5_463 jc_9 rfl rfl rfl (Nat.le_of_ble_eq_true rfl) (j_fit_rm (by omega) (by omega) (by omega)) rfl ?_
        refine j_aload_n x dX5_clashesOf_42 rfl ?_
        refine j_iload_n x dX5_clashesOf_43 rfl ?_
        refine j2_callVi x hb dX5_clashesOf_44 m_X5_groundOf (c_groundOf (d := d) hb) wmX5_463 jc_9 rfl rfl rfl (Nat.le_of_ble_eq_true rfl) (j_fit_rm (by omega) (by omega) (by omega)) rfl ?_
        refine j_icmp_ne (tgt := 53) x dX5_clashesOf_47 (by decide) (fun h3 => ?_) (fun h3 => ?_)
        · refine j_iinc x dX5_clashesOf_53 rfl (by decide) rfl ?_
          refine j_goto (tgt := 5) x dX5_clashesOf_56 (by decide) ?_
          exact j_goal (ih (trivial)) (wk_c rfl (wk_c rfl (wk_c rfl (wk_c (congrArg (fun z => some (Value.int z)) (jsum_f (jb_f (fun q => h3 q.2.2)))) (wk_c (congrArg (fun z => some (Value.int z)) (nI_1 _)) (wk_0)))))) (rfl)
        · refine j_iinc x dX5_clashesOf_50 rfl (by decide) rfl ?_
          refine j_iinc x dX5_clashesOf_53 rfl (by decide) rfl ?_
          refine j_goto (tgt := 5) x dX5_clashesOf_56 (by decide) ?_
          exact j_goal (ih (trivial)) (wk_c rfl (wk_c rfl (wk_c rfl (wk_c (congrArg (fun z => some (Value.int z)) (jsum_v (jb_t ⟨h1, h2, h3⟩))) (wk_c (congrArg (fun z => some (Value.int z)) (nI_1 _)) (wk_0)))))) (rfl)
  refine j_iload x dX5_clashesOf_5 rfl ?_
  refine j_aload_n x dX5_clashesOf_7 rfl ?_
  refine j2_callVi x hb dX5_clashesOf_8 m_X5_meetingCount (CM_v (c_meetingCount (d := d) hb) hm) wmX5_258 jc_9 rfl rfl rfl (Nat.le_of_ble_eq_true rfl) (j_fit_rm (by omega) (by omega) (by omega)) rfl ?_
  refine j_icmp_ge (tgt := 59) x dX5_clashesOf_11 (by decide) (fun hc => ?_) (fun hc => absurd (nI_le (Nat.le_refl _) (by omega)) hc)
  refine j_iload_n x dX5_clashesOf_59 rfl ?_
  exact j_ireturn x hr dX5_clashesOf_60 (by omega) (by omega) ⟨rfl, rfl⟩
theorem c_clashingPairs {d : Nat} {b : SBt} {Y : OUt} {M : MM} (hb : 94 ≤ b.2.1) {w : Int32} {n : Nat} (hn : n ≤ 56) (hm : jmc M = nI n) : CM (d + 3) 0 0 yX5_clashingPairs cX5_clashingPairs 4 (some .int) [.ref 0, .int w] b Y M (.inl (some (.int (jpairs M n w)))) (M) := by
  refine Con.of (by decide +kernel) (Nat.le_of_ble_eq_true rfl) rfl fun p l e s m args below meth c D tyc A ad0 x hr htab hname => ?_
  change JJ _ _ _ _ _ _ _ _ _ _ _ _ _ _ _ _ _ 0 [some (.ref 0), some (.int w), none, none] [] _ 0 0
  refine j_iconst (v := 0) x dX5_clashingPairs_0 (by decide) ?_
  refine j_istore_n x dX5_clashingPairs_1 (by decide) rfl ?_
  refine j_iconst (v := 0) x dX5_clashingPairs_2 (by decide) ?_
  refine j_istore_n x dX5_clashingPairs_3 (by decide) rfl ?_
  refine j_for (n) (fun z0 => [some (.ref 0), some (.int w), some (.int (jsum (fPair M n w) z0)), some (.int (nI z0))]) (fun z0 => M) (fun z0 => True) (rfl) (rfl) (trivial) (fun j hj hP ih => ?_) (fun hP => ?_)
  · refine j_iload_n x dX5_clashingPairs_4 rfl ?_
    refine j_aload_n x dX5_clashingPairs_5 rfl ?_
    refine j2_callVi x hb dX5_clashingPairs_6 m_X5_meetingCount (CM_v (c_meetingCount (d := d) hb) hm) wmX5_258 jc_9 rfl rfl rfl (Nat.le_of_ble_eq_true rfl) (j_fit_rm (by omega) (by omega) (by omega)) rfl ?_
    refine j_icmp_ge (tgt := 42) x dX5_clashingPairs_9 (by decide) (fun hc => absurd hc (nI_ge hj (by omega))) (fun hc => ?_)
    refine j_aload_n x dX5_clashingPairs_12 rfl ?_
    refine j2_getr (k := 0) (r := 1) x hb dX5_clashingPairs_13 jc_9 wfX5_10 (by decide) rfl ?_
    refine j2_getr (k := 8) (r := 4) x hb dX5_clashingPairs_16 jc_6 wfX5_163 (by decide) rfl ?_
    refine j_iload_n x dX5_clashingPairs_19 rfl ?_
    refine j2_callSi x hb dX5_clashingPairs_20 m_X5_at (CM_v (c_at (d := d) hb fa_4 (by decide)) (jat_nI (show j < 56 by omega) (by decide))) wmX5_93 rfl (Nat.le_of_ble_eq_true rfl) (j_fit_rm (by omega) (by omega) (by omega)) rfl ?_
    refine j_iload_n x dX5_clashingPairs_23 rfl ?_
    refine j_icmp_ne (tgt := 36) x dX5_clashingPairs_24 (by decide) (fun h1 => ?_) (fun h1 => ?_)
    · refine j_iinc x dX5_clashingPairs_36 rfl (by decide) rfl ?_
      refine j_goto (tgt := 4) x dX5_clashingPairs_39 (by decide) ?_
      exact j_goal (ih (trivial)) (wk_c rfl (wk_c rfl (wk_c (congrArg (fun z => some (Value.int z)) (jsum_f (if_neg h1))) (wk_c (congrArg (fun z => some (Value.int z)) (nI_1 _)) (wk_0))))) (rfl)
    · refine j_iload_n x dX5_clashingPairs_27 rfl ?_
      refine j_aload_n x dX5_clashingPairs_28 rfl ?_
      refine j_iload_n x dX5_clashingPairs_29 rfl ?_
      refine j_iload_n x dX5_clashingPairs_30 rfl ?_
      refine j2_callVi x hb dX5_clashingPairs_31 m_X5_clashesOf (c_clashesOf (d := d) hb hn hm) wmX5_165 jc_9 rfl rfl rfl (Nat.le_of_ble_eq_true rfl) (j_fit_rm (by omega) (by omega) (by omega)) rfl ?_
      refine j_iadd x dX5_clashingPairs_34 ?_
      refine j_istore_n x dX5_clashingPairs_35 (by decide) rfl ?_
      refine j_iinc x dX5_clashingPairs_36 rfl (by decide) rfl ?_
      refine j_goto (tgt := 4) x dX5_clashingPairs_39 (by decide) ?_
      exact j_goal (ih (trivial)) (wk_c rfl (wk_c rfl (wk_c (congrArg (fun z => some (Value.int z)) (jsum_v (if_pos h1))) (wk_c (congrArg (fun z => some (Value.int z)) (nI_1 _)) (wk_0))))) (rfl)
  refine j_iload_n x dX5_clashingPairs_4 rfl ?_
  refine j_aload_n x dX5_clashingPairs_5 rfl ?_
  refine j2_callVi x hb dX5_clashingPairs_6 m_X5_meetingCount (CM_v (c_meetingCount (d := d) hb) hm) wmX5_258 jc_9 rfl rfl rfl (Nat.le_of_ble_eq_true rfl) (j_fit_rm (by omega) (by omega) (by omega)) rfl ?_
  refine j_icmp_ge (tgt := 42) x dX5_clashingPairs_9 (by decide) (fun hc => ?_) (fun hc => absurd (nI_le (Nat.le_refl _) (by omega)) hc)
  refine j_iload_n x dX5_clashingPairs_42 rfl ?_
  refine j_iconst (v := 2) x dX5_clashingPairs_43 (by decide) ?_
  refine j_idiv x dX5_clashingPairs_44 (by decide) ?_
  exact j_ireturn x hr dX5_clashingPairs_45 (by omega) (by omega) ⟨rfl, rfl⟩
theorem c_allClashes {d : Nat} {b : SBt} {Y : OUt} {M : MM} (hb : 94 ≤ b.2.1)  {n z : Nat} (hn : n ≤ 56) (hm : jmc M = nI n) (hz : z ≤ 14) (hw : jwc M = nI z) : CM (d + 4) 0 0 yX5_allClashes cX5_allClashes 3 (some .int) [.ref 0] b Y M (.inl (some (.int (jsum (fun w => jpairs M n (nI w)) z)))) (M) := by
  refine Con.of (by decide +kernel) (Nat.le_of_ble_eq_true rfl) rfl fun p l e s m args below meth c D tyc A ad0 x hr htab hname => ?_
  change JJ _ _ _ _ _ _ _ _ _ _ _ _ _ _ _ _ _ 0 [some (.ref 0), none, none] [] _ 0 0
  refine j_iconst (v := 0) x dX5_allClashes_0 (by decide) ?_
  refine j_istore_n x dX5_allClashes_1 (by decide) rfl ?_
  refine j_iconst (v := 0) x dX5_allClashes_2 (by decide) ?_
  refine j_istore_n x dX5_allClashes_3 (by decide) rfl ?_
  refine j_for (z) (fun z0 => [some (.ref 0), some (.int (jsum (fun w => jpairs M n (nI w)) z0)), some (.int (nI z0))]) (fun z0 => M) (fun z0 => True) (rfl) (rfl) (trivial) (fun j hj hP ih => ?_) (fun hP => ?_)
  · refine j_iload_n x dX5_allClashes_4 rfl ?_
    refine j_aload_n x dX5_allClashes_5 rfl ?_
    refine j2_callVi x hb dX5_allClashes_6 m_X5_weekCount (CM_v (c_weekCount (d := d) hb) hw) wmX5_392 jc_9 rfl rfl rfl (Nat.le_of_ble_eq_true rfl) (j_fit_rm (by omega) (by omega) (by omega)) rfl ?_
    refine j_icmp_ge (tgt := 26) x dX5_allClashes_9 (by decide) (fun hc => absurd hc (nI_ge hj (by omega))) (fun hc => ?_)
    refine j_iload_n x dX5_allClashes_12 rfl ?_
    refine j_aload_n x dX5_allClashes_13 rfl ?_
    refine j_iload_n x dX5_allClashes_14 rfl ?_
    refine j2_callVi x hb dX5_allClashes_15 m_X5_clashingPairs (c_clashingPairs (d := d) hb hn hm) wmX5_261 jc_9 rfl rfl rfl (Nat.le_of_ble_eq_true rfl) (j_fit_rm (by omega) (by omega) (by omega)) rfl ?_
    refine j_iadd x dX5_allClashes_18 ?_
    refine j_istore_n x dX5_allClashes_19 (by decide) rfl ?_
    refine j_iinc x dX5_allClashes_20 rfl (by decide) rfl ?_
    refine j_goto (tgt := 4) x dX5_allClashes_23 (by decide) ?_
    exact j_goal (ih (trivial)) (wk_c rfl (wk_c (congrArg (fun z => some (Value.int z)) (jsum_v rfl)) (wk_c (congrArg (fun z => some (Value.int z)) (nI_1 _)) (wk_0)))) (rfl)
  refine j_iload_n x dX5_allClashes_4 rfl ?_
  refine j_aload_n x dX5_allClashes_5 rfl ?_
  refine j2_callVi x hb dX5_allClashes_6 m_X5_weekCount (CM_v (c_weekCount (d := d) hb) hw) wmX5_392 jc_9 rfl rfl rfl (Nat.le_of_ble_eq_true rfl) (j_fit_rm (by omega) (by omega) (by omega)) rfl ?_
  refine j_icmp_ge (tgt := 26) x dX5_allClashes_9 (by decide) (fun hc => ?_) (fun hc => absurd (nI_le (Nat.le_refl _) (by omega)) hc)
  refine j_iload_n x dX5_allClashes_26 rfl ?_
  exact j_ireturn x hr dX5_allClashes_27 (by omega) (by omega) ⟨rfl, rfl⟩
