/-! ===== a drawn league: goals, the start, the fixtures ===== -/
theorem c_areGoals {d : Nat} {b : SBt} {Y : OUt} {M : MM} (hb : 94 ≤ b.2.1) {t : Int32} : CM (d) 0 0 yX5_areGoals cX5_areGoals 1 (some .boolean) [.int t] b Y M (.inl (some (.int (jb (¬ t < 0 ∧ ¬ 20 < t))))) (M) := by
  refine Con.of (by decide +kernel) (Nat.le_of_ble_eq_true rfl) rfl fun p l e s m args below meth c D tyc A ad0 x hr htab hname => ?_
  change JJ _ _ _ _ _ _ _ _ _ _ _ _ _ _ _ _ _ 0 [some (.int t)] [] _ 0 0
  refine j_iload_n x dX5_areGoals_0 rfl ?_
  refine j_if_lt (tgt := 14) x dX5_areGoals_1 (by decide) (fun h1 => ?_) (fun h1 => ?_)
  · refine j_iconst (v := 0) x dX5_areGoals_14 (by decide) ?_
    exact j_zreturn x hr dX5_areGoals_15 (by first | decide | exact jisS_nar | exact jb_nar) (by omega) (by omega) ⟨by rw [jb_f (fun q => q.1 h1)], rfl⟩
  · refine j_iload_n x dX5_areGoals_4 rfl ?_
    refine j_bipush (v := 20) x dX5_areGoals_5 (by decide) ?_
    refine j_icmp_gt (tgt := 14) x dX5_areGoals_7 (by decide) (fun h2 => ?_) (fun h2 => ?_)
    · refine j_iconst (v := 0) x dX5_areGoals_14 (by decide) ?_
      exact j_zreturn x hr dX5_areGoals_15 (by first | decide | exact jisS_nar | exact jb_nar) (by omega) (by omega) ⟨by rw [jb_f (fun q => q.2 h2)], rfl⟩
    · refine j_iconst (v := 1) x dX5_areGoals_10 (by decide) ?_
      refine j_goto (tgt := 15) x dX5_areGoals_11 (by decide) ?_
      exact j_zreturn x hr dX5_areGoals_15 (by first | decide | exact jisS_nar | exact jb_nar) (by omega) (by omega) ⟨by rw [jb_t ⟨h1, h2⟩], rfl⟩
theorem c_isPlayed {d : Nat} {b : SBt} {Y : OUt} {M : MM} (hb : 94 ≤ b.2.1) {a : Nat} {t : Int32} (ha : isLg a = true) : CM (d + 1) 0 0 yX2_isPlayed cX2_isPlayed 2 (some .boolean) [.ref a, .int t] b Y M (.inl (some (.int (jb (¬ jat 56 (M (a + 4)) t = -1))))) (M) := by
  refine Con.of (by decide +kernel) (Nat.le_of_ble_eq_true rfl) rfl fun p l e s m args below meth c D tyc A ad0 x hr htab hname => ?_
  change JJ _ _ _ _ _ _ _ _ _ _ _ _ _ _ _ _ _ 0 [some (.ref a), some (.int t)] [] _ 0 0
  refine j_aload_n x dX2_isPlayed_0 rfl ?_
  refine j2_getr (k := 9) (r := a + 4) x hb dX2_isPlayed_1 jc_6 wfX2_31 (by decide) (lg9 ha) ?_
  refine j_iload_n x dX2_isPlayed_4 rfl ?_
  refine j2_callSNi x hb dX2_isPlayed_5 m_X5_at (c_at (d := d) hb (lgA4 ha) (by decide)) wnX2_68 rfl (Nat.le_of_ble_eq_true rfl) (j_fit_rm (by omega) (by omega) (by omega)) rfl ?_
  refine j_iconst (v := (-1)) x dX2_isPlayed_8 (by decide) ?_
  refine j_b_icmp_eq (T := 16) (E := 17) x dX2_isPlayed_9 (by decide) dX2_isPlayed_12 dX2_isPlayed_13 (by decide) dX2_isPlayed_16 (by decide) ?_
  exact j_zreturn x hr dX2_isPlayed_17 (by first | decide | exact jisS_nar | exact jb_nar) (by omega) (by omega) ⟨rfl, rfl⟩
def jsetg (M : MM) (a : Nat) (t u v : Int32) : MM := jput 56 (jput 56 M (a + 4) t u) (a + 5) t v
theorem c_setGoals {d : Nat} {b : SBt} {Y : OUt} {M : MM} (hb : 94 ≤ b.2.1) {a : Nat} {t u v : Int32} (ha : isLg a = true) : CM (d + 1) 0 0 yX2_setGoals cX2_setGoals 4 none [.ref a, .int t, .int u, .int v] b Y M (.inl none) (jsetg M a t u v) := by
  refine Con.of (by decide +kernel) (Nat.le_of_ble_eq_true rfl) rfl fun p l e s m args below meth c D tyc A ad0 x hr htab hname => ?_
  change JJ _ _ _ _ _ _ _ _ _ _ _ _ _ _ _ _ _ 0 [some (.ref a), some (.int t), some (.int u), some (.int v)] [] _ 0 0
  refine j_aload_n x dX2_setGoals_0 rfl ?_
  refine j2_getr (k := 9) (r := a + 4) x hb dX2_setGoals_1 jc_6 wfX2_31 (by decide) (lg9 ha) ?_
  refine j_iload_n x dX2_setGoals_4 rfl ?_
  refine j_iload_n x dX2_setGoals_5 rfl ?_
  refine j2_callSNv x hb dX2_setGoals_6 m_X5_put (c_put (d := d) hb (lgA4 ha) (by decide)) wnX2_64 rfl (Nat.le_of_ble_eq_true rfl) (j_fit_rm (by omega) (by omega) (by omega)) rfl ?_
  refine j_aload_n x dX2_setGoals_9 rfl ?_
  refine j2_getr (k := 10) (r := a + 5) x hb dX2_setGoals_10 jc_6 wfX2_34 (by decide) (lg10 ha) ?_
  refine j_iload_n x dX2_setGoals_13 rfl ?_
  refine j_iload_n x dX2_setGoals_14 rfl ?_
  refine j2_callSNv x hb dX2_setGoals_15 m_X5_put (c_put (d := d) hb (lgA5 ha) (by decide)) wnX2_64 rfl (Nat.le_of_ble_eq_true rfl) (j_fit_rm (by omega) (by omega) (by omega)) rfl ?_
  exact j_return x hr dX2_setGoals_18 (by omega) (by omega) ⟨rfl, rfl⟩
def jstart (M : MM) (a : Nat) : MM := jfill (jfill (jrow (jm (jm M a 2 1) a 3 0) 72 (a + 3) 56) (a + 4) 56 (-1)) (a + 5) 56 (-1)
theorem c_start {d : Nat} {b : SBt} {Y : OUt} {M : MM} (hb : 94 ≤ b.2.1) {a : Nat} (ha : isLg a = true) : CM (d + 1) 0 0 yX2_start cX2_start 2 none [.ref a, .ref 69] b Y M (.inl none) (jstart M a) := by
  refine Con.of (by decide +kernel) (Nat.le_of_ble_eq_true rfl) rfl fun p l e s m args below meth c D tyc A ad0 x hr htab hname => ?_
  change JJ _ _ _ _ _ _ _ _ _ _ _ _ _ _ _ _ _ 0 [some (.ref a), some (.ref 69)] [] _ 0 0
  refine j_aload_n x dX2_start_0 rfl ?_
  refine j_iconst (v := 1) x dX2_start_1 (by decide) ?_
  refine j2_puti (k := 2) x hb dX2_start_2 jc_6 wfX2_44 (by decide) rfl rfl rfl (lg2 ha) ?_
  refine j_aload_n x dX2_start_5 rfl ?_
  refine j_iconst (v := 0) x dX2_start_6 (by decide) ?_
  refine j2_puti (k := 3) x hb dX2_start_7 jc_6 wfX2_48 (by decide) rfl rfl rfl (lg3 ha) ?_
  refine j_aload_n x dX2_start_10 rfl ?_
  refine j2_getr (k := 4) (r := 72) x hb dX2_start_11 jc_4 wfX2_51 (by decide) rfl ?_
  refine j_aload_n x dX2_start_14 rfl ?_
  refine j2_getr (k := 8) (r := a + 3) x hb dX2_start_15 jc_6 wfX2_28 (by decide) (lg8 ha) ?_
  refine j2_callSNv x hb dX2_start_18 m_X5_copyRow (c_copyRow (d := d) hb fa_72 (lgA3 ha) (by decide)) wnX2_40 rfl (Nat.le_of_ble_eq_true rfl) (j_fit_rm (by omega) (by omega) (by omega)) rfl ?_
  refine j_aload_n x dX2_start_21 rfl ?_
  refine j2_getr (k := 9) (r := a + 4) x hb dX2_start_22 jc_6 wfX2_31 (by decide) (lg9 ha) ?_
  refine j_iconst (v := (-1)) x dX2_start_25 (by decide) ?_
  refine j2_callSNv x hb dX2_start_26 m_X5_fillRow (c_fillRow (d := d) hb (lgA4 ha) (by decide)) wnX2_56 rfl (Nat.le_of_ble_eq_true rfl) (j_fit_rm (by omega) (by omega) (by omega)) rfl ?_
  refine j_aload_n x dX2_start_29 rfl ?_
  refine j2_getr (k := 10) (r := a + 5) x hb dX2_start_30 jc_6 wfX2_34 (by decide) (lg10 ha) ?_
  refine j_iconst (v := (-1)) x dX2_start_33 (by decide) ?_
  refine j2_callSNv x hb dX2_start_34 m_X5_fillRow (c_fillRow (d := d) hb (lgA5 ha) (by decide)) wnX2_56 rfl (Nat.le_of_ble_eq_true rfl) (j_fit_rm (by omega) (by omega) (by omega)) rfl ?_
  exact j_return x hr dX2_start_37 (by omega) (by omega) ⟨rfl, rfl⟩
def jhost (M : MM) (u v z : Int32) : MM := if z = 0 then jput 8 M 74 v u else jput 8 M 74 u v
theorem c_host {d : Nat} {b : SBt} {Y : OUt} {M : MM} (hb : 94 ≤ b.2.1) {u v z : Int32} : CM (d + 1) 0 0 yX0_host cX0_host 4 none [.ref 69, .int u, .int v, .int z] b Y M (.inl none) (jhost M u v z) := by
  refine Con.of (by decide +kernel) (Nat.le_of_ble_eq_true rfl) rfl fun p l e s m args below meth c D tyc A ad0 x hr htab hname => ?_
  change JJ _ _ _ _ _ _ _ _ _ _ _ _ _ _ _ _ _ 0 [some (.ref 69), some (.int u), some (.int v), some (.int z)] [] _ 0 0
  refine j_aload_n x dX0_host_0 rfl ?_
  refine j2_getr (k := 6) (r := 74) x hb dX0_host_1 jc_4 wfX0_24 (by decide) rfl ?_
  refine j_iload_n x dX0_host_4 rfl ?_
  refine j_if_eq (tgt := 12) x dX0_host_5 (by decide) (fun h1 => ?_) (fun h1 => ?_)
  · refine j_iload_n x dX0_host_12 rfl ?_
    refine j_iload_n x dX0_host_13 rfl ?_
    refine j_if_eq (tgt := 21) x dX0_host_14 (by decide) (fun hc => ?_) (fun hc => absurd (h1) hc)
    refine j_iload_n x dX0_host_21 rfl ?_
    refine j2_callSNv x hb dX0_host_22 m_X5_put (c_put (d := d) hb fa_74 (by decide)) wnX0_42 rfl (Nat.le_of_ble_eq_true rfl) (j_fit_rm (by omega) (by omega) (by omega)) rfl ?_
    exact j_return x hr dX0_host_25 (by omega) (by omega) ⟨rfl, by rw [jhost, if_pos h1]⟩
  · refine j_iload_n x dX0_host_8 rfl ?_
    refine j_goto (tgt := 13) x dX0_host_9 (by decide) ?_
    refine j_iload_n x dX0_host_13 rfl ?_
    refine j_if_eq (tgt := 21) x dX0_host_14 (by decide) (fun hc => absurd hc (h1)) (fun hc => ?_)
    refine j_iload_n x dX0_host_17 rfl ?_
    refine j_goto (tgt := 22) x dX0_host_18 (by decide) ?_
    refine j2_callSNv x hb dX0_host_22 m_X5_put (c_put (d := d) hb fa_74 (by decide)) wnX0_42 rfl (Nat.le_of_ble_eq_true rfl) (j_fit_rm (by omega) (by omega) (by omega)) rfl ?_
    exact j_return x hr dX0_host_25 (by omega) (by omega) ⟨rfl, by rw [jhost, if_neg h1]⟩
def jpl (r q : Nat) (z : Int32) (M : MM) : Nat → MM
  | 0 => jhost M (nI r) (nI q) (jb (¬ jb (nI (r % 2) = 0) = z))
  | k + 1 => jhost (jpl r q z M k) (nI ((r + (k + 1)) % q)) (nI ((r + q - (k + 1)) % q)) (jb (¬ jb (nI ((k + 1) % 2) = 0) = z))
theorem c_pairPlaces {d : Nat} {b : SBt} {Y : OUt} {M : MM} (hb : 94 ≤ b.2.1) {r q : Nat} {z : Int32} (hr : r < 1000) (hq0 : 1 ≤ q) (hq : q < 1000) : CM (d + 2) 0 0 yX0_pairPlaces cX0_pairPlaces 7 none [.ref 69, .int (nI r), .int (nI q), .int z] b Y M (.inl none) (jpl r q z M (q / 2)) := by
  refine Con.of (by decide +kernel) (Nat.le_of_ble_eq_true rfl) rfl fun p l e s m args below meth c D tyc A ad0 x hr htab hname => ?_
  change JJ _ _ _ _ _ _ _ _ _ _ _ _ _ _ _ _ _ 0 [some (.ref 69), some (.int (nI r)), some (.int (nI q)), some (.int z), none, none, none] [] _ 0 0
  refine j_iload_n x dX0_pairPlaces_0 rfl ?_
  refine j_iconst (v := 1) x dX0_pairPlaces_1 (by decide) ?_
  refine j_icmp_ge (tgt := 6) x dX0_pairPlaces_2 (by decide) (fun hc => ?_) (fun hc => absurd (show (1 : Int32) ≤ nI q from nI_le (a := 1) hq0 (by omega)) hc)
  refine j_aload_n x dX0_pairPlaces_6 rfl ?_
  refine j_iload_n x dX0_pairPlaces_7 rfl ?_
  refine j_iload_n x dX0_pairPlaces_8 rfl ?_
  refine j_iload_n x dX0_pairPlaces_9 rfl ?_
  refine j_iconst (v := 2) x dX0_pairPlaces_10 (by decide) ?_
  refine j_irem x dX0_pairPlaces_11 (by decide) ?_; rw [show (nI (r) - nI (r) / 2 * 2 : Int32) = nI ((r) % 2) from nI_rem (d := 2) (by omega) (by decide) (by decide)]
  refine j_b_if_ne (T := 19) (E := 20) x dX0_pairPlaces_12 (by decide) dX0_pairPlaces_15 dX0_pairPlaces_16 (by decide) dX0_pairPlaces_19 (by decide) ?_
  refine j_iload_n x dX0_pairPlaces_20 rfl ?_
  refine j_b_icmp_eq (T := 28) (E := 29) x dX0_pairPlaces_21 (by decide) dX0_pairPlaces_24 dX0_pairPlaces_25 (by decide) dX0_pairPlaces_28 (by decide) ?_
  refine j2_callVv x hb dX0_pairPlaces_29 m_X0_host (c_host (d := d) hb) wmX0_50 jc_4 rfl rfl rfl (Nat.le_of_ble_eq_true rfl) (j_fit_rm (by omega) (by omega) (by omega)) rfl ?_
  refine j_iconst (v := 1) x dX0_pairPlaces_32 (by decide) ?_
  refine j_istore x dX0_pairPlaces_33 (by decide) rfl ?_
  refine j_for (q / 2) (fun j => [some (.ref 69), some (.int (nI r)), some (.int (nI q)), some (.int z), some (.int (nI (j + 1))), none, none]) (fun j => jpl r q z M j) (fun j => True) (rfl) (rfl) (trivial) (fun j hj hP ih => ?_) (fun hP => ?_)
  · refine j_iload x dX0_pairPlaces_35 rfl ?_
    refine j_iload_n x dX0_pairPlaces_37 rfl ?_
    refine j_iconst (v := 2) x dX0_pairPlaces_38 (by decide) ?_
    refine j_idiv x dX0_pairPlaces_39 (by decide) ?_; rw [show (nI q / 2 : Int32) = nI (q / 2) from nI_div2 (d := 2) (by omega) (by decide) (by decide)]
    refine j_icmp_gt (tgt := 96) x dX0_pairPlaces_40 (by decide) (fun hc => absurd hc (nI_nlt (by omega) (by omega))) (fun hc => ?_)
    refine j_iload_n x dX0_pairPlaces_43 rfl ?_
    refine j_iload x dX0_pairPlaces_44 rfl ?_
    refine j_iadd x dX0_pairPlaces_46 ?_
    refine j_iload_n x dX0_pairPlaces_47 rfl ?_
    refine j_irem x dX0_pairPlaces_48 (nI_ne0 (by omega) (by omega)) ?_; rw [nI_add, nI_rem (by omega) (by omega) (by omega)]
    refine j_istore x dX0_pairPlaces_49 (by decide) rfl ?_
    refine j_iload_n x dX0_pairPlaces_51 rfl ?_
    refine j_iload_n x dX0_pairPlaces_52 rfl ?_
    refine j_iadd x dX0_pairPlaces_53 ?_
    refine j_iload x dX0_pairPlaces_54 rfl ?_
    refine j_isub x dX0_pairPlaces_56 ?_
    refine j_iload_n x dX0_pairPlaces_57 rfl ?_
    refine j_irem x dX0_pairPlaces_58 (nI_ne0 (by omega) (by omega)) ?_; rw [nI_add, nI_sub (by omega), nI_rem (by omega) (by omega) (by omega)]
    refine j_istore x dX0_pairPlaces_59 (by decide) rfl ?_
    refine j_aload_n x dX0_pairPlaces_61 rfl ?_
    refine j_iload x dX0_pairPlaces_62 rfl ?_
    refine j_iload x dX0_pairPlaces_64 rfl ?_
    refine j_iload x dX0_pairPlaces_66 rfl ?_
    refine j_iconst (v := 2) x dX0_pairPlaces_68 (by decide) ?_
    refine j_irem x dX0_pairPlaces_69 (by decide) ?_; rw [show (nI (j + 1) - nI (j + 1) / 2 * 2 : Int32) = nI ((j + 1) % 2) from nI_rem (d := 2) (by omega) (by decide) (by decide)]
    refine j_b_if_ne (T := 77) (E := 78) x dX0_pairPlaces_70 (by decide) dX0_pairPlaces_73 dX0_pairPlaces_74 (by decide) dX0_pairPlaces_77 (by decide) ?_
    refine j_iload_n x dX0_pairPlaces_78 rfl ?_
    refine j_b_icmp_eq (T := 86) (E := 87) x dX0_pairPlaces_79 (by decide) dX0_pairPlaces_82 dX0_pairPlaces_83 (by decide) dX0_pairPlaces_86 (by decide) ?_
    refine j2_callVv x hb dX0_pairPlaces_87 m_X0_host (c_host (d := d) hb) wmX0_50 jc_4 rfl rfl rfl (Nat.le_of_ble_eq_true rfl) (j_fit_rm (by omega) (by omega) (by omega)) rfl ?_
    refine j_iinc x dX0_pairPlaces_90 rfl (by decide) rfl ?_
    refine j_goto (tgt := 35) x dX0_pairPlaces_93 (by decide) ?_
    exact j_goal (ih (trivial)) (wk_c rfl (wk_c rfl (wk_c rfl (wk_c rfl (wk_c (congrArg (fun z => some (Value.int z)) (nI_1 _)) (wk_n (wk_n (wk_0)))))))) (rfl)
  refine j_iload x dX0_pairPlaces_35 rfl ?_
  refine j_iload_n x dX0_pairPlaces_37 rfl ?_
  refine j_iconst (v := 2) x dX0_pairPlaces_38 (by decide) ?_
  refine j_idiv x dX0_pairPlaces_39 (by decide) ?_; rw [show (nI q / 2 : Int32) = nI (q / 2) from nI_div2 (d := 2) (by omega) (by decide) (by decide)]
  refine j_icmp_gt (tgt := 96) x dX0_pairPlaces_40 (by decide) (fun hc => ?_) (fun hc => absurd (nI_lt (by omega) (by omega)) hc)
  exact j_return x hr dX0_pairPlaces_96 (by omega) (by omega) ⟨rfl, rfl⟩
theorem jhost_n {M : MM} {u v z : Int32} {i k : Nat} (h : i ≠ 74) : jhost M u v z i k = M i k := by
  unfold jhost
  split <;> exact m_put h
theorem jpl_n {M : MM} {r q : Nat} {z : Int32} {i k : Nat} (h : i ≠ 74) : ∀ n, jpl r q z M n i k = M i k
  | 0 => jhost_n h
  | n + 1 => by rw [jpl, jhost_n h]; exact jpl_n h n
def jaw (w t : Nat) (M : MM) : Nat → MM
  | 0 => M
  | j + 1 => if jaw w t M j 74 j = -1 then jaw w t M j else if nI t ≤ jaw w t M j 74 j then jaw w t M j else
    jm (jput 56 (jput 56 (jput 56 (jaw w t M j) 70 (jaw w t M j 69 1) (nI j)) 71 (jaw w t M j 69 1) (jaw w t M j 74 j)) 72 (jaw w t M j 69 1) (nI w)) 69 1 (jaw w t M j 69 1 + 1)
theorem jaw_n {w t : Nat} {M : MM} {i k : Nat} (h : i < 69 ∨ 72 < i ∨ (i = 69 ∧ k ≠ 1)) : ∀ n, jaw w t M n i k = M i k
  | 0 => rfl
  | n + 1 => by
    rw [jaw]
    split
    · exact jaw_n h n
    · split
      · exact jaw_n h n
      · rw [jm_n (by omega), m_put (by omega), m_put (by omega), m_put (by omega)]
        exact jaw_n h n
theorem c_addWeek {d : Nat} {b : SBt} {Y : OUt} {M : MM} (hb : 94 ≤ b.2.1) {w t : Nat} (ht : t ≤ 8) : CM (d + 1) 0 0 yX0_addWeek cX0_addWeek 5 none [.ref 69, .int (nI w), .int (nI t)] b Y M (.inl none) (jaw w t M t) := by
  refine Con.of (by decide +kernel) (Nat.le_of_ble_eq_true rfl) rfl fun p l e s m args below meth c D tyc A ad0 x hr htab hname => ?_
  change JJ _ _ _ _ _ _ _ _ _ _ _ _ _ _ _ _ _ 0 [some (.ref 69), some (.int (nI w)), some (.int (nI t)), none, none] [] _ 0 0
  refine j_iconst (v := 0) x dX0_addWeek_0 (by decide) ?_
  refine j_istore_n x dX0_addWeek_1 (by decide) rfl ?_
  refine j_for (t) (fun j => [some (.ref 69), some (.int (nI w)), some (.int (nI t)), some (.int (nI j)), none]) (fun j => jaw w t M j) (fun j => True) (rfl) (rfl) (trivial) (fun j hj hP ih => ?_) (fun hP => ?_)
  · refine j_iload_n x dX0_addWeek_2 rfl ?_
    refine j_iload_n x dX0_addWeek_3 rfl ?_
    refine j_icmp_ge (tgt := 82) x dX0_addWeek_4 (by decide) (fun hc => absurd hc (nI_ge hj (by omega))) (fun hc => ?_)
    refine j_aload_n x dX0_addWeek_7 rfl ?_
    refine j2_getr (k := 6) (r := 74) x hb dX0_addWeek_8 jc_4 wfX0_24 (by decide) rfl ?_
    refine j_iload_n x dX0_addWeek_11 rfl ?_
    refine j2_callSNi x hb dX0_addWeek_12 m_X5_at (c_at (d := d) hb fa_74 (by decide)) wnX0_53 rfl (Nat.le_of_ble_eq_true rfl) (j_fit_rm (by omega) (by omega) (by omega)) rfl ?_
    rw [jat_nI (by omega) (by decide)]
    refine j_istore x dX0_addWeek_15 (by decide) rfl ?_
    refine j_iload x dX0_addWeek_17 rfl ?_
    refine j_iconst (v := (-1)) x dX0_addWeek_19 (by decide) ?_
    refine j_icmp_eq (tgt := 76) x dX0_addWeek_20 (by decide) (fun h1 => ?_) (fun h1 => ?_)
    · refine j_iinc x dX0_addWeek_76 rfl (by decide) rfl ?_
      refine j_goto (tgt := 2) x dX0_addWeek_79 (by decide) ?_
      exact j_goal (ih (trivial)) (wk_c rfl (wk_c rfl (wk_c rfl (wk_c (congrArg (fun z => some (Value.int z)) (nI_1 _)) (wk_n (wk_0)))))) (by rw [jaw, if_pos h1])
    · refine j_iload x dX0_addWeek_23 rfl ?_
      refine j_iload_n x dX0_addWeek_25 rfl ?_
      refine j_icmp_ge (tgt := 76) x dX0_addWeek_26 (by decide) (fun h2 => ?_) (fun h2 => ?_)
      · refine j_iinc x dX0_addWeek_76 rfl (by decide) rfl ?_
        refine j_goto (tgt := 2) x dX0_addWeek_79 (by decide) ?_
        exact j_goal (ih (trivial)) (wk_c rfl (wk_c rfl (wk_c rfl (wk_c (congrArg (fun z => some (Value.int z)) (nI_1 _)) (wk_n (wk_0)))))) (by rw [jaw, if_neg h1, if_pos h2])
      · refine j_aload_n x dX0_addWeek_29 rfl ?_
        refine j2_getr (k := 2) (r := 70) x hb dX0_addWeek_30 jc_4 wfX0_9 (by decide) rfl ?_
        refine j_aload_n x dX0_addWeek_33 rfl ?_
        refine j2_geti (k := 1) x hb dX0_addWeek_34 jc_4 wfX0_31 (by decide) rfl ?_
        refine j_iload_n x dX0_addWeek_37 rfl ?_
        refine j2_callSNv x hb dX0_addWeek_38 m_X5_put (c_put (d := d) hb fa_70 (by decide)) wnX0_42 rfl (Nat.le_of_ble_eq_true rfl) (j_fit_rm (by omega) (by omega) (by omega)) rfl ?_
        refine j_aload_n x dX0_addWeek_41 rfl ?_
        refine j2_getr (k := 3) (r := 71) x hb dX0_addWeek_42 jc_4 wfX0_15 (by decide) rfl ?_
        refine j_aload_n x dX0_addWeek_45 rfl ?_
        refine j2_geti (k := 1) x hb dX0_addWeek_46 jc_4 wfX0_31 (by decide) rfl ?_; rw [m_put (by omega)]
        refine j_iload x dX0_addWeek_49 rfl ?_
        refine j2_callSNv x hb dX0_addWeek_51 m_X5_put (c_put (d := d) hb fa_71 (by decide)) wnX0_42 rfl (Nat.le_of_ble_eq_true rfl) (j_fit_rm (by omega) (by omega) (by omega)) rfl ?_
        refine j_aload_n x dX0_addWeek_54 rfl ?_
        refine j2_getr (k := 4) (r := 72) x hb dX0_addWeek_55 jc_4 wfX0_18 (by decide) rfl ?_
        refine j_aload_n x dX0_addWeek_58 rfl ?_
        refine j2_geti (k := 1) x hb dX0_addWeek_59 jc_4 wfX0_31 (by decide) rfl ?_; rw [m_put (by omega), m_put (by omega)]
        refine j_iload_n x dX0_addWeek_62 rfl ?_
        refine j2_callSNv x hb dX0_addWeek_63 m_X5_put (c_put (d := d) hb fa_72 (by decide)) wnX0_42 rfl (Nat.le_of_ble_eq_true rfl) (j_fit_rm (by omega) (by omega) (by omega)) rfl ?_
        refine j_aload_n x dX0_addWeek_66 rfl ?_
        refine j_dup x dX0_addWeek_67 rfl ?_
        refine j2_geti (k := 1) x hb dX0_addWeek_68 jc_4 wfX0_31 (by decide) rfl ?_; rw [m_put (by omega), m_put (by omega), m_put (by omega)]
        refine j_iconst (v := 1) x dX0_addWeek_71 (by decide) ?_
        refine j_iadd x dX0_addWeek_72 ?_
        refine j2_puti (k := 1) x hb dX0_addWeek_73 jc_4 wfX0_31 (by decide) rfl rfl rfl rfl ?_
        refine j_iinc x dX0_addWeek_76 rfl (by decide) rfl ?_
        refine j_goto (tgt := 2) x dX0_addWeek_79 (by decide) ?_
        exact j_goal (ih (trivial)) (wk_c rfl (wk_c rfl (wk_c rfl (wk_c (congrArg (fun z => some (Value.int z)) (nI_1 _)) (wk_n (wk_0)))))) (by rw [jaw, if_neg h1, if_neg h2])
  refine j_iload_n x dX0_addWeek_2 rfl ?_
  refine j_iload_n x dX0_addWeek_3 rfl ?_
  refine j_icmp_ge (tgt := 82) x dX0_addWeek_4 (by decide) (fun hc => ?_) (fun hc => absurd (nI_le (Nat.le_refl _) (by omega)) hc)
  exact j_return x hr dX0_addWeek_82 (by omega) (by omega) ⟨rfl, rfl⟩
/-- the round of a week: its place in its half; whether the places are turned -/
def jrd (q w : Nat) : Nat := if w < q then w else w - q
def jly (t q : Nat) (M : MM) : Nat → MM
  | 0 => jm (jm M 69 0 (nI (2 * q))) 69 1 0
  | w + 1 => jaw w t (jput 14 (jpl (jrd q w) q (if w < q then 0 else 1) (jfill (jly t q M w) 74 8 (-1)) (q / 2)) 73 (nI w) (if q = t then nI (jrd q w) else -1)) t
theorem jfill_n {M : MM} {a n i k : Nat} {v : Int32} (h : i ≠ a) : jfill M a n v i k = M i k := by
  unfold jfill
  rw [if_neg (fun q => h q.1)]
theorem jly_w {t q : Nat} {M : MM} : ∀ n, jly t q M n 69 0 = nI (2 * q)
  | 0 => by rw [jly, jm_n (by omega), jm_s]
  | n + 1 => by
    rw [jly, jaw_n (by omega), m_put (by omega), jpl_n (by omega), jfill_n (by omega)]
    exact jly_w n
theorem jly_n {t q : Nat} {M : MM} {i k : Nat} (h : i < 69 ∨ 74 < i) : ∀ n, jly t q M n i k = M i k
  | 0 => by rw [jly, jm_n (by omega), jm_n (by omega)]
  | n + 1 => by
    rw [jly, jaw_n (by omega), m_put (by omega), jpl_n (by omega), jfill_n (by omega)]
    exact jly_n h n
theorem c_lay {d : Nat} {b : SBt} {Y : OUt} {M : MM} (hb : 94 ≤ b.2.1) {t q : Nat} (hl : (t % 2 = 0 ∧ q + 1 = t) ∨ (t % 2 = 1 ∧ q = t)) (hq0 : 1 ≤ q) (ht : t ≤ 8) : CM (d + 3) 0 0 yX0_lay cX0_lay 6 none [.ref 69, .int (nI t)] b Y M (.inl none) (jly t q M (2 * q)) := by
  refine Con.of (by decide +kernel) (Nat.le_of_ble_eq_true rfl) rfl fun p l e s m args below meth c D tyc A ad0 x hr htab hname => ?_
  change JJ _ _ _ _ _ _ _ _ _ _ _ _ _ _ _ _ _ 0 [some (.ref 69), some (.int (nI t)), none, none, none, none] [] _ 0 0
  refine j_iload_n x dX0_lay_0 rfl ?_
  refine j_iconst (v := 2) x dX0_lay_1 (by decide) ?_
  refine j_irem x dX0_lay_2 (by decide) ?_; rw [show (nI (t) - nI (t) / 2 * 2 : Int32) = nI ((t) % 2) from nI_rem (d := 2) (by omega) (by decide) (by decide)]
  refine j_if_ne (tgt := 12) x dX0_lay_3 (by decide) (fun hA => ?_) (fun hA => ?_)
  · obtain rfl : q = t := hl.elim (fun z => absurd (show nI (t % 2) = 0 by rw [z.1]; rfl) hA) (fun z => z.2); refine j_iload_n x dX0_lay_12 rfl ?_
    refine j_istore_n x dX0_lay_13 (by decide) rfl ?_
    refine j_aload_n x dX0_lay_14 rfl ?_
    refine j_iconst (v := 2) x dX0_lay_15 (by decide) ?_
    refine j_iload_n x dX0_lay_16 rfl ?_
    refine j_imul x dX0_lay_17 ?_; rw [show (2 : Int32) * nI q = nI (2 * q) from nI_mul 2 q]
    refine j2_puti (k := 0) x hb dX0_lay_18 jc_4 wfX0_27 (by decide) rfl rfl rfl rfl ?_
    refine j_aload_n x dX0_lay_21 rfl ?_
    refine j_iconst (v := 0) x dX0_lay_22 (by decide) ?_
    refine j2_puti (k := 1) x hb dX0_lay_23 jc_4 wfX0_31 (by decide) rfl rfl rfl rfl ?_
    refine j_iconst (v := 0) x dX0_lay_26 (by decide) ?_
    refine j_istore_n x dX0_lay_27 (by decide) rfl ?_
    refine j_for (2 * q) (fun j => [some (.ref 69), some (.int (nI q)), some (.int (nI q)), some (.int (nI j)), none, none]) (fun j => jly (q) q M j) (fun j => True) (rfl) (rfl) (trivial) (fun j hj hP ih => ?_) (fun hP => ?_)
    · refine j_iload_n x dX0_lay_28 rfl ?_
      refine j_aload_n x dX0_lay_29 rfl ?_
      refine j2_geti (k := 0) x hb dX0_lay_30 jc_4 wfX0_27 (by decide) rfl ?_; rw [jly_w]
      refine j_icmp_ge (tgt := 110) x dX0_lay_33 (by decide) (fun hc => absurd hc (nI_ge hj (by omega))) (fun hc => ?_)
      have hcase : j < q ∨ ¬ j < q := Decidable.em _; refine j_iload_n x dX0_lay_36 rfl ?_
      refine j_iload_n x dX0_lay_37 rfl ?_
      refine j_icmp_lt (tgt := 45) x dX0_lay_38 (by decide) (fun h1 => ?_) (fun h1 => ?_)
      · have h3 : j < q := (nI_ltI (by omega) (by omega)).mp h1; refine j_iconst (v := 0) x dX0_lay_45 (by decide) ?_
        refine j_istore x dX0_lay_46 (by decide) rfl ?_
        refine j_iload x dX0_lay_48 rfl ?_
        refine j_if_eq (tgt := 59) x dX0_lay_50 (by decide) (fun hc => ?_) (fun hc => absurd (rfl) hc)
        refine j_iload_n x dX0_lay_59 rfl ?_
        refine j_istore x dX0_lay_60 (by decide) rfl ?_
        refine j_aload_n x dX0_lay_62 rfl ?_
        refine j2_getr (k := 6) (r := 74) x hb dX0_lay_63 jc_4 wfX0_24 (by decide) rfl ?_
        refine j_iconst (v := (-1)) x dX0_lay_66 (by decide) ?_
        refine j2_callSNv x hb dX0_lay_67 m_X5_fillRow (c_fillRow (d := d) hb fa_74 (by decide)) wnX0_34 rfl (Nat.le_of_ble_eq_true rfl) (j_fit_rm (by omega) (by omega) (by omega)) rfl ?_
        refine j_aload_n x dX0_lay_70 rfl ?_
        refine j_iload x dX0_lay_71 rfl ?_
        refine j_iload_n x dX0_lay_73 rfl ?_
        refine j_iload x dX0_lay_74 rfl ?_
        refine j2_callVv x hb dX0_lay_76 m_X0_pairPlaces (c_pairPlaces (d := d) (r := j) hb (by omega) (by omega) (by omega)) wmX0_38 jc_4 rfl rfl rfl (Nat.le_of_ble_eq_true rfl) (j_fit_rm (by omega) (by omega) (by omega)) rfl ?_
        refine j_aload_n x dX0_lay_79 rfl ?_
        refine j2_getr (k := 5) (r := 73) x hb dX0_lay_80 jc_4 wfX0_21 (by decide) rfl ?_
        refine j_iload_n x dX0_lay_83 rfl ?_
        refine j_iload_n x dX0_lay_84 rfl ?_
        refine j_iload_n x dX0_lay_85 rfl ?_
        refine j_icmp_ne (tgt := 94) x dX0_lay_86 (by decide) (fun hc => absurd hc (fun z => z rfl)) (fun hc => ?_)
        refine j_iload x dX0_lay_89 rfl ?_
        refine j_goto (tgt := 95) x dX0_lay_91 (by decide) ?_
        refine j2_callSNv x hb dX0_lay_95 m_X5_put (c_put (d := d) hb fa_73 (by decide)) wnX0_42 rfl (Nat.le_of_ble_eq_true rfl) (j_fit_rm (by omega) (by omega) (by omega)) rfl ?_
        refine j_aload_n x dX0_lay_98 rfl ?_
        refine j_iload_n x dX0_lay_99 rfl ?_
        refine j_iload_n x dX0_lay_100 rfl ?_
        refine j2_callVv x hb dX0_lay_101 m_X0_addWeek (c_addWeek (d := d) hb (by omega)) wmX0_46 jc_4 rfl rfl rfl (Nat.le_of_ble_eq_true rfl) (j_fit_rm (by omega) (by omega) (by omega)) rfl ?_
        refine j_iinc x dX0_lay_104 rfl (by decide) rfl ?_
        refine j_goto (tgt := 28) x dX0_lay_107 (by decide) ?_
        exact j_goal (ih (trivial)) (wk_c rfl (wk_c rfl (wk_c rfl (wk_c (congrArg (fun z => some (Value.int z)) (nI_1 _)) (wk_n (wk_n (wk_0))))))) (by rw [jly]; simp only [jrd, if_pos h3, if_true])
      · have h3 : ¬ j < q := fun z => h1 ((nI_ltI (by omega) (by omega)).mpr z); refine j_iconst (v := 1) x dX0_lay_41 (by decide) ?_
        refine j_goto (tgt := 46) x dX0_lay_42 (by decide) ?_
        refine j_istore x dX0_lay_46 (by decide) rfl ?_
        refine j_iload x dX0_lay_48 rfl ?_
        refine j_if_eq (tgt := 59) x dX0_lay_50 (by decide) (fun hc => absurd hc (by decide)) (fun hc => ?_)
        refine j_iload_n x dX0_lay_53 rfl ?_
        refine j_iload_n x dX0_lay_54 rfl ?_
        refine j_isub x dX0_lay_55 ?_; rw [nI_sub (by omega)]
        refine j_goto (tgt := 60) x dX0_lay_56 (by decide) ?_
        refine j_istore x dX0_lay_60 (by decide) rfl ?_
        refine j_aload_n x dX0_lay_62 rfl ?_
        refine j2_getr (k := 6) (r := 74) x hb dX0_lay_63 jc_4 wfX0_24 (by decide) rfl ?_
        refine j_iconst (v := (-1)) x dX0_lay_66 (by decide) ?_
        refine j2_callSNv x hb dX0_lay_67 m_X5_fillRow (c_fillRow (d := d) hb fa_74 (by decide)) wnX0_34 rfl (Nat.le_of_ble_eq_true rfl) (j_fit_rm (by omega) (by omega) (by omega)) rfl ?_
        refine j_aload_n x dX0_lay_70 rfl ?_
        refine j_iload x dX0_lay_71 rfl ?_
        refine j_iload_n x dX0_lay_73 rfl ?_
        refine j_iload x dX0_lay_74 rfl ?_
        refine j2_callVv x hb dX0_lay_76 m_X0_pairPlaces (c_pairPlaces (d := d) (r := j - q) hb (by omega) (by omega) (by omega)) wmX0_38 jc_4 rfl rfl rfl (Nat.le_of_ble_eq_true rfl) (j_fit_rm (by omega) (by omega) (by omega)) rfl ?_
        refine j_aload_n x dX0_lay_79 rfl ?_
        refine j2_getr (k := 5) (r := 73) x hb dX0_lay_80 jc_4 wfX0_21 (by decide) rfl ?_
        refine j_iload_n x dX0_lay_83 rfl ?_
        refine j_iload_n x dX0_lay_84 rfl ?_
        refine j_iload_n x dX0_lay_85 rfl ?_
        refine j_icmp_ne (tgt := 94) x dX0_lay_86 (by decide) (fun hc => absurd hc (fun z => z rfl)) (fun hc => ?_)
        refine j_iload x dX0_lay_89 rfl ?_
        refine j_goto (tgt := 95) x dX0_lay_91 (by decide) ?_
        refine j2_callSNv x hb dX0_lay_95 m_X5_put (c_put (d := d) hb fa_73 (by decide)) wnX0_42 rfl (Nat.le_of_ble_eq_true rfl) (j_fit_rm (by omega) (by omega) (by omega)) rfl ?_
        refine j_aload_n x dX0_lay_98 rfl ?_
        refine j_iload_n x dX0_lay_99 rfl ?_
        refine j_iload_n x dX0_lay_100 rfl ?_
        refine j2_callVv x hb dX0_lay_101 m_X0_addWeek (c_addWeek (d := d) hb (by omega)) wmX0_46 jc_4 rfl rfl rfl (Nat.le_of_ble_eq_true rfl) (j_fit_rm (by omega) (by omega) (by omega)) rfl ?_
        refine j_iinc x dX0_lay_104 rfl (by decide) rfl ?_
        refine j_goto (tgt := 28) x dX0_lay_107 (by decide) ?_
        exact j_goal (ih (trivial)) (wk_c rfl (wk_c rfl (wk_c rfl (wk_c (congrArg (fun z => some (Value.int z)) (nI_1 _)) (wk_n (wk_n (wk_0))))))) (by rw [jly]; simp only [jrd, if_neg h3, if_true])
    refine j_iload_n x dX0_lay_28 rfl ?_
    refine j_aload_n x dX0_lay_29 rfl ?_
    refine j2_geti (k := 0) x hb dX0_lay_30 jc_4 wfX0_27 (by decide) rfl ?_; rw [jly_w]
    refine j_icmp_ge (tgt := 110) x dX0_lay_33 (by decide) (fun hc => ?_) (fun hc => absurd (nI_le (Nat.le_refl _) (by omega)) hc)
    exact j_return x hr dX0_lay_110 (by omega) (by omega) ⟨rfl, rfl⟩
  · obtain rfl : t = q + 1 := hl.elim (fun z => z.2.symm) (fun z => absurd hA (by rw [z.1]; decide)); refine j_iload_n x dX0_lay_6 rfl ?_
    refine j_iconst (v := 1) x dX0_lay_7 (by decide) ?_
    refine j_isub x dX0_lay_8 ?_; rw [nI_pred]
    refine j_goto (tgt := 13) x dX0_lay_9 (by decide) ?_
    refine j_istore_n x dX0_lay_13 (by decide) rfl ?_
    refine j_aload_n x dX0_lay_14 rfl ?_
    refine j_iconst (v := 2) x dX0_lay_15 (by decide) ?_
    refine j_iload_n x dX0_lay_16 rfl ?_
    refine j_imul x dX0_lay_17 ?_; rw [show (2 : Int32) * nI q = nI (2 * q) from nI_mul 2 q]
    refine j2_puti (k := 0) x hb dX0_lay_18 jc_4 wfX0_27 (by decide) rfl rfl rfl rfl ?_
    refine j_aload_n x dX0_lay_21 rfl ?_
    refine j_iconst (v := 0) x dX0_lay_22 (by decide) ?_
    refine j2_puti (k := 1) x hb dX0_lay_23 jc_4 wfX0_31 (by decide) rfl rfl rfl rfl ?_
    refine j_iconst (v := 0) x dX0_lay_26 (by decide) ?_
    refine j_istore_n x dX0_lay_27 (by decide) rfl ?_
    refine j_for (2 * q) (fun j => [some (.ref 69), some (.int (nI (q + 1))), some (.int (nI q)), some (.int (nI j)), none, none]) (fun j => jly ((q + 1)) q M j) (fun j => True) (rfl) (rfl) (trivial) (fun j hj hP ih => ?_) (fun hP => ?_)
    · refine j_iload_n x dX0_lay_28 rfl ?_
      refine j_aload_n x dX0_lay_29 rfl ?_
      refine j2_geti (k := 0) x hb dX0_lay_30 jc_4 wfX0_27 (by decide) rfl ?_; rw [jly_w]
      refine j_icmp_ge (tgt := 110) x dX0_lay_33 (by decide) (fun hc => absurd hc (nI_ge hj (by omega))) (fun hc => ?_)
      have hcase : j < q ∨ ¬ j < q := Decidable.em _; refine j_iload_n x dX0_lay_36 rfl ?_
      refine j_iload_n x dX0_lay_37 rfl ?_
      refine j_icmp_lt (tgt := 45) x dX0_lay_38 (by decide) (fun h1 => ?_) (fun h1 => ?_)
      · have h3 : j < q := (nI_ltI (by omega) (by omega)).mp h1; refine j_iconst (v := 0) x dX0_lay_45 (by decide) ?_
        refine j_istore x dX0_lay_46 (by decide) rfl ?_
        refine j_iload x dX0_lay_48 rfl ?_
        refine j_if_eq (tgt := 59) x dX0_lay_50 (by decide) (fun hc => ?_) (fun hc => absurd (rfl) hc)
        refine j_iload_n x dX0_lay_59 rfl ?_
        refine j_istore x dX0_lay_60 (by decide) rfl ?_
        refine j_aload_n x dX0_lay_62 rfl ?_
        refine j2_getr (k := 6) (r := 74) x hb dX0_lay_63 jc_4 wfX0_24 (by decide) rfl ?_
        refine j_iconst (v := (-1)) x dX0_lay_66 (by decide) ?_
        refine j2_callSNv x hb dX0_lay_67 m_X5_fillRow (c_fillRow (d := d) hb fa_74 (by decide)) wnX0_34 rfl (Nat.le_of_ble_eq_true rfl) (j_fit_rm (by omega) (by omega) (by omega)) rfl ?_
        refine j_aload_n x dX0_lay_70 rfl ?_
        refine j_iload x dX0_lay_71 rfl ?_
        refine j_iload_n x dX0_lay_73 rfl ?_
        refine j_iload x dX0_lay_74 rfl ?_
        refine j2_callVv x hb dX0_lay_76 m_X0_pairPlaces (c_pairPlaces (d := d) (r := j) hb (by omega) (by omega) (by omega)) wmX0_38 jc_4 rfl rfl rfl (Nat.le_of_ble_eq_true rfl) (j_fit_rm (by omega) (by omega) (by omega)) rfl ?_
        refine j_aload_n x dX0_lay_79 rfl ?_
        refine j2_getr (k := 5) (r := 73) x hb dX0_lay_80 jc_4 wfX0_21 (by decide) rfl ?_
        refine j_iload_n x dX0_lay_83 rfl ?_
        refine j_iload_n x dX0_lay_84 rfl ?_
        refine j_iload_n x dX0_lay_85 rfl ?_
        refine j_icmp_ne (tgt := 94) x dX0_lay_86 (by decide) (fun hc => ?_) (fun hc => absurd hc (fun z => absurd ((nI_eq (by omega) (by omega)).mp z) (by omega)))
        refine j_iconst (v := (-1)) x dX0_lay_94 (by decide) ?_
        refine j2_callSNv x hb dX0_lay_95 m_X5_put (c_put (d := d) hb fa_73 (by decide)) wnX0_42 rfl (Nat.le_of_ble_eq_true rfl) (j_fit_rm (by omega) (by omega) (by omega)) rfl ?_
        refine j_aload_n x dX0_lay_98 rfl ?_
        refine j_iload_n x dX0_lay_99 rfl ?_
        refine j_iload_n x dX0_lay_100 rfl ?_
        refine j2_callVv x hb dX0_lay_101 m_X0_addWeek (c_addWeek (d := d) hb (by omega)) wmX0_46 jc_4 rfl rfl rfl (Nat.le_of_ble_eq_true rfl) (j_fit_rm (by omega) (by omega) (by omega)) rfl ?_
        refine j_iinc x dX0_lay_104 rfl (by decide) rfl ?_
        refine j_goto (tgt := 28) x dX0_lay_107 (by decide) ?_
        exact j_goal (ih (trivial)) (wk_c rfl (wk_c rfl (wk_c rfl (wk_c (congrArg (fun z => some (Value.int z)) (nI_1 _)) (wk_n (wk_n (wk_0))))))) (by rw [jly]; simp only [jrd, if_pos h3, show ¬ q = q + 1 from by omega, if_false])
      · have h3 : ¬ j < q := fun z => h1 ((nI_ltI (by omega) (by omega)).mpr z); refine j_iconst (v := 1) x dX0_lay_41 (by decide) ?_
        refine j_goto (tgt := 46) x dX0_lay_42 (by decide) ?_
        refine j_istore x dX0_lay_46 (by decide) rfl ?_
        refine j_iload x dX0_lay_48 rfl ?_
        refine j_if_eq (tgt := 59) x dX0_lay_50 (by decide) (fun hc => absurd hc (by decide)) (fun hc => ?_)
        refine j_iload_n x dX0_lay_53 rfl ?_
        refine j_iload_n x dX0_lay_54 rfl ?_
        refine j_isub x dX0_lay_55 ?_; rw [nI_sub (by omega)]
        refine j_goto (tgt := 60) x dX0_lay_56 (by decide) ?_
        refine j_istore x dX0_lay_60 (by decide) rfl ?_
        refine j_aload_n x dX0_lay_62 rfl ?_
        refine j2_getr (k := 6) (r := 74) x hb dX0_lay_63 jc_4 wfX0_24 (by decide) rfl ?_
        refine j_iconst (v := (-1)) x dX0_lay_66 (by decide) ?_
        refine j2_callSNv x hb dX0_lay_67 m_X5_fillRow (c_fillRow (d := d) hb fa_74 (by decide)) wnX0_34 rfl (Nat.le_of_ble_eq_true rfl) (j_fit_rm (by omega) (by omega) (by omega)) rfl ?_
        refine j_aload_n x dX0_lay_70 rfl ?_
        refine j_iload x dX0_lay_71 rfl ?_
        refine j_iload_n x dX0_lay_73 rfl ?_
        refine j_iload x dX0_lay_74 rfl ?_
        refine j2_callVv x hb dX0_lay_76 m_X0_pairPlaces (c_pairPlaces (d := d) (r := j - q) hb (by omega) (by omega) (by omega)) wmX0_38 jc_4 rfl rfl rfl (Nat.le_of_ble_eq_true rfl) (j_fit_rm (by omega) (by omega) (by omega)) rfl ?_
        refine j_aload_n x dX0_lay_79 rfl ?_
        refine j2_getr (k := 5) (r := 73) x hb dX0_lay_80 jc_4 wfX0_21 (by decide) rfl ?_
        refine j_iload_n x dX0_lay_83 rfl ?_
        refine j_iload_n x dX0_lay_84 rfl ?_
        refine j_iload_n x dX0_lay_85 rfl ?_
        refine j_icmp_ne (tgt := 94) x dX0_lay_86 (by decide) (fun hc => ?_) (fun hc => absurd hc (fun z => absurd ((nI_eq (by omega) (by omega)).mp z) (by omega)))
        refine j_iconst (v := (-1)) x dX0_lay_94 (by decide) ?_
        refine j2_callSNv x hb dX0_lay_95 m_X5_put (c_put (d := d) hb fa_73 (by decide)) wnX0_42 rfl (Nat.le_of_ble_eq_true rfl) (j_fit_rm (by omega) (by omega) (by omega)) rfl ?_
        refine j_aload_n x dX0_lay_98 rfl ?_
        refine j_iload_n x dX0_lay_99 rfl ?_
        refine j_iload_n x dX0_lay_100 rfl ?_
        refine j2_callVv x hb dX0_lay_101 m_X0_addWeek (c_addWeek (d := d) hb (by omega)) wmX0_46 jc_4 rfl rfl rfl (Nat.le_of_ble_eq_true rfl) (j_fit_rm (by omega) (by omega) (by omega)) rfl ?_
        refine j_iinc x dX0_lay_104 rfl (by decide) rfl ?_
        refine j_goto (tgt := 28) x dX0_lay_107 (by decide) ?_
        exact j_goal (ih (trivial)) (wk_c rfl (wk_c rfl (wk_c rfl (wk_c (congrArg (fun z => some (Value.int z)) (nI_1 _)) (wk_n (wk_n (wk_0))))))) (by rw [jly]; simp only [jrd, if_neg h3, show ¬ q = q + 1 from by omega, if_false])
    refine j_iload_n x dX0_lay_28 rfl ?_
    refine j_aload_n x dX0_lay_29 rfl ?_
    refine j2_geti (k := 0) x hb dX0_lay_30 jc_4 wfX0_27 (by decide) rfl ?_; rw [jly_w]
    refine j_icmp_ge (tgt := 110) x dX0_lay_33 (by decide) (fun hc => ?_) (fun hc => absurd (nI_le (Nat.le_refl _) (by omega)) hc)
    exact j_return x hr dX0_lay_110 (by omega) (by omega) ⟨rfl, rfl⟩
