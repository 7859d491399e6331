/-! ===== the reference: its meetings ===== -/
def jof (M : MM) (m w : Nat) : Int32 := M 95 (18 + 8 * m + w)
def jsets (M : MM) (m w : Nat) (v : Int32) : MM := jm M 95 (18 + 8 * m + w) v
theorem cx_of {d : Nat} {b : SBt} {Y : OUt} {M : MM} (hb : 104 ≤ b.2.1) {m1 w1 : Nat} (hm : m1 < 56) (hw : w1 < 8) : CM (d) 0 0 yX6_of cX6_of 3 (some .int) [.ref 94, .int (nI m1), .int (nI w1)] b Y M (.inl (some (.int (jof M m1 w1)))) (M) := by
  have hix : (18 : Int32) + 8 * nI m1 + nI w1 = nI (18 + 8 * m1 + w1) := by rw [show (8 : Int32) * nI m1 = nI (8 * m1) from nI_mul 8 m1, show (18 : Int32) + nI (8 * m1) = nI (18 + 8 * m1) from nI_add 18 (8 * m1), nI_add]
  refine Con.of (by decide +kernel) (Nat.le_of_ble_eq_true rfl) rfl fun p l e s m args below meth c D tyc A ad0 x hr htab hname => ?_
  change JJ _ _ _ _ _ _ _ _ _ _ _ _ _ _ _ _ _ 0 [some (.ref 94), some (.int (nI m1)), some (.int (nI w1))] [] _ 0 0
  refine j_aload_n x dX6_of_0 rfl ?_
  refine j2_getr (k := 0) (r := 95) x hb dX6_of_1 jc_10 wfX6_9 (by decide) rfl ?_
  refine j_bipush (v := 18) x dX6_of_4 (by decide) ?_
  refine j_bipush (v := 8) x dX6_of_6 (by decide) ?_
  refine j_iload_n x dX6_of_8 rfl ?_
  refine j_imul x dX6_of_9 ?_
  refine j_iadd x dX6_of_10 ?_
  refine j_iload_n x dX6_of_11 rfl ?_
  refine j_iadd x dX6_of_12 ?_
  refine j2_ialn x hb dX6_of_13 fa_95 (j := 18 + 8 * m1 + w1) (by rw [hix]; exact vp_in_nI (by omega) (by decide)) (by rw [hix]; exact nI_clamp (by omega)) ?_
  exact j_ireturn x hr dX6_of_14 (by omega) (by omega) ⟨rfl, rfl⟩
theorem cx_sets {d : Nat} {b : SBt} {Y : OUt} {M : MM} (hb : 104 ≤ b.2.1) {m1 w1 : Nat} {v : Int32} (hm : m1 < 56) (hw : w1 < 8) : CM (d) 0 0 yX6_sets cX6_sets 4 none [.ref 94, .int (nI m1), .int (nI w1), .int v] b Y M (.inl none) (jsets M m1 w1 v) := by
  have hix : (18 : Int32) + 8 * nI m1 + nI w1 = nI (18 + 8 * m1 + w1) := by rw [show (8 : Int32) * nI m1 = nI (8 * m1) from nI_mul 8 m1, show (18 : Int32) + nI (8 * m1) = nI (18 + 8 * m1) from nI_add 18 (8 * m1), nI_add]
  refine Con.of (by decide +kernel) (Nat.le_of_ble_eq_true rfl) rfl fun p l e s m args below meth c D tyc A ad0 x hr htab hname => ?_
  change JJ _ _ _ _ _ _ _ _ _ _ _ _ _ _ _ _ _ 0 [some (.ref 94), some (.int (nI m1)), some (.int (nI w1)), some (.int v)] [] _ 0 0
  refine j_aload_n x dX6_sets_0 rfl ?_
  refine j2_getr (k := 0) (r := 95) x hb dX6_sets_1 jc_10 wfX6_9 (by decide) rfl ?_
  refine j_bipush (v := 18) x dX6_sets_4 (by decide) ?_
  refine j_bipush (v := 8) x dX6_sets_6 (by decide) ?_
  refine j_iload_n x dX6_sets_8 rfl ?_
  refine j_imul x dX6_sets_9 ?_
  refine j_iadd x dX6_sets_10 ?_
  refine j_iload_n x dX6_sets_11 rfl ?_
  refine j_iadd x dX6_sets_12 ?_
  refine j_iload_n x dX6_sets_13 rfl ?_
  refine j2_iasn x hb dX6_sets_14 fa_95 (j := 18 + 8 * m1 + w1) (by rw [hix]; exact vp_in_nI (by omega) (by decide)) (by rw [hix]; exact nI_clamp (by omega)) ?_
  exact j_return x hr dX6_sets_15 (by omega) (by omega) ⟨rfl, rfl⟩
theorem cx_isPlayed {d : Nat} {b : SBt} {Y : OUt} {M : MM} (hb : 104 ≤ b.2.1) {m1 : Nat} (hm : m1 < 56) : CM (d + 1) 0 0 yX6_isPlayed cX6_isPlayed 2 (some .boolean) [.ref 94, .int (nI m1)] b Y M (.inl (some (.int (jb (jof M m1 4 = 1))))) (M) := by
  refine Con.of (by decide +kernel) (Nat.le_of_ble_eq_true rfl) rfl fun p l e s m args below meth c D tyc A ad0 x hr htab hname => ?_
  change JJ _ _ _ _ _ _ _ _ _ _ _ _ _ _ _ _ _ 0 [some (.ref 94), some (.int (nI m1))] [] _ 0 0
  refine j_aload_n x dX6_isPlayed_0 rfl ?_
  refine j_iload_n x dX6_isPlayed_1 rfl ?_
  refine j_iconst (v := 4) x dX6_isPlayed_2 (by decide) ?_
  refine j2_callVi x hb dX6_isPlayed_3 m_X6_of (cx_of (d := d) hb (m1 := m1) (w1 := 4) (by omega) (by decide)) wmX6_68 jc_10 rfl rfl rfl (Nat.le_of_ble_eq_true rfl) (j_fit_rm (by omega) (by omega) (by omega)) rfl ?_
  refine j_iconst (v := 1) x dX6_isPlayed_6 (by decide) ?_
  refine j_b_icmp_ne (T := 14) (E := 15) x dX6_isPlayed_7 (by decide) dX6_isPlayed_10 dX6_isPlayed_11 (by decide) dX6_isPlayed_14 (by decide) ?_
  exact j_zreturn x hr dX6_isPlayed_15 (by first | decide | exact jisS_nar | exact jb_nar) (by omega) (by omega) ⟨rfl, rfl⟩
def jhow (M : MM) (m : Nat) : Int32 := if jof M m 4 = 1 then 1 else 2 * jof M m 5
theorem cx_how {d : Nat} {b : SBt} {Y : OUt} {M : MM} (hb : 104 ≤ b.2.1) {m1 : Nat} (hm : m1 < 56) : CM (d + 2) 0 0 yX6_how cX6_how 2 (some .int) [.ref 94, .int (nI m1)] b Y M (.inl (some (.int (jhow M m1)))) (M) := by
  refine Con.of (by decide +kernel) (Nat.le_of_ble_eq_true rfl) rfl fun p l e s m args below meth c D tyc A ad0 x hr htab hname => ?_
  change JJ _ _ _ _ _ _ _ _ _ _ _ _ _ _ _ _ _ 0 [some (.ref 94), some (.int (nI m1))] [] _ 0 0
  refine j_aload_n x dX6_how_0 rfl ?_
  refine j_iload_n x dX6_how_1 rfl ?_
  refine j2_callVi x hb dX6_how_2 m_X6_isPlayed (cx_isPlayed (d := d) hb hm) wmX6_72 jc_10 rfl rfl rfl (Nat.le_of_ble_eq_true rfl) (j_fit_rm (by omega) (by omega) (by omega)) rfl ?_
  refine j_if_eq (tgt := 12) x dX6_how_5 (by decide) (fun h1 => ?_) (fun h1 => ?_)
  · refine j_iconst (v := 2) x dX6_how_12 (by decide) ?_
    refine j_aload_n x dX6_how_13 rfl ?_
    refine j_iload_n x dX6_how_14 rfl ?_
    refine j_iconst (v := 5) x dX6_how_15 (by decide) ?_
    refine j2_callVi x hb dX6_how_16 m_X6_of (cx_of (d := d) hb (m1 := m1) (w1 := 5) (by omega) (by decide)) wmX6_68 jc_10 rfl rfl rfl (Nat.le_of_ble_eq_true rfl) (j_fit_rm (by omega) (by omega) (by omega)) rfl ?_
    refine j_imul x dX6_how_19 ?_
    exact j_ireturn x hr dX6_how_20 (by omega) (by omega) ⟨by rw [jhow, if_neg (jb_0.mp h1)], rfl⟩
  · refine j_iconst (v := 1) x dX6_how_8 (by decide) ?_
    refine j_goto (tgt := 20) x dX6_how_9 (by decide) ?_
    exact j_ireturn x hr dX6_how_20 (by omega) (by omega) ⟨by rw [jhow, if_pos (jb_nz.mp h1)], rfl⟩
theorem cx_played {d : Nat} {b : SBt} {Y : OUt} {M : MM} (hb : 104 ≤ b.2.1)  {n : Nat} (hn : n ≤ 56) (hct : M 95 9 = nI n) : CM (d + 1) 0 0 yX6_played cX6_played 3 (some .int) [.ref 94] b Y M (.inl (some (.int (jsum (fun m => jof M m 4) n)))) (M) := by
  refine Con.of (by decide +kernel) (Nat.le_of_ble_eq_true rfl) rfl fun p l e s m args below meth c D tyc A ad0 x hr htab hname => ?_
  change JJ _ _ _ _ _ _ _ _ _ _ _ _ _ _ _ _ _ 0 [some (.ref 94), none, none] [] _ 0 0
  refine j_iconst (v := 0) x dX6_played_0 (by decide) ?_
  refine j_istore_n x dX6_played_1 (by decide) rfl ?_
  refine j_iconst (v := 0) x dX6_played_2 (by decide) ?_
  refine j_istore_n x dX6_played_3 (by decide) rfl ?_
  refine j_for (n) (fun j => [some (.ref 94), some (.int (jsum (fun m => jof M m 4) j)), some (.int (nI j))]) (fun j => M) (fun j => True) (rfl) (rfl) (trivial) (fun j hj hP ih => ?_) (fun hP => ?_)
  · refine j_iload_n x dX6_played_4 rfl ?_
    refine j_aload_n x dX6_played_5 rfl ?_
    refine j2_getr (k := 0) (r := 95) x hb dX6_played_6 jc_10 wfX6_9 (by decide) rfl ?_
    refine j_bipush (v := 9) x dX6_played_9 (by decide) ?_
    refine j2_ialn x hb dX6_played_11 fa_95 (j := 9) (vp_c (by decide)) (by decide) ?_; rw [hct]
    refine j_icmp_ge (tgt := 30) x dX6_played_12 (by decide) (fun hc => absurd hc (nI_ge hj (by omega))) (fun hc => ?_)
    refine j_iload_n x dX6_played_15 rfl ?_
    refine j_aload_n x dX6_played_16 rfl ?_
    refine j_iload_n x dX6_played_17 rfl ?_
    refine j_iconst (v := 4) x dX6_played_18 (by decide) ?_
    refine j2_callVi x hb dX6_played_19 m_X6_of (cx_of (d := d) hb (m1 := j) (w1 := 4) (by omega) (by decide)) wmX6_68 jc_10 rfl rfl rfl (Nat.le_of_ble_eq_true rfl) (j_fit_rm (by omega) (by omega) (by omega)) rfl ?_
    refine j_iadd x dX6_played_22 ?_
    refine j_istore_n x dX6_played_23 (by decide) rfl ?_
    refine j_iinc x dX6_played_24 rfl (by decide) rfl ?_
    refine j_goto (tgt := 4) x dX6_played_27 (by decide) ?_
    exact j_goal (ih (trivial)) (wk_c rfl (wk_c (congrArg (fun z => some (Value.int z)) (jsum_v rfl)) (wk_c (congrArg (fun z => some (Value.int z)) (nI_1 _)) (wk_0)))) (rfl)
  refine j_iload_n x dX6_played_4 rfl ?_
  refine j_aload_n x dX6_played_5 rfl ?_
  refine j2_getr (k := 0) (r := 95) x hb dX6_played_6 jc_10 wfX6_9 (by decide) rfl ?_
  refine j_bipush (v := 9) x dX6_played_9 (by decide) ?_
  refine j2_ialn x hb dX6_played_11 fa_95 (j := 9) (vp_c (by decide)) (by decide) ?_; rw [hct]
  refine j_icmp_ge (tgt := 30) x dX6_played_12 (by decide) (fun hc => ?_) (fun hc => absurd (nI_le (Nat.le_refl _) (by omega)) hc)
  refine j_iload_n x dX6_played_30 rfl ?_
  exact j_ireturn x hr dX6_played_31 (by omega) (by omega) ⟨rfl, rfl⟩
def gLeft (M : MM) (m : Nat) : Int32 := jb (jof M m 2 = M 95 2 ∧ ¬ jof M m 4 = 1)
theorem cx_left {d : Nat} {b : SBt} {Y : OUt} {M : MM} (hb : 104 ≤ b.2.1)  {n : Nat} (hn : n ≤ 56) (hct : M 95 9 = nI n) : CM (d + 2) 0 0 yX6_left cX6_left 3 (some .int) [.ref 94] b Y M (.inl (some (.int (jsum (gLeft M) n)))) (M) := by
  refine Con.of (by decide +kernel) (Nat.le_of_ble_eq_true rfl) rfl fun p l e s m args below meth c D tyc A ad0 x hr htab hname => ?_
  change JJ _ _ _ _ _ _ _ _ _ _ _ _ _ _ _ _ _ 0 [some (.ref 94), none, none] [] _ 0 0
  refine j_iconst (v := 0) x dX6_left_0 (by decide) ?_
  refine j_istore_n x dX6_left_1 (by decide) rfl ?_
  refine j_iconst (v := 0) x dX6_left_2 (by decide) ?_
  refine j_istore_n x dX6_left_3 (by decide) rfl ?_
  refine j_for (n) (fun j => [some (.ref 94), some (.int (jsum (gLeft M) j)), some (.int (nI j))]) (fun j => M) (fun j => True) (rfl) (rfl) (trivial) (fun j hj hP ih => ?_) (fun hP => ?_)
  · refine j_iload_n x dX6_left_4 rfl ?_
    refine j_aload_n x dX6_left_5 rfl ?_
    refine j2_getr (k := 0) (r := 95) x hb dX6_left_6 jc_10 wfX6_9 (by decide) rfl ?_
    refine j_bipush (v := 9) x dX6_left_9 (by decide) ?_
    refine j2_ialn x hb dX6_left_11 fa_95 (j := 9) (vp_c (by decide)) (by decide) ?_; rw [hct]
    refine j_icmp_ge (tgt := 47) x dX6_left_12 (by decide) (fun hc => absurd hc (nI_ge hj (by omega))) (fun hc => ?_)
    refine j_aload_n x dX6_left_15 rfl ?_
    refine j_iload_n x dX6_left_16 rfl ?_
    refine j_iconst (v := 2) x dX6_left_17 (by decide) ?_
    refine j2_callVi x hb dX6_left_18 m_X6_of (cx_of (d := d) hb (m1 := j) (w1 := 2) (by omega) (by decide)) wmX6_68 jc_10 rfl rfl rfl (Nat.le_of_ble_eq_true rfl) (j_fit_rm (by omega) (by omega) (by omega)) rfl ?_
    refine j_aload_n x dX6_left_21 rfl ?_
    refine j2_getr (k := 0) (r := 95) x hb dX6_left_22 jc_10 wfX6_9 (by decide) rfl ?_
    refine j_iconst (v := 2) x dX6_left_25 (by decide) ?_
    refine j2_ialn x hb dX6_left_26 fa_95 (j := 2) (vp_c (by decide)) (by decide) ?_
    refine j_icmp_ne (tgt := 41) x dX6_left_27 (by decide) (fun h1 => ?_) (fun h1 => ?_)
    · refine j_iinc x dX6_left_41 rfl (by decide) rfl ?_
      refine j_goto (tgt := 4) x dX6_left_44 (by decide) ?_
      exact j_goal (ih (trivial)) (wk_c rfl (wk_c (congrArg (fun z => some (Value.int z)) (jsum_f (jb_f (fun q => h1 q.1)))) (wk_c (congrArg (fun z => some (Value.int z)) (nI_1 _)) (wk_0)))) (rfl)
    · refine j_aload_n x dX6_left_30 rfl ?_
      refine j_iload_n x dX6_left_31 rfl ?_
      refine j2_callVi x hb dX6_left_32 m_X6_isPlayed (cx_isPlayed (d := d) hb (m1 := j) (by omega)) wmX6_72 jc_10 rfl rfl rfl (Nat.le_of_ble_eq_true rfl) (j_fit_rm (by omega) (by omega) (by omega)) rfl ?_
      refine j_if_ne (tgt := 41) x dX6_left_35 (by decide) (fun h2 => ?_) (fun h2 => ?_)
      · refine j_iinc x dX6_left_41 rfl (by decide) rfl ?_
        refine j_goto (tgt := 4) x dX6_left_44 (by decide) ?_
        exact j_goal (ih (trivial)) (wk_c rfl (wk_c (congrArg (fun z => some (Value.int z)) (jsum_f (jb_f (fun q => q.2 (jb_nz.mp h2))))) (wk_c (congrArg (fun z => some (Value.int z)) (nI_1 _)) (wk_0)))) (rfl)
      · refine j_iinc x dX6_left_38 rfl (by decide) rfl ?_
        refine j_iinc x dX6_left_41 rfl (by decide) rfl ?_
        refine j_goto (tgt := 4) x dX6_left_44 (by decide) ?_
        exact j_goal (ih (trivial)) (wk_c rfl (wk_c (congrArg (fun z => some (Value.int z)) (jsum_v (jb_t ⟨h1, jb_0.mp h2⟩))) (wk_c (congrArg (fun z => some (Value.int z)) (nI_1 _)) (wk_0)))) (rfl)
  refine j_iload_n x dX6_left_4 rfl ?_
  refine j_aload_n x dX6_left_5 rfl ?_
  refine j2_getr (k := 0) (r := 95) x hb dX6_left_6 jc_10 wfX6_9 (by decide) rfl ?_
  refine j_bipush (v := 9) x dX6_left_9 (by decide) ?_
  refine j2_ialn x hb dX6_left_11 fa_95 (j := 9) (vp_c (by decide)) (by decide) ?_; rw [hct]
  refine j_icmp_ge (tgt := 47) x dX6_left_12 (by decide) (fun hc => ?_) (fun hc => absurd (nI_le (Nat.le_refl _) (by omega)) hc)
  refine j_iload_n x dX6_left_47 rfl ?_
  exact j_ireturn x hr dX6_left_48 (by omega) (by omega) ⟨rfl, rfl⟩
def gGr (M : MM) (m : Nat) : Int32 := M 95 (10 + (jof M m 0).toNatClampNeg)
theorem cx_groundOf {d : Nat} {b : SBt} {Y : OUt} {M : MM} (hb : 104 ≤ b.2.1) {m1 : Nat} (hm : m1 < 56) (hho : ∃ h, h < 8 ∧ jof M m1 0 = nI h) : CM (d + 1) 0 0 yX6_groundOf cX6_groundOf 2 (some .int) [.ref 94, .int (nI m1)] b Y M (.inl (some (.int (gGr M m1)))) (M) := by
  have hix : vp_in ((10 : Int32) + jof M m1 0) 466 ∧ ((10 : Int32) + jof M m1 0).toNatClampNeg = 10 + (jof M m1 0).toNatClampNeg := by
    obtain ⟨h, h1, h2⟩ := hho
    rw [h2, show (10 : Int32) + nI h = nI (10 + h) from nI_add 10 h, nI_clamp (by omega), nI_clamp (by omega)]
    exact ⟨vp_in_nI (by omega) (by decide), rfl⟩
  refine Con.of (by decide +kernel) (Nat.le_of_ble_eq_true rfl) rfl fun p l e s m args below meth c D tyc A ad0 x hr htab hname => ?_
  change JJ _ _ _ _ _ _ _ _ _ _ _ _ _ _ _ _ _ 0 [some (.ref 94), some (.int (nI m1))] [] _ 0 0
  refine j_aload_n x dX6_groundOf_0 rfl ?_
  refine j2_getr (k := 0) (r := 95) x hb dX6_groundOf_1 jc_10 wfX6_9 (by decide) rfl ?_
  refine j_bipush (v := 10) x dX6_groundOf_4 (by decide) ?_
  refine j_aload_n x dX6_groundOf_6 rfl ?_
  refine j_iload_n x dX6_groundOf_7 rfl ?_
  refine j_iconst (v := 0) x dX6_groundOf_8 (by decide) ?_
  refine j2_callVi x hb dX6_groundOf_9 m_X6_of (cx_of (d := d) hb (m1 := m1) (w1 := 0) (by omega) (by decide)) wmX6_68 jc_10 rfl rfl rfl (Nat.le_of_ble_eq_true rfl) (j_fit_rm (by omega) (by omega) (by omega)) rfl ?_
  refine j_iadd x dX6_groundOf_12 ?_
  refine j2_ialn x hb dX6_groundOf_13 fa_95 (j := 10 + (jof M m1 0).toNatClampNeg) hix.1 hix.2 ?_
  exact j_ireturn x hr dX6_groundOf_14 (by omega) (by omega) ⟨rfl, rfl⟩
def gCl (M : MM) (q : Nat) (w : Int32) (m : Nat) : Int32 := jb (¬ m = q ∧ jof M m 2 = w ∧ gGr M m = gGr M q)
theorem cx_clashesOf {d : Nat} {b : SBt} {Y : OUt} {M : MM} (hb : 104 ≤ b.2.1) {w : Int32} {q : Nat} {n : Nat} (hn : n ≤ 56) (hct : M 95 9 = nI n) (hq : q < n) (hho : ∀ i, i < n → ∃ h, h < 8 ∧ jof M i 0 = nI h) : CM (d + 2) 0 0 yX6_clashes cX6_clashes 5 (some .int) [.ref 94, .int (nI q), .int w] b Y M (.inl (some (.int (jsum (gCl M q w) n)))) (M) := by
  refine Con.of (by decide +kernel) (Nat.le_of_ble_eq_true rfl) rfl fun p l e s m args below meth c D tyc A ad0 x hr htab hname => ?_
  change JJ _ _ _ _ _ _ _ _ _ _ _ _ _ _ _ _ _ 0 [some (.ref 94), some (.int (nI q)), some (.int w), none, none] [] _ 0 0
  refine j_iconst (v := 0) x dX6_clashes_0 (by decide) ?_
  refine j_istore_n x dX6_clashes_1 (by decide) rfl ?_
  refine j_iconst (v := 0) x dX6_clashes_2 (by decide) ?_
  refine j_istore x dX6_clashes_3 (by decide) rfl ?_
  refine j_for (n) (fun j => [some (.ref 94), some (.int (nI q)), some (.int w), some (.int (jsum (gCl M q w) j)), some (.int (nI j))]) (fun j => M) (fun j => True) (rfl) (rfl) (trivial) (fun j hj hP ih => ?_) (fun hP => ?_)
  · refine j_iload x dX6_clashes_5 rfl ?_
    refine j_aload_n x dX6_clashes_7 rfl ?_
    refine j2_getr (k := 0) (r := 95) x hb dX6_clashes_8 jc_10 wfX6_9 (by decide) rfl ?_
    refine j_bipush (v := 9) x dX6_clashes_11 (by decide) ?_
    refine j2_ialn x hb dX6_clashes_13 fa_95 (j := 9) (vp_c (by decide)) (by decide) ?_; rw [hct]
    refine j_icmp_ge (tgt := 57) x dX6_clashes_14 (by decide) (fun hc => absurd hc (nI_ge hj (by omega))) (fun hc => ?_)
    refine j_iload x dX6_clashes_17 rfl ?_
    refine j_iload_n x dX6_clashes_19 rfl ?_
    refine j_icmp_eq (tgt := 51) x dX6_clashes_20 (by decide) (fun h1 => ?_) (fun h1 => ?_)
    · refine j_iinc x dX6_clashes_51 rfl (by decide) rfl ?_
      refine j_goto (tgt := 5) x dX6_clashes_54 (by decide) ?_
      exact j_goal (ih (trivial)) (wk_c rfl (wk_c rfl (wk_c rfl (wk_c (congrArg (fun z => some (Value.int z)) (jsum_f (jb_f (fun z => z.1 ((nI_eq (by omega) (by omega)).mp h1))))) (wk_c (congrArg (fun z => some (Value.int z)) (nI_1 _)) (wk_0)))))) (rfl)
    · refine j_aload_n x dX6_clashes_23 rfl ?_
      refine j_iload x dX6_clashes_24 rfl ?_
      refine j_iconst (v := 2) x dX6_clashes_26 (by decide) ?_
      refine j2_callVi x hb dX6_clashes_27 m_X6_of (cx_of (d := d) hb (m1 := j) (w1 := 2) (by omega) (by decide)) wmX6_68 jc_10 rfl rfl rfl (Nat.le_of_ble_eq_true rfl) (j_fit_rm (by omega) (by omega) (by omega)) rfl ?_
      refine j_iload_n x dX6_clashes_30 rfl ?_
      refine j_icmp_ne (tgt := 51) x dX6_clashes_31 (by decide) (fun h2 => ?_) (fun h2 => ?_)
      · refine j_iinc x dX6_clashes_51 rfl (by decide) rfl ?_
        refine j_goto (tgt := 5) x dX6_clashes_54 (by decide) ?_
        exact j_goal (ih (trivial)) (wk_c rfl (wk_c rfl (wk_c rfl (wk_c (congrArg (fun z => some (Value.int z)) (jsum_f (jb_f (fun z => h2 z.2.1)))) (wk_c (congrArg (fun z => some (Value.int z)) (nI_1 _)) (wk_0)))))) (rfl)
      · refine j_aload_n x dX6_clashes_34 rfl ?_
        refine j_iload x dX6_clashes_35 rfl ?_
        refine j2_callVi x hb dX6_clashes_37 m_X6_groundOf (cx_groundOf (d := d) hb (m1 := j) (by omega) (hho j hj)) wmX6_137 jc_10 rfl rfl rfl (Nat.le_of_ble_eq_true rfl) (j_fit_rm (by omega) (by omega) (by omega)) rfl ?_
        refine j_aload_n x dX6_clashes_40 rfl ?_
        refine j_iload_n x dX6_clashes_41 rfl ?_
        refine j2_callVi x hb dX6_clashes_42 m_X6_groundOf (cx_groundOf (d := d) hb (m1 := q) (by omega) (hho q hq)) wmX6_137 jc_10 rfl rfl rfl (Nat.le_of_ble_eq_true rfl) (j_fit_rm (by omega) (by omega) (by omega)) rfl ?_
        refine j_icmp_ne (tgt := 51) x dX6_clashes_45 (by decide) (fun h3 => ?_) (fun h3 => ?_)
        · refine j_iinc x dX6_clashes_51 rfl (by decide) rfl ?_
          refine j_goto (tgt := 5) x dX6_clashes_54 (by decide) ?_
          exact j_goal (ih (trivial)) (wk_c rfl (wk_c rfl (wk_c rfl (wk_c (congrArg (fun z => some (Value.int z)) (jsum_f (jb_f (fun z => h3 z.2.2)))) (wk_c (congrArg (fun z => some (Value.int z)) (nI_1 _)) (wk_0)))))) (rfl)
        · refine j_iinc x dX6_clashes_48 rfl (by decide) rfl ?_
          refine j_iinc x dX6_clashes_51 rfl (by decide) rfl ?_
          refine j_goto (tgt := 5) x dX6_clashes_54 (by decide) ?_
          exact j_goal (ih (trivial)) (wk_c rfl (wk_c rfl (wk_c rfl (wk_c (congrArg (fun z => some (Value.int z)) (jsum_v (jb_t ⟨fun z => h1 (by rw [z]), h2, h3⟩))) (wk_c (congrArg (fun z => some (Value.int z)) (nI_1 _)) (wk_0)))))) (rfl)
  refine j_iload x dX6_clashes_5 rfl ?_
  refine j_aload_n x dX6_clashes_7 rfl ?_
  refine j2_getr (k := 0) (r := 95) x hb dX6_clashes_8 jc_10 wfX6_9 (by decide) rfl ?_
  refine j_bipush (v := 9) x dX6_clashes_11 (by decide) ?_
  refine j2_ialn x hb dX6_clashes_13 fa_95 (j := 9) (vp_c (by decide)) (by decide) ?_; rw [hct]
  refine j_icmp_ge (tgt := 57) x dX6_clashes_14 (by decide) (fun hc => ?_) (fun hc => absurd (nI_le (Nat.le_refl _) (by omega)) hc)
  refine j_iload_n x dX6_clashes_57 rfl ?_
  exact j_ireturn x hr dX6_clashes_58 (by omega) (by omega) ⟨rfl, rfl⟩
def gPair (M : MM) (n : Nat) (w : Int32) (m : Nat) : Int32 := if jof M m 2 = w then jsum (gCl M m w) n else 0
def gpairs (M : MM) (n : Nat) (w : Int32) : Int32 := jsum (gPair M n w) n / 2
theorem cx_clashesIn {d : Nat} {b : SBt} {Y : OUt} {M : MM} (hb : 104 ≤ b.2.1) {w : Int32} {n : Nat} (hn : n ≤ 56) (hct : M 95 9 = nI n) (hho : ∀ i, i < n → ∃ h, h < 8 ∧ jof M i 0 = nI h) : CM (d + 3) 0 0 yX6_clashesIn cX6_clashesIn 4 (some .int) [.ref 94, .int w] b Y M (.inl (some (.int (gpairs M n w)))) (M) := by
  refine Con.of (by decide +kernel) (Nat.le_of_ble_eq_true rfl) rfl fun p l e s m args below meth c D tyc A ad0 x hr htab hname => ?_
  change JJ _ _ _ _ _ _ _ _ _ _ _ _ _ _ _ _ _ 0 [some (.ref 94), some (.int w), none, none] [] _ 0 0
  refine j_iconst (v := 0) x dX6_clashesIn_0 (by decide) ?_
  refine j_istore_n x dX6_clashesIn_1 (by decide) rfl ?_
  refine j_iconst (v := 0) x dX6_clashesIn_2 (by decide) ?_
  refine j_istore_n x dX6_clashesIn_3 (by decide) rfl ?_
  refine j_for (n) (fun j => [some (.ref 94), some (.int w), some (.int (jsum (gPair M n w) j)), some (.int (nI j))]) (fun j => M) (fun j => True) (rfl) (rfl) (trivial) (fun j hj hP ih => ?_) (fun hP => ?_)
  · refine j_iload_n x dX6_clashesIn_4 rfl ?_
    refine j_aload_n x dX6_clashesIn_5 rfl ?_
    refine j2_getr (k := 0) (r := 95) x hb dX6_clashesIn_6 jc_10 wfX6_9 (by decide) rfl ?_
    refine j_bipush (v := 9) x dX6_clashesIn_9 (by decide) ?_
    refine j2_ialn x hb dX6_clashesIn_11 fa_95 (j := 9) (vp_c (by decide)) (by decide) ?_; rw [hct]
    refine j_icmp_ge (tgt := 40) x dX6_clashesIn_12 (by decide) (fun hc => absurd hc (nI_ge hj (by omega))) (fun hc => ?_)
    refine j_aload_n x dX6_clashesIn_15 rfl ?_
    refine j_iload_n x dX6_clashesIn_16 rfl ?_
    refine j_iconst (v := 2) x dX6_clashesIn_17 (by decide) ?_
    refine j2_callVi x hb dX6_clashesIn_18 m_X6_of (cx_of (d := d) hb (m1 := j) (w1 := 2) (by omega) (by decide)) wmX6_68 jc_10 rfl rfl rfl (Nat.le_of_ble_eq_true rfl) (j_fit_rm (by omega) (by omega) (by omega)) rfl ?_
    refine j_iload_n x dX6_clashesIn_21 rfl ?_
    refine j_icmp_ne (tgt := 34) x dX6_clashesIn_22 (by decide) (fun h1 => ?_) (fun h1 => ?_)
    · refine j_iinc x dX6_clashesIn_34 rfl (by decide) rfl ?_
      refine j_goto (tgt := 4) x dX6_clashesIn_37 (by decide) ?_
      exact j_goal (ih (trivial)) (wk_c rfl (wk_c rfl (wk_c (congrArg (fun z => some (Value.int z)) (jsum_f (if_neg h1))) (wk_c (congrArg (fun z => some (Value.int z)) (nI_1 _)) (wk_0))))) (rfl)
    · refine j_iload_n x dX6_clashesIn_25 rfl ?_
      refine j_aload_n x dX6_clashesIn_26 rfl ?_
      refine j_iload_n x dX6_clashesIn_27 rfl ?_
      refine j_iload_n x dX6_clashesIn_28 rfl ?_
      refine j2_callVi x hb dX6_clashesIn_29 m_X6_clashes (cx_clashesOf (d := d) hb hn hct hj hho) wmX6_143 jc_10 rfl rfl rfl (Nat.le_of_ble_eq_true rfl) (j_fit_rm (by omega) (by omega) (by omega)) rfl ?_
      refine j_iadd x dX6_clashesIn_32 ?_
      refine j_istore_n x dX6_clashesIn_33 (by decide) rfl ?_
      refine j_iinc x dX6_clashesIn_34 rfl (by decide) rfl ?_
      refine j_goto (tgt := 4) x dX6_clashesIn_37 (by decide) ?_
      exact j_goal (ih (trivial)) (wk_c rfl (wk_c rfl (wk_c (congrArg (fun z => some (Value.int z)) (jsum_v (if_pos h1))) (wk_c (congrArg (fun z => some (Value.int z)) (nI_1 _)) (wk_0))))) (rfl)
  refine j_iload_n x dX6_clashesIn_4 rfl ?_
  refine j_aload_n x dX6_clashesIn_5 rfl ?_
  refine j2_getr (k := 0) (r := 95) x hb dX6_clashesIn_6 jc_10 wfX6_9 (by decide) rfl ?_
  refine j_bipush (v := 9) x dX6_clashesIn_9 (by decide) ?_
  refine j2_ialn x hb dX6_clashesIn_11 fa_95 (j := 9) (vp_c (by decide)) (by decide) ?_; rw [hct]
  refine j_icmp_ge (tgt := 40) x dX6_clashesIn_12 (by decide) (fun hc => ?_) (fun hc => absurd (nI_le (Nat.le_refl _) (by omega)) hc)
  refine j_iload_n x dX6_clashesIn_40 rfl ?_
  refine j_iconst (v := 2) x dX6_clashesIn_41 (by decide) ?_
  refine j_idiv x dX6_clashesIn_42 (by decide) ?_
  exact j_ireturn x hr dX6_clashesIn_43 (by omega) (by omega) ⟨rfl, rfl⟩
def fHas (M : MM) (t : Int32) (k : Nat) (s : Int32) (m : Nat) : Int32 :=
  if ¬ jof M m 0 = t ∧ ¬ jof M m 1 = t then 0
  else if (s >>> ((if jof M m 0 = t then jof M m 1 else jof M m 0) &&& 31)) &&& 1 = 0 then 0
  else if ¬ jof M m 4 = 1 then (if k = 8 then 1 else 0)
  else if k = 1 then (if ¬ (if jof M m 0 = t then jof M m 6 else jof M m 7) ≤ (if jof M m 0 = t then jof M m 7 else jof M m 6) then M 95 3 else if (if jof M m 0 = t then jof M m 6 else jof M m 7) = (if jof M m 0 = t then jof M m 7 else jof M m 6) then M 95 4 else 0)
  else if k = 2 then jb (¬ (if jof M m 0 = t then jof M m 6 else jof M m 7) ≤ (if jof M m 0 = t then jof M m 7 else jof M m 6))
  else if k = 3 then jb ((if jof M m 0 = t then jof M m 6 else jof M m 7) = (if jof M m 0 = t then jof M m 7 else jof M m 6))
  else if k = 4 then jb (¬ (if jof M m 0 = t then jof M m 7 else jof M m 6) ≤ (if jof M m 0 = t then jof M m 6 else jof M m 7))
  else if k = 5 then (if jof M m 0 = t then jof M m 6 else jof M m 7)
  else if k = 6 then (if jof M m 0 = t then jof M m 7 else jof M m 6)
  else if k = 7 then (if jof M m 0 = t then 0 else jof M m 7)
  else 0
theorem cx_has_1 {d : Nat} {b : SBt} {Y : OUt} {M : MM} (hb : 104 ≤ b.2.1) {t w : Int32} {n : Nat} (hn : n ≤ 56) (hct : M 95 9 = nI n) : CM (d + 2) 0 0 yX6_has cX6_has 10 (some .int) [.ref 94, .int t, .int 1, .int w] b Y M (.inl (some (.int (jsum (fHas M t 1 w) n)))) (M) := by
  refine Con.of (by decide +kernel) (Nat.le_of_ble_eq_true rfl) rfl fun p l e s m args below meth c D tyc A ad0 x hr htab hname => ?_
  change JJ _ _ _ _ _ _ _ _ _ _ _ _ _ _ _ _ _ 0 [some (.ref 94), some (.int t), some (.int 1), some (.int w), none, none, none, none, none, none] [] _ 0 0
  refine j_iconst (v := 0) x dX6_has_0 (by decide) ?_
  refine j_istore x dX6_has_1 (by decide) rfl ?_
  refine j_iconst (v := 0) x dX6_has_3 (by decide) ?_
  refine j_istore x dX6_has_4 (by decide) rfl ?_
  refine j_for (n) (fun j => [some (.ref 94), some (.int t), some (.int 1), some (.int w), some (.int (jsum (fHas M t 1 w) j)), some (.int (nI j)), none, none, none, none]) (fun j => M) (fun j => True) (rfl) (rfl) (trivial) (fun j hj hP ih => ?_) (fun hP => ?_)
  · refine j_iload x dX6_has_6 rfl ?_
    refine j_aload_n x dX6_has_8 rfl ?_
    refine j2_getr (k := 0) (r := 95) x hb dX6_has_9 jc_10 wfX6_9 (by decide) rfl ?_
    refine j_bipush (v := 9) x dX6_has_12 (by decide) ?_
    refine j2_ialn x hb dX6_has_14 fa_95 (j := 9) (vp_c (by decide)) (by decide) ?_; rw [hct]
    refine j_icmp_ge (tgt := 317) x dX6_has_15 (by decide) (fun hc => absurd hc (nI_ge hj (by omega))) (fun hc => ?_)
    refine j_aload_n x dX6_has_18 rfl ?_
    refine j_iload x dX6_has_19 rfl ?_
    refine j_iconst (v := 0) x dX6_has_21 (by decide) ?_
    refine j2_callVi x hb dX6_has_22 m_X6_of (cx_of (d := d) hb (m1 := j) (w1 := 0) (by omega) (by decide)) wmX6_68 jc_10 rfl rfl rfl (Nat.le_of_ble_eq_true rfl) (j_fit_rm (by omega) (by omega) (by omega)) rfl ?_
    refine j_iload_n x dX6_has_25 rfl ?_
    refine j_icmp_ne (tgt := 33) x dX6_has_26 (by decide) (fun hA => ?_) (fun hA => ?_)
    · refine j_iconst (v := 0) x dX6_has_33 (by decide) ?_
      refine j_istore x dX6_has_34 (by decide) rfl ?_
      refine j_iload x dX6_has_36 rfl ?_
      refine j_if_ne (tgt := 55) x dX6_has_38 (by decide) (fun hc => absurd hc (fun q => q rfl)) (fun hc => ?_)
      refine j_aload_n x dX6_has_41 rfl ?_
      refine j_iload x dX6_has_42 rfl ?_
      refine j_iconst (v := 1) x dX6_has_44 (by decide) ?_
      refine j2_callVi x hb dX6_has_45 m_X6_of (cx_of (d := d) hb (m1 := j) (w1 := 1) (by omega) (by decide)) wmX6_68 jc_10 rfl rfl rfl (Nat.le_of_ble_eq_true rfl) (j_fit_rm (by omega) (by omega) (by omega)) rfl ?_
      refine j_iload_n x dX6_has_48 rfl ?_
      refine j_icmp_eq (tgt := 55) x dX6_has_49 (by decide) (fun hB => ?_) (fun hB => ?_)
      · refine j_iload x dX6_has_55 rfl ?_
        refine j_if_eq (tgt := 70) x dX6_has_57 (by decide) (fun hc => ?_) (fun hc => absurd (rfl) hc)
        refine j_aload_n x dX6_has_70 rfl ?_
        refine j_iload x dX6_has_71 rfl ?_
        refine j_iconst (v := 0) x dX6_has_73 (by decide) ?_
        refine j2_callVi x hb dX6_has_74 m_X6_of (cx_of (d := d) hb (m1 := j) (w1 := 0) (by omega) (by decide)) wmX6_68 jc_10 rfl rfl rfl (Nat.le_of_ble_eq_true rfl) (j_fit_rm (by omega) (by omega) (by omega)) rfl ?_
        refine j_istore x dX6_has_77 (by decide) rfl ?_
        refine j_iload_n x dX6_has_79 rfl ?_
        refine j_iload x dX6_has_80 rfl ?_
        refine j_ishr x dX6_has_82 ?_
        refine j_iconst (v := 1) x dX6_has_83 (by decide) ?_
        refine j_iand x dX6_has_84 ?_
        refine j_if_ne (tgt := 91) x dX6_has_85 (by decide) (fun hS => ?_) (fun hS => ?_)
        · refine j_aload_n x dX6_has_91 rfl ?_
          refine j_iload x dX6_has_92 rfl ?_
          refine j2_callVi x hb dX6_has_94 m_X6_isPlayed (cx_isPlayed (d := d) hb (m1 := j) (by omega)) wmX6_72 jc_10 rfl rfl rfl (Nat.le_of_ble_eq_true rfl) (j_fit_rm (by omega) (by omega) (by omega)) rfl ?_
          refine j_if_ne (tgt := 112) x dX6_has_97 (by decide) (fun hP2 => ?_) (fun hP2 => ?_)
          · refine j_aload_n x dX6_has_112 rfl ?_
            refine j_iload x dX6_has_113 rfl ?_
            refine j_iload x dX6_has_115 rfl ?_
            refine j_if_eq (tgt := 125) x dX6_has_117 (by decide) (fun hc => ?_) (fun hc => absurd (rfl) hc)
            refine j_bipush (v := 7) x dX6_has_125 (by decide) ?_
            refine j2_callVi x hb dX6_has_127 m_X6_of (cx_of (d := d) hb (m1 := j) (w1 := 7) (by omega) (by decide)) wmX6_68 jc_10 rfl rfl rfl (Nat.le_of_ble_eq_true rfl) (j_fit_rm (by omega) (by omega) (by omega)) rfl ?_
            refine j_istore x dX6_has_130 (by decide) rfl ?_
            refine j_aload_n x dX6_has_132 rfl ?_
            refine j_iload x dX6_has_133 rfl ?_
            refine j_iload x dX6_has_135 rfl ?_
            refine j_if_eq (tgt := 145) x dX6_has_137 (by decide) (fun hc => ?_) (fun hc => absurd (rfl) hc)
            refine j_bipush (v := 6) x dX6_has_145 (by decide) ?_
            refine j2_callVi x hb dX6_has_147 m_X6_of (cx_of (d := d) hb (m1 := j) (w1 := 6) (by omega) (by decide)) wmX6_68 jc_10 rfl rfl rfl (Nat.le_of_ble_eq_true rfl) (j_fit_rm (by omega) (by omega) (by omega)) rfl ?_
            refine j_istore x dX6_has_150 (by decide) rfl ?_
            refine j_iload_n x dX6_has_152 rfl ?_
            refine j_tableIn (tgt := 196) x dX6_has_153 (by decide) (by decide) rfl (by decide) ?_
            refine j_iload x dX6_has_196 rfl ?_
            refine j_iload x dX6_has_198 rfl ?_
            refine j_iload x dX6_has_200 rfl ?_
            refine j_icmp_le (tgt := 214) x dX6_has_202 (by decide) (fun g1 => ?_) (fun g1 => ?_)
            · refine j_iload x dX6_has_214 rfl ?_
              refine j_iload x dX6_has_216 rfl ?_
              refine j_icmp_ne (tgt := 230) x dX6_has_218 (by decide) (fun g2 => ?_) (fun g2 => ?_)
              · refine j_iconst (v := 0) x dX6_has_230 (by decide) ?_
                refine j_iadd x dX6_has_231 ?_
                refine j_istore x dX6_has_232 (by decide) rfl ?_
                refine j_goto (tgt := 311) x dX6_has_234 (by decide) ?_
                refine j_iinc x dX6_has_311 rfl (by decide) rfl ?_
                refine j_goto (tgt := 6) x dX6_has_314 (by decide) ?_
                exact j_goal (ih (trivial)) (wk_c rfl (wk_c rfl (wk_c rfl (wk_c rfl (wk_c (congrArg (fun z => some (Value.int z)) (jsum_v (by simp [fHas, hA, hB, hS, jb_nz.mp hP2, g1, g2]))) (wk_c (congrArg (fun z => some (Value.int z)) (nI_1 _)) (wk_n (wk_n (wk_n (wk_n (wk_0))))))))))) (rfl)
              · refine j_aload_n x dX6_has_221 rfl ?_
                refine j2_getr (k := 0) (r := 95) x hb dX6_has_222 jc_10 wfX6_9 (by decide) rfl ?_
                refine j_iconst (v := 4) x dX6_has_225 (by decide) ?_
                refine j2_ialn x hb dX6_has_226 fa_95 (j := 4) (vp_c (by decide)) (by decide) ?_
                refine j_goto (tgt := 231) x dX6_has_227 (by decide) ?_
                refine j_iadd x dX6_has_231 ?_
                refine j_istore x dX6_has_232 (by decide) rfl ?_
                refine j_goto (tgt := 311) x dX6_has_234 (by decide) ?_
                refine j_iinc x dX6_has_311 rfl (by decide) rfl ?_
                refine j_goto (tgt := 6) x dX6_has_314 (by decide) ?_
                exact j_goal (ih (trivial)) (wk_c rfl (wk_c rfl (wk_c rfl (wk_c rfl (wk_c (congrArg (fun z => some (Value.int z)) (jsum_v (by simp [fHas, hA, hB, hS, jb_nz.mp hP2, g1, g2]))) (wk_c (congrArg (fun z => some (Value.int z)) (nI_1 _)) (wk_n (wk_n (wk_n (wk_n (wk_0))))))))))) (rfl)
            · refine j_aload_n x dX6_has_205 rfl ?_
              refine j2_getr (k := 0) (r := 95) x hb dX6_has_206 jc_10 wfX6_9 (by decide) rfl ?_
              refine j_iconst (v := 3) x dX6_has_209 (by decide) ?_
              refine j2_ialn x hb dX6_has_210 fa_95 (j := 3) (vp_c (by decide)) (by decide) ?_
              refine j_goto (tgt := 231) x dX6_has_211 (by decide) ?_
              refine j_iadd x dX6_has_231 ?_
              refine j_istore x dX6_has_232 (by decide) rfl ?_
              refine j_goto (tgt := 311) x dX6_has_234 (by decide) ?_
              refine j_iinc x dX6_has_311 rfl (by decide) rfl ?_
              refine j_goto (tgt := 6) x dX6_has_314 (by decide) ?_
              exact j_goal (ih (trivial)) (wk_c rfl (wk_c rfl (wk_c rfl (wk_c rfl (wk_c (congrArg (fun z => some (Value.int z)) (jsum_v (by simp [fHas, hA, hB, hS, jb_nz.mp hP2, g1]))) (wk_c (congrArg (fun z => some (Value.int z)) (nI_1 _)) (wk_n (wk_n (wk_n (wk_n (wk_0))))))))))) (rfl)
          · refine j_iload_n x dX6_has_100 rfl ?_
            refine j_bipush (v := 8) x dX6_has_101 (by decide) ?_
            refine j_icmp_ne (tgt := 311) x dX6_has_103 (by decide) (fun hc => ?_) (fun hc => absurd hc (by decide))
            refine j_iinc x dX6_has_311 rfl (by decide) rfl ?_
            refine j_goto (tgt := 6) x dX6_has_314 (by decide) ?_
            exact j_goal (ih (trivial)) (wk_c rfl (wk_c rfl (wk_c rfl (wk_c rfl (wk_c (congrArg (fun z => some (Value.int z)) (jsum_f (by simp [fHas, hA, hB, hS, jb_0.mp hP2]))) (wk_c (congrArg (fun z => some (Value.int z)) (nI_1 _)) (wk_n (wk_n (wk_n (wk_n (wk_0))))))))))) (rfl)
        · refine j_goto (tgt := 311) x dX6_has_88 (by decide) ?_
          refine j_iinc x dX6_has_311 rfl (by decide) rfl ?_
          refine j_goto (tgt := 6) x dX6_has_314 (by decide) ?_
          exact j_goal (ih (trivial)) (wk_c rfl (wk_c rfl (wk_c rfl (wk_c rfl (wk_c (congrArg (fun z => some (Value.int z)) (jsum_f (by simp [fHas, hA, hB, hS]))) (wk_c (congrArg (fun z => some (Value.int z)) (nI_1 _)) (wk_n (wk_n (wk_n (wk_n (wk_0))))))))))) (rfl)
      · refine j_goto (tgt := 311) x dX6_has_52 (by decide) ?_
        refine j_iinc x dX6_has_311 rfl (by decide) rfl ?_
        refine j_goto (tgt := 6) x dX6_has_314 (by decide) ?_
        exact j_goal (ih (trivial)) (wk_c rfl (wk_c rfl (wk_c rfl (wk_c rfl (wk_c (congrArg (fun z => some (Value.int z)) (jsum_f (by simp [fHas, hA, hB]))) (wk_c (congrArg (fun z => some (Value.int z)) (nI_1 _)) (wk_n (wk_n (wk_n (wk_n (wk_0))))))))))) (rfl)
    · refine j_iconst (v := 1) x dX6_has_29 (by decide) ?_
      refine j_goto (tgt := 34) x dX6_has_30 (by decide) ?_
      refine j_istore x dX6_has_34 (by decide) rfl ?_
      refine j_iload x dX6_has_36 rfl ?_
      refine j_if_ne (tgt := 55) x dX6_has_38 (by decide) (fun hc => ?_) (fun hc => absurd hc (by decide))
      refine j_iload x dX6_has_55 rfl ?_
      refine j_if_eq (tgt := 70) x dX6_has_57 (by decide) (fun hc => absurd hc (by decide)) (fun hc => ?_)
      refine j_aload_n x dX6_has_60 rfl ?_
      refine j_iload x dX6_has_61 rfl ?_
      refine j_iconst (v := 1) x dX6_has_63 (by decide) ?_
      refine j2_callVi x hb dX6_has_64 m_X6_of (cx_of (d := d) hb (m1 := j) (w1 := 1) (by omega) (by decide)) wmX6_68 jc_10 rfl rfl rfl (Nat.le_of_ble_eq_true rfl) (j_fit_rm (by omega) (by omega) (by omega)) rfl ?_
      refine j_goto (tgt := 77) x dX6_has_67 (by decide) ?_
      refine j_istore x dX6_has_77 (by decide) rfl ?_
      refine j_iload_n x dX6_has_79 rfl ?_
      refine j_iload x dX6_has_80 rfl ?_
      refine j_ishr x dX6_has_82 ?_
      refine j_iconst (v := 1) x dX6_has_83 (by decide) ?_
      refine j_iand x dX6_has_84 ?_
      refine j_if_ne (tgt := 91) x dX6_has_85 (by decide) (fun hS => ?_) (fun hS => ?_)
      · refine j_aload_n x dX6_has_91 rfl ?_
        refine j_iload x dX6_has_92 rfl ?_
        refine j2_callVi x hb dX6_has_94 m_X6_isPlayed (cx_isPlayed (d := d) hb (m1 := j) (by omega)) wmX6_72 jc_10 rfl rfl rfl (Nat.le_of_ble_eq_true rfl) (j_fit_rm (by omega) (by omega) (by omega)) rfl ?_
        refine j_if_ne (tgt := 112) x dX6_has_97 (by decide) (fun hP2 => ?_) (fun hP2 => ?_)
        · refine j_aload_n x dX6_has_112 rfl ?_
          refine j_iload x dX6_has_113 rfl ?_
          refine j_iload x dX6_has_115 rfl ?_
          refine j_if_eq (tgt := 125) x dX6_has_117 (by decide) (fun hc => absurd hc (by decide)) (fun hc => ?_)
          refine j_bipush (v := 6) x dX6_has_120 (by decide) ?_
          refine j_goto (tgt := 127) x dX6_has_122 (by decide) ?_
          refine j2_callVi x hb dX6_has_127 m_X6_of (cx_of (d := d) hb (m1 := j) (w1 := 6) (by omega) (by decide)) wmX6_68 jc_10 rfl rfl rfl (Nat.le_of_ble_eq_true rfl) (j_fit_rm (by omega) (by omega) (by omega)) rfl ?_
          refine j_istore x dX6_has_130 (by decide) rfl ?_
          refine j_aload_n x dX6_has_132 rfl ?_
          refine j_iload x dX6_has_133 rfl ?_
          refine j_iload x dX6_has_135 rfl ?_
          refine j_if_eq (tgt := 145) x dX6_has_137 (by decide) (fun hc => absurd hc (by decide)) (fun hc => ?_)
          refine j_bipush (v := 7) x dX6_has_140 (by decide) ?_
          refine j_goto (tgt := 147) x dX6_has_142 (by decide) ?_
          refine j2_callVi x hb dX6_has_147 m_X6_of (cx_of (d := d) hb (m1 := j) (w1 := 7) (by omega) (by decide)) wmX6_68 jc_10 rfl rfl rfl (Nat.le_of_ble_eq_true rfl) (j_fit_rm (by omega) (by omega) (by omega)) rfl ?_
          refine j_istore x dX6_has_150 (by decide) rfl ?_
          refine j_iload_n x dX6_has_152 rfl ?_
          refine j_tableIn (tgt := 196) x dX6_has_153 (by decide) (by decide) rfl (by decide) ?_
          refine j_iload x dX6_has_196 rfl ?_
          refine j_iload x dX6_has_198 rfl ?_
          refine j_iload x dX6_has_200 rfl ?_
          refine j_icmp_le (tgt := 214) x dX6_has_202 (by decide) (fun g1 => ?_) (fun g1 => ?_)
          · refine j_iload x dX6_has_214 rfl ?_
            refine j_iload x dX6_has_216 rfl ?_
            refine j_icmp_ne (tgt := 230) x dX6_has_218 (by decide) (fun g2 => ?_) (fun g2 => ?_)
            · refine j_iconst (v := 0) x dX6_has_230 (by decide) ?_
              refine j_iadd x dX6_has_231 ?_
              refine j_istore x dX6_has_232 (by decide) rfl ?_
              refine j_goto (tgt := 311) x dX6_has_234 (by decide) ?_
              refine j_iinc x dX6_has_311 rfl (by decide) rfl ?_
              refine j_goto (tgt := 6) x dX6_has_314 (by decide) ?_
              exact j_goal (ih (trivial)) (wk_c rfl (wk_c rfl (wk_c rfl (wk_c rfl (wk_c (congrArg (fun z => some (Value.int z)) (jsum_v (by simp [fHas, hA, hS, jb_nz.mp hP2, g1, g2]))) (wk_c (congrArg (fun z => some (Value.int z)) (nI_1 _)) (wk_n (wk_n (wk_n (wk_n (wk_0))))))))))) (rfl)
            · refine j_aload_n x dX6_has_221 rfl ?_
              refine j2_getr (k := 0) (r := 95) x hb dX6_has_222 jc_10 wfX6_9 (by decide) rfl ?_
              refine j_iconst (v := 4) x dX6_has_225 (by decide) ?_
              refine j2_ialn x hb dX6_has_226 fa_95 (j := 4) (vp_c (by decide)) (by decide) ?_
              refine j_goto (tgt := 231) x dX6_has_227 (by decide) ?_
              refine j_iadd x dX6_has_231 ?_
              refine j_istore x dX6_has_232 (by decide) rfl ?_
              refine j_goto (tgt := 311) x dX6_has_234 (by decide) ?_
              refine j_iinc x dX6_has_311 rfl (by decide) rfl ?_
              refine j_goto (tgt := 6) x dX6_has_314 (by decide) ?_
              exact j_goal (ih (trivial)) (wk_c rfl (wk_c rfl (wk_c rfl (wk_c rfl (wk_c (congrArg (fun z => some (Value.int z)) (jsum_v (by simp [fHas, hA, hS, jb_nz.mp hP2, g1, g2]))) (wk_c (congrArg (fun z => some (Value.int z)) (nI_1 _)) (wk_n (wk_n (wk_n (wk_n (wk_0))))))))))) (rfl)
          · refine j_aload_n x dX6_has_205 rfl ?_
            refine j2_getr (k := 0) (r := 95) x hb dX6_has_206 jc_10 wfX6_9 (by decide) rfl ?_
            refine j_iconst (v := 3) x dX6_has_209 (by decide) ?_
            refine j2_ialn x hb dX6_has_210 fa_95 (j := 3) (vp_c (by decide)) (by decide) ?_
            refine j_goto (tgt := 231) x dX6_has_211 (by decide) ?_
            refine j_iadd x dX6_has_231 ?_
            refine j_istore x dX6_has_232 (by decide) rfl ?_
            refine j_goto (tgt := 311) x dX6_has_234 (by decide) ?_
            refine j_iinc x dX6_has_311 rfl (by decide) rfl ?_
            refine j_goto (tgt := 6) x dX6_has_314 (by decide) ?_
            exact j_goal (ih (trivial)) (wk_c rfl (wk_c rfl (wk_c rfl (wk_c rfl (wk_c (congrArg (fun z => some (Value.int z)) (jsum_v (by simp [fHas, hA, hS, jb_nz.mp hP2, g1]))) (wk_c (congrArg (fun z => some (Value.int z)) (nI_1 _)) (wk_n (wk_n (wk_n (wk_n (wk_0))))))))))) (rfl)
        · refine j_iload_n x dX6_has_100 rfl ?_
          refine j_bipush (v := 8) x dX6_has_101 (by decide) ?_
          refine j_icmp_ne (tgt := 311) x dX6_has_103 (by decide) (fun hc => ?_) (fun hc => absurd hc (by decide))
          refine j_iinc x dX6_has_311 rfl (by decide) rfl ?_
          refine j_goto (tgt := 6) x dX6_has_314 (by decide) ?_
          exact j_goal (ih (trivial)) (wk_c rfl (wk_c rfl (wk_c rfl (wk_c rfl (wk_c (congrArg (fun z => some (Value.int z)) (jsum_f (by simp [fHas, hA, hS, jb_0.mp hP2]))) (wk_c (congrArg (fun z => some (Value.int z)) (nI_1 _)) (wk_n (wk_n (wk_n (wk_n (wk_0))))))))))) (rfl)
      · refine j_goto (tgt := 311) x dX6_has_88 (by decide) ?_
        refine j_iinc x dX6_has_311 rfl (by decide) rfl ?_
        refine j_goto (tgt := 6) x dX6_has_314 (by decide) ?_
        exact j_goal (ih (trivial)) (wk_c rfl (wk_c rfl (wk_c rfl (wk_c rfl (wk_c (congrArg (fun z => some (Value.int z)) (jsum_f (by simp [fHas, hA, hS]))) (wk_c (congrArg (fun z => some (Value.int z)) (nI_1 _)) (wk_n (wk_n (wk_n (wk_n (wk_0))))))))))) (rfl)
  refine j_iload x dX6_has_6 rfl ?_
  refine j_aload_n x dX6_has_8 rfl ?_
  refine j2_getr (k := 0) (r := 95) x hb dX6_has_9 jc_10 wfX6_9 (by decide) rfl ?_
  refine j_bipush (v := 9) x dX6_has_12 (by decide) ?_
  refine j2_ialn x hb dX6_has_14 fa_95 (j := 9) (vp_c (by decide)) (by decide) ?_; rw [hct]
  refine j_icmp_ge (tgt := 317) x dX6_has_15 (by decide) (fun hc => ?_) (fun hc => absurd (nI_le (Nat.le_refl _) (by omega)) hc)
  refine j_iload x dX6_has_317 rfl ?_
  exact j_ireturn x hr dX6_has_319 (by omega) (by omega) ⟨rfl, rfl⟩
theorem cx_has2_1 {d : Nat} {b : SBt} {Y : OUt} {M : MM} (hb : 104 ≤ b.2.1) {t : Int32} {n : Nat} (hn : n ≤ 56) (hct : M 95 9 = nI n) : CM (d + 3) 0 0 yX6_has_ cX6_has_ 3 (some .int) [.ref 94, .int t, .int 1] b Y M (.inl (some (.int (jsum (fHas M t 1 (-1)) n)))) (M) := by
  refine Con.of (by decide +kernel) (Nat.le_of_ble_eq_true rfl) rfl fun p l e s m args below meth c D tyc A ad0 x hr htab hname => ?_
  change JJ _ _ _ _ _ _ _ _ _ _ _ _ _ _ _ _ _ 0 [some (.ref 94), some (.int t), some (.int 1)] [] _ 0 0
  refine j_aload_n x dX6_has__0 rfl ?_
  refine j_iload_n x dX6_has__1 rfl ?_
  refine j_iload_n x dX6_has__2 rfl ?_
  refine j_iconst (v := (-1)) x dX6_has__3 (by decide) ?_
  refine j2_callVi x hb dX6_has__4 m_X6_has (cx_has_1 (d := d) hb hn hct) wmX6_152 jc_10 rfl rfl rfl (Nat.le_of_ble_eq_true rfl) (j_fit_rm (by omega) (by omega) (by omega)) rfl ?_
  exact j_ireturn x hr dX6_has__7 (by omega) (by omega) ⟨rfl, rfl⟩
theorem cx_has_2 {d : Nat} {b : SBt} {Y : OUt} {M : MM} (hb : 104 ≤ b.2.1) {t w : Int32} {n : Nat} (hn : n ≤ 56) (hct : M 95 9 = nI n) : CM (d + 2) 0 0 yX6_has cX6_has 10 (some .int) [.ref 94, .int t, .int 2, .int w] b Y M (.inl (some (.int (jsum (fHas M t 2 w) n)))) (M) := by
  refine Con.of (by decide +kernel) (Nat.le_of_ble_eq_true rfl) rfl fun p l e s m args below meth c D tyc A ad0 x hr htab hname => ?_
  change JJ _ _ _ _ _ _ _ _ _ _ _ _ _ _ _ _ _ 0 [some (.ref 94), some (.int t), some (.int 2), some (.int w), none, none, none, none, none, none] [] _ 0 0
  refine j_iconst (v := 0) x dX6_has_0 (by decide) ?_
  refine j_istore x dX6_has_1 (by decide) rfl ?_
  refine j_iconst (v := 0) x dX6_has_3 (by decide) ?_
  refine j_istore x dX6_has_4 (by decide) rfl ?_
  refine j_for (n) (fun j => [some (.ref 94), some (.int t), some (.int 2), some (.int w), some (.int (jsum (fHas M t 2 w) j)), some (.int (nI j)), none, none, none, none]) (fun j => M) (fun j => True) (rfl) (rfl) (trivial) (fun j hj hP ih => ?_) (fun hP => ?_)
  · refine j_iload x dX6_has_6 rfl ?_
    refine j_aload_n x dX6_has_8 rfl ?_
    refine j2_getr (k := 0) (r := 95) x hb dX6_has_9 jc_10 wfX6_9 (by decide) rfl ?_
    refine j_bipush (v := 9) x dX6_has_12 (by decide) ?_
    refine j2_ialn x hb dX6_has_14 fa_95 (j := 9) (vp_c (by decide)) (by decide) ?_; rw [hct]
    refine j_icmp_ge (tgt := 317) x dX6_has_15 (by decide) (fun hc => absurd hc (nI_ge hj (by omega))) (fun hc => ?_)
    refine j_aload_n x dX6_has_18 rfl ?_
    refine j_iload x dX6_has_19 rfl ?_
    refine j_iconst (v := 0) x dX6_has_21 (by decide) ?_
    refine j2_callVi x hb dX6_has_22 m_X6_of (cx_of (d := d) hb (m1 := j) (w1 := 0) (by omega) (by decide)) wmX6_68 jc_10 rfl rfl rfl (Nat.le_of_ble_eq_true rfl) (j_fit_rm (by omega) (by omega) (by omega)) rfl ?_
    refine j_iload_n x dX6_has_25 rfl ?_
    refine j_icmp_ne (tgt := 33) x dX6_has_26 (by decide) (fun hA => ?_) (fun hA => ?_)
    · refine j_iconst (v := 0) x dX6_has_33 (by decide) ?_
      refine j_istore x dX6_has_34 (by decide) rfl ?_
      refine j_iload x dX6_has_36 rfl ?_
      refine j_if_ne (tgt := 55) x dX6_has_38 (by decide) (fun hc => absurd hc (fun q => q rfl)) (fun hc => ?_)
      refine j_aload_n x dX6_has_41 rfl ?_
      refine j_iload x dX6_has_42 rfl ?_
      refine j_iconst (v := 1) x dX6_has_44 (by decide) ?_
      refine j2_callVi x hb dX6_has_45 m_X6_of (cx_of (d := d) hb (m1 := j) (w1 := 1) (by omega) (by decide)) wmX6_68 jc_10 rfl rfl rfl (Nat.le_of_ble_eq_true rfl) (j_fit_rm (by omega) (by omega) (by omega)) rfl ?_
      refine j_iload_n x dX6_has_48 rfl ?_
      refine j_icmp_eq (tgt := 55) x dX6_has_49 (by decide) (fun hB => ?_) (fun hB => ?_)
      · refine j_iload x dX6_has_55 rfl ?_
        refine j_if_eq (tgt := 70) x dX6_has_57 (by decide) (fun hc => ?_) (fun hc => absurd (rfl) hc)
        refine j_aload_n x dX6_has_70 rfl ?_
        refine j_iload x dX6_has_71 rfl ?_
        refine j_iconst (v := 0) x dX6_has_73 (by decide) ?_
        refine j2_callVi x hb dX6_has_74 m_X6_of (cx_of (d := d) hb (m1 := j) (w1 := 0) (by omega) (by decide)) wmX6_68 jc_10 rfl rfl rfl (Nat.le_of_ble_eq_true rfl) (j_fit_rm (by omega) (by omega) (by omega)) rfl ?_
        refine j_istore x dX6_has_77 (by decide) rfl ?_
        refine j_iload_n x dX6_has_79 rfl ?_
        refine j_iload x dX6_has_80 rfl ?_
        refine j_ishr x dX6_has_82 ?_
        refine j_iconst (v := 1) x dX6_has_83 (by decide) ?_
        refine j_iand x dX6_has_84 ?_
        refine j_if_ne (tgt := 91) x dX6_has_85 (by decide) (fun hS => ?_) (fun hS => ?_)
        · refine j_aload_n x dX6_has_91 rfl ?_
          refine j_iload x dX6_has_92 rfl ?_
          refine j2_callVi x hb dX6_has_94 m_X6_isPlayed (cx_isPlayed (d := d) hb (m1 := j) (by omega)) wmX6_72 jc_10 rfl rfl rfl (Nat.le_of_ble_eq_true rfl) (j_fit_rm (by omega) (by omega) (by omega)) rfl ?_
          refine j_if_ne (tgt := 112) x dX6_has_97 (by decide) (fun hP2 => ?_) (fun hP2 => ?_)
          · refine j_aload_n x dX6_has_112 rfl ?_
            refine j_iload x dX6_has_113 rfl ?_
            refine j_iload x dX6_has_115 rfl ?_
            refine j_if_eq (tgt := 125) x dX6_has_117 (by decide) (fun hc => ?_) (fun hc => absurd (rfl) hc)
            refine j_bipush (v := 7) x dX6_has_125 (by decide) ?_
            refine j2_callVi x hb dX6_has_127 m_X6_of (cx_of (d := d) hb (m1 := j) (w1 := 7) (by omega) (by decide)) wmX6_68 jc_10 rfl rfl rfl (Nat.le_of_ble_eq_true rfl) (j_fit_rm (by omega) (by omega) (by omega)) rfl ?_
            refine j_istore x dX6_has_130 (by decide) rfl ?_
            refine j_aload_n x dX6_has_132 rfl ?_
            refine j_iload x dX6_has_133 rfl ?_
            refine j_iload x dX6_has_135 rfl ?_
            refine j_if_eq (tgt := 145) x dX6_has_137 (by decide) (fun hc => ?_) (fun hc => absurd (rfl) hc)
            refine j_bipush (v := 6) x dX6_has_145 (by decide) ?_
            refine j2_callVi x hb dX6_has_147 m_X6_of (cx_of (d := d) hb (m1 := j) (w1 := 6) (by omega) (by decide)) wmX6_68 jc_10 rfl rfl rfl (Nat.le_of_ble_eq_true rfl) (j_fit_rm (by omega) (by omega) (by omega)) rfl ?_
            refine j_istore x dX6_has_150 (by decide) rfl ?_
            refine j_iload_n x dX6_has_152 rfl ?_
            refine j_tableIn (tgt := 237) x dX6_has_153 (by decide) (by decide) rfl (by decide) ?_
            refine j_iload x dX6_has_237 rfl ?_
            refine j_iload x dX6_has_239 rfl ?_
            refine j_icmp_le (tgt := 311) x dX6_has_241 (by decide) (fun g1 => ?_) (fun g1 => ?_)
            · refine j_iinc x dX6_has_311 rfl (by decide) rfl ?_
              refine j_goto (tgt := 6) x dX6_has_314 (by decide) ?_
              exact j_goal (ih (trivial)) (wk_c rfl (wk_c rfl (wk_c rfl (wk_c rfl (wk_c (congrArg (fun z => some (Value.int z)) (jsum_f (by simp [fHas, hA, hB, hS, jb_nz.mp hP2, jb, g1]))) (wk_c (congrArg (fun z => some (Value.int z)) (nI_1 _)) (wk_n (wk_n (wk_n (wk_n (wk_0))))))))))) (rfl)
            · refine j_iinc x dX6_has_244 rfl (by decide) rfl ?_
              refine j_goto (tgt := 311) x dX6_has_247 (by decide) ?_
              refine j_iinc x dX6_has_311 rfl (by decide) rfl ?_
              refine j_goto (tgt := 6) x dX6_has_314 (by decide) ?_
              exact j_goal (ih (trivial)) (wk_c rfl (wk_c rfl (wk_c rfl (wk_c rfl (wk_c (congrArg (fun z => some (Value.int z)) (jsum_v (by simp [fHas, hA, hB, hS, jb_nz.mp hP2, jb, g1]))) (wk_c (congrArg (fun z => some (Value.int z)) (nI_1 _)) (wk_n (wk_n (wk_n (wk_n (wk_0))))))))))) (rfl)
          · refine j_iload_n x dX6_has_100 rfl ?_
            refine j_bipush (v := 8) x dX6_has_101 (by decide) ?_
            refine j_icmp_ne (tgt := 311) x dX6_has_103 (by decide) (fun hc => ?_) (fun hc => absurd hc (by decide))
            refine j_iinc x dX6_has_311 rfl (by decide) rfl ?_
            refine j_goto (tgt := 6) x dX6_has_314 (by decide) ?_
            exact j_goal (ih (trivial)) (wk_c rfl (wk_c rfl (wk_c rfl (wk_c rfl (wk_c (congrArg (fun z => some (Value.int z)) (jsum_f (by simp [fHas, hA, hB, hS, jb_0.mp hP2]))) (wk_c (congrArg (fun z => some (Value.int z)) (nI_1 _)) (wk_n (wk_n (wk_n (wk_n (wk_0))))))))))) (rfl)
        · refine j_goto (tgt := 311) x dX6_has_88 (by decide) ?_
          refine j_iinc x dX6_has_311 rfl (by decide) rfl ?_
          refine j_goto (tgt := 6) x dX6_has_314 (by decide) ?_
          exact j_goal (ih (trivial)) (wk_c rfl (wk_c rfl (wk_c rfl (wk_c rfl (wk_c (congrArg (fun z => some (Value.int z)) (jsum_f (by simp [fHas, hA, hB, hS]))) (wk_c (congrArg (fun z => some (Value.int z)) (nI_1 _)) (wk_n (wk_n (wk_n (wk_n (wk_0))))))))))) (rfl)
      · refine j_goto (tgt := 311) x dX6_has_52 (by decide) ?_
        refine j_iinc x dX6_has_311 rfl (by decide) rfl ?_
        refine j_goto (tgt := 6) x dX6_has_314 (by decide) ?_
        exact j_goal (ih (trivial)) (wk_c rfl (wk_c rfl (wk_c rfl (wk_c rfl (wk_c (congrArg (fun z => some (Value.int z)) (jsum_f (by simp [fHas, hA, hB]))) (wk_c (congrArg (fun z => some (Value.int z)) (nI_1 _)) (wk_n (wk_n (wk_n (wk_n (wk_0))))))))))) (rfl)
    · refine j_iconst (v := 1) x dX6_has_29 (by decide) ?_
      refine j_goto (tgt := 34) x dX6_has_30 (by decide) ?_
      refine j_istore x dX6_has_34 (by decide) rfl ?_
      refine j_iload x dX6_has_36 rfl ?_
      refine j_if_ne (tgt := 55) x dX6_has_38 (by decide) (fun hc => ?_) (fun hc => absurd hc (by decide))
      refine j_iload x dX6_has_55 rfl ?_
      refine j_if_eq (tgt := 70) x dX6_has_57 (by decide) (fun hc => absurd hc (by decide)) (fun hc => ?_)
      refine j_aload_n x dX6_has_60 rfl ?_
      refine j_iload x dX6_has_61 rfl ?_
      refine j_iconst (v := 1) x dX6_has_63 (by decide) ?_
      refine j2_callVi x hb dX6_has_64 m_X6_of (cx_of (d := d) hb (m1 := j) (w1 := 1) (by omega) (by decide)) wmX6_68 jc_10 rfl rfl rfl (Nat.le_of_ble_eq_true rfl) (j_fit_rm (by omega) (by omega) (by omega)) rfl ?_
      refine j_goto (tgt := 77) x dX6_has_67 (by decide) ?_
      refine j_istore x dX6_has_77 (by decide) rfl ?_
      refine j_iload_n x dX6_has_79 rfl ?_
      refine j_iload x dX6_has_80 rfl ?_
      refine j_ishr x dX6_has_82 ?_
      refine j_iconst (v := 1) x dX6_has_83 (by decide) ?_
      refine j_iand x dX6_has_84 ?_
      refine j_if_ne (tgt := 91) x dX6_has_85 (by decide) (fun hS => ?_) (fun hS => ?_)
      · refine j_aload_n x dX6_has_91 rfl ?_
        refine j_iload x dX6_has_92 rfl ?_
        refine j2_callVi x hb dX6_has_94 m_X6_isPlayed (cx_isPlayed (d := d) hb (m1 := j) (by omega)) wmX6_72 jc_10 rfl rfl rfl (Nat.le_of_ble_eq_true rfl) (j_fit_rm (by omega) (by omega) (by omega)) rfl ?_
        refine j_if_ne (tgt := 112) x dX6_has_97 (by decide) (fun hP2 => ?_) (fun hP2 => ?_)
        · refine j_aload_n x dX6_has_112 rfl ?_
          refine j_iload x dX6_has_113 rfl ?_
          refine j_iload x dX6_has_115 rfl ?_
          refine j_if_eq (tgt := 125) x dX6_has_117 (by decide) (fun hc => absurd hc (by decide)) (fun hc => ?_)
          refine j_bipush (v := 6) x dX6_has_120 (by decide) ?_
          refine j_goto (tgt := 127) x dX6_has_122 (by decide) ?_
          refine j2_callVi x hb dX6_has_127 m_X6_of (cx_of (d := d) hb (m1 := j) (w1 := 6) (by omega) (by decide)) wmX6_68 jc_10 rfl rfl rfl (Nat.le_of_ble_eq_true rfl) (j_fit_rm (by omega) (by omega) (by omega)) rfl ?_
          refine j_istore x dX6_has_130 (by decide) rfl ?_
          refine j_aload_n x dX6_has_132 rfl ?_
          refine j_iload x dX6_has_133 rfl ?_
          refine j_iload x dX6_has_135 rfl ?_
          refine j_if_eq (tgt := 145) x dX6_has_137 (by decide) (fun hc => absurd hc (by decide)) (fun hc => ?_)
          refine j_bipush (v := 7) x dX6_has_140 (by decide) ?_
          refine j_goto (tgt := 147) x dX6_has_142 (by decide) ?_
          refine j2_callVi x hb dX6_has_147 m_X6_of (cx_of (d := d) hb (m1 := j) (w1 := 7) (by omega) (by decide)) wmX6_68 jc_10 rfl rfl rfl (Nat.le_of_ble_eq_true rfl) (j_fit_rm (by omega) (by omega) (by omega)) rfl ?_
          refine j_istore x dX6_has_150 (by decide) rfl ?_
          refine j_iload_n x dX6_has_152 rfl ?_
          refine j_tableIn (tgt := 237) x dX6_has_153 (by decide) (by decide) rfl (by decide) ?_
          refine j_iload x dX6_has_237 rfl ?_
          refine j_iload x dX6_has_239 rfl ?_
          refine j_icmp_le (tgt := 311) x dX6_has_241 (by decide) (fun g1 => ?_) (fun g1 => ?_)
          · refine j_iinc x dX6_has_311 rfl (by decide) rfl ?_
            refine j_goto (tgt := 6) x dX6_has_314 (by decide) ?_
            exact j_goal (ih (trivial)) (wk_c rfl (wk_c rfl (wk_c rfl (wk_c rfl (wk_c (congrArg (fun z => some (Value.int z)) (jsum_f (by simp [fHas, hA, hS, jb_nz.mp hP2, jb, g1]))) (wk_c (congrArg (fun z => some (Value.int z)) (nI_1 _)) (wk_n (wk_n (wk_n (wk_n (wk_0))))))))))) (rfl)
          · refine j_iinc x dX6_has_244 rfl (by decide) rfl ?_
            refine j_goto (tgt := 311) x dX6_has_247 (by decide) ?_
            refine j_iinc x dX6_has_311 rfl (by decide) rfl ?_
            refine j_goto (tgt := 6) x dX6_has_314 (by decide) ?_
            exact j_goal (ih (trivial)) (wk_c rfl (wk_c rfl (wk_c rfl (wk_c rfl (wk_c (congrArg (fun z => some (Value.int z)) (jsum_v (by simp [fHas, hA, hS, jb_nz.mp hP2, jb, g1]))) (wk_c (congrArg (fun z => some (Value.int z)) (nI_1 _)) (wk_n (wk_n (wk_n (wk_n (wk_0))))))))))) (rfl)
        · refine j_iload_n x dX6_has_100 rfl ?_
          refine j_bipush (v := 8) x dX6_has_101 (by decide) ?_
          refine j_icmp_ne (tgt := 311) x dX6_has_103 (by decide) (fun hc => ?_) (fun hc => absurd hc (by decide))
          refine j_iinc x dX6_has_311 rfl (by decide) rfl ?_
          refine j_goto (tgt := 6) x dX6_has_314 (by decide) ?_
          exact j_goal (ih (trivial)) (wk_c rfl (wk_c rfl (wk_c rfl (wk_c rfl (wk_c (congrArg (fun z => some (Value.int z)) (jsum_f (by simp [fHas, hA, hS, jb_0.mp hP2]))) (wk_c (congrArg (fun z => some (Value.int z)) (nI_1 _)) (wk_n (wk_n (wk_n (wk_n (wk_0))))))))))) (rfl)
      · refine j_goto (tgt := 311) x dX6_has_88 (by decide) ?_
        refine j_iinc x dX6_has_311 rfl (by decide) rfl ?_
        refine j_goto (tgt := 6) x dX6_has_314 (by decide) ?_
        exact j_goal (ih (trivial)) (wk_c rfl (wk_c rfl (wk_c rfl (wk_c rfl (wk_c (congrArg (fun z => some (Value.int z)) (jsum_f (by simp [fHas, hA, hS]))) (wk_c (congrArg (fun z => some (Value.int z)) (nI_1 _)) (wk_n (wk_n (wk_n (wk_n (wk_0))))))))))) (rfl)
  refine j_iload x dX6_has_6 rfl ?_
  refine j_aload_n x dX6_has_8 rfl ?_
  refine j2_getr (k := 0) (r := 95) x hb dX6_has_9 jc_10 wfX6_9 (by decide) rfl ?_
  refine j_bipush (v := 9) x dX6_has_12 (by decide) ?_
  refine j2_ialn x hb dX6_has_14 fa_95 (j := 9) (vp_c (by decide)) (by decide) ?_; rw [hct]
  refine j_icmp_ge (tgt := 317) x dX6_has_15 (by decide) (fun hc => ?_) (fun hc => absurd (nI_le (Nat.le_refl _) (by omega)) hc)
  refine j_iload x dX6_has_317 rfl ?_
  exact j_ireturn x hr dX6_has_319 (by omega) (by omega) ⟨rfl, rfl⟩
theorem cx_has2_2 {d : Nat} {b : SBt} {Y : OUt} {M : MM} (hb : 104 ≤ b.2.1) {t : Int32} {n : Nat} (hn : n ≤ 56) (hct : M 95 9 = nI n) : CM (d + 3) 0 0 yX6_has_ cX6_has_ 3 (some .int) [.ref 94, .int t, .int 2] b Y M (.inl (some (.int (jsum (fHas M t 2 (-1)) n)))) (M) := by
  refine Con.of (by decide +kernel) (Nat.le_of_ble_eq_true rfl) rfl fun p l e s m args below meth c D tyc A ad0 x hr htab hname => ?_
  change JJ _ _ _ _ _ _ _ _ _ _ _ _ _ _ _ _ _ 0 [some (.ref 94), some (.int t), some (.int 2)] [] _ 0 0
  refine j_aload_n x dX6_has__0 rfl ?_
  refine j_iload_n x dX6_has__1 rfl ?_
  refine j_iload_n x dX6_has__2 rfl ?_
  refine j_iconst (v := (-1)) x dX6_has__3 (by decide) ?_
  refine j2_callVi x hb dX6_has__4 m_X6_has (cx_has_2 (d := d) hb hn hct) wmX6_152 jc_10 rfl rfl rfl (Nat.le_of_ble_eq_true rfl) (j_fit_rm (by omega) (by omega) (by omega)) rfl ?_
  exact j_ireturn x hr dX6_has__7 (by omega) (by omega) ⟨rfl, rfl⟩
theorem cx_has_3 {d : Nat} {b : SBt} {Y : OUt} {M : MM} (hb : 104 ≤ b.2.1) {t w : Int32} {n : Nat} (hn : n ≤ 56) (hct : M 95 9 = nI n) : CM (d + 2) 0 0 yX6_has cX6_has 10 (some .int) [.ref 94, .int t, .int 3, .int w] b Y M (.inl (some (.int (jsum (fHas M t 3 w) n)))) (M) := by
  refine Con.of (by decide +kernel) (Nat.le_of_ble_eq_true rfl) rfl fun p l e s m args below meth c D tyc A ad0 x hr htab hname => ?_
  change JJ _ _ _ _ _ _ _ _ _ _ _ _ _ _ _ _ _ 0 [some (.ref 94), some (.int t), some (.int 3), some (.int w), none, none, none, none, none, none] [] _ 0 0
  refine j_iconst (v := 0) x dX6_has_0 (by decide) ?_
  refine j_istore x dX6_has_1 (by decide) rfl ?_
  refine j_iconst (v := 0) x dX6_has_3 (by decide) ?_
  refine j_istore x dX6_has_4 (by decide) rfl ?_
  refine j_for (n) (fun j => [some (.ref 94), some (.int t), some (.int 3), some (.int w), some (.int (jsum (fHas M t 3 w) j)), some (.int (nI j)), none, none, none, none]) (fun j => M) (fun j => True) (rfl) (rfl) (trivial) (fun j hj hP ih => ?_) (fun hP => ?_)
  · refine j_iload x dX6_has_6 rfl ?_
    refine j_aload_n x dX6_has_8 rfl ?_
    refine j2_getr (k := 0) (r := 95) x hb dX6_has_9 jc_10 wfX6_9 (by decide) rfl ?_
    refine j_bipush (v := 9) x dX6_has_12 (by decide) ?_
    refine j2_ialn x hb dX6_has_14 fa_95 (j := 9) (vp_c (by decide)) (by decide) ?_; rw [hct]
    refine j_icmp_ge (tgt := 317) x dX6_has_15 (by decide) (fun hc => absurd hc (nI_ge hj (by omega))) (fun hc => ?_)
    refine j_aload_n x dX6_has_18 rfl ?_
    refine j_iload x dX6_has_19 rfl ?_
    refine j_iconst (v := 0) x dX6_has_21 (by decide) ?_
    refine j2_callVi x hb dX6_has_22 m_X6_of (cx_of (d := d) hb (m1 := j) (w1 := 0) (by omega) (by decide)) wmX6_68 jc_10 rfl rfl rfl (Nat.le_of_ble_eq_true rfl) (j_fit_rm (by omega) (by omega) (by omega)) rfl ?_
    refine j_iload_n x dX6_has_25 rfl ?_
    refine j_icmp_ne (tgt := 33) x dX6_has_26 (by decide) (fun hA => ?_) (fun hA => ?_)
    · refine j_iconst (v := 0) x dX6_has_33 (by decide) ?_
      refine j_istore x dX6_has_34 (by decide) rfl ?_
      refine j_iload x dX6_has_36 rfl ?_
      refine j_if_ne (tgt := 55) x dX6_has_38 (by decide) (fun hc => absurd hc (fun q => q rfl)) (fun hc => ?_)
      refine j_aload_n x dX6_has_41 rfl ?_
      refine j_iload x dX6_has_42 rfl ?_
      refine j_iconst (v := 1) x dX6_has_44 (by decide) ?_
      refine j2_callVi x hb dX6_has_45 m_X6_of (cx_of (d := d) hb (m1 := j) (w1 := 1) (by omega) (by decide)) wmX6_68 jc_10 rfl rfl rfl (Nat.le_of_ble_eq_true rfl) (j_fit_rm (by omega) (by omega) (by omega)) rfl ?_
      refine j_iload_n x dX6_has_48 rfl ?_
      refine j_icmp_eq (tgt := 55) x dX6_has_49 (by decide) (fun hB => ?_) (fun hB => ?_)
      · refine j_iload x dX6_has_55 rfl ?_
        refine j_if_eq (tgt := 70) x dX6_has_57 (by decide) (fun hc => ?_) (fun hc => absurd (rfl) hc)
        refine j_aload_n x dX6_has_70 rfl ?_
        refine j_iload x dX6_has_71 rfl ?_
        refine j_iconst (v := 0) x dX6_has_73 (by decide) ?_
        refine j2_callVi x hb dX6_has_74 m_X6_of (cx_of (d := d) hb (m1 := j) (w1 := 0) (by omega) (by decide)) wmX6_68 jc_10 rfl rfl rfl (Nat.le_of_ble_eq_true rfl) (j_fit_rm (by omega) (by omega) (by omega)) rfl ?_
        refine j_istore x dX6_has_77 (by decide) rfl ?_
        refine j_iload_n x dX6_has_79 rfl ?_
        refine j_iload x dX6_has_80 rfl ?_
        refine j_ishr x dX6_has_82 ?_
        refine j_iconst (v := 1) x dX6_has_83 (by decide) ?_
        refine j_iand x dX6_has_84 ?_
        refine j_if_ne (tgt := 91) x dX6_has_85 (by decide) (fun hS => ?_) (fun hS => ?_)
        · refine j_aload_n x dX6_has_91 rfl ?_
          refine j_iload x dX6_has_92 rfl ?_
          refine j2_callVi x hb dX6_has_94 m_X6_isPlayed (cx_isPlayed (d := d) hb (m1 := j) (by omega)) wmX6_72 jc_10 rfl rfl rfl (Nat.le_of_ble_eq_true rfl) (j_fit_rm (by omega) (by omega) (by omega)) rfl ?_
          refine j_if_ne (tgt := 112) x dX6_has_97 (by decide) (fun hP2 => ?_) (fun hP2 => ?_)
          · refine j_aload_n x dX6_has_112 rfl ?_
            refine j_iload x dX6_has_113 rfl ?_
            refine j_iload x dX6_has_115 rfl ?_
            refine j_if_eq (tgt := 125) x dX6_has_117 (by decide) (fun hc => ?_) (fun hc => absurd (rfl) hc)
            refine j_bipush (v := 7) x dX6_has_125 (by decide) ?_
            refine j2_callVi x hb dX6_has_127 m_X6_of (cx_of (d := d) hb (m1 := j) (w1 := 7) (by omega) (by decide)) wmX6_68 jc_10 rfl rfl rfl (Nat.le_of_ble_eq_true rfl) (j_fit_rm (by omega) (by omega) (by omega)) rfl ?_
            refine j_istore x dX6_has_130 (by decide) rfl ?_
            refine j_aload_n x dX6_has_132 rfl ?_
            refine j_iload x dX6_has_133 rfl ?_
            refine j_iload x dX6_has_135 rfl ?_
            refine j_if_eq (tgt := 145) x dX6_has_137 (by decide) (fun hc => ?_) (fun hc => absurd (rfl) hc)
            refine j_bipush (v := 6) x dX6_has_145 (by decide) ?_
            refine j2_callVi x hb dX6_has_147 m_X6_of (cx_of (d := d) hb (m1 := j) (w1 := 6) (by omega) (by decide)) wmX6_68 jc_10 rfl rfl rfl (Nat.le_of_ble_eq_true rfl) (j_fit_rm (by omega) (by omega) (by omega)) rfl ?_
            refine j_istore x dX6_has_150 (by decide) rfl ?_
            refine j_iload_n x dX6_has_152 rfl ?_
            refine j_tableIn (tgt := 250) x dX6_has_153 (by decide) (by decide) rfl (by decide) ?_
            refine j_iload x dX6_has_250 rfl ?_
            refine j_iload x dX6_has_252 rfl ?_
            refine j_icmp_ne (tgt := 311) x dX6_has_254 (by decide) (fun g1 => ?_) (fun g1 => ?_)
            · refine j_iinc x dX6_has_311 rfl (by decide) rfl ?_
              refine j_goto (tgt := 6) x dX6_has_314 (by decide) ?_
              exact j_goal (ih (trivial)) (wk_c rfl (wk_c rfl (wk_c rfl (wk_c rfl (wk_c (congrArg (fun z => some (Value.int z)) (jsum_f (by simp [fHas, hA, hB, hS, jb_nz.mp hP2, jb, g1]))) (wk_c (congrArg (fun z => some (Value.int z)) (nI_1 _)) (wk_n (wk_n (wk_n (wk_n (wk_0))))))))))) (rfl)
            · refine j_iinc x dX6_has_257 rfl (by decide) rfl ?_
              refine j_goto (tgt := 311) x dX6_has_260 (by decide) ?_
              refine j_iinc x dX6_has_311 rfl (by decide) rfl ?_
              refine j_goto (tgt := 6) x dX6_has_314 (by decide) ?_
              exact j_goal (ih (trivial)) (wk_c rfl (wk_c rfl (wk_c rfl (wk_c rfl (wk_c (congrArg (fun z => some (Value.int z)) (jsum_v (by simp [fHas, hA, hB, hS, jb_nz.mp hP2, jb, g1]))) (wk_c (congrArg (fun z => some (Value.int z)) (nI_1 _)) (wk_n (wk_n (wk_n (wk_n (wk_0))))))))))) (rfl)
          · refine j_iload_n x dX6_has_100 rfl ?_
            refine j_bipush (v := 8) x dX6_has_101 (by decide) ?_
            refine j_icmp_ne (tgt := 311) x dX6_has_103 (by decide) (fun hc => ?_) (fun hc => absurd hc (by decide))
            refine j_iinc x dX6_has_311 rfl (by decide) rfl ?_
            refine j_goto (tgt := 6) x dX6_has_314 (by decide) ?_
            exact j_goal (ih (trivial)) (wk_c rfl (wk_c rfl (wk_c rfl (wk_c rfl (wk_c (congrArg (fun z => some (Value.int z)) (jsum_f (by simp [fHas, hA, hB, hS, jb_0.mp hP2]))) (wk_c (congrArg (fun z => some (Value.int z)) (nI_1 _)) (wk_n (wk_n (wk_n (wk_n (wk_0))))))))))) (rfl)
        · refine j_goto (tgt := 311) x dX6_has_88 (by decide) ?_
          refine j_iinc x dX6_has_311 rfl (by decide) rfl ?_
          refine j_goto (tgt := 6) x dX6_has_314 (by decide) ?_
          exact j_goal (ih (trivial)) (wk_c rfl (wk_c rfl (wk_c rfl (wk_c rfl (wk_c (congrArg (fun z => some (Value.int z)) (jsum_f (by simp [fHas, hA, hB, hS]))) (wk_c (congrArg (fun z => some (Value.int z)) (nI_1 _)) (wk_n (wk_n (wk_n (wk_n (wk_0))))))))))) (rfl)
      · refine j_goto (tgt := 311) x dX6_has_52 (by decide) ?_
        refine j_iinc x dX6_has_311 rfl (by decide) rfl ?_
        refine j_goto (tgt := 6) x dX6_has_314 (by decide) ?_
        exact j_goal (ih (trivial)) (wk_c rfl (wk_c rfl (wk_c rfl (wk_c rfl (wk_c (congrArg (fun z => some (Value.int z)) (jsum_f (by simp [fHas, hA, hB]))) (wk_c (congrArg (fun z => some (Value.int z)) (nI_1 _)) (wk_n (wk_n (wk_n (wk_n (wk_0))))))))))) (rfl)
    · refine j_iconst (v := 1) x dX6_has_29 (by decide) ?_
      refine j_goto (tgt := 34) x dX6_has_30 (by decide) ?_
      refine j_istore x dX6_has_34 (by decide) rfl ?_
      refine j_iload x dX6_has_36 rfl ?_
      refine j_if_ne (tgt := 55) x dX6_has_38 (by decide) (fun hc => ?_) (fun hc => absurd hc (by decide))
      refine j_iload x dX6_has_55 rfl ?_
      refine j_if_eq (tgt := 70) x dX6_has_57 (by decide) (fun hc => absurd hc (by decide)) (fun hc => ?_)
      refine j_aload_n x dX6_has_60 rfl ?_
      refine j_iload x dX6_has_61 rfl ?_
      refine j_iconst (v := 1) x dX6_has_63 (by decide) ?_
      refine j2_callVi x hb dX6_has_64 m_X6_of (cx_of (d := d) hb (m1 := j) (w1 := 1) (by omega) (by decide)) wmX6_68 jc_10 rfl rfl rfl (Nat.le_of_ble_eq_true rfl) (j_fit_rm (by omega) (by omega) (by omega)) rfl ?_
      refine j_goto (tgt := 77) x dX6_has_67 (by decide) ?_
      refine j_istore x dX6_has_77 (by decide) rfl ?_
      refine j_iload_n x dX6_has_79 rfl ?_
      refine j_iload x dX6_has_80 rfl ?_
      refine j_ishr x dX6_has_82 ?_
      refine j_iconst (v := 1) x dX6_has_83 (by decide) ?_
      refine j_iand x dX6_has_84 ?_
      refine j_if_ne (tgt := 91) x dX6_has_85 (by decide) (fun hS => ?_) (fun hS => ?_)
      · refine j_aload_n x dX6_has_91 rfl ?_
        refine j_iload x dX6_has_92 rfl ?_
        refine j2_callVi x hb dX6_has_94 m_X6_isPlayed (cx_isPlayed (d := d) hb (m1 := j) (by omega)) wmX6_72 jc_10 rfl rfl rfl (Nat.le_of_ble_eq_true rfl) (j_fit_rm (by omega) (by omega) (by omega)) rfl ?_
        refine j_if_ne (tgt := 112) x dX6_has_97 (by decide) (fun hP2 => ?_) (fun hP2 => ?_)
        · refine j_aload_n x dX6_has_112 rfl ?_
          refine j_iload x dX6_has_113 rfl ?_
          refine j_iload x dX6_has_115 rfl ?_
          refine j_if_eq (tgt := 125) x dX6_has_117 (by decide) (fun hc => absurd hc (by decide)) (fun hc => ?_)
          refine j_bipush (v := 6) x dX6_has_120 (by decide) ?_
          refine j_goto (tgt := 127) x dX6_has_122 (by decide) ?_
          refine j2_callVi x hb dX6_has_127 m_X6_of (cx_of (d := d) hb (m1 := j) (w1 := 6) (by omega) (by decide)) wmX6_68 jc_10 rfl rfl rfl (Nat.le_of_ble_eq_true rfl) (j_fit_rm (by omega) (by omega) (by omega)) rfl ?_
          refine j_istore x dX6_has_130 (by decide) rfl ?_
          refine j_aload_n x dX6_has_132 rfl ?_
          refine j_iload x dX6_has_133 rfl ?_
          refine j_iload x dX6_has_135 rfl ?_
          refine j_if_eq (tgt := 145) x dX6_has_137 (by decide) (fun hc => absurd hc (by decide)) (fun hc => ?_)
          refine j_bipush (v := 7) x dX6_has_140 (by decide) ?_
          refine j_goto (tgt := 147) x dX6_has_142 (by decide) ?_
          refine j2_callVi x hb dX6_has_147 m_X6_of (cx_of (d := d) hb (m1 := j) (w1 := 7) (by omega) (by decide)) wmX6_68 jc_10 rfl rfl rfl (Nat.le_of_ble_eq_true rfl) (j_fit_rm (by omega) (by omega) (by omega)) rfl ?_
          refine j_istore x dX6_has_150 (by decide) rfl ?_
          refine j_iload_n x dX6_has_152 rfl ?_
          refine j_tableIn (tgt := 250) x dX6_has_153 (by decide) (by decide) rfl (by decide) ?_
          refine j_iload x dX6_has_250 rfl ?_
          refine j_iload x dX6_has_252 rfl ?_
          refine j_icmp_ne (tgt := 311) x dX6_has_254 (by decide) (fun g1 => ?_) (fun g1 => ?_)
          · refine j_iinc x dX6_has_311 rfl (by decide) rfl ?_
            refine j_goto (tgt := 6) x dX6_has_314 (by decide) ?_
            exact j_goal (ih (trivial)) (wk_c rfl (wk_c rfl (wk_c rfl (wk_c rfl (wk_c (congrArg (fun z => some (Value.int z)) (jsum_f (by simp [fHas, hA, hS, jb_nz.mp hP2, jb, g1]))) (wk_c (congrArg (fun z => some (Value.int z)) (nI_1 _)) (wk_n (wk_n (wk_n (wk_n (wk_0))))))))))) (rfl)
          · refine j_iinc x dX6_has_257 rfl (by decide) rfl ?_
            refine j_goto (tgt := 311) x dX6_has_260 (by decide) ?_
            refine j_iinc x dX6_has_311 rfl (by decide) rfl ?_
            refine j_goto (tgt := 6) x dX6_has_314 (by decide) ?_
            exact j_goal (ih (trivial)) (wk_c rfl (wk_c rfl (wk_c rfl (wk_c rfl (wk_c (congrArg (fun z => some (Value.int z)) (jsum_v (by simp [fHas, hA, hS, jb_nz.mp hP2, jb, g1]))) (wk_c (congrArg (fun z => some (Value.int z)) (nI_1 _)) (wk_n (wk_n (wk_n (wk_n (wk_0))))))))))) (rfl)
        · refine j_iload_n x dX6_has_100 rfl ?_
          refine j_bipush (v := 8) x dX6_has_101 (by decide) ?_
          refine j_icmp_ne (tgt := 311) x dX6_has_103 (by decide) (fun hc => ?_) (fun hc => absurd hc (by decide))
          refine j_iinc x dX6_has_311 rfl (by decide) rfl ?_
          refine j_goto (tgt := 6) x dX6_has_314 (by decide) ?_
          exact j_goal (ih (trivial)) (wk_c rfl (wk_c rfl (wk_c rfl (wk_c rfl (wk_c (congrArg (fun z => some (Value.int z)) (jsum_f (by simp [fHas, hA, hS, jb_0.mp hP2]))) (wk_c (congrArg (fun z => some (Value.int z)) (nI_1 _)) (wk_n (wk_n (wk_n (wk_n (wk_0))))))))))) (rfl)
      · refine j_goto (tgt := 311) x dX6_has_88 (by decide) ?_
        refine j_iinc x dX6_has_311 rfl (by decide) rfl ?_
        refine j_goto (tgt := 6) x dX6_has_314 (by decide) ?_
        exact j_goal (ih (trivial)) (wk_c rfl (wk_c rfl (wk_c rfl (wk_c rfl (wk_c (congrArg (fun z => some (Value.int z)) (jsum_f (by simp [fHas, hA, hS]))) (wk_c (congrArg (fun z => some (Value.int z)) (nI_1 _)) (wk_n (wk_n (wk_n (wk_n (wk_0))))))))))) (rfl)
  refine j_iload x dX6_has_6 rfl ?_
  refine j_aload_n x dX6_has_8 rfl ?_
  refine j2_getr (k := 0) (r := 95) x hb dX6_has_9 jc_10 wfX6_9 (by decide) rfl ?_
  refine j_bipush (v := 9) x dX6_has_12 (by decide) ?_
  refine j2_ialn x hb dX6_has_14 fa_95 (j := 9) (vp_c (by decide)) (by decide) ?_; rw [hct]
  refine j_icmp_ge (tgt := 317) x dX6_has_15 (by decide) (fun hc => ?_) (fun hc => absurd (nI_le (Nat.le_refl _) (by omega)) hc)
  refine j_iload x dX6_has_317 rfl ?_
  exact j_ireturn x hr dX6_has_319 (by omega) (by omega) ⟨rfl, rfl⟩
theorem cx_has2_3 {d : Nat} {b : SBt} {Y : OUt} {M : MM} (hb : 104 ≤ b.2.1) {t : Int32} {n : Nat} (hn : n ≤ 56) (hct : M 95 9 = nI n) : CM (d + 3) 0 0 yX6_has_ cX6_has_ 3 (some .int) [.ref 94, .int t, .int 3] b Y M (.inl (some (.int (jsum (fHas M t 3 (-1)) n)))) (M) := by
  refine Con.of (by decide +kernel) (Nat.le_of_ble_eq_true rfl) rfl fun p l e s m args below meth c D tyc A ad0 x hr htab hname => ?_
  change JJ _ _ _ _ _ _ _ _ _ _ _ _ _ _ _ _ _ 0 [some (.ref 94), some (.int t), some (.int 3)] [] _ 0 0
  refine j_aload_n x dX6_has__0 rfl ?_
  refine j_iload_n x dX6_has__1 rfl ?_
  refine j_iload_n x dX6_has__2 rfl ?_
  refine j_iconst (v := (-1)) x dX6_has__3 (by decide) ?_
  refine j2_callVi x hb dX6_has__4 m_X6_has (cx_has_3 (d := d) hb hn hct) wmX6_152 jc_10 rfl rfl rfl (Nat.le_of_ble_eq_true rfl) (j_fit_rm (by omega) (by omega) (by omega)) rfl ?_
  exact j_ireturn x hr dX6_has__7 (by omega) (by omega) ⟨rfl, rfl⟩
theorem cx_has_4 {d : Nat} {b : SBt} {Y : OUt} {M : MM} (hb : 104 ≤ b.2.1) {t w : Int32} {n : Nat} (hn : n ≤ 56) (hct : M 95 9 = nI n) : CM (d + 2) 0 0 yX6_has cX6_has 10 (some .int) [.ref 94, .int t, .int 4, .int w] b Y M (.inl (some (.int (jsum (fHas M t 4 w) n)))) (M) := by
  refine Con.of (by decide +kernel) (Nat.le_of_ble_eq_true rfl) rfl fun p l e s m args below meth c D tyc A ad0 x hr htab hname => ?_
  change JJ _ _ _ _ _ _ _ _ _ _ _ _ _ _ _ _ _ 0 [some (.ref 94), some (.int t), some (.int 4), some (.int w), none, none, none, none, none, none] [] _ 0 0
  refine j_iconst (v := 0) x dX6_has_0 (by decide) ?_
  refine j_istore x dX6_has_1 (by decide) rfl ?_
  refine j_iconst (v := 0) x dX6_has_3 (by decide) ?_
  refine j_istore x dX6_has_4 (by decide) rfl ?_
  refine j_for (n) (fun j => [some (.ref 94), some (.int t), some (.int 4), some (.int w), some (.int (jsum (fHas M t 4 w) j)), some (.int (nI j)), none, none, none, none]) (fun j => M) (fun j => True) (rfl) (rfl) (trivial) (fun j hj hP ih => ?_) (fun hP => ?_)
  · refine j_iload x dX6_has_6 rfl ?_
    refine j_aload_n x dX6_has_8 rfl ?_
    refine j2_getr (k := 0) (r := 95) x hb dX6_has_9 jc_10 wfX6_9 (by decide) rfl ?_
    refine j_bipush (v := 9) x dX6_has_12 (by decide) ?_
    refine j2_ialn x hb dX6_has_14 fa_95 (j := 9) (vp_c (by decide)) (by decide) ?_; rw [hct]
    refine j_icmp_ge (tgt := 317) x dX6_has_15 (by decide) (fun hc => absurd hc (nI_ge hj (by omega))) (fun hc => ?_)
    refine j_aload_n x dX6_has_18 rfl ?_
    refine j_iload x dX6_has_19 rfl ?_
    refine j_iconst (v := 0) x dX6_has_21 (by decide) ?_
    refine j2_callVi x hb dX6_has_22 m_X6_of (cx_of (d := d) hb (m1 := j) (w1 := 0) (by omega) (by decide)) wmX6_68 jc_10 rfl rfl rfl (Nat.le_of_ble_eq_true rfl) (j_fit_rm (by omega) (by omega) (by omega)) rfl ?_
    refine j_iload_n x dX6_has_25 rfl ?_
    refine j_icmp_ne (tgt := 33) x dX6_has_26 (by decide) (fun hA => ?_) (fun hA => ?_)
    · refine j_iconst (v := 0) x dX6_has_33 (by decide) ?_
      refine j_istore x dX6_has_34 (by decide) rfl ?_
      refine j_iload x dX6_has_36 rfl ?_
      refine j_if_ne (tgt := 55) x dX6_has_38 (by decide) (fun hc => absurd hc (fun q => q rfl)) (fun hc => ?_)
      refine j_aload_n x dX6_has_41 rfl ?_
      refine j_iload x dX6_has_42 rfl ?_
      refine j_iconst (v := 1) x dX6_has_44 (by decide) ?_
      refine j2_callVi x hb dX6_has_45 m_X6_of (cx_of (d := d) hb (m1 := j) (w1 := 1) (by omega) (by decide)) wmX6_68 jc_10 rfl rfl rfl (Nat.le_of_ble_eq_true rfl) (j_fit_rm (by omega) (by omega) (by omega)) rfl ?_
      refine j_iload_n x dX6_has_48 rfl ?_
      refine j_icmp_eq (tgt := 55) x dX6_has_49 (by decide) (fun hB => ?_) (fun hB => ?_)
      · refine j_iload x dX6_has_55 rfl ?_
        refine j_if_eq (tgt := 70) x dX6_has_57 (by decide) (fun hc => ?_) (fun hc => absurd (rfl) hc)
        refine j_aload_n x dX6_has_70 rfl ?_
        refine j_iload x dX6_has_71 rfl ?_
        refine j_iconst (v := 0) x dX6_has_73 (by decide) ?_
        refine j2_callVi x hb dX6_has_74 m_X6_of (cx_of (d := d) hb (m1 := j) (w1 := 0) (by omega) (by decide)) wmX6_68 jc_10 rfl rfl rfl (Nat.le_of_ble_eq_true rfl) (j_fit_rm (by omega) (by omega) (by omega)) rfl ?_
        refine j_istore x dX6_has_77 (by decide) rfl ?_
        refine j_iload_n x dX6_has_79 rfl ?_
        refine j_iload x dX6_has_80 rfl ?_
        refine j_ishr x dX6_has_82 ?_
        refine j_iconst (v := 1) x dX6_has_83 (by decide) ?_
        refine j_iand x dX6_has_84 ?_
        refine j_if_ne (tgt := 91) x dX6_has_85 (by decide) (fun hS => ?_) (fun hS => ?_)
        · refine j_aload_n x dX6_has_91 rfl ?_
          refine j_iload x dX6_has_92 rfl ?_
          refine j2_callVi x hb dX6_has_94 m_X6_isPlayed (cx_isPlayed (d := d) hb (m1 := j) (by omega)) wmX6_72 jc_10 rfl rfl rfl (Nat.le_of_ble_eq_true rfl) (j_fit_rm (by omega) (by omega) (by omega)) rfl ?_
          refine j_if_ne (tgt := 112) x dX6_has_97 (by decide) (fun hP2 => ?_) (fun hP2 => ?_)
          · refine j_aload_n x dX6_has_112 rfl ?_
            refine j_iload x dX6_has_113 rfl ?_
            refine j_iload x dX6_has_115 rfl ?_
            refine j_if_eq (tgt := 125) x dX6_has_117 (by decide) (fun hc => ?_) (fun hc => absurd (rfl) hc)
            refine j_bipush (v := 7) x dX6_has_125 (by decide) ?_
            refine j2_callVi x hb dX6_has_127 m_X6_of (cx_of (d := d) hb (m1 := j) (w1 := 7) (by omega) (by decide)) wmX6_68 jc_10 rfl rfl rfl (Nat.le_of_ble_eq_true rfl) (j_fit_rm (by omega) (by omega) (by omega)) rfl ?_
            refine j_istore x dX6_has_130 (by decide) rfl ?_
            refine j_aload_n x dX6_has_132 rfl ?_
            refine j_iload x dX6_has_133 rfl ?_
            refine j_iload x dX6_has_135 rfl ?_
            refine j_if_eq (tgt := 145) x dX6_has_137 (by decide) (fun hc => ?_) (fun hc => absurd (rfl) hc)
            refine j_bipush (v := 6) x dX6_has_145 (by decide) ?_
            refine j2_callVi x hb dX6_has_147 m_X6_of (cx_of (d := d) hb (m1 := j) (w1 := 6) (by omega) (by decide)) wmX6_68 jc_10 rfl rfl rfl (Nat.le_of_ble_eq_true rfl) (j_fit_rm (by omega) (by omega) (by omega)) rfl ?_
            refine j_istore x dX6_has_150 (by decide) rfl ?_
            refine j_iload_n x dX6_has_152 rfl ?_
            refine j_tableIn (tgt := 263) x dX6_has_153 (by decide) (by decide) rfl (by decide) ?_
            refine j_iload x dX6_has_263 rfl ?_
            refine j_iload x dX6_has_265 rfl ?_
            refine j_icmp_ge (tgt := 311) x dX6_has_267 (by decide) (fun g1 => ?_) (fun g1 => ?_)
            · refine j_iinc x dX6_has_311 rfl (by decide) rfl ?_
              refine j_goto (tgt := 6) x dX6_has_314 (by decide) ?_
              exact j_goal (ih (trivial)) (wk_c rfl (wk_c rfl (wk_c rfl (wk_c rfl (wk_c (congrArg (fun z => some (Value.int z)) (jsum_f (by simp [fHas, hA, hB, hS, jb_nz.mp hP2, jb, g1]))) (wk_c (congrArg (fun z => some (Value.int z)) (nI_1 _)) (wk_n (wk_n (wk_n (wk_n (wk_0))))))))))) (rfl)
            · refine j_iinc x dX6_has_270 rfl (by decide) rfl ?_
              refine j_goto (tgt := 311) x dX6_has_273 (by decide) ?_
              refine j_iinc x dX6_has_311 rfl (by decide) rfl ?_
              refine j_goto (tgt := 6) x dX6_has_314 (by decide) ?_
              exact j_goal (ih (trivial)) (wk_c rfl (wk_c rfl (wk_c rfl (wk_c rfl (wk_c (congrArg (fun z => some (Value.int z)) (jsum_v (by simp [fHas, hA, hB, hS, jb_nz.mp hP2, jb, g1]))) (wk_c (congrArg (fun z => some (Value.int z)) (nI_1 _)) (wk_n (wk_n (wk_n (wk_n (wk_0))))))))))) (rfl)
          · refine j_iload_n x dX6_has_100 rfl ?_
            refine j_bipush (v := 8) x dX6_has_101 (by decide) ?_
            refine j_icmp_ne (tgt := 311) x dX6_has_103 (by decide) (fun hc => ?_) (fun hc => absurd hc (by decide))
            refine j_iinc x dX6_has_311 rfl (by decide) rfl ?_
            refine j_goto (tgt := 6) x dX6_has_314 (by decide) ?_
            exact j_goal (ih (trivial)) (wk_c rfl (wk_c rfl (wk_c rfl (wk_c rfl (wk_c (congrArg (fun z => some (Value.int z)) (jsum_f (by simp [fHas, hA, hB, hS, jb_0.mp hP2]))) (wk_c (congrArg (fun z => some (Value.int z)) (nI_1 _)) (wk_n (wk_n (wk_n (wk_n (wk_0))))))))))) (rfl)
        · refine j_goto (tgt := 311) x dX6_has_88 (by decide) ?_
          refine j_iinc x dX6_has_311 rfl (by decide) rfl ?_
          refine j_goto (tgt := 6) x dX6_has_314 (by decide) ?_
          exact j_goal (ih (trivial)) (wk_c rfl (wk_c rfl (wk_c rfl (wk_c rfl (wk_c (congrArg (fun z => some (Value.int z)) (jsum_f (by simp [fHas, hA, hB, hS]))) (wk_c (congrArg (fun z => some (Value.int z)) (nI_1 _)) (wk_n (wk_n (wk_n (wk_n (wk_0))))))))))) (rfl)
      · refine j_goto (tgt := 311) x dX6_has_52 (by decide) ?_
        refine j_iinc x dX6_has_311 rfl (by decide) rfl ?_
        refine j_goto (tgt := 6) x dX6_has_314 (by decide) ?_
        exact j_goal (ih (trivial)) (wk_c rfl (wk_c rfl (wk_c rfl (wk_c rfl (wk_c (congrArg (fun z => some (Value.int z)) (jsum_f (by simp [fHas, hA, hB]))) (wk_c (congrArg (fun z => some (Value.int z)) (nI_1 _)) (wk_n (wk_n (wk_n (wk_n (wk_0))))))))))) (rfl)
    · refine j_iconst (v := 1) x dX6_has_29 (by decide) ?_
      refine j_goto (tgt := 34) x dX6_has_30 (by decide) ?_
      refine j_istore x dX6_has_34 (by decide) rfl ?_
      refine j_iload x dX6_has_36 rfl ?_
      refine j_if_ne (tgt := 55) x dX6_has_38 (by decide) (fun hc => ?_) (fun hc => absurd hc (by decide))
      refine j_iload x dX6_has_55 rfl ?_
      refine j_if_eq (tgt := 70) x dX6_has_57 (by decide) (fun hc => absurd hc (by decide)) (fun hc => ?_)
      refine j_aload_n x dX6_has_60 rfl ?_
      refine j_iload x dX6_has_61 rfl ?_
      refine j_iconst (v := 1) x dX6_has_63 (by decide) ?_
      refine j2_callVi x hb dX6_has_64 m_X6_of (cx_of (d := d) hb (m1 := j) (w1 := 1) (by omega) (by decide)) wmX6_68 jc_10 rfl rfl rfl (Nat.le_of_ble_eq_true rfl) (j_fit_rm (by omega) (by omega) (by omega)) rfl ?_
      refine j_goto (tgt := 77) x dX6_has_67 (by decide) ?_
      refine j_istore x dX6_has_77 (by decide) rfl ?_
      refine j_iload_n x dX6_has_79 rfl ?_
      refine j_iload x dX6_has_80 rfl ?_
      refine j_ishr x dX6_has_82 ?_
      refine j_iconst (v := 1) x dX6_has_83 (by decide) ?_
      refine j_iand x dX6_has_84 ?_
      refine j_if_ne (tgt := 91) x dX6_has_85 (by decide) (fun hS => ?_) (fun hS => ?_)
      · refine j_aload_n x dX6_has_91 rfl ?_
        refine j_iload x dX6_has_92 rfl ?_
        refine j2_callVi x hb dX6_has_94 m_X6_isPlayed (cx_isPlayed (d := d) hb (m1 := j) (by omega)) wmX6_72 jc_10 rfl rfl rfl (Nat.le_of_ble_eq_true rfl) (j_fit_rm (by omega) (by omega) (by omega)) rfl ?_
        refine j_if_ne (tgt := 112) x dX6_has_97 (by decide) (fun hP2 => ?_) (fun hP2 => ?_)
        · refine j_aload_n x dX6_has_112 rfl ?_
          refine j_iload x dX6_has_113 rfl ?_
          refine j_iload x dX6_has_115 rfl ?_
          refine j_if_eq (tgt := 125) x dX6_has_117 (by decide) (fun hc => absurd hc (by decide)) (fun hc => ?_)
          refine j_bipush (v := 6) x dX6_has_120 (by decide) ?_
          refine j_goto (tgt := 127) x dX6_has_122 (by decide) ?_
          refine j2_callVi x hb dX6_has_127 m_X6_of (cx_of (d := d) hb (m1 := j) (w1 := 6) (by omega) (by decide)) wmX6_68 jc_10 rfl rfl rfl (Nat.le_of_ble_eq_true rfl) (j_fit_rm (by omega) (by omega) (by omega)) rfl ?_
          refine j_istore x dX6_has_130 (by decide) rfl ?_
          refine j_aload_n x dX6_has_132 rfl ?_
          refine j_iload x dX6_has_133 rfl ?_
          refine j_iload x dX6_has_135 rfl ?_
          refine j_if_eq (tgt := 145) x dX6_has_137 (by decide) (fun hc => absurd hc (by decide)) (fun hc => ?_)
          refine j_bipush (v := 7) x dX6_has_140 (by decide) ?_
          refine j_goto (tgt := 147) x dX6_has_142 (by decide) ?_
          refine j2_callVi x hb dX6_has_147 m_X6_of (cx_of (d := d) hb (m1 := j) (w1 := 7) (by omega) (by decide)) wmX6_68 jc_10 rfl rfl rfl (Nat.le_of_ble_eq_true rfl) (j_fit_rm (by omega) (by omega) (by omega)) rfl ?_
          refine j_istore x dX6_has_150 (by decide) rfl ?_
          refine j_iload_n x dX6_has_152 rfl ?_
          refine j_tableIn (tgt := 263) x dX6_has_153 (by decide) (by decide) rfl (by decide) ?_
          refine j_iload x dX6_has_263 rfl ?_
          refine j_iload x dX6_has_265 rfl ?_
          refine j_icmp_ge (tgt := 311) x dX6_has_267 (by decide) (fun g1 => ?_) (fun g1 => ?_)
          · refine j_iinc x dX6_has_311 rfl (by decide) rfl ?_
            refine j_goto (tgt := 6) x dX6_has_314 (by decide) ?_
            exact j_goal (ih (trivial)) (wk_c rfl (wk_c rfl (wk_c rfl (wk_c rfl (wk_c (congrArg (fun z => some (Value.int z)) (jsum_f (by simp [fHas, hA, hS, jb_nz.mp hP2, jb, g1]))) (wk_c (congrArg (fun z => some (Value.int z)) (nI_1 _)) (wk_n (wk_n (wk_n (wk_n (wk_0))))))))))) (rfl)
          · refine j_iinc x dX6_has_270 rfl (by decide) rfl ?_
            refine j_goto (tgt := 311) x dX6_has_273 (by decide) ?_
            refine j_iinc x dX6_has_311 rfl (by decide) rfl ?_
            refine j_goto (tgt := 6) x dX6_has_314 (by decide) ?_
            exact j_goal (ih (trivial)) (wk_c rfl (wk_c rfl (wk_c rfl (wk_c rfl (wk_c (congrArg (fun z => some (Value.int z)) (jsum_v (by simp [fHas, hA, hS, jb_nz.mp hP2, jb, g1]))) (wk_c (congrArg (fun z => some (Value.int z)) (nI_1 _)) (wk_n (wk_n (wk_n (wk_n (wk_0))))))))))) (rfl)
        · refine j_iload_n x dX6_has_100 rfl ?_
          refine j_bipush (v := 8) x dX6_has_101 (by decide) ?_
          refine j_icmp_ne (tgt := 311) x dX6_has_103 (by decide) (fun hc => ?_) (fun hc => absurd hc (by decide))
          refine j_iinc x dX6_has_311 rfl (by decide) rfl ?_
          refine j_goto (tgt := 6) x dX6_has_314 (by decide) ?_
          exact j_goal (ih (trivial)) (wk_c rfl (wk_c rfl (wk_c rfl (wk_c rfl (wk_c (congrArg (fun z => some (Value.int z)) (jsum_f (by simp [fHas, hA, hS, jb_0.mp hP2]))) (wk_c (congrArg (fun z => some (Value.int z)) (nI_1 _)) (wk_n (wk_n (wk_n (wk_n (wk_0))))))))))) (rfl)
      · refine j_goto (tgt := 311) x dX6_has_88 (by decide) ?_
        refine j_iinc x dX6_has_311 rfl (by decide) rfl ?_
        refine j_goto (tgt := 6) x dX6_has_314 (by decide) ?_
        exact j_goal (ih (trivial)) (wk_c rfl (wk_c rfl (wk_c rfl (wk_c rfl (wk_c (congrArg (fun z => some (Value.int z)) (jsum_f (by simp [fHas, hA, hS]))) (wk_c (congrArg (fun z => some (Value.int z)) (nI_1 _)) (wk_n (wk_n (wk_n (wk_n (wk_0))))))))))) (rfl)
  refine j_iload x dX6_has_6 rfl ?_
  refine j_aload_n x dX6_has_8 rfl ?_
  refine j2_getr (k := 0) (r := 95) x hb dX6_has_9 jc_10 wfX6_9 (by decide) rfl ?_
  refine j_bipush (v := 9) x dX6_has_12 (by decide) ?_
  refine j2_ialn x hb dX6_has_14 fa_95 (j := 9) (vp_c (by decide)) (by decide) ?_; rw [hct]
  refine j_icmp_ge (tgt := 317) x dX6_has_15 (by decide) (fun hc => ?_) (fun hc => absurd (nI_le (Nat.le_refl _) (by omega)) hc)
  refine j_iload x dX6_has_317 rfl ?_
  exact j_ireturn x hr dX6_has_319 (by omega) (by omega) ⟨rfl, rfl⟩
theorem cx_has2_4 {d : Nat} {b : SBt} {Y : OUt} {M : MM} (hb : 104 ≤ b.2.1) {t : Int32} {n : Nat} (hn : n ≤ 56) (hct : M 95 9 = nI n) : CM (d + 3) 0 0 yX6_has_ cX6_has_ 3 (some .int) [.ref 94, .int t, .int 4] b Y M (.inl (some (.int (jsum (fHas M t 4 (-1)) n)))) (M) := by
  refine Con.of (by decide +kernel) (Nat.le_of_ble_eq_true rfl) rfl fun p l e s m args below meth c D tyc A ad0 x hr htab hname => ?_
  change JJ _ _ _ _ _ _ _ _ _ _ _ _ _ _ _ _ _ 0 [some (.ref 94), some (.int t), some (.int 4)] [] _ 0 0
  refine j_aload_n x dX6_has__0 rfl ?_
  refine j_iload_n x dX6_has__1 rfl ?_
  refine j_iload_n x dX6_has__2 rfl ?_
  refine j_iconst (v := (-1)) x dX6_has__3 (by decide) ?_
  refine j2_callVi x hb dX6_has__4 m_X6_has (cx_has_4 (d := d) hb hn hct) wmX6_152 jc_10 rfl rfl rfl (Nat.le_of_ble_eq_true rfl) (j_fit_rm (by omega) (by omega) (by omega)) rfl ?_
  exact j_ireturn x hr dX6_has__7 (by omega) (by omega) ⟨rfl, rfl⟩
theorem cx_has_5 {d : Nat} {b : SBt} {Y : OUt} {M : MM} (hb : 104 ≤ b.2.1) {t w : Int32} {n : Nat} (hn : n ≤ 56) (hct : M 95 9 = nI n) : CM (d + 2) 0 0 yX6_has cX6_has 10 (some .int) [.ref 94, .int t, .int 5, .int w] b Y M (.inl (some (.int (jsum (fHas M t 5 w) n)))) (M) := by
  refine Con.of (by decide +kernel) (Nat.le_of_ble_eq_true rfl) rfl fun p l e s m args below meth c D tyc A ad0 x hr htab hname => ?_
  change JJ _ _ _ _ _ _ _ _ _ _ _ _ _ _ _ _ _ 0 [some (.ref 94), some (.int t), some (.int 5), some (.int w), none, none, none, none, none, none] [] _ 0 0
  refine j_iconst (v := 0) x dX6_has_0 (by decide) ?_
  refine j_istore x dX6_has_1 (by decide) rfl ?_
  refine j_iconst (v := 0) x dX6_has_3 (by decide) ?_
  refine j_istore x dX6_has_4 (by decide) rfl ?_
  refine j_for (n) (fun j => [some (.ref 94), some (.int t), some (.int 5), some (.int w), some (.int (jsum (fHas M t 5 w) j)), some (.int (nI j)), none, none, none, none]) (fun j => M) (fun j => True) (rfl) (rfl) (trivial) (fun j hj hP ih => ?_) (fun hP => ?_)
  · refine j_iload x dX6_has_6 rfl ?_
    refine j_aload_n x dX6_has_8 rfl ?_
    refine j2_getr (k := 0) (r := 95) x hb dX6_has_9 jc_10 wfX6_9 (by decide) rfl ?_
    refine j_bipush (v := 9) x dX6_has_12 (by decide) ?_
    refine j2_ialn x hb dX6_has_14 fa_95 (j := 9) (vp_c (by decide)) (by decide) ?_; rw [hct]
    refine j_icmp_ge (tgt := 317) x dX6_has_15 (by decide) (fun hc => absurd hc (nI_ge hj (by omega))) (fun hc => ?_)
    refine j_aload_n x dX6_has_18 rfl ?_
    refine j_iload x dX6_has_19 rfl ?_
    refine j_iconst (v := 0) x dX6_has_21 (by decide) ?_
    refine j2_callVi x hb dX6_has_22 m_X6_of (cx_of (d := d) hb (m1 := j) (w1 := 0) (by omega) (by decide)) wmX6_68 jc_10 rfl rfl rfl (Nat.le_of_ble_eq_true rfl) (j_fit_rm (by omega) (by omega) (by omega)) rfl ?_
    refine j_iload_n x dX6_has_25 rfl ?_
    refine j_icmp_ne (tgt := 33) x dX6_has_26 (by decide) (fun hA => ?_) (fun hA => ?_)
    · refine j_iconst (v := 0) x dX6_has_33 (by decide) ?_
      refine j_istore x dX6_has_34 (by decide) rfl ?_
      refine j_iload x dX6_has_36 rfl ?_
      refine j_if_ne (tgt := 55) x dX6_has_38 (by decide) (fun hc => absurd hc (fun q => q rfl)) (fun hc => ?_)
      refine j_aload_n x dX6_has_41 rfl ?_
      refine j_iload x dX6_has_42 rfl ?_
      refine j_iconst (v := 1) x dX6_has_44 (by decide) ?_
      refine j2_callVi x hb dX6_has_45 m_X6_of (cx_of (d := d) hb (m1 := j) (w1 := 1) (by omega) (by decide)) wmX6_68 jc_10 rfl rfl rfl (Nat.le_of_ble_eq_true rfl) (j_fit_rm (by omega) (by omega) (by omega)) rfl ?_
      refine j_iload_n x dX6_has_48 rfl ?_
      refine j_icmp_eq (tgt := 55) x dX6_has_49 (by decide) (fun hB => ?_) (fun hB => ?_)
      · refine j_iload x dX6_has_55 rfl ?_
        refine j_if_eq (tgt := 70) x dX6_has_57 (by decide) (fun hc => ?_) (fun hc => absurd (rfl) hc)
        refine j_aload_n x dX6_has_70 rfl ?_
        refine j_iload x dX6_has_71 rfl ?_
        refine j_iconst (v := 0) x dX6_has_73 (by decide) ?_
        refine j2_callVi x hb dX6_has_74 m_X6_of (cx_of (d := d) hb (m1 := j) (w1 := 0) (by omega) (by decide)) wmX6_68 jc_10 rfl rfl rfl (Nat.le_of_ble_eq_true rfl) (j_fit_rm (by omega) (by omega) (by omega)) rfl ?_
        refine j_istore x dX6_has_77 (by decide) rfl ?_
        refine j_iload_n x dX6_has_79 rfl ?_
        refine j_iload x dX6_has_80 rfl ?_
        refine j_ishr x dX6_has_82 ?_
        refine j_iconst (v := 1) x dX6_has_83 (by decide) ?_
        refine j_iand x dX6_has_84 ?_
        refine j_if_ne (tgt := 91) x dX6_has_85 (by decide) (fun hS => ?_) (fun hS => ?_)
        · refine j_aload_n x dX6_has_91 rfl ?_
          refine j_iload x dX6_has_92 rfl ?_
          refine j2_callVi x hb dX6_has_94 m_X6_isPlayed (cx_isPlayed (d := d) hb (m1 := j) (by omega)) wmX6_72 jc_10 rfl rfl rfl (Nat.le_of_ble_eq_true rfl) (j_fit_rm (by omega) (by omega) (by omega)) rfl ?_
          refine j_if_ne (tgt := 112) x dX6_has_97 (by decide) (fun hP2 => ?_) (fun hP2 => ?_)
          · refine j_aload_n x dX6_has_112 rfl ?_
            refine j_iload x dX6_has_113 rfl ?_
            refine j_iload x dX6_has_115 rfl ?_
            refine j_if_eq (tgt := 125) x dX6_has_117 (by decide) (fun hc => ?_) (fun hc => absurd (rfl) hc)
            refine j_bipush (v := 7) x dX6_has_125 (by decide) ?_
            refine j2_callVi x hb dX6_has_127 m_X6_of (cx_of (d := d) hb (m1 := j) (w1 := 7) (by omega) (by decide)) wmX6_68 jc_10 rfl rfl rfl (Nat.le_of_ble_eq_true rfl) (j_fit_rm (by omega) (by omega) (by omega)) rfl ?_
            refine j_istore x dX6_has_130 (by decide) rfl ?_
            refine j_aload_n x dX6_has_132 rfl ?_
            refine j_iload x dX6_has_133 rfl ?_
            refine j_iload x dX6_has_135 rfl ?_
            refine j_if_eq (tgt := 145) x dX6_has_137 (by decide) (fun hc => ?_) (fun hc => absurd (rfl) hc)
            refine j_bipush (v := 6) x dX6_has_145 (by decide) ?_
            refine j2_callVi x hb dX6_has_147 m_X6_of (cx_of (d := d) hb (m1 := j) (w1 := 6) (by omega) (by decide)) wmX6_68 jc_10 rfl rfl rfl (Nat.le_of_ble_eq_true rfl) (j_fit_rm (by omega) (by omega) (by omega)) rfl ?_
            refine j_istore x dX6_has_150 (by decide) rfl ?_
            refine j_iload_n x dX6_has_152 rfl ?_
            refine j_tableIn (tgt := 276) x dX6_has_153 (by decide) (by decide) rfl (by decide) ?_
            refine j_iload x dX6_has_276 rfl ?_
            refine j_iload x dX6_has_278 rfl ?_
            refine j_iadd x dX6_has_280 ?_
            refine j_istore x dX6_has_281 (by decide) rfl ?_
            refine j_goto (tgt := 311) x dX6_has_283 (by decide) ?_
            refine j_iinc x dX6_has_311 rfl (by decide) rfl ?_
            refine j_goto (tgt := 6) x dX6_has_314 (by decide) ?_
            exact j_goal (ih (trivial)) (wk_c rfl (wk_c rfl (wk_c rfl (wk_c rfl (wk_c (congrArg (fun z => some (Value.int z)) (jsum_v (by simp [fHas, hA, hB, hS, jb_nz.mp hP2]))) (wk_c (congrArg (fun z => some (Value.int z)) (nI_1 _)) (wk_n (wk_n (wk_n (wk_n (wk_0))))))))))) (rfl)
          · refine j_iload_n x dX6_has_100 rfl ?_
            refine j_bipush (v := 8) x dX6_has_101 (by decide) ?_
            refine j_icmp_ne (tgt := 311) x dX6_has_103 (by decide) (fun hc => ?_) (fun hc => absurd hc (by decide))
            refine j_iinc x dX6_has_311 rfl (by decide) rfl ?_
            refine j_goto (tgt := 6) x dX6_has_314 (by decide) ?_
            exact j_goal (ih (trivial)) (wk_c rfl (wk_c rfl (wk_c rfl (wk_c rfl (wk_c (congrArg (fun z => some (Value.int z)) (jsum_f (by simp [fHas, hA, hB, hS, jb_0.mp hP2]))) (wk_c (congrArg (fun z => some (Value.int z)) (nI_1 _)) (wk_n (wk_n (wk_n (wk_n (wk_0))))))))))) (rfl)
        · refine j_goto (tgt := 311) x dX6_has_88 (by decide) ?_
          refine j_iinc x dX6_has_311 rfl (by decide) rfl ?_
          refine j_goto (tgt := 6) x dX6_has_314 (by decide) ?_
          exact j_goal (ih (trivial)) (wk_c rfl (wk_c rfl (wk_c rfl (wk_c rfl (wk_c (congrArg (fun z => some (Value.int z)) (jsum_f (by simp [fHas, hA, hB, hS]))) (wk_c (congrArg (fun z => some (Value.int z)) (nI_1 _)) (wk_n (wk_n (wk_n (wk_n (wk_0))))))))))) (rfl)
      · refine j_goto (tgt := 311) x dX6_has_52 (by decide) ?_
        refine j_iinc x dX6_has_311 rfl (by decide) rfl ?_
        refine j_goto (tgt := 6) x dX6_has_314 (by decide) ?_
        exact j_goal (ih (trivial)) (wk_c rfl (wk_c rfl (wk_c rfl (wk_c rfl (wk_c (congrArg (fun z => some (Value.int z)) (jsum_f (by simp [fHas, hA, hB]))) (wk_c (congrArg (fun z => some (Value.int z)) (nI_1 _)) (wk_n (wk_n (wk_n (wk_n (wk_0))))))))))) (rfl)
    · refine j_iconst (v := 1) x dX6_has_29 (by decide) ?_
      refine j_goto (tgt := 34) x dX6_has_30 (by decide) ?_
      refine j_istore x dX6_has_34 (by decide) rfl ?_
      refine j_iload x dX6_has_36 rfl ?_
      refine j_if_ne (tgt := 55) x dX6_has_38 (by decide) (fun hc => ?_) (fun hc => absurd hc (by decide))
      refine j_iload x dX6_has_55 rfl ?_
      refine j_if_eq (tgt := 70) x dX6_has_57 (by decide) (fun hc => absurd hc (by decide)) (fun hc => ?_)
      refine j_aload_n x dX6_has_60 rfl ?_
      refine j_iload x dX6_has_61 rfl ?_
      refine j_iconst (v := 1) x dX6_has_63 (by decide) ?_
      refine j2_callVi x hb dX6_has_64 m_X6_of (cx_of (d := d) hb (m1 := j) (w1 := 1) (by omega) (by decide)) wmX6_68 jc_10 rfl rfl rfl (Nat.le_of_ble_eq_true rfl) (j_fit_rm (by omega) (by omega) (by omega)) rfl ?_
      refine j_goto (tgt := 77) x dX6_has_67 (by decide) ?_
      refine j_istore x dX6_has_77 (by decide) rfl ?_
      refine j_iload_n x dX6_has_79 rfl ?_
      refine j_iload x dX6_has_80 rfl ?_
      refine j_ishr x dX6_has_82 ?_
      refine j_iconst (v := 1) x dX6_has_83 (by decide) ?_
      refine j_iand x dX6_has_84 ?_
      refine j_if_ne (tgt := 91) x dX6_has_85 (by decide) (fun hS => ?_) (fun hS => ?_)
      · refine j_aload_n x dX6_has_91 rfl ?_
        refine j_iload x dX6_has_92 rfl ?_
        refine j2_callVi x hb dX6_has_94 m_X6_isPlayed (cx_isPlayed (d := d) hb (m1 := j) (by omega)) wmX6_72 jc_10 rfl rfl rfl (Nat.le_of_ble_eq_true rfl) (j_fit_rm (by omega) (by omega) (by omega)) rfl ?_
        refine j_if_ne (tgt := 112) x dX6_has_97 (by decide) (fun hP2 => ?_) (fun hP2 => ?_)
        · refine j_aload_n x dX6_has_112 rfl ?_
          refine j_iload x dX6_has_113 rfl ?_
          refine j_iload x dX6_has_115 rfl ?_
          refine j_if_eq (tgt := 125) x dX6_has_117 (by decide) (fun hc => absurd hc (by decide)) (fun hc => ?_)
          refine j_bipush (v := 6) x dX6_has_120 (by decide) ?_
          refine j_goto (tgt := 127) x dX6_has_122 (by decide) ?_
          refine j2_callVi x hb dX6_has_127 m_X6_of (cx_of (d := d) hb (m1 := j) (w1 := 6) (by omega) (by decide)) wmX6_68 jc_10 rfl rfl rfl (Nat.le_of_ble_eq_true rfl) (j_fit_rm (by omega) (by omega) (by omega)) rfl ?_
          refine j_istore x dX6_has_130 (by decide) rfl ?_
          refine j_aload_n x dX6_has_132 rfl ?_
          refine j_iload x dX6_has_133 rfl ?_
          refine j_iload x dX6_has_135 rfl ?_
          refine j_if_eq (tgt := 145) x dX6_has_137 (by decide) (fun hc => absurd hc (by decide)) (fun hc => ?_)
          refine j_bipush (v := 7) x dX6_has_140 (by decide) ?_
          refine j_goto (tgt := 147) x dX6_has_142 (by decide) ?_
          refine j2_callVi x hb dX6_has_147 m_X6_of (cx_of (d := d) hb (m1 := j) (w1 := 7) (by omega) (by decide)) wmX6_68 jc_10 rfl rfl rfl (Nat.le_of_ble_eq_true rfl) (j_fit_rm (by omega) (by omega) (by omega)) rfl ?_
          refine j_istore x dX6_has_150 (by decide) rfl ?_
          refine j_iload_n x dX6_has_152 rfl ?_
          refine j_tableIn (tgt := 276) x dX6_has_153 (by decide) (by decide) rfl (by decide) ?_
          refine j_iload x dX6_has_276 rfl ?_
          refine j_iload x dX6_has_278 rfl ?_
          refine j_iadd x dX6_has_280 ?_
          refine j_istore x dX6_has_281 (by decide) rfl ?_
          refine j_goto (tgt := 311) x dX6_has_283 (by decide) ?_
          refine j_iinc x dX6_has_311 rfl (by decide) rfl ?_
          refine j_goto (tgt := 6) x dX6_has_314 (by decide) ?_
          exact j_goal (ih (trivial)) (wk_c rfl (wk_c rfl (wk_c rfl (wk_c rfl (wk_c (congrArg (fun z => some (Value.int z)) (jsum_v (by simp [fHas, hA, hS, jb_nz.mp hP2]))) (wk_c (congrArg (fun z => some (Value.int z)) (nI_1 _)) (wk_n (wk_n (wk_n (wk_n (wk_0))))))))))) (rfl)
        · refine j_iload_n x dX6_has_100 rfl ?_
          refine j_bipush (v := 8) x dX6_has_101 (by decide) ?_
          refine j_icmp_ne (tgt := 311) x dX6_has_103 (by decide) (fun hc => ?_) (fun hc => absurd hc (by decide))
          refine j_iinc x dX6_has_311 rfl (by decide) rfl ?_
          refine j_goto (tgt := 6) x dX6_has_314 (by decide) ?_
          exact j_goal (ih (trivial)) (wk_c rfl (wk_c rfl (wk_c rfl (wk_c rfl (wk_c (congrArg (fun z => some (Value.int z)) (jsum_f (by simp [fHas, hA, hS, jb_0.mp hP2]))) (wk_c (congrArg (fun z => some (Value.int z)) (nI_1 _)) (wk_n (wk_n (wk_n (wk_n (wk_0))))))))))) (rfl)
      · refine j_goto (tgt := 311) x dX6_has_88 (by decide) ?_
        refine j_iinc x dX6_has_311 rfl (by decide) rfl ?_
        refine j_goto (tgt := 6) x dX6_has_314 (by decide) ?_
        exact j_goal (ih (trivial)) (wk_c rfl (wk_c rfl (wk_c rfl (wk_c rfl (wk_c (congrArg (fun z => some (Value.int z)) (jsum_f (by simp [fHas, hA, hS]))) (wk_c (congrArg (fun z => some (Value.int z)) (nI_1 _)) (wk_n (wk_n (wk_n (wk_n (wk_0))))))))))) (rfl)
  refine j_iload x dX6_has_6 rfl ?_
  refine j_aload_n x dX6_has_8 rfl ?_
  refine j2_getr (k := 0) (r := 95) x hb dX6_has_9 jc_10 wfX6_9 (by decide) rfl ?_
  refine j_bipush (v := 9) x dX6_has_12 (by decide) ?_
  refine j2_ialn x hb dX6_has_14 fa_95 (j := 9) (vp_c (by decide)) (by decide) ?_; rw [hct]
  refine j_icmp_ge (tgt := 317) x dX6_has_15 (by decide) (fun hc => ?_) (fun hc => absurd (nI_le (Nat.le_refl _) (by omega)) hc)
  refine j_iload x dX6_has_317 rfl ?_
  exact j_ireturn x hr dX6_has_319 (by omega) (by omega) ⟨rfl, rfl⟩
theorem cx_has2_5 {d : Nat} {b : SBt} {Y : OUt} {M : MM} (hb : 104 ≤ b.2.1) {t : Int32} {n : Nat} (hn : n ≤ 56) (hct : M 95 9 = nI n) : CM (d + 3) 0 0 yX6_has_ cX6_has_ 3 (some .int) [.ref 94, .int t, .int 5] b Y M (.inl (some (.int (jsum (fHas M t 5 (-1)) n)))) (M) := by
  refine Con.of (by decide +kernel) (Nat.le_of_ble_eq_true rfl) rfl fun p l e s m args below meth c D tyc A ad0 x hr htab hname => ?_
  change JJ _ _ _ _ _ _ _ _ _ _ _ _ _ _ _ _ _ 0 [some (.ref 94), some (.int t), some (.int 5)] [] _ 0 0
  refine j_aload_n x dX6_has__0 rfl ?_
  refine j_iload_n x dX6_has__1 rfl ?_
  refine j_iload_n x dX6_has__2 rfl ?_
  refine j_iconst (v := (-1)) x dX6_has__3 (by decide) ?_
  refine j2_callVi x hb dX6_has__4 m_X6_has (cx_has_5 (d := d) hb hn hct) wmX6_152 jc_10 rfl rfl rfl (Nat.le_of_ble_eq_true rfl) (j_fit_rm (by omega) (by omega) (by omega)) rfl ?_
  exact j_ireturn x hr dX6_has__7 (by omega) (by omega) ⟨rfl, rfl⟩
theorem cx_has_6 {d : Nat} {b : SBt} {Y : OUt} {M : MM} (hb : 104 ≤ b.2.1) {t w : Int32} {n : Nat} (hn : n ≤ 56) (hct : M 95 9 = nI n) : CM (d + 2) 0 0 yX6_has cX6_has 10 (some .int) [.ref 94, .int t, .int 6, .int w] b Y M (.inl (some (.int (jsum (fHas M t 6 w) n)))) (M) := by
  refine Con.of (by decide +kernel) (Nat.le_of_ble_eq_true rfl) rfl fun p l e s m args below meth c D tyc A ad0 x hr htab hname => ?_
  change JJ _ _ _ _ _ _ _ _ _ _ _ _ _ _ _ _ _ 0 [some (.ref 94), some (.int t), some (.int 6), some (.int w), none, none, none, none, none, none] [] _ 0 0
  refine j_iconst (v := 0) x dX6_has_0 (by decide) ?_
  refine j_istore x dX6_has_1 (by decide) rfl ?_
  refine j_iconst (v := 0) x dX6_has_3 (by decide) ?_
  refine j_istore x dX6_has_4 (by decide) rfl ?_
  refine j_for (n) (fun j => [some (.ref 94), some (.int t), some (.int 6), some (.int w), some (.int (jsum (fHas M t 6 w) j)), some (.int (nI j)), none, none, none, none]) (fun j => M) (fun j => True) (rfl) (rfl) (trivial) (fun j hj hP ih => ?_) (fun hP => ?_)
  · refine j_iload x dX6_has_6 rfl ?_
    refine j_aload_n x dX6_has_8 rfl ?_
    refine j2_getr (k := 0) (r := 95) x hb dX6_has_9 jc_10 wfX6_9 (by decide) rfl ?_
    refine j_bipush (v := 9) x dX6_has_12 (by decide) ?_
    refine j2_ialn x hb dX6_has_14 fa_95 (j := 9) (vp_c (by decide)) (by decide) ?_; rw [hct]
    refine j_icmp_ge (tgt := 317) x dX6_has_15 (by decide) (fun hc => absurd hc (nI_ge hj (by omega))) (fun hc => ?_)
    refine j_aload_n x dX6_has_18 rfl ?_
    refine j_iload x dX6_has_19 rfl ?_
    refine j_iconst (v := 0) x dX6_has_21 (by decide) ?_
    refine j2_callVi x hb dX6_has_22 m_X6_of (cx_of (d := d) hb (m1 := j) (w1 := 0) (by omega) (by decide)) wmX6_68 jc_10 rfl rfl rfl (Nat.le_of_ble_eq_true rfl) (j_fit_rm (by omega) (by omega) (by omega)) rfl ?_
    refine j_iload_n x dX6_has_25 rfl ?_
    refine j_icmp_ne (tgt := 33) x dX6_has_26 (by decide) (fun hA => ?_) (fun hA => ?_)
    · refine j_iconst (v := 0) x dX6_has_33 (by decide) ?_
      refine j_istore x dX6_has_34 (by decide) rfl ?_
      refine j_iload x dX6_has_36 rfl ?_
      refine j_if_ne (tgt := 55) x dX6_has_38 (by decide) (fun hc => absurd hc (fun q => q rfl)) (fun hc => ?_)
      refine j_aload_n x dX6_has_41 rfl ?_
      refine j_iload x dX6_has_42 rfl ?_
      refine j_iconst (v := 1) x dX6_has_44 (by decide) ?_
      refine j2_callVi x hb dX6_has_45 m_X6_of (cx_of (d := d) hb (m1 := j) (w1 := 1) (by omega) (by decide)) wmX6_68 jc_10 rfl rfl rfl (Nat.le_of_ble_eq_true rfl) (j_fit_rm (by omega) (by omega) (by omega)) rfl ?_
      refine j_iload_n x dX6_has_48 rfl ?_
      refine j_icmp_eq (tgt := 55) x dX6_has_49 (by decide) (fun hB => ?_) (fun hB => ?_)
      · refine j_iload x dX6_has_55 rfl ?_
        refine j_if_eq (tgt := 70) x dX6_has_57 (by decide) (fun hc => ?_) (fun hc => absurd (rfl) hc)
        refine j_aload_n x dX6_has_70 rfl ?_
        refine j_iload x dX6_has_71 rfl ?_
        refine j_iconst (v := 0) x dX6_has_73 (by decide) ?_
        refine j2_callVi x hb dX6_has_74 m_X6_of (cx_of (d := d) hb (m1 := j) (w1 := 0) (by omega) (by decide)) wmX6_68 jc_10 rfl rfl rfl (Nat.le_of_ble_eq_true rfl) (j_fit_rm (by omega) (by omega) (by omega)) rfl ?_
        refine j_istore x dX6_has_77 (by decide) rfl ?_
        refine j_iload_n x dX6_has_79 rfl ?_
        refine j_iload x dX6_has_80 rfl ?_
        refine j_ishr x dX6_has_82 ?_
        refine j_iconst (v := 1) x dX6_has_83 (by decide) ?_
        refine j_iand x dX6_has_84 ?_
        refine j_if_ne (tgt := 91) x dX6_has_85 (by decide) (fun hS => ?_) (fun hS => ?_)
        · refine j_aload_n x dX6_has_91 rfl ?_
          refine j_iload x dX6_has_92 rfl ?_
          refine j2_callVi x hb dX6_has_94 m_X6_isPlayed (cx_isPlayed (d := d) hb (m1 := j) (by omega)) wmX6_72 jc_10 rfl rfl rfl (Nat.le_of_ble_eq_true rfl) (j_fit_rm (by omega) (by omega) (by omega)) rfl ?_
          refine j_if_ne (tgt := 112) x dX6_has_97 (by decide) (fun hP2 => ?_) (fun hP2 => ?_)
          · refine j_aload_n x dX6_has_112 rfl ?_
            refine j_iload x dX6_has_113 rfl ?_
            refine j_iload x dX6_has_115 rfl ?_
            refine j_if_eq (tgt := 125) x dX6_has_117 (by decide) (fun hc => ?_) (fun hc => absurd (rfl) hc)
            refine j_bipush (v := 7) x dX6_has_125 (by decide) ?_
            refine j2_callVi x hb dX6_has_127 m_X6_of (cx_of (d := d) hb (m1 := j) (w1 := 7) (by omega) (by decide)) wmX6_68 jc_10 rfl rfl rfl (Nat.le_of_ble_eq_true rfl) (j_fit_rm (by omega) (by omega) (by omega)) rfl ?_
            refine j_istore x dX6_has_130 (by decide) rfl ?_
            refine j_aload_n x dX6_has_132 rfl ?_
            refine j_iload x dX6_has_133 rfl ?_
            refine j_iload x dX6_has_135 rfl ?_
            refine j_if_eq (tgt := 145) x dX6_has_137 (by decide) (fun hc => ?_) (fun hc => absurd (rfl) hc)
            refine j_bipush (v := 6) x dX6_has_145 (by decide) ?_
            refine j2_callVi x hb dX6_has_147 m_X6_of (cx_of (d := d) hb (m1 := j) (w1 := 6) (by omega) (by decide)) wmX6_68 jc_10 rfl rfl rfl (Nat.le_of_ble_eq_true rfl) (j_fit_rm (by omega) (by omega) (by omega)) rfl ?_
            refine j_istore x dX6_has_150 (by decide) rfl ?_
            refine j_iload_n x dX6_has_152 rfl ?_
            refine j_tableIn (tgt := 286) x dX6_has_153 (by decide) (by decide) rfl (by decide) ?_
            refine j_iload x dX6_has_286 rfl ?_
            refine j_iload x dX6_has_288 rfl ?_
            refine j_iadd x dX6_has_290 ?_
            refine j_istore x dX6_has_291 (by decide) rfl ?_
            refine j_goto (tgt := 311) x dX6_has_293 (by decide) ?_
            refine j_iinc x dX6_has_311 rfl (by decide) rfl ?_
            refine j_goto (tgt := 6) x dX6_has_314 (by decide) ?_
            exact j_goal (ih (trivial)) (wk_c rfl (wk_c rfl (wk_c rfl (wk_c rfl (wk_c (congrArg (fun z => some (Value.int z)) (jsum_v (by simp [fHas, hA, hB, hS, jb_nz.mp hP2]))) (wk_c (congrArg (fun z => some (Value.int z)) (nI_1 _)) (wk_n (wk_n (wk_n (wk_n (wk_0))))))))))) (rfl)
          · refine j_iload_n x dX6_has_100 rfl ?_
            refine j_bipush (v := 8) x dX6_has_101 (by decide) ?_
            refine j_icmp_ne (tgt := 311) x dX6_has_103 (by decide) (fun hc => ?_) (fun hc => absurd hc (by decide))
            refine j_iinc x dX6_has_311 rfl (by decide) rfl ?_
            refine j_goto (tgt := 6) x dX6_has_314 (by decide) ?_
            exact j_goal (ih (trivial)) (wk_c rfl (wk_c rfl (wk_c rfl (wk_c rfl (wk_c (congrArg (fun z => some (Value.int z)) (jsum_f (by simp [fHas, hA, hB, hS, jb_0.mp hP2]))) (wk_c (congrArg (fun z => some (Value.int z)) (nI_1 _)) (wk_n (wk_n (wk_n (wk_n (wk_0))))))))))) (rfl)
        · refine j_goto (tgt := 311) x dX6_has_88 (by decide) ?_
          refine j_iinc x dX6_has_311 rfl (by decide) rfl ?_
          refine j_goto (tgt := 6) x dX6_has_314 (by decide) ?_
          exact j_goal (ih (trivial)) (wk_c rfl (wk_c rfl (wk_c rfl (wk_c rfl (wk_c (congrArg (fun z => some (Value.int z)) (jsum_f (by simp [fHas, hA, hB, hS]))) (wk_c (congrArg (fun z => some (Value.int z)) (nI_1 _)) (wk_n (wk_n (wk_n (wk_n (wk_0))))))))))) (rfl)
      · refine j_goto (tgt := 311) x dX6_has_52 (by decide) ?_
        refine j_iinc x dX6_has_311 rfl (by decide) rfl ?_
        refine j_goto (tgt := 6) x dX6_has_314 (by decide) ?_
        exact j_goal (ih (trivial)) (wk_c rfl (wk_c rfl (wk_c rfl (wk_c rfl (wk_c (congrArg (fun z => some (Value.int z)) (jsum_f (by simp [fHas, hA, hB]))) (wk_c (congrArg (fun z => some (Value.int z)) (nI_1 _)) (wk_n (wk_n (wk_n (wk_n (wk_0))))))))))) (rfl)
    · refine j_iconst (v := 1) x dX6_has_29 (by decide) ?_
      refine j_goto (tgt := 34) x dX6_has_30 (by decide) ?_
      refine j_istore x dX6_has_34 (by decide) rfl ?_
      refine j_iload x dX6_has_36 rfl ?_
      refine j_if_ne (tgt := 55) x dX6_has_38 (by decide) (fun hc => ?_) (fun hc => absurd hc (by decide))
      refine j_iload x dX6_has_55 rfl ?_
      refine j_if_eq (tgt := 70) x dX6_has_57 (by decide) (fun hc => absurd hc (by decide)) (fun hc => ?_)
      refine j_aload_n x dX6_has_60 rfl ?_
      refine j_iload x dX6_has_61 rfl ?_
      refine j_iconst (v := 1) x dX6_has_63 (by decide) ?_
      refine j2_callVi x hb dX6_has_64 m_X6_of (cx_of (d := d) hb (m1 := j) (w1 := 1) (by omega) (by decide)) wmX6_68 jc_10 rfl rfl rfl (Nat.le_of_ble_eq_true rfl) (j_fit_rm (by omega) (by omega) (by omega)) rfl ?_
      refine j_goto (tgt := 77) x dX6_has_67 (by decide) ?_
      refine j_istore x dX6_has_77 (by decide) rfl ?_
      refine j_iload_n x dX6_has_79 rfl ?_
      refine j_iload x dX6_has_80 rfl ?_
      refine j_ishr x dX6_has_82 ?_
      refine j_iconst (v := 1) x dX6_has_83 (by decide) ?_
      refine j_iand x dX6_has_84 ?_
      refine j_if_ne (tgt := 91) x dX6_has_85 (by decide) (fun hS => ?_) (fun hS => ?_)
      · refine j_aload_n x dX6_has_91 rfl ?_
        refine j_iload x dX6_has_92 rfl ?_
        refine j2_callVi x hb dX6_has_94 m_X6_isPlayed (cx_isPlayed (d := d) hb (m1 := j) (by omega)) wmX6_72 jc_10 rfl rfl rfl (Nat.le_of_ble_eq_true rfl) (j_fit_rm (by omega) (by omega) (by omega)) rfl ?_
        refine j_if_ne (tgt := 112) x dX6_has_97 (by decide) (fun hP2 => ?_) (fun hP2 => ?_)
        · refine j_aload_n x dX6_has_112 rfl ?_
          refine j_iload x dX6_has_113 rfl ?_
          refine j_iload x dX6_has_115 rfl ?_
          refine j_if_eq (tgt := 125) x dX6_has_117 (by decide) (fun hc => absurd hc (by decide)) (fun hc => ?_)
          refine j_bipush (v := 6) x dX6_has_120 (by decide) ?_
          refine j_goto (tgt := 127) x dX6_has_122 (by decide) ?_
          refine j2_callVi x hb dX6_has_127 m_X6_of (cx_of (d := d) hb (m1 := j) (w1 := 6) (by omega) (by decide)) wmX6_68 jc_10 rfl rfl rfl (Nat.le_of_ble_eq_true rfl) (j_fit_rm (by omega) (by omega) (by omega)) rfl ?_
          refine j_istore x dX6_has_130 (by decide) rfl ?_
          refine j_aload_n x dX6_has_132 rfl ?_
          refine j_iload x dX6_has_133 rfl ?_
          refine j_iload x dX6_has_135 rfl ?_
          refine j_if_eq (tgt := 145) x dX6_has_137 (by decide) (fun hc => absurd hc (by decide)) (fun hc => ?_)
          refine j_bipush (v := 7) x dX6_has_140 (by decide) ?_
          refine j_goto (tgt := 147) x dX6_has_142 (by decide) ?_
          refine j2_callVi x hb dX6_has_147 m_X6_of (cx_of (d := d) hb (m1 := j) (w1 := 7) (by omega) (by decide)) wmX6_68 jc_10 rfl rfl rfl (Nat.le_of_ble_eq_true rfl) (j_fit_rm (by omega) (by omega) (by omega)) rfl ?_
          refine j_istore x dX6_has_150 (by decide) rfl ?_
          refine j_iload_n x dX6_has_152 rfl ?_
          refine j_tableIn (tgt := 286) x dX6_has_153 (by decide) (by decide) rfl (by decide) ?_
          refine j_iload x dX6_has_286 rfl ?_
          refine j_iload x dX6_has_288 rfl ?_
          refine j_iadd x dX6_has_290 ?_
          refine j_istore x dX6_has_291 (by decide) rfl ?_
          refine j_goto (tgt := 311) x dX6_has_293 (by decide) ?_
          refine j_iinc x dX6_has_311 rfl (by decide) rfl ?_
          refine j_goto (tgt := 6) x dX6_has_314 (by decide) ?_
          exact j_goal (ih (trivial)) (wk_c rfl (wk_c rfl (wk_c rfl (wk_c rfl (wk_c (congrArg (fun z => some (Value.int z)) (jsum_v (by simp [fHas, hA, hS, jb_nz.mp hP2]))) (wk_c (congrArg (fun z => some (Value.int z)) (nI_1 _)) (wk_n (wk_n (wk_n (wk_n (wk_0))))))))))) (rfl)
        · refine j_iload_n x dX6_has_100 rfl ?_
          refine j_bipush (v := 8) x dX6_has_101 (by decide) ?_
          refine j_icmp_ne (tgt := 311) x dX6_has_103 (by decide) (fun hc => ?_) (fun hc => absurd hc (by decide))
          refine j_iinc x dX6_has_311 rfl (by decide) rfl ?_
          refine j_goto (tgt := 6) x dX6_has_314 (by decide) ?_
          exact j_goal (ih (trivial)) (wk_c rfl (wk_c rfl (wk_c rfl (wk_c rfl (wk_c (congrArg (fun z => some (Value.int z)) (jsum_f (by simp [fHas, hA, hS, jb_0.mp hP2]))) (wk_c (congrArg (fun z => some (Value.int z)) (nI_1 _)) (wk_n (wk_n (wk_n (wk_n (wk_0))))))))))) (rfl)
      · refine j_goto (tgt := 311) x dX6_has_88 (by decide) ?_
        refine j_iinc x dX6_has_311 rfl (by decide) rfl ?_
        refine j_goto (tgt := 6) x dX6_has_314 (by decide) ?_
        exact j_goal (ih (trivial)) (wk_c rfl (wk_c rfl (wk_c rfl (wk_c rfl (wk_c (congrArg (fun z => some (Value.int z)) (jsum_f (by simp [fHas, hA, hS]))) (wk_c (congrArg (fun z => some (Value.int z)) (nI_1 _)) (wk_n (wk_n (wk_n (wk_n (wk_0))))))))))) (rfl)
  refine j_iload x dX6_has_6 rfl ?_
  refine j_aload_n x dX6_has_8 rfl ?_
  refine j2_getr (k := 0) (r := 95) x hb dX6_has_9 jc_10 wfX6_9 (by decide) rfl ?_
  refine j_bipush (v := 9) x dX6_has_12 (by decide) ?_
  refine j2_ialn x hb dX6_has_14 fa_95 (j := 9) (vp_c (by decide)) (by decide) ?_; rw [hct]
  refine j_icmp_ge (tgt := 317) x dX6_has_15 (by decide) (fun hc => ?_) (fun hc => absurd (nI_le (Nat.le_refl _) (by omega)) hc)
  refine j_iload x dX6_has_317 rfl ?_
  exact j_ireturn x hr dX6_has_319 (by omega) (by omega) ⟨rfl, rfl⟩
theorem cx_has2_6 {d : Nat} {b : SBt} {Y : OUt} {M : MM} (hb : 104 ≤ b.2.1) {t : Int32} {n : Nat} (hn : n ≤ 56) (hct : M 95 9 = nI n) : CM (d + 3) 0 0 yX6_has_ cX6_has_ 3 (some .int) [.ref 94, .int t, .int 6] b Y M (.inl (some (.int (jsum (fHas M t 6 (-1)) n)))) (M) := by
  refine Con.of (by decide +kernel) (Nat.le_of_ble_eq_true rfl) rfl fun p l e s m args below meth c D tyc A ad0 x hr htab hname => ?_
  change JJ _ _ _ _ _ _ _ _ _ _ _ _ _ _ _ _ _ 0 [some (.ref 94), some (.int t), some (.int 6)] [] _ 0 0
  refine j_aload_n x dX6_has__0 rfl ?_
  refine j_iload_n x dX6_has__1 rfl ?_
  refine j_iload_n x dX6_has__2 rfl ?_
  refine j_iconst (v := (-1)) x dX6_has__3 (by decide) ?_
  refine j2_callVi x hb dX6_has__4 m_X6_has (cx_has_6 (d := d) hb hn hct) wmX6_152 jc_10 rfl rfl rfl (Nat.le_of_ble_eq_true rfl) (j_fit_rm (by omega) (by omega) (by omega)) rfl ?_
  exact j_ireturn x hr dX6_has__7 (by omega) (by omega) ⟨rfl, rfl⟩
theorem cx_has_7 {d : Nat} {b : SBt} {Y : OUt} {M : MM} (hb : 104 ≤ b.2.1) {t w : Int32} {n : Nat} (hn : n ≤ 56) (hct : M 95 9 = nI n) : CM (d + 2) 0 0 yX6_has cX6_has 10 (some .int) [.ref 94, .int t, .int 7, .int w] b Y M (.inl (some (.int (jsum (fHas M t 7 w) n)))) (M) := by
  refine Con.of (by decide +kernel) (Nat.le_of_ble_eq_true rfl) rfl fun p l e s m args below meth c D tyc A ad0 x hr htab hname => ?_
  change JJ _ _ _ _ _ _ _ _ _ _ _ _ _ _ _ _ _ 0 [some (.ref 94), some (.int t), some (.int 7), some (.int w), none, none, none, none, none, none] [] _ 0 0
  refine j_iconst (v := 0) x dX6_has_0 (by decide) ?_
  refine j_istore x dX6_has_1 (by decide) rfl ?_
  refine j_iconst (v := 0) x dX6_has_3 (by decide) ?_
  refine j_istore x dX6_has_4 (by decide) rfl ?_
  refine j_for (n) (fun j => [some (.ref 94), some (.int t), some (.int 7), some (.int w), some (.int (jsum (fHas M t 7 w) j)), some (.int (nI j)), none, none, none, none]) (fun j => M) (fun j => True) (rfl) (rfl) (trivial) (fun j hj hP ih => ?_) (fun hP => ?_)
  · refine j_iload x dX6_has_6 rfl ?_
    refine j_aload_n x dX6_has_8 rfl ?_
    refine j2_getr (k := 0) (r := 95) x hb dX6_has_9 jc_10 wfX6_9 (by decide) rfl ?_
    refine j_bipush (v := 9) x dX6_has_12 (by decide) ?_
    refine j2_ialn x hb dX6_has_14 fa_95 (j := 9) (vp_c (by decide)) (by decide) ?_; rw [hct]
    refine j_icmp_ge (tgt := 317) x dX6_has_15 (by decide) (fun hc => absurd hc (nI_ge hj (by omega))) (fun hc => ?_)
    refine j_aload_n x dX6_has_18 rfl ?_
    refine j_iload x dX6_has_19 rfl ?_
    refine j_iconst (v := 0) x dX6_has_21 (by decide) ?_
    refine j2_callVi x hb dX6_has_22 m_X6_of (cx_of (d := d) hb (m1 := j) (w1 := 0) (by omega) (by decide)) wmX6_68 jc_10 rfl rfl rfl (Nat.le_of_ble_eq_true rfl) (j_fit_rm (by omega) (by omega) (by omega)) rfl ?_
    refine j_iload_n x dX6_has_25 rfl ?_
    refine j_icmp_ne (tgt := 33) x dX6_has_26 (by decide) (fun hA => ?_) (fun hA => ?_)
    · refine j_iconst (v := 0) x dX6_has_33 (by decide) ?_
      refine j_istore x dX6_has_34 (by decide) rfl ?_
      refine j_iload x dX6_has_36 rfl ?_
      refine j_if_ne (tgt := 55) x dX6_has_38 (by decide) (fun hc => absurd hc (fun q => q rfl)) (fun hc => ?_)
      refine j_aload_n x dX6_has_41 rfl ?_
      refine j_iload x dX6_has_42 rfl ?_
      refine j_iconst (v := 1) x dX6_has_44 (by decide) ?_
      refine j2_callVi x hb dX6_has_45 m_X6_of (cx_of (d := d) hb (m1 := j) (w1 := 1) (by omega) (by decide)) wmX6_68 jc_10 rfl rfl rfl (Nat.le_of_ble_eq_true rfl) (j_fit_rm (by omega) (by omega) (by omega)) rfl ?_
      refine j_iload_n x dX6_has_48 rfl ?_
      refine j_icmp_eq (tgt := 55) x dX6_has_49 (by decide) (fun hB => ?_) (fun hB => ?_)
      · refine j_iload x dX6_has_55 rfl ?_
        refine j_if_eq (tgt := 70) x dX6_has_57 (by decide) (fun hc => ?_) (fun hc => absurd (rfl) hc)
        refine j_aload_n x dX6_has_70 rfl ?_
        refine j_iload x dX6_has_71 rfl ?_
        refine j_iconst (v := 0) x dX6_has_73 (by decide) ?_
        refine j2_callVi x hb dX6_has_74 m_X6_of (cx_of (d := d) hb (m1 := j) (w1 := 0) (by omega) (by decide)) wmX6_68 jc_10 rfl rfl rfl (Nat.le_of_ble_eq_true rfl) (j_fit_rm (by omega) (by omega) (by omega)) rfl ?_
        refine j_istore x dX6_has_77 (by decide) rfl ?_
        refine j_iload_n x dX6_has_79 rfl ?_
        refine j_iload x dX6_has_80 rfl ?_
        refine j_ishr x dX6_has_82 ?_
        refine j_iconst (v := 1) x dX6_has_83 (by decide) ?_
        refine j_iand x dX6_has_84 ?_
        refine j_if_ne (tgt := 91) x dX6_has_85 (by decide) (fun hS => ?_) (fun hS => ?_)
        · refine j_aload_n x dX6_has_91 rfl ?_
          refine j_iload x dX6_has_92 rfl ?_
          refine j2_callVi x hb dX6_has_94 m_X6_isPlayed (cx_isPlayed (d := d) hb (m1 := j) (by omega)) wmX6_72 jc_10 rfl rfl rfl (Nat.le_of_ble_eq_true rfl) (j_fit_rm (by omega) (by omega) (by omega)) rfl ?_
          refine j_if_ne (tgt := 112) x dX6_has_97 (by decide) (fun hP2 => ?_) (fun hP2 => ?_)
          · refine j_aload_n x dX6_has_112 rfl ?_
            refine j_iload x dX6_has_113 rfl ?_
            refine j_iload x dX6_has_115 rfl ?_
            refine j_if_eq (tgt := 125) x dX6_has_117 (by decide) (fun hc => ?_) (fun hc => absurd (rfl) hc)
            refine j_bipush (v := 7) x dX6_has_125 (by decide) ?_
            refine j2_callVi x hb dX6_has_127 m_X6_of (cx_of (d := d) hb (m1 := j) (w1 := 7) (by omega) (by decide)) wmX6_68 jc_10 rfl rfl rfl (Nat.le_of_ble_eq_true rfl) (j_fit_rm (by omega) (by omega) (by omega)) rfl ?_
            refine j_istore x dX6_has_130 (by decide) rfl ?_
            refine j_aload_n x dX6_has_132 rfl ?_
            refine j_iload x dX6_has_133 rfl ?_
            refine j_iload x dX6_has_135 rfl ?_
            refine j_if_eq (tgt := 145) x dX6_has_137 (by decide) (fun hc => ?_) (fun hc => absurd (rfl) hc)
            refine j_bipush (v := 6) x dX6_has_145 (by decide) ?_
            refine j2_callVi x hb dX6_has_147 m_X6_of (cx_of (d := d) hb (m1 := j) (w1 := 6) (by omega) (by decide)) wmX6_68 jc_10 rfl rfl rfl (Nat.le_of_ble_eq_true rfl) (j_fit_rm (by omega) (by omega) (by omega)) rfl ?_
            refine j_istore x dX6_has_150 (by decide) rfl ?_
            refine j_iload_n x dX6_has_152 rfl ?_
            refine j_tableIn (tgt := 296) x dX6_has_153 (by decide) (by decide) rfl (by decide) ?_
            refine j_iload x dX6_has_296 rfl ?_
            refine j_if_ne (tgt := 311) x dX6_has_298 (by decide) (fun hc => absurd hc (fun q => q rfl)) (fun hc => ?_)
            refine j_iload x dX6_has_301 rfl ?_
            refine j_iload x dX6_has_303 rfl ?_
            refine j_iadd x dX6_has_305 ?_
            refine j_istore x dX6_has_306 (by decide) rfl ?_
            refine j_goto (tgt := 311) x dX6_has_308 (by decide) ?_
            refine j_iinc x dX6_has_311 rfl (by decide) rfl ?_
            refine j_goto (tgt := 6) x dX6_has_314 (by decide) ?_
            exact j_goal (ih (trivial)) (wk_c rfl (wk_c rfl (wk_c rfl (wk_c rfl (wk_c (congrArg (fun z => some (Value.int z)) (jsum_v (by simp [fHas, hA, hB, hS, jb_nz.mp hP2]))) (wk_c (congrArg (fun z => some (Value.int z)) (nI_1 _)) (wk_n (wk_n (wk_n (wk_n (wk_0))))))))))) (rfl)
          · refine j_iload_n x dX6_has_100 rfl ?_
            refine j_bipush (v := 8) x dX6_has_101 (by decide) ?_
            refine j_icmp_ne (tgt := 311) x dX6_has_103 (by decide) (fun hc => ?_) (fun hc => absurd hc (by decide))
            refine j_iinc x dX6_has_311 rfl (by decide) rfl ?_
            refine j_goto (tgt := 6) x dX6_has_314 (by decide) ?_
            exact j_goal (ih (trivial)) (wk_c rfl (wk_c rfl (wk_c rfl (wk_c rfl (wk_c (congrArg (fun z => some (Value.int z)) (jsum_f (by simp [fHas, hA, hB, hS, jb_0.mp hP2]))) (wk_c (congrArg (fun z => some (Value.int z)) (nI_1 _)) (wk_n (wk_n (wk_n (wk_n (wk_0))))))))))) (rfl)
        · refine j_goto (tgt := 311) x dX6_has_88 (by decide) ?_
          refine j_iinc x dX6_has_311 rfl (by decide) rfl ?_
          refine j_goto (tgt := 6) x dX6_has_314 (by decide) ?_
          exact j_goal (ih (trivial)) (wk_c rfl (wk_c rfl (wk_c rfl (wk_c rfl (wk_c (congrArg (fun z => some (Value.int z)) (jsum_f (by simp [fHas, hA, hB, hS]))) (wk_c (congrArg (fun z => some (Value.int z)) (nI_1 _)) (wk_n (wk_n (wk_n (wk_n (wk_0))))))))))) (rfl)
      · refine j_goto (tgt := 311) x dX6_has_52 (by decide) ?_
        refine j_iinc x dX6_has_311 rfl (by decide) rfl ?_
        refine j_goto (tgt := 6) x dX6_has_314 (by decide) ?_
        exact j_goal (ih (trivial)) (wk_c rfl (wk_c rfl (wk_c rfl (wk_c rfl (wk_c (congrArg (fun z => some (Value.int z)) (jsum_f (by simp [fHas, hA, hB]))) (wk_c (congrArg (fun z => some (Value.int z)) (nI_1 _)) (wk_n (wk_n (wk_n (wk_n (wk_0))))))))))) (rfl)
    · refine j_iconst (v := 1) x dX6_has_29 (by decide) ?_
      refine j_goto (tgt := 34) x dX6_has_30 (by decide) ?_
      refine j_istore x dX6_has_34 (by decide) rfl ?_
      refine j_iload x dX6_has_36 rfl ?_
      refine j_if_ne (tgt := 55) x dX6_has_38 (by decide) (fun hc => ?_) (fun hc => absurd hc (by decide))
      refine j_iload x dX6_has_55 rfl ?_
      refine j_if_eq (tgt := 70) x dX6_has_57 (by decide) (fun hc => absurd hc (by decide)) (fun hc => ?_)
      refine j_aload_n x dX6_has_60 rfl ?_
      refine j_iload x dX6_has_61 rfl ?_
      refine j_iconst (v := 1) x dX6_has_63 (by decide) ?_
      refine j2_callVi x hb dX6_has_64 m_X6_of (cx_of (d := d) hb (m1 := j) (w1 := 1) (by omega) (by decide)) wmX6_68 jc_10 rfl rfl rfl (Nat.le_of_ble_eq_true rfl) (j_fit_rm (by omega) (by omega) (by omega)) rfl ?_
      refine j_goto (tgt := 77) x dX6_has_67 (by decide) ?_
      refine j_istore x dX6_has_77 (by decide) rfl ?_
      refine j_iload_n x dX6_has_79 rfl ?_
      refine j_iload x dX6_has_80 rfl ?_
      refine j_ishr x dX6_has_82 ?_
      refine j_iconst (v := 1) x dX6_has_83 (by decide) ?_
      refine j_iand x dX6_has_84 ?_
      refine j_if_ne (tgt := 91) x dX6_has_85 (by decide) (fun hS => ?_) (fun hS => ?_)
      · refine j_aload_n x dX6_has_91 rfl ?_
        refine j_iload x dX6_has_92 rfl ?_
        refine j2_callVi x hb dX6_has_94 m_X6_isPlayed (cx_isPlayed (d := d) hb (m1 := j) (by omega)) wmX6_72 jc_10 rfl rfl rfl (Nat.le_of_ble_eq_true rfl) (j_fit_rm (by omega) (by omega) (by omega)) rfl ?_
        refine j_if_ne (tgt := 112) x dX6_has_97 (by decide) (fun hP2 => ?_) (fun hP2 => ?_)
        · refine j_aload_n x dX6_has_112 rfl ?_
          refine j_iload x dX6_has_113 rfl ?_
          refine j_iload x dX6_has_115 rfl ?_
          refine j_if_eq (tgt := 125) x dX6_has_117 (by decide) (fun hc => absurd hc (by decide)) (fun hc => ?_)
          refine j_bipush (v := 6) x dX6_has_120 (by decide) ?_
          refine j_goto (tgt := 127) x dX6_has_122 (by decide) ?_
          refine j2_callVi x hb dX6_has_127 m_X6_of (cx_of (d := d) hb (m1 := j) (w1 := 6) (by omega) (by decide)) wmX6_68 jc_10 rfl rfl rfl (Nat.le_of_ble_eq_true rfl) (j_fit_rm (by omega) (by omega) (by omega)) rfl ?_
          refine j_istore x dX6_has_130 (by decide) rfl ?_
          refine j_aload_n x dX6_has_132 rfl ?_
          refine j_iload x dX6_has_133 rfl ?_
          refine j_iload x dX6_has_135 rfl ?_
          refine j_if_eq (tgt := 145) x dX6_has_137 (by decide) (fun hc => absurd hc (by decide)) (fun hc => ?_)
          refine j_bipush (v := 7) x dX6_has_140 (by decide) ?_
          refine j_goto (tgt := 147) x dX6_has_142 (by decide) ?_
          refine j2_callVi x hb dX6_has_147 m_X6_of (cx_of (d := d) hb (m1 := j) (w1 := 7) (by omega) (by decide)) wmX6_68 jc_10 rfl rfl rfl (Nat.le_of_ble_eq_true rfl) (j_fit_rm (by omega) (by omega) (by omega)) rfl ?_
          refine j_istore x dX6_has_150 (by decide) rfl ?_
          refine j_iload_n x dX6_has_152 rfl ?_
          refine j_tableIn (tgt := 296) x dX6_has_153 (by decide) (by decide) rfl (by decide) ?_
          refine j_iload x dX6_has_296 rfl ?_
          refine j_if_ne (tgt := 311) x dX6_has_298 (by decide) (fun hc => ?_) (fun hc => absurd hc (by decide))
          refine j_iinc x dX6_has_311 rfl (by decide) rfl ?_
          refine j_goto (tgt := 6) x dX6_has_314 (by decide) ?_
          exact j_goal (ih (trivial)) (wk_c rfl (wk_c rfl (wk_c rfl (wk_c rfl (wk_c (congrArg (fun z => some (Value.int z)) (jsum_f (by simp [fHas, hA, hS, jb_nz.mp hP2]))) (wk_c (congrArg (fun z => some (Value.int z)) (nI_1 _)) (wk_n (wk_n (wk_n (wk_n (wk_0))))))))))) (rfl)
        · refine j_iload_n x dX6_has_100 rfl ?_
          refine j_bipush (v := 8) x dX6_has_101 (by decide) ?_
          refine j_icmp_ne (tgt := 311) x dX6_has_103 (by decide) (fun hc => ?_) (fun hc => absurd hc (by decide))
          refine j_iinc x dX6_has_311 rfl (by decide) rfl ?_
          refine j_goto (tgt := 6) x dX6_has_314 (by decide) ?_
          exact j_goal (ih (trivial)) (wk_c rfl (wk_c rfl (wk_c rfl (wk_c rfl (wk_c (congrArg (fun z => some (Value.int z)) (jsum_f (by simp [fHas, hA, hS, jb_0.mp hP2]))) (wk_c (congrArg (fun z => some (Value.int z)) (nI_1 _)) (wk_n (wk_n (wk_n (wk_n (wk_0))))))))))) (rfl)
      · refine j_goto (tgt := 311) x dX6_has_88 (by decide) ?_
        refine j_iinc x dX6_has_311 rfl (by decide) rfl ?_
        refine j_goto (tgt := 6) x dX6_has_314 (by decide) ?_
        exact j_goal (ih (trivial)) (wk_c rfl (wk_c rfl (wk_c rfl (wk_c rfl (wk_c (congrArg (fun z => some (Value.int z)) (jsum_f (by simp [fHas, hA, hS]))) (wk_c (congrArg (fun z => some (Value.int z)) (nI_1 _)) (wk_n (wk_n (wk_n (wk_n (wk_0))))))))))) (rfl)
  refine j_iload x dX6_has_6 rfl ?_
  refine j_aload_n x dX6_has_8 rfl ?_
  refine j2_getr (k := 0) (r := 95) x hb dX6_has_9 jc_10 wfX6_9 (by decide) rfl ?_
  refine j_bipush (v := 9) x dX6_has_12 (by decide) ?_
  refine j2_ialn x hb dX6_has_14 fa_95 (j := 9) (vp_c (by decide)) (by decide) ?_; rw [hct]
  refine j_icmp_ge (tgt := 317) x dX6_has_15 (by decide) (fun hc => ?_) (fun hc => absurd (nI_le (Nat.le_refl _) (by omega)) hc)
  refine j_iload x dX6_has_317 rfl ?_
  exact j_ireturn x hr dX6_has_319 (by omega) (by omega) ⟨rfl, rfl⟩
theorem cx_has2_7 {d : Nat} {b : SBt} {Y : OUt} {M : MM} (hb : 104 ≤ b.2.1) {t : Int32} {n : Nat} (hn : n ≤ 56) (hct : M 95 9 = nI n) : CM (d + 3) 0 0 yX6_has_ cX6_has_ 3 (some .int) [.ref 94, .int t, .int 7] b Y M (.inl (some (.int (jsum (fHas M t 7 (-1)) n)))) (M) := by
  refine Con.of (by decide +kernel) (Nat.le_of_ble_eq_true rfl) rfl fun p l e s m args below meth c D tyc A ad0 x hr htab hname => ?_
  change JJ _ _ _ _ _ _ _ _ _ _ _ _ _ _ _ _ _ 0 [some (.ref 94), some (.int t), some (.int 7)] [] _ 0 0
  refine j_aload_n x dX6_has__0 rfl ?_
  refine j_iload_n x dX6_has__1 rfl ?_
  refine j_iload_n x dX6_has__2 rfl ?_
  refine j_iconst (v := (-1)) x dX6_has__3 (by decide) ?_
  refine j2_callVi x hb dX6_has__4 m_X6_has (cx_has_7 (d := d) hb hn hct) wmX6_152 jc_10 rfl rfl rfl (Nat.le_of_ble_eq_true rfl) (j_fit_rm (by omega) (by omega) (by omega)) rfl ?_
  exact j_ireturn x hr dX6_has__7 (by omega) (by omega) ⟨rfl, rfl⟩
theorem cx_has_8 {d : Nat} {b : SBt} {Y : OUt} {M : MM} (hb : 104 ≤ b.2.1) {t w : Int32} {n : Nat} (hn : n ≤ 56) (hct : M 95 9 = nI n) : CM (d + 2) 0 0 yX6_has cX6_has 10 (some .int) [.ref 94, .int t, .int 8, .int w] b Y M (.inl (some (.int (jsum (fHas M t 8 w) n)))) (M) := by
  refine Con.of (by decide +kernel) (Nat.le_of_ble_eq_true rfl) rfl fun p l e s m args below meth c D tyc A ad0 x hr htab hname => ?_
  change JJ _ _ _ _ _ _ _ _ _ _ _ _ _ _ _ _ _ 0 [some (.ref 94), some (.int t), some (.int 8), some (.int w), none, none, none, none, none, none] [] _ 0 0
  refine j_iconst (v := 0) x dX6_has_0 (by decide) ?_
  refine j_istore x dX6_has_1 (by decide) rfl ?_
  refine j_iconst (v := 0) x dX6_has_3 (by decide) ?_
  refine j_istore x dX6_has_4 (by decide) rfl ?_
  refine j_for (n) (fun j => [some (.ref 94), some (.int t), some (.int 8), some (.int w), some (.int (jsum (fHas M t 8 w) j)), some (.int (nI j)), none, none, none, none]) (fun j => M) (fun j => True) (rfl) (rfl) (trivial) (fun j hj hP ih => ?_) (fun hP => ?_)
  · refine j_iload x dX6_has_6 rfl ?_
    refine j_aload_n x dX6_has_8 rfl ?_
    refine j2_getr (k := 0) (r := 95) x hb dX6_has_9 jc_10 wfX6_9 (by decide) rfl ?_
    refine j_bipush (v := 9) x dX6_has_12 (by decide) ?_
    refine j2_ialn x hb dX6_has_14 fa_95 (j := 9) (vp_c (by decide)) (by decide) ?_; rw [hct]
    refine j_icmp_ge (tgt := 317) x dX6_has_15 (by decide) (fun hc => absurd hc (nI_ge hj (by omega))) (fun hc => ?_)
    refine j_aload_n x dX6_has_18 rfl ?_
    refine j_iload x dX6_has_19 rfl ?_
    refine j_iconst (v := 0) x dX6_has_21 (by decide) ?_
    refine j2_callVi x hb dX6_has_22 m_X6_of (cx_of (d := d) hb (m1 := j) (w1 := 0) (by omega) (by decide)) wmX6_68 jc_10 rfl rfl rfl (Nat.le_of_ble_eq_true rfl) (j_fit_rm (by omega) (by omega) (by omega)) rfl ?_
    refine j_iload_n x dX6_has_25 rfl ?_
    refine j_icmp_ne (tgt := 33) x dX6_has_26 (by decide) (fun hA => ?_) (fun hA => ?_)
    · refine j_iconst (v := 0) x dX6_has_33 (by decide) ?_
      refine j_istore x dX6_has_34 (by decide) rfl ?_
      refine j_iload x dX6_has_36 rfl ?_
      refine j_if_ne (tgt := 55) x dX6_has_38 (by decide) (fun hc => absurd hc (fun q => q rfl)) (fun hc => ?_)
      refine j_aload_n x dX6_has_41 rfl ?_
      refine j_iload x dX6_has_42 rfl ?_
      refine j_iconst (v := 1) x dX6_has_44 (by decide) ?_
      refine j2_callVi x hb dX6_has_45 m_X6_of (cx_of (d := d) hb (m1 := j) (w1 := 1) (by omega) (by decide)) wmX6_68 jc_10 rfl rfl rfl (Nat.le_of_ble_eq_true rfl) (j_fit_rm (by omega) (by omega) (by omega)) rfl ?_
      refine j_iload_n x dX6_has_48 rfl ?_
      refine j_icmp_eq (tgt := 55) x dX6_has_49 (by decide) (fun hB => ?_) (fun hB => ?_)
      · refine j_iload x dX6_has_55 rfl ?_
        refine j_if_eq (tgt := 70) x dX6_has_57 (by decide) (fun hc => ?_) (fun hc => absurd (rfl) hc)
        refine j_aload_n x dX6_has_70 rfl ?_
        refine j_iload x dX6_has_71 rfl ?_
        refine j_iconst (v := 0) x dX6_has_73 (by decide) ?_
        refine j2_callVi x hb dX6_has_74 m_X6_of (cx_of (d := d) hb (m1 := j) (w1 := 0) (by omega) (by decide)) wmX6_68 jc_10 rfl rfl rfl (Nat.le_of_ble_eq_true rfl) (j_fit_rm (by omega) (by omega) (by omega)) rfl ?_
        refine j_istore x dX6_has_77 (by decide) rfl ?_
        refine j_iload_n x dX6_has_79 rfl ?_
        refine j_iload x dX6_has_80 rfl ?_
        refine j_ishr x dX6_has_82 ?_
        refine j_iconst (v := 1) x dX6_has_83 (by decide) ?_
        refine j_iand x dX6_has_84 ?_
        refine j_if_ne (tgt := 91) x dX6_has_85 (by decide) (fun hS => ?_) (fun hS => ?_)
        · refine j_aload_n x dX6_has_91 rfl ?_
          refine j_iload x dX6_has_92 rfl ?_
          refine j2_callVi x hb dX6_has_94 m_X6_isPlayed (cx_isPlayed (d := d) hb (m1 := j) (by omega)) wmX6_72 jc_10 rfl rfl rfl (Nat.le_of_ble_eq_true rfl) (j_fit_rm (by omega) (by omega) (by omega)) rfl ?_
          refine j_if_ne (tgt := 112) x dX6_has_97 (by decide) (fun hP2 => ?_) (fun hP2 => ?_)
          · refine j_aload_n x dX6_has_112 rfl ?_
            refine j_iload x dX6_has_113 rfl ?_
            refine j_iload x dX6_has_115 rfl ?_
            refine j_if_eq (tgt := 125) x dX6_has_117 (by decide) (fun hc => ?_) (fun hc => absurd (rfl) hc)
            refine j_bipush (v := 7) x dX6_has_125 (by decide) ?_
            refine j2_callVi x hb dX6_has_127 m_X6_of (cx_of (d := d) hb (m1 := j) (w1 := 7) (by omega) (by decide)) wmX6_68 jc_10 rfl rfl rfl (Nat.le_of_ble_eq_true rfl) (j_fit_rm (by omega) (by omega) (by omega)) rfl ?_
            refine j_istore x dX6_has_130 (by decide) rfl ?_
            refine j_aload_n x dX6_has_132 rfl ?_
            refine j_iload x dX6_has_133 rfl ?_
            refine j_iload x dX6_has_135 rfl ?_
            refine j_if_eq (tgt := 145) x dX6_has_137 (by decide) (fun hc => ?_) (fun hc => absurd (rfl) hc)
            refine j_bipush (v := 6) x dX6_has_145 (by decide) ?_
            refine j2_callVi x hb dX6_has_147 m_X6_of (cx_of (d := d) hb (m1 := j) (w1 := 6) (by omega) (by decide)) wmX6_68 jc_10 rfl rfl rfl (Nat.le_of_ble_eq_true rfl) (j_fit_rm (by omega) (by omega) (by omega)) rfl ?_
            refine j_istore x dX6_has_150 (by decide) rfl ?_
            refine j_iload_n x dX6_has_152 rfl ?_
            refine j_tableOut (tgt := 311) x dX6_has_153 (by decide) (by decide) ?_
            refine j_iinc x dX6_has_311 rfl (by decide) rfl ?_
            refine j_goto (tgt := 6) x dX6_has_314 (by decide) ?_
            exact j_goal (ih (trivial)) (wk_c rfl (wk_c rfl (wk_c rfl (wk_c rfl (wk_c (congrArg (fun z => some (Value.int z)) (jsum_f (by simp [fHas, hA, hB, hS, jb_nz.mp hP2]))) (wk_c (congrArg (fun z => some (Value.int z)) (nI_1 _)) (wk_n (wk_n (wk_n (wk_n (wk_0))))))))))) (rfl)
          · refine j_iload_n x dX6_has_100 rfl ?_
            refine j_bipush (v := 8) x dX6_has_101 (by decide) ?_
            refine j_icmp_ne (tgt := 311) x dX6_has_103 (by decide) (fun hc => absurd hc (fun q => q rfl)) (fun hc => ?_)
            refine j_iinc x dX6_has_106 rfl (by decide) rfl ?_
            refine j_goto (tgt := 311) x dX6_has_109 (by decide) ?_
            refine j_iinc x dX6_has_311 rfl (by decide) rfl ?_
            refine j_goto (tgt := 6) x dX6_has_314 (by decide) ?_
            exact j_goal (ih (trivial)) (wk_c rfl (wk_c rfl (wk_c rfl (wk_c rfl (wk_c (congrArg (fun z => some (Value.int z)) (jsum_v (by simp [fHas, hA, hB, hS, jb_0.mp hP2]))) (wk_c (congrArg (fun z => some (Value.int z)) (nI_1 _)) (wk_n (wk_n (wk_n (wk_n (wk_0))))))))))) (rfl)
        · refine j_goto (tgt := 311) x dX6_has_88 (by decide) ?_
          refine j_iinc x dX6_has_311 rfl (by decide) rfl ?_
          refine j_goto (tgt := 6) x dX6_has_314 (by decide) ?_
          exact j_goal (ih (trivial)) (wk_c rfl (wk_c rfl (wk_c rfl (wk_c rfl (wk_c (congrArg (fun z => some (Value.int z)) (jsum_f (by simp [fHas, hA, hB, hS]))) (wk_c (congrArg (fun z => some (Value.int z)) (nI_1 _)) (wk_n (wk_n (wk_n (wk_n (wk_0))))))))))) (rfl)
      · refine j_goto (tgt := 311) x dX6_has_52 (by decide) ?_
        refine j_iinc x dX6_has_311 rfl (by decide) rfl ?_
        refine j_goto (tgt := 6) x dX6_has_314 (by decide) ?_
        exact j_goal (ih (trivial)) (wk_c rfl (wk_c rfl (wk_c rfl (wk_c rfl (wk_c (congrArg (fun z => some (Value.int z)) (jsum_f (by simp [fHas, hA, hB]))) (wk_c (congrArg (fun z => some (Value.int z)) (nI_1 _)) (wk_n (wk_n (wk_n (wk_n (wk_0))))))))))) (rfl)
    · refine j_iconst (v := 1) x dX6_has_29 (by decide) ?_
      refine j_goto (tgt := 34) x dX6_has_30 (by decide) ?_
      refine j_istore x dX6_has_34 (by decide) rfl ?_
      refine j_iload x dX6_has_36 rfl ?_
      refine j_if_ne (tgt := 55) x dX6_has_38 (by decide) (fun hc => ?_) (fun hc => absurd hc (by decide))
      refine j_iload x dX6_has_55 rfl ?_
      refine j_if_eq (tgt := 70) x dX6_has_57 (by decide) (fun hc => absurd hc (by decide)) (fun hc => ?_)
      refine j_aload_n x dX6_has_60 rfl ?_
      refine j_iload x dX6_has_61 rfl ?_
      refine j_iconst (v := 1) x dX6_has_63 (by decide) ?_
      refine j2_callVi x hb dX6_has_64 m_X6_of (cx_of (d := d) hb (m1 := j) (w1 := 1) (by omega) (by decide)) wmX6_68 jc_10 rfl rfl rfl (Nat.le_of_ble_eq_true rfl) (j_fit_rm (by omega) (by omega) (by omega)) rfl ?_
      refine j_goto (tgt := 77) x dX6_has_67 (by decide) ?_
      refine j_istore x dX6_has_77 (by decide) rfl ?_
      refine j_iload_n x dX6_has_79 rfl ?_
      refine j_iload x dX6_has_80 rfl ?_
      refine j_ishr x dX6_has_82 ?_
      refine j_iconst (v := 1) x dX6_has_83 (by decide) ?_
      refine j_iand x dX6_has_84 ?_
      refine j_if_ne (tgt := 91) x dX6_has_85 (by decide) (fun hS => ?_) (fun hS => ?_)
      · refine j_aload_n x dX6_has_91 rfl ?_
        refine j_iload x dX6_has_92 rfl ?_
        refine j2_callVi x hb dX6_has_94 m_X6_isPlayed (cx_isPlayed (d := d) hb (m1 := j) (by omega)) wmX6_72 jc_10 rfl rfl rfl (Nat.le_of_ble_eq_true rfl) (j_fit_rm (by omega) (by omega) (by omega)) rfl ?_
        refine j_if_ne (tgt := 112) x dX6_has_97 (by decide) (fun hP2 => ?_) (fun hP2 => ?_)
        · refine j_aload_n x dX6_has_112 rfl ?_
          refine j_iload x dX6_has_113 rfl ?_
          refine j_iload x dX6_has_115 rfl ?_
          refine j_if_eq (tgt := 125) x dX6_has_117 (by decide) (fun hc => absurd hc (by decide)) (fun hc => ?_)
          refine j_bipush (v := 6) x dX6_has_120 (by decide) ?_
          refine j_goto (tgt := 127) x dX6_has_122 (by decide) ?_
          refine j2_callVi x hb dX6_has_127 m_X6_of (cx_of (d := d) hb (m1 := j) (w1 := 6) (by omega) (by decide)) wmX6_68 jc_10 rfl rfl rfl (Nat.le_of_ble_eq_true rfl) (j_fit_rm (by omega) (by omega) (by omega)) rfl ?_
          refine j_istore x dX6_has_130 (by decide) rfl ?_
          refine j_aload_n x dX6_has_132 rfl ?_
          refine j_iload x dX6_has_133 rfl ?_
          refine j_iload x dX6_has_135 rfl ?_
          refine j_if_eq (tgt := 145) x dX6_has_137 (by decide) (fun hc => absurd hc (by decide)) (fun hc => ?_)
          refine j_bipush (v := 7) x dX6_has_140 (by decide) ?_
          refine j_goto (tgt := 147) x dX6_has_142 (by decide) ?_
          refine j2_callVi x hb dX6_has_147 m_X6_of (cx_of (d := d) hb (m1 := j) (w1 := 7) (by omega) (by decide)) wmX6_68 jc_10 rfl rfl rfl (Nat.le_of_ble_eq_true rfl) (j_fit_rm (by omega) (by omega) (by omega)) rfl ?_
          refine j_istore x dX6_has_150 (by decide) rfl ?_
          refine j_iload_n x dX6_has_152 rfl ?_
          refine j_tableOut (tgt := 311) x dX6_has_153 (by decide) (by decide) ?_
          refine j_iinc x dX6_has_311 rfl (by decide) rfl ?_
          refine j_goto (tgt := 6) x dX6_has_314 (by decide) ?_
          exact j_goal (ih (trivial)) (wk_c rfl (wk_c rfl (wk_c rfl (wk_c rfl (wk_c (congrArg (fun z => some (Value.int z)) (jsum_f (by simp [fHas, hA, hS, jb_nz.mp hP2]))) (wk_c (congrArg (fun z => some (Value.int z)) (nI_1 _)) (wk_n (wk_n (wk_n (wk_n (wk_0))))))))))) (rfl)
        · refine j_iload_n x dX6_has_100 rfl ?_
          refine j_bipush (v := 8) x dX6_has_101 (by decide) ?_
          refine j_icmp_ne (tgt := 311) x dX6_has_103 (by decide) (fun hc => absurd hc (fun q => q rfl)) (fun hc => ?_)
          refine j_iinc x dX6_has_106 rfl (by decide) rfl ?_
          refine j_goto (tgt := 311) x dX6_has_109 (by decide) ?_
          refine j_iinc x dX6_has_311 rfl (by decide) rfl ?_
          refine j_goto (tgt := 6) x dX6_has_314 (by decide) ?_
          exact j_goal (ih (trivial)) (wk_c rfl (wk_c rfl (wk_c rfl (wk_c rfl (wk_c (congrArg (fun z => some (Value.int z)) (jsum_v (by simp [fHas, hA, hS, jb_0.mp hP2]))) (wk_c (congrArg (fun z => some (Value.int z)) (nI_1 _)) (wk_n (wk_n (wk_n (wk_n (wk_0))))))))))) (rfl)
      · refine j_goto (tgt := 311) x dX6_has_88 (by decide) ?_
        refine j_iinc x dX6_has_311 rfl (by decide) rfl ?_
        refine j_goto (tgt := 6) x dX6_has_314 (by decide) ?_
        exact j_goal (ih (trivial)) (wk_c rfl (wk_c rfl (wk_c rfl (wk_c rfl (wk_c (congrArg (fun z => some (Value.int z)) (jsum_f (by simp [fHas, hA, hS]))) (wk_c (congrArg (fun z => some (Value.int z)) (nI_1 _)) (wk_n (wk_n (wk_n (wk_n (wk_0))))))))))) (rfl)
  refine j_iload x dX6_has_6 rfl ?_
  refine j_aload_n x dX6_has_8 rfl ?_
  refine j2_getr (k := 0) (r := 95) x hb dX6_has_9 jc_10 wfX6_9 (by decide) rfl ?_
  refine j_bipush (v := 9) x dX6_has_12 (by decide) ?_
  refine j2_ialn x hb dX6_has_14 fa_95 (j := 9) (vp_c (by decide)) (by decide) ?_; rw [hct]
  refine j_icmp_ge (tgt := 317) x dX6_has_15 (by decide) (fun hc => ?_) (fun hc => absurd (nI_le (Nat.le_refl _) (by omega)) hc)
  refine j_iload x dX6_has_317 rfl ?_
  exact j_ireturn x hr dX6_has_319 (by omega) (by omega) ⟨rfl, rfl⟩
theorem cx_has2_8 {d : Nat} {b : SBt} {Y : OUt} {M : MM} (hb : 104 ≤ b.2.1) {t : Int32} {n : Nat} (hn : n ≤ 56) (hct : M 95 9 = nI n) : CM (d + 3) 0 0 yX6_has_ cX6_has_ 3 (some .int) [.ref 94, .int t, .int 8] b Y M (.inl (some (.int (jsum (fHas M t 8 (-1)) n)))) (M) := by
  refine Con.of (by decide +kernel) (Nat.le_of_ble_eq_true rfl) rfl fun p l e s m args below meth c D tyc A ad0 x hr htab hname => ?_
  change JJ _ _ _ _ _ _ _ _ _ _ _ _ _ _ _ _ _ 0 [some (.ref 94), some (.int t), some (.int 8)] [] _ 0 0
  refine j_aload_n x dX6_has__0 rfl ?_
  refine j_iload_n x dX6_has__1 rfl ?_
  refine j_iload_n x dX6_has__2 rfl ?_
  refine j_iconst (v := (-1)) x dX6_has__3 (by decide) ?_
  refine j2_callVi x hb dX6_has__4 m_X6_has (cx_has_8 (d := d) hb hn hct) wmX6_152 jc_10 rfl rfl rfl (Nat.le_of_ble_eq_true rfl) (j_fit_rm (by omega) (by omega) (by omega)) rfl ?_
  exact j_ireturn x hr dX6_has__7 (by omega) (by omega) ⟨rfl, rfl⟩
