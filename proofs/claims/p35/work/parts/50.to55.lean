section
/-! ===== the reference: its meetings ===== -/
def jof (M : MM) (m w : Nat) : Int32 := M 95 (18 + 8 * m + w)
def jsets (M : MM) (m w : Nat) (v : Int32) : MM := jm M 95 (18 + 8 * m + w) v
theorem cx_of {d : Nat} {b : SBt} {Y : OUt} {M : MM} (hb : 104 ≤ b.2.1) {m1 w1 : Nat} (hm : m1 < 56) (hw : w1 < 8) : CM (d) 0 0 yX6_of cX6_of 3 (some .int) [.ref 94, .int (nI m1), .int (nI w1)] b Y M (.inl (some (.int (jof M m1 w1)))) (M) := by
  have hix : (18 : Int32) + 8 * nI m1 + nI w1 = nI (18 + 8 * m1 + w1) := by rw [show (8 : Int32) * nI m1 = nI (8 * m1) from nI_mul 8 m1, show (18 : Int32) + nI (8 * m1) = nI (18 + 8 * m1) from nI_add 18 (8 * m1), nI_add]
  refine Con.of (by decide +kernel) (Nat.le_of_ble_eq_true rfl) rfl fun p l e s m args below meth c D tyc A ad0 x hr htab hname => ?_
  change JJ _ _ _ _ _ _ _ _ _ _ _ _ _ _ _ _ _ 0 [some (.ref 94), some (.int (nI m1)), some (.int (nI w1))] [] _ 0 0
  refine j_aload_n x dX6_of_0 rfl ?_
  refine j2_getr (k := 0) (r := 95) x hb dX6_of_1 jc_10 wfX6_9 (by decide) rfl ?_
  refine j_bipush (v := 18) x dX6_of_4 (by decide) ?_
  refine j_bipush (v := 8) x dX6_of_6 (by decide) ?_
  refine j_iload_n x dX6_of_8 rfl ?_
  refine j_imul x dX6_of_9 ?_
  refine j_iadd x dX6_of_10 ?_
  refine j_iload_n x dX6_of_11 rfl ?_
  refine j_iadd x dX6_of_12 ?_
  refine j2_ialn x hb dX6_of_13 fa_95 (j := 18 + 8 * m1 + w1) (by rw [hix]; exact vp_in_nI (by omega) (by decide)) (by rw [hix]; exact nI_clamp (by omega)) ?_
  exact j_ireturn x hr dX6_of_14 (by omega) (by omega) ⟨rfl, rfl⟩
theorem cx_sets {d : Nat} {b : SBt} {Y : OUt} {M : MM} (hb : 104 ≤ b.2.1) {m1 w1 : Nat} {v : Int32} (hm : m1 < 56) (hw : w1 < 8) : CM (d) 0 0 yX6_sets cX6_sets 4 none [.ref 94, .int (nI m1), .int (nI w1), .int v] b Y M (.inl none) (jsets M m1 w1 v) := by
  have hix : (18 : Int32) + 8 * nI m1 + nI w1 = nI (18 + 8 * m1 + w1) := by rw [show (8 : Int32) * nI m1 = nI (8 * m1) from nI_mul 8 m1, show (18 : Int32) + nI (8 * m1) = nI (18 + 8 * m1) from nI_add 18 (8 * m1), nI_add]
  refine Con.of (by decide +kernel) (Nat.le_of_ble_eq_true rfl) rfl fun p l e s m args below meth c D tyc A ad0 x hr htab hname => ?_
  change JJ _ _ _ _ _ _ _ _ _ _ _ _ _ _ _ _ _ 0 [some (.ref 94), some (.int (nI m1)), some (.int (nI w1)), some (.int v)] [] _ 0 0
  refine j_aload_n x dX6_sets_0 rfl ?_
  refine j2_getr (k := 0) (r := 95) x hb dX6_sets_1 jc_10 wfX6_9 (by decide) rfl ?_
  refine j_bipush (v := 18) x dX6_sets_4 (by decide) ?_
  refine j_bipush (v := 8) x dX6_sets_6 (by decide) ?_
  refine j_iload_n x dX6_sets_8 rfl ?_
  refine j_imul x dX6_sets_9 ?_
  refine j_iadd x dX6_sets_10 ?_
  refine j_iload_n x dX6_sets_11 rfl ?_
  refine j_iadd x dX6_sets_12 ?_
  refine j_iload_n x dX6_sets_13 rfl ?_
  refine j2_iasn x hb dX6_sets_14 fa_95 (j := 18 + 8 * m1 + w1) (by rw [hix]; exact vp_in_nI (by omega) (by decide)) (by rw [hix]; exact nI_clamp (by omega)) ?_
  exact j_return x hr dX6_sets_15 (by omega) (by omega) ⟨rfl, rfl⟩
theorem cx_isPlayed {d : Nat} {b : SBt} {Y : OUt} {M : MM} (hb : 104 ≤ b.2.1) {m1 : Nat} (hm : m1 < 56) : CM (d + 1) 0 0 yX6_isPlayed cX6_isPlayed 2 (some .boolean) [.ref 94, .int (nI m1)] b Y M (.inl (some (.int (jb (jof M m1 4 = 1))))) (M) := by
  refine Con.of (by decide +kernel) (Nat.le_of_ble_eq_true rfl) rfl fun p l e s m args below meth c D tyc A ad0 x hr htab hname => ?_
  change JJ _ _ _ _ _ _ _ _ _ _ _ _ _ _ _ _ _ 0 [some (.ref 94), some (.int (nI m1))] [] _ 0 0
  refine j_aload_n x dX6_isPlayed_0 rfl ?_
  refine j_iload_n x dX6_isPlayed_1 rfl ?_
  refine j_iconst (v := 4) x dX6_isPlayed_2 (by decide) ?_
  refine j2_callVi x hb dX6_isPlayed_3 m_X6_of (cx_of (d := d) hb (m1 := m1) (w1 := 4) (by omega) (by decide)) wmX6_68 jc_10 rfl rfl rfl (Nat.le_of_ble_eq_true rfl) (j_fit_rm (by omega) (by omega) (by omega)) rfl ?_
  refine j_iconst (v := 1) x dX6_isPlayed_6 (by decide) ?_
  refine j_b_icmp_ne (T := 14) (E := 15) x dX6_isPlayed_7 (by decide) dX6_isPlayed_10 dX6_isPlayed_11 (by decide) dX6_isPlayed_14 (by decide) ?_
  exact j_zreturn x hr dX6_isPlayed_15 (by first | decide | exact jisS_nar | exact jb_nar) (by omega) (by omega) ⟨rfl, rfl⟩
def jhow (M : MM) (m : Nat) : Int32 := if jof M m 4 = 1 then 1 else 2 * jof M m 5
theorem cx_how {d : Nat} {b : SBt} {Y : OUt} {M : MM} (hb : 104 ≤ b.2.1) {m1 : Nat} (hm : m1 < 56) : CM (d + 2) 0 0 yX6_how cX6_how 2 (some .int) [.ref 94, .int (nI m1)] b Y M (.inl (some (.int (jhow M m1)))) (M) := by
  refine Con.of (by decide +kernel) (Nat.le_of_ble_eq_true rfl) rfl fun p l e s m args below meth c D tyc A ad0 x hr htab hname => ?_
  change JJ _ _ _ _ _ _ _ _ _ _ _ _ _ _ _ _ _ 0 [some (.ref 94), some (.int (nI m1))] [] _ 0 0
  refine j_aload_n x dX6_how_0 rfl ?_
  refine j_iload_n x dX6_how_1 rfl ?_
  refine j2_callVi x hb dX6_how_2 m_X6_isPlayed (cx_isPlayed (d := d) hb hm) wmX6_72 jc_10 rfl rfl rfl (Nat.le_of_ble_eq_true rfl) (j_fit_rm (by omega) (by omega) (by omega)) rfl ?_
  refine j_if_eq (tgt := 12) x dX6_how_5 (by decide) (fun h1 => ?_) (fun h1 => ?_)
  · refine j_iconst (v := 2) x dX6_how_12 (by decide) ?_
    refine j_aload_n x dX6_how_13 rfl ?_
    refine j_iload_n x dX6_how_14 rfl ?_
    refine j_iconst (v := 5) x dX6_how_15 (by decide) ?_
    refine j2_callVi x hb dX6_how_16 m_X6_of (cx_of (d := d) hb (m1 := m1) (w1 := 5) (by omega) (by decide)) wmX6_68 jc_10 rfl rfl rfl (Nat.le_of_ble_eq_true rfl) (j_fit_rm (by omega) (by omega) (by omega)) rfl ?_
    refine j_imul x dX6_how_19 ?_
    exact j_ireturn x hr dX6_how_20 (by omega) (by omega) ⟨by rw [jhow, if_neg (jb_0.mp h1)], rfl⟩
  · refine j_iconst (v := 1) x dX6_how_8 (by decide) ?_
    refine j_goto (tgt := 20) x dX6_how_9 (by decide) ?_
    exact j_ireturn x hr dX6_how_20 (by omega) (by omega) ⟨by rw [jhow, if_pos (jb_nz.mp h1)], rfl⟩
theorem cx_played {d : Nat} {b : SBt} {Y : OUt} {M : MM} (hb : 104 ≤ b.2.1)  {n : Nat} (hn : n ≤ 56) (hct : M 95 9 = nI n) : CM (d + 1) 0 0 yX6_played cX6_played 3 (some .int) [.ref 94] b Y M (.inl (some (.int (jsum (fun m => jof M m 4) n)))) (M) := by
  refine Con.of (by decide +kernel) (Nat.le_of_ble_eq_true rfl) rfl fun p l e s m args below meth c D tyc A ad0 x hr htab hname => ?_
  change JJ _ _ _ _ _ _ _ _ _ _ _ _ _ _ _ _ _ 0 [some (.ref 94), none, none] [] _ 0 0
  refine j_iconst (v := 0) x dX6_played_0 (by decide) ?_
  refine j_istore_n x dX6_played_1 (by decide) rfl ?_
  refine j_iconst (v := 0) x dX6_played_2 (by decide) ?_
  refine j_istore_n x dX6_played_3 (by decide) rfl ?_
  refine j_for (n) (fun j => [some (.ref 94), some (.int (jsum (fun m => jof M m 4) j)), some (.int (nI j))]) (fun j => M) (fun j => True) (rfl) (rfl) (trivial) (fun j hj hP ih => ?_) (fun hP => ?_)
  · refine j_iload_n x dX6_played_4 rfl ?_
    refine j_aload_n x dX6_played_5 rfl ?_
    refine j2_getr (k := 0) (r := 95) x hb dX6_played_6 jc_10 wfX6_9 (by decide) rfl ?_
    refine j_bipush (v := 9) x dX6_played_9 (by decide) ?_
    refine j2_ialn x hb dX6_played_11 fa_95 (j := 9) (vp_c (by decide)) (by decide) ?_; rw [hct]
    refine j_icmp_ge (tgt := 30) x dX6_played_12 (by decide) (fun hc => absurd hc (nI_ge hj (by omega))) (fun hc => ?_)
    refine j_iload_n x dX6_played_15 rfl ?_
    refine j_aload_n x dX6_played_16 rfl ?_
    refine j_iload_n x dX6_played_17 rfl ?_
    refine j_iconst (v := 4) x dX6_played_18 (by decide) ?_
    refine j2_callVi x hb dX6_played_19 m_X6_of (cx_of (d := d) hb (m1 := j) (w1 := 4) (by omega) (by decide)) wmX6_68 jc_10 rfl rfl rfl (Nat.le_of_ble_eq_true rfl) (j_fit_rm (by omega) (by omega) (by omega)) rfl ?_
    refine j_iadd x dX6_played_22 ?_
    refine j_istore_n x dX6_played_23 (by decide) rfl ?_
    refine j_iinc x dX6_played_24 rfl (by decide) rfl ?_
    refine j_goto (tgt := 4) x dX6_played_27 (by decide) ?_
    exact j_goal (ih (trivial)) (wk_c rfl (wk_c (congrArg (fun z => some (Value.int z)) (jsum_v rfl)) (wk_c (congrArg (fun z => some (Value.int z)) (nI_1 _)) (wk_0)))) (rfl)
  refine j_iload_n x dX6_played_4 rfl ?_
  refine j_aload_n x dX6_played_5 rfl ?_
  refine j2_getr (k := 0) (r := 95) x hb dX6_played_6 jc_10 wfX6_9 (by decide) rfl ?_
  refine j_bipush (v := 9) x dX6_played_9 (by decide) ?_
  refine j2_ialn x hb dX6_played_11 fa_95 (j := 9) (vp_c (by decide)) (by decide) ?_; rw [hct]
  refine j_icmp_ge (tgt := 30) x dX6_played_12 (by decide) (fun hc => ?_) (fun hc => absurd (nI_le (Nat.le_refl _) (by omega)) hc)
  refine j_iload_n x dX6_played_30 rfl ?_
  exact j_ireturn x hr dX6_played_31 (by omega) (by omega) ⟨rfl, rfl⟩
def gLeft (M : MM) (m : Nat) : Int32 := jb (jof M m 2 = M 95 2 ∧ ¬ jof M m 4 = 1)
theorem cx_left {d : Nat} {b : SBt} {Y : OUt} {M : MM} (hb : 104 ≤ b.2.1)  {n : Nat} (hn : n ≤ 56) (hct : M 95 9 = nI n) : CM (d + 2) 0 0 yX6_left cX6_left 3 (some .int) [.ref 94] b Y M (.inl (some (.int (jsum (gLeft M) n)))) (M) := by
  refine Con.of (by decide +kernel) (Nat.le_of_ble_eq_true rfl) rfl fun p l e s m args below meth c D tyc A ad0 x hr htab hname => ?_
  change JJ _ _ _ _ _ _ _ _ _ _ _ _ _ _ _ _ _ 0 [some (.ref 94), none, none] [] _ 0 0
  refine j_iconst (v := 0) x dX6_left_0 (by decide) ?_
  refine j_istore_n x dX6_left_1 (by decide) rfl ?_
  refine j_iconst (v := 0) x dX6_left_2 (by decide) ?_
  refine j_istore_n x dX6_left_3 (by decide) rfl ?_
  refine j_for (n) (fun j => [some (.ref 94), some (.int (jsum (gLeft M) j)), some (.int (nI j))]) (fun j => M) (fun j => True) (rfl) (rfl) (trivial) (fun j hj hP ih => ?_) (fun hP => ?_)
  · refine j_iload_n x dX6_left_4 rfl ?_
    refine j_aload_n x dX6_left_5 rfl ?_
    refine j2_getr (k := 0) (r := 95) x hb dX6_left_6 jc_10 wfX6_9 (by decide) rfl ?_
    refine j_bipush (v := 9) x dX6_left_9 (by decide) ?_
    refine j2_ialn x hb dX6_left_11 fa_95 (j := 9) (vp_c (by decide)) (by decide) ?_; rw [hct]
    refine j_icmp_ge (tgt := 47) x dX6_left_12 (by decide) (fun hc => absurd hc (nI_ge hj (by omega))) (fun hc => ?_)
    refine j_aload_n x dX6_left_15 rfl ?_
    refine j_iload_n x dX6_left_16 rfl ?_
    refine j_iconst (v := 2) x dX6_left_17 (by decide) ?_
    refine j2_callVi x hb dX6_left_18 m_X6_of (cx_of (d := d) hb (m1 := j) (w1 := 2) (by omega) (by decide)) wmX6_68 jc_10 rfl rfl rfl (Nat.le_of_ble_eq_true rfl) (j_fit_rm (by omega) (by omega) (by omega)) rfl ?_
    refine j_aload_n x dX6_left_21 rfl ?_
    refine j2_getr (k := 0) (r := 95) x hb dX6_left_22 jc_10 wfX6_9 (by decide) rfl ?_
    refine j_iconst (v := 2) x dX6_left_25 (by decide) ?_
    refine j2_ialn x hb dX6_left_26 fa_95 (j := 2) (vp_c (by decide)) (by decide) ?_
    refine j_icmp_ne (tgt := 41) x dX6_left_27 (by decide) (fun h1 => ?_) (fun h1 => ?_)
    · refine j_iinc x dX6_left_41 rfl (by decide) rfl ?_
      refine j_goto (tgt := 4) x dX6_left_44 (by decide) ?_
      exact j_goal (ih (trivial)) (wk_c rfl (wk_c (congrArg (fun z => some (Value.int z)) (jsum_f (jb_f (fun q => h1 q.1)))) (wk_c (congrArg (fun z => some (Value.int z)) (nI_1 _)) (wk_0)))) (rfl)
    · refine j_aload_n x dX6_left_30 rfl ?_
      refine j_iload_n x dX6_left_31 rfl ?_
      refine j2_callVi x hb dX6_left_32 m_X6_isPlayed (cx_isPlayed (d := d) hb (m1 := j) (by omega)) wmX6_72 jc_10 rfl rfl rfl (Nat.le_of_ble_eq_true rfl) (j_fit_rm (by omega) (by omega) (by omega)) rfl ?_
      refine j_if_ne (tgt := 41) x dX6_left_35 (by decide) (fun h2 => ?_) (fun h2 => ?_)
      · refine j_iinc x dX6_left_41 rfl (by decide) rfl ?_
        refine j_goto (tgt := 4) x dX6_left_44 (by decide) ?_
        exact j_goal (ih (trivial)) (wk_c rfl (wk_c (congrArg (fun z => some (Value.int z)) (jsum_f (jb_f (fun q => q.2 (jb_nz.mp h2))))) (wk_c (congrArg (fun z => some (Value.int z)) (nI_1 _)) (wk_0)))) (rfl)
      · refine j_iinc x dX6_left_38 rfl (by decide) rfl ?_
        refine j_iinc x dX6_left_41 rfl (by decide) rfl ?_
        refine j_goto (tgt := 4) x dX6_left_44 (by decide) ?_
        exact j_goal (ih (trivial)) (wk_c rfl (wk_c (congrArg (fun z => some (Value.int z)) (jsum_v (jb_t ⟨h1, jb_0.mp h2⟩))) (wk_c (congrArg (fun z => some (Value.int z)) (nI_1 _)) (wk_0)))) (rfl)
  refine j_iload_n x dX6_left_4 rfl ?_
  refine j_aload_n x dX6_left_5 rfl ?_
  refine j2_getr (k := 0) (r := 95) x hb dX6_left_6 jc_10 wfX6_9 (by decide) rfl ?_
  refine j_bipush (v := 9) x dX6_left_9 (by decide) ?_
  refine j2_ialn x hb dX6_left_11 fa_95 (j := 9) (vp_c (by decide)) (by decide) ?_; rw [hct]
  refine j_icmp_ge (tgt := 47) x dX6_left_12 (by decide) (fun hc => ?_) (fun hc => absurd (nI_le (Nat.le_refl _) (by omega)) hc)
  refine j_iload_n x dX6_left_47 rfl ?_
  exact j_ireturn x hr dX6_left_48 (by omega) (by omega) ⟨rfl, rfl⟩
def gGr (M : MM) (m : Nat) : Int32 := M 95 (10 + (jof M m 0).toNatClampNeg)
theorem cx_groundOf {d : Nat} {b : SBt} {Y : OUt} {M : MM} (hb : 104 ≤ b.2.1) {m1 : Nat} (hm : m1 < 56) (hho : ∃ h, h < 8 ∧ jof M m1 0 = nI h) : CM (d + 1) 0 0 yX6_groundOf cX6_groundOf 2 (some .int) [.ref 94, .int (nI m1)] b Y M (.inl (some (.int (gGr M m1)))) (M) := by
  have hix : vp_in ((10 : Int32) + jof M m1 0) 466 ∧ ((10 : Int32) + jof M m1 0).toNatClampNeg = 10 + (jof M m1 0).toNatClampNeg := by
    obtain ⟨h, h1, h2⟩ := hho
    rw [h2, show (10 : Int32) + nI h = nI (10 + h) from nI_add 10 h, nI_clamp (by omega), nI_clamp (by omega)]
    exact ⟨vp_in_nI (by omega) (by decide), rfl⟩
  refine Con.of (by decide +kernel) (Nat.le_of_ble_eq_true rfl) rfl fun p l e s m args below meth c D tyc A ad0 x hr htab hname => ?_
  change JJ _ _ _ _ _ _ _ _ _ _ _ _ _ _ _ _ _ 0 [some (.ref 94), some (.int (nI m1))] [] _ 0 0
  refine j_aload_n x dX6_groundOf_0 rfl ?_
  refine j2_getr (k := 0) (r := 95) x hb dX6_groundOf_1 jc_10 wfX6_9 (by decide) rfl ?_
  refine j_bipush (v := 10) x dX6_groundOf_4 (by decide) ?_
  refine j_aload_n x dX6_groundOf_6 rfl ?_
  refine j_iload_n x dX6_groundOf_7 rfl ?_
  refine j_iconst (v := 0) x dX6_groundOf_8 (by decide) ?_
  refine j2_callVi x hb dX6_groundOf_9 m_X6_of (cx_of (d := d) hb (m1 := m1) (w1 := 0) (by omega) (by decide)) wmX6_68 jc_10 rfl rfl rfl (Nat.le_of_ble_eq_true rfl) (j_fit_rm (by omega) (by omega) (by omega)) rfl ?_
  refine j_iadd x dX6_groundOf_12 ?_
  refine j2_ialn x hb dX6_groundOf_13 fa_95 (j := 10 + (jof M m1 0).toNatClampNeg) hix.1 hix.2 ?_
  exact j_ireturn x hr dX6_groundOf_14 (by omega) (by omega) ⟨rfl, rfl⟩
def gCl (M : MM) (q : Nat) (w : Int32) (m : Nat) : Int32 := jb (¬ m = q ∧ jof M m 2 = w ∧ gGr M m = gGr M q)
theorem cx_clashesOf {d : Nat} {b : SBt} {Y : OUt} {M : MM} (hb : 104 ≤ b.2.1) {w : Int32} {q : Nat} {n : Nat} (hn : n ≤ 56) (hct : M 95 9 = nI n) (hq : q < n) (hho : ∀ i, i < n → ∃ h, h < 8 ∧ jof M i 0 = nI h) : CM (d + 2) 0 0 yX6_clashes cX6_clashes 5 (some .int) [.ref 94, .int (nI q), .int w] b Y M (.inl (some (.int (jsum (gCl M q w) n)))) (M) := by
  refine Con.of (by decide +kernel) (Nat.le_of_ble_eq_true rfl) rfl fun p l e s m args below meth c D tyc A ad0 x hr htab hname => ?_
  change JJ _ _ _ _ _ _ _ _ _ _ _ _ _ _ _ _ _ 0 [some (.ref 94), some (.int (nI q)), some (.int w), none, none] [] _ 0 0
  refine j_iconst (v := 0) x dX6_clashes_0 (by decide) ?_
  refine j_istore_n x dX6_clashes_1 (by decide) rfl ?_
  refine j_iconst (v := 0) x dX6_clashes_2 (by decide) ?_
  refine j_istore x dX6_clashes_3 (by decide) rfl ?_
  refine j_for (n) (fun j => [some (.ref 94), some (.int (nI q)), some (.int w), some (.int (jsum (gCl M q w) j)), some (.int (nI j))]) (fun j => M) (fun j => True) (rfl) (rfl) (trivial) (fun j hj hP ih => ?_) (fun hP => ?_)
  · refine j_iload x dX6_clashes_5 rfl ?_
    refine j_aload_n x dX6_clashes_7 rfl ?_
    refine j2_getr (k := 0) (r := 95) x hb dX6_clashes_8 jc_10 wfX6_9 (by decide) rfl ?_
    refine j_bipush (v := 9) x dX6_clashes_11 (by decide) ?_
    refine j2_ialn x hb dX6_clashes_13 fa_95 (j := 9) (vp_c (by decide)) (by decide) ?_; rw [hct]
    refine j_icmp_ge (tgt := 57) x dX6_clashes_14 (by decide) (fun hc => absurd hc (nI_ge hj (by omega))) (fun hc => ?_)
    refine j_iload x dX6_clashes_17 rfl ?_
    refine j_iload_n x dX6_clashes_19 rfl ?_
    refine j_icmp_eq (tgt := 51) x dX6_clashes_20 (by decide) (fun h1 => ?_) (fun h1 => ?_)
    · refine j_iinc x dX6_clashes_51 rfl (by decide) rfl ?_
      refine j_goto (tgt := 5) x dX6_clashes_54 (by decide) ?_
      exact j_goal (ih (trivial)) (wk_c rfl (wk_c rfl (wk_c rfl (wk_c (congrArg (fun z => some (Value.int z)) (jsum_f (jb_f (fun z => z.1 ((nI_eq (by omega) (by omega)).mp h1))))) (wk_c (congrArg (fun z => some (Value.int z)) (nI_1 _)) (wk_0)))))) (rfl)
    · refine j_aload_n x dX6_clashes_23 rfl ?_
      refine j_iload x dX6_clashes_24 rfl ?_
      refine j_iconst (v := 2) x dX6_clashes_26 (by decide) ?_
      refine j2_callVi x hb dX6_clashes_27 m_X6_of (cx_of (d := d) hb (m1 := j) (w1 := 2) (by omega) (by decide)) wmX6_68 jc_10 rfl rfl rfl (Nat.le_of_ble_eq_true rfl) (j_fit_rm (by omega) (by omega) (by omega)) rfl ?_
      refine j_iload_n x dX6_clashes_30 rfl ?_
      refine j_icmp_ne (tgt := 51) x dX6_clashes_31 (by decide) (fun h2 => ?_) (fun h2 => ?_)
      · refine j_iinc x dX6_clashes_51 rfl (by decide) rfl ?_
        refine j_goto (tgt := 5) x dX6_clashes_54 (by decide) ?_
        exact j_goal (ih (trivial)) (wk_c rfl (wk_c rfl (wk_c rfl (wk_c (congrArg (fun z => some (Value.int z)) (jsum_f (jb_f (fun z => h2 z.2.1)))) (wk_c (congrArg (fun z => some (Value.int z)) (nI_1 _)) (wk_0)))))) (rfl)
      · refine j_aload_n x dX6_clashes_34 rfl ?_
        refine j_iload x dX6_clashes_35 rfl ?_
        refine j2_callVi x hb dX6_clashes_37 m_X6_groundOf (cx_groundOf (d := d) hb (m1 := j) (by omega) (hho j hj)) wmX6_137 jc_10 rfl rfl rfl (Nat.le_of_ble_eq_true rfl) (j_fit_rm (by omega) (by omega) (by omega)) rfl ?_
        refine j_aload_n x dX6_clashes_40 rfl ?_
        refine j_iload_n x dX6_clashes_41 rfl ?_
        refine j2_callVi x hb dX6_clashes_42 m_X6_groundOf (cx_groundOf (d := d) hb (m1 := q) (by omega) (hho q hq)) wmX6_137 jc_10 rfl rfl rfl (Nat.le_of_ble_eq_true rfl) (j_fit_rm (by omega) (by omega) (by omega)) rfl ?_
        refine j_icmp_ne (tgt := 51) x dX6_clashes_45 (by decide) (fun h3 => ?_) (fun h3 => ?_)
        · refine j_iinc x dX6_clashes_51 rfl (by decide) rfl ?_
          refine j_goto (tgt := 5) x dX6_clashes_54 (by decide) ?_
          exact j_goal (ih (trivial)) (wk_c rfl (wk_c rfl (wk_c rfl (wk_c (congrArg (fun z => some (Value.int z)) (jsum_f (jb_f (fun z => h3 z.2.2)))) (wk_c (congrArg (fun z => some (Value.int z)) (nI_1 _)) (wk_0)))))) (rfl)
        · refine j_iinc x dX6_clashes_48 rfl (by decide) rfl ?_
          refine j_iinc x dX6_clashes_51 rfl (by decide) rfl ?_
          refine j_goto (tgt := 5) x dX6_clashes_54 (by decide) ?_
          exact j_goal (ih (trivial)) (wk_c rfl (wk_c rfl (wk_c rfl (wk_c (congrArg (fun z => some (Value.int z)) (jsum_v (jb_t ⟨fun z => h1 (by rw [z]), h2, h3⟩))) (wk_c (congrArg (fun z => some (Value.int z)) (nI_1 _)) (wk_0)))))) (rfl)
  refine j_iload x dX6_clashes_5 rfl ?_
  refine j_aload_n x dX6_clashes_7 rfl ?_
  refine j2_getr (k := 0) (r := 95) x hb dX6_clashes_8 jc_10 wfX6_9 (by decide) rfl ?_
  refine j_bipush (v := 9) x dX6_clashes_11 (by decide) ?_
  refine j2_ialn x hb dX6_clashes_13 fa_95 (j := 9) (vp_c (by decide)) (by decide) ?_; rw [hct]
  refine j_icmp_ge (tgt := 57) x dX6_clashes_14 (by decide) (fun hc => ?_) (fun hc => absurd (nI_le (Nat.le_refl _) (by omega)) hc)
  refine j_iload_n x dX6_clashes_57 rfl ?_
  exact j_ireturn x hr dX6_clashes_58 (by omega) (by omega) ⟨rfl, rfl⟩
def gPair (M : MM) (n : Nat) (w : Int32) (m : Nat) : Int32 := if jof M m 2 = w then jsum (gCl M m w) n else 0
def gpairs (M : MM) (n : Nat) (w : Int32) : Int32 := jsum (gPair M n w) n / 2
theorem cx_clashesIn {d : Nat} {b : SBt} {Y : OUt} {M : MM} (hb : 104 ≤ b.2.1) {w : Int32} {n : Nat} (hn : n ≤ 56) (hct : M 95 9 = nI n) (hho : ∀ i, i < n → ∃ h, h < 8 ∧ jof M i 0 = nI h) : CM (d + 3) 0 0 yX6_clashesIn cX6_clashesIn 4 (some .int) [.ref 94, .int w] b Y M (.inl (some (.int (gpairs M n w)))) (M) := by
  refine Con.of (by decide +kernel) (Nat.le_of_ble_eq_true rfl) rfl fun p l e s m args below meth c D tyc A ad0 x hr htab hname => ?_
  change JJ _ _ _ _ _ _ _ _ _ _ _ _ _ _ _ _ _ 0 [some (.ref 94), some (.int w), none, none] [] _ 0 0
  refine j_iconst (v := 0) x dX6_clashesIn_0 (by decide) ?_
  refine j_istore_n x dX6_clashesIn_1 (by decide) rfl ?_
  refine j_iconst (v := 0) x dX6_clashesIn_2 (by decide) ?_
  refine j_istore_n x dX6_clashesIn_3 (by decide) rfl ?_
  refine j_for (n) (fun j => [some (.ref 94), some (.int w), some (.int (jsum (gPair M n w) j)), some (.int (nI j))]) (fun j => M) (fun j => True) (rfl) (rfl) (trivial) (fun j hj hP ih => ?_) (fun hP => ?_)
  · refine j_iload_n x dX6_clashesIn_4 rfl ?_
    refine j_aload_n x dX6_clashesIn_5 rfl ?_
    refine j2_getr (k := 0) (r := 95) x hb dX6_clashesIn_6 jc_10 wfX6_9 (by decide) rfl ?_
    refine j_bipush (v := 9) x dX6_clashesIn_9 (by decide) ?_
    refine j2_ialn x hb dX6_clashesIn_11 fa_95 (j := 9) (vp_c (by decide)) (by decide) ?_; rw [hct]
    refine j_icmp_ge (tgt := 40) x dX6_clashesIn_12 (by decide) (fun hc => absurd hc (nI_ge hj (by omega))) (fun hc => ?_)
    refine j_aload_n x dX6_clashesIn_15 rfl ?_
    refine j_iload_n x dX6_clashesIn_16 rfl ?_
    refine j_iconst (v := 2) x dX6_clashesIn_17 (by decide) ?_
    refine j2_callVi x hb dX6_clashesIn_18 m_X6_of (cx_of (d := d) hb (m1 := j) (w1 := 2) (by omega) (by decide)) wmX6_68 jc_10 rfl rfl rfl (Nat.le_of_ble_eq_true rfl) (j_fit_rm (by omega) (by omega) (by omega)) rfl ?_
    refine j_iload_n x dX6_clashesIn_21 rfl ?_
    refine j_icmp_ne (tgt := 34) x dX6_clashesIn_22 (by decide) (fun h1 => ?_) (fun h1 => ?_)
    · refine j_iinc x dX6_clashesIn_34 rfl (by decide) rfl ?_
      refine j_goto (tgt := 4) x dX6_clashesIn_37 (by decide) ?_
      exact j_goal (ih (trivial)) (wk_c rfl (wk_c rfl (wk_c (congrArg (fun z => some (Value.int z)) (jsum_f (if_neg h1))) (wk_c (congrArg (fun z => some (Value.int z)) (nI_1 _)) (wk_0))))) (rfl)
    · refine j_iload_n x dX6_clashesIn_25 rfl ?_
      refine j_aload_n x dX6_clashesIn_26 rfl ?_
      refine j_iload_n x dX6_clashesIn_27 rfl ?_
      refine j_iload_n x dX6_clashesIn_28 rfl ?_
      refine j2_callVi x hb dX6_clashesIn_29 m_X6_clashes (cx_clashesOf (d := d) hb hn hct hj hho) wmX6_143 jc_10 rfl rfl rfl (Nat.le_of_ble_eq_true rfl) (j_fit_rm (by omega) (by omega) (by omega)) rfl ?_
      refine j_iadd x dX6_clashesIn_32 ?_
      refine j_istore_n x dX6_clashesIn_33 (by decide) rfl ?_
      refine j_iinc x dX6_clashesIn_34 rfl (by decide) rfl ?_
      refine j_goto (tgt := 4) x dX6_clashesIn_37 (by decide) ?_
      exact j_goal (ih (trivial)) (wk_c rfl (wk_c rfl (wk_c (congrArg (fun z => some (Value.int z)) (jsum_v (if_pos h1))) (wk_c (congrArg (fun z => some (Value.int z)) (nI_1 _)) (wk_0))))) (rfl)
  refine j_iload_n x dX6_clashesIn_4 rfl ?_
  refine j_aload_n x dX6_clashesIn_5 rfl ?_
  refine j2_getr (k := 0) (r := 95) x hb dX6_clashesIn_6 jc_10 wfX6_9 (by decide) rfl ?_
  refine j_bipush (v := 9) x dX6_clashesIn_9 (by decide) ?_
  refine j2_ialn x hb dX6_clashesIn_11 fa_95 (j := 9) (vp_c (by decide)) (by decide) ?_; rw [hct]
  refine j_icmp_ge (tgt := 40) x dX6_clashesIn_12 (by decide) (fun hc => ?_) (fun hc => absurd (nI_le (Nat.le_refl _) (by omega)) hc)
  refine j_iload_n x dX6_clashesIn_40 rfl ?_
  refine j_iconst (v := 2) x dX6_clashesIn_41 (by decide) ?_
  refine j_idiv x dX6_clashesIn_42 (by decide) ?_
  exact j_ireturn x hr dX6_clashesIn_43 (by omega) (by omega) ⟨rfl, rfl⟩
def fHas (M : MM) (t : Int32) (k : Nat) (s : Int32) (m : Nat) : Int32 :=
  if ¬ jof M m 0 = t ∧ ¬ jof M m 1 = t then 0
  else if (s >>> ((if jof M m 0 = t then jof M m 1 else jof M m 0) &&& 31)) &&& 1 = 0 then 0
  else if ¬ jof M m 4 = 1 then (if k = 8 then 1 else 0)
  else if k = 1 then (if ¬ (if jof M m 0 = t then jof M m 6 else jof M m 7) ≤ (if jof M m 0 = t then jof M m 7 else jof M m 6) then M 95 3 else if (if jof M m 0 = t then jof M m 6 else jof M m 7) = (if jof M m 0 = t then jof M m 7 else jof M m 6) then M 95 4 else 0)
  else if k = 2 then jb (¬ (if jof M m 0 = t then jof M m 6 else jof M m 7) ≤ (if jof M m 0 = t then jof M m 7 else jof M m 6))
  else if k = 3 then jb ((if jof M m 0 = t then jof M m 6 else jof M m 7) = (if jof M m 0 = t then jof M m 7 else jof M m 6))
  else if k = 4 then jb (¬ (if jof M m 0 = t then jof M m 7 else jof M m 6) ≤ (if jof M m 0 = t then jof M m 6 else jof M m 7))
  else if k = 5 then (if jof M m 0 = t then jof M m 6 else jof M m 7)
  else if k = 6 then (if jof M m 0 = t then jof M m 7 else jof M m 6)
  else if k = 7 then (if jof M m 0 = t then 0 else jof M m 7)
  else 0
theorem cx_has_1 {d : Nat} {b : SBt} {Y : OUt} {M : MM} (hb : 104 ≤ b.2.1) {t w : Int32} {n : Nat} (hn : n ≤ 56) (hct : M 95 9 = nI n) : CM (d + 2) 0 0 yX6_has cX6_has 10 (some .int) [.ref 94, .int t, .int 1, .int w] b Y M (.inl (some (.int (jsum (fHas M t 1 w) n)))) (M) := by
  refine Con.of (by decide +kernel) (Nat.le_of_ble_eq_true rfl) rfl fun p l e s m args below meth c D tyc A ad0 x hr htab hname => ?_
  change JJ _ _ _ _ _ _ _ _ _ _ _ _ _ _ _ _ _ 0 [some (.ref 94), some (.int t), some (.int 1), some (.int w), none, none, none, none, none, none] [] _ 0 0
  refine j_iconst (v := 0) x dX6_has_0 (by decide) ?_
  refine j_istore x dX6_has_1 (by decide) rfl ?_
  refine j_iconst (v := 0) x dX6_has_3 (by decide) ?_
  refine j_istore x dX6_has_4 (by decide) rfl ?_
  refine j_for (n) (fun j => [some (.ref 94), some (.int t), some (.int 1), some (.int w), some (.int (jsum (fHas M t 1 w) j)), some (.int (nI j)), none, none, none, none]) (fun j => M) (fun j => True) (rfl) (rfl) (trivial) (fun j hj hP ih => ?_) (fun hP => ?_)
  · refine j_iload x dX6_has_6 rfl ?_
    refine j_aload_n x dX6_has_8 rfl ?_
    refine j2_getr (k := 0) (r := 95) x hb dX6_has_9 jc_10 wfX6_9 (by decide) rfl ?_
    refine j_bipush (v := 9) x dX6_has_12 (by decide) ?_
    refine j2_ialn x hb dX6_has_14 fa_95 (j := 9) (vp_c (by decide)) (by decide) ?_; rw [hct]
    refine j_icmp_ge (tgt := 317) x dX6_has_15 (by decide) (fun hc => absurd hc (nI_ge hj (by omega))) (fun hc => ?_)
    refine j_aload_n x dX6_has_18 rfl ?_
    refine j_iload x dX6_has_19 rfl ?_
    refine j_iconst (v := 0) x dX6_has_21 (by decide) ?_
    refine j2_callVi x hb dX6_has_22 m_X6_of (cx_of (d := d) hb (m1 := j) (w1 := 0) (by omega) (by decide)) wmX6_68 jc_10 rfl rfl rfl (Nat.le_of_ble_eq_true rfl) (j_fit_rm (by omega) (by omega) (by omega)) rfl ?_
    refine j_iload_n x dX6_has_25 rfl ?_
    refine j_icmp_ne (tgt := 33) x dX6_has_26 (by decide) (fun hA => ?_) (fun hA => ?_)
    · refine j_iconst (v := 0) x dX6_has_33 (by decide) ?_
      refine j_istore x dX6_has_34 (by decide) rfl ?_
      refine j_iload x dX6_has_36 rfl ?_
      refine j_if_ne (tgt := 55) x dX6_has_38 (by decide) (fun hc => absurd hc (fun q => q rfl)) (fun hc => ?_)
      refine j_aload_n x dX6_has_41 rfl ?_
      refine j_iload x dX6_has_42 rfl ?_
      refine j_iconst (v := 1) x dX6_has_44 (by decide) ?_
      refine j2_callVi x hb dX6_has_45 m_X6_of (cx_of (d := d) hb (m1 := j) (w1 := 1) (by omega) (by decide)) wmX6_68 jc_10 rfl rfl rfl (Nat.le_of_ble_eq_true rfl) (j_fit_rm (by omega) (by omega) (by omega)) rfl ?_
      refine j_iload_n x dX6_has_48 rfl ?_
      refine j_icmp_eq (tgt := 55) x dX6_has_49 (by decide) (fun hB => ?_) (fun hB => ?_)
      · refine j_iload x dX6_has_55 rfl ?_
        refine j_if_eq (tgt := 70) x dX6_has_57 (by decide) (fun hc => ?_) (fun hc => absurd (rfl) hc)
        refine j_aload_n x dX6_has_70 rfl ?_
        refine j_iload x dX6_has_71 rfl ?_
        refine j_iconst (v := 0) x dX6_has_73 (by decide) ?_
        refine j2_callVi x hb dX6_has_74 m_X6_of (cx_of (d := d) hb (m1 := j) (w1 := 0) (by omega) (by decide)) wmX6_68 jc_10 rfl rfl rfl (Nat.le_of_ble_eq_true rfl) (j_fit_rm (by omega) (by omega) (by omega)) rfl ?_
        refine j_istore x dX6_has_77 (by decide) rfl ?_
        refine j_iload_n x dX6_has_79 rfl ?_
        refine j_iload x dX6_has_80 rfl ?_
        refine j_ishr x dX6_has_82 ?_
        refine j_iconst (v := 1) x dX6_has_83 (by decide) ?_
        refine j_iand x dX6_has_84 ?_
        refine j_if_ne (tgt := 91) x dX6_has_85 (by decide) (fun hS => ?_) (fun hS => ?_)
        · refine j_aload_n x dX6_has_91 rfl ?_
          refine j_iload x dX6_has_92 rfl ?_
          refine j2_callVi x hb dX6_has_94 m_X6_isPlayed (cx_isPlayed (d := d) hb (m1 := j) (by omega)) wmX6_72 jc_10 rfl rfl rfl (Nat.le_of_ble_eq_true rfl) (j_fit_rm (by omega) (by omega) (by omega)) rfl ?_
          refine j_if_ne (tgt := 112) x dX6_has_97 (by decide) (fun hP2 => ?_) (fun hP2 => ?_)
          · refine j_aload_n x dX6_has_112 rfl ?_
            refine j_iload x dX6_has_113 rfl ?_
            refine j_iload x dX6_has_115 rfl ?_
            refine j_if_eq (tgt := 125) x dX6_has_117 (by decide) (fun hc => ?_) (fun hc => absurd (rfl) hc)
            refine j_bipush (v := 7) x dX6_has_125 (by decide) ?_
            refine j2_callVi x hb dX6_has_127 m_X6_of (cx_of (d := d) hb (m1 := j) (w1 := 7) (by omega) (by decide)) wmX6_68 jc_10 rfl rfl rfl (Nat.le_of_ble_eq_true rfl) (j_fit_rm (by omega) (by omega) (by omega)) rfl ?_
            refine j_istore x dX6_has_130 (by decide) rfl ?_
            refine j_aload_n x dX6_has_132 rfl ?_
            refine j_iload x dX6_has_133 rfl ?_
            refine j_iload x dX6_has_135 rfl ?_
            refine j_if_eq (tgt := 145) x dX6_has_137 (by decide) (fun hc => ?_) (fun hc => absurd (rfl) hc)
            refine j_bipush (v := 6) x dX6_has_145 (by decide) ?_
            refine j2_callVi x hb dX6_has_147 m_X6_of (cx_of (d := d) hb (m1 := j) (w1 := 6) (by omega) (by decide)) wmX6_68 jc_10 rfl rfl rfl (Nat.le_of_ble_eq_true rfl) (j_fit_rm (by omega) (by omega) (by omega)) rfl ?_
            refine j_istore x dX6_has_150 (by decide) rfl ?_
            refine j_iload_n x dX6_has_152 rfl ?_
            refine j_tableIn (tgt := 196) x dX6_has_153 (by decide) (by decide) rfl (by decide) ?_
            refine j_iload x dX6_has_196 rfl ?_
            refine j_iload x dX6_has_198 rfl ?_
            refine j_iload x dX6_has_200 rfl ?_
            refine j_icmp_le (tgt := 214) x dX6_has_202 (by decide) (fun g1 => ?_) (fun g1 => ?_)
            · refine j_iload x dX6_has_214 rfl ?_
              refine j_iload x dX6_has_216 rfl ?_
              refine j_icmp_ne (tgt := 230) x dX6_has_218 (by decide) (fun g2 => ?_) (fun g2 => ?_)
              · refine j_iconst (v := 0) x dX6_has_230 (by decide) ?_
                refine j_iadd x dX6_has_231 ?_
                refine j_istore x dX6_has_232 (by decide) rfl ?_
                refine j_goto (tgt := 311) x dX6_has_234 (by decide) ?_
                refine j_iinc x dX6_has_311 rfl (by decide) rfl ?_
                refine j_goto (tgt := 6) x dX6_has_314 (by decide) ?_
                exact j_goal (ih (trivial)) (wk_c rfl (wk_c rfl (wk_c rfl (wk_c rfl (wk_c (congrArg (fun z => some (Value.int z)) (jsum_v (by simp [fHas, hA, hB, hS, jb_nz.mp hP2, g1, g2]))) (wk_c (congrArg (fun z => some (Value.int z)) (nI_1 _)) (wk_n (wk_n (wk_n (wk_n (wk_0))))))))))) (rfl)
              · refine j_aload_n x dX6_has_221 rfl ?_
                refine j2_getr (k := 0) (r := 95) x hb dX6_has_222 jc_10 wfX6_9 (by decide) rfl ?_
                refine j_iconst (v := 4) x dX6_has_225 (by decide) ?_
                refine j2_ialn x hb dX6_has_226 fa_95 (j := 4) (vp_c (by decide)) (by decide) ?_
                refine j_goto (tgt := 231) x dX6_has_227 (by decide) ?_
                refine j_iadd x dX6_has_231 ?_
                refine j_istore x dX6_has_232 (by decide) rfl ?_
                refine j_goto (tgt := 311) x dX6_has_234 (by decide) ?_
                refine j_iinc x dX6_has_311 rfl (by decide) rfl ?_
                refine j_goto (tgt := 6) x dX6_has_314 (by decide) ?_
                exact j_goal (ih (trivial)) (wk_c rfl (wk_c rfl (wk_c rfl (wk_c rfl (wk_c (congrArg (fun z => some (Value.int z)) (jsum_v (by simp [fHas, hA, hB, hS, jb_nz.mp hP2, g1, g2]))) (wk_c (congrArg (fun z => some (Value.int z)) (nI_1 _)) (wk_n (wk_n (wk_n (wk_n (wk_0))))))))))) (rfl)
            · refine j_aload_n x dX6_has_205 rfl ?_
              refine j2_getr (k := 0) (r := 95) x hb dX6_has_206 jc_10 wfX6_9 (by decide) rfl ?_
              refine j_iconst (v := 3) x dX6_has_209 (by decide) ?_
              refine j2_ialn x hb dX6_has_210 fa_95 (j := 3) (vp_c (by decide)) (by decide) ?_
              refine j_goto (tgt := 231) x dX6_has_211 (by decide) ?_
              refine j_iadd x dX6_has_231 ?_
              refine j_istore x dX6_has_232 (by decide) rfl ?_
              refine j_goto (tgt := 311) x dX6_has_234 (by decide) ?_
              refine j_iinc x dX6_has_311 rfl (by decide) rfl ?_
              refine j_goto (tgt := 6) x dX6_has_314 (by decide) ?_
              exact j_goal (ih (trivial)) (wk_c rfl (wk_c rfl (wk_c rfl (wk_c rfl (wk_c (congrArg (fun z => some (Value.int z)) (jsum_v (by simp [fHas, hA, hB, hS, jb_nz.mp hP2, g1]))) (wk_c (congrArg (fun z => some (Value.int z)) (nI_1 _)) (wk_n (wk_n (wk_n (wk_n (wk_0))))))))))) (rfl)
          · refine j_iload_n x dX6_has_100 rfl ?_
            refine j_bipush (v := 8) x dX6_has_101 (by decide) ?_
            refine j_icmp_ne (tgt := 311) x dX6_has_103 (by decide) (fun hc => ?_) (fun hc => absurd hc (by decide))
            refine j_iinc x dX6_has_311 rfl (by decide) rfl ?_
            refine j_goto (tgt := 6) x dX6_has_314 (by decide) ?_
            exact j_goal (ih (trivial)) (wk_c rfl (wk_c rfl (wk_c rfl (wk_c rfl (wk_c (congrArg (fun z => some (Value.int z)) (jsum_f (by simp [fHas, hA, hB, hS, jb_0.mp hP2]))) (wk_c (congrArg (fun z => some (Value.int z)) (nI_1 _)) (wk_n (wk_n (wk_n (wk_n (wk_0))))))))))) (rfl)
        · refine j_goto (tgt := 311) x dX6_has_88 (by decide) ?_
          refine j_iinc x dX6_has_311 rfl (by decide) rfl ?_
          refine j_goto (tgt := 6) x dX6_has_314 (by decide) ?_
          exact j_goal (ih (trivial)) (wk_c rfl (wk_c rfl (wk_c rfl (wk_c rfl (wk_c (congrArg (fun z => some (Value.int z)) (jsum_f (by simp [fHas, hA, hB, hS]))) (wk_c (congrArg (fun z => some (Value.int z)) (nI_1 _)) (wk_n (wk_n (wk_n (wk_n (wk_0))))))))))) (rfl)
      · refine j_goto (tgt := 311) x dX6_has_52 (by decide) ?_
        refine j_iinc x dX6_has_311 rfl (by decide) rfl ?_
        refine j_goto (tgt := 6) x dX6_has_314 (by decide) ?_
        exact j_goal (ih (trivial)) (wk_c rfl (wk_c rfl (wk_c rfl (wk_c rfl (wk_c (congrArg (fun z => some (Value.int z)) (jsum_f (by simp [fHas, hA, hB]))) (wk_c (congrArg (fun z => some (Value.int z)) (nI_1 _)) (wk_n (wk_n (wk_n (wk_n (wk_0))))))))))) (rfl)
    · refine j_iconst (v := 1) x dX6_has_29 (by decide) ?_
      refine j_goto (tgt := 34) x dX6_has_30 (by decide) ?_
      refine j_istore x dX6_has_34 (by decide) rfl ?_
      refine j_iload x dX6_has_36 rfl ?_
      refine j_if_ne (tgt := 55) x dX6_has_38 (by decide) (fun hc => ?_) (fun hc => absurd hc (by decide))
      refine j_iload x dX6_has_55 rfl ?_
      refine j_if_eq (tgt := 70) x dX6_has_57 (by decide) (fun hc => absurd hc (by decide)) (fun hc => ?_)
      refine j_aload_n x dX6_has_60 rfl ?_
      refine j_iload x dX6_has_61 rfl ?_
      refine j_iconst (v := 1) x dX6_has_63 (by decide) ?_
      refine j2_callVi x hb dX6_has_64 m_X6_of (cx_of (d := d) hb (m1 := j) (w1 := 1) (by omega) (by decide)) wmX6_68 jc_10 rfl rfl rfl (Nat.le_of_ble_eq_true rfl) (j_fit_rm (by omega) (by omega) (by omega)) rfl ?_
      refine j_goto (tgt := 77) x dX6_has_67 (by decide) ?_
      refine j_istore x dX6_has_77 (by decide) rfl ?_
      refine j_iload_n x dX6_has_79 rfl ?_
      refine j_iload x dX6_has_80 rfl ?_
      refine j_ishr x dX6_has_82 ?_
      refine j_iconst (v := 1) x dX6_has_83 (by decide) ?_
      refine j_iand x dX6_has_84 ?_
      refine j_if_ne (tgt := 91) x dX6_has_85 (by decide) (fun hS => ?_) (fun hS => ?_)
      · refine j_aload_n x dX6_has_91 rfl ?_
        refine j_iload x dX6_has_92 rfl ?_
        refine j2_callVi x hb dX6_has_94 m_X6_isPlayed (cx_isPlayed (d := d) hb (m1 := j) (by omega)) wmX6_72 jc_10 rfl rfl rfl (Nat.le_of_ble_eq_true rfl) (j_fit_rm (by omega) (by omega) (by omega)) rfl ?_
        refine j_if_ne (tgt := 112) x dX6_has_97 (by decide) (fun hP2 => ?_) (fun hP2 => ?_)
        · refine j_aload_n x dX6_has_112 rfl ?_
          refine j_iload x dX6_has_113 rfl ?_
          refine j_iload x dX6_has_115 rfl ?_
          refine j_if_eq (tgt := 125) x dX6_has_117 (by decide) (fun hc => absurd hc (by decide)) (fun hc => ?_)
          refine j_bipush (v := 6) x dX6_has_120 (by decide) ?_
          refine j_goto (tgt := 127) x dX6_has_122 (by decide) ?_
          refine j2_callVi x hb dX6_has_127 m_X6_of (cx_of (d := d) hb (m1 := j) (w1 := 6) (by omega) (by decide)) wmX6_68 jc_10 rfl rfl rfl (Nat.le_of_ble_eq_true rfl) (j_fit_rm (by omega) (by omega) (by omega)) rfl ?_
          refine j_istore x dX6_has_130 (by decide) rfl ?_
          refine j_aload_n x dX6_has_132 rfl ?_
          refine j_iload x dX6_has_133 rfl ?_
          refine j_iload x dX6_has_135 rfl ?_
          refine j_if_eq (tgt := 145) x dX6_has_137 (by decide) (fun hc => absurd hc (by decide)) (fun hc => ?_)
          refine j_bipush (v := 7) x dX6_has_140 (by decide) ?_
          refine j_goto (tgt := 147) x dX6_has_142 (by decide) ?_
          refine j2_callVi x hb dX6_has_147 m_X6_of (cx_of (d := d) hb (m1 := j) (w1 := 7) (by omega) (by decide)) wmX6_68 jc_10 rfl rfl rfl (Nat.le_of_ble_eq_true rfl) (j_fit_rm (by omega) (by omega) (by omega)) rfl ?_
          refine j_istore x dX6_has_150 (by decide) rfl ?_
          refine j_iload_n x dX6_has_152 rfl ?_
          refine j_tableIn (tgt := 196) x dX6_has_153 (by decide) (by decide) rfl (by decide) ?_
          refine j_iload x dX6_has_196 rfl ?_
          refine j_iload x dX6_has_198 rfl ?_
          refine j_iload x dX6_has_200 rfl ?_
          refine j_icmp_le (tgt := 214) x dX6_has_202 (by decide) (fun g1 => ?_) (fun g1 => ?_)
          · refine j_iload x dX6_has_214 rfl ?_
            refine j_iload x dX6_has_216 rfl ?_
            refine j_icmp_ne (tgt := 230) x dX6_has_218 (by decide) (fun g2 => ?_) (fun g2 => ?_)
            · refine j_iconst (v := 0) x dX6_has_230 (by decide) ?_
              refine j_iadd x dX6_has_231 ?_
              refine j_istore x dX6_has_232 (by decide) rfl ?_
              refine j_goto (tgt := 311) x dX6_has_234 (by decide) ?_
              refine j_iinc x dX6_has_311 rfl (by decide) rfl ?_
              refine j_goto (tgt := 6) x dX6_has_314 (by decide) ?_
              exact j_goal (ih (trivial)) (wk_c rfl (wk_c rfl (wk_c rfl (wk_c rfl (wk_c (congrArg (fun z => some (Value.int z)) (jsum_v (by simp [fHas, hA, hS, jb_nz.mp hP2, g1, g2]))) (wk_c (congrArg (fun z => some (Value.int z)) (nI_1 _)) (wk_n (wk_n (wk_n (wk_n (wk_0))))))))))) (rfl)
            · refine j_aload_n x dX6_has_221 rfl ?_
              refine j2_getr (k := 0) (r := 95) x hb dX6_has_222 jc_10 wfX6_9 (by decide) rfl ?_
              refine j_iconst (v := 4) x dX6_has_225 (by decide) ?_
              refine j2_ialn x hb dX6_has_226 fa_95 (j := 4) (vp_c (by decide)) (by decide) ?_
              refine j_goto (tgt := 231) x dX6_has_227 (by decide) ?_
              refine j_iadd x dX6_has_231 ?_
              refine j_istore x dX6_has_232 (by decide) rfl ?_
              refine j_goto (tgt := 311) x dX6_has_234 (by decide) ?_
              refine j_iinc x dX6_has_311 rfl (by decide) rfl ?_
              refine j_goto (tgt := 6) x dX6_has_314 (by decide) ?_
              exact j_goal (ih (trivial)) (wk_c rfl (wk_c rfl (wk_c rfl (wk_c rfl (wk_c (congrArg (fun z => some (Value.int z)) (jsum_v (by simp [fHas, hA, hS, jb_nz.mp hP2, g1, g2]))) (wk_c (congrArg (fun z => some (Value.int z)) (nI_1 _)) (wk_n (wk_n (wk_n (wk_n (wk_0))))))))))) (rfl)
          · refine j_aload_n x dX6_has_205 rfl ?_
            refine j2_getr (k := 0) (r := 95) x hb dX6_has_206 jc_10 wfX6_9 (by decide) rfl ?_
            refine j_iconst (v := 3) x dX6_has_209 (by decide) ?_
            refine j2_ialn x hb dX6_has_210 fa_95 (j := 3) (vp_c (by decide)) (by decide) ?_
            refine j_goto (tgt := 231) x dX6_has_211 (by decide) ?_
            refine j_iadd x dX6_has_231 ?_
            refine j_istore x dX6_has_232 (by decide) rfl ?_
            refine j_goto (tgt := 311) x dX6_has_234 (by decide) ?_
            refine j_iinc x dX6_has_311 rfl (by decide) rfl ?_
            refine j_goto (tgt := 6) x dX6_has_314 (by decide) ?_
            exact j_goal (ih (trivial)) (wk_c rfl (wk_c rfl (wk_c rfl (wk_c rfl (wk_c (congrArg (fun z => some (Value.int z)) (jsum_v (by simp [fHas, hA, hS, jb_nz.mp hP2, g1]))) (wk_c (congrArg (fun z => some (Value.int z)) (nI_1 _)) (wk_n (wk_n (wk_n (wk_n (wk_0))))))))))) (rfl)
        · refine j_iload_n x dX6_has_100 rfl ?_
          refine j_bipush (v := 8) x dX6_has_101 (by decide) ?_
          refine j_icmp_ne (tgt := 311) x dX6_has_103 (by decide) (fun hc => ?_) (fun hc => absurd hc (by decide))
          refine j_iinc x dX6_has_311 rfl (by decide) rfl ?_
          refine j_goto (tgt := 6) x dX6_has_314 (by decide) ?_
          exact j_goal (ih (trivial)) (wk_c rfl (wk_c rfl (wk_c rfl (wk_c rfl (wk_c (congrArg (fun z => some (Value.int z)) (jsum_f (by simp [fHas, hA, hS, jb_0.mp hP2]))) (wk_c (congrArg (fun z => some (Value.int z)) (nI_1 _)) (wk_n (wk_n (wk_n (wk_n (wk_0))))))))))) (rfl)
      · refine j_goto (tgt := 311) x dX6_has_88 (by decide) ?_
        refine j_iinc x dX6_has_311 rfl (by decide) rfl ?_
        refine j_goto (tgt := 6) x dX6_has_314 (by decide) ?_
        exact j_goal (ih (trivial)) (wk_c rfl (wk_c rfl (wk_c rfl (wk_c rfl (wk_c (congrArg (fun z => some (Value.int z)) (jsum_f (by simp [fHas, hA, hS]))) (wk_c (congrArg (fun z => some (Value.int z)) (nI_1 _)) (wk_n (wk_n (wk_n (wk_n (wk_0))))))))))) (rfl)
  refine j_iload x dX6_has_6 rfl ?_
  refine j_aload_n x dX6_has_8 rfl ?_
  refine j2_getr (k := 0) (r := 95) x hb dX6_has_9 jc_10 wfX6_9 (by decide) rfl ?_
  refine j_bipush (v := 9) x dX6_has_12 (by decide) ?_
  refine j2_ialn x hb dX6_has_14 fa_95 (j := 9) (vp_c (by decide)) (by decide) ?_; rw [hct]
  refine j_icmp_ge (tgt := 317) x dX6_has_15 (by decide) (fun hc => ?_) (fun hc => absurd (nI_le (Nat.le_refl _) (by omega)) hc)
  refine j_iload x dX6_has_317 rfl ?_
  exact j_ireturn x hr dX6_has_319 (by omega) (by omega) ⟨rfl, rfl⟩
theorem cx_has2_1 {d : Nat} {b : SBt} {Y : OUt} {M : MM} (hb : 104 ≤ b.2.1) {t : Int32} {n : Nat} (hn : n ≤ 56) (hct : M 95 9 = nI n) : CM (d + 3) 0 0 yX6_has_ cX6_has_ 3 (some .int) [.ref 94, .int t, .int 1] b Y M (.inl (some (.int (jsum (fHas M t 1 (-1)) n)))) (M) := by
  refine Con.of (by decide +kernel) (Nat.le_of_ble_eq_true rfl) rfl fun p l e s m args below meth c D tyc A ad0 x hr htab hname => ?_
  change JJ _ _ _ _ _ _ _ _ _ _ _ _ _ _ _ _ _ 0 [some (.ref 94), some (.int t), some (.int 1)] [] _ 0 0
  refine j_aload_n x dX6_has__0 rfl ?_
  refine j_iload_n x dX6_has__1 rfl ?_
  refine j_iload_n x dX6_has__2 rfl ?_
  refine j_iconst (v := (-1)) x dX6_has__3 (by decide) ?_
  refine j2_callVi x hb dX6_has__4 m_X6_has (cx_has_1 (d := d) hb hn hct) wmX6_152 jc_10 rfl rfl rfl (Nat.le_of_ble_eq_true rfl) (j_fit_rm (by omega) (by omega) (by omega)) rfl ?_
  exact j_ireturn x hr dX6_has__7 (by omega) (by omega) ⟨rfl, rfl⟩
theorem cx_has_2 {d : Nat} {b : SBt} {Y : OUt} {M : MM} (hb : 104 ≤ b.2.1) {t w : Int32} {n : Nat} (hn : n ≤ 56) (hct : M 95 9 = nI n) : CM (d + 2) 0 0 yX6_has cX6_has 10 (some .int) [.ref 94, .int t, .int 2, .int w] b Y M (.inl (some (.int (jsum (fHas M t 2 w) n)))) (M) := by
  refine Con.of (by decide +kernel) (Nat.le_of_ble_eq_true rfl) rfl fun p l e s m args below meth c D tyc A ad0 x hr htab hname => ?_
  change JJ _ _ _ _ _ _ _ _ _ _ _ _ _ _ _ _ _ 0 [some (.ref 94), some (.int t), some (.int 2), some (.int w), none, none, none, none, none, none] [] _ 0 0
  refine j_iconst (v := 0) x dX6_has_0 (by decide) ?_
  refine j_istore x dX6_has_1 (by decide) rfl ?_
  refine j_iconst (v := 0) x dX6_has_3 (by decide) ?_
  refine j_istore x dX6_has_4 (by decide) rfl ?_
  refine j_for (n) (fun j => [some (.ref 94), some (.int t), some (.int 2), some (.int w), some (.int (jsum (fHas M t 2 w) j)), some (.int (nI j)), none, none, none, none]) (fun j => M) (fun j => True) (rfl) (rfl) (trivial) (fun j hj hP ih => ?_) (fun hP => ?_)
  · refine j_iload x dX6_has_6 rfl ?_
    refine j_aload_n x dX6_has_8 rfl ?_
    refine j2_getr (k := 0) (r := 95) x hb dX6_has_9 jc_10 wfX6_9 (by decide) rfl ?_
    refine j_bipush (v := 9) x dX6_has_12 (by decide) ?_
    refine j2_ialn x hb dX6_has_14 fa_95 (j := 9) (vp_c (by decide)) (by decide) ?_; rw [hct]
    refine j_icmp_ge (tgt := 317) x dX6_has_15 (by decide) (fun hc => absurd hc (nI_ge hj (by omega))) (fun hc => ?_)
    refine j_aload_n x dX6_has_18 rfl ?_
    refine j_iload x dX6_has_19 rfl ?_
    refine j_iconst (v := 0) x dX6_has_21 (by decide) ?_
    refine j2_callVi x hb dX6_has_22 m_X6_of (cx_of (d := d) hb (m1 := j) (w1 := 0) (by omega) (by decide)) wmX6_68 jc_10 rfl rfl rfl (Nat.le_of_ble_eq_true rfl) (j_fit_rm (by omega) (by omega) (by omega)) rfl ?_
    refine j_iload_n x dX6_has_25 rfl ?_
    refine j_icmp_ne (tgt := 33) x dX6_has_26 (by decide) (fun hA => ?_) (fun hA => ?_)
    · refine j_iconst (v := 0) x dX6_has_33 (by decide) ?_
      refine j_istore x dX6_has_34 (by decide) rfl ?_
      refine j_iload x dX6_has_36 rfl ?_
      refine j_if_ne (tgt := 55) x dX6_has_38 (by decide) (fun hc => absurd hc (fun q => q rfl)) (fun hc => ?_)
      refine j_aload_n x dX6_has_41 rfl ?_
      refine j_iload x dX6_has_42 rfl ?_
      refine j_iconst (v := 1) x dX6_has_44 (by decide) ?_
      refine j2_callVi x hb dX6_has_45 m_X6_of (cx_of (d := d) hb (m1 := j) (w1 := 1) (by omega) (by decide)) wmX6_68 jc_10 rfl rfl rfl (Nat.le_of_ble_eq_true rfl) (j_fit_rm (by omega) (by omega) (by omega)) rfl ?_
      refine j_iload_n x dX6_has_48 rfl ?_
      refine j_icmp_eq (tgt := 55) x dX6_has_49 (by decide) (fun hB => ?_) (fun hB => ?_)
      · refine j_iload x dX6_has_55 rfl ?_
        refine j_if_eq (tgt := 70) x dX6_has_57 (by decide) (fun hc => ?_) (fun hc => absurd (rfl) hc)
        refine j_aload_n x dX6_has_70 rfl ?_
        refine j_iload x dX6_has_71 rfl ?_
        refine j_iconst (v := 0) x dX6_has_73 (by decide) ?_
        refine j2_callVi x hb dX6_has_74 m_X6_of (cx_of (d := d) hb (m1 := j) (w1 := 0) (by omega) (by decide)) wmX6_68 jc_10 rfl rfl rfl (Nat.le_of_ble_eq_true rfl) (j_fit_rm (by omega) (by omega) (by omega)) rfl ?_
        refine j_istore x dX6_has_77 (by decide) rfl ?_
        refine j_iload_n x dX6_has_79 rfl ?_
        refine j_iload x dX6_has_80 rfl ?_
        refine j_ishr x dX6_has_82 ?_
        refine j_iconst (v := 1) x dX6_has_83 (by decide) ?_
        refine j_iand x dX6_has_84 ?_
        refine j_if_ne (tgt := 91) x dX6_has_85 (by decide) (fun hS => ?_) (fun hS => ?_)
        · refine j_aload_n x dX6_has_91 rfl ?_
          refine j_iload x dX6_has_92 rfl ?_
          refine j2_callVi x hb dX6_has_94 m_X6_isPlayed (cx_isPlayed (d := d) hb (m1 := j) (by omega)) wmX6_72 jc_10 rfl rfl rfl (Nat.le_of_ble_eq_true rfl) (j_fit_rm (by omega) (by omega) (by omega)) rfl ?_
          refine j_if_ne (tgt := 112) x dX6_has_97 (by decide) (fun hP2 => ?_) (fun hP2 => ?_)
          · refine j_aload_n x dX6_has_112 rfl ?_
            refine j_iload x dX6_has_113 rfl ?_
            refine j_iload x dX6_has_115 rfl ?_
            refine j_if_eq (tgt := 125) x dX6_has_117 (by decide) (fun hc => ?_) (fun hc => absurd (rfl) hc)
            refine j_bipush (v := 7) x dX6_has_125 (by decide) ?_
            refine j2_callVi x hb dX6_has_127 m_X6_of (cx_of (d := d) hb (m1 := j) (w1 := 7) (by omega) (by decide)) wmX6_68 jc_10 rfl rfl rfl (Nat.le_of_ble_eq_true rfl) (j_fit_rm (by omega) (by omega) (by omega)) rfl ?_
            refine j_istore x dX6_has_130 (by decide) rfl ?_
            refine j_aload_n x dX6_has_132 rfl ?_
            refine j_iload x dX6_has_133 rfl ?_
            refine j_iload x dX6_has_135 rfl ?_
            refine j_if_eq (tgt := 145) x dX6_has_137 (by decide) (fun hc => ?_) (fun hc => absurd (rfl) hc)
            refine j_bipush (v := 6) x dX6_has_145 (by decide) ?_
            refine j2_callVi x hb dX6_has_147 m_X6_of (cx_of (d := d) hb (m1 := j) (w1 := 6) (by omega) (by decide)) wmX6_68 jc_10 rfl rfl rfl (Nat.le_of_ble_eq_true rfl) (j_fit_rm (by omega) (by omega) (by omega)) rfl ?_
            refine j_istore x dX6_has_150 (by decide) rfl ?_
            refine j_iload_n x dX6_has_152 rfl ?_
            refine j_tableIn (tgt := 237) x dX6_has_153 (by decide) (by decide) rfl (by decide) ?_
            refine j_iload x dX6_has_237 rfl ?_
            refine j_iload x dX6_has_239 rfl ?_
            refine j_icmp_le (tgt := 311) x dX6_has_241 (by decide) (fun g1 => ?_) (fun g1 => ?_)
            · refine j_iinc x dX6_has_311 rfl (by decide) rfl ?_
              refine j_goto (tgt := 6) x dX6_has_314 (by decide) ?_
              exact j_goal (ih (trivial)) (wk_c rfl (wk_c rfl (wk_c rfl (wk_c rfl (wk_c (congrArg (fun z => some (Value.int z)) (jsum_f (by simp [fHas, hA, hB, hS, jb_nz.mp hP2, jb, g1]))) (wk_c (congrArg (fun z => some (Value.int z)) (nI_1 _)) (wk_n (wk_n (wk_n (wk_n (wk_0))))))))))) (rfl)
            · refine j_iinc x dX6_has_244 rfl (by decide) rfl ?_
              refine j_goto (tgt := 311) x dX6_has_247 (by decide) ?_
              refine j_iinc x dX6_has_311 rfl (by decide) rfl ?_
              refine j_goto (tgt := 6) x dX6_has_314 (by decide) ?_
              exact j_goal (ih (trivial)) (wk_c rfl (wk_c rfl (wk_c rfl (wk_c rfl (wk_c (congrArg (fun z => some (Value.int z)) (jsum_v (by simp [fHas, hA, hB, hS, jb_nz.mp hP2, jb, g1]))) (wk_c (congrArg (fun z => some (Value.int z)) (nI_1 _)) (wk_n (wk_n (wk_n (wk_n (wk_0))))))))))) (rfl)
          · refine j_iload_n x dX6_has_100 rfl ?_
            refine j_bipush (v := 8) x dX6_has_101 (by decide) ?_
            refine j_icmp_ne (tgt := 311) x dX6_has_103 (by decide) (fun hc => ?_) (fun hc => absurd hc (by decide))
            refine j_iinc x dX6_has_311 rfl (by decide) rfl ?_
            refine j_goto (tgt := 6) x dX6_has_314 (by decide) ?_
            exact j_goal (ih (trivial)) (wk_c rfl (wk_c rfl (wk_c rfl (wk_c rfl (wk_c (congrArg (fun z => some (Value.int z)) (jsum_f (by simp [fHas, hA, hB, hS, jb_0.mp hP2]))) (wk_c (congrArg (fun z => some (Value.int z)) (nI_1 _)) (wk_n (wk_n (wk_n (wk_n (wk_0))))))))))) (rfl)
        · refine j_goto (tgt := 311) x dX6_has_88 (by decide) ?_
          refine j_iinc x dX6_has_311 rfl (by decide) rfl ?_
          refine j_goto (tgt := 6) x dX6_has_314 (by decide) ?_
          exact j_goal (ih (trivial)) (wk_c rfl (wk_c rfl (wk_c rfl (wk_c rfl (wk_c (congrArg (fun z => some (Value.int z)) (jsum_f (by simp [fHas, hA, hB, hS]))) (wk_c (congrArg (fun z => some (Value.int z)) (nI_1 _)) (wk_n (wk_n (wk_n (wk_n (wk_0))))))))))) (rfl)
      · refine j_goto (tgt := 311) x dX6_has_52 (by decide) ?_
        refine j_iinc x dX6_has_311 rfl (by decide) rfl ?_
        refine j_goto (tgt := 6) x dX6_has_314 (by decide) ?_
        exact j_goal (ih (trivial)) (wk_c rfl (wk_c rfl (wk_c rfl (wk_c rfl (wk_c (congrArg (fun z => some (Value.int z)) (jsum_f (by simp [fHas, hA, hB]))) (wk_c (congrArg (fun z => some (Value.int z)) (nI_1 _)) (wk_n (wk_n (wk_n (wk_n (wk_0))))))))))) (rfl)
    · refine j_iconst (v := 1) x dX6_has_29 (by decide) ?_
      refine j_goto (tgt := 34) x dX6_has_30 (by decide) ?_
      refine j_istore x dX6_has_34 (by decide) rfl ?_
      refine j_iload x dX6_has_36 rfl ?_
      refine j_if_ne (tgt := 55) x dX6_has_38 (by decide) (fun hc => ?_) (fun hc => absurd hc (by decide))
      refine j_iload x dX6_has_55 rfl ?_
      refine j_if_eq (tgt := 70) x dX6_has_57 (by decide) (fun hc => absurd hc (by decide)) (fun hc => ?_)
      refine j_aload_n x dX6_has_60 rfl ?_
      refine j_iload x dX6_has_61 rfl ?_
      refine j_iconst (v := 1) x dX6_has_63 (by decide) ?_
      refine j2_callVi x hb dX6_has_64 m_X6_of (cx_of (d := d) hb (m1 := j) (w1 := 1) (by omega) (by decide)) wmX6_68 jc_10 rfl rfl rfl (Nat.le_of_ble_eq_true rfl) (j_fit_rm (by omega) (by omega) (by omega)) rfl ?_
      refine j_goto (tgt := 77) x dX6_has_67 (by decide) ?_
      refine j_istore x dX6_has_77 (by decide) rfl ?_
      refine j_iload_n x dX6_has_79 rfl ?_
      refine j_iload x dX6_has_80 rfl ?_
      refine j_ishr x dX6_has_82 ?_
      refine j_iconst (v := 1) x dX6_has_83 (by decide) ?_
      refine j_iand x dX6_has_84 ?_
      refine j_if_ne (tgt := 91) x dX6_has_85 (by decide) (fun hS => ?_) (fun hS => ?_)
      · refine j_aload_n x dX6_has_91 rfl ?_
        refine j_iload x dX6_has_92 rfl ?_
        refine j2_callVi x hb dX6_has_94 m_X6_isPlayed (cx_isPlayed (d := d) hb (m1 := j) (by omega)) wmX6_72 jc_10 rfl rfl rfl (Nat.le_of_ble_eq_true rfl) (j_fit_rm (by omega) (by omega) (by omega)) rfl ?_
        refine j_if_ne (tgt := 112) x dX6_has_97 (by decide) (fun hP2 => ?_) (fun hP2 => ?_)
        · refine j_aload_n x dX6_has_112 rfl ?_
          refine j_iload x dX6_has_113 rfl ?_
          refine j_iload x dX6_has_115 rfl ?_
          refine j_if_eq (tgt := 125) x dX6_has_117 (by decide) (fun hc => absurd hc (by decide)) (fun hc => ?_)
          refine j_bipush (v := 6) x dX6_has_120 (by decide) ?_
          refine j_goto (tgt := 127) x dX6_has_122 (by decide) ?_
          refine j2_callVi x hb dX6_has_127 m_X6_of (cx_of (d := d) hb (m1 := j) (w1 := 6) (by omega) (by decide)) wmX6_68 jc_10 rfl rfl rfl (Nat.le_of_ble_eq_true rfl) (j_fit_rm (by omega) (by omega) (by omega)) rfl ?_
          refine j_istore x dX6_has_130 (by decide) rfl ?_
          refine j_aload_n x dX6_has_132 rfl ?_
          refine j_iload x dX6_has_133 rfl ?_
          refine j_iload x dX6_has_135 rfl ?_
          refine j_if_eq (tgt := 145) x dX6_has_137 (by decide) (fun hc => absurd hc (by decide)) (fun hc => ?_)
          refine j_bipush (v := 7) x dX6_has_140 (by decide) ?_
          refine j_goto (tgt := 147) x dX6_has_142 (by decide) ?_
          refine j2_callVi x hb dX6_has_147 m_X6_of (cx_of (d := d) hb (m1 := j) (w1 := 7) (by omega) (by decide)) wmX6_68 jc_10 rfl rfl rfl (Nat.le_of_ble_eq_true rfl) (j_fit_rm (by omega) (by omega) (by omega)) rfl ?_
          refine j_istore x dX6_has_150 (by decide) rfl ?_
          refine j_iload_n x dX6_has_152 rfl ?_
          refine j_tableIn (tgt := 237) x dX6_has_153 (by decide) (by decide) rfl (by decide) ?_
          refine j_iload x dX6_has_237 rfl ?_
          refine j_iload x dX6_has_239 rfl ?_
          refine j_icmp_le (tgt := 311) x dX6_has_241 (by decide) (fun g1 => ?_) (fun g1 => ?_)
          · refine j_iinc x dX6_has_311 rfl (by decide) rfl ?_
            refine j_goto (tgt := 6) x dX6_has_314 (by decide) ?_
            exact j_goal (ih (trivial)) (wk_c rfl (wk_c rfl (wk_c rfl (wk_c rfl (wk_c (congrArg (fun z => some (Value.int z)) (jsum_f (by simp [fHas, hA, hS, jb_nz.mp hP2, jb, g1]))) (wk_c (congrArg (fun z => some (Value.int z)) (nI_1 _)) (wk_n (wk_n (wk_n (wk_n (wk_0))))))))))) (rfl)
          · refine j_iinc x dX6_has_244 rfl (by decide) rfl ?_
            refine j_goto (tgt := 311) x dX6_has_247 (by decide) ?_
            refine j_iinc x dX6_has_311 rfl (by decide) rfl ?_
            refine j_goto (tgt := 6) x dX6_has_314 (by decide) ?_
            exact j_goal (ih (trivial)) (wk_c rfl (wk_c rfl (wk_c rfl (wk_c rfl (wk_c (congrArg (fun z => some (Value.int z)) (jsum_v (by simp [fHas, hA, hS, jb_nz.mp hP2, jb, g1]))) (wk_c (congrArg (fun z => some (Value.int z)) (nI_1 _)) (wk_n (wk_n (wk_n (wk_n (wk_0))))))))))) (rfl)
        · refine j_iload_n x dX6_has_100 rfl ?_
          refine j_bipush (v := 8) x dX6_has_101 (by decide) ?_
          refine j_icmp_ne (tgt := 311) x dX6_has_103 (by decide) (fun hc => ?_) (fun hc => absurd hc (by decide))
          refine j_iinc x dX6_has_311 rfl (by decide) rfl ?_
          refine j_goto (tgt := 6) x dX6_has_314 (by decide) ?_
          exact j_goal (ih (trivial)) (wk_c rfl (wk_c rfl (wk_c rfl (wk_c rfl (wk_c (congrArg (fun z => some (Value.int z)) (jsum_f (by simp [fHas, hA, hS, jb_0.mp hP2]))) (wk_c (congrArg (fun z => some (Value.int z)) (nI_1 _)) (wk_n (wk_n (wk_n (wk_n (wk_0))))))))))) (rfl)
      · refine j_goto (tgt := 311) x dX6_has_88 (by decide) ?_
        refine j_iinc x dX6_has_311 rfl (by decide) rfl ?_
        refine j_goto (tgt := 6) x dX6_has_314 (by decide) ?_
        exact j_goal (ih (trivial)) (wk_c rfl (wk_c rfl (wk_c rfl (wk_c rfl (wk_c (congrArg (fun z => some (Value.int z)) (jsum_f (by simp [fHas, hA, hS]))) (wk_c (congrArg (fun z => some (Value.int z)) (nI_1 _)) (wk_n (wk_n (wk_n (wk_n (wk_0))))))))))) (rfl)
  refine j_iload x dX6_has_6 rfl ?_
  refine j_aload_n x dX6_has_8 rfl ?_
  refine j2_getr (k := 0) (r := 95) x hb dX6_has_9 jc_10 wfX6_9 (by decide) rfl ?_
  refine j_bipush (v := 9) x dX6_has_12 (by decide) ?_
  refine j2_ialn x hb dX6_has_14 fa_95 (j := 9) (vp_c (by decide)) (by decide) ?_; rw [hct]
  refine j_icmp_ge (tgt := 317) x dX6_has_15 (by decide) (fun hc => ?_) (fun hc => absurd (nI_le (Nat.le_refl _) (by omega)) hc)
  refine j_iload x dX6_has_317 rfl ?_
  exact j_ireturn x hr dX6_has_319 (by omega) (by omega) ⟨rfl, rfl⟩
theorem cx_has2_2 {d : Nat} {b : SBt} {Y : OUt} {M : MM} (hb : 104 ≤ b.2.1) {t : Int32} {n : Nat} (hn : n ≤ 56) (hct : M 95 9 = nI n) : CM (d + 3) 0 0 yX6_has_ cX6_has_ 3 (some .int) [.ref 94, .int t, .int 2] b Y M (.inl (some (.int (jsum (fHas M t 2 (-1)) n)))) (M) := by
  refine Con.of (by decide +kernel) (Nat.le_of_ble_eq_true rfl) rfl fun p l e s m args below meth c D tyc A ad0 x hr htab hname => ?_
  change JJ _ _ _ _ _ _ _ _ _ _ _ _ _ _ _ _ _ 0 [some (.ref 94), some (.int t), some (.int 2)] [] _ 0 0
  refine j_aload_n x dX6_has__0 rfl ?_
  refine j_iload_n x dX6_has__1 rfl ?_
  refine j_iload_n x dX6_has__2 rfl ?_
  refine j_iconst (v := (-1)) x dX6_has__3 (by decide) ?_
  refine j2_callVi x hb dX6_has__4 m_X6_has (cx_has_2 (d := d) hb hn hct) wmX6_152 jc_10 rfl rfl rfl (Nat.le_of_ble_eq_true rfl) (j_fit_rm (by omega) (by omega) (by omega)) rfl ?_
  exact j_ireturn x hr dX6_has__7 (by omega) (by omega) ⟨rfl, rfl⟩
theorem cx_has_3 {d : Nat} {b : SBt} {Y : OUt} {M : MM} (hb : 104 ≤ b.2.1) {t w : Int32} {n : Nat} (hn : n ≤ 56) (hct : M 95 9 = nI n) : CM (d + 2) 0 0 yX6_has cX6_has 10 (some .int) [.ref 94, .int t, .int 3, .int w] b Y M (.inl (some (.int (jsum (fHas M t 3 w) n)))) (M) := by
  refine Con.of (by decide +kernel) (Nat.le_of_ble_eq_true rfl) rfl fun p l e s m args below meth c D tyc A ad0 x hr htab hname => ?_
  change JJ _ _ _ _ _ _ _ _ _ _ _ _ _ _ _ _ _ 0 [some (.ref 94), some (.int t), some (.int 3), some (.int w), none, none, none, none, none, none] [] _ 0 0
  refine j_iconst (v := 0) x dX6_has_0 (by decide) ?_
  refine j_istore x dX6_has_1 (by decide) rfl ?_
  refine j_iconst (v := 0) x dX6_has_3 (by decide) ?_
  refine j_istore x dX6_has_4 (by decide) rfl ?_
  refine j_for (n) (fun j => [some (.ref 94), some (.int t), some (.int 3), some (.int w), some (.int (jsum (fHas M t 3 w) j)), some (.int (nI j)), none, none, none, none]) (fun j => M) (fun j => True) (rfl) (rfl) (trivial) (fun j hj hP ih => ?_) (fun hP => ?_)
  · refine j_iload x dX6_has_6 rfl ?_
    refine j_aload_n x dX6_has_8 rfl ?_
    refine j2_getr (k := 0) (r := 95) x hb dX6_has_9 jc_10 wfX6_9 (by decide) rfl ?_
    refine j_bipush (v := 9) x dX6_has_12 (by decide) ?_
    refine j2_ialn x hb dX6_has_14 fa_95 (j := 9) (vp_c (by decide)) (by decide) ?_; rw [hct]
    refine j_icmp_ge (tgt := 317) x dX6_has_15 (by decide) (fun hc => absurd hc (nI_ge hj (by omega))) (fun hc => ?_)
    refine j_aload_n x dX6_has_18 rfl ?_
    refine j_iload x dX6_has_19 rfl ?_
    refine j_iconst (v := 0) x dX6_has_21 (by decide) ?_
    refine j2_callVi x hb dX6_has_22 m_X6_of (cx_of (d := d) hb (m1 := j) (w1 := 0) (by omega) (by decide)) wmX6_68 jc_10 rfl rfl rfl (Nat.le_of_ble_eq_true rfl) (j_fit_rm (by omega) (by omega) (by omega)) rfl ?_
    refine j_iload_n x dX6_has_25 rfl ?_
    refine j_icmp_ne (tgt := 33) x dX6_has_26 (by decide) (fun hA => ?_) (fun hA => ?_)
    · refine j_iconst (v := 0) x dX6_has_33 (by decide) ?_
      refine j_istore x dX6_has_34 (by decide) rfl ?_
      refine j_iload x dX6_has_36 rfl ?_
      refine j_if_ne (tgt := 55) x dX6_has_38 (by decide) (fun hc => absurd hc (fun q => q rfl)) (fun hc => ?_)
      refine j_aload_n x dX6_has_41 rfl ?_
      refine j_iload x dX6_has_42 rfl ?_
      refine j_iconst (v := 1) x dX6_has_44 (by decide) ?_
      refine j2_callVi x hb dX6_has_45 m_X6_of (cx_of (d := d) hb (m1 := j) (w1 := 1) (by omega) (by decide)) wmX6_68 jc_10 rfl rfl rfl (Nat.le_of_ble_eq_true rfl) (j_fit_rm (by omega) (by omega) (by omega)) rfl ?_
      refine j_iload_n x dX6_has_48 rfl ?_
      refine j_icmp_eq (tgt := 55) x dX6_has_49 (by decide) (fun hB => ?_) (fun hB => ?_)
      · refine j_iload x dX6_has_55 rfl ?_
        refine j_if_eq (tgt := 70) x dX6_has_57 (by decide) (fun hc => ?_) (fun hc => absurd (rfl) hc)
        refine j_aload_n x dX6_has_70 rfl ?_
        refine j_iload x dX6_has_71 rfl ?_
        refine j_iconst (v := 0) x dX6_has_73 (by decide) ?_
        refine j2_callVi x hb dX6_has_74 m_X6_of (cx_of (d := d) hb (m1 := j) (w1 := 0) (by omega) (by decide)) wmX6_68 jc_10 rfl rfl rfl (Nat.le_of_ble_eq_true rfl) (j_fit_rm (by omega) (by omega) (by omega)) rfl ?_
        refine j_istore x dX6_has_77 (by decide) rfl ?_
        refine j_iload_n x dX6_has_79 rfl ?_
        refine j_iload x dX6_has_80 rfl ?_
        refine j_ishr x dX6_has_82 ?_
        refine j_iconst (v := 1) x dX6_has_83 (by decide) ?_
        refine j_iand x dX6_has_84 ?_
        refine j_if_ne (tgt := 91) x dX6_has_85 (by decide) (fun hS => ?_) (fun hS => ?_)
        · refine j_aload_n x dX6_has_91 rfl ?_
          refine j_iload x dX6_has_92 rfl ?_
          refine j2_callVi x hb dX6_has_94 m_X6_isPlayed (cx_isPlayed (d := d) hb (m1 := j) (by omega)) wmX6_72 jc_10 rfl rfl rfl (Nat.le_of_ble_eq_true rfl) (j_fit_rm (by omega) (by omega) (by omega)) rfl ?_
          refine j_if_ne (tgt := 112) x dX6_has_97 (by decide) (fun hP2 => ?_) (fun hP2 => ?_)
          · refine j_aload_n x dX6_has_112 rfl ?_
            refine j_iload x dX6_has_113 rfl ?_
            refine j_iload x dX6_has_115 rfl ?_
            refine j_if_eq (tgt := 125) x dX6_has_117 (by decide) (fun hc => ?_) (fun hc => absurd (rfl) hc)
            refine j_bipush (v := 7) x dX6_has_125 (by decide) ?_
            refine j2_callVi x hb dX6_has_127 m_X6_of (cx_of (d := d) hb (m1 := j) (w1 := 7) (by omega) (by decide)) wmX6_68 jc_10 rfl rfl rfl (Nat.le_of_ble_eq_true rfl) (j_fit_rm (by omega) (by omega) (by omega)) rfl ?_
            refine j_istore x dX6_has_130 (by decide) rfl ?_
            refine j_aload_n x dX6_has_132 rfl ?_
            refine j_iload x dX6_has_133 rfl ?_
            refine j_iload x dX6_has_135 rfl ?_
            refine j_if_eq (tgt := 145) x dX6_has_137 (by decide) (fun hc => ?_) (fun hc => absurd (rfl) hc)
            refine j_bipush (v := 6) x dX6_has_145 (by decide) ?_
            refine j2_callVi x hb dX6_has_147 m_X6_of (cx_of (d := d) hb (m1 := j) (w1 := 6) (by omega) (by decide)) wmX6_68 jc_10 rfl rfl rfl (Nat.le_of_ble_eq_true rfl) (j_fit_rm (by omega) (by omega) (by omega)) rfl ?_
            refine j_istore x dX6_has_150 (by decide) rfl ?_
            refine j_iload_n x dX6_has_152 rfl ?_
            refine j_tableIn (tgt := 250) x dX6_has_153 (by decide) (by decide) rfl (by decide) ?_
            refine j_iload x dX6_has_250 rfl ?_
            refine j_iload x dX6_has_252 rfl ?_
            refine j_icmp_ne (tgt := 311) x dX6_has_254 (by decide) (fun g1 => ?_) (fun g1 => ?_)
            · refine j_iinc x dX6_has_311 rfl (by decide) rfl ?_
              refine j_goto (tgt := 6) x dX6_has_314 (by decide) ?_
              exact j_goal (ih (trivial)) (wk_c rfl (wk_c rfl (wk_c rfl (wk_c rfl (wk_c (congrArg (fun z => some (Value.int z)) (jsum_f (by simp [fHas, hA, hB, hS, jb_nz.mp hP2, jb, g1]))) (wk_c (congrArg (fun z => some (Value.int z)) (nI_1 _)) (wk_n (wk_n (wk_n (wk_n (wk_0))))))))))) (rfl)
            · refine j_iinc x dX6_has_257 rfl (by decide) rfl ?_
              refine j_goto (tgt := 311) x dX6_has_260 (by decide) ?_
              refine j_iinc x dX6_has_311 rfl (by decide) rfl ?_
              refine j_goto (tgt := 6) x dX6_has_314 (by decide) ?_
              exact j_goal (ih (trivial)) (wk_c rfl (wk_c rfl (wk_c rfl (wk_c rfl (wk_c (congrArg (fun z => some (Value.int z)) (jsum_v (by simp [fHas, hA, hB, hS, jb_nz.mp hP2, jb, g1]))) (wk_c (congrArg (fun z => some (Value.int z)) (nI_1 _)) (wk_n (wk_n (wk_n (wk_n (wk_0))))))))))) (rfl)
          · refine j_iload_n x dX6_has_100 rfl ?_
            refine j_bipush (v := 8) x dX6_has_101 (by decide) ?_
            refine j_icmp_ne (tgt := 311) x dX6_has_103 (by decide) (fun hc => ?_) (fun hc => absurd hc (by decide))
            refine j_iinc x dX6_has_311 rfl (by decide) rfl ?_
            refine j_goto (tgt := 6) x dX6_has_314 (by decide) ?_
            exact j_goal (ih (trivial)) (wk_c rfl (wk_c rfl (wk_c rfl (wk_c rfl (wk_c (congrArg (fun z => some (Value.int z)) (jsum_f (by simp [fHas, hA, hB, hS, jb_0.mp hP2]))) (wk_c (congrArg (fun z => some (Value.int z)) (nI_1 _)) (wk_n (wk_n (wk_n (wk_n (wk_0))))))))))) (rfl)
        · refine j_goto (tgt := 311) x dX6_has_88 (by decide) ?_
          refine j_iinc x dX6_has_311 rfl (by decide) rfl ?_
          refine j_goto (tgt := 6) x dX6_has_314 (by decide) ?_
          exact j_goal (ih (trivial)) (wk_c rfl (wk_c rfl (wk_c rfl (wk_c rfl (wk_c (congrArg (fun z => some (Value.int z)) (jsum_f (by simp [fHas, hA, hB, hS]))) (wk_c (congrArg (fun z => some (Value.int z)) (nI_1 _)) (wk_n (wk_n (wk_n (wk_n (wk_0))))))))))) (rfl)
      · refine j_goto (tgt := 311) x dX6_has_52 (by decide) ?_
        refine j_iinc x dX6_has_311 rfl (by decide) rfl ?_
        refine j_goto (tgt := 6) x dX6_has_314 (by decide) ?_
        exact j_goal (ih (trivial)) (wk_c rfl (wk_c rfl (wk_c rfl (wk_c rfl (wk_c (congrArg (fun z => some (Value.int z)) (jsum_f (by simp [fHas, hA, hB]))) (wk_c (congrArg (fun z => some (Value.int z)) (nI_1 _)) (wk_n (wk_n (wk_n (wk_n (wk_0))))))))))) (rfl)
    · refine j_iconst (v := 1) x dX6_has_29 (by decide) ?_
      refine j_goto (tgt := 34) x dX6_has_30 (by decide) ?_
      refine j_istore x dX6_has_34 (by decide) rfl ?_
      refine j_iload x dX6_has_36 rfl ?_
      refine j_if_ne (tgt := 55) x dX6_has_38 (by decide) (fun hc => ?_) (fun hc => absurd hc (by decide))
      refine j_iload x dX6_has_55 rfl ?_
      refine j_if_eq (tgt := 70) x dX6_has_57 (by decide) (fun hc => absurd hc (by decide)) (fun hc => ?_)
      refine j_aload_n x dX6_has_60 rfl ?_
      refine j_iload x dX6_has_61 rfl ?_
      refine j_iconst (v := 1) x dX6_has_63 (by decide) ?_
      refine j2_callVi x hb dX6_has_64 m_X6_of (cx_of (d := d) hb (m1 := j) (w1 := 1) (by omega) (by decide)) wmX6_68 jc_10 rfl rfl rfl (Nat.le_of_ble_eq_true rfl) (j_fit_rm (by omega) (by omega) (by omega)) rfl ?_
      refine j_goto (tgt := 77) x dX6_has_67 (by decide) ?_
      refine j_istore x dX6_has_77 (by decide) rfl ?_
      refine j_iload_n x dX6_has_79 rfl ?_
      refine j_iload x dX6_has_80 rfl ?_
      refine j_ishr x dX6_has_82 ?_
      refine j_iconst (v := 1) x dX6_has_83 (by decide) ?_
      refine j_iand x dX6_has_84 ?_
      refine j_if_ne (tgt := 91) x dX6_has_85 (by decide) (fun hS => ?_) (fun hS => ?_)
      · refine j_aload_n x dX6_has_91 rfl ?_
        refine j_iload x dX6_has_92 rfl ?_
        refine j2_callVi x hb dX6_has_94 m_X6_isPlayed (cx_isPlayed (d := d) hb (m1 := j) (by omega)) wmX6_72 jc_10 rfl rfl rfl (Nat.le_of_ble_eq_true rfl) (j_fit_rm (by omega) (by omega) (by omega)) rfl ?_
        refine j_if_ne (tgt := 112) x dX6_has_97 (by decide) (fun hP2 => ?_) (fun hP2 => ?_)
        · refine j_aload_n x dX6_has_112 rfl ?_
          refine j_iload x dX6_has_113 rfl ?_
          refine j_iload x dX6_has_115 rfl ?_
          refine j_if_eq (tgt := 125) x dX6_has_117 (by decide) (fun hc => absurd hc (by decide)) (fun hc => ?_)
          refine j_bipush (v := 6) x dX6_has_120 (by decide) ?_
          refine j_goto (tgt := 127) x dX6_has_122 (by decide) ?_
          refine j2_callVi x hb dX6_has_127 m_X6_of (cx_of (d := d) hb (m1 := j) (w1 := 6) (by omega) (by decide)) wmX6_68 jc_10 rfl rfl rfl (Nat.le_of_ble_eq_true rfl) (j_fit_rm (by omega) (by omega) (by omega)) rfl ?_
          refine j_istore x dX6_has_130 (by decide) rfl ?_
          refine j_aload_n x dX6_has_132 rfl ?_
          refine j_iload x dX6_has_133 rfl ?_
          refine j_iload x dX6_has_135 rfl ?_
          refine j_if_eq (tgt := 145) x dX6_has_137 (by decide) (fun hc => absurd hc (by decide)) (fun hc => ?_)
          refine j_bipush (v := 7) x dX6_has_140 (by decide) ?_
          refine j_goto (tgt := 147) x dX6_has_142 (by decide) ?_
          refine j2_callVi x hb dX6_has_147 m_X6_of (cx_of (d := d) hb (m1 := j) (w1 := 7) (by omega) (by decide)) wmX6_68 jc_10 rfl rfl rfl (Nat.le_of_ble_eq_true rfl) (j_fit_rm (by omega) (by omega) (by omega)) rfl ?_
          refine j_istore x dX6_has_150 (by decide) rfl ?_
          refine j_iload_n x dX6_has_152 rfl ?_
          refine j_tableIn (tgt := 250) x dX6_has_153 (by decide) (by decide) rfl (by decide) ?_
          refine j_iload x dX6_has_250 rfl ?_
          refine j_iload x dX6_has_252 rfl ?_
          refine j_icmp_ne (tgt := 311) x dX6_has_254 (by decide) (fun g1 => ?_) (fun g1 => ?_)
          · refine j_iinc x dX6_has_311 rfl (by decide) rfl ?_
            refine j_goto (tgt := 6) x dX6_has_314 (by decide) ?_
            exact j_goal (ih (trivial)) (wk_c rfl (wk_c rfl (wk_c rfl (wk_c rfl (wk_c (congrArg (fun z => some (Value.int z)) (jsum_f (by simp [fHas, hA, hS, jb_nz.mp hP2, jb, g1]))) (wk_c (congrArg (fun z => some (Value.int z)) (nI_1 _)) (wk_n (wk_n (wk_n (wk_n (wk_0))))))))))) (rfl)
          · refine j_iinc x dX6_has_257 rfl (by decide) rfl ?_
            refine j_goto (tgt := 311) x dX6_has_260 (by decide) ?_
            refine j_iinc x dX6_has_311 rfl (by decide) rfl ?_
            refine j_goto (tgt := 6) x dX6_has_314 (by decide) ?_
            exact j_goal (ih (trivial)) (wk_c rfl (wk_c rfl (wk_c rfl (wk_c rfl (wk_c (congrArg (fun z => some (Value.int z)) (jsum_v (by simp [fHas, hA, hS, jb_nz.mp hP2, jb, g1]))) (wk_c (congrArg (fun z => some (Value.int z)) (nI_1 _)) (wk_n (wk_n (wk_n (wk_n (wk_0))))))))))) (rfl)
        · refine j_iload_n x dX6_has_100 rfl ?_
          refine j_bipush (v := 8) x dX6_has_101 (by decide) ?_
          refine j_icmp_ne (tgt := 311) x dX6_has_103 (by decide) (fun hc => ?_) (fun hc => absurd hc (by decide))
          refine j_iinc x dX6_has_311 rfl (by decide) rfl ?_
          refine j_goto (tgt := 6) x dX6_has_314 (by decide) ?_
          exact j_goal (ih (trivial)) (wk_c rfl (wk_c rfl (wk_c rfl (wk_c rfl (wk_c (congrArg (fun z => some (Value.int z)) (jsum_f (by simp [fHas, hA, hS, jb_0.mp hP2]))) (wk_c (congrArg (fun z => some (Value.int z)) (nI_1 _)) (wk_n (wk_n (wk_n (wk_n (wk_0))))))))))) (rfl)
      · refine j_goto (tgt := 311) x dX6_has_88 (by decide) ?_
        refine j_iinc x dX6_has_311 rfl (by decide) rfl ?_
        refine j_goto (tgt := 6) x dX6_has_314 (by decide) ?_
        exact j_goal (ih (trivial)) (wk_c rfl (wk_c rfl (wk_c rfl (wk_c rfl (wk_c (congrArg (fun z => some (Value.int z)) (jsum_f (by simp [fHas, hA, hS]))) (wk_c (congrArg (fun z => some (Value.int z)) (nI_1 _)) (wk_n (wk_n (wk_n (wk_n (wk_0))))))))))) (rfl)
  refine j_iload x dX6_has_6 rfl ?_
  refine j_aload_n x dX6_has_8 rfl ?_
  refine j2_getr (k := 0) (r := 95) x hb dX6_has_9 jc_10 wfX6_9 (by decide) rfl ?_
  refine j_bipush (v := 9) x dX6_has_12 (by decide) ?_
  refine j2_ialn x hb dX6_has_14 fa_95 (j := 9) (vp_c (by decide)) (by decide) ?_; rw [hct]
  refine j_icmp_ge (tgt := 317) x dX6_has_15 (by decide) (fun hc => ?_) (fun hc => absurd (nI_le (Nat.le_refl _) (by omega)) hc)
  refine j_iload x dX6_has_317 rfl ?_
  exact j_ireturn x hr dX6_has_319 (by omega) (by omega) ⟨rfl, rfl⟩
theorem cx_has2_3 {d : Nat} {b : SBt} {Y : OUt} {M : MM} (hb : 104 ≤ b.2.1) {t : Int32} {n : Nat} (hn : n ≤ 56) (hct : M 95 9 = nI n) : CM (d + 3) 0 0 yX6_has_ cX6_has_ 3 (some .int) [.ref 94, .int t, .int 3] b Y M (.inl (some (.int (jsum (fHas M t 3 (-1)) n)))) (M) := by
  refine Con.of (by decide +kernel) (Nat.le_of_ble_eq_true rfl) rfl fun p l e s m args below meth c D tyc A ad0 x hr htab hname => ?_
  change JJ _ _ _ _ _ _ _ _ _ _ _ _ _ _ _ _ _ 0 [some (.ref 94), some (.int t), some (.int 3)] [] _ 0 0
  refine j_aload_n x dX6_has__0 rfl ?_
  refine j_iload_n x dX6_has__1 rfl ?_
  refine j_iload_n x dX6_has__2 rfl ?_
  refine j_iconst (v := (-1)) x dX6_has__3 (by decide) ?_
  refine j2_callVi x hb dX6_has__4 m_X6_has (cx_has_3 (d := d) hb hn hct) wmX6_152 jc_10 rfl rfl rfl (Nat.le_of_ble_eq_true rfl) (j_fit_rm (by omega) (by omega) (by omega)) rfl ?_
  exact j_ireturn x hr dX6_has__7 (by omega) (by omega) ⟨rfl, rfl⟩
theorem cx_has_4 {d : Nat} {b : SBt} {Y : OUt} {M : MM} (hb : 104 ≤ b.2.1) {t w : Int32} {n : Nat} (hn : n ≤ 56) (hct : M 95 9 = nI n) : CM (d + 2) 0 0 yX6_has cX6_has 10 (some .int) [.ref 94, .int t, .int 4, .int w] b Y M (.inl (some (.int (jsum (fHas M t 4 w) n)))) (M) := by
  refine Con.of (by decide +kernel) (Nat.le_of_ble_eq_true rfl) rfl fun p l e s m args below meth c D tyc A ad0 x hr htab hname => ?_
  change JJ _ _ _ _ _ _ _ _ _ _ _ _ _ _ _ _ _ 0 [some (.ref 94), some (.int t), some (.int 4), some (.int w), none, none, none, none, none, none] [] _ 0 0
  refine j_iconst (v := 0) x dX6_has_0 (by decide) ?_
  refine j_istore x dX6_has_1 (by decide) rfl ?_
  refine j_iconst (v := 0) x dX6_has_3 (by decide) ?_
  refine j_istore x dX6_has_4 (by decide) rfl ?_
  refine j_for (n) (fun j => [some (.ref 94), some (.int t), some (.int 4), some (.int w), some (.int (jsum (fHas M t 4 w) j)), some (.int (nI j)), none, none, none, none]) (fun j => M) (fun j => True) (rfl) (rfl) (trivial) (fun j hj hP ih => ?_) (fun hP => ?_)
  · refine j_iload x dX6_has_6 rfl ?_
    refine j_aload_n x dX6_has_8 rfl ?_
    refine j2_getr (k := 0) (r := 95) x hb dX6_has_9 jc_10 wfX6_9 (by decide) rfl ?_
    refine j_bipush (v := 9) x dX6_has_12 (by decide) ?_
    refine j2_ialn x hb dX6_has_14 fa_95 (j := 9) (vp_c (by decide)) (by decide) ?_; rw [hct]
    refine j_icmp_ge (tgt := 317) x dX6_has_15 (by decide) (fun hc => absurd hc (nI_ge hj (by omega))) (fun hc => ?_)
    refine j_aload_n x dX6_has_18 rfl ?_
    refine j_iload x dX6_has_19 rfl ?_
    refine j_iconst (v := 0) x dX6_has_21 (by decide) ?_
    refine j2_callVi x hb dX6_has_22 m_X6_of (cx_of (d := d) hb (m1 := j) (w1 := 0) (by omega) (by decide)) wmX6_68 jc_10 rfl rfl rfl (Nat.le_of_ble_eq_true rfl) (j_fit_rm (by omega) (by omega) (by omega)) rfl ?_
    refine j_iload_n x dX6_has_25 rfl ?_
    refine j_icmp_ne (tgt := 33) x dX6_has_26 (by decide) (fun hA => ?_) (fun hA => ?_)
    · refine j_iconst (v := 0) x dX6_has_33 (by decide) ?_
      refine j_istore x dX6_has_34 (by decide) rfl ?_
      refine j_iload x dX6_has_36 rfl ?_
      refine j_if_ne (tgt := 55) x dX6_has_38 (by decide) (fun hc => absurd hc (fun q => q rfl)) (fun hc => ?_)
      refine j_aload_n x dX6_has_41 rfl ?_
      refine j_iload x dX6_has_42 rfl ?_
      refine j_iconst (v := 1) x dX6_has_44 (by decide) ?_
      refine j2_callVi x hb dX6_has_45 m_X6_of (cx_of (d := d) hb (m1 := j) (w1 := 1) (by omega) (by decide)) wmX6_68 jc_10 rfl rfl rfl (Nat.le_of_ble_eq_true rfl) (j_fit_rm (by omega) (by omega) (by omega)) rfl ?_
      refine j_iload_n x dX6_has_48 rfl ?_
      refine j_icmp_eq (tgt := 55) x dX6_has_49 (by decide) (fun hB => ?_) (fun hB => ?_)
      · refine j_iload x dX6_has_55 rfl ?_
        refine j_if_eq (tgt := 70) x dX6_has_57 (by decide) (fun hc => ?_) (fun hc => absurd (rfl) hc)
        refine j_aload_n x dX6_has_70 rfl ?_
        refine j_iload x dX6_has_71 rfl ?_
        refine j_iconst (v := 0) x dX6_has_73 (by decide) ?_
        refine j2_callVi x hb dX6_has_74 m_X6_of (cx_of (d := d) hb (m1 := j) (w1 := 0) (by omega) (by decide)) wmX6_68 jc_10 rfl rfl rfl (Nat.le_of_ble_eq_true rfl) (j_fit_rm (by omega) (by omega) (by omega)) rfl ?_
        refine j_istore x dX6_has_77 (by decide) rfl ?_
        refine j_iload_n x dX6_has_79 rfl ?_
        refine j_iload x dX6_has_80 rfl ?_
        refine j_ishr x dX6_has_82 ?_
        refine j_iconst (v := 1) x dX6_has_83 (by decide) ?_
        refine j_iand x dX6_has_84 ?_
        refine j_if_ne (tgt := 91) x dX6_has_85 (by decide) (fun hS => ?_) (fun hS => ?_)
        · refine j_aload_n x dX6_has_91 rfl ?_
          refine j_iload x dX6_has_92 rfl ?_
          refine j2_callVi x hb dX6_has_94 m_X6_isPlayed (cx_isPlayed (d := d) hb (m1 := j) (by omega)) wmX6_72 jc_10 rfl rfl rfl (Nat.le_of_ble_eq_true rfl) (j_fit_rm (by omega) (by omega) (by omega)) rfl ?_
          refine j_if_ne (tgt := 112) x dX6_has_97 (by decide) (fun hP2 => ?_) (fun hP2 => ?_)
          · refine j_aload_n x dX6_has_112 rfl ?_
            refine j_iload x dX6_has_113 rfl ?_
            refine j_iload x dX6_has_115 rfl ?_
            refine j_if_eq (tgt := 125) x dX6_has_117 (by decide) (fun hc => ?_) (fun hc => absurd (rfl) hc)
            refine j_bipush (v := 7) x dX6_has_125 (by decide) ?_
            refine j2_callVi x hb dX6_has_127 m_X6_of (cx_of (d := d) hb (m1 := j) (w1 := 7) (by omega) (by decide)) wmX6_68 jc_10 rfl rfl rfl (Nat.le_of_ble_eq_true rfl) (j_fit_rm (by omega) (by omega) (by omega)) rfl ?_
            refine j_istore x dX6_has_130 (by decide) rfl ?_
            refine j_aload_n x dX6_has_132 rfl ?_
            refine j_iload x dX6_has_133 rfl ?_
            refine j_iload x dX6_has_135 rfl ?_
            refine j_if_eq (tgt := 145) x dX6_has_137 (by decide) (fun hc => ?_) (fun hc => absurd (rfl) hc)
            refine j_bipush (v := 6) x dX6_has_145 (by decide) ?_
            refine j2_callVi x hb dX6_has_147 m_X6_of (cx_of (d := d) hb (m1 := j) (w1 := 6) (by omega) (by decide)) wmX6_68 jc_10 rfl rfl rfl (Nat.le_of_ble_eq_true rfl) (j_fit_rm (by omega) (by omega) (by omega)) rfl ?_
            refine j_istore x dX6_has_150 (by decide) rfl ?_
            refine j_iload_n x dX6_has_152 rfl ?_
            refine j_tableIn (tgt := 263) x dX6_has_153 (by decide) (by decide) rfl (by decide) ?_
            refine j_iload x dX6_has_263 rfl ?_
            refine j_iload x dX6_has_265 rfl ?_
            refine j_icmp_ge (tgt := 311) x dX6_has_267 (by decide) (fun g1 => ?_) (fun g1 => ?_)
            · refine j_iinc x dX6_has_311 rfl (by decide) rfl ?_
              refine j_goto (tgt := 6) x dX6_has_314 (by decide) ?_
              exact j_goal (ih (trivial)) (wk_c rfl (wk_c rfl (wk_c rfl (wk_c rfl (wk_c (congrArg (fun z => some (Value.int z)) (jsum_f (by simp [fHas, hA, hB, hS, jb_nz.mp hP2, jb, g1]))) (wk_c (congrArg (fun z => some (Value.int z)) (nI_1 _)) (wk_n (wk_n (wk_n (wk_n (wk_0))))))))))) (rfl)
            · refine j_iinc x dX6_has_270 rfl (by decide) rfl ?_
              refine j_goto (tgt := 311) x dX6_has_273 (by decide) ?_
              refine j_iinc x dX6_has_311 rfl (by decide) rfl ?_
              refine j_goto (tgt := 6) x dX6_has_314 (by decide) ?_
              exact j_goal (ih (trivial)) (wk_c rfl (wk_c rfl (wk_c rfl (wk_c rfl (wk_c (congrArg (fun z => some (Value.int z)) (jsum_v (by simp [fHas, hA, hB, hS, jb_nz.mp hP2, jb, g1]))) (wk_c (congrArg (fun z => some (Value.int z)) (nI_1 _)) (wk_n (wk_n (wk_n (wk_n (wk_0))))))))))) (rfl)
          · refine j_iload_n x dX6_has_100 rfl ?_
            refine j_bipush (v := 8) x dX6_has_101 (by decide) ?_
            refine j_icmp_ne (tgt := 311) x dX6_has_103 (by decide) (fun hc => ?_) (fun hc => absurd hc (by decide))
            refine j_iinc x dX6_has_311 rfl (by decide) rfl ?_
            refine j_goto (tgt := 6) x dX6_has_314 (by decide) ?_
            exact j_goal (ih (trivial)) (wk_c rfl (wk_c rfl (wk_c rfl (wk_c rfl (wk_c (congrArg (fun z => some (Value.int z)) (jsum_f (by simp [fHas, hA, hB, hS, jb_0.mp hP2]))) (wk_c (congrArg (fun z => some (Value.int z)) (nI_1 _)) (wk_n (wk_n (wk_n (wk_n (wk_0))))))))))) (rfl)
        · refine j_goto (tgt := 311) x dX6_has_88 (by decide) ?_
          refine j_iinc x dX6_has_311 rfl (by decide) rfl ?_
          refine j_goto (tgt := 6) x dX6_has_314 (by decide) ?_
          exact j_goal (ih (trivial)) (wk_c rfl (wk_c rfl (wk_c rfl (wk_c rfl (wk_c (congrArg (fun z => some (Value.int z)) (jsum_f (by simp [fHas, hA, hB, hS]))) (wk_c (congrArg (fun z => some (Value.int z)) (nI_1 _)) (wk_n (wk_n (wk_n (wk_n (wk_0))))))))))) (rfl)
      · refine j_goto (tgt := 311) x dX6_has_52 (by decide) ?_
        refine j_iinc x dX6_has_311 rfl (by decide) rfl ?_
        refine j_goto (tgt := 6) x dX6_has_314 (by decide) ?_
        exact j_goal (ih (trivial)) (wk_c rfl (wk_c rfl (wk_c rfl (wk_c rfl (wk_c (congrArg (fun z => some (Value.int z)) (jsum_f (by simp [fHas, hA, hB]))) (wk_c (congrArg (fun z => some (Value.int z)) (nI_1 _)) (wk_n (wk_n (wk_n (wk_n (wk_0))))))))))) (rfl)
    · refine j_iconst (v := 1) x dX6_has_29 (by decide) ?_
      refine j_goto (tgt := 34) x dX6_has_30 (by decide) ?_
      refine j_istore x dX6_has_34 (by decide) rfl ?_
      refine j_iload x dX6_has_36 rfl ?_
      refine j_if_ne (tgt := 55) x dX6_has_38 (by decide) (fun hc => ?_) (fun hc => absurd hc (by decide))
      refine j_iload x dX6_has_55 rfl ?_
      refine j_if_eq (tgt := 70) x dX6_has_57 (by decide) (fun hc => absurd hc (by decide)) (fun hc => ?_)
      refine j_aload_n x dX6_has_60 rfl ?_
      refine j_iload x dX6_has_61 rfl ?_
      refine j_iconst (v := 1) x dX6_has_63 (by decide) ?_
      refine j2_callVi x hb dX6_has_64 m_X6_of (cx_of (d := d) hb (m1 := j) (w1 := 1) (by omega) (by decide)) wmX6_68 jc_10 rfl rfl rfl (Nat.le_of_ble_eq_true rfl) (j_fit_rm (by omega) (by omega) (by omega)) rfl ?_
      refine j_goto (tgt := 77) x dX6_has_67 (by decide) ?_
      refine j_istore x dX6_has_77 (by decide) rfl ?_
      refine j_iload_n x dX6_has_79 rfl ?_
      refine j_iload x dX6_has_80 rfl ?_
      refine j_ishr x dX6_has_82 ?_
      refine j_iconst (v := 1) x dX6_has_83 (by decide) ?_
      refine j_iand x dX6_has_84 ?_
      refine j_if_ne (tgt := 91) x dX6_has_85 (by decide) (fun hS => ?_) (fun hS => ?_)
      · refine j_aload_n x dX6_has_91 rfl ?_
        refine j_iload x dX6_has_92 rfl ?_
        refine j2_callVi x hb dX6_has_94 m_X6_isPlayed (cx_isPlayed (d := d) hb (m1 := j) (by omega)) wmX6_72 jc_10 rfl rfl rfl (Nat.le_of_ble_eq_true rfl) (j_fit_rm (by omega) (by omega) (by omega)) rfl ?_
        refine j_if_ne (tgt := 112) x dX6_has_97 (by decide) (fun hP2 => ?_) (fun hP2 => ?_)
        · refine j_aload_n x dX6_has_112 rfl ?_
          refine j_iload x dX6_has_113 rfl ?_
          refine j_iload x dX6_has_115 rfl ?_
          refine j_if_eq (tgt := 125) x dX6_has_117 (by decide) (fun hc => absurd hc (by decide)) (fun hc => ?_)
          refine j_bipush (v := 6) x dX6_has_120 (by decide) ?_
          refine j_goto (tgt := 127) x dX6_has_122 (by decide) ?_
          refine j2_callVi x hb dX6_has_127 m_X6_of (cx_of (d := d) hb (m1 := j) (w1 := 6) (by omega) (by decide)) wmX6_68 jc_10 rfl rfl rfl (Nat.le_of_ble_eq_true rfl) (j_fit_rm (by omega) (by omega) (by omega)) rfl ?_
          refine j_istore x dX6_has_130 (by decide) rfl ?_
          refine j_aload_n x dX6_has_132 rfl ?_
          refine j_iload x dX6_has_133 rfl ?_
          refine j_iload x dX6_has_135 rfl ?_
          refine j_if_eq (tgt := 145) x dX6_has_137 (by decide) (fun hc => absurd hc (by decide)) (fun hc => ?_)
          refine j_bipush (v := 7) x dX6_has_140 (by decide) ?_
          refine j_goto (tgt := 147) x dX6_has_142 (by decide) ?_
          refine j2_callVi x hb dX6_has_147 m_X6_of (cx_of (d := d) hb (m1 := j) (w1 := 7) (by omega) (by decide)) wmX6_68 jc_10 rfl rfl rfl (Nat.le_of_ble_eq_true rfl) (j_fit_rm (by omega) (by omega) (by omega)) rfl ?_
          refine j_istore x dX6_has_150 (by decide) rfl ?_
          refine j_iload_n x dX6_has_152 rfl ?_
          refine j_tableIn (tgt := 263) x dX6_has_153 (by decide) (by decide) rfl (by decide) ?_
          refine j_iload x dX6_has_263 rfl ?_
          refine j_iload x dX6_has_265 rfl ?_
          refine j_icmp_ge (tgt := 311) x dX6_has_267 (by decide) (fun g1 => ?_) (fun g1 => ?_)
          · refine j_iinc x dX6_has_311 rfl (by decide) rfl ?_
            refine j_goto (tgt := 6) x dX6_has_314 (by decide) ?_
            exact j_goal (ih (trivial)) (wk_c rfl (wk_c rfl (wk_c rfl (wk_c rfl (wk_c (congrArg (fun z => some (Value.int z)) (jsum_f (by simp [fHas, hA, hS, jb_nz.mp hP2, jb, g1]))) (wk_c (congrArg (fun z => some (Value.int z)) (nI_1 _)) (wk_n (wk_n (wk_n (wk_n (wk_0))))))))))) (rfl)
          · refine j_iinc x dX6_has_270 rfl (by decide) rfl ?_
            refine j_goto (tgt := 311) x dX6_has_273 (by decide) ?_
            refine j_iinc x dX6_has_311 rfl (by decide) rfl ?_
            refine j_goto (tgt := 6) x dX6_has_314 (by decide) ?_
            exact j_goal (ih (trivial)) (wk_c rfl (wk_c rfl (wk_c rfl (wk_c rfl (wk_c (congrArg (fun z => some (Value.int z)) (jsum_v (by simp [fHas, hA, hS, jb_nz.mp hP2, jb, g1]))) (wk_c (congrArg (fun z => some (Value.int z)) (nI_1 _)) (wk_n (wk_n (wk_n (wk_n (wk_0))))))))))) (rfl)
        · refine j_iload_n x dX6_has_100 rfl ?_
          refine j_bipush (v := 8) x dX6_has_101 (by decide) ?_
          refine j_icmp_ne (tgt := 311) x dX6_has_103 (by decide) (fun hc => ?_) (fun hc => absurd hc (by decide))
          refine j_iinc x dX6_has_311 rfl (by decide) rfl ?_
          refine j_goto (tgt := 6) x dX6_has_314 (by decide) ?_
          exact j_goal (ih (trivial)) (wk_c rfl (wk_c rfl (wk_c rfl (wk_c rfl (wk_c (congrArg (fun z => some (Value.int z)) (jsum_f (by simp [fHas, hA, hS, jb_0.mp hP2]))) (wk_c (congrArg (fun z => some (Value.int z)) (nI_1 _)) (wk_n (wk_n (wk_n (wk_n (wk_0))))))))))) (rfl)
      · refine j_goto (tgt := 311) x dX6_has_88 (by decide) ?_
        refine j_iinc x dX6_has_311 rfl (by decide) rfl ?_
        refine j_goto (tgt := 6) x dX6_has_314 (by decide) ?_
        exact j_goal (ih (trivial)) (wk_c rfl (wk_c rfl (wk_c rfl (wk_c rfl (wk_c (congrArg (fun z => some (Value.int z)) (jsum_f (by simp [fHas, hA, hS]))) (wk_c (congrArg (fun z => some (Value.int z)) (nI_1 _)) (wk_n (wk_n (wk_n (wk_n (wk_0))))))))))) (rfl)
  refine j_iload x dX6_has_6 rfl ?_
  refine j_aload_n x dX6_has_8 rfl ?_
  refine j2_getr (k := 0) (r := 95) x hb dX6_has_9 jc_10 wfX6_9 (by decide) rfl ?_
  refine j_bipush (v := 9) x dX6_has_12 (by decide) ?_
  refine j2_ialn x hb dX6_has_14 fa_95 (j := 9) (vp_c (by decide)) (by decide) ?_; rw [hct]
  refine j_icmp_ge (tgt := 317) x dX6_has_15 (by decide) (fun hc => ?_) (fun hc => absurd (nI_le (Nat.le_refl _) (by omega)) hc)
  refine j_iload x dX6_has_317 rfl ?_
  exact j_ireturn x hr dX6_has_319 (by omega) (by omega) ⟨rfl, rfl⟩
theorem cx_has2_4 {d : Nat} {b : SBt} {Y : OUt} {M : MM} (hb : 104 ≤ b.2.1) {t : Int32} {n : Nat} (hn : n ≤ 56) (hct : M 95 9 = nI n) : CM (d + 3) 0 0 yX6_has_ cX6_has_ 3 (some .int) [.ref 94, .int t, .int 4] b Y M (.inl (some (.int (jsum (fHas M t 4 (-1)) n)))) (M) := by
  refine Con.of (by decide +kernel) (Nat.le_of_ble_eq_true rfl) rfl fun p l e s m args below meth c D tyc A ad0 x hr htab hname => ?_
  change JJ _ _ _ _ _ _ _ _ _ _ _ _ _ _ _ _ _ 0 [some (.ref 94), some (.int t), some (.int 4)] [] _ 0 0
  refine j_aload_n x dX6_has__0 rfl ?_
  refine j_iload_n x dX6_has__1 rfl ?_
  refine j_iload_n x dX6_has__2 rfl ?_
  refine j_iconst (v := (-1)) x dX6_has__3 (by decide) ?_
  refine j2_callVi x hb dX6_has__4 m_X6_has (cx_has_4 (d := d) hb hn hct) wmX6_152 jc_10 rfl rfl rfl (Nat.le_of_ble_eq_true rfl) (j_fit_rm (by omega) (by omega) (by omega)) rfl ?_
  exact j_ireturn x hr dX6_has__7 (by omega) (by omega) ⟨rfl, rfl⟩
theorem cx_has_5 {d : Nat} {b : SBt} {Y : OUt} {M : MM} (hb : 104 ≤ b.2.1) {t w : Int32} {n : Nat} (hn : n ≤ 56) (hct : M 95 9 = nI n) : CM (d + 2) 0 0 yX6_has cX6_has 10 (some .int) [.ref 94, .int t, .int 5, .int w] b Y M (.inl (some (.int (jsum (fHas M t 5 w) n)))) (M) := by
  refine Con.of (by decide +kernel) (Nat.le_of_ble_eq_true rfl) rfl fun p l e s m args below meth c D tyc A ad0 x hr htab hname => ?_
  change JJ _ _ _ _ _ _ _ _ _ _ _ _ _ _ _ _ _ 0 [some (.ref 94), some (.int t), some (.int 5), some (.int w), none, none, none, none, none, none] [] _ 0 0
  refine j_iconst (v := 0) x dX6_has_0 (by decide) ?_
  refine j_istore x dX6_has_1 (by decide) rfl ?_
  refine j_iconst (v := 0) x dX6_has_3 (by decide) ?_
  refine j_istore x dX6_has_4 (by decide) rfl ?_
  refine j_for (n) (fun j => [some (.ref 94), some (.int t), some (.int 5), some (.int w), some (.int (jsum (fHas M t 5 w) j)), some (.int (nI j)), none, none, none, none]) (fun j => M) (fun j => True) (rfl) (rfl) (trivial) (fun j hj hP ih => ?_) (fun hP => ?_)
  · refine j_iload x dX6_has_6 rfl ?_
    refine j_aload_n x dX6_has_8 rfl ?_
    refine j2_getr (k := 0) (r := 95) x hb dX6_has_9 jc_10 wfX6_9 (by decide) rfl ?_
    refine j_bipush (v := 9) x dX6_has_12 (by decide) ?_
    refine j2_ialn x hb dX6_has_14 fa_95 (j := 9) (vp_c (by decide)) (by decide) ?_; rw [hct]
    refine j_icmp_ge (tgt := 317) x dX6_has_15 (by decide) (fun hc => absurd hc (nI_ge hj (by omega))) (fun hc => ?_)
    refine j_aload_n x dX6_has_18 rfl ?_
    refine j_iload x dX6_has_19 rfl ?_
    refine j_iconst (v := 0) x dX6_has_21 (by decide) ?_
    refine j2_callVi x hb dX6_has_22 m_X6_of (cx_of (d := d) hb (m1 := j) (w1 := 0) (by omega) (by decide)) wmX6_68 jc_10 rfl rfl rfl (Nat.le_of_ble_eq_true rfl) (j_fit_rm (by omega) (by omega) (by omega)) rfl ?_
    refine j_iload_n x dX6_has_25 rfl ?_
    refine j_icmp_ne (tgt := 33) x dX6_has_26 (by decide) (fun hA => ?_) (fun hA => ?_)
    · refine j_iconst (v := 0) x dX6_has_33 (by decide) ?_
      refine j_istore x dX6_has_34 (by decide) rfl ?_
      refine j_iload x dX6_has_36 rfl ?_
      refine j_if_ne (tgt := 55) x dX6_has_38 (by decide) (fun hc => absurd hc (fun q => q rfl)) (fun hc => ?_)
      refine j_aload_n x dX6_has_41 rfl ?_
      refine j_iload x dX6_has_42 rfl ?_
      refine j_iconst (v := 1) x dX6_has_44 (by decide) ?_
      refine j2_callVi x hb dX6_has_45 m_X6_of (cx_of (d := d) hb (m1 := j) (w1 := 1) (by omega) (by decide)) wmX6_68 jc_10 rfl rfl rfl (Nat.le_of_ble_eq_true rfl) (j_fit_rm (by omega) (by omega) (by omega)) rfl ?_
      refine j_iload_n x dX6_has_48 rfl ?_
      refine j_icmp_eq (tgt := 55) x dX6_has_49 (by decide) (fun hB => ?_) (fun hB => ?_)
      · refine j_iload x dX6_has_55 rfl ?_
        refine j_if_eq (tgt := 70) x dX6_has_57 (by decide) (fun hc => ?_) (fun hc => absurd (rfl) hc)
        refine j_aload_n x dX6_has_70 rfl ?_
        refine j_iload x dX6_has_71 rfl ?_
        refine j_iconst (v := 0) x dX6_has_73 (by decide) ?_
        refine j2_callVi x hb dX6_has_74 m_X6_of (cx_of (d := d) hb (m1 := j) (w1 := 0) (by omega) (by decide)) wmX6_68 jc_10 rfl rfl rfl (Nat.le_of_ble_eq_true rfl) (j_fit_rm (by omega) (by omega) (by omega)) rfl ?_
        refine j_istore x dX6_has_77 (by decide) rfl ?_
        refine j_iload_n x dX6_has_79 rfl ?_
        refine j_iload x dX6_has_80 rfl ?_
        refine j_ishr x dX6_has_82 ?_
        refine j_iconst (v := 1) x dX6_has_83 (by decide) ?_
        refine j_iand x dX6_has_84 ?_
        refine j_if_ne (tgt := 91) x dX6_has_85 (by decide) (fun hS => ?_) (fun hS => ?_)
        · refine j_aload_n x dX6_has_91 rfl ?_
          refine j_iload x dX6_has_92 rfl ?_
          refine j2_callVi x hb dX6_has_94 m_X6_isPlayed (cx_isPlayed (d := d) hb (m1 := j) (by omega)) wmX6_72 jc_10 rfl rfl rfl (Nat.le_of_ble_eq_true rfl) (j_fit_rm (by omega) (by omega) (by omega)) rfl ?_
          refine j_if_ne (tgt := 112) x dX6_has_97 (by decide) (fun hP2 => ?_) (fun hP2 => ?_)
          · refine j_aload_n x dX6_has_112 rfl ?_
            refine j_iload x dX6_has_113 rfl ?_
            refine j_iload x dX6_has_115 rfl ?_
            refine j_if_eq (tgt := 125) x dX6_has_117 (by decide) (fun hc => ?_) (fun hc => absurd (rfl) hc)
            refine j_bipush (v := 7) x dX6_has_125 (by decide) ?_
            refine j2_callVi x hb dX6_has_127 m_X6_of (cx_of (d := d) hb (m1 := j) (w1 := 7) (by omega) (by decide)) wmX6_68 jc_10 rfl rfl rfl (Nat.le_of_ble_eq_true rfl) (j_fit_rm (by omega) (by omega) (by omega)) rfl ?_
            refine j_istore x dX6_has_130 (by decide) rfl ?_
            refine j_aload_n x dX6_has_132 rfl ?_
            refine j_iload x dX6_has_133 rfl ?_
            refine j_iload x dX6_has_135 rfl ?_
            refine j_if_eq (tgt := 145) x dX6_has_137 (by decide) (fun hc => ?_) (fun hc => absurd (rfl) hc)
            refine j_bipush (v := 6) x dX6_has_145 (by decide) ?_
            refine j2_callVi x hb dX6_has_147 m_X6_of (cx_of (d := d) hb (m1 := j) (w1 := 6) (by omega) (by decide)) wmX6_68 jc_10 rfl rfl rfl (Nat.le_of_ble_eq_true rfl) (j_fit_rm (by omega) (by omega) (by omega)) rfl ?_
            refine j_istore x dX6_has_150 (by decide) rfl ?_
            refine j_iload_n x dX6_has_152 rfl ?_
            refine j_tableIn (tgt := 276) x dX6_has_153 (by decide) (by decide) rfl (by decide) ?_
            refine j_iload x dX6_has_276 rfl ?_
            refine j_iload x dX6_has_278 rfl ?_
            refine j_iadd x dX6_has_280 ?_
            refine j_istore x dX6_has_281 (by decide) rfl ?_
            refine j_goto (tgt := 311) x dX6_has_283 (by decide) ?_
            refine j_iinc x dX6_has_311 rfl (by decide) rfl ?_
            refine j_goto (tgt := 6) x dX6_has_314 (by decide) ?_
            exact j_goal (ih (trivial)) (wk_c rfl (wk_c rfl (wk_c rfl (wk_c rfl (wk_c (congrArg (fun z => some (Value.int z)) (jsum_v (by simp [fHas, hA, hB, hS, jb_nz.mp hP2]))) (wk_c (congrArg (fun z => some (Value.int z)) (nI_1 _)) (wk_n (wk_n (wk_n (wk_n (wk_0))))))))))) (rfl)
          · refine j_iload_n x dX6_has_100 rfl ?_
            refine j_bipush (v := 8) x dX6_has_101 (by decide) ?_
            refine j_icmp_ne (tgt := 311) x dX6_has_103 (by decide) (fun hc => ?_) (fun hc => absurd hc (by decide))
            refine j_iinc x dX6_has_311 rfl (by decide) rfl ?_
            refine j_goto (tgt := 6) x dX6_has_314 (by decide) ?_
            exact j_goal (ih (trivial)) (wk_c rfl (wk_c rfl (wk_c rfl (wk_c rfl (wk_c (congrArg (fun z => some (Value.int z)) (jsum_f (by simp [fHas, hA, hB, hS, jb_0.mp hP2]))) (wk_c (congrArg (fun z => some (Value.int z)) (nI_1 _)) (wk_n (wk_n (wk_n (wk_n (wk_0))))))))))) (rfl)
        · refine j_goto (tgt := 311) x dX6_has_88 (by decide) ?_
          refine j_iinc x dX6_has_311 rfl (by decide) rfl ?_
          refine j_goto (tgt := 6) x dX6_has_314 (by decide) ?_
          exact j_goal (ih (trivial)) (wk_c rfl (wk_c rfl (wk_c rfl (wk_c rfl (wk_c (congrArg (fun z => some (Value.int z)) (jsum_f (by simp [fHas, hA, hB, hS]))) (wk_c (congrArg (fun z => some (Value.int z)) (nI_1 _)) (wk_n (wk_n (wk_n (wk_n (wk_0))))))))))) (rfl)
      · refine j_goto (tgt := 311) x dX6_has_52 (by decide) ?_
        refine j_iinc x dX6_has_311 rfl (by decide) rfl ?_
        refine j_goto (tgt := 6) x dX6_has_314 (by decide) ?_
        exact j_goal (ih (trivial)) (wk_c rfl (wk_c rfl (wk_c rfl (wk_c rfl (wk_c (congrArg (fun z => some (Value.int z)) (jsum_f (by simp [fHas, hA, hB]))) (wk_c (congrArg (fun z => some (Value.int z)) (nI_1 _)) (wk_n (wk_n (wk_n (wk_n (wk_0))))))))))) (rfl)
    · refine j_iconst (v := 1) x dX6_has_29 (by decide) ?_
      refine j_goto (tgt := 34) x dX6_has_30 (by decide) ?_
      refine j_istore x dX6_has_34 (by decide) rfl ?_
      refine j_iload x dX6_has_36 rfl ?_
      refine j_if_ne (tgt := 55) x dX6_has_38 (by decide) (fun hc => ?_) (fun hc => absurd hc (by decide))
      refine j_iload x dX6_has_55 rfl ?_
      refine j_if_eq (tgt := 70) x dX6_has_57 (by decide) (fun hc => absurd hc (by decide)) (fun hc => ?_)
      refine j_aload_n x dX6_has_60 rfl ?_
      refine j_iload x dX6_has_61 rfl ?_
      refine j_iconst (v := 1) x dX6_has_63 (by decide) ?_
      refine j2_callVi x hb dX6_has_64 m_X6_of (cx_of (d := d) hb (m1 := j) (w1 := 1) (by omega) (by decide)) wmX6_68 jc_10 rfl rfl rfl (Nat.le_of_ble_eq_true rfl) (j_fit_rm (by omega) (by omega) (by omega)) rfl ?_
      refine j_goto (tgt := 77) x dX6_has_67 (by decide) ?_
      refine j_istore x dX6_has_77 (by decide) rfl ?_
      refine j_iload_n x dX6_has_79 rfl ?_
      refine j_iload x dX6_has_80 rfl ?_
      refine j_ishr x dX6_has_82 ?_
      refine j_iconst (v := 1) x dX6_has_83 (by decide) ?_
      refine j_iand x dX6_has_84 ?_
      refine j_if_ne (tgt := 91) x dX6_has_85 (by decide) (fun hS => ?_) (fun hS => ?_)
      · refine j_aload_n x dX6_has_91 rfl ?_
        refine j_iload x dX6_has_92 rfl ?_
        refine j2_callVi x hb dX6_has_94 m_X6_isPlayed (cx_isPlayed (d := d) hb (m1 := j) (by omega)) wmX6_72 jc_10 rfl rfl rfl (Nat.le_of_ble_eq_true rfl) (j_fit_rm (by omega) (by omega) (by omega)) rfl ?_
        refine j_if_ne (tgt := 112) x dX6_has_97 (by decide) (fun hP2 => ?_) (fun hP2 => ?_)
        · refine j_aload_n x dX6_has_112 rfl ?_
          refine j_iload x dX6_has_113 rfl ?_
          refine j_iload x dX6_has_115 rfl ?_
          refine j_if_eq (tgt := 125) x dX6_has_117 (by decide) (fun hc => absurd hc (by decide)) (fun hc => ?_)
          refine j_bipush (v := 6) x dX6_has_120 (by decide) ?_
          refine j_goto (tgt := 127) x dX6_has_122 (by decide) ?_
          refine j2_callVi x hb dX6_has_127 m_X6_of (cx_of (d := d) hb (m1 := j) (w1 := 6) (by omega) (by decide)) wmX6_68 jc_10 rfl rfl rfl (Nat.le_of_ble_eq_true rfl) (j_fit_rm (by omega) (by omega) (by omega)) rfl ?_
          refine j_istore x dX6_has_130 (by decide) rfl ?_
          refine j_aload_n x dX6_has_132 rfl ?_
          refine j_iload x dX6_has_133 rfl ?_
          refine j_iload x dX6_has_135 rfl ?_
          refine j_if_eq (tgt := 145) x dX6_has_137 (by decide) (fun hc => absurd hc (by decide)) (fun hc => ?_)
          refine j_bipush (v := 7) x dX6_has_140 (by decide) ?_
          refine j_goto (tgt := 147) x dX6_has_142 (by decide) ?_
          refine j2_callVi x hb dX6_has_147 m_X6_of (cx_of (d := d) hb (m1 := j) (w1 := 7) (by omega) (by decide)) wmX6_68 jc_10 rfl rfl rfl (Nat.le_of_ble_eq_true rfl) (j_fit_rm (by omega) (by omega) (by omega)) rfl ?_
          refine j_istore x dX6_has_150 (by decide) rfl ?_
          refine j_iload_n x dX6_has_152 rfl ?_
          refine j_tableIn (tgt := 276) x dX6_has_153 (by decide) (by decide) rfl (by decide) ?_
          refine j_iload x dX6_has_276 rfl ?_
          refine j_iload x dX6_has_278 rfl ?_
          refine j_iadd x dX6_has_280 ?_
          refine j_istore x dX6_has_281 (by decide) rfl ?_
          refine j_goto (tgt := 311) x dX6_has_283 (by decide) ?_
          refine j_iinc x dX6_has_311 rfl (by decide) rfl ?_
          refine j_goto (tgt := 6) x dX6_has_314 (by decide) ?_
          exact j_goal (ih (trivial)) (wk_c rfl (wk_c rfl (wk_c rfl (wk_c rfl (wk_c (congrArg (fun z => some (Value.int z)) (jsum_v (by simp [fHas, hA, hS, jb_nz.mp hP2]))) (wk_c (congrArg (fun z => some (Value.int z)) (nI_1 _)) (wk_n (wk_n (wk_n (wk_n (wk_0))))))))))) (rfl)
        · refine j_iload_n x dX6_has_100 rfl ?_
          refine j_bipush (v := 8) x dX6_has_101 (by decide) ?_
          refine j_icmp_ne (tgt := 311) x dX6_has_103 (by decide) (fun hc => ?_) (fun hc => absurd hc (by decide))
          refine j_iinc x dX6_has_311 rfl (by decide) rfl ?_
          refine j_goto (tgt := 6) x dX6_has_314 (by decide) ?_
          exact j_goal (ih (trivial)) (wk_c rfl (wk_c rfl (wk_c rfl (wk_c rfl (wk_c (congrArg (fun z => some (Value.int z)) (jsum_f (by simp [fHas, hA, hS, jb_0.mp hP2]))) (wk_c (congrArg (fun z => some (Value.int z)) (nI_1 _)) (wk_n (wk_n (wk_n (wk_n (wk_0))))))))))) (rfl)
      · refine j_goto (tgt := 311) x dX6_has_88 (by decide) ?_
        refine j_iinc x dX6_has_311 rfl (by decide) rfl ?_
        refine j_goto (tgt := 6) x dX6_has_314 (by decide) ?_
        exact j_goal (ih (trivial)) (wk_c rfl (wk_c rfl (wk_c rfl (wk_c rfl (wk_c (congrArg (fun z => some (Value.int z)) (jsum_f (by simp [fHas, hA, hS]))) (wk_c (congrArg (fun z => some (Value.int z)) (nI_1 _)) (wk_n (wk_n (wk_n (wk_n (wk_0))))))))))) (rfl)
  refine j_iload x dX6_has_6 rfl ?_
  refine j_aload_n x dX6_has_8 rfl ?_
  refine j2_getr (k := 0) (r := 95) x hb dX6_has_9 jc_10 wfX6_9 (by decide) rfl ?_
  refine j_bipush (v := 9) x dX6_has_12 (by decide) ?_
  refine j2_ialn x hb dX6_has_14 fa_95 (j := 9) (vp_c (by decide)) (by decide) ?_; rw [hct]
  refine j_icmp_ge (tgt := 317) x dX6_has_15 (by decide) (fun hc => ?_) (fun hc => absurd (nI_le (Nat.le_refl _) (by omega)) hc)
  refine j_iload x dX6_has_317 rfl ?_
  exact j_ireturn x hr dX6_has_319 (by omega) (by omega) ⟨rfl, rfl⟩
theorem cx_has2_5 {d : Nat} {b : SBt} {Y : OUt} {M : MM} (hb : 104 ≤ b.2.1) {t : Int32} {n : Nat} (hn : n ≤ 56) (hct : M 95 9 = nI n) : CM (d + 3) 0 0 yX6_has_ cX6_has_ 3 (some .int) [.ref 94, .int t, .int 5] b Y M (.inl (some (.int (jsum (fHas M t 5 (-1)) n)))) (M) := by
  refine Con.of (by decide +kernel) (Nat.le_of_ble_eq_true rfl) rfl fun p l e s m args below meth c D tyc A ad0 x hr htab hname => ?_
  change JJ _ _ _ _ _ _ _ _ _ _ _ _ _ _ _ _ _ 0 [some (.ref 94), some (.int t), some (.int 5)] [] _ 0 0
  refine j_aload_n x dX6_has__0 rfl ?_
  refine j_iload_n x dX6_has__1 rfl ?_
  refine j_iload_n x dX6_has__2 rfl ?_
  refine j_iconst (v := (-1)) x dX6_has__3 (by decide) ?_
  refine j2_callVi x hb dX6_has__4 m_X6_has (cx_has_5 (d := d) hb hn hct) wmX6_152 jc_10 rfl rfl rfl (Nat.le_of_ble_eq_true rfl) (j_fit_rm (by omega) (by omega) (by omega)) rfl ?_
  exact j_ireturn x hr dX6_has__7 (by omega) (by omega) ⟨rfl, rfl⟩
theorem cx_has_6 {d : Nat} {b : SBt} {Y : OUt} {M : MM} (hb : 104 ≤ b.2.1) {t w : Int32} {n : Nat} (hn : n ≤ 56) (hct : M 95 9 = nI n) : CM (d + 2) 0 0 yX6_has cX6_has 10 (some .int) [.ref 94, .int t, .int 6, .int w] b Y M (.inl (some (.int (jsum (fHas M t 6 w) n)))) (M) := by
  refine Con.of (by decide +kernel) (Nat.le_of_ble_eq_true rfl) rfl fun p l e s m args below meth c D tyc A ad0 x hr htab hname => ?_
  change JJ _ _ _ _ _ _ _ _ _ _ _ _ _ _ _ _ _ 0 [some (.ref 94), some (.int t), some (.int 6), some (.int w), none, none, none, none, none, none] [] _ 0 0
  refine j_iconst (v := 0) x dX6_has_0 (by decide) ?_
  refine j_istore x dX6_has_1 (by decide) rfl ?_
  refine j_iconst (v := 0) x dX6_has_3 (by decide) ?_
  refine j_istore x dX6_has_4 (by decide) rfl ?_
  refine j_for (n) (fun j => [some (.ref 94), some (.int t), some (.int 6), some (.int w), some (.int (jsum (fHas M t 6 w) j)), some (.int (nI j)), none, none, none, none]) (fun j => M) (fun j => True) (rfl) (rfl) (trivial) (fun j hj hP ih => ?_) (fun hP => ?_)
  · refine j_iload x dX6_has_6 rfl ?_
    refine j_aload_n x dX6_has_8 rfl ?_
    refine j2_getr (k := 0) (r := 95) x hb dX6_has_9 jc_10 wfX6_9 (by decide) rfl ?_
    refine j_bipush (v := 9) x dX6_has_12 (by decide) ?_
    refine j2_ialn x hb dX6_has_14 fa_95 (j := 9) (vp_c (by decide)) (by decide) ?_; rw [hct]
    refine j_icmp_ge (tgt := 317) x dX6_has_15 (by decide) (fun hc => absurd hc (nI_ge hj (by omega))) (fun hc => ?_)
    refine j_aload_n x dX6_has_18 rfl ?_
    refine j_iload x dX6_has_19 rfl ?_
    refine j_iconst (v := 0) x dX6_has_21 (by decide) ?_
    refine j2_callVi x hb dX6_has_22 m_X6_of (cx_of (d := d) hb (m1 := j) (w1 := 0) (by omega) (by decide)) wmX6_68 jc_10 rfl rfl rfl (Nat.le_of_ble_eq_true rfl) (j_fit_rm (by omega) (by omega) (by omega)) rfl ?_
    refine j_iload_n x dX6_has_25 rfl ?_
    refine j_icmp_ne (tgt := 33) x dX6_has_26 (by decide) (fun hA => ?_) (fun hA => ?_)
    · refine j_iconst (v := 0) x dX6_has_33 (by decide) ?_
      refine j_istore x dX6_has_34 (by decide) rfl ?_
      refine j_iload x dX6_has_36 rfl ?_
      refine j_if_ne (tgt := 55) x dX6_has_38 (by decide) (fun hc => absurd hc (fun q => q rfl)) (fun hc => ?_)
      refine j_aload_n x dX6_has_41 rfl ?_
      refine j_iload x dX6_has_42 rfl ?_
      refine j_iconst (v := 1) x dX6_has_44 (by decide) ?_
      refine j2_callVi x hb dX6_has_45 m_X6_of (cx_of (d := d) hb (m1 := j) (w1 := 1) (by omega) (by decide)) wmX6_68 jc_10 rfl rfl rfl (Nat.le_of_ble_eq_true rfl) (j_fit_rm (by omega) (by omega) (by omega)) rfl ?_
      refine j_iload_n x dX6_has_48 rfl ?_
      refine j_icmp_eq (tgt := 55) x dX6_has_49 (by decide) (fun hB => ?_) (fun hB => ?_)
      · refine j_iload x dX6_has_55 rfl ?_
        refine j_if_eq (tgt := 70) x dX6_has_57 (by decide) (fun hc => ?_) (fun hc => absurd (rfl) hc)
        refine j_aload_n x dX6_has_70 rfl ?_
        refine j_iload x dX6_has_71 rfl ?_
        refine j_iconst (v := 0) x dX6_has_73 (by decide) ?_
        refine j2_callVi x hb dX6_has_74 m_X6_of (cx_of (d := d) hb (m1 := j) (w1 := 0) (by omega) (by decide)) wmX6_68 jc_10 rfl rfl rfl (Nat.le_of_ble_eq_true rfl) (j_fit_rm (by omega) (by omega) (by omega)) rfl ?_
        refine j_istore x dX6_has_77 (by decide) rfl ?_
        refine j_iload_n x dX6_has_79 rfl ?_
        refine j_iload x dX6_has_80 rfl ?_
        refine j_ishr x dX6_has_82 ?_
        refine j_iconst (v := 1) x dX6_has_83 (by decide) ?_
        refine j_iand x dX6_has_84 ?_
        refine j_if_ne (tgt := 91) x dX6_has_85 (by decide) (fun hS => ?_) (fun hS => ?_)
        · refine j_aload_n x dX6_has_91 rfl ?_
          refine j_iload x dX6_has_92 rfl ?_
          refine j2_callVi x hb dX6_has_94 m_X6_isPlayed (cx_isPlayed (d := d) hb (m1 := j) (by omega)) wmX6_72 jc_10 rfl rfl rfl (Nat.le_of_ble_eq_true rfl) (j_fit_rm (by omega) (by omega) (by omega)) rfl ?_
          refine j_if_ne (tgt := 112) x dX6_has_97 (by decide) (fun hP2 => ?_) (fun hP2 => ?_)
          · refine j_aload_n x dX6_has_112 rfl ?_
            refine j_iload x dX6_has_113 rfl ?_
            refine j_iload x dX6_has_115 rfl ?_
            refine j_if_eq (tgt := 125) x dX6_has_117 (by decide) (fun hc => ?_) (fun hc => absurd (rfl) hc)
            refine j_bipush (v := 7) x dX6_has_125 (by decide) ?_
            refine j2_callVi x hb dX6_has_127 m_X6_of (cx_of (d := d) hb (m1 := j) (w1 := 7) (by omega) (by decide)) wmX6_68 jc_10 rfl rfl rfl (Nat.le_of_ble_eq_true rfl) (j_fit_rm (by omega) (by omega) (by omega)) rfl ?_
            refine j_istore x dX6_has_130 (by decide) rfl ?_
            refine j_aload_n x dX6_has_132 rfl ?_
            refine j_iload x dX6_has_133 rfl ?_
            refine j_iload x dX6_has_135 rfl ?_
            refine j_if_eq (tgt := 145) x dX6_has_137 (by decide) (fun hc => ?_) (fun hc => absurd (rfl) hc)
            refine j_bipush (v := 6) x dX6_has_145 (by decide) ?_
            refine j2_callVi x hb dX6_has_147 m_X6_of (cx_of (d := d) hb (m1 := j) (w1 := 6) (by omega) (by decide)) wmX6_68 jc_10 rfl rfl rfl (Nat.le_of_ble_eq_true rfl) (j_fit_rm (by omega) (by omega) (by omega)) rfl ?_
            refine j_istore x dX6_has_150 (by decide) rfl ?_
            refine j_iload_n x dX6_has_152 rfl ?_
            refine j_tableIn (tgt := 286) x dX6_has_153 (by decide) (by decide) rfl (by decide) ?_
            refine j_iload x dX6_has_286 rfl ?_
            refine j_iload x dX6_has_288 rfl ?_
            refine j_iadd x dX6_has_290 ?_
            refine j_istore x dX6_has_291 (by decide) rfl ?_
            refine j_goto (tgt := 311) x dX6_has_293 (by decide) ?_
            refine j_iinc x dX6_has_311 rfl (by decide) rfl ?_
            refine j_goto (tgt := 6) x dX6_has_314 (by decide) ?_
            exact j_goal (ih (trivial)) (wk_c rfl (wk_c rfl (wk_c rfl (wk_c rfl (wk_c (congrArg (fun z => some (Value.int z)) (jsum_v (by simp [fHas, hA, hB, hS, jb_nz.mp hP2]))) (wk_c (congrArg (fun z => some (Value.int z)) (nI_1 _)) (wk_n (wk_n (wk_n (wk_n (wk_0))))))))))) (rfl)
          · refine j_iload_n x dX6_has_100 rfl ?_
            refine j_bipush (v := 8) x dX6_has_101 (by decide) ?_
            refine j_icmp_ne (tgt := 311) x dX6_has_103 (by decide) (fun hc => ?_) (fun hc => absurd hc (by decide))
            refine j_iinc x dX6_has_311 rfl (by decide) rfl ?_
            refine j_goto (tgt := 6) x dX6_has_314 (by decide) ?_
            exact j_goal (ih (trivial)) (wk_c rfl (wk_c rfl (wk_c rfl (wk_c rfl (wk_c (congrArg (fun z => some (Value.int z)) (jsum_f (by simp [fHas, hA, hB, hS, jb_0.mp hP2]))) (wk_c (congrArg (fun z => some (Value.int z)) (nI_1 _)) (wk_n (wk_n (wk_n (wk_n (wk_0))))))))))) (rfl)
        · refine j_goto (tgt := 311) x dX6_has_88 (by decide) ?_
          refine j_iinc x dX6_has_311 rfl (by decide) rfl ?_
          refine j_goto (tgt := 6) x dX6_has_314 (by decide) ?_
          exact j_goal (ih (trivial)) (wk_c rfl (wk_c rfl (wk_c rfl (wk_c rfl (wk_c (congrArg (fun z => some (Value.int z)) (jsum_f (by simp [fHas, hA, hB, hS]))) (wk_c (congrArg (fun z => some (Value.int z)) (nI_1 _)) (wk_n (wk_n (wk_n (wk_n (wk_0))))))))))) (rfl)
      · refine j_goto (tgt := 311) x dX6_has_52 (by decide) ?_
        refine j_iinc x dX6_has_311 rfl (by decide) rfl ?_
        refine j_goto (tgt := 6) x dX6_has_314 (by decide) ?_
        exact j_goal (ih (trivial)) (wk_c rfl (wk_c rfl (wk_c rfl (wk_c rfl (wk_c (congrArg (fun z => some (Value.int z)) (jsum_f (by simp [fHas, hA, hB]))) (wk_c (congrArg (fun z => some (Value.int z)) (nI_1 _)) (wk_n (wk_n (wk_n (wk_n (wk_0))))))))))) (rfl)
    · refine j_iconst (v := 1) x dX6_has_29 (by decide) ?_
      refine j_goto (tgt := 34) x dX6_has_30 (by decide) ?_
      refine j_istore x dX6_has_34 (by decide) rfl ?_
      refine j_iload x dX6_has_36 rfl ?_
      refine j_if_ne (tgt := 55) x dX6_has_38 (by decide) (fun hc => ?_) (fun hc => absurd hc (by decide))
      refine j_iload x dX6_has_55 rfl ?_
      refine j_if_eq (tgt := 70) x dX6_has_57 (by decide) (fun hc => absurd hc (by decide)) (fun hc => ?_)
      refine j_aload_n x dX6_has_60 rfl ?_
      refine j_iload x dX6_has_61 rfl ?_
      refine j_iconst (v := 1) x dX6_has_63 (by decide) ?_
      refine j2_callVi x hb dX6_has_64 m_X6_of (cx_of (d := d) hb (m1 := j) (w1 := 1) (by omega) (by decide)) wmX6_68 jc_10 rfl rfl rfl (Nat.le_of_ble_eq_true rfl) (j_fit_rm (by omega) (by omega) (by omega)) rfl ?_
      refine j_goto (tgt := 77) x dX6_has_67 (by decide) ?_
      refine j_istore x dX6_has_77 (by decide) rfl ?_
      refine j_iload_n x dX6_has_79 rfl ?_
      refine j_iload x dX6_has_80 rfl ?_
      refine j_ishr x dX6_has_82 ?_
      refine j_iconst (v := 1) x dX6_has_83 (by decide) ?_
      refine j_iand x dX6_has_84 ?_
      refine j_if_ne (tgt := 91) x dX6_has_85 (by decide) (fun hS => ?_) (fun hS => ?_)
      · refine j_aload_n x dX6_has_91 rfl ?_
        refine j_iload x dX6_has_92 rfl ?_
        refine j2_callVi x hb dX6_has_94 m_X6_isPlayed (cx_isPlayed (d := d) hb (m1 := j) (by omega)) wmX6_72 jc_10 rfl rfl rfl (Nat.le_of_ble_eq_true rfl) (j_fit_rm (by omega) (by omega) (by omega)) rfl ?_
        refine j_if_ne (tgt := 112) x dX6_has_97 (by decide) (fun hP2 => ?_) (fun hP2 => ?_)
        · refine j_aload_n x dX6_has_112 rfl ?_
          refine j_iload x dX6_has_113 rfl ?_
          refine j_iload x dX6_has_115 rfl ?_
          refine j_if_eq (tgt := 125) x dX6_has_117 (by decide) (fun hc => absurd hc (by decide)) (fun hc => ?_)
          refine j_bipush (v := 6) x dX6_has_120 (by decide) ?_
          refine j_goto (tgt := 127) x dX6_has_122 (by decide) ?_
          refine j2_callVi x hb dX6_has_127 m_X6_of (cx_of (d := d) hb (m1 := j) (w1 := 6) (by omega) (by decide)) wmX6_68 jc_10 rfl rfl rfl (Nat.le_of_ble_eq_true rfl) (j_fit_rm (by omega) (by omega) (by omega)) rfl ?_
          refine j_istore x dX6_has_130 (by decide) rfl ?_
          refine j_aload_n x dX6_has_132 rfl ?_
          refine j_iload x dX6_has_133 rfl ?_
          refine j_iload x dX6_has_135 rfl ?_
          refine j_if_eq (tgt := 145) x dX6_has_137 (by decide) (fun hc => absurd hc (by decide)) (fun hc => ?_)
          refine j_bipush (v := 7) x dX6_has_140 (by decide) ?_
          refine j_goto (tgt := 147) x dX6_has_142 (by decide) ?_
          refine j2_callVi x hb dX6_has_147 m_X6_of (cx_of (d := d) hb (m1 := j) (w1 := 7) (by omega) (by decide)) wmX6_68 jc_10 rfl rfl rfl (Nat.le_of_ble_eq_true rfl) (j_fit_rm (by omega) (by omega) (by omega)) rfl ?_
          refine j_istore x dX6_has_150 (by decide) rfl ?_
          refine j_iload_n x dX6_has_152 rfl ?_
          refine j_tableIn (tgt := 286) x dX6_has_153 (by decide) (by decide) rfl (by decide) ?_
          refine j_iload x dX6_has_286 rfl ?_
          refine j_iload x dX6_has_288 rfl ?_
          refine j_iadd x dX6_has_290 ?_
          refine j_istore x dX6_has_291 (by decide) rfl ?_
          refine j_goto (tgt := 311) x dX6_has_293 (by decide) ?_
          refine j_iinc x dX6_has_311 rfl (by decide) rfl ?_
          refine j_goto (tgt := 6) x dX6_has_314 (by decide) ?_
          exact j_goal (ih (trivial)) (wk_c rfl (wk_c rfl (wk_c rfl (wk_c rfl (wk_c (congrArg (fun z => some (Value.int z)) (jsum_v (by simp [fHas, hA, hS, jb_nz.mp hP2]))) (wk_c (congrArg (fun z => some (Value.int z)) (nI_1 _)) (wk_n (wk_n (wk_n (wk_n (wk_0))))))))))) (rfl)
        · refine j_iload_n x dX6_has_100 rfl ?_
          refine j_bipush (v := 8) x dX6_has_101 (by decide) ?_
          refine j_icmp_ne (tgt := 311) x dX6_has_103 (by decide) (fun hc => ?_) (fun hc => absurd hc (by decide))
          refine j_iinc x dX6_has_311 rfl (by decide) rfl ?_
          refine j_goto (tgt := 6) x dX6_has_314 (by decide) ?_
          exact j_goal (ih (trivial)) (wk_c rfl (wk_c rfl (wk_c rfl (wk_c rfl (wk_c (congrArg (fun z => some (Value.int z)) (jsum_f (by simp [fHas, hA, hS, jb_0.mp hP2]))) (wk_c (congrArg (fun z => some (Value.int z)) (nI_1 _)) (wk_n (wk_n (wk_n (wk_n (wk_0))))))))))) (rfl)
      · refine j_goto (tgt := 311) x dX6_has_88 (by decide) ?_
        refine j_iinc x dX6_has_311 rfl (by decide) rfl ?_
        refine j_goto (tgt := 6) x dX6_has_314 (by decide) ?_
        exact j_goal (ih (trivial)) (wk_c rfl (wk_c rfl (wk_c rfl (wk_c rfl (wk_c (congrArg (fun z => some (Value.int z)) (jsum_f (by simp [fHas, hA, hS]))) (wk_c (congrArg (fun z => some (Value.int z)) (nI_1 _)) (wk_n (wk_n (wk_n (wk_n (wk_0))))))))))) (rfl)
  refine j_iload x dX6_has_6 rfl ?_
  refine j_aload_n x dX6_has_8 rfl ?_
  refine j2_getr (k := 0) (r := 95) x hb dX6_has_9 jc_10 wfX6_9 (by decide) rfl ?_
  refine j_bipush (v := 9) x dX6_has_12 (by decide) ?_
  refine j2_ialn x hb dX6_has_14 fa_95 (j := 9) (vp_c (by decide)) (by decide) ?_; rw [hct]
  refine j_icmp_ge (tgt := 317) x dX6_has_15 (by decide) (fun hc => ?_) (fun hc => absurd (nI_le (Nat.le_refl _) (by omega)) hc)
  refine j_iload x dX6_has_317 rfl ?_
  exact j_ireturn x hr dX6_has_319 (by omega) (by omega) ⟨rfl, rfl⟩
theorem cx_has2_6 {d : Nat} {b : SBt} {Y : OUt} {M : MM} (hb : 104 ≤ b.2.1) {t : Int32} {n : Nat} (hn : n ≤ 56) (hct : M 95 9 = nI n) : CM (d + 3) 0 0 yX6_has_ cX6_has_ 3 (some .int) [.ref 94, .int t, .int 6] b Y M (.inl (some (.int (jsum (fHas M t 6 (-1)) n)))) (M) := by
  refine Con.of (by decide +kernel) (Nat.le_of_ble_eq_true rfl) rfl fun p l e s m args below meth c D tyc A ad0 x hr htab hname => ?_
  change JJ _ _ _ _ _ _ _ _ _ _ _ _ _ _ _ _ _ 0 [some (.ref 94), some (.int t), some (.int 6)] [] _ 0 0
  refine j_aload_n x dX6_has__0 rfl ?_
  refine j_iload_n x dX6_has__1 rfl ?_
  refine j_iload_n x dX6_has__2 rfl ?_
  refine j_iconst (v := (-1)) x dX6_has__3 (by decide) ?_
  refine j2_callVi x hb dX6_has__4 m_X6_has (cx_has_6 (d := d) hb hn hct) wmX6_152 jc_10 rfl rfl rfl (Nat.le_of_ble_eq_true rfl) (j_fit_rm (by omega) (by omega) (by omega)) rfl ?_
  exact j_ireturn x hr dX6_has__7 (by omega) (by omega) ⟨rfl, rfl⟩
theorem cx_has_7 {d : Nat} {b : SBt} {Y : OUt} {M : MM} (hb : 104 ≤ b.2.1) {t w : Int32} {n : Nat} (hn : n ≤ 56) (hct : M 95 9 = nI n) : CM (d + 2) 0 0 yX6_has cX6_has 10 (some .int) [.ref 94, .int t, .int 7, .int w] b Y M (.inl (some (.int (jsum (fHas M t 7 w) n)))) (M) := by
  refine Con.of (by decide +kernel) (Nat.le_of_ble_eq_true rfl) rfl fun p l e s m args below meth c D tyc A ad0 x hr htab hname => ?_
  change JJ _ _ _ _ _ _ _ _ _ _ _ _ _ _ _ _ _ 0 [some (.ref 94), some (.int t), some (.int 7), some (.int w), none, none, none, none, none, none] [] _ 0 0
  refine j_iconst (v := 0) x dX6_has_0 (by decide) ?_
  refine j_istore x dX6_has_1 (by decide) rfl ?_
  refine j_iconst (v := 0) x dX6_has_3 (by decide) ?_
  refine j_istore x dX6_has_4 (by decide) rfl ?_
  refine j_for (n) (fun j => [some (.ref 94), some (.int t), some (.int 7), some (.int w), some (.int (jsum (fHas M t 7 w) j)), some (.int (nI j)), none, none, none, none]) (fun j => M) (fun j => True) (rfl) (rfl) (trivial) (fun j hj hP ih => ?_) (fun hP => ?_)
  · refine j_iload x dX6_has_6 rfl ?_
    refine j_aload_n x dX6_has_8 rfl ?_
    refine j2_getr (k := 0) (r := 95) x hb dX6_has_9 jc_10 wfX6_9 (by decide) rfl ?_
    refine j_bipush (v := 9) x dX6_has_12 (by decide) ?_
    refine j2_ialn x hb dX6_has_14 fa_95 (j := 9) (vp_c (by decide)) (by decide) ?_; rw [hct]
    refine j_icmp_ge (tgt := 317) x dX6_has_15 (by decide) (fun hc => absurd hc (nI_ge hj (by omega))) (fun hc => ?_)
    refine j_aload_n x dX6_has_18 rfl ?_
    refine j_iload x dX6_has_19 rfl ?_
    refine j_iconst (v := 0) x dX6_has_21 (by decide) ?_
    refine j2_callVi x hb dX6_has_22 m_X6_of (cx_of (d := d) hb (m1 := j) (w1 := 0) (by omega) (by decide)) wmX6_68 jc_10 rfl rfl rfl (Nat.le_of_ble_eq_true rfl) (j_fit_rm (by omega) (by omega) (by omega)) rfl ?_
    refine j_iload_n x dX6_has_25 rfl ?_
    refine j_icmp_ne (tgt := 33) x dX6_has_26 (by decide) (fun hA => ?_) (fun hA => ?_)
    · refine j_iconst (v := 0) x dX6_has_33 (by decide) ?_
      refine j_istore x dX6_has_34 (by decide) rfl ?_
      refine j_iload x dX6_has_36 rfl ?_
      refine j_if_ne (tgt := 55) x dX6_has_38 (by decide) (fun hc => absurd hc (fun q => q rfl)) (fun hc => ?_)
      refine j_aload_n x dX6_has_41 rfl ?_
      refine j_iload x dX6_has_42 rfl ?_
      refine j_iconst (v := 1) x dX6_has_44 (by decide) ?_
      refine j2_callVi x hb dX6_has_45 m_X6_of (cx_of (d := d) hb (m1 := j) (w1 := 1) (by omega) (by decide)) wmX6_68 jc_10 rfl rfl rfl (Nat.le_of_ble_eq_true rfl) (j_fit_rm (by omega) (by omega) (by omega)) rfl ?_
      refine j_iload_n x dX6_has_48 rfl ?_
      refine j_icmp_eq (tgt := 55) x dX6_has_49 (by decide) (fun hB => ?_) (fun hB => ?_)
      · refine j_iload x dX6_has_55 rfl ?_
        refine j_if_eq (tgt := 70) x dX6_has_57 (by decide) (fun hc => ?_) (fun hc => absurd (rfl) hc)
        refine j_aload_n x dX6_has_70 rfl ?_
        refine j_iload x dX6_has_71 rfl ?_
        refine j_iconst (v := 0) x dX6_has_73 (by decide) ?_
        refine j2_callVi x hb dX6_has_74 m_X6_of (cx_of (d := d) hb (m1 := j) (w1 := 0) (by omega) (by decide)) wmX6_68 jc_10 rfl rfl rfl (Nat.le_of_ble_eq_true rfl) (j_fit_rm (by omega) (by omega) (by omega)) rfl ?_
        refine j_istore x dX6_has_77 (by decide) rfl ?_
        refine j_iload_n x dX6_has_79 rfl ?_
        refine j_iload x dX6_has_80 rfl ?_
        refine j_ishr x dX6_has_82 ?_
        refine j_iconst (v := 1) x dX6_has_83 (by decide) ?_
        refine j_iand x dX6_has_84 ?_
        refine j_if_ne (tgt := 91) x dX6_has_85 (by decide) (fun hS => ?_) (fun hS => ?_)
        · refine j_aload_n x dX6_has_91 rfl ?_
          refine j_iload x dX6_has_92 rfl ?_
          refine j2_callVi x hb dX6_has_94 m_X6_isPlayed (cx_isPlayed (d := d) hb (m1 := j) (by omega)) wmX6_72 jc_10 rfl rfl rfl (Nat.le_of_ble_eq_true rfl) (j_fit_rm (by omega) (by omega) (by omega)) rfl ?_
          refine j_if_ne (tgt := 112) x dX6_has_97 (by decide) (fun hP2 => ?_) (fun hP2 => ?_)
          · refine j_aload_n x dX6_has_112 rfl ?_
            refine j_iload x dX6_has_113 rfl ?_
            refine j_iload x dX6_has_115 rfl ?_
            refine j_if_eq (tgt := 125) x dX6_has_117 (by decide) (fun hc => ?_) (fun hc => absurd (rfl) hc)
            refine j_bipush (v := 7) x dX6_has_125 (by decide) ?_
            refine j2_callVi x hb dX6_has_127 m_X6_of (cx_of (d := d) hb (m1 := j) (w1 := 7) (by omega) (by decide)) wmX6_68 jc_10 rfl rfl rfl (Nat.le_of_ble_eq_true rfl) (j_fit_rm (by omega) (by omega) (by omega)) rfl ?_
            refine j_istore x dX6_has_130 (by decide) rfl ?_
            refine j_aload_n x dX6_has_132 rfl ?_
            refine j_iload x dX6_has_133 rfl ?_
            refine j_iload x dX6_has_135 rfl ?_
            refine j_if_eq (tgt := 145) x dX6_has_137 (by decide) (fun hc => ?_) (fun hc => absurd (rfl) hc)
            refine j_bipush (v := 6) x dX6_has_145 (by decide) ?_
            refine j2_callVi x hb dX6_has_147 m_X6_of (cx_of (d := d) hb (m1 := j) (w1 := 6) (by omega) (by decide)) wmX6_68 jc_10 rfl rfl rfl (Nat.le_of_ble_eq_true rfl) (j_fit_rm (by omega) (by omega) (by omega)) rfl ?_
            refine j_istore x dX6_has_150 (by decide) rfl ?_
            refine j_iload_n x dX6_has_152 rfl ?_
            refine j_tableIn (tgt := 296) x dX6_has_153 (by decide) (by decide) rfl (by decide) ?_
            refine j_iload x dX6_has_296 rfl ?_
            refine j_if_ne (tgt := 311) x dX6_has_298 (by decide) (fun hc => absurd hc (fun q => q rfl)) (fun hc => ?_)
            refine j_iload x dX6_has_301 rfl ?_
            refine j_iload x dX6_has_303 rfl ?_
            refine j_iadd x dX6_has_305 ?_
            refine j_istore x dX6_has_306 (by decide) rfl ?_
            refine j_goto (tgt := 311) x dX6_has_308 (by decide) ?_
            refine j_iinc x dX6_has_311 rfl (by decide) rfl ?_
            refine j_goto (tgt := 6) x dX6_has_314 (by decide) ?_
            exact j_goal (ih (trivial)) (wk_c rfl (wk_c rfl (wk_c rfl (wk_c rfl (wk_c (congrArg (fun z => some (Value.int z)) (jsum_v (by simp [fHas, hA, hB, hS, jb_nz.mp hP2]))) (wk_c (congrArg (fun z => some (Value.int z)) (nI_1 _)) (wk_n (wk_n (wk_n (wk_n (wk_0))))))))))) (rfl)
          · refine j_iload_n x dX6_has_100 rfl ?_
            refine j_bipush (v := 8) x dX6_has_101 (by decide) ?_
            refine j_icmp_ne (tgt := 311) x dX6_has_103 (by decide) (fun hc => ?_) (fun hc => absurd hc (by decide))
            refine j_iinc x dX6_has_311 rfl (by decide) rfl ?_
            refine j_goto (tgt := 6) x dX6_has_314 (by decide) ?_
            exact j_goal (ih (trivial)) (wk_c rfl (wk_c rfl (wk_c rfl (wk_c rfl (wk_c (congrArg (fun z => some (Value.int z)) (jsum_f (by simp [fHas, hA, hB, hS, jb_0.mp hP2]))) (wk_c (congrArg (fun z => some (Value.int z)) (nI_1 _)) (wk_n (wk_n (wk_n (wk_n (wk_0))))))))))) (rfl)
        · refine j_goto (tgt := 311) x dX6_has_88 (by decide) ?_
          refine j_iinc x dX6_has_311 rfl (by decide) rfl ?_
          refine j_goto (tgt := 6) x dX6_has_314 (by decide) ?_
          exact j_goal (ih (trivial)) (wk_c rfl (wk_c rfl (wk_c rfl (wk_c rfl (wk_c (congrArg (fun z => some (Value.int z)) (jsum_f (by simp [fHas, hA, hB, hS]))) (wk_c (congrArg (fun z => some (Value.int z)) (nI_1 _)) (wk_n (wk_n (wk_n (wk_n (wk_0))))))))))) (rfl)
      · refine j_goto (tgt := 311) x dX6_has_52 (by decide) ?_
        refine j_iinc x dX6_has_311 rfl (by decide) rfl ?_
        refine j_goto (tgt := 6) x dX6_has_314 (by decide) ?_
        exact j_goal (ih (trivial)) (wk_c rfl (wk_c rfl (wk_c rfl (wk_c rfl (wk_c (congrArg (fun z => some (Value.int z)) (jsum_f (by simp [fHas, hA, hB]))) (wk_c (congrArg (fun z => some (Value.int z)) (nI_1 _)) (wk_n (wk_n (wk_n (wk_n (wk_0))))))))))) (rfl)
    · refine j_iconst (v := 1) x dX6_has_29 (by decide) ?_
      refine j_goto (tgt := 34) x dX6_has_30 (by decide) ?_
      refine j_istore x dX6_has_34 (by decide) rfl ?_
      refine j_iload x dX6_has_36 rfl ?_
      refine j_if_ne (tgt := 55) x dX6_has_38 (by decide) (fun hc => ?_) (fun hc => absurd hc (by decide))
      refine j_iload x dX6_has_55 rfl ?_
      refine j_if_eq (tgt := 70) x dX6_has_57 (by decide) (fun hc => absurd hc (by decide)) (fun hc => ?_)
      refine j_aload_n x dX6_has_60 rfl ?_
      refine j_iload x dX6_has_61 rfl ?_
      refine j_iconst (v := 1) x dX6_has_63 (by decide) ?_
      refine j2_callVi x hb dX6_has_64 m_X6_of (cx_of (d := d) hb (m1 := j) (w1 := 1) (by omega) (by decide)) wmX6_68 jc_10 rfl rfl rfl (Nat.le_of_ble_eq_true rfl) (j_fit_rm (by omega) (by omega) (by omega)) rfl ?_
      refine j_goto (tgt := 77) x dX6_has_67 (by decide) ?_
      refine j_istore x dX6_has_77 (by decide) rfl ?_
      refine j_iload_n x dX6_has_79 rfl ?_
      refine j_iload x dX6_has_80 rfl ?_
      refine j_ishr x dX6_has_82 ?_
      refine j_iconst (v := 1) x dX6_has_83 (by decide) ?_
      refine j_iand x dX6_has_84 ?_
      refine j_if_ne (tgt := 91) x dX6_has_85 (by decide) (fun hS => ?_) (fun hS => ?_)
      · refine j_aload_n x dX6_has_91 rfl ?_
        refine j_iload x dX6_has_92 rfl ?_
        refine j2_callVi x hb dX6_has_94 m_X6_isPlayed (cx_isPlayed (d := d) hb (m1 := j) (by omega)) wmX6_72 jc_10 rfl rfl rfl (Nat.le_of_ble_eq_true rfl) (j_fit_rm (by omega) (by omega) (by omega)) rfl ?_
        refine j_if_ne (tgt := 112) x dX6_has_97 (by decide) (fun hP2 => ?_) (fun hP2 => ?_)
        · refine j_aload_n x dX6_has_112 rfl ?_
          refine j_iload x dX6_has_113 rfl ?_
          refine j_iload x dX6_has_115 rfl ?_
          refine j_if_eq (tgt := 125) x dX6_has_117 (by decide) (fun hc => absurd hc (by decide)) (fun hc => ?_)
          refine j_bipush (v := 6) x dX6_has_120 (by decide) ?_
          refine j_goto (tgt := 127) x dX6_has_122 (by decide) ?_
          refine j2_callVi x hb dX6_has_127 m_X6_of (cx_of (d := d) hb (m1 := j) (w1 := 6) (by omega) (by decide)) wmX6_68 jc_10 rfl rfl rfl (Nat.le_of_ble_eq_true rfl) (j_fit_rm (by omega) (by omega) (by omega)) rfl ?_
          refine j_istore x dX6_has_130 (by decide) rfl ?_
          refine j_aload_n x dX6_has_132 rfl ?_
          refine j_iload x dX6_has_133 rfl ?_
          refine j_iload x dX6_has_135 rfl ?_
          refine j_if_eq (tgt := 145) x dX6_has_137 (by decide) (fun hc => absurd hc (by decide)) (fun hc => ?_)
          refine j_bipush (v := 7) x dX6_has_140 (by decide) ?_
          refine j_goto (tgt := 147) x dX6_has_142 (by decide) ?_
          refine j2_callVi x hb dX6_has_147 m_X6_of (cx_of (d := d) hb (m1 := j) (w1 := 7) (by omega) (by decide)) wmX6_68 jc_10 rfl rfl rfl (Nat.le_of_ble_eq_true rfl) (j_fit_rm (by omega) (by omega) (by omega)) rfl ?_
          refine j_istore x dX6_has_150 (by decide) rfl ?_
          refine j_iload_n x dX6_has_152 rfl ?_
          refine j_tableIn (tgt := 296) x dX6_has_153 (by decide) (by decide) rfl (by decide) ?_
          refine j_iload x dX6_has_296 rfl ?_
          refine j_if_ne (tgt := 311) x dX6_has_298 (by decide) (fun hc => ?_) (fun hc => absurd hc (by decide))
          refine j_iinc x dX6_has_311 rfl (by decide) rfl ?_
          refine j_goto (tgt := 6) x dX6_has_314 (by decide) ?_
          exact j_goal (ih (trivial)) (wk_c rfl (wk_c rfl (wk_c rfl (wk_c rfl (wk_c (congrArg (fun z => some (Value.int z)) (jsum_f (by simp [fHas, hA, hS, jb_nz.mp hP2]))) (wk_c (congrArg (fun z => some (Value.int z)) (nI_1 _)) (wk_n (wk_n (wk_n (wk_n (wk_0))))))))))) (rfl)
        · refine j_iload_n x dX6_has_100 rfl ?_
          refine j_bipush (v := 8) x dX6_has_101 (by decide) ?_
          refine j_icmp_ne (tgt := 311) x dX6_has_103 (by decide) (fun hc => ?_) (fun hc => absurd hc (by decide))
          refine j_iinc x dX6_has_311 rfl (by decide) rfl ?_
          refine j_goto (tgt := 6) x dX6_has_314 (by decide) ?_
          exact j_goal (ih (trivial)) (wk_c rfl (wk_c rfl (wk_c rfl (wk_c rfl (wk_c (congrArg (fun z => some (Value.int z)) (jsum_f (by simp [fHas, hA, hS, jb_0.mp hP2]))) (wk_c (congrArg (fun z => some (Value.int z)) (nI_1 _)) (wk_n (wk_n (wk_n (wk_n (wk_0))))))))))) (rfl)
      · refine j_goto (tgt := 311) x dX6_has_88 (by decide) ?_
        refine j_iinc x dX6_has_311 rfl (by decide) rfl ?_
        refine j_goto (tgt := 6) x dX6_has_314 (by decide) ?_
        exact j_goal (ih (trivial)) (wk_c rfl (wk_c rfl (wk_c rfl (wk_c rfl (wk_c (congrArg (fun z => some (Value.int z)) (jsum_f (by simp [fHas, hA, hS]))) (wk_c (congrArg (fun z => some (Value.int z)) (nI_1 _)) (wk_n (wk_n (wk_n (wk_n (wk_0))))))))))) (rfl)
  refine j_iload x dX6_has_6 rfl ?_
  refine j_aload_n x dX6_has_8 rfl ?_
  refine j2_getr (k := 0) (r := 95) x hb dX6_has_9 jc_10 wfX6_9 (by decide) rfl ?_
  refine j_bipush (v := 9) x dX6_has_12 (by decide) ?_
  refine j2_ialn x hb dX6_has_14 fa_95 (j := 9) (vp_c (by decide)) (by decide) ?_; rw [hct]
  refine j_icmp_ge (tgt := 317) x dX6_has_15 (by decide) (fun hc => ?_) (fun hc => absurd (nI_le (Nat.le_refl _) (by omega)) hc)
  refine j_iload x dX6_has_317 rfl ?_
  exact j_ireturn x hr dX6_has_319 (by omega) (by omega) ⟨rfl, rfl⟩
theorem cx_has2_7 {d : Nat} {b : SBt} {Y : OUt} {M : MM} (hb : 104 ≤ b.2.1) {t : Int32} {n : Nat} (hn : n ≤ 56) (hct : M 95 9 = nI n) : CM (d + 3) 0 0 yX6_has_ cX6_has_ 3 (some .int) [.ref 94, .int t, .int 7] b Y M (.inl (some (.int (jsum (fHas M t 7 (-1)) n)))) (M) := by
  refine Con.of (by decide +kernel) (Nat.le_of_ble_eq_true rfl) rfl fun p l e s m args below meth c D tyc A ad0 x hr htab hname => ?_
  change JJ _ _ _ _ _ _ _ _ _ _ _ _ _ _ _ _ _ 0 [some (.ref 94), some (.int t), some (.int 7)] [] _ 0 0
  refine j_aload_n x dX6_has__0 rfl ?_
  refine j_iload_n x dX6_has__1 rfl ?_
  refine j_iload_n x dX6_has__2 rfl ?_
  refine j_iconst (v := (-1)) x dX6_has__3 (by decide) ?_
  refine j2_callVi x hb dX6_has__4 m_X6_has (cx_has_7 (d := d) hb hn hct) wmX6_152 jc_10 rfl rfl rfl (Nat.le_of_ble_eq_true rfl) (j_fit_rm (by omega) (by omega) (by omega)) rfl ?_
  exact j_ireturn x hr dX6_has__7 (by omega) (by omega) ⟨rfl, rfl⟩
theorem cx_has_8 {d : Nat} {b : SBt} {Y : OUt} {M : MM} (hb : 104 ≤ b.2.1) {t w : Int32} {n : Nat} (hn : n ≤ 56) (hct : M 95 9 = nI n) : CM (d + 2) 0 0 yX6_has cX6_has 10 (some .int) [.ref 94, .int t, .int 8, .int w] b Y M (.inl (some (.int (jsum (fHas M t 8 w) n)))) (M) := by
  refine Con.of (by decide +kernel) (Nat.le_of_ble_eq_true rfl) rfl fun p l e s m args below meth c D tyc A ad0 x hr htab hname => ?_
  change JJ _ _ _ _ _ _ _ _ _ _ _ _ _ _ _ _ _ 0 [some (.ref 94), some (.int t), some (.int 8), some (.int w), none, none, none, none, none, none] [] _ 0 0
  refine j_iconst (v := 0) x dX6_has_0 (by decide) ?_
  refine j_istore x dX6_has_1 (by decide) rfl ?_
  refine j_iconst (v := 0) x dX6_has_3 (by decide) ?_
  refine j_istore x dX6_has_4 (by decide) rfl ?_
  refine j_for (n) (fun j => [some (.ref 94), some (.int t), some (.int 8), some (.int w), some (.int (jsum (fHas M t 8 w) j)), some (.int (nI j)), none, none, none, none]) (fun j => M) (fun j => True) (rfl) (rfl) (trivial) (fun j hj hP ih => ?_) (fun hP => ?_)
  · refine j_iload x dX6_has_6 rfl ?_
    refine j_aload_n x dX6_has_8 rfl ?_
    refine j2_getr (k := 0) (r := 95) x hb dX6_has_9 jc_10 wfX6_9 (by decide) rfl ?_
    refine j_bipush (v := 9) x dX6_has_12 (by decide) ?_
    refine j2_ialn x hb dX6_has_14 fa_95 (j := 9) (vp_c (by decide)) (by decide) ?_; rw [hct]
    refine j_icmp_ge (tgt := 317) x dX6_has_15 (by decide) (fun hc => absurd hc (nI_ge hj (by omega))) (fun hc => ?_)
    refine j_aload_n x dX6_has_18 rfl ?_
    refine j_iload x dX6_has_19 rfl ?_
    refine j_iconst (v := 0) x dX6_has_21 (by decide) ?_
    refine j2_callVi x hb dX6_has_22 m_X6_of (cx_of (d := d) hb (m1 := j) (w1 := 0) (by omega) (by decide)) wmX6_68 jc_10 rfl rfl rfl (Nat.le_of_ble_eq_true rfl) (j_fit_rm (by omega) (by omega) (by omega)) rfl ?_
    refine j_iload_n x dX6_has_25 rfl ?_
    refine j_icmp_ne (tgt := 33) x dX6_has_26 (by decide) (fun hA => ?_) (fun hA => ?_)
    · refine j_iconst (v := 0) x dX6_has_33 (by decide) ?_
      refine j_istore x dX6_has_34 (by decide) rfl ?_
      refine j_iload x dX6_has_36 rfl ?_
      refine j_if_ne (tgt := 55) x dX6_has_38 (by decide) (fun hc => absurd hc (fun q => q rfl)) (fun hc => ?_)
      refine j_aload_n x dX6_has_41 rfl ?_
      refine j_iload x dX6_has_42 rfl ?_
      refine j_iconst (v := 1) x dX6_has_44 (by decide) ?_
      refine j2_callVi x hb dX6_has_45 m_X6_of (cx_of (d := d) hb (m1 := j) (w1 := 1) (by omega) (by decide)) wmX6_68 jc_10 rfl rfl rfl (Nat.le_of_ble_eq_true rfl) (j_fit_rm (by omega) (by omega) (by omega)) rfl ?_
      refine j_iload_n x dX6_has_48 rfl ?_
      refine j_icmp_eq (tgt := 55) x dX6_has_49 (by decide) (fun hB => ?_) (fun hB => ?_)
      · refine j_iload x dX6_has_55 rfl ?_
        refine j_if_eq (tgt := 70) x dX6_has_57 (by decide) (fun hc => ?_) (fun hc => absurd (rfl) hc)
        refine j_aload_n x dX6_has_70 rfl ?_
        refine j_iload x dX6_has_71 rfl ?_
        refine j_iconst (v := 0) x dX6_has_73 (by decide) ?_
        refine j2_callVi x hb dX6_has_74 m_X6_of (cx_of (d := d) hb (m1 := j) (w1 := 0) (by omega) (by decide)) wmX6_68 jc_10 rfl rfl rfl (Nat.le_of_ble_eq_true rfl) (j_fit_rm (by omega) (by omega) (by omega)) rfl ?_
        refine j_istore x dX6_has_77 (by decide) rfl ?_
        refine j_iload_n x dX6_has_79 rfl ?_
        refine j_iload x dX6_has_80 rfl ?_
        refine j_ishr x dX6_has_82 ?_
        refine j_iconst (v := 1) x dX6_has_83 (by decide) ?_
        refine j_iand x dX6_has_84 ?_
        refine j_if_ne (tgt := 91) x dX6_has_85 (by decide) (fun hS => ?_) (fun hS => ?_)
        · refine j_aload_n x dX6_has_91 rfl ?_
          refine j_iload x dX6_has_92 rfl ?_
          refine j2_callVi x hb dX6_has_94 m_X6_isPlayed (cx_isPlayed (d := d) hb (m1 := j) (by omega)) wmX6_72 jc_10 rfl rfl rfl (Nat.le_of_ble_eq_true rfl) (j_fit_rm (by omega) (by omega) (by omega)) rfl ?_
          refine j_if_ne (tgt := 112) x dX6_has_97 (by decide) (fun hP2 => ?_) (fun hP2 => ?_)
          · refine j_aload_n x dX6_has_112 rfl ?_
            refine j_iload x dX6_has_113 rfl ?_
            refine j_iload x dX6_has_115 rfl ?_
            refine j_if_eq (tgt := 125) x dX6_has_117 (by decide) (fun hc => ?_) (fun hc => absurd (rfl) hc)
            refine j_bipush (v := 7) x dX6_has_125 (by decide) ?_
            refine j2_callVi x hb dX6_has_127 m_X6_of (cx_of (d := d) hb (m1 := j) (w1 := 7) (by omega) (by decide)) wmX6_68 jc_10 rfl rfl rfl (Nat.le_of_ble_eq_true rfl) (j_fit_rm (by omega) (by omega) (by omega)) rfl ?_
            refine j_istore x dX6_has_130 (by decide) rfl ?_
            refine j_aload_n x dX6_has_132 rfl ?_
            refine j_iload x dX6_has_133 rfl ?_
            refine j_iload x dX6_has_135 rfl ?_
            refine j_if_eq (tgt := 145) x dX6_has_137 (by decide) (fun hc => ?_) (fun hc => absurd (rfl) hc)
            refine j_bipush (v := 6) x dX6_has_145 (by decide) ?_
            refine j2_callVi x hb dX6_has_147 m_X6_of (cx_of (d := d) hb (m1 := j) (w1 := 6) (by omega) (by decide)) wmX6_68 jc_10 rfl rfl rfl (Nat.le_of_ble_eq_true rfl) (j_fit_rm (by omega) (by omega) (by omega)) rfl ?_
            refine j_istore x dX6_has_150 (by decide) rfl ?_
            refine j_iload_n x dX6_has_152 rfl ?_
            refine j_tableOut (tgt := 311) x dX6_has_153 (by decide) (by decide) ?_
            refine j_iinc x dX6_has_311 rfl (by decide) rfl ?_
            refine j_goto (tgt := 6) x dX6_has_314 (by decide) ?_
            exact j_goal (ih (trivial)) (wk_c rfl (wk_c rfl (wk_c rfl (wk_c rfl (wk_c (congrArg (fun z => some (Value.int z)) (jsum_f (by simp [fHas, hA, hB, hS, jb_nz.mp hP2]))) (wk_c (congrArg (fun z => some (Value.int z)) (nI_1 _)) (wk_n (wk_n (wk_n (wk_n (wk_0))))))))))) (rfl)
          · refine j_iload_n x dX6_has_100 rfl ?_
            refine j_bipush (v := 8) x dX6_has_101 (by decide) ?_
            refine j_icmp_ne (tgt := 311) x dX6_has_103 (by decide) (fun hc => absurd hc (fun q => q rfl)) (fun hc => ?_)
            refine j_iinc x dX6_has_106 rfl (by decide) rfl ?_
            refine j_goto (tgt := 311) x dX6_has_109 (by decide) ?_
            refine j_iinc x dX6_has_311 rfl (by decide) rfl ?_
            refine j_goto (tgt := 6) x dX6_has_314 (by decide) ?_
            exact j_goal (ih (trivial)) (wk_c rfl (wk_c rfl (wk_c rfl (wk_c rfl (wk_c (congrArg (fun z => some (Value.int z)) (jsum_v (by simp [fHas, hA, hB, hS, jb_0.mp hP2]))) (wk_c (congrArg (fun z => some (Value.int z)) (nI_1 _)) (wk_n (wk_n (wk_n (wk_n (wk_0))))))))))) (rfl)
        · refine j_goto (tgt := 311) x dX6_has_88 (by decide) ?_
          refine j_iinc x dX6_has_311 rfl (by decide) rfl ?_
          refine j_goto (tgt := 6) x dX6_has_314 (by decide) ?_
          exact j_goal (ih (trivial)) (wk_c rfl (wk_c rfl (wk_c rfl (wk_c rfl (wk_c (congrArg (fun z => some (Value.int z)) (jsum_f (by simp [fHas, hA, hB, hS]))) (wk_c (congrArg (fun z => some (Value.int z)) (nI_1 _)) (wk_n (wk_n (wk_n (wk_n (wk_0))))))))))) (rfl)
      · refine j_goto (tgt := 311) x dX6_has_52 (by decide) ?_
        refine j_iinc x dX6_has_311 rfl (by decide) rfl ?_
        refine j_goto (tgt := 6) x dX6_has_314 (by decide) ?_
        exact j_goal (ih (trivial)) (wk_c rfl (wk_c rfl (wk_c rfl (wk_c rfl (wk_c (congrArg (fun z => some (Value.int z)) (jsum_f (by simp [fHas, hA, hB]))) (wk_c (congrArg (fun z => some (Value.int z)) (nI_1 _)) (wk_n (wk_n (wk_n (wk_n (wk_0))))))))))) (rfl)
    · refine j_iconst (v := 1) x dX6_has_29 (by decide) ?_
      refine j_goto (tgt := 34) x dX6_has_30 (by decide) ?_
      refine j_istore x dX6_has_34 (by decide) rfl ?_
      refine j_iload x dX6_has_36 rfl ?_
      refine j_if_ne (tgt := 55) x dX6_has_38 (by decide) (fun hc => ?_) (fun hc => absurd hc (by decide))
      refine j_iload x dX6_has_55 rfl ?_
      refine j_if_eq (tgt := 70) x dX6_has_57 (by decide) (fun hc => absurd hc (by decide)) (fun hc => ?_)
      refine j_aload_n x dX6_has_60 rfl ?_
      refine j_iload x dX6_has_61 rfl ?_
      refine j_iconst (v := 1) x dX6_has_63 (by decide) ?_
      refine j2_callVi x hb dX6_has_64 m_X6_of (cx_of (d := d) hb (m1 := j) (w1 := 1) (by omega) (by decide)) wmX6_68 jc_10 rfl rfl rfl (Nat.le_of_ble_eq_true rfl) (j_fit_rm (by omega) (by omega) (by omega)) rfl ?_
      refine j_goto (tgt := 77) x dX6_has_67 (by decide) ?_
      refine j_istore x dX6_has_77 (by decide) rfl ?_
      refine j_iload_n x dX6_has_79 rfl ?_
      refine j_iload x dX6_has_80 rfl ?_
      refine j_ishr x dX6_has_82 ?_
      refine j_iconst (v := 1) x dX6_has_83 (by decide) ?_
      refine j_iand x dX6_has_84 ?_
      refine j_if_ne (tgt := 91) x dX6_has_85 (by decide) (fun hS => ?_) (fun hS => ?_)
      · refine j_aload_n x dX6_has_91 rfl ?_
        refine j_iload x dX6_has_92 rfl ?_
        refine j2_callVi x hb dX6_has_94 m_X6_isPlayed (cx_isPlayed (d := d) hb (m1 := j) (by omega)) wmX6_72 jc_10 rfl rfl rfl (Nat.le_of_ble_eq_true rfl) (j_fit_rm (by omega) (by omega) (by omega)) rfl ?_
        refine j_if_ne (tgt := 112) x dX6_has_97 (by decide) (fun hP2 => ?_) (fun hP2 => ?_)
        · refine j_aload_n x dX6_has_112 rfl ?_
          refine j_iload x dX6_has_113 rfl ?_
          refine j_iload x dX6_has_115 rfl ?_
          refine j_if_eq (tgt := 125) x dX6_has_117 (by decide) (fun hc => absurd hc (by decide)) (fun hc => ?_)
          refine j_bipush (v := 6) x dX6_has_120 (by decide) ?_
          refine j_goto (tgt := 127) x dX6_has_122 (by decide) ?_
          refine j2_callVi x hb dX6_has_127 m_X6_of (cx_of (d := d) hb (m1 := j) (w1 := 6) (by omega) (by decide)) wmX6_68 jc_10 rfl rfl rfl (Nat.le_of_ble_eq_true rfl) (j_fit_rm (by omega) (by omega) (by omega)) rfl ?_
          refine j_istore x dX6_has_130 (by decide) rfl ?_
          refine j_aload_n x dX6_has_132 rfl ?_
          refine j_iload x dX6_has_133 rfl ?_
          refine j_iload x dX6_has_135 rfl ?_
          refine j_if_eq (tgt := 145) x dX6_has_137 (by decide) (fun hc => absurd hc (by decide)) (fun hc => ?_)
          refine j_bipush (v := 7) x dX6_has_140 (by decide) ?_
          refine j_goto (tgt := 147) x dX6_has_142 (by decide) ?_
          refine j2_callVi x hb dX6_has_147 m_X6_of (cx_of (d := d) hb (m1 := j) (w1 := 7) (by omega) (by decide)) wmX6_68 jc_10 rfl rfl rfl (Nat.le_of_ble_eq_true rfl) (j_fit_rm (by omega) (by omega) (by omega)) rfl ?_
          refine j_istore x dX6_has_150 (by decide) rfl ?_
          refine j_iload_n x dX6_has_152 rfl ?_
          refine j_tableOut (tgt := 311) x dX6_has_153 (by decide) (by decide) ?_
          refine j_iinc x dX6_has_311 rfl (by decide) rfl ?_
          refine j_goto (tgt := 6) x dX6_has_314 (by decide) ?_
          exact j_goal (ih (trivial)) (wk_c rfl (wk_c rfl (wk_c rfl (wk_c rfl (wk_c (congrArg (fun z => some (Value.int z)) (jsum_f (by simp [fHas, hA, hS, jb_nz.mp hP2]))) (wk_c (congrArg (fun z => some (Value.int z)) (nI_1 _)) (wk_n (wk_n (wk_n (wk_n (wk_0))))))))))) (rfl)
        · refine j_iload_n x dX6_has_100 rfl ?_
          refine j_bipush (v := 8) x dX6_has_101 (by decide) ?_
          refine j_icmp_ne (tgt := 311) x dX6_has_103 (by decide) (fun hc => absurd hc (fun q => q rfl)) (fun hc => ?_)
          refine j_iinc x dX6_has_106 rfl (by decide) rfl ?_
          refine j_goto (tgt := 311) x dX6_has_109 (by decide) ?_
          refine j_iinc x dX6_has_311 rfl (by decide) rfl ?_
          refine j_goto (tgt := 6) x dX6_has_314 (by decide) ?_
          exact j_goal (ih (trivial)) (wk_c rfl (wk_c rfl (wk_c rfl (wk_c rfl (wk_c (congrArg (fun z => some (Value.int z)) (jsum_v (by simp [fHas, hA, hS, jb_0.mp hP2]))) (wk_c (congrArg (fun z => some (Value.int z)) (nI_1 _)) (wk_n (wk_n (wk_n (wk_n (wk_0))))))))))) (rfl)
      · refine j_goto (tgt := 311) x dX6_has_88 (by decide) ?_
        refine j_iinc x dX6_has_311 rfl (by decide) rfl ?_
        refine j_goto (tgt := 6) x dX6_has_314 (by decide) ?_
        exact j_goal (ih (trivial)) (wk_c rfl (wk_c rfl (wk_c rfl (wk_c rfl (wk_c (congrArg (fun z => some (Value.int z)) (jsum_f (by simp [fHas, hA, hS]))) (wk_c (congrArg (fun z => some (Value.int z)) (nI_1 _)) (wk_n (wk_n (wk_n (wk_n (wk_0))))))))))) (rfl)
  refine j_iload x dX6_has_6 rfl ?_
  refine j_aload_n x dX6_has_8 rfl ?_
  refine j2_getr (k := 0) (r := 95) x hb dX6_has_9 jc_10 wfX6_9 (by decide) rfl ?_
  refine j_bipush (v := 9) x dX6_has_12 (by decide) ?_
  refine j2_ialn x hb dX6_has_14 fa_95 (j := 9) (vp_c (by decide)) (by decide) ?_; rw [hct]
  refine j_icmp_ge (tgt := 317) x dX6_has_15 (by decide) (fun hc => ?_) (fun hc => absurd (nI_le (Nat.le_refl _) (by omega)) hc)
  refine j_iload x dX6_has_317 rfl ?_
  exact j_ireturn x hr dX6_has_319 (by omega) (by omega) ⟨rfl, rfl⟩
theorem cx_has2_8 {d : Nat} {b : SBt} {Y : OUt} {M : MM} (hb : 104 ≤ b.2.1) {t : Int32} {n : Nat} (hn : n ≤ 56) (hct : M 95 9 = nI n) : CM (d + 3) 0 0 yX6_has_ cX6_has_ 3 (some .int) [.ref 94, .int t, .int 8] b Y M (.inl (some (.int (jsum (fHas M t 8 (-1)) n)))) (M) := by
  refine Con.of (by decide +kernel) (Nat.le_of_ble_eq_true rfl) rfl fun p l e s m args below meth c D tyc A ad0 x hr htab hname => ?_
  change JJ _ _ _ _ _ _ _ _ _ _ _ _ _ _ _ _ _ 0 [some (.ref 94), some (.int t), some (.int 8)] [] _ 0 0
  refine j_aload_n x dX6_has__0 rfl ?_
  refine j_iload_n x dX6_has__1 rfl ?_
  refine j_iload_n x dX6_has__2 rfl ?_
  refine j_iconst (v := (-1)) x dX6_has__3 (by decide) ?_
  refine j2_callVi x hb dX6_has__4 m_X6_has (cx_has_8 (d := d) hb hn hct) wmX6_152 jc_10 rfl rfl rfl (Nat.le_of_ble_eq_true rfl) (j_fit_rm (by omega) (by omega) (by omega)) rfl ?_
  exact j_ireturn x hr dX6_has__7 (by omega) (by omega) ⟨rfl, rfl⟩
end

section
/-! ===== the reference: the table ===== -/
def gH (M : MM) (n : Nat) (t : Int32) (k : Nat) : Int32 := jsum (fHas M t k (-1)) n
def gTied (M : MM) (n : Nat) (t : Int32) : Nat → Int32
  | 0 => 0
  | i + 1 => if gH M n (nI i) 1 = gH M n t 1 then gTied M n t i ||| (1 <<< (nI i &&& 31)) else gTied M n t i
def gRule (M : MM) (n w : Nat) (t r : Int32) : Int32 := if r = 0 then gH M n t 5 - gH M n t 6 else if r = 1 then gH M n t 5 else if r = 2 then gH M n t 2 else if r = 3 then jsum (fHas M t 1 (gTied M n t w)) n else gH M n t 7
def gLead (M : MM) (n w : Nat) (u v : Int32) : Nat → Int32
  | 0 => gH M n u 1 - gH M n v 1
  | i + 1 => if gLead M n w u v i = 0 then gRule M n w u (M 95 (6 + i)) - gRule M n w v (M 95 (6 + i)) else gLead M n w u v i
theorem gLead_keep {M : MM} {n w : Nat} {u v : Int32} {i : Nat} (h : ¬ gLead M n w u v i = 0) : ∀ {r : Nat}, i ≤ r → gLead M n w u v r = gLead M n w u v i
  | 0, h1 => by rw [show i = 0 by omega]
  | r + 1, h1 => by
    by_cases hr : i = r + 1
    · rw [hr]
    · have h2 := gLead_keep h (r := r) (by omega)
      rw [gLead, h2, if_neg h]
def gAh (M : MM) (n w r : Nat) (u v : Int32) : Int32 := if gLead M n w u v r = 0 then jb (¬ v ≤ u) else jb (¬ gLead M n w u v r ≤ 0)
theorem cx_tiedWith {d : Nat} {b : SBt} {Y : OUt} {M : MM} (hb : 104 ≤ b.2.1) {t : Int32} {n : Nat} (hn : n ≤ 56) (hct : M 95 9 = nI n) {w : Nat} (hw : w ≤ 8) (h0 : M 95 0 = nI w) : CM (d + 4) 0 0 yX6_tiedWith cX6_tiedWith 4 (some .int) [.ref 94, .int t] b Y M (.inl (some (.int (gTied M n t w)))) (M) := by
  refine Con.of (by decide +kernel) (Nat.le_of_ble_eq_true rfl) rfl fun p l e s m args below meth c D tyc A ad0 x hr htab hname => ?_
  change JJ _ _ _ _ _ _ _ _ _ _ _ _ _ _ _ _ _ 0 [some (.ref 94), some (.int t), none, none] [] _ 0 0
  refine j_iconst (v := 0) x dX6_tiedWith_0 (by decide) ?_
  refine j_istore_n x dX6_tiedWith_1 (by decide) rfl ?_
  refine j_iconst (v := 0) x dX6_tiedWith_2 (by decide) ?_
  refine j_istore_n x dX6_tiedWith_3 (by decide) rfl ?_
  refine j_for (w) (fun j => [some (.ref 94), some (.int t), some (.int (gTied M n t j)), some (.int (nI j))]) (fun j => M) (fun j => True) (rfl) (rfl) (trivial) (fun j hj hP ih => ?_) (fun hP => ?_)
  · refine j_iload_n x dX6_tiedWith_4 rfl ?_
    refine j_aload_n x dX6_tiedWith_5 rfl ?_
    refine j2_getr (k := 0) (r := 95) x hb dX6_tiedWith_6 jc_10 wfX6_9 (by decide) rfl ?_
    refine j_iconst (v := 0) x dX6_tiedWith_9 (by decide) ?_
    refine j2_ialn x hb dX6_tiedWith_10 fa_95 (j := 0) (vp_c (by decide)) (by decide) ?_; rw [h0]
    refine j_icmp_ge (tgt := 41) x dX6_tiedWith_11 (by decide) (fun hc => absurd hc (nI_ge hj (by omega))) (fun hc => ?_)
    refine j_aload_n x dX6_tiedWith_14 rfl ?_
    refine j_iload_n x dX6_tiedWith_15 rfl ?_
    refine j_iconst (v := 1) x dX6_tiedWith_16 (by decide) ?_
    refine j2_callVi x hb dX6_tiedWith_17 m_X6_has_ (cx_has2_1 (d := d) hb hn hct) wmX6_156 jc_10 rfl rfl rfl (Nat.le_of_ble_eq_true rfl) (j_fit_rm (by omega) (by omega) (by omega)) rfl ?_
    refine j_aload_n x dX6_tiedWith_20 rfl ?_
    refine j_iload_n x dX6_tiedWith_21 rfl ?_
    refine j_iconst (v := 1) x dX6_tiedWith_22 (by decide) ?_
    refine j2_callVi x hb dX6_tiedWith_23 m_X6_has_ (cx_has2_1 (d := d) hb hn hct) wmX6_156 jc_10 rfl rfl rfl (Nat.le_of_ble_eq_true rfl) (j_fit_rm (by omega) (by omega) (by omega)) rfl ?_
    refine j_icmp_ne (tgt := 35) x dX6_tiedWith_26 (by decide) (fun h1 => ?_) (fun h1 => ?_)
    · refine j_iinc x dX6_tiedWith_35 rfl (by decide) rfl ?_
      refine j_goto (tgt := 4) x dX6_tiedWith_38 (by decide) ?_
      exact j_goal (ih (trivial)) (wk_c rfl (wk_c rfl (wk_c (congrArg (fun z => some (Value.int z)) (show _ = gTied M n t (j + 1) by rw [gTied]; exact (if_neg h1).symm)) (wk_c (congrArg (fun z => some (Value.int z)) (nI_1 _)) (wk_0))))) (rfl)
    · refine j_iload_n x dX6_tiedWith_29 rfl ?_
      refine j_iconst (v := 1) x dX6_tiedWith_30 (by decide) ?_
      refine j_iload_n x dX6_tiedWith_31 rfl ?_
      refine j_ishl x dX6_tiedWith_32 ?_
      refine j_ior x dX6_tiedWith_33 ?_
      refine j_istore_n x dX6_tiedWith_34 (by decide) rfl ?_
      refine j_iinc x dX6_tiedWith_35 rfl (by decide) rfl ?_
      refine j_goto (tgt := 4) x dX6_tiedWith_38 (by decide) ?_
      exact j_goal (ih (trivial)) (wk_c rfl (wk_c rfl (wk_c (congrArg (fun z => some (Value.int z)) (show _ = gTied M n t (j + 1) by rw [gTied]; exact (if_pos h1).symm)) (wk_c (congrArg (fun z => some (Value.int z)) (nI_1 _)) (wk_0))))) (rfl)
  refine j_iload_n x dX6_tiedWith_4 rfl ?_
  refine j_aload_n x dX6_tiedWith_5 rfl ?_
  refine j2_getr (k := 0) (r := 95) x hb dX6_tiedWith_6 jc_10 wfX6_9 (by decide) rfl ?_
  refine j_iconst (v := 0) x dX6_tiedWith_9 (by decide) ?_
  refine j2_ialn x hb dX6_tiedWith_10 fa_95 (j := 0) (vp_c (by decide)) (by decide) ?_; rw [h0]
  refine j_icmp_ge (tgt := 41) x dX6_tiedWith_11 (by decide) (fun hc => ?_) (fun hc => absurd (nI_le (Nat.le_refl _) (by omega)) hc)
  refine j_iload_n x dX6_tiedWith_41 rfl ?_
  exact j_ireturn x hr dX6_tiedWith_42 (by omega) (by omega) ⟨rfl, rfl⟩
theorem cx_byRule_0 {d : Nat} {b : SBt} {Y : OUt} {M : MM} (hb : 104 ≤ b.2.1) {t : Int32} {n : Nat} (hn : n ≤ 56) (hct : M 95 9 = nI n) {w : Nat} (hw : w ≤ 8) (h0 : M 95 0 = nI w) : CM (d + 5) 0 0 yX6_byRule cX6_byRule 3 (some .int) [.ref 94, .int t, .int 0] b Y M (.inl (some (.int (gRule M n w t 0)))) (M) := by
  refine Con.of (by decide +kernel) (Nat.le_of_ble_eq_true rfl) rfl fun p l e s m args below meth c D tyc A ad0 x hr htab hname => ?_
  change JJ _ _ _ _ _ _ _ _ _ _ _ _ _ _ _ _ _ 0 [some (.ref 94), some (.int t), some (.int 0)] [] _ 0 0
  refine j_iload_n x dX6_byRule_0 rfl ?_
  refine j_tableIn (tgt := 32) x dX6_byRule_1 (by decide) (by decide) rfl (by decide) ?_
  refine j_aload_n x dX6_byRule_32 rfl ?_
  refine j_iload_n x dX6_byRule_33 rfl ?_
  refine j_iconst (v := 5) x dX6_byRule_34 (by decide) ?_
  refine j2_callVi x hb dX6_byRule_35 m_X6_has_ (cx_has2_5 (d := d) hb hn hct) wmX6_156 jc_10 rfl rfl rfl (Nat.le_of_ble_eq_true rfl) (j_fit_rm (by omega) (by omega) (by omega)) rfl ?_
  refine j_aload_n x dX6_byRule_38 rfl ?_
  refine j_iload_n x dX6_byRule_39 rfl ?_
  refine j_bipush (v := 6) x dX6_byRule_40 (by decide) ?_
  refine j2_callVi x hb dX6_byRule_42 m_X6_has_ (cx_has2_6 (d := d) hb hn hct) wmX6_156 jc_10 rfl rfl rfl (Nat.le_of_ble_eq_true rfl) (j_fit_rm (by omega) (by omega) (by omega)) rfl ?_
  refine j_isub x dX6_byRule_45 ?_
  exact j_ireturn x hr dX6_byRule_46 (by omega) (by omega) ⟨rfl, rfl⟩
theorem cx_byRule_1 {d : Nat} {b : SBt} {Y : OUt} {M : MM} (hb : 104 ≤ b.2.1) {t : Int32} {n : Nat} (hn : n ≤ 56) (hct : M 95 9 = nI n) {w : Nat} (hw : w ≤ 8) (h0 : M 95 0 = nI w) : CM (d + 5) 0 0 yX6_byRule cX6_byRule 3 (some .int) [.ref 94, .int t, .int 1] b Y M (.inl (some (.int (gRule M n w t 1)))) (M) := by
  refine Con.of (by decide +kernel) (Nat.le_of_ble_eq_true rfl) rfl fun p l e s m args below meth c D tyc A ad0 x hr htab hname => ?_
  change JJ _ _ _ _ _ _ _ _ _ _ _ _ _ _ _ _ _ 0 [some (.ref 94), some (.int t), some (.int 1)] [] _ 0 0
  refine j_iload_n x dX6_byRule_0 rfl ?_
  refine j_tableIn (tgt := 47) x dX6_byRule_1 (by decide) (by decide) rfl (by decide) ?_
  refine j_aload_n x dX6_byRule_47 rfl ?_
  refine j_iload_n x dX6_byRule_48 rfl ?_
  refine j_iconst (v := 5) x dX6_byRule_49 (by decide) ?_
  refine j2_callVi x hb dX6_byRule_50 m_X6_has_ (cx_has2_5 (d := d) hb hn hct) wmX6_156 jc_10 rfl rfl rfl (Nat.le_of_ble_eq_true rfl) (j_fit_rm (by omega) (by omega) (by omega)) rfl ?_
  exact j_ireturn x hr dX6_byRule_53 (by omega) (by omega) ⟨rfl, rfl⟩
theorem cx_byRule_2 {d : Nat} {b : SBt} {Y : OUt} {M : MM} (hb : 104 ≤ b.2.1) {t : Int32} {n : Nat} (hn : n ≤ 56) (hct : M 95 9 = nI n) {w : Nat} (hw : w ≤ 8) (h0 : M 95 0 = nI w) : CM (d + 5) 0 0 yX6_byRule cX6_byRule 3 (some .int) [.ref 94, .int t, .int 2] b Y M (.inl (some (.int (gRule M n w t 2)))) (M) := by
  refine Con.of (by decide +kernel) (Nat.le_of_ble_eq_true rfl) rfl fun p l e s m args below meth c D tyc A ad0 x hr htab hname => ?_
  change JJ _ _ _ _ _ _ _ _ _ _ _ _ _ _ _ _ _ 0 [some (.ref 94), some (.int t), some (.int 2)] [] _ 0 0
  refine j_iload_n x dX6_byRule_0 rfl ?_
  refine j_tableIn (tgt := 54) x dX6_byRule_1 (by decide) (by decide) rfl (by decide) ?_
  refine j_aload_n x dX6_byRule_54 rfl ?_
  refine j_iload_n x dX6_byRule_55 rfl ?_
  refine j_iconst (v := 2) x dX6_byRule_56 (by decide) ?_
  refine j2_callVi x hb dX6_byRule_57 m_X6_has_ (cx_has2_2 (d := d) hb hn hct) wmX6_156 jc_10 rfl rfl rfl (Nat.le_of_ble_eq_true rfl) (j_fit_rm (by omega) (by omega) (by omega)) rfl ?_
  exact j_ireturn x hr dX6_byRule_60 (by omega) (by omega) ⟨rfl, rfl⟩
theorem cx_byRule_3 {d : Nat} {b : SBt} {Y : OUt} {M : MM} (hb : 104 ≤ b.2.1) {t : Int32} {n : Nat} (hn : n ≤ 56) (hct : M 95 9 = nI n) {w : Nat} (hw : w ≤ 8) (h0 : M 95 0 = nI w) : CM (d + 5) 0 0 yX6_byRule cX6_byRule 3 (some .int) [.ref 94, .int t, .int 3] b Y M (.inl (some (.int (gRule M n w t 3)))) (M) := by
  refine Con.of (by decide +kernel) (Nat.le_of_ble_eq_true rfl) rfl fun p l e s m args below meth c D tyc A ad0 x hr htab hname => ?_
  change JJ _ _ _ _ _ _ _ _ _ _ _ _ _ _ _ _ _ 0 [some (.ref 94), some (.int t), some (.int 3)] [] _ 0 0
  refine j_iload_n x dX6_byRule_0 rfl ?_
  refine j_tableIn (tgt := 61) x dX6_byRule_1 (by decide) (by decide) rfl (by decide) ?_
  refine j_aload_n x dX6_byRule_61 rfl ?_
  refine j_iload_n x dX6_byRule_62 rfl ?_
  refine j_iconst (v := 1) x dX6_byRule_63 (by decide) ?_
  refine j_aload_n x dX6_byRule_64 rfl ?_
  refine j_iload_n x dX6_byRule_65 rfl ?_
  refine j2_callVi x hb dX6_byRule_66 m_X6_tiedWith (cx_tiedWith (d := d) hb hn hct hw h0) wmX6_161 jc_10 rfl rfl rfl (Nat.le_of_ble_eq_true rfl) (j_fit_rm (by omega) (by omega) (by omega)) rfl ?_
  refine j2_callVi x hb dX6_byRule_69 m_X6_has (cx_has_1 (d := d) hb hn hct) wmX6_152 jc_10 rfl rfl rfl (Nat.le_of_ble_eq_true rfl) (j_fit_rm (by omega) (by omega) (by omega)) rfl ?_
  exact j_ireturn x hr dX6_byRule_72 (by omega) (by omega) ⟨rfl, rfl⟩
theorem cx_byRule_4 {d : Nat} {b : SBt} {Y : OUt} {M : MM} (hb : 104 ≤ b.2.1) {t : Int32} {n : Nat} (hn : n ≤ 56) (hct : M 95 9 = nI n) {w : Nat} (hw : w ≤ 8) (h0 : M 95 0 = nI w) : CM (d + 5) 0 0 yX6_byRule cX6_byRule 3 (some .int) [.ref 94, .int t, .int 4] b Y M (.inl (some (.int (gRule M n w t 4)))) (M) := by
  refine Con.of (by decide +kernel) (Nat.le_of_ble_eq_true rfl) rfl fun p l e s m args below meth c D tyc A ad0 x hr htab hname => ?_
  change JJ _ _ _ _ _ _ _ _ _ _ _ _ _ _ _ _ _ 0 [some (.ref 94), some (.int t), some (.int 4)] [] _ 0 0
  refine j_iload_n x dX6_byRule_0 rfl ?_
  refine j_tableOut (tgt := 73) x dX6_byRule_1 (by decide) (by decide) ?_
  refine j_aload_n x dX6_byRule_73 rfl ?_
  refine j_iload_n x dX6_byRule_74 rfl ?_
  refine j_bipush (v := 7) x dX6_byRule_75 (by decide) ?_
  refine j2_callVi x hb dX6_byRule_77 m_X6_has_ (cx_has2_7 (d := d) hb hn hct) wmX6_156 jc_10 rfl rfl rfl (Nat.le_of_ble_eq_true rfl) (j_fit_rm (by omega) (by omega) (by omega)) rfl ?_
  exact j_ireturn x hr dX6_byRule_80 (by omega) (by omega) ⟨rfl, rfl⟩
theorem cx_byRule {d : Nat} {b : SBt} {Y : OUt} {M : MM} (hb : 104 ≤ b.2.1) {t r : Int32} {n : Nat} (hn : n ≤ 56) (hct : M 95 9 = nI n) {w : Nat} (hw : w ≤ 8) (h0 : M 95 0 = nI w) (h : r = 0 ∨ r = 1 ∨ r = 2 ∨ r = 3 ∨ r = 4) : CM (d + 5) 0 0 yX6_byRule cX6_byRule 3 (some .int) [.ref 94, .int t, .int r] b Y M (.inl (some (.int (gRule M n w t r)))) M := by
  rcases h with rfl | rfl | rfl | rfl | rfl
  · exact cx_byRule_0 hb hn hct hw h0
  · exact cx_byRule_1 hb hn hct hw h0
  · exact cx_byRule_2 hb hn hct hw h0
  · exact cx_byRule_3 hb hn hct hw h0
  · exact cx_byRule_4 hb hn hct hw h0
theorem cx_isAhead {d : Nat} {b : SBt} {Y : OUt} {M : MM} (hb : 104 ≤ b.2.1) {u v : Int32} {n : Nat} (hn : n ≤ 56) (hct : M 95 9 = nI n) {w : Nat} (hw : w ≤ 8) (h0 : M 95 0 = nI w) {r : Nat} (hr3 : r ≤ 3) (h5 : M 95 5 = nI r) (hru : ∀ i, i < r → M 95 (6 + i) = 0 ∨ M 95 (6 + i) = 1 ∨ M 95 (6 + i) = 2 ∨ M 95 (6 + i) = 3 ∨ M 95 (6 + i) = 4) : CM (d + 6) 0 0 yX6_isAhead cX6_isAhead 5 (some .boolean) [.ref 94, .int u, .int v] b Y M (.inl (some (.int (gAh M n w r u v)))) (M) := by
  refine Con.of (by decide +kernel) (Nat.le_of_ble_eq_true rfl) rfl fun p l e s m args below meth c D tyc A ad0 x hr htab hname => ?_
  change JJ _ _ _ _ _ _ _ _ _ _ _ _ _ _ _ _ _ 0 [some (.ref 94), some (.int u), some (.int v), none, none] [] _ 0 0
  refine j_aload_n x dX6_isAhead_0 rfl ?_
  refine j_iload_n x dX6_isAhead_1 rfl ?_
  refine j_iconst (v := 1) x dX6_isAhead_2 (by decide) ?_
  refine j2_callVi x hb dX6_isAhead_3 m_X6_has_ (cx_has2_1 (d := d) hb hn hct) wmX6_156 jc_10 rfl rfl rfl (Nat.le_of_ble_eq_true rfl) (j_fit_rm (by omega) (by omega) (by omega)) rfl ?_
  refine j_aload_n x dX6_isAhead_6 rfl ?_
  refine j_iload_n x dX6_isAhead_7 rfl ?_
  refine j_iconst (v := 1) x dX6_isAhead_8 (by decide) ?_
  refine j2_callVi x hb dX6_isAhead_9 m_X6_has_ (cx_has2_1 (d := d) hb hn hct) wmX6_156 jc_10 rfl rfl rfl (Nat.le_of_ble_eq_true rfl) (j_fit_rm (by omega) (by omega) (by omega)) rfl ?_
  refine j_isub x dX6_isAhead_12 ?_
  refine j_istore_n x dX6_isAhead_13 (by decide) rfl ?_
  refine j_iconst (v := 0) x dX6_isAhead_14 (by decide) ?_
  refine j_istore x dX6_isAhead_15 (by decide) rfl ?_
  refine j_for (r) (fun j => [some (.ref 94), some (.int u), some (.int v), some (.int (gLead M n w u v j)), some (.int (nI j))]) (fun j => M) (fun j => True) (rfl) (rfl) (trivial) (fun j hj hP ih => ?_) (fun hP => ?_)
  · refine j_iload x dX6_isAhead_17 rfl ?_
    refine j_aload_n x dX6_isAhead_19 rfl ?_
    refine j2_getr (k := 0) (r := 95) x hb dX6_isAhead_20 jc_10 wfX6_9 (by decide) rfl ?_
    refine j_iconst (v := 5) x dX6_isAhead_23 (by decide) ?_
    refine j2_ialn x hb dX6_isAhead_24 fa_95 (j := 5) (vp_c (by decide)) (by decide) ?_; rw [h5]
    refine j_icmp_ge (tgt := 70) x dX6_isAhead_25 (by decide) (fun hc => absurd hc (nI_ge hj (by omega))) (fun hc => ?_)
    refine j_iload_n x dX6_isAhead_28 rfl ?_
    refine j_if_ne (tgt := 70) x dX6_isAhead_29 (by decide) (fun h1 => ?_) (fun h1 => ?_)
    · refine j_iload_n x dX6_isAhead_70 rfl ?_
      refine j_if_ne (tgt := 87) x dX6_isAhead_71 (by decide) (fun g0 => ?_) (fun g0 => ?_)
      · refine j_iload_n x dX6_isAhead_87 rfl ?_
        refine j_if_le (tgt := 95) x dX6_isAhead_88 (by decide) (fun g1 => ?_) (fun g1 => ?_)
        · refine j_iconst (v := 0) x dX6_isAhead_95 (by decide) ?_
          exact j_zreturn x hr dX6_isAhead_96 (by first | decide | exact jisS_nar | exact gno_nar | exact jb_nar) (by omega) (by omega) ⟨by rw [gAh, gLead_keep h1 (Nat.le_of_lt hj), if_neg g0, jb_f (fun q => q g1)], rfl⟩
        · refine j_iconst (v := 1) x dX6_isAhead_91 (by decide) ?_
          refine j_goto (tgt := 96) x dX6_isAhead_92 (by decide) ?_
          exact j_zreturn x hr dX6_isAhead_96 (by first | decide | exact jisS_nar | exact gno_nar | exact jb_nar) (by omega) (by omega) ⟨by rw [gAh, gLead_keep h1 (Nat.le_of_lt hj), if_neg g0, jb_t g1], rfl⟩
      · refine j_iload_n x dX6_isAhead_74 rfl ?_
        refine j_iload_n x dX6_isAhead_75 rfl ?_
        refine j_icmp_ge (tgt := 83) x dX6_isAhead_76 (by decide) (fun g1 => ?_) (fun g1 => ?_)
        · refine j_iconst (v := 0) x dX6_isAhead_83 (by decide) ?_
          refine j_goto (tgt := 96) x dX6_isAhead_84 (by decide) ?_
          exact j_zreturn x hr dX6_isAhead_96 (by first | decide | exact jisS_nar | exact gno_nar | exact jb_nar) (by omega) (by omega) ⟨by rw [gAh, gLead_keep h1 (Nat.le_of_lt hj), if_pos g0, jb_f (fun q => q g1)], rfl⟩
        · refine j_iconst (v := 1) x dX6_isAhead_79 (by decide) ?_
          refine j_goto (tgt := 96) x dX6_isAhead_80 (by decide) ?_
          exact j_zreturn x hr dX6_isAhead_96 (by first | decide | exact jisS_nar | exact gno_nar | exact jb_nar) (by omega) (by omega) ⟨by rw [gAh, gLead_keep h1 (Nat.le_of_lt hj), if_pos g0, jb_t g1], rfl⟩
    · refine j_aload_n x dX6_isAhead_32 rfl ?_
      refine j_iload_n x dX6_isAhead_33 rfl ?_
      refine j_aload_n x dX6_isAhead_34 rfl ?_
      refine j2_getr (k := 0) (r := 95) x hb dX6_isAhead_35 jc_10 wfX6_9 (by decide) rfl ?_
      refine j_bipush (v := 6) x dX6_isAhead_38 (by decide) ?_
      refine j_iload x dX6_isAhead_40 rfl ?_
      refine j_iadd x dX6_isAhead_42 ?_
      refine j2_ialn x hb dX6_isAhead_43 fa_95 (j := 6 + j) (by rw [show (6 : Int32) + nI j = nI (6 + j) from nI_add 6 j]; exact vp_in_nI (by omega) (by decide)) (by rw [show (6 : Int32) + nI j = nI (6 + j) from nI_add 6 j]; exact nI_clamp (by omega)) ?_
      refine j2_callVi x hb dX6_isAhead_44 m_X6_byRule (cx_byRule (d := d) hb hn hct hw h0 (hru j hj)) wmX6_164 jc_10 rfl rfl rfl (Nat.le_of_ble_eq_true rfl) (j_fit_rm (by omega) (by omega) (by omega)) rfl ?_
      refine j_aload_n x dX6_isAhead_47 rfl ?_
      refine j_iload_n x dX6_isAhead_48 rfl ?_
      refine j_aload_n x dX6_isAhead_49 rfl ?_
      refine j2_getr (k := 0) (r := 95) x hb dX6_isAhead_50 jc_10 wfX6_9 (by decide) rfl ?_
      refine j_bipush (v := 6) x dX6_isAhead_53 (by decide) ?_
      refine j_iload x dX6_isAhead_55 rfl ?_
      refine j_iadd x dX6_isAhead_57 ?_
      refine j2_ialn x hb dX6_isAhead_58 fa_95 (j := 6 + j) (by rw [show (6 : Int32) + nI j = nI (6 + j) from nI_add 6 j]; exact vp_in_nI (by omega) (by decide)) (by rw [show (6 : Int32) + nI j = nI (6 + j) from nI_add 6 j]; exact nI_clamp (by omega)) ?_
      refine j2_callVi x hb dX6_isAhead_59 m_X6_byRule (cx_byRule (d := d) hb hn hct hw h0 (hru j hj)) wmX6_164 jc_10 rfl rfl rfl (Nat.le_of_ble_eq_true rfl) (j_fit_rm (by omega) (by omega) (by omega)) rfl ?_
      refine j_isub x dX6_isAhead_62 ?_
      refine j_istore_n x dX6_isAhead_63 (by decide) rfl ?_
      refine j_iinc x dX6_isAhead_64 rfl (by decide) rfl ?_
      refine j_goto (tgt := 17) x dX6_isAhead_67 (by decide) ?_
      exact j_goal (ih (trivial)) (wk_c rfl (wk_c rfl (wk_c rfl (wk_c (congrArg (fun z => some (Value.int z)) (show _ = gLead M n w u v (j + 1) by rw [gLead]; exact (if_pos h1).symm)) (wk_c (congrArg (fun z => some (Value.int z)) (nI_1 _)) (wk_0)))))) (rfl)
  refine j_iload x dX6_isAhead_17 rfl ?_
  refine j_aload_n x dX6_isAhead_19 rfl ?_
  refine j2_getr (k := 0) (r := 95) x hb dX6_isAhead_20 jc_10 wfX6_9 (by decide) rfl ?_
  refine j_iconst (v := 5) x dX6_isAhead_23 (by decide) ?_
  refine j2_ialn x hb dX6_isAhead_24 fa_95 (j := 5) (vp_c (by decide)) (by decide) ?_; rw [h5]
  refine j_icmp_ge (tgt := 70) x dX6_isAhead_25 (by decide) (fun hc => ?_) (fun hc => absurd (nI_le (Nat.le_refl _) (by omega)) hc)
  refine j_iload_n x dX6_isAhead_70 rfl ?_
  refine j_if_ne (tgt := 87) x dX6_isAhead_71 (by decide) (fun g0 => ?_) (fun g0 => ?_)
  · refine j_iload_n x dX6_isAhead_87 rfl ?_
    refine j_if_le (tgt := 95) x dX6_isAhead_88 (by decide) (fun g1 => ?_) (fun g1 => ?_)
    · refine j_iconst (v := 0) x dX6_isAhead_95 (by decide) ?_
      exact j_zreturn x hr dX6_isAhead_96 (by first | decide | exact jisS_nar | exact gno_nar | exact jb_nar) (by omega) (by omega) ⟨by rw [gAh, if_neg g0, jb_f (fun q => q g1)], rfl⟩
    · refine j_iconst (v := 1) x dX6_isAhead_91 (by decide) ?_
      refine j_goto (tgt := 96) x dX6_isAhead_92 (by decide) ?_
      exact j_zreturn x hr dX6_isAhead_96 (by first | decide | exact jisS_nar | exact gno_nar | exact jb_nar) (by omega) (by omega) ⟨by rw [gAh, if_neg g0, jb_t g1], rfl⟩
  · refine j_iload_n x dX6_isAhead_74 rfl ?_
    refine j_iload_n x dX6_isAhead_75 rfl ?_
    refine j_icmp_ge (tgt := 83) x dX6_isAhead_76 (by decide) (fun g1 => ?_) (fun g1 => ?_)
    · refine j_iconst (v := 0) x dX6_isAhead_83 (by decide) ?_
      refine j_goto (tgt := 96) x dX6_isAhead_84 (by decide) ?_
      exact j_zreturn x hr dX6_isAhead_96 (by first | decide | exact jisS_nar | exact gno_nar | exact jb_nar) (by omega) (by omega) ⟨by rw [gAh, if_pos g0, jb_f (fun q => q g1)], rfl⟩
    · refine j_iconst (v := 1) x dX6_isAhead_79 (by decide) ?_
      refine j_goto (tgt := 96) x dX6_isAhead_80 (by decide) ?_
      exact j_zreturn x hr dX6_isAhead_96 (by first | decide | exact jisS_nar | exact gno_nar | exact jb_nar) (by omega) (by omega) ⟨by rw [gAh, if_pos g0, jb_t g1], rfl⟩
def fgPl (M : MM) (n w r : Nat) (t : Int32) (i : Nat) : Int32 := if nI i = t then 0 else if gAh M n w r (nI i) t = 0 then 0 else 1
theorem cx_placeIn {d : Nat} {b : SBt} {Y : OUt} {M : MM} (hb : 104 ≤ b.2.1) {t : Int32} {n : Nat} (hn : n ≤ 56) (hct : M 95 9 = nI n) {w : Nat} (hw : w ≤ 8) (h0 : M 95 0 = nI w) {r : Nat} (hr3 : r ≤ 3) (h5 : M 95 5 = nI r) (hru : ∀ i, i < r → M 95 (6 + i) = 0 ∨ M 95 (6 + i) = 1 ∨ M 95 (6 + i) = 2 ∨ M 95 (6 + i) = 3 ∨ M 95 (6 + i) = 4) : CM (d + 7) 0 0 yX6_placeIn cX6_placeIn 4 (some .int) [.ref 94, .int t] b Y M (.inl (some (.int (jsum (fgPl M n w r t) w)))) (M) := by
  refine Con.of (by decide +kernel) (Nat.le_of_ble_eq_true rfl) rfl fun p l e s m args below meth c D tyc A ad0 x hr htab hname => ?_
  change JJ _ _ _ _ _ _ _ _ _ _ _ _ _ _ _ _ _ 0 [some (.ref 94), some (.int t), none, none] [] _ 0 0
  refine j_iconst (v := 0) x dX6_placeIn_0 (by decide) ?_
  refine j_istore_n x dX6_placeIn_1 (by decide) rfl ?_
  refine j_iconst (v := 0) x dX6_placeIn_2 (by decide) ?_
  refine j_istore_n x dX6_placeIn_3 (by decide) rfl ?_
  refine j_for (w) (fun j => [some (.ref 94), some (.int t), some (.int (jsum (fgPl M n w r t) j)), some (.int (nI j))]) (fun j => M) (fun j => True) (rfl) (rfl) (trivial) (fun j hj hP ih => ?_) (fun hP => ?_)
  · refine j_iload_n x dX6_placeIn_4 rfl ?_
    refine j_aload_n x dX6_placeIn_5 rfl ?_
    refine j2_getr (k := 0) (r := 95) x hb dX6_placeIn_6 jc_10 wfX6_9 (by decide) rfl ?_
    refine j_iconst (v := 0) x dX6_placeIn_9 (by decide) ?_
    refine j2_ialn x hb dX6_placeIn_10 fa_95 (j := 0) (vp_c (by decide)) (by decide) ?_; rw [h0]
    refine j_icmp_ge (tgt := 37) x dX6_placeIn_11 (by decide) (fun hc => absurd hc (nI_ge hj (by omega))) (fun hc => ?_)
    refine j_iload_n x dX6_placeIn_14 rfl ?_
    refine j_iload_n x dX6_placeIn_15 rfl ?_
    refine j_icmp_eq (tgt := 31) x dX6_placeIn_16 (by decide) (fun h1 => ?_) (fun h1 => ?_)
    · refine j_iinc x dX6_placeIn_31 rfl (by decide) rfl ?_
      refine j_goto (tgt := 4) x dX6_placeIn_34 (by decide) ?_
      exact j_goal (ih (trivial)) (wk_c rfl (wk_c rfl (wk_c (congrArg (fun z => some (Value.int z)) (jsum_f (if_pos h1))) (wk_c (congrArg (fun z => some (Value.int z)) (nI_1 _)) (wk_0))))) (rfl)
    · refine j_aload_n x dX6_placeIn_19 rfl ?_
      refine j_iload_n x dX6_placeIn_20 rfl ?_
      refine j_iload_n x dX6_placeIn_21 rfl ?_
      refine j2_callVi x hb dX6_placeIn_22 m_X6_isAhead (cx_isAhead (d := d) hb hn hct hw h0 hr3 h5 hru) wmX6_167 jc_10 rfl rfl rfl (Nat.le_of_ble_eq_true rfl) (j_fit_rm (by omega) (by omega) (by omega)) rfl ?_
      refine j_if_eq (tgt := 31) x dX6_placeIn_25 (by decide) (fun h2 => ?_) (fun h2 => ?_)
      · refine j_iinc x dX6_placeIn_31 rfl (by decide) rfl ?_
        refine j_goto (tgt := 4) x dX6_placeIn_34 (by decide) ?_
        exact j_goal (ih (trivial)) (wk_c rfl (wk_c rfl (wk_c (congrArg (fun z => some (Value.int z)) (jsum_f ((if_neg h1).trans (if_pos h2)))) (wk_c (congrArg (fun z => some (Value.int z)) (nI_1 _)) (wk_0))))) (rfl)
      · refine j_iinc x dX6_placeIn_28 rfl (by decide) rfl ?_
        refine j_iinc x dX6_placeIn_31 rfl (by decide) rfl ?_
        refine j_goto (tgt := 4) x dX6_placeIn_34 (by decide) ?_
        exact j_goal (ih (trivial)) (wk_c rfl (wk_c rfl (wk_c (congrArg (fun z => some (Value.int z)) (jsum_v ((if_neg h1).trans (if_neg h2)))) (wk_c (congrArg (fun z => some (Value.int z)) (nI_1 _)) (wk_0))))) (rfl)
  refine j_iload_n x dX6_placeIn_4 rfl ?_
  refine j_aload_n x dX6_placeIn_5 rfl ?_
  refine j2_getr (k := 0) (r := 95) x hb dX6_placeIn_6 jc_10 wfX6_9 (by decide) rfl ?_
  refine j_iconst (v := 0) x dX6_placeIn_9 (by decide) ?_
  refine j2_ialn x hb dX6_placeIn_10 fa_95 (j := 0) (vp_c (by decide)) (by decide) ?_; rw [h0]
  refine j_icmp_ge (tgt := 37) x dX6_placeIn_11 (by decide) (fun hc => ?_) (fun hc => absurd (nI_le (Nat.le_refl _) (by omega)) hc)
  refine j_iload_n x dX6_placeIn_37 rfl ?_
  exact j_ireturn x hr dX6_placeIn_38 (by omega) (by omega) ⟨rfl, rfl⟩
def gMost (M : MM) (n : Nat) (t : Int32) : Int32 := gH M n t 1 + M 95 3 * gH M n t 8
theorem cx_mostOf {d : Nat} {b : SBt} {Y : OUt} {M : MM} (hb : 104 ≤ b.2.1) {t : Int32} {n : Nat} (hn : n ≤ 56) (hct : M 95 9 = nI n) : CM (d + 4) 0 0 yX6_mostOf cX6_mostOf 2 (some .int) [.ref 94, .int t] b Y M (.inl (some (.int (gMost M n t)))) (M) := by
  refine Con.of (by decide +kernel) (Nat.le_of_ble_eq_true rfl) rfl fun p l e s m args below meth c D tyc A ad0 x hr htab hname => ?_
  change JJ _ _ _ _ _ _ _ _ _ _ _ _ _ _ _ _ _ 0 [some (.ref 94), some (.int t)] [] _ 0 0
  refine j_aload_n x dX6_mostOf_0 rfl ?_
  refine j_iload_n x dX6_mostOf_1 rfl ?_
  refine j_iconst (v := 1) x dX6_mostOf_2 (by decide) ?_
  refine j2_callVi x hb dX6_mostOf_3 m_X6_has_ (cx_has2_1 (d := d) hb hn hct) wmX6_156 jc_10 rfl rfl rfl (Nat.le_of_ble_eq_true rfl) (j_fit_rm (by omega) (by omega) (by omega)) rfl ?_
  refine j_aload_n x dX6_mostOf_6 rfl ?_
  refine j2_getr (k := 0) (r := 95) x hb dX6_mostOf_7 jc_10 wfX6_9 (by decide) rfl ?_
  refine j_iconst (v := 3) x dX6_mostOf_10 (by decide) ?_
  refine j2_ialn x hb dX6_mostOf_11 fa_95 (j := 3) (vp_c (by decide)) (by decide) ?_
  refine j_aload_n x dX6_mostOf_12 rfl ?_
  refine j_iload_n x dX6_mostOf_13 rfl ?_
  refine j_bipush (v := 8) x dX6_mostOf_14 (by decide) ?_
  refine j2_callVi x hb dX6_mostOf_16 m_X6_has_ (cx_has2_8 (d := d) hb hn hct) wmX6_156 jc_10 rfl rfl rfl (Nat.le_of_ble_eq_true rfl) (j_fit_rm (by omega) (by omega) (by omega)) rfl ?_
  refine j_imul x dX6_mostOf_19 ?_
  refine j_iadd x dX6_mostOf_20 ?_
  exact j_ireturn x hr dX6_mostOf_21 (by omega) (by omega) ⟨rfl, rfl⟩
def fgS (M : MM) (n : Nat) (t : Int32) (i : Nat) : Int32 := jb (¬ nI i = t ∧ ¬ gMost M n (nI i) < gH M n t 1)
def fgO (M : MM) (n : Nat) (t : Int32) (i : Nat) : Int32 := jb (¬ nI i = t ∧ ¬ gH M n (nI i) 1 ≤ gMost M n t)
theorem cx_isSafeNow {d : Nat} {b : SBt} {Y : OUt} {M : MM} (hb : 104 ≤ b.2.1) {t : Int32} {n : Nat} (hn : n ≤ 56) (hct : M 95 9 = nI n) {w : Nat} (hw : w ≤ 8) (h0 : M 95 0 = nI w) : CM (d + 5) 0 0 yX6_isSafeNow cX6_isSafeNow 3 (some .boolean) [.ref 94, .int t] b Y M (.inl (some (.int (jb (jfst (fgS M n t) w = -1))))) (M) := by
  refine Con.of (by decide +kernel) (Nat.le_of_ble_eq_true rfl) rfl fun p l e s m args below meth c D tyc A ad0 x hr htab hname => ?_
  change JJ _ _ _ _ _ _ _ _ _ _ _ _ _ _ _ _ _ 0 [some (.ref 94), some (.int t), none] [] _ 0 0
  refine j_iconst (v := 0) x dX6_isSafeNow_0 (by decide) ?_
  refine j_istore_n x dX6_isSafeNow_1 (by decide) rfl ?_
  refine j_for (w) (fun j => [some (.ref 94), some (.int t), some (.int (nI j))]) (fun j => M) (fun j => jfst (fgS M n t) j = -1) (rfl) (rfl) (rfl) (fun j hj hP ih => ?_) (fun hP => ?_)
  · refine j_iload_n x dX6_isSafeNow_2 rfl ?_
    refine j_aload_n x dX6_isSafeNow_3 rfl ?_
    refine j2_getr (k := 0) (r := 95) x hb dX6_isSafeNow_4 jc_10 wfX6_9 (by decide) rfl ?_
    refine j_iconst (v := 0) x dX6_isSafeNow_7 (by decide) ?_
    refine j2_ialn x hb dX6_isSafeNow_8 fa_95 (j := 0) (vp_c (by decide)) (by decide) ?_; rw [h0]
    refine j_icmp_ge (tgt := 39) x dX6_isSafeNow_9 (by decide) (fun hc => absurd hc (nI_ge hj (by omega))) (fun hc => ?_)
    refine j_iload_n x dX6_isSafeNow_12 rfl ?_
    refine j_iload_n x dX6_isSafeNow_13 rfl ?_
    refine j_icmp_eq (tgt := 33) x dX6_isSafeNow_14 (by decide) (fun h1 => ?_) (fun h1 => ?_)
    · refine j_iinc x dX6_isSafeNow_33 rfl (by decide) rfl ?_
      refine j_goto (tgt := 2) x dX6_isSafeNow_36 (by decide) ?_
      exact j_goal (ih (jfst_no hP (fun q => absurd ((show fgS M n t j = 0 from jb_f (fun q => q.1 h1)).symm.trans q) (by decide)))) (wk_c rfl (wk_c rfl (wk_c (congrArg (fun z => some (Value.int z)) (nI_1 _)) (wk_0)))) (rfl)
    · refine j_aload_n x dX6_isSafeNow_17 rfl ?_
      refine j_iload_n x dX6_isSafeNow_18 rfl ?_
      refine j2_callVi x hb dX6_isSafeNow_19 m_X6_mostOf (cx_mostOf (d := d) hb hn hct) wmX6_173 jc_10 rfl rfl rfl (Nat.le_of_ble_eq_true rfl) (j_fit_rm (by omega) (by omega) (by omega)) rfl ?_
      refine j_aload_n x dX6_isSafeNow_22 rfl ?_
      refine j_iload_n x dX6_isSafeNow_23 rfl ?_
      refine j_iconst (v := 1) x dX6_isSafeNow_24 (by decide) ?_
      refine j2_callVi x hb dX6_isSafeNow_25 m_X6_has_ (cx_has2_1 (d := d) hb hn hct) wmX6_156 jc_10 rfl rfl rfl (Nat.le_of_ble_eq_true rfl) (j_fit_rm (by omega) (by omega) (by omega)) rfl ?_
      refine j_icmp_lt (tgt := 33) x dX6_isSafeNow_28 (by decide) (fun h2 => ?_) (fun h2 => ?_)
      · refine j_iinc x dX6_isSafeNow_33 rfl (by decide) rfl ?_
        refine j_goto (tgt := 2) x dX6_isSafeNow_36 (by decide) ?_
        exact j_goal (ih (jfst_no hP (fun q => absurd ((show fgS M n t j = 0 from jb_f (fun q => q.2 h2)).symm.trans q) (by decide)))) (wk_c rfl (wk_c rfl (wk_c (congrArg (fun z => some (Value.int z)) (nI_1 _)) (wk_0)))) (rfl)
      · refine j_iconst (v := 0) x dX6_isSafeNow_31 (by decide) ?_
        exact j_zreturn x hr dX6_isSafeNow_32 (by first | decide | exact jisS_nar | exact gno_nar | exact jb_nar) (by omega) (by omega) ⟨by rw [jb_f (p := jfst (fgS M n t) w = -1) (fun q => absurd ((jfst_at hP (show fgS M n t j = 1 from jb_t ⟨h1, h2⟩) (by omega) hj).symm.trans q) (nI_nm1 (by omega)))], rfl⟩
  refine j_iload_n x dX6_isSafeNow_2 rfl ?_
  refine j_aload_n x dX6_isSafeNow_3 rfl ?_
  refine j2_getr (k := 0) (r := 95) x hb dX6_isSafeNow_4 jc_10 wfX6_9 (by decide) rfl ?_
  refine j_iconst (v := 0) x dX6_isSafeNow_7 (by decide) ?_
  refine j2_ialn x hb dX6_isSafeNow_8 fa_95 (j := 0) (vp_c (by decide)) (by decide) ?_; rw [h0]
  refine j_icmp_ge (tgt := 39) x dX6_isSafeNow_9 (by decide) (fun hc => ?_) (fun hc => absurd (nI_le (Nat.le_refl _) (by omega)) hc)
  refine j_iconst (v := 1) x dX6_isSafeNow_39 (by decide) ?_
  exact j_zreturn x hr dX6_isSafeNow_40 (by first | decide | exact jisS_nar | exact gno_nar | exact jb_nar) (by omega) (by omega) ⟨by rw [jb_t (p := jfst (fgS M n t) w = -1) hP], rfl⟩
theorem cx_isOutNow {d : Nat} {b : SBt} {Y : OUt} {M : MM} (hb : 104 ≤ b.2.1) {t : Int32} {n : Nat} (hn : n ≤ 56) (hct : M 95 9 = nI n) {w : Nat} (hw : w ≤ 8) (h0 : M 95 0 = nI w) : CM (d + 5) 0 0 yX6_isOutNow cX6_isOutNow 3 (some .boolean) [.ref 94, .int t] b Y M (.inl (some (.int (jb (¬ jfst (fgO M n t) w = -1))))) (M) := by
  refine Con.of (by decide +kernel) (Nat.le_of_ble_eq_true rfl) rfl fun p l e s m args below meth c D tyc A ad0 x hr htab hname => ?_
  change JJ _ _ _ _ _ _ _ _ _ _ _ _ _ _ _ _ _ 0 [some (.ref 94), some (.int t), none] [] _ 0 0
  refine j_iconst (v := 0) x dX6_isOutNow_0 (by decide) ?_
  refine j_istore_n x dX6_isOutNow_1 (by decide) rfl ?_
  refine j_for (w) (fun j => [some (.ref 94), some (.int t), some (.int (nI j))]) (fun j => M) (fun j => jfst (fgO M n t) j = -1) (rfl) (rfl) (rfl) (fun j hj hP ih => ?_) (fun hP => ?_)
  · refine j_iload_n x dX6_isOutNow_2 rfl ?_
    refine j_aload_n x dX6_isOutNow_3 rfl ?_
    refine j2_getr (k := 0) (r := 95) x hb dX6_isOutNow_4 jc_10 wfX6_9 (by decide) rfl ?_
    refine j_iconst (v := 0) x dX6_isOutNow_7 (by decide) ?_
    refine j2_ialn x hb dX6_isOutNow_8 fa_95 (j := 0) (vp_c (by decide)) (by decide) ?_; rw [h0]
    refine j_icmp_ge (tgt := 39) x dX6_isOutNow_9 (by decide) (fun hc => absurd hc (nI_ge hj (by omega))) (fun hc => ?_)
    refine j_iload_n x dX6_isOutNow_12 rfl ?_
    refine j_iload_n x dX6_isOutNow_13 rfl ?_
    refine j_icmp_eq (tgt := 33) x dX6_isOutNow_14 (by decide) (fun h1 => ?_) (fun h1 => ?_)
    · refine j_iinc x dX6_isOutNow_33 rfl (by decide) rfl ?_
      refine j_goto (tgt := 2) x dX6_isOutNow_36 (by decide) ?_
      exact j_goal (ih (jfst_no hP (fun q => absurd ((show fgO M n t j = 0 from jb_f (fun q => q.1 h1)).symm.trans q) (by decide)))) (wk_c rfl (wk_c rfl (wk_c (congrArg (fun z => some (Value.int z)) (nI_1 _)) (wk_0)))) (rfl)
    · refine j_aload_n x dX6_isOutNow_17 rfl ?_
      refine j_iload_n x dX6_isOutNow_18 rfl ?_
      refine j_iconst (v := 1) x dX6_isOutNow_19 (by decide) ?_
      refine j2_callVi x hb dX6_isOutNow_20 m_X6_has_ (cx_has2_1 (d := d) hb hn hct) wmX6_156 jc_10 rfl rfl rfl (Nat.le_of_ble_eq_true rfl) (j_fit_rm (by omega) (by omega) (by omega)) rfl ?_
      refine j_aload_n x dX6_isOutNow_23 rfl ?_
      refine j_iload_n x dX6_isOutNow_24 rfl ?_
      refine j2_callVi x hb dX6_isOutNow_25 m_X6_mostOf (cx_mostOf (d := d) hb hn hct) wmX6_173 jc_10 rfl rfl rfl (Nat.le_of_ble_eq_true rfl) (j_fit_rm (by omega) (by omega) (by omega)) rfl ?_
      refine j_icmp_le (tgt := 33) x dX6_isOutNow_28 (by decide) (fun h2 => ?_) (fun h2 => ?_)
      · refine j_iinc x dX6_isOutNow_33 rfl (by decide) rfl ?_
        refine j_goto (tgt := 2) x dX6_isOutNow_36 (by decide) ?_
        exact j_goal (ih (jfst_no hP (fun q => absurd ((show fgO M n t j = 0 from jb_f (fun q => q.2 h2)).symm.trans q) (by decide)))) (wk_c rfl (wk_c rfl (wk_c (congrArg (fun z => some (Value.int z)) (nI_1 _)) (wk_0)))) (rfl)
      · refine j_iconst (v := 1) x dX6_isOutNow_31 (by decide) ?_
        exact j_zreturn x hr dX6_isOutNow_32 (by first | decide | exact jisS_nar | exact gno_nar | exact jb_nar) (by omega) (by omega) ⟨by rw [jb_t (p := ¬ jfst (fgO M n t) w = -1) (fun q => absurd ((jfst_at hP (show fgO M n t j = 1 from jb_t ⟨h1, h2⟩) (by omega) hj).symm.trans q) (nI_nm1 (by omega)))], rfl⟩
  refine j_iload_n x dX6_isOutNow_2 rfl ?_
  refine j_aload_n x dX6_isOutNow_3 rfl ?_
  refine j2_getr (k := 0) (r := 95) x hb dX6_isOutNow_4 jc_10 wfX6_9 (by decide) rfl ?_
  refine j_iconst (v := 0) x dX6_isOutNow_7 (by decide) ?_
  refine j2_ialn x hb dX6_isOutNow_8 fa_95 (j := 0) (vp_c (by decide)) (by decide) ?_; rw [h0]
  refine j_icmp_ge (tgt := 39) x dX6_isOutNow_9 (by decide) (fun hc => ?_) (fun hc => absurd (nI_le (Nat.le_refl _) (by omega)) hc)
  refine j_iconst (v := 0) x dX6_isOutNow_39 (by decide) ?_
  exact j_zreturn x hr dX6_isOutNow_40 (by first | decide | exact jisS_nar | exact gno_nar | exact jb_nar) (by omega) (by omega) ⟨by rw [jb_f (p := ¬ jfst (fgO M n t) w = -1) (fun q => q hP)], rfl⟩
end

section
/-! ===== the reference: the changes of a drawn league ===== -/
def gno (q : Option (Int32 × Int32)) : Int32 := match q with
  | some _ => 0
  | none => 1
def gst (M : MM) (q : Option (Int32 × Int32)) (S : MM) : MM := match q with
  | some z => jrefu M z.1 z.2
  | none => S
theorem gno_nar {q : Option (Int32 × Int32)} : narrow .boolean (.int (gno q)) = .int (gno q) := by
  cases q with
  | none => decide
  | some v => exact (show narrow .boolean (.int 0) = .int 0 by decide)
def gRes (M : MM) (q : Nat) (u v : Int32) : Option (Int32 × Int32) := if ¬ ((¬ u < 0 ∧ ¬ 20 < u) ∧ (¬ v < 0 ∧ ¬ 20 < v)) then some (1, 0) else if jof M q 4 = 1 then some (8, 0) else if ¬ jof M q 2 = M 95 2 then some (7, jof M q 2) else none
def gResS (M : MM) (q : Nat) (u v : Int32) : MM := jsets (jsets (jsets M q 4 1) q 6 u) q 7 v
def gBack (M : MM) (q : Nat) : Option (Int32 × Int32) := if ¬ jof M q 4 = 1 then some (9, jhow M q) else if ¬ jof M q 2 = M 95 2 then some (7, jof M q 2) else none
def gBackS (M : MM) (q : Nat) : MM := jsets (jsets (jsets M q 4 0) q 6 0) q 7 0
def gPut (M : MM) (q : Nat) (u : Int32) : Option (Int32 × Int32) := if ¬ (¬ u < 1 ∧ ¬ 9 < u) then some (1, 0) else if jof M q 4 = 1 then some (8, 0) else if ¬ jof M q 2 = M 95 2 then some (7, jof M q 2) else if ¬ (¬ M 95 2 + u < 0 ∧ ¬ M 95 1 - 1 < M 95 2 + u) then some (10, M 95 2 + u) else none
def gPutS (M : MM) (q : Nat) (u : Int32) : MM := jsets (jsets M q 2 (M 95 2 + u)) q 5 1
def gNext (M : MM) (n : Nat) : Option (Int32 × Int32) := if ¬ jfst (gLeft M) n = -1 then some (11, jfst (gLeft M) n) else if M 95 2 = M 95 1 - 1 then some (14, M 95 2) else none
theorem jsets_n {M : MM} {m1 w1 i z : Nat} {v : Int32} (h : i ≠ 95 ∨ z < 18 ∨ z ≠ 18 + 8 * m1 + w1) : jsets M m1 w1 v i z = M i z := jm_n (by omega)
theorem jsets_of {M : MM} {m1 w1 m2 w2 : Nat} {v : Int32} (h : m1 ≠ m2 ∨ w1 ≠ w2) (h1 : w1 < 8) (h2 : w2 < 8) : jof (jsets M m1 w1 v) m2 w2 = jof M m2 w2 := by
  unfold jof
  exact jsets_n (by omega)
theorem jsets_s {M : MM} {m1 w1 : Nat} {v : Int32} : jof (jsets M m1 w1 v) m1 w1 = v := jm_s
theorem cx_results_nm {d : Nat} {b : SBt} {Y : OUt} {M : MM} (hb : 104 ≤ b.2.1) {u v : Int32} {t : Int32} (hm : ¬ (¬ t < 0 ∧ ¬ M 95 9 - 1 < t)) (hd : ¬ M 95 1 ≤ 0) : CM (d + 2) 0 0 yX6_results cX6_results 4 (some .boolean) [.ref 94, .int t, .int u, .int v] b Y M (.inl (some (.int (0)))) (jrefu M 3 t) := by
  refine Con.of (by decide +kernel) (Nat.le_of_ble_eq_true rfl) rfl fun p l e s m args below meth c D tyc A ad0 x hr htab hname => ?_
  change JJ _ _ _ _ _ _ _ _ _ _ _ _ _ _ _ _ _ 0 [some (.ref 94), some (.int t), some (.int u), some (.int v)] [] _ 0 0
  refine j_aload_n x dX6_results_0 rfl ?_
  refine j2_callVi x hb dX6_results_1 m_X6_isDrawn (CM_v (cx_isDrawn (d := d) hb) (jb_t hd)) wmX6_87 jc_10 rfl rfl rfl (Nat.le_of_ble_eq_true rfl) (j_fit_rm (by omega) (by omega) (by omega)) rfl ?_
  refine j_if_ne (tgt := 14) x dX6_results_4 (by decide) (fun hc => ?_) (fun hc => absurd hc (by decide))
  refine j_aload_n x dX6_results_14 rfl ?_
  refine j_iload_n x dX6_results_15 rfl ?_
  refine j2_callVi x hb dX6_results_16 m_X6_isMeeting (CM_v (cx_isMeeting (d := d) hb) (jb_f hm)) wmX6_122 jc_10 rfl rfl rfl (Nat.le_of_ble_eq_true rfl) (j_fit_rm (by omega) (by omega) (by omega)) rfl ?_
  refine j_if_ne (tgt := 29) x dX6_results_19 (by decide) (fun hc => absurd hc (fun q => q rfl)) (fun hc => ?_)
  refine j_aload_n x dX6_results_22 rfl ?_
  refine j_iconst (v := 3) x dX6_results_23 (by decide) ?_
  refine j_iload_n x dX6_results_24 rfl ?_
  refine j2_callVi x hb dX6_results_25 m_X6_refuses (cx_refuses (d := d) hb) wmX6_79 jc_10 rfl rfl rfl (Nat.le_of_ble_eq_true rfl) (j_fit_rm (by omega) (by omega) (by omega)) rfl ?_
  exact j_zreturn x hr dX6_results_28 (by first | decide | exact jisS_nar | exact gno_nar | exact jb_nar) (by omega) (by omega) ⟨rfl, rfl⟩
theorem cx_takesBack_nm {d : Nat} {b : SBt} {Y : OUt} {M : MM} (hb : 104 ≤ b.2.1) {t : Int32} (hm : ¬ (¬ t < 0 ∧ ¬ M 95 9 - 1 < t)) (hd : ¬ M 95 1 ≤ 0) : CM (d + 2) 0 0 yX6_takesBack cX6_takesBack 2 (some .boolean) [.ref 94, .int t] b Y M (.inl (some (.int (0)))) (jrefu M 3 t) := by
  refine Con.of (by decide +kernel) (Nat.le_of_ble_eq_true rfl) rfl fun p l e s m args below meth c D tyc A ad0 x hr htab hname => ?_
  change JJ _ _ _ _ _ _ _ _ _ _ _ _ _ _ _ _ _ 0 [some (.ref 94), some (.int t)] [] _ 0 0
  refine j_aload_n x dX6_takesBack_0 rfl ?_
  refine j2_callVi x hb dX6_takesBack_1 m_X6_isDrawn (CM_v (cx_isDrawn (d := d) hb) (jb_t hd)) wmX6_87 jc_10 rfl rfl rfl (Nat.le_of_ble_eq_true rfl) (j_fit_rm (by omega) (by omega) (by omega)) rfl ?_
  refine j_if_ne (tgt := 14) x dX6_takesBack_4 (by decide) (fun hc => ?_) (fun hc => absurd hc (by decide))
  refine j_aload_n x dX6_takesBack_14 rfl ?_
  refine j_iload_n x dX6_takesBack_15 rfl ?_
  refine j2_callVi x hb dX6_takesBack_16 m_X6_isMeeting (CM_v (cx_isMeeting (d := d) hb) (jb_f hm)) wmX6_122 jc_10 rfl rfl rfl (Nat.le_of_ble_eq_true rfl) (j_fit_rm (by omega) (by omega) (by omega)) rfl ?_
  refine j_if_ne (tgt := 29) x dX6_takesBack_19 (by decide) (fun hc => absurd hc (fun q => q rfl)) (fun hc => ?_)
  refine j_aload_n x dX6_takesBack_22 rfl ?_
  refine j_iconst (v := 3) x dX6_takesBack_23 (by decide) ?_
  refine j_iload_n x dX6_takesBack_24 rfl ?_
  refine j2_callVi x hb dX6_takesBack_25 m_X6_refuses (cx_refuses (d := d) hb) wmX6_79 jc_10 rfl rfl rfl (Nat.le_of_ble_eq_true rfl) (j_fit_rm (by omega) (by omega) (by omega)) rfl ?_
  exact j_zreturn x hr dX6_takesBack_28 (by first | decide | exact jisS_nar | exact gno_nar | exact jb_nar) (by omega) (by omega) ⟨rfl, rfl⟩
theorem cx_putsOff_nm {d : Nat} {b : SBt} {Y : OUt} {M : MM} (hb : 104 ≤ b.2.1) {u : Int32} {t : Int32} (hm : ¬ (¬ t < 0 ∧ ¬ M 95 9 - 1 < t)) (hd : ¬ M 95 1 ≤ 0) : CM (d + 2) 0 0 yX6_putsOff cX6_putsOff 4 (some .boolean) [.ref 94, .int t, .int u] b Y M (.inl (some (.int (0)))) (jrefu M 3 t) := by
  refine Con.of (by decide +kernel) (Nat.le_of_ble_eq_true rfl) rfl fun p l e s m args below meth c D tyc A ad0 x hr htab hname => ?_
  change JJ _ _ _ _ _ _ _ _ _ _ _ _ _ _ _ _ _ 0 [some (.ref 94), some (.int t), some (.int u), none] [] _ 0 0
  refine j_aload_n x dX6_putsOff_0 rfl ?_
  refine j2_callVi x hb dX6_putsOff_1 m_X6_isDrawn (CM_v (cx_isDrawn (d := d) hb) (jb_t hd)) wmX6_87 jc_10 rfl rfl rfl (Nat.le_of_ble_eq_true rfl) (j_fit_rm (by omega) (by omega) (by omega)) rfl ?_
  refine j_if_ne (tgt := 14) x dX6_putsOff_4 (by decide) (fun hc => ?_) (fun hc => absurd hc (by decide))
  refine j_aload_n x dX6_putsOff_14 rfl ?_
  refine j_iload_n x dX6_putsOff_15 rfl ?_
  refine j2_callVi x hb dX6_putsOff_16 m_X6_isMeeting (CM_v (cx_isMeeting (d := d) hb) (jb_f hm)) wmX6_122 jc_10 rfl rfl rfl (Nat.le_of_ble_eq_true rfl) (j_fit_rm (by omega) (by omega) (by omega)) rfl ?_
  refine j_if_ne (tgt := 29) x dX6_putsOff_19 (by decide) (fun hc => absurd hc (fun q => q rfl)) (fun hc => ?_)
  refine j_aload_n x dX6_putsOff_22 rfl ?_
  refine j_iconst (v := 3) x dX6_putsOff_23 (by decide) ?_
  refine j_iload_n x dX6_putsOff_24 rfl ?_
  refine j2_callVi x hb dX6_putsOff_25 m_X6_refuses (cx_refuses (d := d) hb) wmX6_79 jc_10 rfl rfl rfl (Nat.le_of_ble_eq_true rfl) (j_fit_rm (by omega) (by omega) (by omega)) rfl ?_
  exact j_zreturn x hr dX6_putsOff_28 (by first | decide | exact jisS_nar | exact gno_nar | exact jb_nar) (by omega) (by omega) ⟨rfl, rfl⟩
theorem cx_results_q {d : Nat} {b : SBt} {Y : OUt} {M : MM} (hb : 104 ≤ b.2.1) {u v : Int32} (hd : ¬ M 95 1 ≤ 0) {n q : Nat} (hn : n ≤ 56) (hct : M 95 9 = nI n) (hq : q < n) : CM (d + 3) 0 0 yX6_results cX6_results 4 (some .boolean) [.ref 94, .int (nI q), .int u, .int v] b Y M (.inl (some (.int (gno (gRes M q u v))))) (gst M (gRes M q u v) (jm (gResS M q u v) 94 18 (jsum (gLeft (gResS M q u v)) n))) := by
  refine Con.of (by decide +kernel) (Nat.le_of_ble_eq_true rfl) rfl fun p l e s m args below meth c D tyc A ad0 x hr htab hname => ?_
  change JJ _ _ _ _ _ _ _ _ _ _ _ _ _ _ _ _ _ 0 [some (.ref 94), some (.int (nI q)), some (.int u), some (.int v)] [] _ 0 0
  refine j_aload_n x dX6_results_0 rfl ?_
  refine j2_callVi x hb dX6_results_1 m_X6_isDrawn (CM_v (cx_isDrawn (d := d) hb) (jb_t hd)) wmX6_87 jc_10 rfl rfl rfl (Nat.le_of_ble_eq_true rfl) (j_fit_rm (by omega) (by omega) (by omega)) rfl ?_
  refine j_if_ne (tgt := 14) x dX6_results_4 (by decide) (fun hc => ?_) (fun hc => absurd hc (by decide))
  refine j_aload_n x dX6_results_14 rfl ?_
  refine j_iload_n x dX6_results_15 rfl ?_
  refine j2_callVi x hb dX6_results_16 m_X6_isMeeting (show CM (d + 1) 0 0 _ _ _ _ _ b Y M (.inl (some (.int 1))) M from CM_v (cx_isMeeting (d := d) hb) (jb_t ⟨nI_pos (by omega), by rw [hct, show (nI n - 1 : Int32) = nI (n - 1) from nI_sub (d := 1) (by omega)]; exact nI_nlt (by omega) (by omega)⟩)) wmX6_122 jc_10 rfl rfl rfl (Nat.le_of_ble_eq_true rfl) (j_fit_rm (by omega) (by omega) (by omega)) rfl ?_
  refine j_if_ne (tgt := 29) x dX6_results_19 (by decide) (fun hc => ?_) (fun hc => absurd hc (by decide))
  refine j_iload_n x dX6_results_29 rfl ?_
  refine j_iconst (v := 0) x dX6_results_30 (by decide) ?_
  refine j_bipush (v := 20) x dX6_results_31 (by decide) ?_
  refine j2_callSi x hb dX6_results_33 m_X6_in (cx_in (d := d) hb) wmX6_64 rfl (Nat.le_of_ble_eq_true rfl) (j_fit_rm (by omega) (by omega) (by omega)) rfl ?_
  refine j_if_eq (tgt := 49) x dX6_results_36 (by decide) (fun h1 => ?_) (fun h1 => ?_)
  · refine j_aload_n x dX6_results_49 rfl ?_
    refine j_iconst (v := 1) x dX6_results_50 (by decide) ?_
    refine j_iconst (v := 0) x dX6_results_51 (by decide) ?_
    refine j2_callVi x hb dX6_results_52 m_X6_refuses (cx_refuses (d := d) hb) wmX6_79 jc_10 rfl rfl rfl (Nat.le_of_ble_eq_true rfl) (j_fit_rm (by omega) (by omega) (by omega)) rfl ?_
    exact j_zreturn x hr dX6_results_55 (by first | decide | exact jisS_nar | exact gno_nar | exact jb_nar) (by omega) (by omega) ⟨by rw [show gRes M q u v = some (1, 0) from if_pos (fun z => jb_0.mp h1 z.1)]; rfl, by rw [show gRes M q u v = some (1, 0) from if_pos (fun z => jb_0.mp h1 z.1)]; rfl⟩
  · refine j_iload_n x dX6_results_39 rfl ?_
    refine j_iconst (v := 0) x dX6_results_40 (by decide) ?_
    refine j_bipush (v := 20) x dX6_results_41 (by decide) ?_
    refine j2_callSi x hb dX6_results_43 m_X6_in (cx_in (d := d) hb) wmX6_64 rfl (Nat.le_of_ble_eq_true rfl) (j_fit_rm (by omega) (by omega) (by omega)) rfl ?_
    refine j_if_ne (tgt := 56) x dX6_results_46 (by decide) (fun h2 => ?_) (fun h2 => ?_)
    · refine j_aload_n x dX6_results_56 rfl ?_
      refine j_iload_n x dX6_results_57 rfl ?_
      refine j2_callVi x hb dX6_results_58 m_X6_isPlayed (cx_isPlayed (d := d) hb (m1 := q) (by omega)) wmX6_72 jc_10 rfl rfl rfl (Nat.le_of_ble_eq_true rfl) (j_fit_rm (by omega) (by omega) (by omega)) rfl ?_
      refine j_if_eq (tgt := 72) x dX6_results_61 (by decide) (fun h3 => ?_) (fun h3 => ?_)
      · refine j_aload_n x dX6_results_72 rfl ?_
        refine j_iload_n x dX6_results_73 rfl ?_
        refine j_iconst (v := 2) x dX6_results_74 (by decide) ?_
        refine j2_callVi x hb dX6_results_75 m_X6_of (cx_of (d := d) hb (m1 := q) (w1 := 2) (by omega) (by decide)) wmX6_68 jc_10 rfl rfl rfl (Nat.le_of_ble_eq_true rfl) (j_fit_rm (by omega) (by omega) (by omega)) rfl ?_
        refine j_aload_n x dX6_results_78 rfl ?_
        refine j2_getr (k := 0) (r := 95) x hb dX6_results_79 jc_10 wfX6_9 (by decide) rfl ?_
        refine j_iconst (v := 2) x dX6_results_82 (by decide) ?_
        refine j2_ialn x hb dX6_results_83 fa_95 (j := 2) (vp_c (by decide)) (by decide) ?_
        refine j_icmp_eq (tgt := 100) x dX6_results_84 (by decide) (fun h4 => ?_) (fun h4 => ?_)
        · refine j_aload_n x dX6_results_100 rfl ?_
          refine j_iload_n x dX6_results_101 rfl ?_
          refine j_iconst (v := 4) x dX6_results_102 (by decide) ?_
          refine j_iconst (v := 1) x dX6_results_103 (by decide) ?_
          refine j2_callVv x hb dX6_results_104 m_X6_sets (cx_sets (d := d) hb (m1 := q) (w1 := 4) (by omega) (by decide)) wmX6_109 jc_10 rfl rfl rfl (Nat.le_of_ble_eq_true rfl) (j_fit_rm (by omega) (by omega) (by omega)) rfl ?_
          refine j_aload_n x dX6_results_107 rfl ?_
          refine j_iload_n x dX6_results_108 rfl ?_
          refine j_bipush (v := 6) x dX6_results_109 (by decide) ?_
          refine j_iload_n x dX6_results_111 rfl ?_
          refine j2_callVv x hb dX6_results_112 m_X6_sets (cx_sets (d := d) hb (m1 := q) (w1 := 6) (by omega) (by decide)) wmX6_109 jc_10 rfl rfl rfl (Nat.le_of_ble_eq_true rfl) (j_fit_rm (by omega) (by omega) (by omega)) rfl ?_
          refine j_aload_n x dX6_results_115 rfl ?_
          refine j_iload_n x dX6_results_116 rfl ?_
          refine j_bipush (v := 7) x dX6_results_117 (by decide) ?_
          refine j_iload_n x dX6_results_119 rfl ?_
          refine j2_callVv x hb dX6_results_120 m_X6_sets (cx_sets (d := d) hb (m1 := q) (w1 := 7) (by omega) (by decide)) wmX6_109 jc_10 rfl rfl rfl (Nat.le_of_ble_eq_true rfl) (j_fit_rm (by omega) (by omega) (by omega)) rfl ?_
          refine j_aload_n x dX6_results_123 rfl ?_
          refine j_aload_n x dX6_results_124 rfl ?_
          refine j2_callVi x hb dX6_results_125 m_X6_left (cx_left (d := d) hb hn (by rw [jsets_n (by omega), jsets_n (by omega), jsets_n (by omega)]; exact hct)) wmX6_125 jc_10 rfl rfl rfl (Nat.le_of_ble_eq_true rfl) (j_fit_rm (by omega) (by omega) (by omega)) rfl ?_
          refine j2_callVi x hb dX6_results_128 m_X6_does (cx_does (d := d) hb) wmX6_116 jc_10 rfl rfl rfl (Nat.le_of_ble_eq_true rfl) (j_fit_rm (by omega) (by omega) (by omega)) rfl ?_
          exact j_zreturn x hr dX6_results_131 (by first | decide | exact jisS_nar | exact gno_nar | exact jb_nar) (by omega) (by omega) ⟨by rw [show gRes M q u v = none from (if_neg (fun z => z ⟨jb_nz.mp h1, jb_nz.mp h2⟩)).trans ((if_neg (jb_0.mp h3)).trans (if_neg (fun z => z h4)))]; rfl, by rw [show gRes M q u v = none from (if_neg (fun z => z ⟨jb_nz.mp h1, jb_nz.mp h2⟩)).trans ((if_neg (jb_0.mp h3)).trans (if_neg (fun z => z h4)))]; rfl⟩
        · refine j_aload_n x dX6_results_87 rfl ?_
          refine j_bipush (v := 7) x dX6_results_88 (by decide) ?_
          refine j_aload_n x dX6_results_90 rfl ?_
          refine j_iload_n x dX6_results_91 rfl ?_
          refine j_iconst (v := 2) x dX6_results_92 (by decide) ?_
          refine j2_callVi x hb dX6_results_93 m_X6_of (cx_of (d := d) hb (m1 := q) (w1 := 2) (by omega) (by decide)) wmX6_68 jc_10 rfl rfl rfl (Nat.le_of_ble_eq_true rfl) (j_fit_rm (by omega) (by omega) (by omega)) rfl ?_
          refine j2_callVi x hb dX6_results_96 m_X6_refuses (cx_refuses (d := d) hb) wmX6_79 jc_10 rfl rfl rfl (Nat.le_of_ble_eq_true rfl) (j_fit_rm (by omega) (by omega) (by omega)) rfl ?_
          exact j_zreturn x hr dX6_results_99 (by first | decide | exact jisS_nar | exact gno_nar | exact jb_nar) (by omega) (by omega) ⟨by rw [show gRes M q u v = some (7, jof M q 2) from (if_neg (fun z => z ⟨jb_nz.mp h1, jb_nz.mp h2⟩)).trans ((if_neg (jb_0.mp h3)).trans (if_pos h4))]; rfl, by rw [show gRes M q u v = some (7, jof M q 2) from (if_neg (fun z => z ⟨jb_nz.mp h1, jb_nz.mp h2⟩)).trans ((if_neg (jb_0.mp h3)).trans (if_pos h4))]; rfl⟩
      · refine j_aload_n x dX6_results_64 rfl ?_
        refine j_bipush (v := 8) x dX6_results_65 (by decide) ?_
        refine j_iconst (v := 0) x dX6_results_67 (by decide) ?_
        refine j2_callVi x hb dX6_results_68 m_X6_refuses (cx_refuses (d := d) hb) wmX6_79 jc_10 rfl rfl rfl (Nat.le_of_ble_eq_true rfl) (j_fit_rm (by omega) (by omega) (by omega)) rfl ?_
        exact j_zreturn x hr dX6_results_71 (by first | decide | exact jisS_nar | exact gno_nar | exact jb_nar) (by omega) (by omega) ⟨by rw [show gRes M q u v = some (8, 0) from (if_neg (fun z => z ⟨jb_nz.mp h1, jb_nz.mp h2⟩)).trans (if_pos (jb_nz.mp h3))]; rfl, by rw [show gRes M q u v = some (8, 0) from (if_neg (fun z => z ⟨jb_nz.mp h1, jb_nz.mp h2⟩)).trans (if_pos (jb_nz.mp h3))]; rfl⟩
    · refine j_aload_n x dX6_results_49 rfl ?_
      refine j_iconst (v := 1) x dX6_results_50 (by decide) ?_
      refine j_iconst (v := 0) x dX6_results_51 (by decide) ?_
      refine j2_callVi x hb dX6_results_52 m_X6_refuses (cx_refuses (d := d) hb) wmX6_79 jc_10 rfl rfl rfl (Nat.le_of_ble_eq_true rfl) (j_fit_rm (by omega) (by omega) (by omega)) rfl ?_
      exact j_zreturn x hr dX6_results_55 (by first | decide | exact jisS_nar | exact gno_nar | exact jb_nar) (by omega) (by omega) ⟨by rw [show gRes M q u v = some (1, 0) from if_pos (fun z => jb_0.mp h2 z.2)]; rfl, by rw [show gRes M q u v = some (1, 0) from if_pos (fun z => jb_0.mp h2 z.2)]; rfl⟩
theorem cx_takesBack_q {d : Nat} {b : SBt} {Y : OUt} {M : MM} (hb : 104 ≤ b.2.1) (hd : ¬ M 95 1 ≤ 0) {n q : Nat} (hn : n ≤ 56) (hct : M 95 9 = nI n) (hq : q < n) : CM (d + 3) 0 0 yX6_takesBack cX6_takesBack 2 (some .boolean) [.ref 94, .int (nI q)] b Y M (.inl (some (.int (gno (gBack M q))))) (gst M (gBack M q) (jm (gBackS M q) 94 18 (jsum (gLeft (gBackS M q)) n))) := by
  refine Con.of (by decide +kernel) (Nat.le_of_ble_eq_true rfl) rfl fun p l e s m args below meth c D tyc A ad0 x hr htab hname => ?_
  change JJ _ _ _ _ _ _ _ _ _ _ _ _ _ _ _ _ _ 0 [some (.ref 94), some (.int (nI q))] [] _ 0 0
  refine j_aload_n x dX6_takesBack_0 rfl ?_
  refine j2_callVi x hb dX6_takesBack_1 m_X6_isDrawn (CM_v (cx_isDrawn (d := d) hb) (jb_t hd)) wmX6_87 jc_10 rfl rfl rfl (Nat.le_of_ble_eq_true rfl) (j_fit_rm (by omega) (by omega) (by omega)) rfl ?_
  refine j_if_ne (tgt := 14) x dX6_takesBack_4 (by decide) (fun hc => ?_) (fun hc => absurd hc (by decide))
  refine j_aload_n x dX6_takesBack_14 rfl ?_
  refine j_iload_n x dX6_takesBack_15 rfl ?_
  refine j2_callVi x hb dX6_takesBack_16 m_X6_isMeeting (show CM (d + 1) 0 0 _ _ _ _ _ b Y M (.inl (some (.int 1))) M from CM_v (cx_isMeeting (d := d) hb) (jb_t ⟨nI_pos (by omega), by rw [hct, show (nI n - 1 : Int32) = nI (n - 1) from nI_sub (d := 1) (by omega)]; exact nI_nlt (by omega) (by omega)⟩)) wmX6_122 jc_10 rfl rfl rfl (Nat.le_of_ble_eq_true rfl) (j_fit_rm (by omega) (by omega) (by omega)) rfl ?_
  refine j_if_ne (tgt := 29) x dX6_takesBack_19 (by decide) (fun hc => ?_) (fun hc => absurd hc (by decide))
  refine j_aload_n x dX6_takesBack_29 rfl ?_
  refine j_iload_n x dX6_takesBack_30 rfl ?_
  refine j2_callVi x hb dX6_takesBack_31 m_X6_isPlayed (cx_isPlayed (d := d) hb (m1 := q) (by omega)) wmX6_72 jc_10 rfl rfl rfl (Nat.le_of_ble_eq_true rfl) (j_fit_rm (by omega) (by omega) (by omega)) rfl ?_
  refine j_if_ne (tgt := 49) x dX6_takesBack_34 (by decide) (fun h3 => ?_) (fun h3 => ?_)
  · refine j_aload_n x dX6_takesBack_49 rfl ?_
    refine j_iload_n x dX6_takesBack_50 rfl ?_
    refine j_iconst (v := 2) x dX6_takesBack_51 (by decide) ?_
    refine j2_callVi x hb dX6_takesBack_52 m_X6_of (cx_of (d := d) hb (m1 := q) (w1 := 2) (by omega) (by decide)) wmX6_68 jc_10 rfl rfl rfl (Nat.le_of_ble_eq_true rfl) (j_fit_rm (by omega) (by omega) (by omega)) rfl ?_
    refine j_aload_n x dX6_takesBack_55 rfl ?_
    refine j2_getr (k := 0) (r := 95) x hb dX6_takesBack_56 jc_10 wfX6_9 (by decide) rfl ?_
    refine j_iconst (v := 2) x dX6_takesBack_59 (by decide) ?_
    refine j2_ialn x hb dX6_takesBack_60 fa_95 (j := 2) (vp_c (by decide)) (by decide) ?_
    refine j_icmp_eq (tgt := 77) x dX6_takesBack_61 (by decide) (fun h4 => ?_) (fun h4 => ?_)
    · refine j_aload_n x dX6_takesBack_77 rfl ?_
      refine j_iload_n x dX6_takesBack_78 rfl ?_
      refine j_iconst (v := 4) x dX6_takesBack_79 (by decide) ?_
      refine j_iconst (v := 0) x dX6_takesBack_80 (by decide) ?_
      refine j2_callVv x hb dX6_takesBack_81 m_X6_sets (cx_sets (d := d) hb (m1 := q) (w1 := 4) (by omega) (by decide)) wmX6_109 jc_10 rfl rfl rfl (Nat.le_of_ble_eq_true rfl) (j_fit_rm (by omega) (by omega) (by omega)) rfl ?_
      refine j_aload_n x dX6_takesBack_84 rfl ?_
      refine j_iload_n x dX6_takesBack_85 rfl ?_
      refine j_bipush (v := 6) x dX6_takesBack_86 (by decide) ?_
      refine j_iconst (v := 0) x dX6_takesBack_88 (by decide) ?_
      refine j2_callVv x hb dX6_takesBack_89 m_X6_sets (cx_sets (d := d) hb (m1 := q) (w1 := 6) (by omega) (by decide)) wmX6_109 jc_10 rfl rfl rfl (Nat.le_of_ble_eq_true rfl) (j_fit_rm (by omega) (by omega) (by omega)) rfl ?_
      refine j_aload_n x dX6_takesBack_92 rfl ?_
      refine j_iload_n x dX6_takesBack_93 rfl ?_
      refine j_bipush (v := 7) x dX6_takesBack_94 (by decide) ?_
      refine j_iconst (v := 0) x dX6_takesBack_96 (by decide) ?_
      refine j2_callVv x hb dX6_takesBack_97 m_X6_sets (cx_sets (d := d) hb (m1 := q) (w1 := 7) (by omega) (by decide)) wmX6_109 jc_10 rfl rfl rfl (Nat.le_of_ble_eq_true rfl) (j_fit_rm (by omega) (by omega) (by omega)) rfl ?_
      refine j_aload_n x dX6_takesBack_100 rfl ?_
      refine j_aload_n x dX6_takesBack_101 rfl ?_
      refine j2_callVi x hb dX6_takesBack_102 m_X6_left (cx_left (d := d) hb hn (by rw [jsets_n (by omega), jsets_n (by omega), jsets_n (by omega)]; exact hct)) wmX6_125 jc_10 rfl rfl rfl (Nat.le_of_ble_eq_true rfl) (j_fit_rm (by omega) (by omega) (by omega)) rfl ?_
      refine j2_callVi x hb dX6_takesBack_105 m_X6_does (cx_does (d := d) hb) wmX6_116 jc_10 rfl rfl rfl (Nat.le_of_ble_eq_true rfl) (j_fit_rm (by omega) (by omega) (by omega)) rfl ?_
      exact j_zreturn x hr dX6_takesBack_108 (by first | decide | exact jisS_nar | exact gno_nar | exact jb_nar) (by omega) (by omega) ⟨by rw [show gBack M q = none from (if_neg (fun z => z (jb_nz.mp h3))).trans (if_neg (fun z => z h4))]; rfl, by rw [show gBack M q = none from (if_neg (fun z => z (jb_nz.mp h3))).trans (if_neg (fun z => z h4))]; rfl⟩
    · refine j_aload_n x dX6_takesBack_64 rfl ?_
      refine j_bipush (v := 7) x dX6_takesBack_65 (by decide) ?_
      refine j_aload_n x dX6_takesBack_67 rfl ?_
      refine j_iload_n x dX6_takesBack_68 rfl ?_
      refine j_iconst (v := 2) x dX6_takesBack_69 (by decide) ?_
      refine j2_callVi x hb dX6_takesBack_70 m_X6_of (cx_of (d := d) hb (m1 := q) (w1 := 2) (by omega) (by decide)) wmX6_68 jc_10 rfl rfl rfl (Nat.le_of_ble_eq_true rfl) (j_fit_rm (by omega) (by omega) (by omega)) rfl ?_
      refine j2_callVi x hb dX6_takesBack_73 m_X6_refuses (cx_refuses (d := d) hb) wmX6_79 jc_10 rfl rfl rfl (Nat.le_of_ble_eq_true rfl) (j_fit_rm (by omega) (by omega) (by omega)) rfl ?_
      exact j_zreturn x hr dX6_takesBack_76 (by first | decide | exact jisS_nar | exact gno_nar | exact jb_nar) (by omega) (by omega) ⟨by rw [show gBack M q = some (7, jof M q 2) from (if_neg (fun z => z (jb_nz.mp h3))).trans (if_pos h4)]; rfl, by rw [show gBack M q = some (7, jof M q 2) from (if_neg (fun z => z (jb_nz.mp h3))).trans (if_pos h4)]; rfl⟩
  · refine j_aload_n x dX6_takesBack_37 rfl ?_
    refine j_bipush (v := 9) x dX6_takesBack_38 (by decide) ?_
    refine j_aload_n x dX6_takesBack_40 rfl ?_
    refine j_iload_n x dX6_takesBack_41 rfl ?_
    refine j2_callVi x hb dX6_takesBack_42 m_X6_how (cx_how (d := d) hb (m1 := q) (by omega)) wmX6_131 jc_10 rfl rfl rfl (Nat.le_of_ble_eq_true rfl) (j_fit_rm (by omega) (by omega) (by omega)) rfl ?_
    refine j2_callVi x hb dX6_takesBack_45 m_X6_refuses (cx_refuses (d := d) hb) wmX6_79 jc_10 rfl rfl rfl (Nat.le_of_ble_eq_true rfl) (j_fit_rm (by omega) (by omega) (by omega)) rfl ?_
    exact j_zreturn x hr dX6_takesBack_48 (by first | decide | exact jisS_nar | exact gno_nar | exact jb_nar) (by omega) (by omega) ⟨by rw [show gBack M q = some (9, jhow M q) from if_pos (jb_0.mp h3)]; rfl, by rw [show gBack M q = some (9, jhow M q) from if_pos (jb_0.mp h3)]; rfl⟩
theorem cx_putsOff_q {d : Nat} {b : SBt} {Y : OUt} {M : MM} (hb : 104 ≤ b.2.1) {u : Int32} (hd : ¬ M 95 1 ≤ 0) {n q : Nat} (hn : n ≤ 56) (hct : M 95 9 = nI n) (hq : q < n) (hho : ∀ i, i < n → ∃ h, h < 8 ∧ jof M i 0 = nI h) : CM (d + 3) 0 0 yX6_putsOff cX6_putsOff 4 (some .boolean) [.ref 94, .int (nI q), .int u] b Y M (.inl (some (.int (gno (gPut M q u))))) (gst M (gPut M q u) (jm (gPutS M q u) 94 18 (jsum (gCl (gPutS M q u) q (M 95 2 + u)) n))) := by
  refine Con.of (by decide +kernel) (Nat.le_of_ble_eq_true rfl) rfl fun p l e s m args below meth c D tyc A ad0 x hr htab hname => ?_
  change JJ _ _ _ _ _ _ _ _ _ _ _ _ _ _ _ _ _ 0 [some (.ref 94), some (.int (nI q)), some (.int u), none] [] _ 0 0
  refine j_aload_n x dX6_putsOff_0 rfl ?_
  refine j2_callVi x hb dX6_putsOff_1 m_X6_isDrawn (CM_v (cx_isDrawn (d := d) hb) (jb_t hd)) wmX6_87 jc_10 rfl rfl rfl (Nat.le_of_ble_eq_true rfl) (j_fit_rm (by omega) (by omega) (by omega)) rfl ?_
  refine j_if_ne (tgt := 14) x dX6_putsOff_4 (by decide) (fun hc => ?_) (fun hc => absurd hc (by decide))
  refine j_aload_n x dX6_putsOff_14 rfl ?_
  refine j_iload_n x dX6_putsOff_15 rfl ?_
  refine j2_callVi x hb dX6_putsOff_16 m_X6_isMeeting (show CM (d + 1) 0 0 _ _ _ _ _ b Y M (.inl (some (.int 1))) M from CM_v (cx_isMeeting (d := d) hb) (jb_t ⟨nI_pos (by omega), by rw [hct, show (nI n - 1 : Int32) = nI (n - 1) from nI_sub (d := 1) (by omega)]; exact nI_nlt (by omega) (by omega)⟩)) wmX6_122 jc_10 rfl rfl rfl (Nat.le_of_ble_eq_true rfl) (j_fit_rm (by omega) (by omega) (by omega)) rfl ?_
  refine j_if_ne (tgt := 29) x dX6_putsOff_19 (by decide) (fun hc => ?_) (fun hc => absurd hc (by decide))
  refine j_iload_n x dX6_putsOff_29 rfl ?_
  refine j_iconst (v := 1) x dX6_putsOff_30 (by decide) ?_
  refine j_bipush (v := 9) x dX6_putsOff_31 (by decide) ?_
  refine j2_callSi x hb dX6_putsOff_33 m_X6_in (cx_in (d := d) hb) wmX6_64 rfl (Nat.le_of_ble_eq_true rfl) (j_fit_rm (by omega) (by omega) (by omega)) rfl ?_
  refine j_if_ne (tgt := 46) x dX6_putsOff_36 (by decide) (fun h1 => ?_) (fun h1 => ?_)
  · refine j_aload_n x dX6_putsOff_46 rfl ?_
    refine j_iload_n x dX6_putsOff_47 rfl ?_
    refine j2_callVi x hb dX6_putsOff_48 m_X6_isPlayed (cx_isPlayed (d := d) hb (m1 := q) (by omega)) wmX6_72 jc_10 rfl rfl rfl (Nat.le_of_ble_eq_true rfl) (j_fit_rm (by omega) (by omega) (by omega)) rfl ?_
    refine j_if_eq (tgt := 62) x dX6_putsOff_51 (by decide) (fun h3 => ?_) (fun h3 => ?_)
    · refine j_aload_n x dX6_putsOff_62 rfl ?_
      refine j_iload_n x dX6_putsOff_63 rfl ?_
      refine j_iconst (v := 2) x dX6_putsOff_64 (by decide) ?_
      refine j2_callVi x hb dX6_putsOff_65 m_X6_of (cx_of (d := d) hb (m1 := q) (w1 := 2) (by omega) (by decide)) wmX6_68 jc_10 rfl rfl rfl (Nat.le_of_ble_eq_true rfl) (j_fit_rm (by omega) (by omega) (by omega)) rfl ?_
      refine j_aload_n x dX6_putsOff_68 rfl ?_
      refine j2_getr (k := 0) (r := 95) x hb dX6_putsOff_69 jc_10 wfX6_9 (by decide) rfl ?_
      refine j_iconst (v := 2) x dX6_putsOff_72 (by decide) ?_
      refine j2_ialn x hb dX6_putsOff_73 fa_95 (j := 2) (vp_c (by decide)) (by decide) ?_
      refine j_icmp_eq (tgt := 90) x dX6_putsOff_74 (by decide) (fun h4 => ?_) (fun h4 => ?_)
      · refine j_aload_n x dX6_putsOff_90 rfl ?_
        refine j2_getr (k := 0) (r := 95) x hb dX6_putsOff_91 jc_10 wfX6_9 (by decide) rfl ?_
        refine j_iconst (v := 2) x dX6_putsOff_94 (by decide) ?_
        refine j2_ialn x hb dX6_putsOff_95 fa_95 (j := 2) (vp_c (by decide)) (by decide) ?_
        refine j_iload_n x dX6_putsOff_96 rfl ?_
        refine j_iadd x dX6_putsOff_97 ?_
        refine j_istore_n x dX6_putsOff_98 (by decide) rfl ?_
        refine j_aload_n x dX6_putsOff_99 rfl ?_
        refine j_iload_n x dX6_putsOff_100 rfl ?_
        refine j2_callVi x hb dX6_putsOff_101 m_X6_isWeek (cx_isWeek (d := d) hb) wmX6_140 jc_10 rfl rfl rfl (Nat.le_of_ble_eq_true rfl) (j_fit_rm (by omega) (by omega) (by omega)) rfl ?_
        refine j_if_ne (tgt := 115) x dX6_putsOff_104 (by decide) (fun h5 => ?_) (fun h5 => ?_)
        · refine j_aload_n x dX6_putsOff_115 rfl ?_
          refine j_iload_n x dX6_putsOff_116 rfl ?_
          refine j_iconst (v := 2) x dX6_putsOff_117 (by decide) ?_
          refine j_iload_n x dX6_putsOff_118 rfl ?_
          refine j2_callVv x hb dX6_putsOff_119 m_X6_sets (cx_sets (d := d) hb (m1 := q) (w1 := 2) (by omega) (by decide)) wmX6_109 jc_10 rfl rfl rfl (Nat.le_of_ble_eq_true rfl) (j_fit_rm (by omega) (by omega) (by omega)) rfl ?_
          refine j_aload_n x dX6_putsOff_122 rfl ?_
          refine j_iload_n x dX6_putsOff_123 rfl ?_
          refine j_iconst (v := 5) x dX6_putsOff_124 (by decide) ?_
          refine j_iconst (v := 1) x dX6_putsOff_125 (by decide) ?_
          refine j2_callVv x hb dX6_putsOff_126 m_X6_sets (cx_sets (d := d) hb (m1 := q) (w1 := 5) (by omega) (by decide)) wmX6_109 jc_10 rfl rfl rfl (Nat.le_of_ble_eq_true rfl) (j_fit_rm (by omega) (by omega) (by omega)) rfl ?_
          refine j_aload_n x dX6_putsOff_129 rfl ?_
          refine j_aload_n x dX6_putsOff_130 rfl ?_
          refine j_iload_n x dX6_putsOff_131 rfl ?_
          refine j_iload_n x dX6_putsOff_132 rfl ?_
          refine j2_callVi x hb dX6_putsOff_133 m_X6_clashes (cx_clashesOf (d := d) (q := q) hb hn (by rw [jsets_n (by omega), jsets_n (by omega)]; exact hct) hq (fun i hi => by rw [jsets_of (by omega) (by decide) (by decide), jsets_of (by omega) (by decide) (by decide)]; exact hho i hi)) wmX6_143 jc_10 rfl rfl rfl (Nat.le_of_ble_eq_true rfl) (j_fit_rm (by omega) (by omega) (by omega)) rfl ?_
          refine j2_callVi x hb dX6_putsOff_136 m_X6_does (cx_does (d := d) hb) wmX6_116 jc_10 rfl rfl rfl (Nat.le_of_ble_eq_true rfl) (j_fit_rm (by omega) (by omega) (by omega)) rfl ?_
          exact j_zreturn x hr dX6_putsOff_139 (by first | decide | exact jisS_nar | exact gno_nar | exact jb_nar) (by omega) (by omega) ⟨by rw [show gPut M q u = none from (if_neg (fun z => z (jb_nz.mp h1))).trans ((if_neg (jb_0.mp h3)).trans ((if_neg (fun z => z h4)).trans (if_neg (fun z => z (jb_nz.mp h5)))))]; rfl, by rw [show gPut M q u = none from (if_neg (fun z => z (jb_nz.mp h1))).trans ((if_neg (jb_0.mp h3)).trans ((if_neg (fun z => z h4)).trans (if_neg (fun z => z (jb_nz.mp h5)))))]; rfl⟩
        · refine j_aload_n x dX6_putsOff_107 rfl ?_
          refine j_bipush (v := 10) x dX6_putsOff_108 (by decide) ?_
          refine j_iload_n x dX6_putsOff_110 rfl ?_
          refine j2_callVi x hb dX6_putsOff_111 m_X6_refuses (cx_refuses (d := d) hb) wmX6_79 jc_10 rfl rfl rfl (Nat.le_of_ble_eq_true rfl) (j_fit_rm (by omega) (by omega) (by omega)) rfl ?_
          exact j_zreturn x hr dX6_putsOff_114 (by first | decide | exact jisS_nar | exact gno_nar | exact jb_nar) (by omega) (by omega) ⟨by rw [show gPut M q u = some (10, M 95 2 + u) from (if_neg (fun z => z (jb_nz.mp h1))).trans ((if_neg (jb_0.mp h3)).trans ((if_neg (fun z => z h4)).trans (if_pos (jb_0.mp h5))))]; rfl, by rw [show gPut M q u = some (10, M 95 2 + u) from (if_neg (fun z => z (jb_nz.mp h1))).trans ((if_neg (jb_0.mp h3)).trans ((if_neg (fun z => z h4)).trans (if_pos (jb_0.mp h5))))]; rfl⟩
      · refine j_aload_n x dX6_putsOff_77 rfl ?_
        refine j_bipush (v := 7) x dX6_putsOff_78 (by decide) ?_
        refine j_aload_n x dX6_putsOff_80 rfl ?_
        refine j_iload_n x dX6_putsOff_81 rfl ?_
        refine j_iconst (v := 2) x dX6_putsOff_82 (by decide) ?_
        refine j2_callVi x hb dX6_putsOff_83 m_X6_of (cx_of (d := d) hb (m1 := q) (w1 := 2) (by omega) (by decide)) wmX6_68 jc_10 rfl rfl rfl (Nat.le_of_ble_eq_true rfl) (j_fit_rm (by omega) (by omega) (by omega)) rfl ?_
        refine j2_callVi x hb dX6_putsOff_86 m_X6_refuses (cx_refuses (d := d) hb) wmX6_79 jc_10 rfl rfl rfl (Nat.le_of_ble_eq_true rfl) (j_fit_rm (by omega) (by omega) (by omega)) rfl ?_
        exact j_zreturn x hr dX6_putsOff_89 (by first | decide | exact jisS_nar | exact gno_nar | exact jb_nar) (by omega) (by omega) ⟨by rw [show gPut M q u = some (7, jof M q 2) from (if_neg (fun z => z (jb_nz.mp h1))).trans ((if_neg (jb_0.mp h3)).trans (if_pos h4))]; rfl, by rw [show gPut M q u = some (7, jof M q 2) from (if_neg (fun z => z (jb_nz.mp h1))).trans ((if_neg (jb_0.mp h3)).trans (if_pos h4))]; rfl⟩
    · refine j_aload_n x dX6_putsOff_54 rfl ?_
      refine j_bipush (v := 8) x dX6_putsOff_55 (by decide) ?_
      refine j_iconst (v := 0) x dX6_putsOff_57 (by decide) ?_
      refine j2_callVi x hb dX6_putsOff_58 m_X6_refuses (cx_refuses (d := d) hb) wmX6_79 jc_10 rfl rfl rfl (Nat.le_of_ble_eq_true rfl) (j_fit_rm (by omega) (by omega) (by omega)) rfl ?_
      exact j_zreturn x hr dX6_putsOff_61 (by first | decide | exact jisS_nar | exact gno_nar | exact jb_nar) (by omega) (by omega) ⟨by rw [show gPut M q u = some (8, 0) from (if_neg (fun z => z (jb_nz.mp h1))).trans (if_pos (jb_nz.mp h3))]; rfl, by rw [show gPut M q u = some (8, 0) from (if_neg (fun z => z (jb_nz.mp h1))).trans (if_pos (jb_nz.mp h3))]; rfl⟩
  · refine j_aload_n x dX6_putsOff_39 rfl ?_
    refine j_iconst (v := 1) x dX6_putsOff_40 (by decide) ?_
    refine j_iconst (v := 0) x dX6_putsOff_41 (by decide) ?_
    refine j2_callVi x hb dX6_putsOff_42 m_X6_refuses (cx_refuses (d := d) hb) wmX6_79 jc_10 rfl rfl rfl (Nat.le_of_ble_eq_true rfl) (j_fit_rm (by omega) (by omega) (by omega)) rfl ?_
    exact j_zreturn x hr dX6_putsOff_45 (by first | decide | exact jisS_nar | exact gno_nar | exact jb_nar) (by omega) (by omega) ⟨by rw [show gPut M q u = some (1, 0) from if_pos (jb_0.mp h1)]; rfl, by rw [show gPut M q u = some (1, 0) from if_pos (jb_0.mp h1)]; rfl⟩
theorem cx_comesNext_d {d : Nat} {b : SBt} {Y : OUt} {M : MM} (hb : 104 ≤ b.2.1) (hd : ¬ M 95 1 ≤ 0) {n : Nat} (hn : n ≤ 56) (hct : M 95 9 = nI n) : CM (d + 3) 0 0 yX6_comesNext cX6_comesNext 2 (some .boolean) [.ref 94] b Y M (.inl (some (.int (gno (gNext M n))))) (gst M (gNext M n) (jm (jm M 95 2 (M 95 2 + 1)) 94 18 (M 95 2 + 1))) := by
  refine Con.of (by decide +kernel) (Nat.le_of_ble_eq_true rfl) rfl fun p l e s m args below meth c D tyc A ad0 x hr htab hname => ?_
  change JJ _ _ _ _ _ _ _ _ _ _ _ _ _ _ _ _ _ 0 [some (.ref 94), none] [] _ 0 0
  refine j_aload_n x dX6_comesNext_0 rfl ?_
  refine j2_callVi x hb dX6_comesNext_1 m_X6_isDrawn (CM_v (cx_isDrawn (d := d) hb) (jb_t hd)) wmX6_87 jc_10 rfl rfl rfl (Nat.le_of_ble_eq_true rfl) (j_fit_rm (by omega) (by omega) (by omega)) rfl ?_
  refine j_if_ne (tgt := 14) x dX6_comesNext_4 (by decide) (fun hc => ?_) (fun hc => absurd hc (by decide))
  refine j_iconst (v := 0) x dX6_comesNext_14 (by decide) ?_
  refine j_istore_n x dX6_comesNext_15 (by decide) rfl ?_
  refine j_for (n) (fun j => [some (.ref 94), some (.int (nI j))]) (fun j => M) (fun j => jfst (gLeft M) j = -1) (rfl) (rfl) (rfl) (fun j hj hP ih => ?_) (fun hP => ?_)
  · refine j_iload_n x dX6_comesNext_16 rfl ?_
    refine j_aload_n x dX6_comesNext_17 rfl ?_
    refine j2_getr (k := 0) (r := 95) x hb dX6_comesNext_18 jc_10 wfX6_9 (by decide) rfl ?_
    refine j_bipush (v := 9) x dX6_comesNext_21 (by decide) ?_
    refine j2_ialn x hb dX6_comesNext_23 fa_95 (j := 9) (vp_c (by decide)) (by decide) ?_; rw [hct]
    refine j_icmp_ge (tgt := 64) x dX6_comesNext_24 (by decide) (fun hc => absurd hc (nI_ge hj (by omega))) (fun hc => ?_)
    refine j_aload_n x dX6_comesNext_27 rfl ?_
    refine j_iload_n x dX6_comesNext_28 rfl ?_
    refine j_iconst (v := 2) x dX6_comesNext_29 (by decide) ?_
    refine j2_callVi x hb dX6_comesNext_30 m_X6_of (cx_of (d := d) hb (m1 := j) (w1 := 2) (by omega) (by decide)) wmX6_68 jc_10 rfl rfl rfl (Nat.le_of_ble_eq_true rfl) (j_fit_rm (by omega) (by omega) (by omega)) rfl ?_
    refine j_aload_n x dX6_comesNext_33 rfl ?_
    refine j2_getr (k := 0) (r := 95) x hb dX6_comesNext_34 jc_10 wfX6_9 (by decide) rfl ?_
    refine j_iconst (v := 2) x dX6_comesNext_37 (by decide) ?_
    refine j2_ialn x hb dX6_comesNext_38 fa_95 (j := 2) (vp_c (by decide)) (by decide) ?_
    refine j_icmp_ne (tgt := 58) x dX6_comesNext_39 (by decide) (fun h1 => ?_) (fun h1 => ?_)
    · refine j_iinc x dX6_comesNext_58 rfl (by decide) rfl ?_
      refine j_goto (tgt := 16) x dX6_comesNext_61 (by decide) ?_
      exact j_goal (ih (jfst_no hP (fun z => absurd ((show gLeft M j = 0 from jb_f (fun z => h1 z.1)).symm.trans z) (by decide)))) (wk_c rfl (wk_c (congrArg (fun z => some (Value.int z)) (nI_1 _)) (wk_0))) (rfl)
    · refine j_aload_n x dX6_comesNext_42 rfl ?_
      refine j_iload_n x dX6_comesNext_43 rfl ?_
      refine j2_callVi x hb dX6_comesNext_44 m_X6_isPlayed (cx_isPlayed (d := d) hb (m1 := j) (by omega)) wmX6_72 jc_10 rfl rfl rfl (Nat.le_of_ble_eq_true rfl) (j_fit_rm (by omega) (by omega) (by omega)) rfl ?_
      refine j_if_ne (tgt := 58) x dX6_comesNext_47 (by decide) (fun h2 => ?_) (fun h2 => ?_)
      · refine j_iinc x dX6_comesNext_58 rfl (by decide) rfl ?_
        refine j_goto (tgt := 16) x dX6_comesNext_61 (by decide) ?_
        exact j_goal (ih (jfst_no hP (fun z => absurd ((show gLeft M j = 0 from jb_f (fun z => z.2 (jb_nz.mp h2))).symm.trans z) (by decide)))) (wk_c rfl (wk_c (congrArg (fun z => some (Value.int z)) (nI_1 _)) (wk_0))) (rfl)
      · refine j_aload_n x dX6_comesNext_50 rfl ?_
        refine j_bipush (v := 11) x dX6_comesNext_51 (by decide) ?_
        refine j_iload_n x dX6_comesNext_53 rfl ?_
        refine j2_callVi x hb dX6_comesNext_54 m_X6_refuses (cx_refuses (d := d) hb) wmX6_79 jc_10 rfl rfl rfl (Nat.le_of_ble_eq_true rfl) (j_fit_rm (by omega) (by omega) (by omega)) rfl ?_
        exact j_zreturn x hr dX6_comesNext_57 (by first | decide | exact jisS_nar | exact gno_nar | exact jb_nar) (by omega) (by omega) ⟨by rw [show gNext M n = some (11, jfst (gLeft M) n) from if_pos (show ¬ jfst (gLeft M) n = -1 from fun z => absurd ((jfst_at hP (show gLeft M j = 1 from jb_t ⟨h1, jb_0.mp h2⟩) (by omega) hj).symm.trans z) (nI_nm1 (by omega)))]; rfl, by rw [show gNext M n = some (11, nI j) from (if_pos (show ¬ jfst (gLeft M) n = -1 from fun z => absurd ((jfst_at hP (show gLeft M j = 1 from jb_t ⟨h1, jb_0.mp h2⟩) (by omega) hj).symm.trans z) (nI_nm1 (by omega)))).trans (by rw [jfst_at hP (show gLeft M j = 1 from jb_t ⟨h1, jb_0.mp h2⟩) (by omega) hj])]; rfl⟩
  refine j_iload_n x dX6_comesNext_16 rfl ?_
  refine j_aload_n x dX6_comesNext_17 rfl ?_
  refine j2_getr (k := 0) (r := 95) x hb dX6_comesNext_18 jc_10 wfX6_9 (by decide) rfl ?_
  refine j_bipush (v := 9) x dX6_comesNext_21 (by decide) ?_
  refine j2_ialn x hb dX6_comesNext_23 fa_95 (j := 9) (vp_c (by decide)) (by decide) ?_; rw [hct]
  refine j_icmp_ge (tgt := 64) x dX6_comesNext_24 (by decide) (fun hc => ?_) (fun hc => absurd (nI_le (Nat.le_refl _) (by omega)) hc)
  refine j_aload_n x dX6_comesNext_64 rfl ?_
  refine j2_getr (k := 0) (r := 95) x hb dX6_comesNext_65 jc_10 wfX6_9 (by decide) rfl ?_
  refine j_iconst (v := 2) x dX6_comesNext_68 (by decide) ?_
  refine j2_ialn x hb dX6_comesNext_69 fa_95 (j := 2) (vp_c (by decide)) (by decide) ?_
  refine j_aload_n x dX6_comesNext_70 rfl ?_
  refine j2_getr (k := 0) (r := 95) x hb dX6_comesNext_71 jc_10 wfX6_9 (by decide) rfl ?_
  refine j_iconst (v := 1) x dX6_comesNext_74 (by decide) ?_
  refine j2_ialn x hb dX6_comesNext_75 fa_95 (j := 1) (vp_c (by decide)) (by decide) ?_
  refine j_iconst (v := 1) x dX6_comesNext_76 (by decide) ?_
  refine j_isub x dX6_comesNext_77 ?_
  refine j_icmp_ne (tgt := 94) x dX6_comesNext_78 (by decide) (fun h6 => ?_) (fun h6 => ?_)
  · refine j_aload_n x dX6_comesNext_94 rfl ?_
    refine j2_getr (k := 0) (r := 95) x hb dX6_comesNext_95 jc_10 wfX6_9 (by decide) rfl ?_
    refine j_iconst (v := 2) x dX6_comesNext_98 (by decide) ?_
    refine j_dup2 x dX6_comesNext_99 rfl rfl ?_
    refine j2_ialn x hb dX6_comesNext_100 fa_95 (j := 2) (vp_c (by decide)) (by decide) ?_
    refine j_iconst (v := 1) x dX6_comesNext_101 (by decide) ?_
    refine j_iadd x dX6_comesNext_102 ?_
    refine j2_iasn x hb dX6_comesNext_103 fa_95 (j := 2) (vp_c (by decide)) (by decide) ?_
    refine j_aload_n x dX6_comesNext_104 rfl ?_
    refine j_aload_n x dX6_comesNext_105 rfl ?_
    refine j2_getr (k := 0) (r := 95) x hb dX6_comesNext_106 jc_10 wfX6_9 (by decide) rfl ?_
    refine j_iconst (v := 2) x dX6_comesNext_109 (by decide) ?_
    refine j2_ialn x hb dX6_comesNext_110 fa_95 (j := 2) (vp_c (by decide)) (by decide) ?_; rw [jm_s]
    refine j2_callVi x hb dX6_comesNext_111 m_X6_does (cx_does (d := d) hb) wmX6_116 jc_10 rfl rfl rfl (Nat.le_of_ble_eq_true rfl) (j_fit_rm (by omega) (by omega) (by omega)) rfl ?_
    exact j_zreturn x hr dX6_comesNext_114 (by first | decide | exact jisS_nar | exact gno_nar | exact jb_nar) (by omega) (by omega) ⟨by rw [show gNext M n = none from (if_neg (fun z => z hP)).trans (if_neg h6)]; rfl, by rw [show gNext M n = none from (if_neg (fun z => z hP)).trans (if_neg h6)]; rfl⟩
  · refine j_aload_n x dX6_comesNext_81 rfl ?_
    refine j_bipush (v := 14) x dX6_comesNext_82 (by decide) ?_
    refine j_aload_n x dX6_comesNext_84 rfl ?_
    refine j2_getr (k := 0) (r := 95) x hb dX6_comesNext_85 jc_10 wfX6_9 (by decide) rfl ?_
    refine j_iconst (v := 2) x dX6_comesNext_88 (by decide) ?_
    refine j2_ialn x hb dX6_comesNext_89 fa_95 (j := 2) (vp_c (by decide)) (by decide) ?_
    refine j2_callVi x hb dX6_comesNext_90 m_X6_refuses (cx_refuses (d := d) hb) wmX6_79 jc_10 rfl rfl rfl (Nat.le_of_ble_eq_true rfl) (j_fit_rm (by omega) (by omega) (by omega)) rfl ?_
    exact j_zreturn x hr dX6_comesNext_93 (by first | decide | exact jisS_nar | exact gno_nar | exact jb_nar) (by omega) (by omega) ⟨by rw [show gNext M n = some (14, M 95 2) from (if_neg (fun z => z hP)).trans (if_pos h6)]; rfl, by rw [show gNext M n = some (14, M 95 2) from (if_neg (fun z => z hP)).trans (if_pos h6)]; rfl⟩
end

section
/-! ===== the reference: what it keeps, its changes at any store ===== -/
def jkp8 (M : MM) : MM := jkp (jm (jcp M 97 466 97 0 3262) 94 3 (nI 7)) 7
def jkpg (M : MM) (k : Nat) : MM := if k < 8 then jkp M k else jkp8 M
theorem cx_keeps_8 {d : Nat} {b : SBt} {Y : OUt} {M : MM} (hb : 104 ≤ b.2.1) {v : Int32} (h0 : M 94 3 = nI 8) : CM (d) 0 0 yX6_keeps cX6_keeps 3 (some .int) [.ref 94, .int v] b Y M (.inl (some (.int (v)))) (jkp8 M) := by
  refine Con.of (by decide +kernel) (Nat.le_of_ble_eq_true rfl) rfl fun p l e s m args below meth c D tyc A ad0 x hr htab hname => ?_
  change JJ _ _ _ _ _ _ _ _ _ _ _ _ _ _ _ _ _ 0 [some (.ref 94), some (.int v), none] [] _ 0 0
  refine j_aload_n x dX6_keeps_0 rfl ?_
  refine j2_geti (k := 3) x hb dX6_keeps_1 jc_10 wfX6_42 (by decide) rfl ?_
  refine j_bipush (v := 8) x dX6_keeps_4 (by decide) ?_
  refine j_icmp_ne (tgt := 50) x dX6_keeps_6 (by decide) (fun hc => absurd hc (fun q => q h0)) (fun hc => ?_)
  refine j_iconst (v := 0) x dX6_keeps_9 (by decide) ?_
  refine j_istore_n x dX6_keeps_10 (by decide) rfl ?_
  refine j2_cpl 97 466 97 0 3262 (fun j => [some (.ref 94), some (.int v), some (.int (nI j))]) (Or.inr (by decide)) rfl (fun j hj M1 hM ih => ?_) ?_
  · refine j_iload_n x dX6_keeps_11 rfl ?_
    refine j_sipush (v := 3262) x dX6_keeps_12 (by decide) ?_
    refine j_icmp_ge (tgt := 40) x dX6_keeps_15 (by decide) (fun hc => absurd hc (nI_ge (b := 3262) hj (by decide))) (fun hc => ?_)
    refine j_aload_n x dX6_keeps_18 rfl ?_
    refine j2_getr (k := 2) (r := 97) x hb dX6_keeps_19 jc_10 wfX6_16 (by decide) rfl ?_
    refine j_iload_n x dX6_keeps_22 rfl ?_
    refine j_aload_n x dX6_keeps_23 rfl ?_
    refine j2_getr (k := 2) (r := 97) x hb dX6_keeps_24 jc_10 wfX6_16 (by decide) rfl ?_
    refine j_sipush (v := 466) x dX6_keeps_27 (by decide) ?_
    refine j_iload_n x dX6_keeps_30 rfl ?_
    refine j_iadd x dX6_keeps_31 ?_
    refine j2_ialn x hb dX6_keeps_32 fa_97 (j := 466 + j) (by rw [show (466 : Int32) + nI j = nI (466 + j) from nI_add 466 j]; exact vp_in_nI (by omega) (by decide)) (by rw [show (466 : Int32) + nI j = nI (466 + j) from nI_add 466 j]; exact nI_clamp (by omega)) ?_
    refine j2_iasn x hb dX6_keeps_33 fa_97 (j := j) (vp_in_nI (by omega) (by decide)) (nI_clamp (by omega)) ?_
    refine j_iinc x dX6_keeps_34 rfl (by decide) rfl ?_
    refine j_goto (tgt := 11) x dX6_keeps_37 (by decide) ?_
    have h9 := ih
    simp only [Nat.zero_add] at h9
    rw [← nI_1 j] at h9
    exact h9
  refine j_iload_n x dX6_keeps_11 rfl ?_
  refine j_sipush (v := 3262) x dX6_keeps_12 (by decide) ?_
  refine j_icmp_ge (tgt := 40) x dX6_keeps_15 (by decide) (fun hc => ?_) (fun hc => absurd (nI_le (Nat.le_refl 3262) (by decide)) hc)
  refine j_aload_n x dX6_keeps_40 rfl ?_
  refine j_dup x dX6_keeps_41 rfl ?_
  refine j2_geti (k := 3) x hb dX6_keeps_42 jc_10 wfX6_42 (by decide) rfl ?_
  refine j_iconst (v := 1) x dX6_keeps_45 (by decide) ?_
  refine j_isub x dX6_keeps_46 ?_; rw [jcp_n (by omega), h0, show (nI 8 : Int32) - 1 = nI 7 from nI_sub (a := 8) (d := 1) (by decide)]
  refine j2_puti (k := 3) x hb dX6_keeps_47 jc_10 wfX6_42 (by decide) rfl rfl rfl rfl ?_
  refine j_iconst (v := 0) x dX6_keeps_50 (by decide) ?_
  refine j_istore_n x dX6_keeps_51 (by decide) rfl ?_
  refine j2_cpl 96 0 97 (466 * 7) 466 (fun j => [some (.ref 94), some (.int v), some (.int (nI j))]) (Or.inl (by decide)) rfl (fun j hj M1 hM ih => ?_) ?_
  · have h3 : M1 94 3 = nI 7 := by rw [hM, jcp_n (by omega), jm_s]
    have hix : (466 : Int32) * M1 94 3 + nI j = nI (466 * 7 + j) := by rw [h3, ← nI_add]; congr 1
    refine j_iload_n x dX6_keeps_52 rfl ?_
    refine j_sipush (v := 466) x dX6_keeps_53 (by decide) ?_
    refine j_icmp_ge (tgt := 86) x dX6_keeps_56 (by decide) (fun hc => absurd hc (nI_ge (b := 466) hj (by decide))) (fun hc => ?_)
    refine j_aload_n x dX6_keeps_59 rfl ?_
    refine j2_getr (k := 2) (r := 97) x hb dX6_keeps_60 jc_10 wfX6_16 (by decide) rfl ?_
    refine j_sipush (v := 466) x dX6_keeps_63 (by decide) ?_
    refine j_aload_n x dX6_keeps_66 rfl ?_
    refine j2_geti (k := 3) x hb dX6_keeps_67 jc_10 wfX6_42 (by decide) rfl ?_
    refine j_imul x dX6_keeps_70 ?_
    refine j_iload_n x dX6_keeps_71 rfl ?_
    refine j_iadd x dX6_keeps_72 ?_
    refine j_aload_n x dX6_keeps_73 rfl ?_
    refine j2_getr (k := 1) (r := 96) x hb dX6_keeps_74 jc_10 wfX6_13 (by decide) rfl ?_
    refine j_iload_n x dX6_keeps_77 rfl ?_
    refine j2_ialn x hb dX6_keeps_78 fa_96 (j := j) (vp_in_nI hj (by decide)) (nI_clamp (by omega)) ?_
    refine j2_iasn x hb dX6_keeps_79 fa_97 (j := 466 * 7 + j) (by rw [hix]; exact vp_in_nI (by omega) (by decide)) (by rw [hix]; exact nI_clamp (by omega)) ?_
    refine j_iinc x dX6_keeps_80 rfl (by decide) rfl ?_
    refine j_goto (tgt := 52) x dX6_keeps_83 (by decide) ?_
    have h9 := ih
    simp only [Nat.zero_add] at h9
    rw [← nI_1 j] at h9
    exact h9
  refine j_iload_n x dX6_keeps_52 rfl ?_
  refine j_sipush (v := 466) x dX6_keeps_53 (by decide) ?_
  refine j_icmp_ge (tgt := 86) x dX6_keeps_56 (by decide) (fun hc => ?_) (fun hc => absurd (nI_le (Nat.le_refl 466) (by decide)) hc)
  refine j_aload_n x dX6_keeps_86 rfl ?_
  refine j_dup x dX6_keeps_87 rfl ?_
  refine j2_geti (k := 3) x hb dX6_keeps_88 jc_10 wfX6_42 (by decide) rfl ?_
  refine j_iconst (v := 1) x dX6_keeps_91 (by decide) ?_
  refine j_iadd x dX6_keeps_92 ?_
  rw [jcp_n (by omega), jm_s, nI_1]; refine j2_puti (k := 3) x hb dX6_keeps_93 jc_10 wfX6_42 (by decide) rfl rfl rfl rfl ?_
  refine j_iload_n x dX6_keeps_96 rfl ?_
  exact j_ireturn x hr dX6_keeps_97 (by omega) (by omega) ⟨rfl, rfl⟩
theorem cx_keepsG {d : Nat} {b : SBt} {Y : OUt} {M : MM} (hb : 104 ≤ b.2.1) {v : Int32} {k : Nat} (hk : k ≤ 8) (h0 : M 94 3 = nI k) : CM d 0 0 yX6_keeps cX6_keeps 3 (some .int) [.ref 94, .int v] b Y M (.inl (some (.int v))) (jkpg M k) := by
  by_cases h : k < 8
  · rw [jkpg, if_pos h]
    exact cx_keeps hb h h0
  · rw [jkpg, if_neg h]
    exact cx_keeps_8 hb (by rw [h0, show k = 8 by omega])
theorem cx_ends_G {d : Nat} {b : SBt} {Y : OUt} {M : MM} (hb : 104 ≤ b.2.1) {k : Nat} (hk : k ≤ 8) (h0 : M 94 3 = nI k) : CM (d + 1) 0 0 yX6_ends cX6_ends 2 (some .int) [.ref 94, .int 1] b Y M (.inl (some (.int (M 94 18)))) (jkpg M k) := by
  refine Con.of (by decide +kernel) (Nat.le_of_ble_eq_true rfl) rfl fun p l e s m args below meth c D tyc A ad0 x hr htab hname => ?_
  change JJ _ _ _ _ _ _ _ _ _ _ _ _ _ _ _ _ _ 0 [some (.ref 94), some (.int 1)] [] _ 0 0
  refine j_iload_n x dX6_ends_0 rfl ?_
  refine j_if_eq (tgt := 15) x dX6_ends_1 (by decide) (fun hc => absurd hc (by decide)) (fun hc => ?_)
  refine j_aload_n x dX6_ends_4 rfl ?_
  refine j_aload_n x dX6_ends_5 rfl ?_
  refine j2_geti (k := 18) x hb dX6_ends_6 jc_10 wfX6_54 (by decide) rfl ?_
  refine j2_callVi x hb dX6_ends_9 m_X6_keeps (cx_keepsG (d := d) hb hk h0) wmX6_57 jc_10 rfl rfl rfl (Nat.le_of_ble_eq_true rfl) (j_fit_rm (by omega) (by omega) (by omega)) rfl ?_
  refine j_goto (tgt := 20) x dX6_ends_12 (by decide) ?_
  exact j_ireturn x hr dX6_ends_20 (by omega) (by omega) ⟨rfl, rfl⟩
end

section
/-! ===== the reference: its changes at any store ===== -/
theorem cx_team_dr {d : Nat} {b : SBt} {Y : OUt} {M : MM} (hb : 104 ≤ b.2.1) {u : Int32} (hx : ¬ u < 0 ∧ ¬ 9 < u) (h1 : ¬ M 95 1 ≤ 0) : CM (d + 2) 0 0 yX6_team cX6_team 3 (some .int) [.ref 94, .int u] b Y M (.inl (some (.int (0)))) (jrai (jrefu (jtr M) 4 0) 1) := by
  refine Con.of (by decide +kernel) (Nat.le_of_ble_eq_true rfl) rfl fun p l e s m args below meth c D tyc A ad0 x hr htab hname => ?_
  change JJ _ _ _ _ _ _ _ _ _ _ _ _ _ _ _ _ _ 0 [some (.ref 94), some (.int u), none] [] _ 0 0
  refine j_aload_n x dX6_team_0 rfl ?_
  refine j2_callVv x hb dX6_team_1 m_X6_tries (cx_tries (d := d) hb) wmX6_76 jc_10 rfl rfl rfl (Nat.le_of_ble_eq_true rfl) (j_fit_rm (by omega) (by omega) (by omega)) rfl ?_
  refine j_iload_n x dX6_team_4 rfl ?_
  refine j_iconst (v := 0) x dX6_team_5 (by decide) ?_
  refine j_bipush (v := 9) x dX6_team_6 (by decide) ?_
  refine j2_callSi x hb dX6_team_8 m_X6_in (CM_v (cx_in (d := d) hb) (jb_t hx)) wmX6_64 rfl (Nat.le_of_ble_eq_true rfl) (j_fit_rm (by omega) (by omega) (by omega)) rfl ?_
  refine j_if_ne (tgt := 25) x dX6_team_11 (by decide) (fun hc => ?_) (fun hc => absurd hc (by decide))
  refine j_aload_n x dX6_team_25 rfl ?_
  refine j2_callVi x hb dX6_team_26 m_X6_isDrawn (CM_v (cx_isDrawn (d := d) hb) (jb_t (by rw [jtr_n (by omega)]; exact h1))) wmX6_87 jc_10 rfl rfl rfl (Nat.le_of_ble_eq_true rfl) (j_fit_rm (by omega) (by omega) (by omega)) rfl ?_
  refine j_if_eq (tgt := 43) x dX6_team_29 (by decide) (fun hc => absurd hc (by decide)) (fun hc => ?_)
  refine j_aload_n x dX6_team_32 rfl ?_
  refine j_aload_n x dX6_team_33 rfl ?_
  refine j_iconst (v := 4) x dX6_team_34 (by decide) ?_
  refine j_iconst (v := 0) x dX6_team_35 (by decide) ?_
  refine j2_callVi x hb dX6_team_36 m_X6_refuses (cx_refuses (d := d) hb) wmX6_79 jc_10 rfl rfl rfl (Nat.le_of_ble_eq_true rfl) (j_fit_rm (by omega) (by omega) (by omega)) rfl ?_
  refine j2_callVi x hb dX6_team_39 m_X6_ends (cx_ends_0 (d := d) hb) wmX6_83 jc_10 rfl rfl rfl (Nat.le_of_ble_eq_true rfl) (j_fit_rm (by omega) (by omega) (by omega)) rfl ?_
  exact j_ireturn x hr dX6_team_42 (by omega) (by omega) ⟨rfl, rfl⟩
theorem cx_team_full {d : Nat} {b : SBt} {Y : OUt} {M : MM} (hb : 104 ≤ b.2.1) {u : Int32} (hx : ¬ u < 0 ∧ ¬ 9 < u) (h1 : M 95 1 ≤ 0) (h0 : M 95 0 = 8) : CM (d + 2) 0 0 yX6_team cX6_team 3 (some .int) [.ref 94, .int u] b Y M (.inl (some (.int (0)))) (jrai (jrefu (jtr M) 2 8) 1) := by
  refine Con.of (by decide +kernel) (Nat.le_of_ble_eq_true rfl) rfl fun p l e s m args below meth c D tyc A ad0 x hr htab hname => ?_
  change JJ _ _ _ _ _ _ _ _ _ _ _ _ _ _ _ _ _ 0 [some (.ref 94), some (.int u), none] [] _ 0 0
  refine j_aload_n x dX6_team_0 rfl ?_
  refine j2_callVv x hb dX6_team_1 m_X6_tries (cx_tries (d := d) hb) wmX6_76 jc_10 rfl rfl rfl (Nat.le_of_ble_eq_true rfl) (j_fit_rm (by omega) (by omega) (by omega)) rfl ?_
  refine j_iload_n x dX6_team_4 rfl ?_
  refine j_iconst (v := 0) x dX6_team_5 (by decide) ?_
  refine j_bipush (v := 9) x dX6_team_6 (by decide) ?_
  refine j2_callSi x hb dX6_team_8 m_X6_in (CM_v (cx_in (d := d) hb) (jb_t hx)) wmX6_64 rfl (Nat.le_of_ble_eq_true rfl) (j_fit_rm (by omega) (by omega) (by omega)) rfl ?_
  refine j_if_ne (tgt := 25) x dX6_team_11 (by decide) (fun hc => ?_) (fun hc => absurd hc (by decide))
  refine j_aload_n x dX6_team_25 rfl ?_
  refine j2_callVi x hb dX6_team_26 m_X6_isDrawn (CM_v (cx_isDrawn (d := d) hb) (jb_f (fun z => z (by rw [jtr_n (by omega)]; exact h1)))) wmX6_87 jc_10 rfl rfl rfl (Nat.le_of_ble_eq_true rfl) (j_fit_rm (by omega) (by omega) (by omega)) rfl ?_
  refine j_if_eq (tgt := 43) x dX6_team_29 (by decide) (fun hc => ?_) (fun hc => absurd (rfl) hc)
  refine j_aload_n x dX6_team_43 rfl ?_
  refine j2_getr (k := 0) (r := 95) x hb dX6_team_44 jc_10 wfX6_9 (by decide) rfl ?_
  refine j_iconst (v := 0) x dX6_team_47 (by decide) ?_
  refine j2_ialn x hb dX6_team_48 fa_95 (j := 0) (vp_c (by decide)) (by decide) ?_
  refine j_istore_n x dX6_team_49 (by decide) rfl ?_
  refine j_iload_n x dX6_team_50 rfl ?_
  refine j_bipush (v := 8) x dX6_team_51 (by decide) ?_
  refine j_icmp_ne (tgt := 68) x dX6_team_53 (by decide) (fun hc => absurd hc (fun z => z (by rw [jtr_n (by omega)]; exact h0))) (fun hc => ?_)
  refine j_aload_n x dX6_team_56 rfl ?_
  refine j_aload_n x dX6_team_57 rfl ?_
  refine j_iconst (v := 2) x dX6_team_58 (by decide) ?_
  refine j_bipush (v := 8) x dX6_team_59 (by decide) ?_
  refine j2_callVi x hb dX6_team_61 m_X6_refuses (cx_refuses (d := d) hb) wmX6_79 jc_10 rfl rfl rfl (Nat.le_of_ble_eq_true rfl) (j_fit_rm (by omega) (by omega) (by omega)) rfl ?_
  refine j2_callVi x hb dX6_team_64 m_X6_ends (cx_ends_0 (d := d) hb) wmX6_83 jc_10 rfl rfl rfl (Nat.le_of_ble_eq_true rfl) (j_fit_rm (by omega) (by omega) (by omega)) rfl ?_
  exact j_ireturn x hr dX6_team_67 (by omega) (by omega) ⟨rfl, rfl⟩
def gTeam (M : MM) (t : Nat) (u : Int32) : MM := jm (jm (jtr M) 95 0 (nI (t + 1))) 95 (10 + t) u
theorem cx_team_G {d : Nat} {b : SBt} {Y : OUt} {M : MM} (hb : 104 ≤ b.2.1) {u : Int32} {t : Nat} (hx : ¬ u < 0 ∧ ¬ 9 < u) (h1 : M 95 1 ≤ 0) (h0 : M 95 0 = nI t) (ht : t < 8) {k : Nat} (hk : k ≤ 8) (h3 : M 94 3 = nI k) : CM (d + 2) 0 0 yX6_team cX6_team 3 (some .int) [.ref 94, .int u] b Y M (.inl (some (.int (nI t)))) (jkpg (gTeam M t u) k) := by
  refine Con.of (by decide +kernel) (Nat.le_of_ble_eq_true rfl) rfl fun p l e s m args below meth c D tyc A ad0 x hr htab hname => ?_
  change JJ _ _ _ _ _ _ _ _ _ _ _ _ _ _ _ _ _ 0 [some (.ref 94), some (.int u), none] [] _ 0 0
  refine j_aload_n x dX6_team_0 rfl ?_
  refine j2_callVv x hb dX6_team_1 m_X6_tries (cx_tries (d := d) hb) wmX6_76 jc_10 rfl rfl rfl (Nat.le_of_ble_eq_true rfl) (j_fit_rm (by omega) (by omega) (by omega)) rfl ?_
  refine j_iload_n x dX6_team_4 rfl ?_
  refine j_iconst (v := 0) x dX6_team_5 (by decide) ?_
  refine j_bipush (v := 9) x dX6_team_6 (by decide) ?_
  refine j2_callSi x hb dX6_team_8 m_X6_in (CM_v (cx_in (d := d) hb) (jb_t hx)) wmX6_64 rfl (Nat.le_of_ble_eq_true rfl) (j_fit_rm (by omega) (by omega) (by omega)) rfl ?_
  refine j_if_ne (tgt := 25) x dX6_team_11 (by decide) (fun hc => ?_) (fun hc => absurd hc (by decide))
  refine j_aload_n x dX6_team_25 rfl ?_
  refine j2_callVi x hb dX6_team_26 m_X6_isDrawn (CM_v (cx_isDrawn (d := d) hb) (jb_f (fun z => z (by rw [jtr_n (by omega)]; exact h1)))) wmX6_87 jc_10 rfl rfl rfl (Nat.le_of_ble_eq_true rfl) (j_fit_rm (by omega) (by omega) (by omega)) rfl ?_
  refine j_if_eq (tgt := 43) x dX6_team_29 (by decide) (fun hc => ?_) (fun hc => absurd (rfl) hc)
  refine j_aload_n x dX6_team_43 rfl ?_
  refine j2_getr (k := 0) (r := 95) x hb dX6_team_44 jc_10 wfX6_9 (by decide) rfl ?_
  refine j_iconst (v := 0) x dX6_team_47 (by decide) ?_
  refine j2_ialn x hb dX6_team_48 fa_95 (j := 0) (vp_c (by decide)) (by decide) ?_
  rw [jtr_n (by omega), h0]; refine j_istore_n x dX6_team_49 (by decide) rfl ?_
  refine j_iload_n x dX6_team_50 rfl ?_
  refine j_bipush (v := 8) x dX6_team_51 (by decide) ?_
  refine j_icmp_ne (tgt := 68) x dX6_team_53 (by decide) (fun hc => ?_) (fun hc => absurd hc (fun z => absurd ((nI_eq (by omega) (by decide)).mp (show nI t = nI 8 from z)) (by omega)))
  refine j_aload_n x dX6_team_68 rfl ?_
  refine j2_getr (k := 0) (r := 95) x hb dX6_team_69 jc_10 wfX6_9 (by decide) rfl ?_
  refine j_iconst (v := 0) x dX6_team_72 (by decide) ?_
  refine j_dup2 x dX6_team_73 rfl rfl ?_
  refine j2_ialn x hb dX6_team_74 fa_95 (j := 0) (vp_c (by decide)) (by decide) ?_
  refine j_iconst (v := 1) x dX6_team_75 (by decide) ?_
  refine j_iadd x dX6_team_76 ?_
  refine j2_iasn x hb dX6_team_77 fa_95 (j := 0) (vp_c (by decide)) (by decide) ?_
  rw [jtr_n (by omega), h0, nI_1]; refine j_aload_n x dX6_team_78 rfl ?_
  refine j2_getr (k := 0) (r := 95) x hb dX6_team_79 jc_10 wfX6_9 (by decide) rfl ?_
  refine j_bipush (v := 10) x dX6_team_82 (by decide) ?_
  refine j_iload_n x dX6_team_84 rfl ?_
  refine j_iadd x dX6_team_85 ?_
  refine j_iload_n x dX6_team_86 rfl ?_
  refine j2_iasn x hb dX6_team_87 fa_95 (j := 10 + t) (by rw [show (10 : Int32) + nI t = nI (10 + t) from nI_add 10 t]; exact vp_in_nI (by omega) (by decide)) (by rw [show (10 : Int32) + nI t = nI (10 + t) from nI_add 10 t]; exact nI_clamp (by omega)) ?_
  refine j_aload_n x dX6_team_88 rfl ?_
  refine j_iload_n x dX6_team_89 rfl ?_
  refine j2_callVi x hb dX6_team_90 m_X6_keeps (cx_keepsG (d := d) hb hk (by rw [jm_n (by omega), jm_n (by omega), jtr_f (by omega) (by omega)]; exact h3)) wmX6_57 jc_10 rfl rfl rfl (Nat.le_of_ble_eq_true rfl) (j_fit_rm (by omega) (by omega) (by omega)) rfl ?_
  exact j_ireturn x hr dX6_team_93 (by omega) (by omega) ⟨rfl, rfl⟩
theorem cx_ground_nt {d : Nat} {b : SBt} {Y : OUt} {M : MM} (hb : 104 ≤ b.2.1) {t u : Int32} (hT : ¬ (¬ t < 0 ∧ ¬ M 95 0 - 1 < t)) : CM (d + 2) 0 0 yX6_ground cX6_ground 4 (some .int) [.ref 94, .int t, .int u] b Y M (.inl (some (.int (0)))) (jrai (jrefu (jtr M) 3 t) 1) := by
  refine Con.of (by decide +kernel) (Nat.le_of_ble_eq_true rfl) rfl fun p l e s m args below meth c D tyc A ad0 x hr htab hname => ?_
  change JJ _ _ _ _ _ _ _ _ _ _ _ _ _ _ _ _ _ 0 [some (.ref 94), some (.int t), some (.int u), none] [] _ 0 0
  refine j_aload_n x dX6_ground_0 rfl ?_
  refine j2_callVv x hb dX6_ground_1 m_X6_tries (cx_tries (d := d) hb) wmX6_76 jc_10 rfl rfl rfl (Nat.le_of_ble_eq_true rfl) (j_fit_rm (by omega) (by omega) (by omega)) rfl ?_
  refine j_aload_n x dX6_ground_4 rfl ?_
  refine j_iload_n x dX6_ground_5 rfl ?_
  refine j2_callVi x hb dX6_ground_6 m_X6_isTeam (CM_v (cx_isTeam (d := d) hb) (jb_f (by rw [jtr_n (by omega)]; exact hT))) wmX6_91 jc_10 rfl rfl rfl (Nat.le_of_ble_eq_true rfl) (j_fit_rm (by omega) (by omega) (by omega)) rfl ?_
  refine j_if_ne (tgt := 23) x dX6_ground_9 (by decide) (fun hc => absurd hc (fun q => q rfl)) (fun hc => ?_)
  refine j_aload_n x dX6_ground_12 rfl ?_
  refine j_aload_n x dX6_ground_13 rfl ?_
  refine j_iconst (v := 3) x dX6_ground_14 (by decide) ?_
  refine j_iload_n x dX6_ground_15 rfl ?_
  refine j2_callVi x hb dX6_ground_16 m_X6_refuses (cx_refuses (d := d) hb) wmX6_79 jc_10 rfl rfl rfl (Nat.le_of_ble_eq_true rfl) (j_fit_rm (by omega) (by omega) (by omega)) rfl ?_
  refine j2_callVi x hb dX6_ground_19 m_X6_ends (cx_ends_0 (d := d) hb) wmX6_83 jc_10 rfl rfl rfl (Nat.le_of_ble_eq_true rfl) (j_fit_rm (by omega) (by omega) (by omega)) rfl ?_
  exact j_ireturn x hr dX6_ground_22 (by omega) (by omega) ⟨rfl, rfl⟩
theorem cx_ground_bad {d : Nat} {b : SBt} {Y : OUt} {M : MM} (hb : 104 ≤ b.2.1) {u : Int32} {w t1 : Nat} (hw : w ≤ 8) (h0 : M 95 0 = nI w) (ht : t1 < w) (hx : ¬ (¬ u < 0 ∧ ¬ 9 < u)) : CM (d + 2) 0 0 yX6_ground cX6_ground 4 (some .int) [.ref 94, .int (nI t1), .int u] b Y M (.inl (some (.int (0)))) (jrai (jrefu (jtr M) 1 0) 1) := by
  refine Con.of (by decide +kernel) (Nat.le_of_ble_eq_true rfl) rfl fun p l e s m args below meth c D tyc A ad0 x hr htab hname => ?_
  change JJ _ _ _ _ _ _ _ _ _ _ _ _ _ _ _ _ _ 0 [some (.ref 94), some (.int (nI t1)), some (.int u), none] [] _ 0 0
  refine j_aload_n x dX6_ground_0 rfl ?_
  refine j2_callVv x hb dX6_ground_1 m_X6_tries (cx_tries (d := d) hb) wmX6_76 jc_10 rfl rfl rfl (Nat.le_of_ble_eq_true rfl) (j_fit_rm (by omega) (by omega) (by omega)) rfl ?_
  refine j_aload_n x dX6_ground_4 rfl ?_
  refine j_iload_n x dX6_ground_5 rfl ?_
  refine j2_callVi x hb dX6_ground_6 m_X6_isTeam (CM_v (cx_isTeam (d := d) hb) (jb_t ⟨nI_pos (by omega), by rw [jtr_n (by omega), h0, show (nI w - 1 : Int32) = nI (w - 1) from nI_sub (d := 1) (by omega)]; exact nI_nlt (by omega) (by omega)⟩)) wmX6_91 jc_10 rfl rfl rfl (Nat.le_of_ble_eq_true rfl) (j_fit_rm (by omega) (by omega) (by omega)) rfl ?_
  refine j_if_ne (tgt := 23) x dX6_ground_9 (by decide) (fun hc => ?_) (fun hc => absurd hc (by decide))
  refine j_iload_n x dX6_ground_23 rfl ?_
  refine j_iconst (v := 0) x dX6_ground_24 (by decide) ?_
  refine j_bipush (v := 9) x dX6_ground_25 (by decide) ?_
  refine j2_callSi x hb dX6_ground_27 m_X6_in (CM_v (cx_in (d := d) hb) (jb_f hx)) wmX6_64 rfl (Nat.le_of_ble_eq_true rfl) (j_fit_rm (by omega) (by omega) (by omega)) rfl ?_
  refine j_if_ne (tgt := 44) x dX6_ground_30 (by decide) (fun hc => absurd hc (fun q => q rfl)) (fun hc => ?_)
  refine j_aload_n x dX6_ground_33 rfl ?_
  refine j_aload_n x dX6_ground_34 rfl ?_
  refine j_iconst (v := 1) x dX6_ground_35 (by decide) ?_
  refine j_iconst (v := 0) x dX6_ground_36 (by decide) ?_
  refine j2_callVi x hb dX6_ground_37 m_X6_refuses (cx_refuses (d := d) hb) wmX6_79 jc_10 rfl rfl rfl (Nat.le_of_ble_eq_true rfl) (j_fit_rm (by omega) (by omega) (by omega)) rfl ?_
  refine j2_callVi x hb dX6_ground_40 m_X6_ends (cx_ends_0 (d := d) hb) wmX6_83 jc_10 rfl rfl rfl (Nat.le_of_ble_eq_true rfl) (j_fit_rm (by omega) (by omega) (by omega)) rfl ?_
  exact j_ireturn x hr dX6_ground_43 (by omega) (by omega) ⟨rfl, rfl⟩
def gGround (M : MM) (t : Nat) (u : Int32) : MM := jm (jtr M) 95 (10 + t) u
theorem cx_ground_G {d : Nat} {b : SBt} {Y : OUt} {M : MM} (hb : 104 ≤ b.2.1) {u : Int32} {w t1 : Nat} (hw : w ≤ 8) (h0 : M 95 0 = nI w) (ht : t1 < w) (hx : ¬ u < 0 ∧ ¬ 9 < u) {k : Nat} (hk : k ≤ 8) (h3 : M 94 3 = nI k) : CM (d + 2) 0 0 yX6_ground cX6_ground 4 (some .int) [.ref 94, .int (nI t1), .int u] b Y M (.inl (some (.int (M 95 (10 + t1))))) (jkpg (gGround M t1 u) k) := by
  refine Con.of (by decide +kernel) (Nat.le_of_ble_eq_true rfl) rfl fun p l e s m args below meth c D tyc A ad0 x hr htab hname => ?_
  change JJ _ _ _ _ _ _ _ _ _ _ _ _ _ _ _ _ _ 0 [some (.ref 94), some (.int (nI t1)), some (.int u), none] [] _ 0 0
  refine j_aload_n x dX6_ground_0 rfl ?_
  refine j2_callVv x hb dX6_ground_1 m_X6_tries (cx_tries (d := d) hb) wmX6_76 jc_10 rfl rfl rfl (Nat.le_of_ble_eq_true rfl) (j_fit_rm (by omega) (by omega) (by omega)) rfl ?_
  refine j_aload_n x dX6_ground_4 rfl ?_
  refine j_iload_n x dX6_ground_5 rfl ?_
  refine j2_callVi x hb dX6_ground_6 m_X6_isTeam (CM_v (cx_isTeam (d := d) hb) (jb_t ⟨nI_pos (by omega), by rw [jtr_n (by omega), h0, show (nI w - 1 : Int32) = nI (w - 1) from nI_sub (d := 1) (by omega)]; exact nI_nlt (by omega) (by omega)⟩)) wmX6_91 jc_10 rfl rfl rfl (Nat.le_of_ble_eq_true rfl) (j_fit_rm (by omega) (by omega) (by omega)) rfl ?_
  refine j_if_ne (tgt := 23) x dX6_ground_9 (by decide) (fun hc => ?_) (fun hc => absurd hc (by decide))
  refine j_iload_n x dX6_ground_23 rfl ?_
  refine j_iconst (v := 0) x dX6_ground_24 (by decide) ?_
  refine j_bipush (v := 9) x dX6_ground_25 (by decide) ?_
  refine j2_callSi x hb dX6_ground_27 m_X6_in (CM_v (cx_in (d := d) hb) (jb_t hx)) wmX6_64 rfl (Nat.le_of_ble_eq_true rfl) (j_fit_rm (by omega) (by omega) (by omega)) rfl ?_
  refine j_if_ne (tgt := 44) x dX6_ground_30 (by decide) (fun hc => ?_) (fun hc => absurd hc (by decide))
  refine j_aload_n x dX6_ground_44 rfl ?_
  refine j2_getr (k := 0) (r := 95) x hb dX6_ground_45 jc_10 wfX6_9 (by decide) rfl ?_
  refine j_bipush (v := 10) x dX6_ground_48 (by decide) ?_
  refine j_iload_n x dX6_ground_50 rfl ?_
  refine j_iadd x dX6_ground_51 ?_
  refine j2_ialn x hb dX6_ground_52 fa_95 (j := 10 + t1) (by rw [show (10 : Int32) + nI t1 = nI (10 + t1) from nI_add 10 t1]; exact vp_in_nI (by omega) (by decide)) (by rw [show (10 : Int32) + nI t1 = nI (10 + t1) from nI_add 10 t1]; exact nI_clamp (by omega)) ?_
  rw [jtr_n (by omega)]; refine j_istore_n x dX6_ground_53 (by decide) rfl ?_
  refine j_aload_n x dX6_ground_54 rfl ?_
  refine j2_getr (k := 0) (r := 95) x hb dX6_ground_55 jc_10 wfX6_9 (by decide) rfl ?_
  refine j_bipush (v := 10) x dX6_ground_58 (by decide) ?_
  refine j_iload_n x dX6_ground_60 rfl ?_
  refine j_iadd x dX6_ground_61 ?_
  refine j_iload_n x dX6_ground_62 rfl ?_
  refine j2_iasn x hb dX6_ground_63 fa_95 (j := 10 + t1) (by rw [show (10 : Int32) + nI t1 = nI (10 + t1) from nI_add 10 t1]; exact vp_in_nI (by omega) (by decide)) (by rw [show (10 : Int32) + nI t1 = nI (10 + t1) from nI_add 10 t1]; exact nI_clamp (by omega)) ?_
  refine j_aload_n x dX6_ground_64 rfl ?_
  refine j_iload_n x dX6_ground_65 rfl ?_
  refine j2_callVi x hb dX6_ground_66 m_X6_keeps (cx_keepsG (d := d) hb hk (by rw [jm_n (by omega), jtr_f (by omega) (by omega)]; exact h3)) wmX6_57 jc_10 rfl rfl rfl (Nat.le_of_ble_eq_true rfl) (j_fit_rm (by omega) (by omega) (by omega)) rfl ?_
  exact j_ireturn x hr dX6_ground_69 (by omega) (by omega) ⟨rfl, rfl⟩
theorem cx_give_pl {d : Nat} {b : SBt} {Y : OUt} {M : MM} (hb : 104 ≤ b.2.1) {t u : Int32} (hx : (¬ t < 1 ∧ ¬ 5 < t) ∧ (¬ u < 0 ∧ ¬ 3 < u)) {n : Nat} (hn : n ≤ 56) (hct : M 95 9 = nI n) (hp : ¬ jsum (fun m => jof (jtr M) m 4) n ≤ 0) : CM (d + 2) 0 0 yX6_give cX6_give 4 (some .int) [.ref 94, .int t, .int u] b Y M (.inl (some (.int (0)))) (jrai (jrefu (jtr M) 12 (jsum (fun m => jof (jtr M) m 4) n)) 1) := by
  refine Con.of (by decide +kernel) (Nat.le_of_ble_eq_true rfl) rfl fun p l e s m args below meth c D tyc A ad0 x hr htab hname => ?_
  change JJ _ _ _ _ _ _ _ _ _ _ _ _ _ _ _ _ _ 0 [some (.ref 94), some (.int t), some (.int u), none] [] _ 0 0
  refine j_aload_n x dX6_give_0 rfl ?_
  refine j2_callVv x hb dX6_give_1 m_X6_tries (cx_tries (d := d) hb) wmX6_76 jc_10 rfl rfl rfl (Nat.le_of_ble_eq_true rfl) (j_fit_rm (by omega) (by omega) (by omega)) rfl ?_
  refine j_iload_n x dX6_give_4 rfl ?_
  refine j_iconst (v := 1) x dX6_give_5 (by decide) ?_
  refine j_iconst (v := 5) x dX6_give_6 (by decide) ?_
  refine j2_callSi x hb dX6_give_7 m_X6_in (CM_v (cx_in (d := d) hb) (jb_t hx.1)) wmX6_64 rfl (Nat.le_of_ble_eq_true rfl) (j_fit_rm (by omega) (by omega) (by omega)) rfl ?_
  refine j_if_eq (tgt := 22) x dX6_give_10 (by decide) (fun hc => absurd hc (by decide)) (fun hc => ?_)
  refine j_iload_n x dX6_give_13 rfl ?_
  refine j_iconst (v := 0) x dX6_give_14 (by decide) ?_
  refine j_iconst (v := 3) x dX6_give_15 (by decide) ?_
  refine j2_callSi x hb dX6_give_16 m_X6_in (CM_v (cx_in (d := d) hb) (jb_t hx.2)) wmX6_64 rfl (Nat.le_of_ble_eq_true rfl) (j_fit_rm (by omega) (by omega) (by omega)) rfl ?_
  refine j_if_ne (tgt := 33) x dX6_give_19 (by decide) (fun hc => ?_) (fun hc => absurd hc (by decide))
  refine j_aload_n x dX6_give_33 rfl ?_
  refine j2_callVi x hb dX6_give_34 m_X6_played (cx_played (d := d) hb hn (by rw [jtr_n (by omega)]; exact hct)) wmX6_113 jc_10 rfl rfl rfl (Nat.le_of_ble_eq_true rfl) (j_fit_rm (by omega) (by omega) (by omega)) rfl ?_
  refine j_if_le (tgt := 55) x dX6_give_37 (by decide) (fun hc => absurd hc (hp)) (fun hc => ?_)
  refine j_aload_n x dX6_give_40 rfl ?_
  refine j_aload_n x dX6_give_41 rfl ?_
  refine j_bipush (v := 12) x dX6_give_42 (by decide) ?_
  refine j_aload_n x dX6_give_44 rfl ?_
  refine j2_callVi x hb dX6_give_45 m_X6_played (cx_played (d := d) hb hn (by rw [jtr_n (by omega)]; exact hct)) wmX6_113 jc_10 rfl rfl rfl (Nat.le_of_ble_eq_true rfl) (j_fit_rm (by omega) (by omega) (by omega)) rfl ?_
  refine j2_callVi x hb dX6_give_48 m_X6_refuses (cx_refuses (d := d) hb) wmX6_79 jc_10 rfl rfl rfl (Nat.le_of_ble_eq_true rfl) (j_fit_rm (by omega) (by omega) (by omega)) rfl ?_
  refine j2_callVi x hb dX6_give_51 m_X6_ends (cx_ends_0 (d := d) hb) wmX6_83 jc_10 rfl rfl rfl (Nat.le_of_ble_eq_true rfl) (j_fit_rm (by omega) (by omega) (by omega)) rfl ?_
  exact j_ireturn x hr dX6_give_54 (by omega) (by omega) ⟨rfl, rfl⟩
def gGive (M : MM) (t u : Int32) : MM := jm (jm (jtr M) 95 3 t) 95 4 u
theorem cx_give_G {d : Nat} {b : SBt} {Y : OUt} {M : MM} (hb : 104 ≤ b.2.1) {t u : Int32} (hx : (¬ t < 1 ∧ ¬ 5 < t) ∧ (¬ u < 0 ∧ ¬ 3 < u)) {n : Nat} (hn : n ≤ 56) (hct : M 95 9 = nI n) (hp : jsum (fun m => jof (jtr M) m 4) n ≤ 0) {k : Nat} (hk : k ≤ 8) (h3 : M 94 3 = nI k) : CM (d + 2) 0 0 yX6_give cX6_give 4 (some .int) [.ref 94, .int t, .int u] b Y M (.inl (some (.int (10 * M 95 3 + M 95 4)))) (jkpg (gGive M t u) k) := by
  refine Con.of (by decide +kernel) (Nat.le_of_ble_eq_true rfl) rfl fun p l e s m args below meth c D tyc A ad0 x hr htab hname => ?_
  change JJ _ _ _ _ _ _ _ _ _ _ _ _ _ _ _ _ _ 0 [some (.ref 94), some (.int t), some (.int u), none] [] _ 0 0
  refine j_aload_n x dX6_give_0 rfl ?_
  refine j2_callVv x hb dX6_give_1 m_X6_tries (cx_tries (d := d) hb) wmX6_76 jc_10 rfl rfl rfl (Nat.le_of_ble_eq_true rfl) (j_fit_rm (by omega) (by omega) (by omega)) rfl ?_
  refine j_iload_n x dX6_give_4 rfl ?_
  refine j_iconst (v := 1) x dX6_give_5 (by decide) ?_
  refine j_iconst (v := 5) x dX6_give_6 (by decide) ?_
  refine j2_callSi x hb dX6_give_7 m_X6_in (CM_v (cx_in (d := d) hb) (jb_t hx.1)) wmX6_64 rfl (Nat.le_of_ble_eq_true rfl) (j_fit_rm (by omega) (by omega) (by omega)) rfl ?_
  refine j_if_eq (tgt := 22) x dX6_give_10 (by decide) (fun hc => absurd hc (by decide)) (fun hc => ?_)
  refine j_iload_n x dX6_give_13 rfl ?_
  refine j_iconst (v := 0) x dX6_give_14 (by decide) ?_
  refine j_iconst (v := 3) x dX6_give_15 (by decide) ?_
  refine j2_callSi x hb dX6_give_16 m_X6_in (CM_v (cx_in (d := d) hb) (jb_t hx.2)) wmX6_64 rfl (Nat.le_of_ble_eq_true rfl) (j_fit_rm (by omega) (by omega) (by omega)) rfl ?_
  refine j_if_ne (tgt := 33) x dX6_give_19 (by decide) (fun hc => ?_) (fun hc => absurd hc (by decide))
  refine j_aload_n x dX6_give_33 rfl ?_
  refine j2_callVi x hb dX6_give_34 m_X6_played (cx_played (d := d) hb hn (by rw [jtr_n (by omega)]; exact hct)) wmX6_113 jc_10 rfl rfl rfl (Nat.le_of_ble_eq_true rfl) (j_fit_rm (by omega) (by omega) (by omega)) rfl ?_
  refine j_if_le (tgt := 55) x dX6_give_37 (by decide) (fun hc => ?_) (fun hc => absurd (hp) hc)
  refine j_bipush (v := 10) x dX6_give_55 (by decide) ?_
  refine j_aload_n x dX6_give_57 rfl ?_
  refine j2_getr (k := 0) (r := 95) x hb dX6_give_58 jc_10 wfX6_9 (by decide) rfl ?_
  refine j_iconst (v := 3) x dX6_give_61 (by decide) ?_
  refine j2_ialn x hb dX6_give_62 fa_95 (j := 3) (vp_c (by decide)) (by decide) ?_; rw [jtr_n (by omega)]
  refine j_imul x dX6_give_63 ?_
  refine j_aload_n x dX6_give_64 rfl ?_
  refine j2_getr (k := 0) (r := 95) x hb dX6_give_65 jc_10 wfX6_9 (by decide) rfl ?_
  refine j_iconst (v := 4) x dX6_give_68 (by decide) ?_
  refine j2_ialn x hb dX6_give_69 fa_95 (j := 4) (vp_c (by decide)) (by decide) ?_; rw [jtr_n (by omega)]
  refine j_iadd x dX6_give_70 ?_
  refine j_istore_n x dX6_give_71 (by decide) rfl ?_
  refine j_aload_n x dX6_give_72 rfl ?_
  refine j2_getr (k := 0) (r := 95) x hb dX6_give_73 jc_10 wfX6_9 (by decide) rfl ?_
  refine j_iconst (v := 3) x dX6_give_76 (by decide) ?_
  refine j_iload_n x dX6_give_77 rfl ?_
  refine j2_iasn x hb dX6_give_78 fa_95 (j := 3) (vp_c (by decide)) (by decide) ?_
  refine j_aload_n x dX6_give_79 rfl ?_
  refine j2_getr (k := 0) (r := 95) x hb dX6_give_80 jc_10 wfX6_9 (by decide) rfl ?_
  refine j_iconst (v := 4) x dX6_give_83 (by decide) ?_
  refine j_iload_n x dX6_give_84 rfl ?_
  refine j2_iasn x hb dX6_give_85 fa_95 (j := 4) (vp_c (by decide)) (by decide) ?_
  refine j_aload_n x dX6_give_86 rfl ?_
  refine j_iload_n x dX6_give_87 rfl ?_
  refine j2_callVi x hb dX6_give_88 m_X6_keeps (cx_keepsG (d := d) hb hk (by rw [jm_n (by omega), jm_n (by omega), jtr_f (by omega) (by omega)]; exact h3)) wmX6_57 jc_10 rfl rfl rfl (Nat.le_of_ble_eq_true rfl) (j_fit_rm (by omega) (by omega) (by omega)) rfl ?_
  exact j_ireturn x hr dX6_give_91 (by omega) (by omega) ⟨rfl, rfl⟩
theorem cx_rules_G {d : Nat} {b : SBt} {Y : OUt} {M : MM} (hb : 104 ≤ b.2.1) {t u v : Int32} (h : rRules t u v = none) {k : Nat} (hk : k ≤ 8) (h3 : M 94 3 = nI k) : CM (d + 2) 0 0 yX6_rules cX6_rules 4 (some .int) [.ref 94, .int t, .int u, .int v] b Y M (.inl (some (.int (jxR (jtr M) t u v 95 5)))) (jkpg (jm (jxR (jtr M) t u v) 94 18 (jxR (jtr M) t u v 95 5)) k) := by
  refine Con.of (by decide +kernel) (Nat.le_of_ble_eq_true rfl) rfl fun p l e s m args below meth c D tyc A ad0 x hr htab hname => ?_
  change JJ _ _ _ _ _ _ _ _ _ _ _ _ _ _ _ _ _ 0 [some (.ref 94), some (.int t), some (.int u), some (.int v)] [] _ 0 0
  refine j_aload_n x dX6_rules_0 rfl ?_
  refine j2_callVv x hb dX6_rules_1 m_X6_tries (cx_tries (d := d) hb) wmX6_76 jc_10 rfl rfl rfl (Nat.le_of_ble_eq_true rfl) (j_fit_rm (by omega) (by omega) (by omega)) rfl ?_
  refine j_aload_n x dX6_rules_4 rfl ?_
  refine j_aload_n x dX6_rules_5 rfl ?_
  refine j_iload_n x dX6_rules_6 rfl ?_
  refine j_iload_n x dX6_rules_7 rfl ?_
  refine j_iload_n x dX6_rules_8 rfl ?_
  refine j2_callVi x hb dX6_rules_9 m_X6_takesRules (show CM _ 0 0 _ _ _ _ _ b Y (jtr M) (.inl (some (.int 1))) (jm (jxR (jtr M) t u v) 94 18 (jxR (jtr M) t u v 95 5)) from by have q := cx_takesRules (d := d) (Y := Y) (M := jtr M) hb (t := t) (u := u) (v := v); rw [h] at q; exact q) wmX6_119 jc_10 rfl rfl rfl (Nat.le_of_ble_eq_true rfl) (j_fit_rm (by omega) (by omega) (by omega)) rfl ?_
  refine j2_callVi x hb dX6_rules_12 m_X6_ends (CM_v (cx_ends_G (d := d) hb hk (by rw [jm_n (by omega), x_R, jtr_f (by omega) (by omega)]; exact h3)) jm_s) wmX6_83 jc_10 rfl rfl rfl (Nat.le_of_ble_eq_true rfl) (j_fit_rm (by omega) (by omega) (by omega)) rfl ?_
  exact j_ireturn x hr dX6_rules_15 (by omega) (by omega) ⟨rfl, rfl⟩
theorem cx_result_nm {d : Nat} {b : SBt} {Y : OUt} {M : MM} (hb : 104 ≤ b.2.1) {u v : Int32} {t : Int32} (hm : ¬ (¬ t < 0 ∧ ¬ M 95 9 - 1 < t)) (hd : ¬ M 95 1 ≤ 0) : CM (d + 3) 0 0 yX6_result cX6_result 4 (some .int) [.ref 94, .int t, .int u, .int v] b Y M (.inl (some (.int (0)))) (jrai (jrefu (jtr M) 3 t) 1) := by
  refine Con.of (by decide +kernel) (Nat.le_of_ble_eq_true rfl) rfl fun p l e s m args below meth c D tyc A ad0 x hr htab hname => ?_
  change JJ _ _ _ _ _ _ _ _ _ _ _ _ _ _ _ _ _ 0 [some (.ref 94), some (.int t), some (.int u), some (.int v)] [] _ 0 0
  refine j_aload_n x dX6_result_0 rfl ?_
  refine j2_callVv x hb dX6_result_1 m_X6_tries (cx_tries (d := d) hb) wmX6_76 jc_10 rfl rfl rfl (Nat.le_of_ble_eq_true rfl) (j_fit_rm (by omega) (by omega) (by omega)) rfl ?_
  refine j_aload_n x dX6_result_4 rfl ?_
  refine j_aload_n x dX6_result_5 rfl ?_
  refine j_iload_n x dX6_result_6 rfl ?_
  refine j_iload_n x dX6_result_7 rfl ?_
  refine j_iload_n x dX6_result_8 rfl ?_
  refine j2_callVi x hb dX6_result_9 m_X6_results (cx_results_nm (d := d) hb (by rw [jtr_n (by omega)]; exact hm) (by rw [jtr_n (by omega)]; exact hd)) wmX6_128 jc_10 rfl rfl rfl (Nat.le_of_ble_eq_true rfl) (j_fit_rm (by omega) (by omega) (by omega)) rfl ?_
  refine j2_callVi x hb dX6_result_12 m_X6_ends (cx_ends_0 (d := d) hb) wmX6_83 jc_10 rfl rfl rfl (Nat.le_of_ble_eq_true rfl) (j_fit_rm (by omega) (by omega) (by omega)) rfl ?_
  exact j_ireturn x hr dX6_result_15 (by omega) (by omega) ⟨rfl, rfl⟩
theorem cx_result_no {d : Nat} {b : SBt} {Y : OUt} {M : MM} (hb : 104 ≤ b.2.1) {u v : Int32} {r z : Int32} (hd : ¬ M 95 1 ≤ 0) {n q : Nat} (hn : n ≤ 56) (hct : M 95 9 = nI n) (hq : q < n) (h : gRes (jtr M) q u v = some (r, z)) : CM (d + 4) 0 0 yX6_result cX6_result 4 (some .int) [.ref 94, .int (nI q), .int u, .int v] b Y M (.inl (some (.int (0)))) (jrai (jrefu (jtr M) r z) 1) := by
  refine Con.of (by decide +kernel) (Nat.le_of_ble_eq_true rfl) rfl fun p l e s m args below meth c D tyc A ad0 x hr htab hname => ?_
  change JJ _ _ _ _ _ _ _ _ _ _ _ _ _ _ _ _ _ 0 [some (.ref 94), some (.int (nI q)), some (.int u), some (.int v)] [] _ 0 0
  refine j_aload_n x dX6_result_0 rfl ?_
  refine j2_callVv x hb dX6_result_1 m_X6_tries (cx_tries (d := d) hb) wmX6_76 jc_10 rfl rfl rfl (Nat.le_of_ble_eq_true rfl) (j_fit_rm (by omega) (by omega) (by omega)) rfl ?_
  refine j_aload_n x dX6_result_4 rfl ?_
  refine j_aload_n x dX6_result_5 rfl ?_
  refine j_iload_n x dX6_result_6 rfl ?_
  refine j_iload_n x dX6_result_7 rfl ?_
  refine j_iload_n x dX6_result_8 rfl ?_
  refine j2_callVi x hb dX6_result_9 m_X6_results (show CM (d + 3) 0 0 _ _ _ _ _ b Y (jtr M) (.inl (some (.int (gno (some (r, z)))))) (gst (jtr M) (some (r, z)) (jm (gResS (jtr M) q u v) 94 18 (jsum (gLeft (gResS (jtr M) q u v)) n))) from by have z := cx_results_q (d := d) (Y := Y) (M := jtr M) (q := q) (u := u) (v := v) hb (by rw [jtr_n (by omega)]; exact hd) hn (by rw [jtr_n (by omega)]; exact hct) hq; rw [h] at z; exact z) wmX6_128 jc_10 rfl rfl rfl (Nat.le_of_ble_eq_true rfl) (j_fit_rm (by omega) (by omega) (by omega)) rfl ?_
  refine j2_callVi x hb dX6_result_12 m_X6_ends (cx_ends_0 (d := d) hb) wmX6_83 jc_10 rfl rfl rfl (Nat.le_of_ble_eq_true rfl) (j_fit_rm (by omega) (by omega) (by omega)) rfl ?_
  exact j_ireturn x hr dX6_result_15 (by omega) (by omega) ⟨rfl, rfl⟩
theorem cx_result_G {d : Nat} {b : SBt} {Y : OUt} {M : MM} (hb : 104 ≤ b.2.1) {u v : Int32} (hd : ¬ M 95 1 ≤ 0) {n q : Nat} (hn : n ≤ 56) (hct : M 95 9 = nI n) (hq : q < n) (h : gRes (jtr M) q u v = none) {k : Nat} (hk : k ≤ 8) (h3 : M 94 3 = nI k) : CM (d + 4) 0 0 yX6_result cX6_result 4 (some .int) [.ref 94, .int (nI q), .int u, .int v] b Y M (.inl (some (.int (jsum (gLeft (gResS (jtr M) q u v)) n)))) (jkpg (jm (gResS (jtr M) q u v) 94 18 (jsum (gLeft (gResS (jtr M) q u v)) n)) k) := by
  refine Con.of (by decide +kernel) (Nat.le_of_ble_eq_true rfl) rfl fun p l e s m args below meth c D tyc A ad0 x hr htab hname => ?_
  change JJ _ _ _ _ _ _ _ _ _ _ _ _ _ _ _ _ _ 0 [some (.ref 94), some (.int (nI q)), some (.int u), some (.int v)] [] _ 0 0
  refine j_aload_n x dX6_result_0 rfl ?_
  refine j2_callVv x hb dX6_result_1 m_X6_tries (cx_tries (d := d) hb) wmX6_76 jc_10 rfl rfl rfl (Nat.le_of_ble_eq_true rfl) (j_fit_rm (by omega) (by omega) (by omega)) rfl ?_
  refine j_aload_n x dX6_result_4 rfl ?_
  refine j_aload_n x dX6_result_5 rfl ?_
  refine j_iload_n x dX6_result_6 rfl ?_
  refine j_iload_n x dX6_result_7 rfl ?_
  refine j_iload_n x dX6_result_8 rfl ?_
  refine j2_callVi x hb dX6_result_9 m_X6_results (show CM (d + 3) 0 0 _ _ _ _ _ b Y (jtr M) (.inl (some (.int (gno (none))))) (gst (jtr M) (none) (jm (gResS (jtr M) q u v) 94 18 (jsum (gLeft (gResS (jtr M) q u v)) n))) from by have z := cx_results_q (d := d) (Y := Y) (M := jtr M) (q := q) (u := u) (v := v) hb (by rw [jtr_n (by omega)]; exact hd) hn (by rw [jtr_n (by omega)]; exact hct) hq; rw [h] at z; exact z) wmX6_128 jc_10 rfl rfl rfl (Nat.le_of_ble_eq_true rfl) (j_fit_rm (by omega) (by omega) (by omega)) rfl ?_
  refine j2_callVi x hb dX6_result_12 m_X6_ends (CM_v (cx_ends_G (d := d) hb hk (by rw [show gst (jtr M) none (jm (gResS (jtr M) q u v) 94 18 (jsum (gLeft (gResS (jtr M) q u v)) n)) = (jm (gResS (jtr M) q u v) 94 18 (jsum (gLeft (gResS (jtr M) q u v)) n)) from rfl, jm_n (by omega)]; unfold gResS; rw [jsets_n (by omega), jsets_n (by omega), jsets_n (by omega), jtr_f (by omega) (by omega)]; exact h3)) jm_s) wmX6_83 jc_10 rfl rfl rfl (Nat.le_of_ble_eq_true rfl) (j_fit_rm (by omega) (by omega) (by omega)) rfl ?_
  exact j_ireturn x hr dX6_result_15 (by omega) (by omega) ⟨rfl, rfl⟩
theorem cx_back_nm {d : Nat} {b : SBt} {Y : OUt} {M : MM} (hb : 104 ≤ b.2.1) {t : Int32} (hm : ¬ (¬ t < 0 ∧ ¬ M 95 9 - 1 < t)) (hd : ¬ M 95 1 ≤ 0) : CM (d + 3) 0 0 yX6_back cX6_back 2 (some .int) [.ref 94, .int t] b Y M (.inl (some (.int (0)))) (jrai (jrefu (jtr M) 3 t) 1) := by
  refine Con.of (by decide +kernel) (Nat.le_of_ble_eq_true rfl) rfl fun p l e s m args below meth c D tyc A ad0 x hr htab hname => ?_
  change JJ _ _ _ _ _ _ _ _ _ _ _ _ _ _ _ _ _ 0 [some (.ref 94), some (.int t)] [] _ 0 0
  refine j_aload_n x dX6_back_0 rfl ?_
  refine j2_callVv x hb dX6_back_1 m_X6_tries (cx_tries (d := d) hb) wmX6_76 jc_10 rfl rfl rfl (Nat.le_of_ble_eq_true rfl) (j_fit_rm (by omega) (by omega) (by omega)) rfl ?_
  refine j_aload_n x dX6_back_4 rfl ?_
  refine j_aload_n x dX6_back_5 rfl ?_
  refine j_iload_n x dX6_back_6 rfl ?_
  refine j2_callVi x hb dX6_back_7 m_X6_takesBack (cx_takesBack_nm (d := d) hb (by rw [jtr_n (by omega)]; exact hm) (by rw [jtr_n (by omega)]; exact hd)) wmX6_134 jc_10 rfl rfl rfl (Nat.le_of_ble_eq_true rfl) (j_fit_rm (by omega) (by omega) (by omega)) rfl ?_
  refine j2_callVi x hb dX6_back_10 m_X6_ends (cx_ends_0 (d := d) hb) wmX6_83 jc_10 rfl rfl rfl (Nat.le_of_ble_eq_true rfl) (j_fit_rm (by omega) (by omega) (by omega)) rfl ?_
  exact j_ireturn x hr dX6_back_13 (by omega) (by omega) ⟨rfl, rfl⟩
theorem cx_back_no {d : Nat} {b : SBt} {Y : OUt} {M : MM} (hb : 104 ≤ b.2.1) {r z : Int32} (hd : ¬ M 95 1 ≤ 0) {n q : Nat} (hn : n ≤ 56) (hct : M 95 9 = nI n) (hq : q < n) (h : gBack (jtr M) q = some (r, z)) : CM (d + 4) 0 0 yX6_back cX6_back 2 (some .int) [.ref 94, .int (nI q)] b Y M (.inl (some (.int (0)))) (jrai (jrefu (jtr M) r z) 1) := by
  refine Con.of (by decide +kernel) (Nat.le_of_ble_eq_true rfl) rfl fun p l e s m args below meth c D tyc A ad0 x hr htab hname => ?_
  change JJ _ _ _ _ _ _ _ _ _ _ _ _ _ _ _ _ _ 0 [some (.ref 94), some (.int (nI q))] [] _ 0 0
  refine j_aload_n x dX6_back_0 rfl ?_
  refine j2_callVv x hb dX6_back_1 m_X6_tries (cx_tries (d := d) hb) wmX6_76 jc_10 rfl rfl rfl (Nat.le_of_ble_eq_true rfl) (j_fit_rm (by omega) (by omega) (by omega)) rfl ?_
  refine j_aload_n x dX6_back_4 rfl ?_
  refine j_aload_n x dX6_back_5 rfl ?_
  refine j_iload_n x dX6_back_6 rfl ?_
  refine j2_callVi x hb dX6_back_7 m_X6_takesBack (show CM (d + 3) 0 0 _ _ _ _ _ b Y (jtr M) (.inl (some (.int (gno (some (r, z)))))) (gst (jtr M) (some (r, z)) (jm (gBackS (jtr M) q) 94 18 (jsum (gLeft (gBackS (jtr M) q)) n))) from by have z := cx_takesBack_q (d := d) (Y := Y) (M := jtr M) (q := q) hb (by rw [jtr_n (by omega)]; exact hd) hn (by rw [jtr_n (by omega)]; exact hct) hq; rw [h] at z; exact z) wmX6_134 jc_10 rfl rfl rfl (Nat.le_of_ble_eq_true rfl) (j_fit_rm (by omega) (by omega) (by omega)) rfl ?_
  refine j2_callVi x hb dX6_back_10 m_X6_ends (cx_ends_0 (d := d) hb) wmX6_83 jc_10 rfl rfl rfl (Nat.le_of_ble_eq_true rfl) (j_fit_rm (by omega) (by omega) (by omega)) rfl ?_
  exact j_ireturn x hr dX6_back_13 (by omega) (by omega) ⟨rfl, rfl⟩
theorem cx_back_G {d : Nat} {b : SBt} {Y : OUt} {M : MM} (hb : 104 ≤ b.2.1) (hd : ¬ M 95 1 ≤ 0) {n q : Nat} (hn : n ≤ 56) (hct : M 95 9 = nI n) (hq : q < n) (h : gBack (jtr M) q = none) {k : Nat} (hk : k ≤ 8) (h3 : M 94 3 = nI k) : CM (d + 4) 0 0 yX6_back cX6_back 2 (some .int) [.ref 94, .int (nI q)] b Y M (.inl (some (.int (jsum (gLeft (gBackS (jtr M) q)) n)))) (jkpg (jm (gBackS (jtr M) q) 94 18 (jsum (gLeft (gBackS (jtr M) q)) n)) k) := by
  refine Con.of (by decide +kernel) (Nat.le_of_ble_eq_true rfl) rfl fun p l e s m args below meth c D tyc A ad0 x hr htab hname => ?_
  change JJ _ _ _ _ _ _ _ _ _ _ _ _ _ _ _ _ _ 0 [some (.ref 94), some (.int (nI q))] [] _ 0 0
  refine j_aload_n x dX6_back_0 rfl ?_
  refine j2_callVv x hb dX6_back_1 m_X6_tries (cx_tries (d := d) hb) wmX6_76 jc_10 rfl rfl rfl (Nat.le_of_ble_eq_true rfl) (j_fit_rm (by omega) (by omega) (by omega)) rfl ?_
  refine j_aload_n x dX6_back_4 rfl ?_
  refine j_aload_n x dX6_back_5 rfl ?_
  refine j_iload_n x dX6_back_6 rfl ?_
  refine j2_callVi x hb dX6_back_7 m_X6_takesBack (show CM (d + 3) 0 0 _ _ _ _ _ b Y (jtr M) (.inl (some (.int (gno (none))))) (gst (jtr M) (none) (jm (gBackS (jtr M) q) 94 18 (jsum (gLeft (gBackS (jtr M) q)) n))) from by have z := cx_takesBack_q (d := d) (Y := Y) (M := jtr M) (q := q) hb (by rw [jtr_n (by omega)]; exact hd) hn (by rw [jtr_n (by omega)]; exact hct) hq; rw [h] at z; exact z) wmX6_134 jc_10 rfl rfl rfl (Nat.le_of_ble_eq_true rfl) (j_fit_rm (by omega) (by omega) (by omega)) rfl ?_
  refine j2_callVi x hb dX6_back_10 m_X6_ends (CM_v (cx_ends_G (d := d) hb hk (by rw [show gst (jtr M) none (jm (gBackS (jtr M) q) 94 18 (jsum (gLeft (gBackS (jtr M) q)) n)) = (jm (gBackS (jtr M) q) 94 18 (jsum (gLeft (gBackS (jtr M) q)) n)) from rfl, jm_n (by omega)]; unfold gBackS; rw [jsets_n (by omega), jsets_n (by omega), jsets_n (by omega), jtr_f (by omega) (by omega)]; exact h3)) jm_s) wmX6_83 jc_10 rfl rfl rfl (Nat.le_of_ble_eq_true rfl) (j_fit_rm (by omega) (by omega) (by omega)) rfl ?_
  exact j_ireturn x hr dX6_back_13 (by omega) (by omega) ⟨rfl, rfl⟩
theorem cx_putOff_nm {d : Nat} {b : SBt} {Y : OUt} {M : MM} (hb : 104 ≤ b.2.1) {u : Int32} {t : Int32} (hm : ¬ (¬ t < 0 ∧ ¬ M 95 9 - 1 < t)) (hd : ¬ M 95 1 ≤ 0) : CM (d + 3) 0 0 yX6_putOff cX6_putOff 3 (some .int) [.ref 94, .int t, .int u] b Y M (.inl (some (.int (0)))) (jrai (jrefu (jtr M) 3 t) 1) := by
  refine Con.of (by decide +kernel) (Nat.le_of_ble_eq_true rfl) rfl fun p l e s m args below meth c D tyc A ad0 x hr htab hname => ?_
  change JJ _ _ _ _ _ _ _ _ _ _ _ _ _ _ _ _ _ 0 [some (.ref 94), some (.int t), some (.int u)] [] _ 0 0
  refine j_aload_n x dX6_putOff_0 rfl ?_
  refine j2_callVv x hb dX6_putOff_1 m_X6_tries (cx_tries (d := d) hb) wmX6_76 jc_10 rfl rfl rfl (Nat.le_of_ble_eq_true rfl) (j_fit_rm (by omega) (by omega) (by omega)) rfl ?_
  refine j_aload_n x dX6_putOff_4 rfl ?_
  refine j_aload_n x dX6_putOff_5 rfl ?_
  refine j_iload_n x dX6_putOff_6 rfl ?_
  refine j_iload_n x dX6_putOff_7 rfl ?_
  refine j2_callVi x hb dX6_putOff_8 m_X6_putsOff (cx_putsOff_nm (d := d) hb (by rw [jtr_n (by omega)]; exact hm) (by rw [jtr_n (by omega)]; exact hd)) wmX6_146 jc_10 rfl rfl rfl (Nat.le_of_ble_eq_true rfl) (j_fit_rm (by omega) (by omega) (by omega)) rfl ?_
  refine j2_callVi x hb dX6_putOff_11 m_X6_ends (cx_ends_0 (d := d) hb) wmX6_83 jc_10 rfl rfl rfl (Nat.le_of_ble_eq_true rfl) (j_fit_rm (by omega) (by omega) (by omega)) rfl ?_
  exact j_ireturn x hr dX6_putOff_14 (by omega) (by omega) ⟨rfl, rfl⟩
theorem cx_putOff_no {d : Nat} {b : SBt} {Y : OUt} {M : MM} (hb : 104 ≤ b.2.1) {u : Int32} {r z : Int32} (hd : ¬ M 95 1 ≤ 0) {n q : Nat} (hn : n ≤ 56) (hct : M 95 9 = nI n) (hq : q < n) (hho : ∀ i, i < n → ∃ h, h < 8 ∧ jof M i 0 = nI h) (h : gPut (jtr M) q u = some (r, z)) : CM (d + 4) 0 0 yX6_putOff cX6_putOff 3 (some .int) [.ref 94, .int (nI q), .int u] b Y M (.inl (some (.int (0)))) (jrai (jrefu (jtr M) r z) 1) := by
  refine Con.of (by decide +kernel) (Nat.le_of_ble_eq_true rfl) rfl fun p l e s m args below meth c D tyc A ad0 x hr htab hname => ?_
  change JJ _ _ _ _ _ _ _ _ _ _ _ _ _ _ _ _ _ 0 [some (.ref 94), some (.int (nI q)), some (.int u)] [] _ 0 0
  refine j_aload_n x dX6_putOff_0 rfl ?_
  refine j2_callVv x hb dX6_putOff_1 m_X6_tries (cx_tries (d := d) hb) wmX6_76 jc_10 rfl rfl rfl (Nat.le_of_ble_eq_true rfl) (j_fit_rm (by omega) (by omega) (by omega)) rfl ?_
  refine j_aload_n x dX6_putOff_4 rfl ?_
  refine j_aload_n x dX6_putOff_5 rfl ?_
  refine j_iload_n x dX6_putOff_6 rfl ?_
  refine j_iload_n x dX6_putOff_7 rfl ?_
  refine j2_callVi x hb dX6_putOff_8 m_X6_putsOff (show CM (d + 3) 0 0 _ _ _ _ _ b Y (jtr M) (.inl (some (.int (gno (some (r, z)))))) (gst (jtr M) (some (r, z)) (jm (gPutS (jtr M) q u) 94 18 (jsum (gCl (gPutS (jtr M) q u) q (jtr M 95 2 + u)) n))) from by have z := cx_putsOff_q (d := d) (Y := Y) (M := jtr M) (q := q) (u := u) hb (by rw [jtr_n (by omega)]; exact hd) hn (by rw [jtr_n (by omega)]; exact hct) hq (fun i hi => by have z := hho i hi; unfold jof at z ⊢; rw [jtr_n (by omega)]; exact z); rw [h] at z; exact z) wmX6_146 jc_10 rfl rfl rfl (Nat.le_of_ble_eq_true rfl) (j_fit_rm (by omega) (by omega) (by omega)) rfl ?_
  refine j2_callVi x hb dX6_putOff_11 m_X6_ends (cx_ends_0 (d := d) hb) wmX6_83 jc_10 rfl rfl rfl (Nat.le_of_ble_eq_true rfl) (j_fit_rm (by omega) (by omega) (by omega)) rfl ?_
  exact j_ireturn x hr dX6_putOff_14 (by omega) (by omega) ⟨rfl, rfl⟩
theorem cx_putOff_G {d : Nat} {b : SBt} {Y : OUt} {M : MM} (hb : 104 ≤ b.2.1) {u : Int32} (hd : ¬ M 95 1 ≤ 0) {n q : Nat} (hn : n ≤ 56) (hct : M 95 9 = nI n) (hq : q < n) (hho : ∀ i, i < n → ∃ h, h < 8 ∧ jof M i 0 = nI h) (h : gPut (jtr M) q u = none) {k : Nat} (hk : k ≤ 8) (h3 : M 94 3 = nI k) : CM (d + 4) 0 0 yX6_putOff cX6_putOff 3 (some .int) [.ref 94, .int (nI q), .int u] b Y M (.inl (some (.int (jsum (gCl (gPutS (jtr M) q u) q (jtr M 95 2 + u)) n)))) (jkpg (jm (gPutS (jtr M) q u) 94 18 (jsum (gCl (gPutS (jtr M) q u) q (jtr M 95 2 + u)) n)) k) := by
  refine Con.of (by decide +kernel) (Nat.le_of_ble_eq_true rfl) rfl fun p l e s m args below meth c D tyc A ad0 x hr htab hname => ?_
  change JJ _ _ _ _ _ _ _ _ _ _ _ _ _ _ _ _ _ 0 [some (.ref 94), some (.int (nI q)), some (.int u)] [] _ 0 0
  refine j_aload_n x dX6_putOff_0 rfl ?_
  refine j2_callVv x hb dX6_putOff_1 m_X6_tries (cx_tries (d := d) hb) wmX6_76 jc_10 rfl rfl rfl (Nat.le_of_ble_eq_true rfl) (j_fit_rm (by omega) (by omega) (by omega)) rfl ?_
  refine j_aload_n x dX6_putOff_4 rfl ?_
  refine j_aload_n x dX6_putOff_5 rfl ?_
  refine j_iload_n x dX6_putOff_6 rfl ?_
  refine j_iload_n x dX6_putOff_7 rfl ?_
  refine j2_callVi x hb dX6_putOff_8 m_X6_putsOff (show CM (d + 3) 0 0 _ _ _ _ _ b Y (jtr M) (.inl (some (.int (gno (none))))) (gst (jtr M) (none) (jm (gPutS (jtr M) q u) 94 18 (jsum (gCl (gPutS (jtr M) q u) q (jtr M 95 2 + u)) n))) from by have z := cx_putsOff_q (d := d) (Y := Y) (M := jtr M) (q := q) (u := u) hb (by rw [jtr_n (by omega)]; exact hd) hn (by rw [jtr_n (by omega)]; exact hct) hq (fun i hi => by have z := hho i hi; unfold jof at z ⊢; rw [jtr_n (by omega)]; exact z); rw [h] at z; exact z) wmX6_146 jc_10 rfl rfl rfl (Nat.le_of_ble_eq_true rfl) (j_fit_rm (by omega) (by omega) (by omega)) rfl ?_
  refine j2_callVi x hb dX6_putOff_11 m_X6_ends (CM_v (cx_ends_G (d := d) hb hk (by rw [show gst (jtr M) none (jm (gPutS (jtr M) q u) 94 18 (jsum (gCl (gPutS (jtr M) q u) q (jtr M 95 2 + u)) n)) = (jm (gPutS (jtr M) q u) 94 18 (jsum (gCl (gPutS (jtr M) q u) q (jtr M 95 2 + u)) n)) from rfl, jm_n (by omega)]; unfold gPutS; rw [jsets_n (by omega), jsets_n (by omega), jtr_f (by omega) (by omega)]; exact h3)) jm_s) wmX6_83 jc_10 rfl rfl rfl (Nat.le_of_ble_eq_true rfl) (j_fit_rm (by omega) (by omega) (by omega)) rfl ?_
  exact j_ireturn x hr dX6_putOff_14 (by omega) (by omega) ⟨rfl, rfl⟩
theorem cx_next_no {d : Nat} {b : SBt} {Y : OUt} {M : MM} (hb : 104 ≤ b.2.1) {r z : Int32} (hd : ¬ M 95 1 ≤ 0) {n : Nat} (hn : n ≤ 56) (hct : M 95 9 = nI n) (h : gNext (jtr M) n = some (r, z)) : CM (d + 4) 0 0 yX6_next cX6_next 1 (some .int) [.ref 94] b Y M (.inl (some (.int (0)))) (jrai (jrefu (jtr M) r z) 1) := by
  refine Con.of (by decide +kernel) (Nat.le_of_ble_eq_true rfl) rfl fun p l e s m args below meth c D tyc A ad0 x hr htab hname => ?_
  change JJ _ _ _ _ _ _ _ _ _ _ _ _ _ _ _ _ _ 0 [some (.ref 94)] [] _ 0 0
  refine j_aload_n x dX6_next_0 rfl ?_
  refine j2_callVv x hb dX6_next_1 m_X6_tries (cx_tries (d := d) hb) wmX6_76 jc_10 rfl rfl rfl (Nat.le_of_ble_eq_true rfl) (j_fit_rm (by omega) (by omega) (by omega)) rfl ?_
  refine j_aload_n x dX6_next_4 rfl ?_
  refine j_aload_n x dX6_next_5 rfl ?_
  refine j2_callVi x hb dX6_next_6 m_X6_comesNext (show CM (d + 3) 0 0 _ _ _ _ _ b Y (jtr M) (.inl (some (.int (gno (some (r, z)))))) (gst (jtr M) (some (r, z)) (jm (jm (jtr M) 95 2 (jtr M 95 2 + 1)) 94 18 (jtr M 95 2 + 1))) from by have z := cx_comesNext_d (d := d) (Y := Y) (M := jtr M) hb (by rw [jtr_n (by omega)]; exact hd) hn (by rw [jtr_n (by omega)]; exact hct); rw [h] at z; exact z) wmX6_149 jc_10 rfl rfl rfl (Nat.le_of_ble_eq_true rfl) (j_fit_rm (by omega) (by omega) (by omega)) rfl ?_
  refine j2_callVi x hb dX6_next_9 m_X6_ends (cx_ends_0 (d := d) hb) wmX6_83 jc_10 rfl rfl rfl (Nat.le_of_ble_eq_true rfl) (j_fit_rm (by omega) (by omega) (by omega)) rfl ?_
  exact j_ireturn x hr dX6_next_12 (by omega) (by omega) ⟨rfl, rfl⟩
theorem cx_next_G {d : Nat} {b : SBt} {Y : OUt} {M : MM} (hb : 104 ≤ b.2.1) (hd : ¬ M 95 1 ≤ 0) {n : Nat} (hn : n ≤ 56) (hct : M 95 9 = nI n) (h : gNext (jtr M) n = none) {k : Nat} (hk : k ≤ 8) (h3 : M 94 3 = nI k) : CM (d + 4) 0 0 yX6_next cX6_next 1 (some .int) [.ref 94] b Y M (.inl (some (.int (jtr M 95 2 + 1)))) (jkpg (jm (jm (jtr M) 95 2 (jtr M 95 2 + 1)) 94 18 (jtr M 95 2 + 1)) k) := by
  refine Con.of (by decide +kernel) (Nat.le_of_ble_eq_true rfl) rfl fun p l e s m args below meth c D tyc A ad0 x hr htab hname => ?_
  change JJ _ _ _ _ _ _ _ _ _ _ _ _ _ _ _ _ _ 0 [some (.ref 94)] [] _ 0 0
  refine j_aload_n x dX6_next_0 rfl ?_
  refine j2_callVv x hb dX6_next_1 m_X6_tries (cx_tries (d := d) hb) wmX6_76 jc_10 rfl rfl rfl (Nat.le_of_ble_eq_true rfl) (j_fit_rm (by omega) (by omega) (by omega)) rfl ?_
  refine j_aload_n x dX6_next_4 rfl ?_
  refine j_aload_n x dX6_next_5 rfl ?_
  refine j2_callVi x hb dX6_next_6 m_X6_comesNext (show CM (d + 3) 0 0 _ _ _ _ _ b Y (jtr M) (.inl (some (.int (gno (none))))) (gst (jtr M) (none) (jm (jm (jtr M) 95 2 (jtr M 95 2 + 1)) 94 18 (jtr M 95 2 + 1))) from by have z := cx_comesNext_d (d := d) (Y := Y) (M := jtr M) hb (by rw [jtr_n (by omega)]; exact hd) hn (by rw [jtr_n (by omega)]; exact hct); rw [h] at z; exact z) wmX6_149 jc_10 rfl rfl rfl (Nat.le_of_ble_eq_true rfl) (j_fit_rm (by omega) (by omega) (by omega)) rfl ?_
  refine j2_callVi x hb dX6_next_9 m_X6_ends (CM_v (cx_ends_G (d := d) hb hk (by rw [show gst (jtr M) none (jm (jm (jtr M) 95 2 (jtr M 95 2 + 1)) 94 18 (jtr M 95 2 + 1)) = (jm (jm (jtr M) 95 2 (jtr M 95 2 + 1)) 94 18 (jtr M 95 2 + 1)) from rfl, jm_n (by omega), jm_n (by omega), jtr_f (by omega) (by omega)]; exact h3)) jm_s) wmX6_83 jc_10 rfl rfl rfl (Nat.le_of_ble_eq_true rfl) (j_fit_rm (by omega) (by omega) (by omega)) rfl ?_
  exact j_ireturn x hr dX6_next_12 (by omega) (by omega) ⟨rfl, rfl⟩
end

section
/-! ===== a method of a class of which some methods are run by the machine itself ===== -/
theorem jx_ofW {l : Launch} {y : MethodName} {ws ws' : List Cond} {rm : Room} {Pc : Array Value → State → Prop} {Qc : Array Value → State → Outcome → State → Prop} {XC : String → State → State → Prop} {mc ms : Nat} {free : Addr → Prop} {cc : ByteArray} {maxL : Nat} {ret : Option FieldType}
    (hy : plainFor y = true) (hw : ws = Cond.code y cc maxL ret :: ws')
    (body : ∀ p e s m args below meth c s₁, BodyLoose p l y (headSpec ws rm) cc maxL ret e s m args below meth c s₁ → c.maxLocals = maxL → (∀ x ∈ c.exceptionTable.toList, False) → Pc args s →
      W p l e (headSpec ws rm).room s m args below meth c s.heap [] 0 0 (vx_MQ below Qc XC args s mc ms free) (entryFrame m args maxL)) : vx_Met l y ws rm Pc Qc XC mc ms free := by
  refine MetFree.of_bodySF (code := cc) (maxLocals := maxL) (ret := ret) hy ?_ ?_
  · intro args s m h hn
    obtain ⟨meth, c, h1, h2, h3, h4, h5, h6, -, -⟩ := Cond.code_spec hn (atoms_spec (ws := ws) h _ (by rw [hw]; exact List.mem_cons_self))
    exact ⟨meth, c, h1, h2, h3, h4, h5, h6⟩
  · intro p e s m args below meth c s₁ B hml hP _
    have hh0 : s₁.heap = s.heap := by rw [B.state]; rfl
    have ht : ∀ x ∈ c.exceptionTable.toList, False := by
      obtain ⟨meth9, c9, h1, h2, -, -, -, -, h7, -⟩ := Cond.code_spec B.named (atoms_spec (ws := ws) B.pre _ (by rw [hw]; exact List.mem_cons_self))
      cases Option.some.inj (h1.symm.trans B.method)
      cases Option.some.inj (h2.symm.trans (Stand.of_body B).code)
      intro x hx
      rw [Array.isEmpty_iff.mp h7] at hx
      cases hx
    obtain ⟨t, a1, o, b1, b2, b3⟩ := body p e s m args below meth c s₁ B hml ht hP s₁ hh0 (Stand.of_body B)
    exact ⟨t, o, a1, b1, b2, b3⟩
theorem Con.ofF {d mc ms : Nat} {y : MethodName} {cc : ByteArray} {maxL : Nat} {ret : Option FieldType} {as : List Value} {h : MH} {Q : MO → MH → Prop} (hy : plainFor y = true) (hn : as.length ≤ maxL) (hc : as.all (fun v => v.category == 1) = true)
    (body : ∀ (p : Program) (l : Launch) (e : Env) (s : State) (m : MethodId) (args : Array Value) (below : List Frame) (meth : Method) (c : Code) (D : va_G) (tyc : Nat → ClassId) (A : Nat → Prop) (ad0 : Nat → Nat), j_X p l s m args meth c D tyc A y.cls cc maxL → meth.sig.returnType = ret → (∀ z ∈ c.exceptionTable.toList, False) → meth.name = y.name →
      JJ p l e (j_rm d mc ms) s m args below meth c D tyc A h.1 ad0 maxL (vx_MQ below (j_Qc D tyc A h.1 ad0 Q) (j_XC D tyc A h.1 ad0 Q) args s mc ms A) 0 (j_L0 maxL as) [] h 0 0) : Con d mc ms y cc maxL ret as h Q := by
  intro l D tyc ad sz hl hh ha
  have hc : ∀ v ∈ as, v.category = 1 := fun v hv => by simpa using List.all_eq_true.mp hc v hv
  refine jx_ofW (cc := cc) (maxL := maxL) (ret := ret) hy rfl ?_
  intro p e s m args below meth c s₁ B hml htab hv
  obtain ⟨rfl, hsz, hP, hK, hD0, hE⟩ := hv
  have hts := atoms_spec (ws := Cond.code y cc maxL ret :: j_all) B.pre
  subst hsz
  have hD := hD0.self (sz := s.heap.size)
  have hA : ∀ q : Nat, s.heap.size ≤ q → va_A (j_w tyc ad h) s.heap.size q := fun q h => Or.inr h
  have hl0 := lv_entry (as.map (j_cv ad)) (n := maxL) (by
    have e1 : ∀ (vs : List Value), (∀ v ∈ vs, v.category = 1) → (lg_sl (vs.map (j_cv ad))).length = vs.length := by
      intro vs
      induction vs with
      | nil => intro _; rfl
      | cons v vs ih =>
        intro hc
        have hv : ¬ (j_cv ad v).category = 2 := by rw [j_cv_cat, hc v List.mem_cons_self]; decide
        simp only [lg_sl, List.map_cons, List.flatMap_cons, if_neg hv, List.length_append, List.length_cons, List.length_nil]
        have := ih (fun w hw => hc w (List.mem_cons_of_mem _ hw))
        simp only [lg_sl] at this
        omega
    rw [e1 as hc]
    exact hn)
  rw [lg_entry_eq]
  have key := body p l e s m ((as.map (j_cv ad)).toArray) below meth c D tyc (va_A (j_w tyc ad h) s.heap.size) ad ⟨B.exec, B.bytes, hml, findClass_of_methodNamed B.named, fun w hw => hts w (List.mem_cons_of_mem _ hw), hK, hA, B.notSynchronized, hl, hE⟩ B.returns htab (name_of_methodNamed B.named B.method).1
  exact key ad _ s.heap [] ⟨j_L.entry hn hc hl0, hP, hD, va_S.rf, ⟨Nat.le_refl _, fun _ _ => rfl⟩, hh, fun v hv => (by cases hv), fun v hv => ha v (by
    obtain ⟨i, hi⟩ := List.getElem?_of_mem hv
    exact List.mem_of_getElem? (j_L0_get hi))⟩

/-! ===== the reference: who plays whom ===== -/
def gfm (v w : Int32) : Int32 := if ¬ 0 ≤ v ^^^ w ∧ ¬ v - v / w * w = 0 then v - v / w * w + w else v - v / w * w
theorem c_floorMod {d : Nat} {b : SBt} {Y : OUt} {M : MM} (hb : 104 ≤ b.2.1) {v w : Int32} (hw : ¬ w = 0) : CM (d) 0 0 yJ9_floorMod_7cf53 cJ9_floorMod_7cf53 3 (some .int) [.int v, .int w] b Y M (.inl (some (.int (gfm v w)))) (M) := by
  refine Con.ofF (by decide +kernel) (Nat.le_of_ble_eq_true rfl) rfl fun p l e s m args below meth c D tyc A ad0 x hr htab hname => ?_
  change JJ _ _ _ _ _ _ _ _ _ _ _ _ _ _ _ _ _ 0 [some (.int v), some (.int w), none] [] _ 0 0
  refine j_iload_n x dJ9_floorMod_7cf53_0 rfl ?_
  refine j_iload_n x dJ9_floorMod_7cf53_1 rfl ?_
  refine j_irem x dJ9_floorMod_7cf53_2 hw ?_
  refine j_istore_n x dJ9_floorMod_7cf53_3 (by decide) rfl ?_
  refine j_iload_n x dJ9_floorMod_7cf53_4 rfl ?_
  refine j_iload_n x dJ9_floorMod_7cf53_5 rfl ?_
  refine j_ixor x dJ9_floorMod_7cf53_6 ?_
  refine j_if_ge (tgt := 18) x dJ9_floorMod_7cf53_7 (by decide) (fun h1 => ?_) (fun h1 => ?_)
  · refine j_iload_n x dJ9_floorMod_7cf53_18 rfl ?_
    exact j_ireturn x hr dJ9_floorMod_7cf53_19 (by omega) (by omega) ⟨by rw [gfm, if_neg (fun z => z.1 h1)], rfl⟩
  · refine j_iload_n x dJ9_floorMod_7cf53_10 rfl ?_
    refine j_if_eq (tgt := 18) x dJ9_floorMod_7cf53_11 (by decide) (fun h2 => ?_) (fun h2 => ?_)
    · refine j_iload_n x dJ9_floorMod_7cf53_18 rfl ?_
      exact j_ireturn x hr dJ9_floorMod_7cf53_19 (by omega) (by omega) ⟨by rw [gfm, if_neg (fun z => z.2 h2)], rfl⟩
    · refine j_iload_n x dJ9_floorMod_7cf53_14 rfl ?_
      refine j_iload_n x dJ9_floorMod_7cf53_15 rfl ?_
      refine j_iadd x dJ9_floorMod_7cf53_16 ?_
      exact j_ireturn x hr dJ9_floorMod_7cf53_17 (by omega) (by omega) ⟨by rw [gfm, if_pos ⟨h1, h2⟩], rfl⟩
def gpl (v : Int32) : Int32 := v + (v - v / 2 * 2)
def gRiv (p t w : Int32) : Int32 := if t = p - 1 then w else if t = w then p - 1 else gfm (2 * w - t) (p - 1)
def gHm (p t w : Int32) : Int32 := if t = p - 1 then jb (w - w / 2 * 2 = 1) else if t = w then jb (w - w / 2 * 2 = 0) else if p / 2 - 1 < gfm (t - w) (p - 1) then jb ((p - 1 - gfm (t - w) (p - 1)) - (p - 1 - gfm (t - w) (p - 1)) / 2 * 2 = 1) else jb (gfm (t - w) (p - 1) - gfm (t - w) (p - 1) / 2 * 2 = 0)
theorem cx_rival {d : Nat} {b : SBt} {Y : OUt} {M : MM} (hb : 104 ≤ b.2.1) {t w : Int32} (hp : ¬ gpl (M 95 0) - 1 = 0) : CM (d + 1) 0 0 yX6_rival cX6_rival 4 (some .int) [.ref 94, .int t, .int w] b Y M (.inl (some (.int (gRiv (gpl (M 95 0)) t w)))) (M) := by
  refine Con.of (by decide +kernel) (Nat.le_of_ble_eq_true rfl) rfl fun p l e s m args below meth c D tyc A ad0 x hr htab hname => ?_
  change JJ _ _ _ _ _ _ _ _ _ _ _ _ _ _ _ _ _ 0 [some (.ref 94), some (.int t), some (.int w), none] [] _ 0 0
  refine j_aload_n x dX6_rival_0 rfl ?_
  refine j2_callVi x hb dX6_rival_1 m_X6_places (show CM d 0 0 _ _ _ _ _ b Y M (.inl (some (.int (gpl (M 95 0))))) M from cx_places (d := d) hb) wmX6_94 jc_10 rfl rfl rfl (Nat.le_of_ble_eq_true rfl) (j_fit_rm (by omega) (by omega) (by omega)) rfl ?_
  refine j_istore_n x dX6_rival_4 (by decide) rfl ?_
  refine j_iload_n x dX6_rival_5 rfl ?_
  refine j_iload_n x dX6_rival_6 rfl ?_
  refine j_iconst (v := 1) x dX6_rival_7 (by decide) ?_
  refine j_isub x dX6_rival_8 ?_
  refine j_icmp_ne (tgt := 14) x dX6_rival_9 (by decide) (fun h1 => ?_) (fun h1 => ?_)
  · refine j_iload_n x dX6_rival_14 rfl ?_
    refine j_iload_n x dX6_rival_15 rfl ?_
    refine j_icmp_ne (tgt := 23) x dX6_rival_16 (by decide) (fun h2 => ?_) (fun h2 => ?_)
    · refine j_iconst (v := 2) x dX6_rival_23 (by decide) ?_
      refine j_iload_n x dX6_rival_24 rfl ?_
      refine j_imul x dX6_rival_25 ?_
      refine j_iload_n x dX6_rival_26 rfl ?_
      refine j_isub x dX6_rival_27 ?_
      refine j_iload_n x dX6_rival_28 rfl ?_
      refine j_iconst (v := 1) x dX6_rival_29 (by decide) ?_
      refine j_isub x dX6_rival_30 ?_
      refine j2_callSi x hb dX6_rival_31 m_J9_floorMod_7cf53 (c_floorMod (d := d) hb hp) wmX6_98 rfl (Nat.le_of_ble_eq_true rfl) (j_fit_rm (by omega) (by omega) (by omega)) rfl ?_
      exact j_ireturn x hr dX6_rival_34 (by omega) (by omega) ⟨by rw [gRiv, if_neg h1, if_neg h2], rfl⟩
    · refine j_iload_n x dX6_rival_19 rfl ?_
      refine j_iconst (v := 1) x dX6_rival_20 (by decide) ?_
      refine j_isub x dX6_rival_21 ?_
      exact j_ireturn x hr dX6_rival_22 (by omega) (by omega) ⟨by rw [gRiv, if_neg h1, if_pos h2], rfl⟩
  · refine j_iload_n x dX6_rival_12 rfl ?_
    exact j_ireturn x hr dX6_rival_13 (by omega) (by omega) ⟨by rw [gRiv, if_pos h1], rfl⟩
theorem cx_isAtHome {d : Nat} {b : SBt} {Y : OUt} {M : MM} (hb : 104 ≤ b.2.1) {t w : Int32} (hp : ¬ gpl (M 95 0) - 1 = 0) : CM (d + 1) 0 0 yX6_isAtHome cX6_isAtHome 5 (some .boolean) [.ref 94, .int t, .int w] b Y M (.inl (some (.int (gHm (gpl (M 95 0)) t w)))) (M) := by
  refine Con.of (by decide +kernel) (Nat.le_of_ble_eq_true rfl) rfl fun p l e s m args below meth c D tyc A ad0 x hr htab hname => ?_
  change JJ _ _ _ _ _ _ _ _ _ _ _ _ _ _ _ _ _ 0 [some (.ref 94), some (.int t), some (.int w), none, none] [] _ 0 0
  refine j_aload_n x dX6_isAtHome_0 rfl ?_
  refine j2_callVi x hb dX6_isAtHome_1 m_X6_places (show CM d 0 0 _ _ _ _ _ b Y M (.inl (some (.int (gpl (M 95 0))))) M from cx_places (d := d) hb) wmX6_94 jc_10 rfl rfl rfl (Nat.le_of_ble_eq_true rfl) (j_fit_rm (by omega) (by omega) (by omega)) rfl ?_
  refine j_istore_n x dX6_isAtHome_4 (by decide) rfl ?_
  refine j_iload_n x dX6_isAtHome_5 rfl ?_
  refine j_iload_n x dX6_isAtHome_6 rfl ?_
  refine j_iconst (v := 1) x dX6_isAtHome_7 (by decide) ?_
  refine j_isub x dX6_isAtHome_8 ?_
  refine j_icmp_ne (tgt := 25) x dX6_isAtHome_9 (by decide) (fun h1 => ?_) (fun h1 => ?_)
  · refine j_iload_n x dX6_isAtHome_25 rfl ?_
    refine j_iload_n x dX6_isAtHome_26 rfl ?_
    refine j_icmp_ne (tgt := 42) x dX6_isAtHome_27 (by decide) (fun h2 => ?_) (fun h2 => ?_)
    · refine j_iload_n x dX6_isAtHome_42 rfl ?_
      refine j_iload_n x dX6_isAtHome_43 rfl ?_
      refine j_isub x dX6_isAtHome_44 ?_
      refine j_iload_n x dX6_isAtHome_45 rfl ?_
      refine j_iconst (v := 1) x dX6_isAtHome_46 (by decide) ?_
      refine j_isub x dX6_isAtHome_47 ?_
      refine j2_callSi x hb dX6_isAtHome_48 m_J9_floorMod_7cf53 (c_floorMod (d := d) hb hp) wmX6_98 rfl (Nat.le_of_ble_eq_true rfl) (j_fit_rm (by omega) (by omega) (by omega)) rfl ?_
      refine j_istore x dX6_isAtHome_51 (by decide) rfl ?_
      refine j_iload x dX6_isAtHome_53 rfl ?_
      refine j_iload_n x dX6_isAtHome_55 rfl ?_
      refine j_iconst (v := 2) x dX6_isAtHome_56 (by decide) ?_
      refine j_idiv x dX6_isAtHome_57 (by decide) ?_
      refine j_iconst (v := 1) x dX6_isAtHome_58 (by decide) ?_
      refine j_isub x dX6_isAtHome_59 ?_
      refine j_icmp_gt (tgt := 78) x dX6_isAtHome_60 (by decide) (fun h3 => ?_) (fun h3 => ?_)
      · refine j_iload_n x dX6_isAtHome_78 rfl ?_
        refine j_iconst (v := 1) x dX6_isAtHome_79 (by decide) ?_
        refine j_isub x dX6_isAtHome_80 ?_
        refine j_iload x dX6_isAtHome_81 rfl ?_
        refine j_isub x dX6_isAtHome_83 ?_
        refine j_iconst (v := 2) x dX6_isAtHome_84 (by decide) ?_
        refine j_irem x dX6_isAtHome_85 (by decide) ?_
        refine j_iconst (v := 1) x dX6_isAtHome_86 (by decide) ?_
        refine j_b_icmp_ne (T := 94) (E := 95) x dX6_isAtHome_87 (by decide) dX6_isAtHome_90 dX6_isAtHome_91 (by decide) dX6_isAtHome_94 (by decide) ?_
        exact j_zreturn x hr dX6_isAtHome_95 (by first | decide | with_reducible exact jb_nar | with_reducible exact jisS_nar | with_reducible exact gno_nar) (by omega) (by omega) ⟨by rw [gHm, if_neg h1, if_neg h2, if_pos h3], rfl⟩
      · refine j_iload x dX6_isAtHome_63 rfl ?_
        refine j_iconst (v := 2) x dX6_isAtHome_65 (by decide) ?_
        refine j_irem x dX6_isAtHome_66 (by decide) ?_
        refine j_if_ne (tgt := 74) x dX6_isAtHome_67 (by decide) (fun h4 => ?_) (fun h4 => ?_)
        · refine j_iconst (v := 0) x dX6_isAtHome_74 (by decide) ?_
          refine j_goto (tgt := 95) x dX6_isAtHome_75 (by decide) ?_
          exact j_zreturn x hr dX6_isAtHome_95 (by first | decide | with_reducible exact jb_nar | with_reducible exact jisS_nar | with_reducible exact gno_nar) (by omega) (by omega) ⟨by rw [gHm, if_neg h1, if_neg h2, if_neg h3, jb_f h4], rfl⟩
        · refine j_iconst (v := 1) x dX6_isAtHome_70 (by decide) ?_
          refine j_goto (tgt := 95) x dX6_isAtHome_71 (by decide) ?_
          exact j_zreturn x hr dX6_isAtHome_95 (by first | decide | with_reducible exact jb_nar | with_reducible exact jisS_nar | with_reducible exact gno_nar) (by omega) (by omega) ⟨by rw [gHm, if_neg h1, if_neg h2, if_neg h3, jb_t h4], rfl⟩
    · refine j_iload_n x dX6_isAtHome_30 rfl ?_
      refine j_iconst (v := 2) x dX6_isAtHome_31 (by decide) ?_
      refine j_irem x dX6_isAtHome_32 (by decide) ?_
      refine j_b_if_ne (T := 40) (E := 41) x dX6_isAtHome_33 (by decide) dX6_isAtHome_36 dX6_isAtHome_37 (by decide) dX6_isAtHome_40 (by decide) ?_
      exact j_zreturn x hr dX6_isAtHome_41 (by first | decide | with_reducible exact jb_nar | with_reducible exact jisS_nar | with_reducible exact gno_nar) (by omega) (by omega) ⟨by rw [gHm, if_neg h1, if_pos h2], rfl⟩
  · refine j_iload_n x dX6_isAtHome_12 rfl ?_
    refine j_iconst (v := 2) x dX6_isAtHome_13 (by decide) ?_
    refine j_irem x dX6_isAtHome_14 (by decide) ?_
    refine j_iconst (v := 1) x dX6_isAtHome_15 (by decide) ?_
    refine j_b_icmp_ne (T := 23) (E := 24) x dX6_isAtHome_16 (by decide) dX6_isAtHome_19 dX6_isAtHome_20 (by decide) dX6_isAtHome_23 (by decide) ?_
    exact j_zreturn x hr dX6_isAtHome_24 (by first | decide | with_reducible exact jb_nar | with_reducible exact jisS_nar | with_reducible exact gno_nar) (by omega) (by omega) ⟨by rw [gHm, if_pos h1], rfl⟩
end
