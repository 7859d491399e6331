/-! ===== the reference: the changes of a drawn league ===== -/
def gno (q : Option (Int32 × Int32)) : Int32 := match q with
  | some _ => 0
  | none => 1
def gst (M : MM) (q : Option (Int32 × Int32)) (S : MM) : MM := match q with
  | some z => jrefu M z.1 z.2
  | none => S
theorem gno_nar {q : Option (Int32 × Int32)} : narrow .boolean (.int (gno q)) = .int (gno q) := by
  cases q with
  | none => decide
  | some v => exact (show narrow .boolean (.int 0) = .int 0 by decide)
def gRes (M : MM) (q : Nat) (u v : Int32) : Option (Int32 × Int32) := if ¬ ((¬ u < 0 ∧ ¬ 20 < u) ∧ (¬ v < 0 ∧ ¬ 20 < v)) then some (1, 0) else if jof M q 4 = 1 then some (8, 0) else if ¬ jof M q 2 = M 95 2 then some (7, jof M q 2) else none
def gResS (M : MM) (q : Nat) (u v : Int32) : MM := jsets (jsets (jsets M q 4 1) q 6 u) q 7 v
def gBack (M : MM) (q : Nat) : Option (Int32 × Int32) := if ¬ jof M q 4 = 1 then some (9, jhow M q) else if ¬ jof M q 2 = M 95 2 then some (7, jof M q 2) else none
def gBackS (M : MM) (q : Nat) : MM := jsets (jsets (jsets M q 4 0) q 6 0) q 7 0
def gPut (M : MM) (q : Nat) (u : Int32) : Option (Int32 × Int32) := if ¬ (¬ u < 1 ∧ ¬ 9 < u) then some (1, 0) else if jof M q 4 = 1 then some (8, 0) else if ¬ jof M q 2 = M 95 2 then some (7, jof M q 2) else if ¬ (¬ M 95 2 + u < 0 ∧ ¬ M 95 1 - 1 < M 95 2 + u) then some (10, M 95 2 + u) else none
def gPutS (M : MM) (q : Nat) (u : Int32) : MM := jsets (jsets M q 2 (M 95 2 + u)) q 5 1
def gNext (M : MM) (n : Nat) : Option (Int32 × Int32) := if ¬ jfst (gLeft M) n = -1 then some (11, jfst (gLeft M) n) else if M 95 2 = M 95 1 - 1 then some (14, M 95 2) else none
theorem jsets_n {M : MM} {m1 w1 i z : Nat} {v : Int32} (h : i ≠ 95 ∨ z < 18 ∨ z ≠ 18 + 8 * m1 + w1) : jsets M m1 w1 v i z = M i z := jm_n (by omega)
theorem jsets_of {M : MM} {m1 w1 m2 w2 : Nat} {v : Int32} (h : m1 ≠ m2 ∨ w1 ≠ w2) (h1 : w1 < 8) (h2 : w2 < 8) : jof (jsets M m1 w1 v) m2 w2 = jof M m2 w2 := by
  unfold jof
  exact jsets_n (by omega)
theorem jsets_s {M : MM} {m1 w1 : Nat} {v : Int32} : jof (jsets M m1 w1 v) m1 w1 = v := jm_s
theorem cx_results_nm {d : Nat} {b : SBt} {Y : OUt} {M : MM} (hb : 104 ≤ b.2.1) {u v : Int32} {t : Int32} (hm : ¬ (¬ t < 0 ∧ ¬ M 95 9 - 1 < t)) (hd : ¬ M 95 1 ≤ 0) : CM (d + 2) 0 0 yX6_results cX6_results 4 (some .boolean) [.ref 94, .int t, .int u, .int v] b Y M (.inl (some (.int (0)))) (jrefu M 3 t) := by
  refine Con.of (by decide +kernel) (Nat.le_of_ble_eq_true rfl) rfl fun p l e s m args below meth c D tyc A ad0 x hr htab hname => ?_
  change JJ _ _ _ _ _ _ _ _ _ _ _ _ _ _ _ _ _ 0 [some (.ref 94), some (.int t), some (.int u), some (.int v)] [] _ 0 0
  refine j_aload_n x dX6_results_0 rfl ?_
  refine j2_callVi x hb dX6_results_1 m_X6_isDrawn (CM_v (cx_isDrawn (d := d) hb) (jb_t hd)) wmX6_87 jc_10 rfl rfl rfl (Nat.le_of_ble_eq_true rfl) (j_fit_rm (by omega) (by omega) (by omega)) rfl ?_
  refine j_if_ne (tgt := 14) x dX6_results_4 (by decide) (fun hc => ?_) (fun hc => absurd hc (by decide))
  refine j_aload_n x dX6_results_14 rfl ?_
  refine j_iload_n x dX6_results_15 rfl ?_
  refine j2_callVi x hb dX6_results_16 m_X6_isMeeting (CM_v (cx_isMeeting (d := d) hb) (jb_f hm)) wmX6_122 jc_10 rfl rfl rfl (Nat.le_of_ble_eq_true rfl) (j_fit_rm (by omega) (by omega) (by omega)) rfl ?_
  refine j_if_ne (tgt := 29) x dX6_results_19 (by decide) (fun hc => absurd hc (fun q => q rfl)) (fun hc => ?_)
  refine j_aload_n x dX6_results_22 rfl ?_
  refine j_iconst (v := 3) x dX6_results_23 (by decide) ?_
  refine j_iload_n x dX6_results_24 rfl ?_
  refine j2_callVi x hb dX6_results_25 m_X6_refuses (cx_refuses (d := d) hb) wmX6_79 jc_10 rfl rfl rfl (Nat.le_of_ble_eq_true rfl) (j_fit_rm (by omega) (by omega) (by omega)) rfl ?_
  exact j_zreturn x hr dX6_results_28 (by first | decide | exact jisS_nar | exact gno_nar | exact jb_nar) (by omega) (by omega) ⟨rfl, rfl⟩
theorem cx_takesBack_nm {d : Nat} {b : SBt} {Y : OUt} {M : MM} (hb : 104 ≤ b.2.1) {t : Int32} (hm : ¬ (¬ t < 0 ∧ ¬ M 95 9 - 1 < t)) (hd : ¬ M 95 1 ≤ 0) : CM (d + 2) 0 0 yX6_takesBack cX6_takesBack 2 (some .boolean) [.ref 94, .int t] b Y M (.inl (some (.int (0)))) (jrefu M 3 t) := by
  refine Con.of (by decide +kernel) (Nat.le_of_ble_eq_true rfl) rfl fun p l e s m args below meth c D tyc A ad0 x hr htab hname => ?_
  change JJ _ _ _ _ _ _ _ _ _ _ _ _ _ _ _ _ _ 0 [some (.ref 94), some (.int t)] [] _ 0 0
  refine j_aload_n x dX6_takesBack_0 rfl ?_
  refine j2_callVi x hb dX6_takesBack_1 m_X6_isDrawn (CM_v (cx_isDrawn (d := d) hb) (jb_t hd)) wmX6_87 jc_10 rfl rfl rfl (Nat.le_of_ble_eq_true rfl) (j_fit_rm (by omega) (by omega) (by omega)) rfl ?_
  refine j_if_ne (tgt := 14) x dX6_takesBack_4 (by decide) (fun hc => ?_) (fun hc => absurd hc (by decide))
  refine j_aload_n x dX6_takesBack_14 rfl ?_
  refine j_iload_n x dX6_takesBack_15 rfl ?_
  refine j2_callVi x hb dX6_takesBack_16 m_X6_isMeeting (CM_v (cx_isMeeting (d := d) hb) (jb_f hm)) wmX6_122 jc_10 rfl rfl rfl (Nat.le_of_ble_eq_true rfl) (j_fit_rm (by omega) (by omega) (by omega)) rfl ?_
  refine j_if_ne (tgt := 29) x dX6_takesBack_19 (by decide) (fun hc => absurd hc (fun q => q rfl)) (fun hc => ?_)
  refine j_aload_n x dX6_takesBack_22 rfl ?_
  refine j_iconst (v := 3) x dX6_takesBack_23 (by decide) ?_
  refine j_iload_n x dX6_takesBack_24 rfl ?_
  refine j2_callVi x hb dX6_takesBack_25 m_X6_refuses (cx_refuses (d := d) hb) wmX6_79 jc_10 rfl rfl rfl (Nat.le_of_ble_eq_true rfl) (j_fit_rm (by omega) (by omega) (by omega)) rfl ?_
  exact j_zreturn x hr dX6_takesBack_28 (by first | decide | exact jisS_nar | exact gno_nar | exact jb_nar) (by omega) (by omega) ⟨rfl, rfl⟩
theorem cx_putsOff_nm {d : Nat} {b : SBt} {Y : OUt} {M : MM} (hb : 104 ≤ b.2.1) {u : Int32} {t : Int32} (hm : ¬ (¬ t < 0 ∧ ¬ M 95 9 - 1 < t)) (hd : ¬ M 95 1 ≤ 0) : CM (d + 2) 0 0 yX6_putsOff cX6_putsOff 4 (some .boolean) [.ref 94, .int t, .int u] b Y M (.inl (some (.int (0)))) (jrefu M 3 t) := by
  refine Con.of (by decide +kernel) (Nat.le_of_ble_eq_true rfl) rfl fun p l e s m args below meth c D tyc A ad0 x hr htab hname => ?_
  change JJ _ _ _ _ _ _ _ _ _ _ _ _ _ _ _ _ _ 0 [some (.ref 94), some (.int t), some (.int u), none] [] _ 0 0
  refine j_aload_n x dX6_putsOff_0 rfl ?_
  refine j2_callVi x hb dX6_putsOff_1 m_X6_isDrawn (CM_v (cx_isDrawn (d := d) hb) (jb_t hd)) wmX6_87 jc_10 rfl rfl rfl (Nat.le_of_ble_eq_true rfl) (j_fit_rm (by omega) (by omega) (by omega)) rfl ?_
  refine j_if_ne (tgt := 14) x dX6_putsOff_4 (by decide) (fun hc => ?_) (fun hc => absurd hc (by decide))
  refine j_aload_n x dX6_putsOff_14 rfl ?_
  refine j_iload_n x dX6_putsOff_15 rfl ?_
  refine j2_callVi x hb dX6_putsOff_16 m_X6_isMeeting (CM_v (cx_isMeeting (d := d) hb) (jb_f hm)) wmX6_122 jc_10 rfl rfl rfl (Nat.le_of_ble_eq_true rfl) (j_fit_rm (by omega) (by omega) (by omega)) rfl ?_
  refine j_if_ne (tgt := 29) x dX6_putsOff_19 (by decide) (fun hc => absurd hc (fun q => q rfl)) (fun hc => ?_)
  refine j_aload_n x dX6_putsOff_22 rfl ?_
  refine j_iconst (v := 3) x dX6_putsOff_23 (by decide) ?_
  refine j_iload_n x dX6_putsOff_24 rfl ?_
  refine j2_callVi x hb dX6_putsOff_25 m_X6_refuses (cx_refuses (d := d) hb) wmX6_79 jc_10 rfl rfl rfl (Nat.le_of_ble_eq_true rfl) (j_fit_rm (by omega) (by omega) (by omega)) rfl ?_
  exact j_zreturn x hr dX6_putsOff_28 (by first | decide | exact jisS_nar | exact gno_nar | exact jb_nar) (by omega) (by omega) ⟨rfl, rfl⟩
theorem cx_results_q {d : Nat} {b : SBt} {Y : OUt} {M : MM} (hb : 104 ≤ b.2.1) {u v : Int32} (hd : ¬ M 95 1 ≤ 0) {n q : Nat} (hn : n ≤ 56) (hct : M 95 9 = nI n) (hq : q < n) : CM (d + 3) 0 0 yX6_results cX6_results 4 (some .boolean) [.ref 94, .int (nI q), .int u, .int v] b Y M (.inl (some (.int (gno (gRes M q u v))))) (gst M (gRes M q u v) (jm (gResS M q u v) 94 18 (jsum (gLeft (gResS M q u v)) n))) := by
  refine Con.of (by decide +kernel) (Nat.le_of_ble_eq_true rfl) rfl fun p l e s m args below meth c D tyc A ad0 x hr htab hname => ?_
  change JJ _ _ _ _ _ _ _ _ _ _ _ _ _ _ _ _ _ 0 [some (.ref 94), some (.int (nI q)), some (.int u), some (.int v)] [] _ 0 0
  refine j_aload_n x dX6_results_0 rfl ?_
  refine j2_callVi x hb dX6_results_1 m_X6_isDrawn (CM_v (cx_isDrawn (d := d) hb) (jb_t hd)) wmX6_87 jc_10 rfl rfl rfl (Nat.le_of_ble_eq_true rfl) (j_fit_rm (by omega) (by omega) (by omega)) rfl ?_
  refine j_if_ne (tgt := 14) x dX6_results_4 (by decide) (fun hc => ?_) (fun hc => absurd hc (by decide))
  refine j_aload_n x dX6_results_14 rfl ?_
  refine j_iload_n x dX6_results_15 rfl ?_
  refine j2_callVi x hb dX6_results_16 m_X6_isMeeting (show CM (d + 1) 0 0 _ _ _ _ _ b Y M (.inl (some (.int 1))) M from CM_v (cx_isMeeting (d := d) hb) (jb_t ⟨nI_pos (by omega), by rw [hct, show (nI n - 1 : Int32) = nI (n - 1) from nI_sub (d := 1) (by omega)]; exact nI_nlt (by omega) (by omega)⟩)) wmX6_122 jc_10 rfl rfl rfl (Nat.le_of_ble_eq_true rfl) (j_fit_rm (by omega) (by omega) (by omega)) rfl ?_
  refine j_if_ne (tgt := 29) x dX6_results_19 (by decide) (fun hc => ?_) (fun hc => absurd hc (by decide))
  refine j_iload_n x dX6_results_29 rfl ?_
  refine j_iconst (v := 0) x dX6_results_30 (by decide) ?_
  refine j_bipush (v := 20) x dX6_results_31 (by decide) ?_
  refine j2_callSi x hb dX6_results_33 m_X6_in (cx_in (d := d) hb) wmX6_64 rfl (Nat.le_of_ble_eq_true rfl) (j_fit_rm (by omega) (by omega) (by omega)) rfl ?_
  refine j_if_eq (tgt := 49) x dX6_results_36 (by decide) (fun h1 => ?_) (fun h1 => ?_)
  · refine j_aload_n x dX6_results_49 rfl ?_
    refine j_iconst (v := 1) x dX6_results_50 (by decide) ?_
    refine j_iconst (v := 0) x dX6_results_51 (by decide) ?_
    refine j2_callVi x hb dX6_results_52 m_X6_refuses (cx_refuses (d := d) hb) wmX6_79 jc_10 rfl rfl rfl (Nat.le_of_ble_eq_true rfl) (j_fit_rm (by omega) (by omega) (by omega)) rfl ?_
    exact j_zreturn x hr dX6_results_55 (by first | decide | exact jisS_nar | exact gno_nar | exact jb_nar) (by omega) (by omega) ⟨by rw [show gRes M q u v = some (1, 0) from if_pos (fun z => jb_0.mp h1 z.1)]; rfl, by rw [show gRes M q u v = some (1, 0) from if_pos (fun z => jb_0.mp h1 z.1)]; rfl⟩
  · refine j_iload_n x dX6_results_39 rfl ?_
    refine j_iconst (v := 0) x dX6_results_40 (by decide) ?_
    refine j_bipush (v := 20) x dX6_results_41 (by decide) ?_
    refine j2_callSi x hb dX6_results_43 m_X6_in (cx_in (d := d) hb) wmX6_64 rfl (Nat.le_of_ble_eq_true rfl) (j_fit_rm (by omega) (by omega) (by omega)) rfl ?_
    refine j_if_ne (tgt := 56) x dX6_results_46 (by decide) (fun h2 => ?_) (fun h2 => ?_)
    · refine j_aload_n x dX6_results_56 rfl ?_
      refine j_iload_n x dX6_results_57 rfl ?_
      refine j2_callVi x hb dX6_results_58 m_X6_isPlayed (cx_isPlayed (d := d) hb (m1 := q) (by omega)) wmX6_72 jc_10 rfl rfl rfl (Nat.le_of_ble_eq_true rfl) (j_fit_rm (by omega) (by omega) (by omega)) rfl ?_
      refine j_if_eq (tgt := 72) x dX6_results_61 (by decide) (fun h3 => ?_) (fun h3 => ?_)
      · refine j_aload_n x dX6_results_72 rfl ?_
        refine j_iload_n x dX6_results_73 rfl ?_
        refine j_iconst (v := 2) x dX6_results_74 (by decide) ?_
        refine j2_callVi x hb dX6_results_75 m_X6_of (cx_of (d := d) hb (m1 := q) (w1 := 2) (by omega) (by decide)) wmX6_68 jc_10 rfl rfl rfl (Nat.le_of_ble_eq_true rfl) (j_fit_rm (by omega) (by omega) (by omega)) rfl ?_
        refine j_aload_n x dX6_results_78 rfl ?_
        refine j2_getr (k := 0) (r := 95) x hb dX6_results_79 jc_10 wfX6_9 (by decide) rfl ?_
        refine j_iconst (v := 2) x dX6_results_82 (by decide) ?_
        refine j2_ialn x hb dX6_results_83 fa_95 (j := 2) (vp_c (by decide)) (by decide) ?_
        refine j_icmp_eq (tgt := 100) x dX6_results_84 (by decide) (fun h4 => ?_) (fun h4 => ?_)
        · refine j_aload_n x dX6_results_100 rfl ?_
          refine j_iload_n x dX6_results_101 rfl ?_
          refine j_iconst (v := 4) x dX6_results_102 (by decide) ?_
          refine j_iconst (v := 1) x dX6_results_103 (by decide) ?_
          refine j2_callVv x hb dX6_results_104 m_X6_sets (cx_sets (d := d) hb (m1 := q) (w1 := 4) (by omega) (by decide)) wmX6_109 jc_10 rfl rfl rfl (Nat.le_of_ble_eq_true rfl) (j_fit_rm (by omega) (by omega) (by omega)) rfl ?_
          refine j_aload_n x dX6_results_107 rfl ?_
          refine j_iload_n x dX6_results_108 rfl ?_
          refine j_bipush (v := 6) x dX6_results_109 (by decide) ?_
          refine j_iload_n x dX6_results_111 rfl ?_
          refine j2_callVv x hb dX6_results_112 m_X6_sets (cx_sets (d := d) hb (m1 := q) (w1 := 6) (by omega) (by decide)) wmX6_109 jc_10 rfl rfl rfl (Nat.le_of_ble_eq_true rfl) (j_fit_rm (by omega) (by omega) (by omega)) rfl ?_
          refine j_aload_n x dX6_results_115 rfl ?_
          refine j_iload_n x dX6_results_116 rfl ?_
          refine j_bipush (v := 7) x dX6_results_117 (by decide) ?_
          refine j_iload_n x dX6_results_119 rfl ?_
          refine j2_callVv x hb dX6_results_120 m_X6_sets (cx_sets (d := d) hb (m1 := q) (w1 := 7) (by omega) (by decide)) wmX6_109 jc_10 rfl rfl rfl (Nat.le_of_ble_eq_true rfl) (j_fit_rm (by omega) (by omega) (by omega)) rfl ?_
          refine j_aload_n x dX6_results_123 rfl ?_
          refine j_aload_n x dX6_results_124 rfl ?_
          refine j2_callVi x hb dX6_results_125 m_X6_left (cx_left (d := d) hb hn (by rw [jsets_n (by omega), jsets_n (by omega), jsets_n (by omega)]; exact hct)) wmX6_125 jc_10 rfl rfl rfl (Nat.le_of_ble_eq_true rfl) (j_fit_rm (by omega) (by omega) (by omega)) rfl ?_
          refine j2_callVi x hb dX6_results_128 m_X6_does (cx_does (d := d) hb) wmX6_116 jc_10 rfl rfl rfl (Nat.le_of_ble_eq_true rfl) (j_fit_rm (by omega) (by omega) (by omega)) rfl ?_
          exact j_zreturn x hr dX6_results_131 (by first | decide | exact jisS_nar | exact gno_nar | exact jb_nar) (by omega) (by omega) ⟨by rw [show gRes M q u v = none from (if_neg (fun z => z ⟨jb_nz.mp h1, jb_nz.mp h2⟩)).trans ((if_neg (jb_0.mp h3)).trans (if_neg (fun z => z h4)))]; rfl, by rw [show gRes M q u v = none from (if_neg (fun z => z ⟨jb_nz.mp h1, jb_nz.mp h2⟩)).trans ((if_neg (jb_0.mp h3)).trans (if_neg (fun z => z h4)))]; rfl⟩
        · refine j_aload_n x dX6_results_87 rfl ?_
          refine j_bipush (v := 7) x dX6_results_88 (by decide) ?_
          refine j_aload_n x dX6_results_90 rfl ?_
          refine j_iload_n x dX6_results_91 rfl ?_
          refine j_iconst (v := 2) x dX6_results_92 (by decide) ?_
          refine j2_callVi x hb dX6_results_93 m_X6_of (cx_of (d := d) hb (m1 := q) (w1 := 2) (by omega) (by decide)) wmX6_68 jc_10 rfl rfl rfl (Nat.le_of_ble_eq_true rfl) (j_fit_rm (by omega) (by omega) (by omega)) rfl ?_
          refine j2_callVi x hb dX6_results_96 m_X6_refuses (cx_refuses (d := d) hb) wmX6_79 jc_10 rfl rfl rfl (Nat.le_of_ble_eq_true rfl) (j_fit_rm (by omega) (by omega) (by omega)) rfl ?_
          exact j_zreturn x hr dX6_results_99 (by first | decide | exact jisS_nar | exact gno_nar | exact jb_nar) (by omega) (by omega) ⟨by rw [show gRes M q u v = some (7, jof M q 2) from (if_neg (fun z => z ⟨jb_nz.mp h1, jb_nz.mp h2⟩)).trans ((if_neg (jb_0.mp h3)).trans (if_pos h4))]; rfl, by rw [show gRes M q u v = some (7, jof M q 2) from (if_neg (fun z => z ⟨jb_nz.mp h1, jb_nz.mp h2⟩)).trans ((if_neg (jb_0.mp h3)).trans (if_pos h4))]; rfl⟩
      · refine j_aload_n x dX6_results_64 rfl ?_
        refine j_bipush (v := 8) x dX6_results_65 (by decide) ?_
        refine j_iconst (v := 0) x dX6_results_67 (by decide) ?_
        refine j2_callVi x hb dX6_results_68 m_X6_refuses (cx_refuses (d := d) hb) wmX6_79 jc_10 rfl rfl rfl (Nat.le_of_ble_eq_true rfl) (j_fit_rm (by omega) (by omega) (by omega)) rfl ?_
        exact j_zreturn x hr dX6_results_71 (by first | decide | exact jisS_nar | exact gno_nar | exact jb_nar) (by omega) (by omega) ⟨by rw [show gRes M q u v = some (8, 0) from (if_neg (fun z => z ⟨jb_nz.mp h1, jb_nz.mp h2⟩)).trans (if_pos (jb_nz.mp h3))]; rfl, by rw [show gRes M q u v = some (8, 0) from (if_neg (fun z => z ⟨jb_nz.mp h1, jb_nz.mp h2⟩)).trans (if_pos (jb_nz.mp h3))]; rfl⟩
    · refine j_aload_n x dX6_results_49 rfl ?_
      refine j_iconst (v := 1) x dX6_results_50 (by decide) ?_
      refine j_iconst (v := 0) x dX6_results_51 (by decide) ?_
      refine j2_callVi x hb dX6_results_52 m_X6_refuses (cx_refuses (d := d) hb) wmX6_79 jc_10 rfl rfl rfl (Nat.le_of_ble_eq_true rfl) (j_fit_rm (by omega) (by omega) (by omega)) rfl ?_
      exact j_zreturn x hr dX6_results_55 (by first | decide | exact jisS_nar | exact gno_nar | exact jb_nar) (by omega) (by omega) ⟨by rw [show gRes M q u v = some (1, 0) from if_pos (fun z => jb_0.mp h2 z.2)]; rfl, by rw [show gRes M q u v = some (1, 0) from if_pos (fun z => jb_0.mp h2 z.2)]; rfl⟩
theorem cx_takesBack_q {d : Nat} {b : SBt} {Y : OUt} {M : MM} (hb : 104 ≤ b.2.1) (hd : ¬ M 95 1 ≤ 0) {n q : Nat} (hn : n ≤ 56) (hct : M 95 9 = nI n) (hq : q < n) : CM (d + 3) 0 0 yX6_takesBack cX6_takesBack 2 (some .boolean) [.ref 94, .int (nI q)] b Y M (.inl (some (.int (gno (gBack M q))))) (gst M (gBack M q) (jm (gBackS M q) 94 18 (jsum (gLeft (gBackS M q)) n))) := by
  refine Con.of (by decide +kernel) (Nat.le_of_ble_eq_true rfl) rfl fun p l e s m args below meth c D tyc A ad0 x hr htab hname => ?_
  change JJ _ _ _ _ _ _ _ _ _ _ _ _ _ _ _ _ _ 0 [some (.ref 94), some (.int (nI q))] [] _ 0 0
  refine j_aload_n x dX6_takesBack_0 rfl ?_
  refine j2_callVi x hb dX6_takesBack_1 m_X6_isDrawn (CM_v (cx_isDrawn (d := d) hb) (jb_t hd)) wmX6_87 jc_10 rfl rfl rfl (Nat.le_of_ble_eq_true rfl) (j_fit_rm (by omega) (by omega) (by omega)) rfl ?_
  refine j_if_ne (tgt := 14) x dX6_takesBack_4 (by decide) (fun hc => ?_) (fun hc => absurd hc (by decide))
  refine j_aload_n x dX6_takesBack_14 rfl ?_
  refine j_iload_n x dX6_takesBack_15 rfl ?_
  refine j2_callVi x hb dX6_takesBack_16 m_X6_isMeeting (show CM (d + 1) 0 0 _ _ _ _ _ b Y M (.inl (some (.int 1))) M from CM_v (cx_isMeeting (d := d) hb) (jb_t ⟨nI_pos (by omega), by rw [hct, show (nI n - 1 : Int32) = nI (n - 1) from nI_sub (d := 1) (by omega)]; exact nI_nlt (by omega) (by omega)⟩)) wmX6_122 jc_10 rfl rfl rfl (Nat.le_of_ble_eq_true rfl) (j_fit_rm (by omega) (by omega) (by omega)) rfl ?_
  refine j_if_ne (tgt := 29) x dX6_takesBack_19 (by decide) (fun hc => ?_) (fun hc => absurd hc (by decide))
  refine j_aload_n x dX6_takesBack_29 rfl ?_
  refine j_iload_n x dX6_takesBack_30 rfl ?_
  refine j2_callVi x hb dX6_takesBack_31 m_X6_isPlayed (cx_isPlayed (d := d) hb (m1 := q) (by omega)) wmX6_72 jc_10 rfl rfl rfl (Nat.le_of_ble_eq_true rfl) (j_fit_rm (by omega) (by omega) (by omega)) rfl ?_
  refine j_if_ne (tgt := 49) x dX6_takesBack_34 (by decide) (fun h3 => ?_) (fun h3 => ?_)
  · refine j_aload_n x dX6_takesBack_49 rfl ?_
    refine j_iload_n x dX6_takesBack_50 rfl ?_
    refine j_iconst (v := 2) x dX6_takesBack_51 (by decide) ?_
    refine j2_callVi x hb dX6_takesBack_52 m_X6_of (cx_of (d := d) hb (m1 := q) (w1 := 2) (by omega) (by decide)) wmX6_68 jc_10 rfl rfl rfl (Nat.le_of_ble_eq_true rfl) (j_fit_rm (by omega) (by omega) (by omega)) rfl ?_
    refine j_aload_n x dX6_takesBack_55 rfl ?_
    refine j2_getr (k := 0) (r := 95) x hb dX6_takesBack_56 jc_10 wfX6_9 (by decide) rfl ?_
    refine j_iconst (v := 2) x dX6_takesBack_59 (by decide) ?_
    refine j2_ialn x hb dX6_takesBack_60 fa_95 (j := 2) (vp_c (by decide)) (by decide) ?_
    refine j_icmp_eq (tgt := 77) x dX6_takesBack_61 (by decide) (fun h4 => ?_) (fun h4 => ?_)
    · refine j_aload_n x dX6_takesBack_77 rfl ?_
      refine j_iload_n x dX6_takesBack_78 rfl ?_
      refine j_iconst (v := 4) x dX6_takesBack_79 (by decide) ?_
      refine j_iconst (v := 0) x dX6_takesBack_80 (by decide) ?_
      refine j2_callVv x hb dX6_takesBack_81 m_X6_sets (cx_sets (d := d) hb (m1 := q) (w1 := 4) (by omega) (by decide)) wmX6_109 jc_10 rfl rfl rfl (Nat.le_of_ble_eq_true rfl) (j_fit_rm (by omega) (by omega) (by omega)) rfl ?_
      refine j_aload_n x dX6_takesBack_84 rfl ?_
      refine j_iload_n x dX6_takesBack_85 rfl ?_
      refine j_bipush (v := 6) x dX6_takesBack_86 (by decide) ?_
      refine j_iconst (v := 0) x dX6_takesBack_88 (by decide) ?_
      refine j2_callVv x hb dX6_takesBack_89 m_X6_sets (cx_sets (d := d) hb (m1 := q) (w1 := 6) (by omega) (by decide)) wmX6_109 jc_10 rfl rfl rfl (Nat.le_of_ble_eq_true rfl) (j_fit_rm (by omega) (by omega) (by omega)) rfl ?_
      refine j_aload_n x dX6_takesBack_92 rfl ?_
      refine j_iload_n x dX6_takesBack_93 rfl ?_
      refine j_bipush (v := 7) x dX6_takesBack_94 (by decide) ?_
      refine j_iconst (v := 0) x dX6_takesBack_96 (by decide) ?_
      refine j2_callVv x hb dX6_takesBack_97 m_X6_sets (cx_sets (d := d) hb (m1 := q) (w1 := 7) (by omega) (by decide)) wmX6_109 jc_10 rfl rfl rfl (Nat.le_of_ble_eq_true rfl) (j_fit_rm (by omega) (by omega) (by omega)) rfl ?_
      refine j_aload_n x dX6_takesBack_100 rfl ?_
      refine j_aload_n x dX6_takesBack_101 rfl ?_
      refine j2_callVi x hb dX6_takesBack_102 m_X6_left (cx_left (d := d) hb hn (by rw [jsets_n (by omega), jsets_n (by omega), jsets_n (by omega)]; exact hct)) wmX6_125 jc_10 rfl rfl rfl (Nat.le_of_ble_eq_true rfl) (j_fit_rm (by omega) (by omega) (by omega)) rfl ?_
      refine j2_callVi x hb dX6_takesBack_105 m_X6_does (cx_does (d := d) hb) wmX6_116 jc_10 rfl rfl rfl (Nat.le_of_ble_eq_true rfl) (j_fit_rm (by omega) (by omega) (by omega)) rfl ?_
      exact j_zreturn x hr dX6_takesBack_108 (by first | decide | exact jisS_nar | exact gno_nar | exact jb_nar) (by omega) (by omega) ⟨by rw [show gBack M q = none from (if_neg (fun z => z (jb_nz.mp h3))).trans (if_neg (fun z => z h4))]; rfl, by rw [show gBack M q = none from (if_neg (fun z => z (jb_nz.mp h3))).trans (if_neg (fun z => z h4))]; rfl⟩
    · refine j_aload_n x dX6_takesBack_64 rfl ?_
      refine j_bipush (v := 7) x dX6_takesBack_65 (by decide) ?_
      refine j_aload_n x dX6_takesBack_67 rfl ?_
      refine j_iload_n x dX6_takesBack_68 rfl ?_
      refine j_iconst (v := 2) x dX6_takesBack_69 (by decide) ?_
      refine j2_callVi x hb dX6_takesBack_70 m_X6_of (cx_of (d := d) hb (m1 := q) (w1 := 2) (by omega) (by decide)) wmX6_68 jc_10 rfl rfl rfl (Nat.le_of_ble_eq_true rfl) (j_fit_rm (by omega) (by omega) (by omega)) rfl ?_
      refine j2_callVi x hb dX6_takesBack_73 m_X6_refuses (cx_refuses (d := d) hb) wmX6_79 jc_10 rfl rfl rfl (Nat.le_of_ble_eq_true rfl) (j_fit_rm (by omega) (by omega) (by omega)) rfl ?_
      exact j_zreturn x hr dX6_takesBack_76 (by first | decide | exact jisS_nar | exact gno_nar | exact jb_nar) (by omega) (by omega) ⟨by rw [show gBack M q = some (7, jof M q 2) from (if_neg (fun z => z (jb_nz.mp h3))).trans (if_pos h4)]; rfl, by rw [show gBack M q = some (7, jof M q 2) from (if_neg (fun z => z (jb_nz.mp h3))).trans (if_pos h4)]; rfl⟩
  · refine j_aload_n x dX6_takesBack_37 rfl ?_
    refine j_bipush (v := 9) x dX6_takesBack_38 (by decide) ?_
    refine j_aload_n x dX6_takesBack_40 rfl ?_
    refine j_iload_n x dX6_takesBack_41 rfl ?_
    refine j2_callVi x hb dX6_takesBack_42 m_X6_how (cx_how (d := d) hb (m1 := q) (by omega)) wmX6_131 jc_10 rfl rfl rfl (Nat.le_of_ble_eq_true rfl) (j_fit_rm (by omega) (by omega) (by omega)) rfl ?_
    refine j2_callVi x hb dX6_takesBack_45 m_X6_refuses (cx_refuses (d := d) hb) wmX6_79 jc_10 rfl rfl rfl (Nat.le_of_ble_eq_true rfl) (j_fit_rm (by omega) (by omega) (by omega)) rfl ?_
    exact j_zreturn x hr dX6_takesBack_48 (by first | decide | exact jisS_nar | exact gno_nar | exact jb_nar) (by omega) (by omega) ⟨by rw [show gBack M q = some (9, jhow M q) from if_pos (jb_0.mp h3)]; rfl, by rw [show gBack M q = some (9, jhow M q) from if_pos (jb_0.mp h3)]; rfl⟩
theorem cx_putsOff_q {d : Nat} {b : SBt} {Y : OUt} {M : MM} (hb : 104 ≤ b.2.1) {u : Int32} (hd : ¬ M 95 1 ≤ 0) {n q : Nat} (hn : n ≤ 56) (hct : M 95 9 = nI n) (hq : q < n) (hho : ∀ i, i < n → ∃ h, h < 8 ∧ jof M i 0 = nI h) : CM (d + 3) 0 0 yX6_putsOff cX6_putsOff 4 (some .boolean) [.ref 94, .int (nI q), .int u] b Y M (.inl (some (.int (gno (gPut M q u))))) (gst M (gPut M q u) (jm (gPutS M q u) 94 18 (jsum (gCl (gPutS M q u) q (M 95 2 + u)) n))) := by
  refine Con.of (by decide +kernel) (Nat.le_of_ble_eq_true rfl) rfl fun p l e s m args below meth c D tyc A ad0 x hr htab hname => ?_
  change JJ _ _ _ _ _ _ _ _ _ _ _ _ _ _ _ _ _ 0 [some (.ref 94), some (.int (nI q)), some (.int u), none] [] _ 0 0
  refine j_aload_n x dX6_putsOff_0 rfl ?_
  refine j2_callVi x hb dX6_putsOff_1 m_X6_isDrawn (CM_v (cx_isDrawn (d := d) hb) (jb_t hd)) wmX6_87 jc_10 rfl rfl rfl (Nat.le_of_ble_eq_true rfl) (j_fit_rm (by omega) (by omega) (by omega)) rfl ?_
  refine j_if_ne (tgt := 14) x dX6_putsOff_4 (by decide) (fun hc => ?_) (fun hc => absurd hc (by decide))
  refine j_aload_n x dX6_putsOff_14 rfl ?_
  refine j_iload_n x dX6_putsOff_15 rfl ?_
  refine j2_callVi x hb dX6_putsOff_16 m_X6_isMeeting (show CM (d + 1) 0 0 _ _ _ _ _ b Y M (.inl (some (.int 1))) M from CM_v (cx_isMeeting (d := d) hb) (jb_t ⟨nI_pos (by omega), by rw [hct, show (nI n - 1 : Int32) = nI (n - 1) from nI_sub (d := 1) (by omega)]; exact nI_nlt (by omega) (by omega)⟩)) wmX6_122 jc_10 rfl rfl rfl (Nat.le_of_ble_eq_true rfl) (j_fit_rm (by omega) (by omega) (by omega)) rfl ?_
  refine j_if_ne (tgt := 29) x dX6_putsOff_19 (by decide) (fun hc => ?_) (fun hc => absurd hc (by decide))
  refine j_iload_n x dX6_putsOff_29 rfl ?_
  refine j_iconst (v := 1) x dX6_putsOff_30 (by decide) ?_
  refine j_bipush (v := 9) x dX6_putsOff_31 (by decide) ?_
  refine j2_callSi x hb dX6_putsOff_33 m_X6_in (cx_in (d := d) hb) wmX6_64 rfl (Nat.le_of_ble_eq_true rfl) (j_fit_rm (by omega) (by omega) (by omega)) rfl ?_
  refine j_if_ne (tgt := 46) x dX6_putsOff_36 (by decide) (fun h1 => ?_) (fun h1 => ?_)
  · refine j_aload_n x dX6_putsOff_46 rfl ?_
    refine j_iload_n x dX6_putsOff_47 rfl ?_
    refine j2_callVi x hb dX6_putsOff_48 m_X6_isPlayed (cx_isPlayed (d := d) hb (m1 := q) (by omega)) wmX6_72 jc_10 rfl rfl rfl (Nat.le_of_ble_eq_true rfl) (j_fit_rm (by omega) (by omega) (by omega)) rfl ?_
    refine j_if_eq (tgt := 62) x dX6_putsOff_51 (by decide) (fun h3 => ?_) (fun h3 => ?_)
    · refine j_aload_n x dX6_putsOff_62 rfl ?_
      refine j_iload_n x dX6_putsOff_63 rfl ?_
      refine j_iconst (v := 2) x dX6_putsOff_64 (by decide) ?_
      refine j2_callVi x hb dX6_putsOff_65 m_X6_of (cx_of (d := d) hb (m1 := q) (w1 := 2) (by omega) (by decide)) wmX6_68 jc_10 rfl rfl rfl (Nat.le_of_ble_eq_true rfl) (j_fit_rm (by omega) (by omega) (by omega)) rfl ?_
      refine j_aload_n x dX6_putsOff_68 rfl ?_
      refine j2_getr (k := 0) (r := 95) x hb dX6_putsOff_69 jc_10 wfX6_9 (by decide) rfl ?_
      refine j_iconst (v := 2) x dX6_putsOff_72 (by decide) ?_
      refine j2_ialn x hb dX6_putsOff_73 fa_95 (j := 2) (vp_c (by decide)) (by decide) ?_
      refine j_icmp_eq (tgt := 90) x dX6_putsOff_74 (by decide) (fun h4 => ?_) (fun h4 => ?_)
      · refine j_aload_n x dX6_putsOff_90 rfl ?_
        refine j2_getr (k := 0) (r := 95) x hb dX6_putsOff_91 jc_10 wfX6_9 (by decide) rfl ?_
        refine j_iconst (v := 2) x dX6_putsOff_94 (by decide) ?_
        refine j2_ialn x hb dX6_putsOff_95 fa_95 (j := 2) (vp_c (by decide)) (by decide) ?_
        refine j_iload_n x dX6_putsOff_96 rfl ?_
        refine j_iadd x dX6_putsOff_97 ?_
        refine j_istore_n x dX6_putsOff_98 (by decide) rfl ?_
        refine j_aload_n x dX6_putsOff_99 rfl ?_
        refine j_iload_n x dX6_putsOff_100 rfl ?_
        refine j2_callVi x hb dX6_putsOff_101 m_X6_isWeek (cx_isWeek (d := d) hb) wmX6_140 jc_10 rfl rfl rfl (Nat.le_of_ble_eq_true rfl) (j_fit_rm (by omega) (by omega) (by omega)) rfl ?_
        refine j_if_ne (tgt := 115) x dX6_putsOff_104 (by decide) (fun h5 => ?_) (fun h5 => ?_)
        · refine j_aload_n x dX6_putsOff_115 rfl ?_
          refine j_iload_n x dX6_putsOff_116 rfl ?_
          refine j_iconst (v := 2) x dX6_putsOff_117 (by decide) ?_
          refine j_iload_n x dX6_putsOff_118 rfl ?_
          refine j2_callVv x hb dX6_putsOff_119 m_X6_sets (cx_sets (d := d) hb (m1 := q) (w1 := 2) (by omega) (by decide)) wmX6_109 jc_10 rfl rfl rfl (Nat.le_of_ble_eq_true rfl) (j_fit_rm (by omega) (by omega) (by omega)) rfl ?_
          refine j_aload_n x dX6_putsOff_122 rfl ?_
          refine j_iload_n x dX6_putsOff_123 rfl ?_
          refine j_iconst (v := 5) x dX6_putsOff_124 (by decide) ?_
          refine j_iconst (v := 1) x dX6_putsOff_125 (by decide) ?_
          refine j2_callVv x hb dX6_putsOff_126 m_X6_sets (cx_sets (d := d) hb (m1 := q) (w1 := 5) (by omega) (by decide)) wmX6_109 jc_10 rfl rfl rfl (Nat.le_of_ble_eq_true rfl) (j_fit_rm (by omega) (by omega) (by omega)) rfl ?_
          refine j_aload_n x dX6_putsOff_129 rfl ?_
          refine j_aload_n x dX6_putsOff_130 rfl ?_
          refine j_iload_n x dX6_putsOff_131 rfl ?_
          refine j_iload_n x dX6_putsOff_132 rfl ?_
          refine j2_callVi x hb dX6_putsOff_133 m_X6_clashes (cx_clashesOf (d := d) (q := q) hb hn (by rw [jsets_n (by omega), jsets_n (by omega)]; exact hct) hq (fun i hi => by rw [jsets_of (by omega) (by decide) (by decide), jsets_of (by omega) (by decide) (by decide)]; exact hho i hi)) wmX6_143 jc_10 rfl rfl rfl (Nat.le_of_ble_eq_true rfl) (j_fit_rm (by omega) (by omega) (by omega)) rfl ?_
          refine j2_callVi x hb dX6_putsOff_136 m_X6_does (cx_does (d := d) hb) wmX6_116 jc_10 rfl rfl rfl (Nat.le_of_ble_eq_true rfl) (j_fit_rm (by omega) (by omega) (by omega)) rfl ?_
          exact j_zreturn x hr dX6_putsOff_139 (by first | decide | exact jisS_nar | exact gno_nar | exact jb_nar) (by omega) (by omega) ⟨by rw [show gPut M q u = none from (if_neg (fun z => z (jb_nz.mp h1))).trans ((if_neg (jb_0.mp h3)).trans ((if_neg (fun z => z h4)).trans (if_neg (fun z => z (jb_nz.mp h5)))))]; rfl, by rw [show gPut M q u = none from (if_neg (fun z => z (jb_nz.mp h1))).trans ((if_neg (jb_0.mp h3)).trans ((if_neg (fun z => z h4)).trans (if_neg (fun z => z (jb_nz.mp h5)))))]; rfl⟩
        · refine j_aload_n x dX6_putsOff_107 rfl ?_
          refine j_bipush (v := 10) x dX6_putsOff_108 (by decide) ?_
          refine j_iload_n x dX6_putsOff_110 rfl ?_
          refine j2_callVi x hb dX6_putsOff_111 m_X6_refuses (cx_refuses (d := d) hb) wmX6_79 jc_10 rfl rfl rfl (Nat.le_of_ble_eq_true rfl) (j_fit_rm (by omega) (by omega) (by omega)) rfl ?_
          exact j_zreturn x hr dX6_putsOff_114 (by first | decide | exact jisS_nar | exact gno_nar | exact jb_nar) (by omega) (by omega) ⟨by rw [show gPut M q u = some (10, M 95 2 + u) from (if_neg (fun z => z (jb_nz.mp h1))).trans ((if_neg (jb_0.mp h3)).trans ((if_neg (fun z => z h4)).trans (if_pos (jb_0.mp h5))))]; rfl, by rw [show gPut M q u = some (10, M 95 2 + u) from (if_neg (fun z => z (jb_nz.mp h1))).trans ((if_neg (jb_0.mp h3)).trans ((if_neg (fun z => z h4)).trans (if_pos (jb_0.mp h5))))]; rfl⟩
      · refine j_aload_n x dX6_putsOff_77 rfl ?_
        refine j_bipush (v := 7) x dX6_putsOff_78 (by decide) ?_
        refine j_aload_n x dX6_putsOff_80 rfl ?_
        refine j_iload_n x dX6_putsOff_81 rfl ?_
        refine j_iconst (v := 2) x dX6_putsOff_82 (by decide) ?_
        refine j2_callVi x hb dX6_putsOff_83 m_X6_of (cx_of (d := d) hb (m1 := q) (w1 := 2) (by omega) (by decide)) wmX6_68 jc_10 rfl rfl rfl (Nat.le_of_ble_eq_true rfl) (j_fit_rm (by omega) (by omega) (by omega)) rfl ?_
        refine j2_callVi x hb dX6_putsOff_86 m_X6_refuses (cx_refuses (d := d) hb) wmX6_79 jc_10 rfl rfl rfl (Nat.le_of_ble_eq_true rfl) (j_fit_rm (by omega) (by omega) (by omega)) rfl ?_
        exact j_zreturn x hr dX6_putsOff_89 (by first | decide | exact jisS_nar | exact gno_nar | exact jb_nar) (by omega) (by omega) ⟨by rw [show gPut M q u = some (7, jof M q 2) from (if_neg (fun z => z (jb_nz.mp h1))).trans ((if_neg (jb_0.mp h3)).trans (if_pos h4))]; rfl, by rw [show gPut M q u = some (7, jof M q 2) from (if_neg (fun z => z (jb_nz.mp h1))).trans ((if_neg (jb_0.mp h3)).trans (if_pos h4))]; rfl⟩
    · refine j_aload_n x dX6_putsOff_54 rfl ?_
      refine j_bipush (v := 8) x dX6_putsOff_55 (by decide) ?_
      refine j_iconst (v := 0) x dX6_putsOff_57 (by decide) ?_
      refine j2_callVi x hb dX6_putsOff_58 m_X6_refuses (cx_refuses (d := d) hb) wmX6_79 jc_10 rfl rfl rfl (Nat.le_of_ble_eq_true rfl) (j_fit_rm (by omega) (by omega) (by omega)) rfl ?_
      exact j_zreturn x hr dX6_putsOff_61 (by first | decide | exact jisS_nar | exact gno_nar | exact jb_nar) (by omega) (by omega) ⟨by rw [show gPut M q u = some (8, 0) from (if_neg (fun z => z (jb_nz.mp h1))).trans (if_pos (jb_nz.mp h3))]; rfl, by rw [show gPut M q u = some (8, 0) from (if_neg (fun z => z (jb_nz.mp h1))).trans (if_pos (jb_nz.mp h3))]; rfl⟩
  · refine j_aload_n x dX6_putsOff_39 rfl ?_
    refine j_iconst (v := 1) x dX6_putsOff_40 (by decide) ?_
    refine j_iconst (v := 0) x dX6_putsOff_41 (by decide) ?_
    refine j2_callVi x hb dX6_putsOff_42 m_X6_refuses (cx_refuses (d := d) hb) wmX6_79 jc_10 rfl rfl rfl (Nat.le_of_ble_eq_true rfl) (j_fit_rm (by omega) (by omega) (by omega)) rfl ?_
    exact j_zreturn x hr dX6_putsOff_45 (by first | decide | exact jisS_nar | exact gno_nar | exact jb_nar) (by omega) (by omega) ⟨by rw [show gPut M q u = some (1, 0) from if_pos (jb_0.mp h1)]; rfl, by rw [show gPut M q u = some (1, 0) from if_pos (jb_0.mp h1)]; rfl⟩
theorem cx_comesNext_d {d : Nat} {b : SBt} {Y : OUt} {M : MM} (hb : 104 ≤ b.2.1) (hd : ¬ M 95 1 ≤ 0) {n : Nat} (hn : n ≤ 56) (hct : M 95 9 = nI n) : CM (d + 3) 0 0 yX6_comesNext cX6_comesNext 2 (some .boolean) [.ref 94] b Y M (.inl (some (.int (gno (gNext M n))))) (gst M (gNext M n) (jm (jm M 95 2 (M 95 2 + 1)) 94 18 (M 95 2 + 1))) := by
  refine Con.of (by decide +kernel) (Nat.le_of_ble_eq_true rfl) rfl fun p l e s m args below meth c D tyc A ad0 x hr htab hname => ?_
  change JJ _ _ _ _ _ _ _ _ _ _ _ _ _ _ _ _ _ 0 [some (.ref 94), none] [] _ 0 0
  refine j_aload_n x dX6_comesNext_0 rfl ?_
  refine j2_callVi x hb dX6_comesNext_1 m_X6_isDrawn (CM_v (cx_isDrawn (d := d) hb) (jb_t hd)) wmX6_87 jc_10 rfl rfl rfl (Nat.le_of_ble_eq_true rfl) (j_fit_rm (by omega) (by omega) (by omega)) rfl ?_
  refine j_if_ne (tgt := 14) x dX6_comesNext_4 (by decide) (fun hc => ?_) (fun hc => absurd hc (by decide))
  refine j_iconst (v := 0) x dX6_comesNext_14 (by decide) ?_
  refine j_istore_n x dX6_comesNext_15 (by decide) rfl ?_
  refine j_for (n) (fun j => [some (.ref 94), some (.int (nI j))]) (fun j => M) (fun j => jfst (gLeft M) j = -1) (rfl) (rfl) (rfl) (fun j hj hP ih => ?_) (fun hP => ?_)
  · refine j_iload_n x dX6_comesNext_16 rfl ?_
    refine j_aload_n x dX6_comesNext_17 rfl ?_
    refine j2_getr (k := 0) (r := 95) x hb dX6_comesNext_18 jc_10 wfX6_9 (by decide) rfl ?_
    refine j_bipush (v := 9) x dX6_comesNext_21 (by decide) ?_
    refine j2_ialn x hb dX6_comesNext_23 fa_95 (j := 9) (vp_c (by decide)) (by decide) ?_; rw [hct]
    refine j_icmp_ge (tgt := 64) x dX6_comesNext_24 (by decide) (fun hc => absurd hc (nI_ge hj (by omega))) (fun hc => ?_)
    refine j_aload_n x dX6_comesNext_27 rfl ?_
    refine j_iload_n x dX6_comesNext_28 rfl ?_
    refine j_iconst (v := 2) x dX6_comesNext_29 (by decide) ?_
    refine j2_callVi x hb dX6_comesNext_30 m_X6_of (cx_of (d := d) hb (m1 := j) (w1 := 2) (by omega) (by decide)) wmX6_68 jc_10 rfl rfl rfl (Nat.le_of_ble_eq_true rfl) (j_fit_rm (by omega) (by omega) (by omega)) rfl ?_
    refine j_aload_n x dX6_comesNext_33 rfl ?_
    refine j2_getr (k := 0) (r := 95) x hb dX6_comesNext_34 jc_10 wfX6_9 (by decide) rfl ?_
    refine j_iconst (v := 2) x dX6_comesNext_37 (by decide) ?_
    refine j2_ialn x hb dX6_comesNext_38 fa_95 (j := 2) (vp_c (by decide)) (by decide) ?_
    refine j_icmp_ne (tgt := 58) x dX6_comesNext_39 (by decide) (fun h1 => ?_) (fun h1 => ?_)
    · refine j_iinc x dX6_comesNext_58 rfl (by decide) rfl ?_
      refine j_goto (tgt := 16) x dX6_comesNext_61 (by decide) ?_
      exact j_goal (ih (jfst_no hP (fun z => absurd ((show gLeft M j = 0 from jb_f (fun z => h1 z.1)).symm.trans z) (by decide)))) (wk_c rfl (wk_c (congrArg (fun z => some (Value.int z)) (nI_1 _)) (wk_0))) (rfl)
    · refine j_aload_n x dX6_comesNext_42 rfl ?_
      refine j_iload_n x dX6_comesNext_43 rfl ?_
      refine j2_callVi x hb dX6_comesNext_44 m_X6_isPlayed (cx_isPlayed (d := d) hb (m1 := j) (by omega)) wmX6_72 jc_10 rfl rfl rfl (Nat.le_of_ble_eq_true rfl) (j_fit_rm (by omega) (by omega) (by omega)) rfl ?_
      refine j_if_ne (tgt := 58) x dX6_comesNext_47 (by decide) (fun h2 => ?_) (fun h2 => ?_)
      · refine j_iinc x dX6_comesNext_58 rfl (by decide) rfl ?_
        refine j_goto (tgt := 16) x dX6_comesNext_61 (by decide) ?_
        exact j_goal (ih (jfst_no hP (fun z => absurd ((show gLeft M j = 0 from jb_f (fun z => z.2 (jb_nz.mp h2))).symm.trans z) (by decide)))) (wk_c rfl (wk_c (congrArg (fun z => some (Value.int z)) (nI_1 _)) (wk_0))) (rfl)
      · refine j_aload_n x dX6_comesNext_50 rfl ?_
        refine j_bipush (v := 11) x dX6_comesNext_51 (by decide) ?_
        refine j_iload_n x dX6_comesNext_53 rfl ?_
        refine j2_callVi x hb dX6_comesNext_54 m_X6_refuses (cx_refuses (d := d) hb) wmX6_79 jc_10 rfl rfl rfl (Nat.le_of_ble_eq_true rfl) (j_fit_rm (by omega) (by omega) (by omega)) rfl ?_
        exact j_zreturn x hr dX6_comesNext_57 (by first | decide | exact jisS_nar | exact gno_nar | exact jb_nar) (by omega) (by omega) ⟨by rw [show gNext M n = some (11, jfst (gLeft M) n) from if_pos (show ¬ jfst (gLeft M) n = -1 from fun z => absurd ((jfst_at hP (show gLeft M j = 1 from jb_t ⟨h1, jb_0.mp h2⟩) (by omega) hj).symm.trans z) (nI_nm1 (by omega)))]; rfl, by rw [show gNext M n = some (11, nI j) from (if_pos (show ¬ jfst (gLeft M) n = -1 from fun z => absurd ((jfst_at hP (show gLeft M j = 1 from jb_t ⟨h1, jb_0.mp h2⟩) (by omega) hj).symm.trans z) (nI_nm1 (by omega)))).trans (by rw [jfst_at hP (show gLeft M j = 1 from jb_t ⟨h1, jb_0.mp h2⟩) (by omega) hj])]; rfl⟩
  refine j_iload_n x dX6_comesNext_16 rfl ?_
  refine j_aload_n x dX6_comesNext_17 rfl ?_
  refine j2_getr (k := 0) (r := 95) x hb dX6_comesNext_18 jc_10 wfX6_9 (by decide) rfl ?_
  refine j_bipush (v := 9) x dX6_comesNext_21 (by decide) ?_
  refine j2_ialn x hb dX6_comesNext_23 fa_95 (j := 9) (vp_c (by decide)) (by decide) ?_; rw [hct]
  refine j_icmp_ge (tgt := 64) x dX6_comesNext_24 (by decide) (fun hc => ?_) (fun hc => absurd (nI_le (Nat.le_refl _) (by omega)) hc)
  refine j_aload_n x dX6_comesNext_64 rfl ?_
  refine j2_getr (k := 0) (r := 95) x hb dX6_comesNext_65 jc_10 wfX6_9 (by decide) rfl ?_
  refine j_iconst (v := 2) x dX6_comesNext_68 (by decide) ?_
  refine j2_ialn x hb dX6_comesNext_69 fa_95 (j := 2) (vp_c (by decide)) (by decide) ?_
  refine j_aload_n x dX6_comesNext_70 rfl ?_
  refine j2_getr (k := 0) (r := 95) x hb dX6_comesNext_71 jc_10 wfX6_9 (by decide) rfl ?_
  refine j_iconst (v := 1) x dX6_comesNext_74 (by decide) ?_
  refine j2_ialn x hb dX6_comesNext_75 fa_95 (j := 1) (vp_c (by decide)) (by decide) ?_
  refine j_iconst (v := 1) x dX6_comesNext_76 (by decide) ?_
  refine j_isub x dX6_comesNext_77 ?_
  refine j_icmp_ne (tgt := 94) x dX6_comesNext_78 (by decide) (fun h6 => ?_) (fun h6 => ?_)
  · refine j_aload_n x dX6_comesNext_94 rfl ?_
    refine j2_getr (k := 0) (r := 95) x hb dX6_comesNext_95 jc_10 wfX6_9 (by decide) rfl ?_
    refine j_iconst (v := 2) x dX6_comesNext_98 (by decide) ?_
    refine j_dup2 x dX6_comesNext_99 rfl rfl ?_
    refine j2_ialn x hb dX6_comesNext_100 fa_95 (j := 2) (vp_c (by decide)) (by decide) ?_
    refine j_iconst (v := 1) x dX6_comesNext_101 (by decide) ?_
    refine j_iadd x dX6_comesNext_102 ?_
    refine j2_iasn x hb dX6_comesNext_103 fa_95 (j := 2) (vp_c (by decide)) (by decide) ?_
    refine j_aload_n x dX6_comesNext_104 rfl ?_
    refine j_aload_n x dX6_comesNext_105 rfl ?_
    refine j2_getr (k := 0) (r := 95) x hb dX6_comesNext_106 jc_10 wfX6_9 (by decide) rfl ?_
    refine j_iconst (v := 2) x dX6_comesNext_109 (by decide) ?_
    refine j2_ialn x hb dX6_comesNext_110 fa_95 (j := 2) (vp_c (by decide)) (by decide) ?_; rw [jm_s]
    refine j2_callVi x hb dX6_comesNext_111 m_X6_does (cx_does (d := d) hb) wmX6_116 jc_10 rfl rfl rfl (Nat.le_of_ble_eq_true rfl) (j_fit_rm (by omega) (by omega) (by omega)) rfl ?_
    exact j_zreturn x hr dX6_comesNext_114 (by first | decide | exact jisS_nar | exact gno_nar | exact jb_nar) (by omega) (by omega) ⟨by rw [show gNext M n = none from (if_neg (fun z => z hP)).trans (if_neg h6)]; rfl, by rw [show gNext M n = none from (if_neg (fun z => z hP)).trans (if_neg h6)]; rfl⟩
  · refine j_aload_n x dX6_comesNext_81 rfl ?_
    refine j_bipush (v := 14) x dX6_comesNext_82 (by decide) ?_
    refine j_aload_n x dX6_comesNext_84 rfl ?_
    refine j2_getr (k := 0) (r := 95) x hb dX6_comesNext_85 jc_10 wfX6_9 (by decide) rfl ?_
    refine j_iconst (v := 2) x dX6_comesNext_88 (by decide) ?_
    refine j2_ialn x hb dX6_comesNext_89 fa_95 (j := 2) (vp_c (by decide)) (by decide) ?_
    refine j2_callVi x hb dX6_comesNext_90 m_X6_refuses (cx_refuses (d := d) hb) wmX6_79 jc_10 rfl rfl rfl (Nat.le_of_ble_eq_true rfl) (j_fit_rm (by omega) (by omega) (by omega)) rfl ?_
    exact j_zreturn x hr dX6_comesNext_93 (by first | decide | exact jisS_nar | exact gno_nar | exact jb_nar) (by omega) (by omega) ⟨by rw [show gNext M n = some (14, M 95 2) from (if_neg (fun z => z hP)).trans (if_pos h6)]; rfl, by rw [show gNext M n = some (14, M 95 2) from (if_neg (fun z => z hP)).trans (if_pos h6)]; rfl⟩
