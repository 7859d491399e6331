/-! ===== the reference: the table ===== -/
def gH (M : MM) (n : Nat) (t : Int32) (k : Nat) : Int32 := jsum (fHas M t k (-1)) n
def gTied (M : MM) (n : Nat) (t : Int32) : Nat → Int32
  | 0 => 0
  | i + 1 => if gH M n (nI i) 1 = gH M n t 1 then gTied M n t i ||| (1 <<< (nI i &&& 31)) else gTied M n t i
def gRule (M : MM) (n w : Nat) (t r : Int32) : Int32 := if r = 0 then gH M n t 5 - gH M n t 6 else if r = 1 then gH M n t 5 else if r = 2 then gH M n t 2 else if r = 3 then jsum (fHas M t 1 (gTied M n t w)) n else gH M n t 7
def gLead (M : MM) (n w : Nat) (u v : Int32) : Nat → Int32
  | 0 => gH M n u 1 - gH M n v 1
  | i + 1 => if gLead M n w u v i = 0 then gRule M n w u (M 95 (6 + i)) - gRule M n w v (M 95 (6 + i)) else gLead M n w u v i
theorem gLead_keep {M : MM} {n w : Nat} {u v : Int32} {i : Nat} (h : ¬ gLead M n w u v i = 0) : ∀ {r : Nat}, i ≤ r → gLead M n w u v r = gLead M n w u v i
  | 0, h1 => by rw [show i = 0 by omega]
  | r + 1, h1 => by
    by_cases hr : i = r + 1
    · rw [hr]
    · have h2 := gLead_keep h (r := r) (by omega)
      rw [gLead, h2, if_neg h]
def gAh (M : MM) (n w r : Nat) (u v : Int32) : Int32 := if gLead M n w u v r = 0 then jb (¬ v ≤ u) else jb (¬ gLead M n w u v r ≤ 0)
theorem cx_tiedWith {d : Nat} {b : SBt} {Y : OUt} {M : MM} (hb : 104 ≤ b.2.1) {t : Int32} {n : Nat} (hn : n ≤ 56) (hct : M 95 9 = nI n) {w : Nat} (hw : w ≤ 8) (h0 : M 95 0 = nI w) : CM (d + 4) 0 0 yX6_tiedWith cX6_tiedWith 4 (some .int) [.ref 94, .int t] b Y M (.inl (some (.int (gTied M n t w)))) (M) := by
  refine Con.of (by decide +kernel) (Nat.le_of_ble_eq_true rfl) rfl fun p l e s m args below meth c D tyc A ad0 x hr htab hname => ?_
  change JJ _ _ _ _ _ _ _ _ _ _ _ _ _ _ _ _ _ 0 [some (.ref 94), some (.int t), none, none] [] _ 0 0
  refine j_iconst (v := 0) x dX6_tiedWith_0 (by decide) ?_
  refine j_istore_n x dX6_tiedWith_1 (by decide) rfl ?_
  refine j_iconst (v := 0) x dX6_tiedWith_2 (by decide) ?_
  refine j_istore_n x dX6_tiedWith_3 (by decide) rfl ?_
  refine j_for (w) (fun j => [some (.ref 94), some (.int t), some (.int (gTied M n t j)), some (.int (nI j))]) (fun j => M) (fun j => True) (rfl) (rfl) (trivial) (fun j hj hP ih => ?_) (fun hP => ?_)
  · refine j_iload_n x dX6_tiedWith_4 rfl ?_
    refine j_aload_n x dX6_tiedWith_5 rfl ?_
    refine j2_getr (k := 0) (r := 95) x hb dX6_tiedWith_6 jc_10 wfX6_9 (by decide) rfl ?_
    refine j_iconst (v := 0) x dX6_tiedWith_9 (by decide) ?_
    refine j2_ialn x hb dX6_tiedWith_10 fa_95 (j := 0) (vp_c (by decide)) (by decide) ?_; rw [h0]
    refine j_icmp_ge (tgt := 41) x dX6_tiedWith_11 (by decide) (fun hc => absurd hc (nI_ge hj (by omega))) (fun hc => ?_)
    refine j_aload_n x dX6_tiedWith_14 rfl ?_
    refine j_iload_n x dX6_tiedWith_15 rfl ?_
    refine j_iconst (v := 1) x dX6_tiedWith_16 (by decide) ?_
    refine j2_callVi x hb dX6_tiedWith_17 m_X6_has_ (cx_has2_1 (d := d) hb hn hct) wmX6_156 jc_10 rfl rfl rfl (Nat.le_of_ble_eq_true rfl) (j_fit_rm (by omega) (by omega) (by omega)) rfl ?_
    refine j_aload_n x dX6_tiedWith_20 rfl ?_
    refine j_iload_n x dX6_tiedWith_21 rfl ?_
    refine j_iconst (v := 1) x dX6_tiedWith_22 (by decide) ?_
    refine j2_callVi x hb dX6_tiedWith_23 m_X6_has_ (cx_has2_1 (d := d) hb hn hct) wmX6_156 jc_10 rfl rfl rfl (Nat.le_of_ble_eq_true rfl) (j_fit_rm (by omega) (by omega) (by omega)) rfl ?_
    refine j_icmp_ne (tgt := 35) x dX6_tiedWith_26 (by decide) (fun h1 => ?_) (fun h1 => ?_)
    · refine j_iinc x dX6_tiedWith_35 rfl (by decide) rfl ?_
      refine j_goto (tgt := 4) x dX6_tiedWith_38 (by decide) ?_
      exact j_goal (ih (trivial)) (wk_c rfl (wk_c rfl (wk_c (congrArg (fun z => some (Value.int z)) (show _ = gTied M n t (j + 1) by rw [gTied]; exact (if_neg h1).symm)) (wk_c (congrArg (fun z => some (Value.int z)) (nI_1 _)) (wk_0))))) (rfl)
    · refine j_iload_n x dX6_tiedWith_29 rfl ?_
      refine j_iconst (v := 1) x dX6_tiedWith_30 (by decide) ?_
      refine j_iload_n x dX6_tiedWith_31 rfl ?_
      refine j_ishl x dX6_tiedWith_32 ?_
      refine j_ior x dX6_tiedWith_33 ?_
      refine j_istore_n x dX6_tiedWith_34 (by decide) rfl ?_
      refine j_iinc x dX6_tiedWith_35 rfl (by decide) rfl ?_
      refine j_goto (tgt := 4) x dX6_tiedWith_38 (by decide) ?_
      exact j_goal (ih (trivial)) (wk_c rfl (wk_c rfl (wk_c (congrArg (fun z => some (Value.int z)) (show _ = gTied M n t (j + 1) by rw [gTied]; exact (if_pos h1).symm)) (wk_c (congrArg (fun z => some (Value.int z)) (nI_1 _)) (wk_0))))) (rfl)
  refine j_iload_n x dX6_tiedWith_4 rfl ?_
  refine j_aload_n x dX6_tiedWith_5 rfl ?_
  refine j2_getr (k := 0) (r := 95) x hb dX6_tiedWith_6 jc_10 wfX6_9 (by decide) rfl ?_
  refine j_iconst (v := 0) x dX6_tiedWith_9 (by decide) ?_
  refine j2_ialn x hb dX6_tiedWith_10 fa_95 (j := 0) (vp_c (by decide)) (by decide) ?_; rw [h0]
  refine j_icmp_ge (tgt := 41) x dX6_tiedWith_11 (by decide) (fun hc => ?_) (fun hc => absurd (nI_le (Nat.le_refl _) (by omega)) hc)
  refine j_iload_n x dX6_tiedWith_41 rfl ?_
  exact j_ireturn x hr dX6_tiedWith_42 (by omega) (by omega) ⟨rfl, rfl⟩
theorem cx_byRule_0 {d : Nat} {b : SBt} {Y : OUt} {M : MM} (hb : 104 ≤ b.2.1) {t : Int32} {n : Nat} (hn : n ≤ 56) (hct : M 95 9 = nI n) {w : Nat} (hw : w ≤ 8) (h0 : M 95 0 = nI w) : CM (d + 5) 0 0 yX6_byRule cX6_byRule 3 (some .int) [.ref 94, .int t, .int 0] b Y M (.inl (some (.int (gRule M n w t 0)))) (M) := by
  refine Con.of (by decide +kernel) (Nat.le_of_ble_eq_true rfl) rfl fun p l e s m args below meth c D tyc A ad0 x hr htab hname => ?_
  change JJ _ _ _ _ _ _ _ _ _ _ _ _ _ _ _ _ _ 0 [some (.ref 94), some (.int t), some (.int 0)] [] _ 0 0
  refine j_iload_n x dX6_byRule_0 rfl ?_
  refine j_tableIn (tgt := 32) x dX6_byRule_1 (by decide) (by decide) rfl (by decide) ?_
  refine j_aload_n x dX6_byRule_32 rfl ?_
  refine j_iload_n x dX6_byRule_33 rfl ?_
  refine j_iconst (v := 5) x dX6_byRule_34 (by decide) ?_
  refine j2_callVi x hb dX6_byRule_35 m_X6_has_ (cx_has2_5 (d := d) hb hn hct) wmX6_156 jc_10 rfl rfl rfl (Nat.le_of_ble_eq_true rfl) (j_fit_rm (by omega) (by omega) (by omega)) rfl ?_
  refine j_aload_n x dX6_byRule_38 rfl ?_
  refine j_iload_n x dX6_byRule_39 rfl ?_
  refine j_bipush (v := 6) x dX6_byRule_40 (by decide) ?_
  refine j2_callVi x hb dX6_byRule_42 m_X6_has_ (cx_has2_6 (d := d) hb hn hct) wmX6_156 jc_10 rfl rfl rfl (Nat.le_of_ble_eq_true rfl) (j_fit_rm (by omega) (by omega) (by omega)) rfl ?_
  refine j_isub x dX6_byRule_45 ?_
  exact j_ireturn x hr dX6_byRule_46 (by omega) (by omega) ⟨rfl, rfl⟩
theorem cx_byRule_1 {d : Nat} {b : SBt} {Y : OUt} {M : MM} (hb : 104 ≤ b.2.1) {t : Int32} {n : Nat} (hn : n ≤ 56) (hct : M 95 9 = nI n) {w : Nat} (hw : w ≤ 8) (h0 : M 95 0 = nI w) : CM (d + 5) 0 0 yX6_byRule cX6_byRule 3 (some .int) [.ref 94, .int t, .int 1] b Y M (.inl (some (.int (gRule M n w t 1)))) (M) := by
  refine Con.of (by decide +kernel) (Nat.le_of_ble_eq_true rfl) rfl fun p l e s m args below meth c D tyc A ad0 x hr htab hname => ?_
  change JJ _ _ _ _ _ _ _ _ _ _ _ _ _ _ _ _ _ 0 [some (.ref 94), some (.int t), some (.int 1)] [] _ 0 0
  refine j_iload_n x dX6_byRule_0 rfl ?_
  refine j_tableIn (tgt := 47) x dX6_byRule_1 (by decide) (by decide) rfl (by decide) ?_
  refine j_aload_n x dX6_byRule_47 rfl ?_
  refine j_iload_n x dX6_byRule_48 rfl ?_
  refine j_iconst (v := 5) x dX6_byRule_49 (by decide) ?_
  refine j2_callVi x hb dX6_byRule_50 m_X6_has_ (cx_has2_5 (d := d) hb hn hct) wmX6_156 jc_10 rfl rfl rfl (Nat.le_of_ble_eq_true rfl) (j_fit_rm (by omega) (by omega) (by omega)) rfl ?_
  exact j_ireturn x hr dX6_byRule_53 (by omega) (by omega) ⟨rfl, rfl⟩
theorem cx_byRule_2 {d : Nat} {b : SBt} {Y : OUt} {M : MM} (hb : 104 ≤ b.2.1) {t : Int32} {n : Nat} (hn : n ≤ 56) (hct : M 95 9 = nI n) {w : Nat} (hw : w ≤ 8) (h0 : M 95 0 = nI w) : CM (d + 5) 0 0 yX6_byRule cX6_byRule 3 (some .int) [.ref 94, .int t, .int 2] b Y M (.inl (some (.int (gRule M n w t 2)))) (M) := by
  refine Con.of (by decide +kernel) (Nat.le_of_ble_eq_true rfl) rfl fun p l e s m args below meth c D tyc A ad0 x hr htab hname => ?_
  change JJ _ _ _ _ _ _ _ _ _ _ _ _ _ _ _ _ _ 0 [some (.ref 94), some (.int t), some (.int 2)] [] _ 0 0
  refine j_iload_n x dX6_byRule_0 rfl ?_
  refine j_tableIn (tgt := 54) x dX6_byRule_1 (by decide) (by decide) rfl (by decide) ?_
  refine j_aload_n x dX6_byRule_54 rfl ?_
  refine j_iload_n x dX6_byRule_55 rfl ?_
  refine j_iconst (v := 2) x dX6_byRule_56 (by decide) ?_
  refine j2_callVi x hb dX6_byRule_57 m_X6_has_ (cx_has2_2 (d := d) hb hn hct) wmX6_156 jc_10 rfl rfl rfl (Nat.le_of_ble_eq_true rfl) (j_fit_rm (by omega) (by omega) (by omega)) rfl ?_
  exact j_ireturn x hr dX6_byRule_60 (by omega) (by omega) ⟨rfl, rfl⟩
theorem cx_byRule_3 {d : Nat} {b : SBt} {Y : OUt} {M : MM} (hb : 104 ≤ b.2.1) {t : Int32} {n : Nat} (hn : n ≤ 56) (hct : M 95 9 = nI n) {w : Nat} (hw : w ≤ 8) (h0 : M 95 0 = nI w) : CM (d + 5) 0 0 yX6_byRule cX6_byRule 3 (some .int) [.ref 94, .int t, .int 3] b Y M (.inl (some (.int (gRule M n w t 3)))) (M) := by
  refine Con.of (by decide +kernel) (Nat.le_of_ble_eq_true rfl) rfl fun p l e s m args below meth c D tyc A ad0 x hr htab hname => ?_
  change JJ _ _ _ _ _ _ _ _ _ _ _ _ _ _ _ _ _ 0 [some (.ref 94), some (.int t), some (.int 3)] [] _ 0 0
  refine j_iload_n x dX6_byRule_0 rfl ?_
  refine j_tableIn (tgt := 61) x dX6_byRule_1 (by decide) (by decide) rfl (by decide) ?_
  refine j_aload_n x dX6_byRule_61 rfl ?_
  refine j_iload_n x dX6_byRule_62 rfl ?_
  refine j_iconst (v := 1) x dX6_byRule_63 (by decide) ?_
  refine j_aload_n x dX6_byRule_64 rfl ?_
  refine j_iload_n x dX6_byRule_65 rfl ?_
  refine j2_callVi x hb dX6_byRule_66 m_X6_tiedWith (cx_tiedWith (d := d) hb hn hct hw h0) wmX6_161 jc_10 rfl rfl rfl (Nat.le_of_ble_eq_true rfl) (j_fit_rm (by omega) (by omega) (by omega)) rfl ?_
  refine j2_callVi x hb dX6_byRule_69 m_X6_has (cx_has_1 (d := d) hb hn hct) wmX6_152 jc_10 rfl rfl rfl (Nat.le_of_ble_eq_true rfl) (j_fit_rm (by omega) (by omega) (by omega)) rfl ?_
  exact j_ireturn x hr dX6_byRule_72 (by omega) (by omega) ⟨rfl, rfl⟩
theorem cx_byRule_4 {d : Nat} {b : SBt} {Y : OUt} {M : MM} (hb : 104 ≤ b.2.1) {t : Int32} {n : Nat} (hn : n ≤ 56) (hct : M 95 9 = nI n) {w : Nat} (hw : w ≤ 8) (h0 : M 95 0 = nI w) : CM (d + 5) 0 0 yX6_byRule cX6_byRule 3 (some .int) [.ref 94, .int t, .int 4] b Y M (.inl (some (.int (gRule M n w t 4)))) (M) := by
  refine Con.of (by decide +kernel) (Nat.le_of_ble_eq_true rfl) rfl fun p l e s m args below meth c D tyc A ad0 x hr htab hname => ?_
  change JJ _ _ _ _ _ _ _ _ _ _ _ _ _ _ _ _ _ 0 [some (.ref 94), some (.int t), some (.int 4)] [] _ 0 0
  refine j_iload_n x dX6_byRule_0 rfl ?_
  refine j_tableOut (tgt := 73) x dX6_byRule_1 (by decide) (by decide) ?_
  refine j_aload_n x dX6_byRule_73 rfl ?_
  refine j_iload_n x dX6_byRule_74 rfl ?_
  refine j_bipush (v := 7) x dX6_byRule_75 (by decide) ?_
  refine j2_callVi x hb dX6_byRule_77 m_X6_has_ (cx_has2_7 (d := d) hb hn hct) wmX6_156 jc_10 rfl rfl rfl (Nat.le_of_ble_eq_true rfl) (j_fit_rm (by omega) (by omega) (by omega)) rfl ?_
  exact j_ireturn x hr dX6_byRule_80 (by omega) (by omega) ⟨rfl, rfl⟩
theorem cx_byRule {d : Nat} {b : SBt} {Y : OUt} {M : MM} (hb : 104 ≤ b.2.1) {t r : Int32} {n : Nat} (hn : n ≤ 56) (hct : M 95 9 = nI n) {w : Nat} (hw : w ≤ 8) (h0 : M 95 0 = nI w) (h : r = 0 ∨ r = 1 ∨ r = 2 ∨ r = 3 ∨ r = 4) : CM (d + 5) 0 0 yX6_byRule cX6_byRule 3 (some .int) [.ref 94, .int t, .int r] b Y M (.inl (some (.int (gRule M n w t r)))) M := by
  rcases h with rfl | rfl | rfl | rfl | rfl
  · exact cx_byRule_0 hb hn hct hw h0
  · exact cx_byRule_1 hb hn hct hw h0
  · exact cx_byRule_2 hb hn hct hw h0
  · exact cx_byRule_3 hb hn hct hw h0
  · exact cx_byRule_4 hb hn hct hw h0
theorem cx_isAhead {d : Nat} {b : SBt} {Y : OUt} {M : MM} (hb : 104 ≤ b.2.1) {u v : Int32} {n : Nat} (hn : n ≤ 56) (hct : M 95 9 = nI n) {w : Nat} (hw : w ≤ 8) (h0 : M 95 0 = nI w) {r : Nat} (hr3 : r ≤ 3) (h5 : M 95 5 = nI r) (hru : ∀ i, i < r → M 95 (6 + i) = 0 ∨ M 95 (6 + i) = 1 ∨ M 95 (6 + i) = 2 ∨ M 95 (6 + i) = 3 ∨ M 95 (6 + i) = 4) : CM (d + 6) 0 0 yX6_isAhead cX6_isAhead 5 (some .boolean) [.ref 94, .int u, .int v] b Y M (.inl (some (.int (gAh M n w r u v)))) (M) := by
  refine Con.of (by decide +kernel) (Nat.le_of_ble_eq_true rfl) rfl fun p l e s m args below meth c D tyc A ad0 x hr htab hname => ?_
  change JJ _ _ _ _ _ _ _ _ _ _ _ _ _ _ _ _ _ 0 [some (.ref 94), some (.int u), some (.int v), none, none] [] _ 0 0
  refine j_aload_n x dX6_isAhead_0 rfl ?_
  refine j_iload_n x dX6_isAhead_1 rfl ?_
  refine j_iconst (v := 1) x dX6_isAhead_2 (by decide) ?_
  refine j2_callVi x hb dX6_isAhead_3 m_X6_has_ (cx_has2_1 (d := d) hb hn hct) wmX6_156 jc_10 rfl rfl rfl (Nat.le_of_ble_eq_true rfl) (j_fit_rm (by omega) (by omega) (by omega)) rfl ?_
  refine j_aload_n x dX6_isAhead_6 rfl ?_
  refine j_iload_n x dX6_isAhead_7 rfl ?_
  refine j_iconst (v := 1) x dX6_isAhead_8 (by decide) ?_
  refine j2_callVi x hb dX6_isAhead_9 m_X6_has_ (cx_has2_1 (d := d) hb hn hct) wmX6_156 jc_10 rfl rfl rfl (Nat.le_of_ble_eq_true rfl) (j_fit_rm (by omega) (by omega) (by omega)) rfl ?_
  refine j_isub x dX6_isAhead_12 ?_
  refine j_istore_n x dX6_isAhead_13 (by decide) rfl ?_
  refine j_iconst (v := 0) x dX6_isAhead_14 (by decide) ?_
  refine j_istore x dX6_isAhead_15 (by decide) rfl ?_
  refine j_for (r) (fun j => [some (.ref 94), some (.int u), some (.int v), some (.int (gLead M n w u v j)), some (.int (nI j))]) (fun j => M) (fun j => True) (rfl) (rfl) (trivial) (fun j hj hP ih => ?_) (fun hP => ?_)
  · refine j_iload x dX6_isAhead_17 rfl ?_
    refine j_aload_n x dX6_isAhead_19 rfl ?_
    refine j2_getr (k := 0) (r := 95) x hb dX6_isAhead_20 jc_10 wfX6_9 (by decide) rfl ?_
    refine j_iconst (v := 5) x dX6_isAhead_23 (by decide) ?_
    refine j2_ialn x hb dX6_isAhead_24 fa_95 (j := 5) (vp_c (by decide)) (by decide) ?_; rw [h5]
    refine j_icmp_ge (tgt := 70) x dX6_isAhead_25 (by decide) (fun hc => absurd hc (nI_ge hj (by omega))) (fun hc => ?_)
    refine j_iload_n x dX6_isAhead_28 rfl ?_
    refine j_if_ne (tgt := 70) x dX6_isAhead_29 (by decide) (fun h1 => ?_) (fun h1 => ?_)
    · refine j_iload_n x dX6_isAhead_70 rfl ?_
      refine j_if_ne (tgt := 87) x dX6_isAhead_71 (by decide) (fun g0 => ?_) (fun g0 => ?_)
      · refine j_iload_n x dX6_isAhead_87 rfl ?_
        refine j_if_le (tgt := 95) x dX6_isAhead_88 (by decide) (fun g1 => ?_) (fun g1 => ?_)
        · refine j_iconst (v := 0) x dX6_isAhead_95 (by decide) ?_
          exact j_zreturn x hr dX6_isAhead_96 (by first | decide | exact jisS_nar | exact gno_nar | exact jb_nar) (by omega) (by omega) ⟨by rw [gAh, gLead_keep h1 (Nat.le_of_lt hj), if_neg g0, jb_f (fun q => q g1)], rfl⟩
        · refine j_iconst (v := 1) x dX6_isAhead_91 (by decide) ?_
          refine j_goto (tgt := 96) x dX6_isAhead_92 (by decide) ?_
          exact j_zreturn x hr dX6_isAhead_96 (by first | decide | exact jisS_nar | exact gno_nar | exact jb_nar) (by omega) (by omega) ⟨by rw [gAh, gLead_keep h1 (Nat.le_of_lt hj), if_neg g0, jb_t g1], rfl⟩
      · refine j_iload_n x dX6_isAhead_74 rfl ?_
        refine j_iload_n x dX6_isAhead_75 rfl ?_
        refine j_icmp_ge (tgt := 83) x dX6_isAhead_76 (by decide) (fun g1 => ?_) (fun g1 => ?_)
        · refine j_iconst (v := 0) x dX6_isAhead_83 (by decide) ?_
          refine j_goto (tgt := 96) x dX6_isAhead_84 (by decide) ?_
          exact j_zreturn x hr dX6_isAhead_96 (by first | decide | exact jisS_nar | exact gno_nar | exact jb_nar) (by omega) (by omega) ⟨by rw [gAh, gLead_keep h1 (Nat.le_of_lt hj), if_pos g0, jb_f (fun q => q g1)], rfl⟩
        · refine j_iconst (v := 1) x dX6_isAhead_79 (by decide) ?_
          refine j_goto (tgt := 96) x dX6_isAhead_80 (by decide) ?_
          exact j_zreturn x hr dX6_isAhead_96 (by first | decide | exact jisS_nar | exact gno_nar | exact jb_nar) (by omega) (by omega) ⟨by rw [gAh, gLead_keep h1 (Nat.le_of_lt hj), if_pos g0, jb_t g1], rfl⟩
    · refine j_aload_n x dX6_isAhead_32 rfl ?_
      refine j_iload_n x dX6_isAhead_33 rfl ?_
      refine j_aload_n x dX6_isAhead_34 rfl ?_
      refine j2_getr (k := 0) (r := 95) x hb dX6_isAhead_35 jc_10 wfX6_9 (by decide) rfl ?_
      refine j_bipush (v := 6) x dX6_isAhead_38 (by decide) ?_
      refine j_iload x dX6_isAhead_40 rfl ?_
      refine j_iadd x dX6_isAhead_42 ?_
      refine j2_ialn x hb dX6_isAhead_43 fa_95 (j := 6 + j) (by rw [show (6 : Int32) + nI j = nI (6 + j) from nI_add 6 j]; exact vp_in_nI (by omega) (by decide)) (by rw [show (6 : Int32) + nI j = nI (6 + j) from nI_add 6 j]; exact nI_clamp (by omega)) ?_
      refine j2_callVi x hb dX6_isAhead_44 m_X6_byRule (cx_byRule (d := d) hb hn hct hw h0 (hru j hj)) wmX6_164 jc_10 rfl rfl rfl (Nat.le_of_ble_eq_true rfl) (j_fit_rm (by omega) (by omega) (by omega)) rfl ?_
      refine j_aload_n x dX6_isAhead_47 rfl ?_
      refine j_iload_n x dX6_isAhead_48 rfl ?_
      refine j_aload_n x dX6_isAhead_49 rfl ?_
      refine j2_getr (k := 0) (r := 95) x hb dX6_isAhead_50 jc_10 wfX6_9 (by decide) rfl ?_
      refine j_bipush (v := 6) x dX6_isAhead_53 (by decide) ?_
      refine j_iload x dX6_isAhead_55 rfl ?_
      refine j_iadd x dX6_isAhead_57 ?_
      refine j2_ialn x hb dX6_isAhead_58 fa_95 (j := 6 + j) (by rw [show (6 : Int32) + nI j = nI (6 + j) from nI_add 6 j]; exact vp_in_nI (by omega) (by decide)) (by rw [show (6 : Int32) + nI j = nI (6 + j) from nI_add 6 j]; exact nI_clamp (by omega)) ?_
      refine j2_callVi x hb dX6_isAhead_59 m_X6_byRule (cx_byRule (d := d) hb hn hct hw h0 (hru j hj)) wmX6_164 jc_10 rfl rfl rfl (Nat.le_of_ble_eq_true rfl) (j_fit_rm (by omega) (by omega) (by omega)) rfl ?_
      refine j_isub x dX6_isAhead_62 ?_
      refine j_istore_n x dX6_isAhead_63 (by decide) rfl ?_
      refine j_iinc x dX6_isAhead_64 rfl (by decide) rfl ?_
      refine j_goto (tgt := 17) x dX6_isAhead_67 (by decide) ?_
      exact j_goal (ih (trivial)) (wk_c rfl (wk_c rfl (wk_c rfl (wk_c (congrArg (fun z => some (Value.int z)) (show _ = gLead M n w u v (j + 1) by rw [gLead]; exact (if_pos h1).symm)) (wk_c (congrArg (fun z => some (Value.int z)) (nI_1 _)) (wk_0)))))) (rfl)
  refine j_iload x dX6_isAhead_17 rfl ?_
  refine j_aload_n x dX6_isAhead_19 rfl ?_
  refine j2_getr (k := 0) (r := 95) x hb dX6_isAhead_20 jc_10 wfX6_9 (by decide) rfl ?_
  refine j_iconst (v := 5) x dX6_isAhead_23 (by decide) ?_
  refine j2_ialn x hb dX6_isAhead_24 fa_95 (j := 5) (vp_c (by decide)) (by decide) ?_; rw [h5]
  refine j_icmp_ge (tgt := 70) x dX6_isAhead_25 (by decide) (fun hc => ?_) (fun hc => absurd (nI_le (Nat.le_refl _) (by omega)) hc)
  refine j_iload_n x dX6_isAhead_70 rfl ?_
  refine j_if_ne (tgt := 87) x dX6_isAhead_71 (by decide) (fun g0 => ?_) (fun g0 => ?_)
  · refine j_iload_n x dX6_isAhead_87 rfl ?_
    refine j_if_le (tgt := 95) x dX6_isAhead_88 (by decide) (fun g1 => ?_) (fun g1 => ?_)
    · refine j_iconst (v := 0) x dX6_isAhead_95 (by decide) ?_
      exact j_zreturn x hr dX6_isAhead_96 (by first | decide | exact jisS_nar | exact gno_nar | exact jb_nar) (by omega) (by omega) ⟨by rw [gAh, if_neg g0, jb_f (fun q => q g1)], rfl⟩
    · refine j_iconst (v := 1) x dX6_isAhead_91 (by decide) ?_
      refine j_goto (tgt := 96) x dX6_isAhead_92 (by decide) ?_
      exact j_zreturn x hr dX6_isAhead_96 (by first | decide | exact jisS_nar | exact gno_nar | exact jb_nar) (by omega) (by omega) ⟨by rw [gAh, if_neg g0, jb_t g1], rfl⟩
  · refine j_iload_n x dX6_isAhead_74 rfl ?_
    refine j_iload_n x dX6_isAhead_75 rfl ?_
    refine j_icmp_ge (tgt := 83) x dX6_isAhead_76 (by decide) (fun g1 => ?_) (fun g1 => ?_)
    · refine j_iconst (v := 0) x dX6_isAhead_83 (by decide) ?_
      refine j_goto (tgt := 96) x dX6_isAhead_84 (by decide) ?_
      exact j_zreturn x hr dX6_isAhead_96 (by first | decide | exact jisS_nar | exact gno_nar | exact jb_nar) (by omega) (by omega) ⟨by rw [gAh, if_pos g0, jb_f (fun q => q g1)], rfl⟩
    · refine j_iconst (v := 1) x dX6_isAhead_79 (by decide) ?_
      refine j_goto (tgt := 96) x dX6_isAhead_80 (by decide) ?_
      exact j_zreturn x hr dX6_isAhead_96 (by first | decide | exact jisS_nar | exact gno_nar | exact jb_nar) (by omega) (by omega) ⟨by rw [gAh, if_pos g0, jb_t g1], rfl⟩
def fgPl (M : MM) (n w r : Nat) (t : Int32) (i : Nat) : Int32 := if nI i = t then 0 else if gAh M n w r (nI i) t = 0 then 0 else 1
theorem cx_placeIn {d : Nat} {b : SBt} {Y : OUt} {M : MM} (hb : 104 ≤ b.2.1) {t : Int32} {n : Nat} (hn : n ≤ 56) (hct : M 95 9 = nI n) {w : Nat} (hw : w ≤ 8) (h0 : M 95 0 = nI w) {r : Nat} (hr3 : r ≤ 3) (h5 : M 95 5 = nI r) (hru : ∀ i, i < r → M 95 (6 + i) = 0 ∨ M 95 (6 + i) = 1 ∨ M 95 (6 + i) = 2 ∨ M 95 (6 + i) = 3 ∨ M 95 (6 + i) = 4) : CM (d + 7) 0 0 yX6_placeIn cX6_placeIn 4 (some .int) [.ref 94, .int t] b Y M (.inl (some (.int (jsum (fgPl M n w r t) w)))) (M) := by
  refine Con.of (by decide +kernel) (Nat.le_of_ble_eq_true rfl) rfl fun p l e s m args below meth c D tyc A ad0 x hr htab hname => ?_
  change JJ _ _ _ _ _ _ _ _ _ _ _ _ _ _ _ _ _ 0 [some (.ref 94), some (.int t), none, none] [] _ 0 0
  refine j_iconst (v := 0) x dX6_placeIn_0 (by decide) ?_
  refine j_istore_n x dX6_placeIn_1 (by decide) rfl ?_
  refine j_iconst (v := 0) x dX6_placeIn_2 (by decide) ?_
  refine j_istore_n x dX6_placeIn_3 (by decide) rfl ?_
  refine j_for (w) (fun j => [some (.ref 94), some (.int t), some (.int (jsum (fgPl M n w r t) j)), some (.int (nI j))]) (fun j => M) (fun j => True) (rfl) (rfl) (trivial) (fun j hj hP ih => ?_) (fun hP => ?_)
  · refine j_iload_n x dX6_placeIn_4 rfl ?_
    refine j_aload_n x dX6_placeIn_5 rfl ?_
    refine j2_getr (k := 0) (r := 95) x hb dX6_placeIn_6 jc_10 wfX6_9 (by decide) rfl ?_
    refine j_iconst (v := 0) x dX6_placeIn_9 (by decide) ?_
    refine j2_ialn x hb dX6_placeIn_10 fa_95 (j := 0) (vp_c (by decide)) (by decide) ?_; rw [h0]
    refine j_icmp_ge (tgt := 37) x dX6_placeIn_11 (by decide) (fun hc => absurd hc (nI_ge hj (by omega))) (fun hc => ?_)
    refine j_iload_n x dX6_placeIn_14 rfl ?_
    refine j_iload_n x dX6_placeIn_15 rfl ?_
    refine j_icmp_eq (tgt := 31) x dX6_placeIn_16 (by decide) (fun h1 => ?_) (fun h1 => ?_)
    · refine j_iinc x dX6_placeIn_31 rfl (by decide) rfl ?_
      refine j_goto (tgt := 4) x dX6_placeIn_34 (by decide) ?_
      exact j_goal (ih (trivial)) (wk_c rfl (wk_c rfl (wk_c (congrArg (fun z => some (Value.int z)) (jsum_f (if_pos h1))) (wk_c (congrArg (fun z => some (Value.int z)) (nI_1 _)) (wk_0))))) (rfl)
    · refine j_aload_n x dX6_placeIn_19 rfl ?_
      refine j_iload_n x dX6_placeIn_20 rfl ?_
      refine j_iload_n x dX6_placeIn_21 rfl ?_
      refine j2_callVi x hb dX6_placeIn_22 m_X6_isAhead (cx_isAhead (d := d) hb hn hct hw h0 hr3 h5 hru) wmX6_167 jc_10 rfl rfl rfl (Nat.le_of_ble_eq_true rfl) (j_fit_rm (by omega) (by omega) (by omega)) rfl ?_
      refine j_if_eq (tgt := 31) x dX6_placeIn_25 (by decide) (fun h2 => ?_) (fun h2 => ?_)
      · refine j_iinc x dX6_placeIn_31 rfl (by decide) rfl ?_
        refine j_goto (tgt := 4) x dX6_placeIn_34 (by decide) ?_
        exact j_goal (ih (trivial)) (wk_c rfl (wk_c rfl (wk_c (congrArg (fun z => some (Value.int z)) (jsum_f ((if_neg h1).trans (if_pos h2)))) (wk_c (congrArg (fun z => some (Value.int z)) (nI_1 _)) (wk_0))))) (rfl)
      · refine j_iinc x dX6_placeIn_28 rfl (by decide) rfl ?_
        refine j_iinc x dX6_placeIn_31 rfl (by decide) rfl ?_
        refine j_goto (tgt := 4) x dX6_placeIn_34 (by decide) ?_
        exact j_goal (ih (trivial)) (wk_c rfl (wk_c rfl (wk_c (congrArg (fun z => some (Value.int z)) (jsum_v ((if_neg h1).trans (if_neg h2)))) (wk_c (congrArg (fun z => some (Value.int z)) (nI_1 _)) (wk_0))))) (rfl)
  refine j_iload_n x dX6_placeIn_4 rfl ?_
  refine j_aload_n x dX6_placeIn_5 rfl ?_
  refine j2_getr (k := 0) (r := 95) x hb dX6_placeIn_6 jc_10 wfX6_9 (by decide) rfl ?_
  refine j_iconst (v := 0) x dX6_placeIn_9 (by decide) ?_
  refine j2_ialn x hb dX6_placeIn_10 fa_95 (j := 0) (vp_c (by decide)) (by decide) ?_; rw [h0]
  refine j_icmp_ge (tgt := 37) x dX6_placeIn_11 (by decide) (fun hc => ?_) (fun hc => absurd (nI_le (Nat.le_refl _) (by omega)) hc)
  refine j_iload_n x dX6_placeIn_37 rfl ?_
  exact j_ireturn x hr dX6_placeIn_38 (by omega) (by omega) ⟨rfl, rfl⟩
def gMost (M : MM) (n : Nat) (t : Int32) : Int32 := gH M n t 1 + M 95 3 * gH M n t 8
theorem cx_mostOf {d : Nat} {b : SBt} {Y : OUt} {M : MM} (hb : 104 ≤ b.2.1) {t : Int32} {n : Nat} (hn : n ≤ 56) (hct : M 95 9 = nI n) : CM (d + 4) 0 0 yX6_mostOf cX6_mostOf 2 (some .int) [.ref 94, .int t] b Y M (.inl (some (.int (gMost M n t)))) (M) := by
  refine Con.of (by decide +kernel) (Nat.le_of_ble_eq_true rfl) rfl fun p l e s m args below meth c D tyc A ad0 x hr htab hname => ?_
  change JJ _ _ _ _ _ _ _ _ _ _ _ _ _ _ _ _ _ 0 [some (.ref 94), some (.int t)] [] _ 0 0
  refine j_aload_n x dX6_mostOf_0 rfl ?_
  refine j_iload_n x dX6_mostOf_1 rfl ?_
  refine j_iconst (v := 1) x dX6_mostOf_2 (by decide) ?_
  refine j2_callVi x hb dX6_mostOf_3 m_X6_has_ (cx_has2_1 (d := d) hb hn hct) wmX6_156 jc_10 rfl rfl rfl (Nat.le_of_ble_eq_true rfl) (j_fit_rm (by omega) (by omega) (by omega)) rfl ?_
  refine j_aload_n x dX6_mostOf_6 rfl ?_
  refine j2_getr (k := 0) (r := 95) x hb dX6_mostOf_7 jc_10 wfX6_9 (by decide) rfl ?_
  refine j_iconst (v := 3) x dX6_mostOf_10 (by decide) ?_
  refine j2_ialn x hb dX6_mostOf_11 fa_95 (j := 3) (vp_c (by decide)) (by decide) ?_
  refine j_aload_n x dX6_mostOf_12 rfl ?_
  refine j_iload_n x dX6_mostOf_13 rfl ?_
  refine j_bipush (v := 8) x dX6_mostOf_14 (by decide) ?_
  refine j2_callVi x hb dX6_mostOf_16 m_X6_has_ (cx_has2_8 (d := d) hb hn hct) wmX6_156 jc_10 rfl rfl rfl (Nat.le_of_ble_eq_true rfl) (j_fit_rm (by omega) (by omega) (by omega)) rfl ?_
  refine j_imul x dX6_mostOf_19 ?_
  refine j_iadd x dX6_mostOf_20 ?_
  exact j_ireturn x hr dX6_mostOf_21 (by omega) (by omega) ⟨rfl, rfl⟩
def fgS (M : MM) (n : Nat) (t : Int32) (i : Nat) : Int32 := jb (¬ nI i = t ∧ ¬ gMost M n (nI i) < gH M n t 1)
def fgO (M : MM) (n : Nat) (t : Int32) (i : Nat) : Int32 := jb (¬ nI i = t ∧ ¬ gH M n (nI i) 1 ≤ gMost M n t)
theorem cx_isSafeNow {d : Nat} {b : SBt} {Y : OUt} {M : MM} (hb : 104 ≤ b.2.1) {t : Int32} {n : Nat} (hn : n ≤ 56) (hct : M 95 9 = nI n) {w : Nat} (hw : w ≤ 8) (h0 : M 95 0 = nI w) : CM (d + 5) 0 0 yX6_isSafeNow cX6_isSafeNow 3 (some .boolean) [.ref 94, .int t] b Y M (.inl (some (.int (jb (jfst (fgS M n t) w = -1))))) (M) := by
  refine Con.of (by decide +kernel) (Nat.le_of_ble_eq_true rfl) rfl fun p l e s m args below meth c D tyc A ad0 x hr htab hname => ?_
  change JJ _ _ _ _ _ _ _ _ _ _ _ _ _ _ _ _ _ 0 [some (.ref 94), some (.int t), none] [] _ 0 0
  refine j_iconst (v := 0) x dX6_isSafeNow_0 (by decide) ?_
  refine j_istore_n x dX6_isSafeNow_1 (by decide) rfl ?_
  refine j_for (w) (fun j => [some (.ref 94), some (.int t), some (.int (nI j))]) (fun j => M) (fun j => jfst (fgS M n t) j = -1) (rfl) (rfl) (rfl) (fun j hj hP ih => ?_) (fun hP => ?_)
  · refine j_iload_n x dX6_isSafeNow_2 rfl ?_
    refine j_aload_n x dX6_isSafeNow_3 rfl ?_
    refine j2_getr (k := 0) (r := 95) x hb dX6_isSafeNow_4 jc_10 wfX6_9 (by decide) rfl ?_
    refine j_iconst (v := 0) x dX6_isSafeNow_7 (by decide) ?_
    refine j2_ialn x hb dX6_isSafeNow_8 fa_95 (j := 0) (vp_c (by decide)) (by decide) ?_; rw [h0]
    refine j_icmp_ge (tgt := 39) x dX6_isSafeNow_9 (by decide) (fun hc => absurd hc (nI_ge hj (by omega))) (fun hc => ?_)
    refine j_iload_n x dX6_isSafeNow_12 rfl ?_
    refine j_iload_n x dX6_isSafeNow_13 rfl ?_
    refine j_icmp_eq (tgt := 33) x dX6_isSafeNow_14 (by decide) (fun h1 => ?_) (fun h1 => ?_)
    · refine j_iinc x dX6_isSafeNow_33 rfl (by decide) rfl ?_
      refine j_goto (tgt := 2) x dX6_isSafeNow_36 (by decide) ?_
      exact j_goal (ih (jfst_no hP (fun q => absurd ((show fgS M n t j = 0 from jb_f (fun q => q.1 h1)).symm.trans q) (by decide)))) (wk_c rfl (wk_c rfl (wk_c (congrArg (fun z => some (Value.int z)) (nI_1 _)) (wk_0)))) (rfl)
    · refine j_aload_n x dX6_isSafeNow_17 rfl ?_
      refine j_iload_n x dX6_isSafeNow_18 rfl ?_
      refine j2_callVi x hb dX6_isSafeNow_19 m_X6_mostOf (cx_mostOf (d := d) hb hn hct) wmX6_173 jc_10 rfl rfl rfl (Nat.le_of_ble_eq_true rfl) (j_fit_rm (by omega) (by omega) (by omega)) rfl ?_
      refine j_aload_n x dX6_isSafeNow_22 rfl ?_
      refine j_iload_n x dX6_isSafeNow_23 rfl ?_
      refine j_iconst (v := 1) x dX6_isSafeNow_24 (by decide) ?_
      refine j2_callVi x hb dX6_isSafeNow_25 m_X6_has_ (cx_has2_1 (d := d) hb hn hct) wmX6_156 jc_10 rfl rfl rfl (Nat.le_of_ble_eq_true rfl) (j_fit_rm (by omega) (by omega) (by omega)) rfl ?_
      refine j_icmp_lt (tgt := 33) x dX6_isSafeNow_28 (by decide) (fun h2 => ?_) (fun h2 => ?_)
      · refine j_iinc x dX6_isSafeNow_33 rfl (by decide) rfl ?_
        refine j_goto (tgt := 2) x dX6_isSafeNow_36 (by decide) ?_
        exact j_goal (ih (jfst_no hP (fun q => absurd ((show fgS M n t j = 0 from jb_f (fun q => q.2 h2)).symm.trans q) (by decide)))) (wk_c rfl (wk_c rfl (wk_c (congrArg (fun z => some (Value.int z)) (nI_1 _)) (wk_0)))) (rfl)
      · refine j_iconst (v := 0) x dX6_isSafeNow_31 (by decide) ?_
        exact j_zreturn x hr dX6_isSafeNow_32 (by first | decide | exact jisS_nar | exact gno_nar | exact jb_nar) (by omega) (by omega) ⟨by rw [jb_f (p := jfst (fgS M n t) w = -1) (fun q => absurd ((jfst_at hP (show fgS M n t j = 1 from jb_t ⟨h1, h2⟩) (by omega) hj).symm.trans q) (nI_nm1 (by omega)))], rfl⟩
  refine j_iload_n x dX6_isSafeNow_2 rfl ?_
  refine j_aload_n x dX6_isSafeNow_3 rfl ?_
  refine j2_getr (k := 0) (r := 95) x hb dX6_isSafeNow_4 jc_10 wfX6_9 (by decide) rfl ?_
  refine j_iconst (v := 0) x dX6_isSafeNow_7 (by decide) ?_
  refine j2_ialn x hb dX6_isSafeNow_8 fa_95 (j := 0) (vp_c (by decide)) (by decide) ?_; rw [h0]
  refine j_icmp_ge (tgt := 39) x dX6_isSafeNow_9 (by decide) (fun hc => ?_) (fun hc => absurd (nI_le (Nat.le_refl _) (by omega)) hc)
  refine j_iconst (v := 1) x dX6_isSafeNow_39 (by decide) ?_
  exact j_zreturn x hr dX6_isSafeNow_40 (by first | decide | exact jisS_nar | exact gno_nar | exact jb_nar) (by omega) (by omega) ⟨by rw [jb_t (p := jfst (fgS M n t) w = -1) hP], rfl⟩
theorem cx_isOutNow {d : Nat} {b : SBt} {Y : OUt} {M : MM} (hb : 104 ≤ b.2.1) {t : Int32} {n : Nat} (hn : n ≤ 56) (hct : M 95 9 = nI n) {w : Nat} (hw : w ≤ 8) (h0 : M 95 0 = nI w) : CM (d + 5) 0 0 yX6_isOutNow cX6_isOutNow 3 (some .boolean) [.ref 94, .int t] b Y M (.inl (some (.int (jb (¬ jfst (fgO M n t) w = -1))))) (M) := by
  refine Con.of (by decide +kernel) (Nat.le_of_ble_eq_true rfl) rfl fun p l e s m args below meth c D tyc A ad0 x hr htab hname => ?_
  change JJ _ _ _ _ _ _ _ _ _ _ _ _ _ _ _ _ _ 0 [some (.ref 94), some (.int t), none] [] _ 0 0
  refine j_iconst (v := 0) x dX6_isOutNow_0 (by decide) ?_
  refine j_istore_n x dX6_isOutNow_1 (by decide) rfl ?_
  refine j_for (w) (fun j => [some (.ref 94), some (.int t), some (.int (nI j))]) (fun j => M) (fun j => jfst (fgO M n t) j = -1) (rfl) (rfl) (rfl) (fun j hj hP ih => ?_) (fun hP => ?_)
  · refine j_iload_n x dX6_isOutNow_2 rfl ?_
    refine j_aload_n x dX6_isOutNow_3 rfl ?_
    refine j2_getr (k := 0) (r := 95) x hb dX6_isOutNow_4 jc_10 wfX6_9 (by decide) rfl ?_
    refine j_iconst (v := 0) x dX6_isOutNow_7 (by decide) ?_
    refine j2_ialn x hb dX6_isOutNow_8 fa_95 (j := 0) (vp_c (by decide)) (by decide) ?_; rw [h0]
    refine j_icmp_ge (tgt := 39) x dX6_isOutNow_9 (by decide) (fun hc => absurd hc (nI_ge hj (by omega))) (fun hc => ?_)
    refine j_iload_n x dX6_isOutNow_12 rfl ?_
    refine j_iload_n x dX6_isOutNow_13 rfl ?_
    refine j_icmp_eq (tgt := 33) x dX6_isOutNow_14 (by decide) (fun h1 => ?_) (fun h1 => ?_)
    · refine j_iinc x dX6_isOutNow_33 rfl (by decide) rfl ?_
      refine j_goto (tgt := 2) x dX6_isOutNow_36 (by decide) ?_
      exact j_goal (ih (jfst_no hP (fun q => absurd ((show fgO M n t j = 0 from jb_f (fun q => q.1 h1)).symm.trans q) (by decide)))) (wk_c rfl (wk_c rfl (wk_c (congrArg (fun z => some (Value.int z)) (nI_1 _)) (wk_0)))) (rfl)
    · refine j_aload_n x dX6_isOutNow_17 rfl ?_
      refine j_iload_n x dX6_isOutNow_18 rfl ?_
      refine j_iconst (v := 1) x dX6_isOutNow_19 (by decide) ?_
      refine j2_callVi x hb dX6_isOutNow_20 m_X6_has_ (cx_has2_1 (d := d) hb hn hct) wmX6_156 jc_10 rfl rfl rfl (Nat.le_of_ble_eq_true rfl) (j_fit_rm (by omega) (by omega) (by omega)) rfl ?_
      refine j_aload_n x dX6_isOutNow_23 rfl ?_
      refine j_iload_n x dX6_isOutNow_24 rfl ?_
      refine j2_callVi x hb dX6_isOutNow_25 m_X6_mostOf (cx_mostOf (d := d) hb hn hct) wmX6_173 jc_10 rfl rfl rfl (Nat.le_of_ble_eq_true rfl) (j_fit_rm (by omega) (by omega) (by omega)) rfl ?_
      refine j_icmp_le (tgt := 33) x dX6_isOutNow_28 (by decide) (fun h2 => ?_) (fun h2 => ?_)
      · refine j_iinc x dX6_isOutNow_33 rfl (by decide) rfl ?_
        refine j_goto (tgt := 2) x dX6_isOutNow_36 (by decide) ?_
        exact j_goal (ih (jfst_no hP (fun q => absurd ((show fgO M n t j = 0 from jb_f (fun q => q.2 h2)).symm.trans q) (by decide)))) (wk_c rfl (wk_c rfl (wk_c (congrArg (fun z => some (Value.int z)) (nI_1 _)) (wk_0)))) (rfl)
      · refine j_iconst (v := 1) x dX6_isOutNow_31 (by decide) ?_
        exact j_zreturn x hr dX6_isOutNow_32 (by first | decide | exact jisS_nar | exact gno_nar | exact jb_nar) (by omega) (by omega) ⟨by rw [jb_t (p := ¬ jfst (fgO M n t) w = -1) (fun q => absurd ((jfst_at hP (show fgO M n t j = 1 from jb_t ⟨h1, h2⟩) (by omega) hj).symm.trans q) (nI_nm1 (by omega)))], rfl⟩
  refine j_iload_n x dX6_isOutNow_2 rfl ?_
  refine j_aload_n x dX6_isOutNow_3 rfl ?_
  refine j2_getr (k := 0) (r := 95) x hb dX6_isOutNow_4 jc_10 wfX6_9 (by decide) rfl ?_
  refine j_iconst (v := 0) x dX6_isOutNow_7 (by decide) ?_
  refine j2_ialn x hb dX6_isOutNow_8 fa_95 (j := 0) (vp_c (by decide)) (by decide) ?_; rw [h0]
  refine j_icmp_ge (tgt := 39) x dX6_isOutNow_9 (by decide) (fun hc => ?_) (fun hc => absurd (nI_le (Nat.le_refl _) (by omega)) hc)
  refine j_iconst (v := 0) x dX6_isOutNow_39 (by decide) ?_
  exact j_zreturn x hr dX6_isOutNow_40 (by first | decide | exact jisS_nar | exact gno_nar | exact jb_nar) (by omega) (by omega) ⟨by rw [jb_f (p := ¬ jfst (fgO M n t) w = -1) (fun q => q hP)], rfl⟩
