/-! ===== the reference: its line ===== -/
theorem cx_writesNumber_S {d : Nat} {b : SBt} {Y : OUt} {M N : MM} (hb : 104 ≤ b.2.1) {q v : Nat} (hq : q < 40) (hv : 9 < v) (hv2 : v < 100000) (C : CM d 0 0 yX6_writesNumber cX6_writesNumber 2 none [.ref 94, .int (nI (v / 10))] b Y M (.inl none) N) (h7 : N 94 7 = nI q) : CM (d + 1) 0 0 yX6_writesNumber cX6_writesNumber 2 none [.ref 94, .int (nI v)] b Y M (.inl none) (gW N q v) := by
  refine Con.of (by decide +kernel) (Nat.le_of_ble_eq_true rfl) rfl fun p l e s m args below meth c D tyc A ad0 x hr htab hname => ?_
  change JJ _ _ _ _ _ _ _ _ _ _ _ _ _ _ _ _ _ 0 [some (.ref 94), some (.int (nI v))] [] _ 0 0
  refine j_iload_n x dX6_writesNumber_0 rfl ?_
  refine j_bipush (v := 9) x dX6_writesNumber_1 (by decide) ?_
  refine j_icmp_le (tgt := 14) x dX6_writesNumber_3 (by decide) (fun hc => absurd hc (show ¬ nI v ≤ nI 9 from nI_ge (by omega) (by omega))) (fun hc => ?_)
  refine j_aload_n x dX6_writesNumber_6 rfl ?_
  refine j_iload_n x dX6_writesNumber_7 rfl ?_
  refine j_bipush (v := 10) x dX6_writesNumber_8 (by decide) ?_
  refine j_idiv x dX6_writesNumber_10 (by decide) ?_; rw [show (10 : Int32) = nI 10 from rfl, nI_div2 (by omega) (by omega) (by omega)]
  refine j2_callVv x hb dX6_writesNumber_11 m_X6_writesNumber C wmX6_214 jc_10 rfl rfl rfl (Nat.le_of_ble_eq_true rfl) (j_fit_rm (by omega) (by omega) (by omega)) rfl ?_
  refine j_aload_n x dX6_writesNumber_14 rfl ?_
  refine j2_getr (k := 6) (r := 99) x hb dX6_writesNumber_15 jc_10 wfX6_22 (by decide) rfl ?_
  refine j_aload_n x dX6_writesNumber_18 rfl ?_
  refine j_dup x dX6_writesNumber_19 rfl ?_
  refine j2_geti (k := 7) x hb dX6_writesNumber_20 jc_10 wfX6_218 (by decide) rfl ?_
  refine j_dup_x1 x dX6_writesNumber_23 rfl rfl ?_
  refine j_iconst (v := 1) x dX6_writesNumber_24 (by decide) ?_
  refine j_iadd x dX6_writesNumber_25 ?_
  refine j2_puti (k := 7) x hb dX6_writesNumber_26 jc_10 wfX6_218 (by decide) rfl rfl rfl rfl ?_
  refine j_bipush (v := 48) x dX6_writesNumber_29 (by decide) ?_
  refine j_iload_n x dX6_writesNumber_31 rfl ?_
  refine j_bipush (v := 10) x dX6_writesNumber_32 (by decide) ?_
  refine j_irem x dX6_writesNumber_34 (by decide) ?_; rw [show (10 : Int32) = nI 10 from rfl, nI_rem (by omega) (by omega) (by omega)]
  refine j_iadd x dX6_writesNumber_35 ?_; rw [show (48 : Int32) = nI 48 from rfl, nI_add]
  refine j2_iasn x hb dX6_writesNumber_36 fa_99 (j := q) (by rw [h7]; exact vp_in_nI (by omega) (by decide)) (by rw [h7]; exact nI_clamp (by omega)) ?_
  exact j_return x hr dX6_writesNumber_37 (by omega) (by omega) ⟨rfl, by rw [h7, nI_1]; rfl⟩
def gLn (M N : MM) : Prop := ∀ i k, i ≠ 99 → ¬ (i = 94 ∧ k = 7) → N i k = M i k
theorem gW_ln {M N : MM} {q v : Nat} (h : gLn M N) : gLn M (gW N q v) := fun i k h1 h2 => by rw [gW, jm_n (by omega), jm_n (by omega)]; exact h i k h1 h2
theorem gW_7 {M : MM} {q v : Nat} : gW M q v 94 7 = nI (q + 1) := by rw [gW, jm_n (by omega), jm_s]
theorem gLn_0 {M : MM} : gLn M M := fun _ _ _ _ => rfl
theorem gLn_w {M N : MM} {q : Nat} {v w : Int32} (h : gLn M N) : gLn M (jm (jm N 94 7 v) 99 q w) := fun i k h1 h2 => by rw [jm_n (by omega), jm_n (by omega)]; exact h i k h1 h2
theorem gLn_t {M N N2 : MM} (h : gLn M N) (h2 : gLn N N2) : gLn M N2 := fun i k h3 h4 => (h2 i k h3 h4).trans (h i k h3 h4)
/-- a number below 10000 is written: at most four signs -/
theorem cx_wn {d : Nat} {b : SBt} {Y : OUt} {M : MM} (hb : 104 ≤ b.2.1) {q v : Nat} (hq : q + 3 < 40) (h7 : M 94 7 = nI q) (hv : v < 10000) : ∃ N, gLn M N ∧ (∃ w, w ≤ 4 ∧ N 94 7 = nI (q + w)) ∧ CM (d + 3) 0 0 yX6_writesNumber cX6_writesNumber 2 none [.ref 94, .int (nI v)] b Y M (.inl none) N := by
  by_cases h1 : v < 10
  · exact ⟨_, gW_ln gLn_0, ⟨1, by omega, gW_7⟩, cx_writesNumber_1 hb (by omega) h7 h1⟩
  · have e1 := cx_writesNumber_1 (d := d) (Y := Y) (v := v % 10) hb (show q < 40 by omega) h7 (by omega)
    by_cases h2 : v < 100
    · exact ⟨_, gW_ln (gW_ln gLn_0), ⟨2, by omega, gW_7⟩, cx_writesNumber_S (d := d + 2) hb (q := q + 1) (by omega) (by omega) (by omega) (cx_writesNumber_1 hb (by omega) h7 (by omega)) gW_7⟩
    · by_cases h3 : v < 1000
      · exact ⟨_, gW_ln (gW_ln (gW_ln gLn_0)), ⟨3, by omega, gW_7⟩, cx_writesNumber_S (d := d + 2) hb (q := q + 2) (by omega) (by omega) (by omega) (cx_writesNumber_S (d := d + 1) hb (q := q + 1) (by omega) (by omega) (by omega) (cx_writesNumber_1 hb (by omega) h7 (by omega)) gW_7) gW_7⟩
      · exact ⟨_, gW_ln (gW_ln (gW_ln (gW_ln gLn_0))), ⟨4, by omega, gW_7⟩, cx_writesNumber_S (d := d + 2) hb (q := q + 3) (by omega) (by omega) (by omega) (cx_writesNumber_S (d := d + 1) hb (q := q + 2) (by omega) (by omega) (by omega) (cx_writesNumber_S (d := d) hb (q := q + 1) (by omega) (by omega) (by omega) (cx_writesNumber_1 hb (by omega) h7 (by omega)) gW_7) gW_7) gW_7⟩
theorem cx_has2_k {d : Nat} {b : SBt} {Y : OUt} {M : MM} (hb : 104 ≤ b.2.1) {t : Int32} {n : Nat} (hn : n ≤ 56) (hct : M 95 9 = nI n) {j : Nat} (hj : j < 6) : CM (d + 3) 0 0 yX6_has_ cX6_has_ 3 (some .int) [.ref 94, .int t, .int (nI (j + 1))] b Y M (.inl (some (.int (jsum (fHas M t (j + 1) (-1)) n)))) (M) := by
  rcases (show j = 0 ∨ j = 1 ∨ j = 2 ∨ j = 3 ∨ j = 4 ∨ j = 5 by omega) with rfl | rfl | rfl | rfl | rfl | rfl
  · exact cx_has2_1 hb hn hct
  · exact cx_has2_2 hb hn hct
  · exact cx_has2_3 hb hn hct
  · exact cx_has2_4 hb hn hct
  · exact cx_has2_5 hb hn hct
  · exact cx_has2_6 hb hn hct
theorem fHas_c {M N : MM} (h : ∀ k, N 95 k = M 95 k) {t : Int32} {k : Nat} {s : Int32} : fHas N t k s = fHas M t k s := funext fun m => by
  have e : ∀ m w, jof N m w = jof M m w := fun m w => h _
  unfold fHas
  simp only [e, h]
set_option maxHeartbeats 4000000 in
theorem cx_line_ok {d : Nat} {b : SBt} {Y : OUt} {M : MM} (hb : 104 ≤ b.2.1) {t : Int32} {t1 : Nat} (ht : t = nI t1) (ht8 : t1 < 8) {n : Nat} (hn : n ≤ 56) (hct : M 95 9 = nI n) {w : Nat} (hw : w ≤ 8) (h0 : M 95 0 = nI w) (hT : ¬ t < 0 ∧ ¬ M 95 0 - 1 < t) (hv : ∀ j, j < 6 → ∃ v, v < 10000 ∧ jsum (fHas (jm M 94 19 0) t (j + 1) (-1)) n = nI v) : Con (d + 6) 0 0 yX6_line cX6_line 3 (some .int) [.ref 94, .int t] (HH b Y M) (fun o k => ∃ (N : MM) (v : Int32), o = .inl (some (.int v)) ∧ k = HH b Y N ∧ gLn (jm M 94 19 0) N ∧ ∃ q, q ≤ 36 ∧ N 94 7 = nI q) := by
  refine Con.of (by decide +kernel) (Nat.le_of_ble_eq_true rfl) rfl fun p l e s m args below meth c D tyc A ad0 x hr htab hname => ?_
  change JJ _ _ _ _ _ _ _ _ _ _ _ _ _ _ _ _ _ 0 [some (.ref 94), some (.int t), none] [] _ 0 0
  refine j_aload_n x dX6_line_0 rfl ?_
  refine j_iconst (v := 0) x dX6_line_1 (by decide) ?_
  refine j2_puti (k := 19) x hb dX6_line_2 jc_10 wfX6_36 (by decide) rfl rfl rfl rfl ?_
  refine j_aload_n x dX6_line_5 rfl ?_
  refine j_iload_n x dX6_line_6 rfl ?_
  refine j2_callVi x hb dX6_line_7 m_X6_isTeam (CM_v (cx_isTeam (d := d) hb) (jb_t hT)) wmX6_91 jc_10 rfl rfl rfl (Nat.le_of_ble_eq_true rfl) (j_fit_rm (by omega) (by omega) (by omega)) rfl ?_
  refine j_if_ne (tgt := 19) x dX6_line_10 (by decide) (fun hc => ?_) (fun hc => absurd hc (by decide))
  refine j_aload_n x dX6_line_19 rfl ?_
  refine j_iconst (v := 0) x dX6_line_20 (by decide) ?_
  refine j2_puti (k := 7) x hb dX6_line_21 jc_10 wfX6_218 (by decide) rfl rfl rfl rfl ?_
  obtain ⟨N1, hl1, ⟨w1, hw1, h71⟩, hC1⟩ := cx_wn (d := d) (Y := Y) (M := jm (jm M 94 19 0) 94 7 0) hb (q := 0) (v := t1) (by decide) jm_s (by omega)
  have hl1 : gLn (jm M 94 19 0) N1 := gLn_t (fun i k h1 h2 => jm_n (by omega)) hl1
  rw [Nat.zero_add] at h71
  refine j_aload_n x dX6_line_24 rfl ?_
  refine j_iload_n x dX6_line_25 rfl ?_
  refine j2_callVv x hb dX6_line_26 m_X6_writesNumber (ht ▸ hC1) wmX6_214 jc_10 rfl rfl rfl (Nat.le_of_ble_eq_true rfl) (j_fit_rm (by omega) (by omega) (by omega)) rfl ?_
  refine j_aload_n x dX6_line_29 rfl ?_
  refine j2_getr (k := 6) (r := 99) x hb dX6_line_30 jc_10 wfX6_22 (by decide) rfl ?_
  refine j_aload_n x dX6_line_33 rfl ?_
  refine j_dup x dX6_line_34 rfl ?_
  refine j2_geti (k := 7) x hb dX6_line_35 jc_10 wfX6_218 (by decide) rfl ?_; rw [h71]
  refine j_dup_x1 x dX6_line_38 rfl rfl ?_
  refine j_iconst (v := 1) x dX6_line_39 (by decide) ?_
  refine j_iadd x dX6_line_40 ?_
  refine j2_puti (k := 7) x hb dX6_line_41 jc_10 wfX6_218 (by decide) rfl rfl rfl rfl ?_
  refine j_bipush (v := 58) x dX6_line_44 (by decide) ?_
  refine j2_iasn x hb dX6_line_46 fa_99 (j := w1) (vp_in_nI (by omega) (by decide)) (nI_clamp (by omega)) ?_
  refine j_iconst (v := 1) x dX6_line_47 (by decide) ?_
  refine j_istore_n x dX6_line_48 (by decide) rfl ?_
  refine j_up 6 (fun z0 => [some (.ref 94), some (.int t), some (.int (nI (z0 + 1)))]) (fun j N => gLn (jm M 94 19 0) N ∧ ∃ q, q ≤ 5 + 5 * j ∧ N 94 7 = nI q) rfl ⟨gLn_w hl1, w1 + 1, by omega, by rw [jm_n (by omega), jm_s, nI_1]⟩ (fun j N hj hP ih2 => ?_) (fun N hP => ?_)
  · obtain ⟨hln, q, hq, h7⟩ := hP
    obtain ⟨v2, hv2, e2⟩ := hv j hj
    obtain ⟨N2, hl2, ⟨w2, hw2, h8⟩, hC⟩ := cx_wn (d := d) (Y := Y) (M := N) hb (q := q) (by omega) h7 hv2
    refine j_iload_n x dX6_line_49 rfl ?_
    refine j_bipush (v := 7) x dX6_line_50 (by decide) ?_
    refine j_icmp_ge (tgt := 120) x dX6_line_52 (by decide) (fun hc => absurd hc (show ¬ nI 7 ≤ nI (j + 1) from nI_ge (by omega) (by decide))) (fun hc => ?_)
    refine j_aload_n x dX6_line_55 rfl ?_
    refine j_aload_n x dX6_line_56 rfl ?_
    refine j_iload_n x dX6_line_57 rfl ?_
    refine j_iload_n x dX6_line_58 rfl ?_
    refine j2_callVi x hb dX6_line_59 m_X6_has_ (CM_v (w := nI v2) (cx_has2_k (d := d) hb hn ((hln 95 9 (by omega) (by omega)).trans (by rw [jm_n (by omega)]; exact hct)) hj) (by rw [fHas_c (fun k => (hln 95 k (by omega) (by omega)).trans (jm_n (by omega)))]; exact e2)) wmX6_156 jc_10 rfl rfl rfl (Nat.le_of_ble_eq_true rfl) (j_fit_rm (by omega) (by omega) (by omega)) rfl ?_
    refine j2_callVv x hb dX6_line_62 m_X6_writesNumber hC wmX6_214 jc_10 rfl rfl rfl (Nat.le_of_ble_eq_true rfl) (j_fit_rm (by omega) (by omega) (by omega)) rfl ?_
    refine j_iload_n x dX6_line_65 rfl ?_
    refine j_bipush (v := 6) x dX6_line_66 (by decide) ?_
    refine j_icmp_ge (tgt := 114) x dX6_line_68 (by decide) (fun g1 => ?_) (fun g1 => ?_)
    · refine j_iinc x dX6_line_114 rfl (by decide) rfl ?_
      refine j_goto (tgt := 49) x dX6_line_117 (by decide) ?_
      exact j_goal (ih2 _ ⟨gLn_t hln hl2, q + w2, by omega, h8⟩) (wk_c rfl (wk_c rfl (wk_c (congrArg (fun z => some (Value.int z)) (nI_1 _)) (wk_0)))) rfl
    · refine j_aload_n x dX6_line_71 rfl ?_
      refine j2_getr (k := 6) (r := 99) x hb dX6_line_72 jc_10 wfX6_22 (by decide) rfl ?_
      refine j_aload_n x dX6_line_75 rfl ?_
      refine j_dup x dX6_line_76 rfl ?_
      refine j2_geti (k := 7) x hb dX6_line_77 jc_10 wfX6_218 (by decide) rfl ?_; rw [h8]
      refine j_dup_x1 x dX6_line_80 rfl rfl ?_
      refine j_iconst (v := 1) x dX6_line_81 (by decide) ?_
      refine j_iadd x dX6_line_82 ?_
      refine j2_puti (k := 7) x hb dX6_line_83 jc_10 wfX6_218 (by decide) rfl rfl rfl rfl ?_
      refine j_iload_n x dX6_line_86 rfl ?_
      refine j_iconst (v := 1) x dX6_line_87 (by decide) ?_
      refine j_icmp_eq (tgt := 96) x dX6_line_88 (by decide) (fun g2 => ?_) (fun g2 => ?_)
      · refine j_bipush (v := 32) x dX6_line_96 (by decide) ?_
        refine j_goto (tgt := 113) x dX6_line_98 (by decide) ?_
        refine j2_iasn x hb dX6_line_113 fa_99 (j := (q + w2)) (vp_in_nI (by omega) (by decide)) (nI_clamp (by omega)) ?_
        refine j_iinc x dX6_line_114 rfl (by decide) rfl ?_
        refine j_goto (tgt := 49) x dX6_line_117 (by decide) ?_
        exact j_goal (ih2 _ ⟨gLn_w (gLn_t hln hl2), q + w2 + 1, by omega, by rw [jm_n (by omega), jm_s, nI_1]⟩) (wk_c rfl (wk_c rfl (wk_c (congrArg (fun z => some (Value.int z)) (nI_1 _)) (wk_0)))) rfl
      · refine j_iload_n x dX6_line_91 rfl ?_
        refine j_iconst (v := 4) x dX6_line_92 (by decide) ?_
        refine j_icmp_ne (tgt := 101) x dX6_line_93 (by decide) (fun g3 => ?_) (fun g3 => ?_)
        · refine j_iload_n x dX6_line_101 rfl ?_
          refine j_iconst (v := 5) x dX6_line_102 (by decide) ?_
          refine j_icmp_ne (tgt := 111) x dX6_line_103 (by decide) (fun g4 => ?_) (fun g4 => ?_)
          · refine j_bipush (v := 45) x dX6_line_111 (by decide) ?_
            refine j2_iasn x hb dX6_line_113 fa_99 (j := (q + w2)) (vp_in_nI (by omega) (by decide)) (nI_clamp (by omega)) ?_
            refine j_iinc x dX6_line_114 rfl (by decide) rfl ?_
            refine j_goto (tgt := 49) x dX6_line_117 (by decide) ?_
            exact j_goal (ih2 _ ⟨gLn_w (gLn_t hln hl2), q + w2 + 1, by omega, by rw [jm_n (by omega), jm_s, nI_1]⟩) (wk_c rfl (wk_c rfl (wk_c (congrArg (fun z => some (Value.int z)) (nI_1 _)) (wk_0)))) rfl
          · refine j_bipush (v := 58) x dX6_line_106 (by decide) ?_
            refine j_goto (tgt := 113) x dX6_line_108 (by decide) ?_
            refine j2_iasn x hb dX6_line_113 fa_99 (j := (q + w2)) (vp_in_nI (by omega) (by decide)) (nI_clamp (by omega)) ?_
            refine j_iinc x dX6_line_114 rfl (by decide) rfl ?_
            refine j_goto (tgt := 49) x dX6_line_117 (by decide) ?_
            exact j_goal (ih2 _ ⟨gLn_w (gLn_t hln hl2), q + w2 + 1, by omega, by rw [jm_n (by omega), jm_s, nI_1]⟩) (wk_c rfl (wk_c rfl (wk_c (congrArg (fun z => some (Value.int z)) (nI_1 _)) (wk_0)))) rfl
        · refine j_bipush (v := 32) x dX6_line_96 (by decide) ?_
          refine j_goto (tgt := 113) x dX6_line_98 (by decide) ?_
          refine j2_iasn x hb dX6_line_113 fa_99 (j := (q + w2)) (vp_in_nI (by omega) (by decide)) (nI_clamp (by omega)) ?_
          refine j_iinc x dX6_line_114 rfl (by decide) rfl ?_
          refine j_goto (tgt := 49) x dX6_line_117 (by decide) ?_
          exact j_goal (ih2 _ ⟨gLn_w (gLn_t hln hl2), q + w2 + 1, by omega, by rw [jm_n (by omega), jm_s, nI_1]⟩) (wk_c rfl (wk_c rfl (wk_c (congrArg (fun z => some (Value.int z)) (nI_1 _)) (wk_0)))) rfl
  · obtain ⟨hln, q, hq, h7⟩ := hP
    refine j_iload_n x dX6_line_49 rfl ?_
    refine j_bipush (v := 7) x dX6_line_50 (by decide) ?_
    refine j_icmp_ge (tgt := 120) x dX6_line_52 (by decide) (fun hc => ?_) (fun hc => absurd (show nI 7 ≤ nI (6 + 1) from nI_le (by omega) (by omega)) hc)
    refine j_aload_n x dX6_line_120 rfl ?_
    refine j_iload_n x dX6_line_121 rfl ?_
    refine j2_callVi x hb dX6_line_122 m_X6_isSafeNow (cx_isSafeNow (d := d) hb hn ((hln 95 9 (by omega) (by omega)).trans (by rw [jm_n (by omega)]; exact hct)) hw ((hln 95 0 (by omega) (by omega)).trans (by rw [jm_n (by omega)]; exact h0))) wmX6_176 jc_10 rfl rfl rfl (Nat.le_of_ble_eq_true rfl) (j_fit_rm (by omega) (by omega) (by omega)) rfl ?_
    refine j_if_eq (tgt := 149) x dX6_line_125 (by decide) (fun g5 => ?_) (fun g5 => ?_)
    · refine j_aload_n x dX6_line_149 rfl ?_
      refine j_iload_n x dX6_line_150 rfl ?_
      refine j2_callVi x hb dX6_line_151 m_X6_isOutNow (cx_isOutNow (d := d) hb hn ((hln 95 9 (by omega) (by omega)).trans (by rw [jm_n (by omega)]; exact hct)) hw ((hln 95 0 (by omega) (by omega)).trans (by rw [jm_n (by omega)]; exact h0))) wmX6_179 jc_10 rfl rfl rfl (Nat.le_of_ble_eq_true rfl) (j_fit_rm (by omega) (by omega) (by omega)) rfl ?_
      refine j_if_eq (tgt := 175) x dX6_line_154 (by decide) (fun g6 => ?_) (fun g6 => ?_)
      · refine j_aload_n x dX6_line_175 rfl ?_
        refine j2_geti (k := 7) x hb dX6_line_176 jc_10 wfX6_218 (by decide) rfl ?_
        exact j_ireturn x hr dX6_line_179 (by omega) (by omega) ⟨_, _, rfl, rfl, hln, q, by omega, h7⟩
      · refine j_aload_n x dX6_line_157 rfl ?_
        refine j2_getr (k := 6) (r := 99) x hb dX6_line_158 jc_10 wfX6_22 (by decide) rfl ?_
        refine j_aload_n x dX6_line_161 rfl ?_
        refine j_dup x dX6_line_162 rfl ?_
        refine j2_geti (k := 7) x hb dX6_line_163 jc_10 wfX6_218 (by decide) rfl ?_; rw [h7]
        refine j_dup_x1 x dX6_line_166 rfl rfl ?_
        refine j_iconst (v := 1) x dX6_line_167 (by decide) ?_
        refine j_iadd x dX6_line_168 ?_
        refine j2_puti (k := 7) x hb dX6_line_169 jc_10 wfX6_218 (by decide) rfl rfl rfl rfl ?_
        refine j_bipush (v := 120) x dX6_line_172 (by decide) ?_
        refine j2_iasn x hb dX6_line_174 fa_99 (j := q) (vp_in_nI (by omega) (by decide)) (nI_clamp (by omega)) ?_
        refine j_aload_n x dX6_line_175 rfl ?_
        refine j2_geti (k := 7) x hb dX6_line_176 jc_10 wfX6_218 (by decide) rfl ?_
        exact j_ireturn x hr dX6_line_179 (by omega) (by omega) ⟨_, _, rfl, rfl, gLn_w hln, q + 1, by omega, by rw [jm_n (by omega), jm_s, nI_1]⟩
    · refine j_aload_n x dX6_line_128 rfl ?_
      refine j2_getr (k := 6) (r := 99) x hb dX6_line_129 jc_10 wfX6_22 (by decide) rfl ?_
      refine j_aload_n x dX6_line_132 rfl ?_
      refine j_dup x dX6_line_133 rfl ?_
      refine j2_geti (k := 7) x hb dX6_line_134 jc_10 wfX6_218 (by decide) rfl ?_; rw [h7]
      refine j_dup_x1 x dX6_line_137 rfl rfl ?_
      refine j_iconst (v := 1) x dX6_line_138 (by decide) ?_
      refine j_iadd x dX6_line_139 ?_
      refine j2_puti (k := 7) x hb dX6_line_140 jc_10 wfX6_218 (by decide) rfl rfl rfl rfl ?_
      refine j_bipush (v := 42) x dX6_line_143 (by decide) ?_
      refine j2_iasn x hb dX6_line_145 fa_99 (j := q) (vp_in_nI (by omega) (by decide)) (nI_clamp (by omega)) ?_
      refine j_goto (tgt := 175) x dX6_line_146 (by decide) ?_
      refine j_aload_n x dX6_line_175 rfl ?_
      refine j2_geti (k := 7) x hb dX6_line_176 jc_10 wfX6_218 (by decide) rfl ?_
      exact j_ireturn x hr dX6_line_179 (by omega) (by omega) ⟨_, _, rfl, rfl, gLn_w hln, q + 1, by omega, by rw [jm_n (by omega), jm_s, nI_1]⟩
