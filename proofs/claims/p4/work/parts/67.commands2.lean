/-! ===== the reference: commands, carried out ===== -/
theorem nI_q {t : Int32} {n : Nat} (hn : n ≤ 56) (h : ¬ t < 0 ∧ ¬ nI n - 1 < t) : ∃ q, q < n ∧ t = nI q := by
  cases n with
  | zero => exact absurd (show nI 0 - 1 < t from by
      have h1 := Int32.not_lt.mp h.1
      rw [Int32.le_iff_toInt_le] at h1
      rw [Int32.lt_iff_toInt_lt]
      have h2 : (nI 0 - 1).toInt = -1 := by decide
      have h3 : (0 : Int32).toInt = 0 := rfl
      omega) h.2
  | succ n =>
    rw [nI_pred] at h
    obtain ⟨q, h1, h2⟩ := nI_of2 (nI_toInt (show n < 2 ^ 31 by omega)) h.1 (Int32.not_lt.mp h.2)
    exact ⟨q, by omega, h2⟩
def gNo (M : MM) (t : Int32) (q : Option (Int32 × Int32)) : Option (Int32 × Int32) := if M 95 1 = 0 then some (5, 0) else if ¬ (¬ t < 0 ∧ ¬ M 95 9 - 1 < t) then some (3, t) else q
def gcref (M : MM) (n : Nat) (u v w z : Int32) : Option (Int32 × Int32) := if u = 109 then gNo M v (gRes M v.toNatClampNeg w z) else if u = 98 then gNo M v (gBack M v.toNatClampNeg) else if u = 111 then gNo M v (gPut M v.toNatClampNeg w) else if u = 110 then (if M 95 1 = 0 then some (5, 0) else gNext M n) else rRules v w z
def gcapp (M : MM) (n : Nat) (u v w z : Int32) : MM := if u = 109 then jm (gResS M v.toNatClampNeg w z) 94 18 (jsum (gLeft (gResS M v.toNatClampNeg w z)) n) else if u = 98 then jm (gBackS M v.toNatClampNeg) 94 18 (jsum (gLeft (gBackS M v.toNatClampNeg)) n) else if u = 111 then jm (gPutS M v.toNatClampNeg w) 94 18 (jsum (gCl (gPutS M v.toNatClampNeg w) v.toNatClampNeg (M 95 2 + w)) n) else if u = 110 then jm (jm M 95 2 (M 95 2 + 1)) 94 18 (M 95 2 + 1) else jm (jxR M v w z) 94 18 (jxR M v w z 95 5)
theorem cx_results_all {d : Nat} {b : SBt} {Y : OUt} {M : MM} (hb : 104 ≤ b.2.1) {t u v : Int32} {n : Nat} (hn : n ≤ 56) (hct : M 95 9 = nI n) (hz : M 95 1 = 0 ∨ ¬ M 95 1 ≤ 0) : CM (d + 3) 0 0 yX6_results cX6_results 4 (some .boolean) [.ref 94, .int t, .int u, .int v] b Y M (.inl (some (.int (gno (gNo M t (gRes M t.toNatClampNeg u v)))))) (gst M (gNo M t (gRes M t.toNatClampNeg u v)) (jm (gResS M t.toNatClampNeg u v) 94 18 (jsum (gLeft (gResS M t.toNatClampNeg u v)) n))) := by
  rcases hz with hz | hz
  · rw [show gNo M t (gRes M t.toNatClampNeg u v) = some (5, 0) from if_pos hz]
    exact cx_results_0 hb hz
  · have hz0 : ¬ M 95 1 = 0 := fun z => hz (by rw [z]; decide)
    by_cases hm : ¬ t < 0 ∧ ¬ M 95 9 - 1 < t
    · rw [show gNo M t (gRes M t.toNatClampNeg u v) = _ from by rw [gNo, if_neg hz0, if_neg (fun z => z hm)]]
      obtain ⟨q, hq, rfl⟩ := nI_q hn (by rw [← hct]; exact hm)
      rw [nI_clamp (by omega)]
      exact cx_results_q hb hz hn hct hq
    · rw [show gNo M t (gRes M t.toNatClampNeg u v) = some (3, t) from by rw [gNo, if_neg hz0, if_pos hm]]
      exact cx_results_nm hb hm hz
theorem cx_takesBack_all {d : Nat} {b : SBt} {Y : OUt} {M : MM} (hb : 104 ≤ b.2.1) {t : Int32} {n : Nat} (hn : n ≤ 56) (hct : M 95 9 = nI n) (hz : M 95 1 = 0 ∨ ¬ M 95 1 ≤ 0) : CM (d + 3) 0 0 yX6_takesBack cX6_takesBack 2 (some .boolean) [.ref 94, .int t] b Y M (.inl (some (.int (gno (gNo M t (gBack M t.toNatClampNeg)))))) (gst M (gNo M t (gBack M t.toNatClampNeg)) (jm (gBackS M t.toNatClampNeg) 94 18 (jsum (gLeft (gBackS M t.toNatClampNeg)) n))) := by
  rcases hz with hz | hz
  · rw [show gNo M t (gBack M t.toNatClampNeg) = some (5, 0) from if_pos hz]
    exact cx_takesBack_0 hb hz
  · have hz0 : ¬ M 95 1 = 0 := fun z => hz (by rw [z]; decide)
    by_cases hm : ¬ t < 0 ∧ ¬ M 95 9 - 1 < t
    · rw [show gNo M t (gBack M t.toNatClampNeg) = _ from by rw [gNo, if_neg hz0, if_neg (fun z => z hm)]]
      obtain ⟨q, hq, rfl⟩ := nI_q hn (by rw [← hct]; exact hm)
      rw [nI_clamp (by omega)]
      exact cx_takesBack_q hb hz hn hct hq
    · rw [show gNo M t (gBack M t.toNatClampNeg) = some (3, t) from by rw [gNo, if_neg hz0, if_pos hm]]
      exact cx_takesBack_nm hb hm hz
theorem cx_putsOff_all {d : Nat} {b : SBt} {Y : OUt} {M : MM} (hb : 104 ≤ b.2.1) {t u : Int32} {n : Nat} (hn : n ≤ 56) (hct : M 95 9 = nI n) (hz : M 95 1 = 0 ∨ ¬ M 95 1 ≤ 0) (hho : ∀ i, i < n → ∃ h, h < 8 ∧ jof M i 0 = nI h) : CM (d + 3) 0 0 yX6_putsOff cX6_putsOff 4 (some .boolean) [.ref 94, .int t, .int u] b Y M (.inl (some (.int (gno (gNo M t (gPut M t.toNatClampNeg u)))))) (gst M (gNo M t (gPut M t.toNatClampNeg u)) (jm (gPutS M t.toNatClampNeg u) 94 18 (jsum (gCl (gPutS M t.toNatClampNeg u) t.toNatClampNeg (M 95 2 + u)) n))) := by
  rcases hz with hz | hz
  · rw [show gNo M t (gPut M t.toNatClampNeg u) = some (5, 0) from if_pos hz]
    exact cx_putsOff_0 hb hz
  · have hz0 : ¬ M 95 1 = 0 := fun z => hz (by rw [z]; decide)
    by_cases hm : ¬ t < 0 ∧ ¬ M 95 9 - 1 < t
    · rw [show gNo M t (gPut M t.toNatClampNeg u) = _ from by rw [gNo, if_neg hz0, if_neg (fun z => z hm)]]
      obtain ⟨q, hq, rfl⟩ := nI_q hn (by rw [← hct]; exact hm)
      rw [nI_clamp (by omega)]
      exact cx_putsOff_q hb hz hn hct hq hho
    · rw [show gNo M t (gPut M t.toNatClampNeg u) = some (3, t) from by rw [gNo, if_neg hz0, if_pos hm]]
      exact cx_putsOff_nm hb hm hz
theorem cx_comesNext_all {d : Nat} {b : SBt} {Y : OUt} {M : MM} (hb : 104 ≤ b.2.1) {n : Nat} (hn : n ≤ 56) (hct : M 95 9 = nI n) (hz : M 95 1 = 0 ∨ ¬ M 95 1 ≤ 0) : CM (d + 3) 0 0 yX6_comesNext cX6_comesNext 2 (some .boolean) [.ref 94] b Y M (.inl (some (.int (gno (if M 95 1 = 0 then some (5, 0) else gNext M n))))) (gst M (if M 95 1 = 0 then some (5, 0) else gNext M n) (jm (jm M 95 2 (M 95 2 + 1)) 94 18 (M 95 2 + 1))) := by
  rcases hz with hz | hz
  · rw [if_pos hz]
    exact cx_comesNext_0 hb hz
  · rw [if_neg (fun z => hz (by rw [z]; decide))]
    exact cx_comesNext_d hb hz hn hct
theorem cx_takesRules_all {d : Nat} {b : SBt} {Y : OUt} {M : MM} (hb : 104 ≤ b.2.1) {t u v : Int32} : CM (d + 3) 0 0 yX6_takesRules cX6_takesRules 6 (some .boolean) [.ref 94, .int t, .int u, .int v] b Y M (.inl (some (.int (gno (rRules t u v))))) (gst M (rRules t u v) (jm (jxR M t u v) 94 18 (jxR M t u v 95 5))) := by
  have h := cx_takesRules (d := d + 2) (Y := Y) (M := M) hb (t := t) (u := u) (v := v)
  revert h
  cases rRules t u v with
  | none => exact fun h => h
  | some z => exact fun h => h
theorem cx_carries_109 {d : Nat} {b : SBt} {Y : OUt} {M : MM} (hb : 104 ≤ b.2.1) {n : Nat} (hn : n ≤ 56) (hct : M 95 9 = nI n) (hz : M 95 1 = 0 ∨ ¬ M 95 1 ≤ 0) (hho : ∀ i, i < n → ∃ h, h < 8 ∧ jof M i 0 = nI h) (hL : M 94 11 = 109) : CM (d + 4) 0 0 yX6_carries cX6_carries 1 (some .boolean) [.ref 94] b Y M (.inl (some (.int (gno (gNo M (M 101 0) (gRes M (M 101 0).toNatClampNeg (M 101 1) (M 101 2))))))) (gst M (gNo M (M 101 0) (gRes M (M 101 0).toNatClampNeg (M 101 1) (M 101 2))) (jm (gResS M (M 101 0).toNatClampNeg (M 101 1) (M 101 2)) 94 18 (jsum (gLeft (gResS M (M 101 0).toNatClampNeg (M 101 1) (M 101 2))) n))) := by
  refine Con.of (by decide +kernel) (Nat.le_of_ble_eq_true rfl) rfl fun p l e s m args below meth c D tyc A ad0 x hr htab hname => ?_
  change JJ _ _ _ _ _ _ _ _ _ _ _ _ _ _ _ _ _ 0 [some (.ref 94)] [] _ 0 0
  refine j_aload_n x dX6_carries_0 rfl ?_
  refine j2_geti (k := 11) x hb dX6_carries_1 jc_10 wfX6_191 (by decide) rfl ?_; rw [hL]
  refine j_lookup (off := 44) (tgt := 48) x dX6_carries_4 (by decide) (by decide) (by decide) ?_
  refine j_aload_n x dX6_carries_48 rfl ?_
  refine j_aload_n x dX6_carries_49 rfl ?_
  refine j2_getr (k := 12) (r := 101) x hb dX6_carries_50 jc_10 wfX6_29 (by decide) rfl ?_
  refine j_iconst (v := 0) x dX6_carries_53 (by decide) ?_
  refine j2_ialn x hb dX6_carries_54 fa_101 (j := 0) (vp_c (by decide)) (by decide) ?_
  refine j_aload_n x dX6_carries_55 rfl ?_
  refine j2_getr (k := 12) (r := 101) x hb dX6_carries_56 jc_10 wfX6_29 (by decide) rfl ?_
  refine j_iconst (v := 1) x dX6_carries_59 (by decide) ?_
  refine j2_ialn x hb dX6_carries_60 fa_101 (j := 1) (vp_c (by decide)) (by decide) ?_
  refine j_aload_n x dX6_carries_61 rfl ?_
  refine j2_getr (k := 12) (r := 101) x hb dX6_carries_62 jc_10 wfX6_29 (by decide) rfl ?_
  refine j_iconst (v := 2) x dX6_carries_65 (by decide) ?_
  refine j2_ialn x hb dX6_carries_66 fa_101 (j := 2) (vp_c (by decide)) (by decide) ?_
  refine j2_callVi x hb dX6_carries_67 m_X6_results (cx_results_all (d := d) hb hn hct hz) wmX6_128 jc_10 rfl rfl rfl (Nat.le_of_ble_eq_true rfl) (j_fit_rm (by omega) (by omega) (by omega)) rfl ?_
  exact j_zreturn x hr dX6_carries_70 (by first | decide | with_reducible exact jb_nar | with_reducible exact jisS_nar | with_reducible exact gno_nar) (by omega) (by omega) ⟨rfl, rfl⟩
theorem cx_carries_98 {d : Nat} {b : SBt} {Y : OUt} {M : MM} (hb : 104 ≤ b.2.1) {n : Nat} (hn : n ≤ 56) (hct : M 95 9 = nI n) (hz : M 95 1 = 0 ∨ ¬ M 95 1 ≤ 0) (hho : ∀ i, i < n → ∃ h, h < 8 ∧ jof M i 0 = nI h) (hL : M 94 11 = 98) : CM (d + 4) 0 0 yX6_carries cX6_carries 1 (some .boolean) [.ref 94] b Y M (.inl (some (.int (gno (gNo M (M 101 0) (gBack M (M 101 0).toNatClampNeg)))))) (gst M (gNo M (M 101 0) (gBack M (M 101 0).toNatClampNeg)) (jm (gBackS M (M 101 0).toNatClampNeg) 94 18 (jsum (gLeft (gBackS M (M 101 0).toNatClampNeg)) n))) := by
  refine Con.of (by decide +kernel) (Nat.le_of_ble_eq_true rfl) rfl fun p l e s m args below meth c D tyc A ad0 x hr htab hname => ?_
  change JJ _ _ _ _ _ _ _ _ _ _ _ _ _ _ _ _ _ 0 [some (.ref 94)] [] _ 0 0
  refine j_aload_n x dX6_carries_0 rfl ?_
  refine j2_geti (k := 11) x hb dX6_carries_1 jc_10 wfX6_191 (by decide) rfl ?_; rw [hL]
  refine j_lookup (off := 67) (tgt := 71) x dX6_carries_4 (by decide) (by decide) (by decide) ?_
  refine j_aload_n x dX6_carries_71 rfl ?_
  refine j_aload_n x dX6_carries_72 rfl ?_
  refine j2_getr (k := 12) (r := 101) x hb dX6_carries_73 jc_10 wfX6_29 (by decide) rfl ?_
  refine j_iconst (v := 0) x dX6_carries_76 (by decide) ?_
  refine j2_ialn x hb dX6_carries_77 fa_101 (j := 0) (vp_c (by decide)) (by decide) ?_
  refine j2_callVi x hb dX6_carries_78 m_X6_takesBack (cx_takesBack_all (d := d) hb hn hct hz) wmX6_134 jc_10 rfl rfl rfl (Nat.le_of_ble_eq_true rfl) (j_fit_rm (by omega) (by omega) (by omega)) rfl ?_
  exact j_zreturn x hr dX6_carries_81 (by first | decide | with_reducible exact jb_nar | with_reducible exact jisS_nar | with_reducible exact gno_nar) (by omega) (by omega) ⟨rfl, rfl⟩
theorem cx_carries_111 {d : Nat} {b : SBt} {Y : OUt} {M : MM} (hb : 104 ≤ b.2.1) {n : Nat} (hn : n ≤ 56) (hct : M 95 9 = nI n) (hz : M 95 1 = 0 ∨ ¬ M 95 1 ≤ 0) (hho : ∀ i, i < n → ∃ h, h < 8 ∧ jof M i 0 = nI h) (hL : M 94 11 = 111) : CM (d + 4) 0 0 yX6_carries cX6_carries 1 (some .boolean) [.ref 94] b Y M (.inl (some (.int (gno (gNo M (M 101 0) (gPut M (M 101 0).toNatClampNeg (M 101 1))))))) (gst M (gNo M (M 101 0) (gPut M (M 101 0).toNatClampNeg (M 101 1))) (jm (gPutS M (M 101 0).toNatClampNeg (M 101 1)) 94 18 (jsum (gCl (gPutS M (M 101 0).toNatClampNeg (M 101 1)) (M 101 0).toNatClampNeg (M 95 2 + M 101 1)) n))) := by
  refine Con.of (by decide +kernel) (Nat.le_of_ble_eq_true rfl) rfl fun p l e s m args below meth c D tyc A ad0 x hr htab hname => ?_
  change JJ _ _ _ _ _ _ _ _ _ _ _ _ _ _ _ _ _ 0 [some (.ref 94)] [] _ 0 0
  refine j_aload_n x dX6_carries_0 rfl ?_
  refine j2_geti (k := 11) x hb dX6_carries_1 jc_10 wfX6_191 (by decide) rfl ?_; rw [hL]
  refine j_lookup (off := 78) (tgt := 82) x dX6_carries_4 (by decide) (by decide) (by decide) ?_
  refine j_aload_n x dX6_carries_82 rfl ?_
  refine j_aload_n x dX6_carries_83 rfl ?_
  refine j2_getr (k := 12) (r := 101) x hb dX6_carries_84 jc_10 wfX6_29 (by decide) rfl ?_
  refine j_iconst (v := 0) x dX6_carries_87 (by decide) ?_
  refine j2_ialn x hb dX6_carries_88 fa_101 (j := 0) (vp_c (by decide)) (by decide) ?_
  refine j_aload_n x dX6_carries_89 rfl ?_
  refine j2_getr (k := 12) (r := 101) x hb dX6_carries_90 jc_10 wfX6_29 (by decide) rfl ?_
  refine j_iconst (v := 1) x dX6_carries_93 (by decide) ?_
  refine j2_ialn x hb dX6_carries_94 fa_101 (j := 1) (vp_c (by decide)) (by decide) ?_
  refine j2_callVi x hb dX6_carries_95 m_X6_putsOff (cx_putsOff_all (d := d) hb hn hct hz hho) wmX6_146 jc_10 rfl rfl rfl (Nat.le_of_ble_eq_true rfl) (j_fit_rm (by omega) (by omega) (by omega)) rfl ?_
  exact j_zreturn x hr dX6_carries_98 (by first | decide | with_reducible exact jb_nar | with_reducible exact jisS_nar | with_reducible exact gno_nar) (by omega) (by omega) ⟨rfl, rfl⟩
theorem cx_carries_110 {d : Nat} {b : SBt} {Y : OUt} {M : MM} (hb : 104 ≤ b.2.1) {n : Nat} (hn : n ≤ 56) (hct : M 95 9 = nI n) (hz : M 95 1 = 0 ∨ ¬ M 95 1 ≤ 0) (hho : ∀ i, i < n → ∃ h, h < 8 ∧ jof M i 0 = nI h) (hL : M 94 11 = 110) : CM (d + 4) 0 0 yX6_carries cX6_carries 1 (some .boolean) [.ref 94] b Y M (.inl (some (.int (gno (if M 95 1 = 0 then some (5, 0) else gNext M n))))) (gst M (if M 95 1 = 0 then some (5, 0) else gNext M n) (jm (jm M 95 2 (M 95 2 + 1)) 94 18 (M 95 2 + 1))) := by
  refine Con.of (by decide +kernel) (Nat.le_of_ble_eq_true rfl) rfl fun p l e s m args below meth c D tyc A ad0 x hr htab hname => ?_
  change JJ _ _ _ _ _ _ _ _ _ _ _ _ _ _ _ _ _ 0 [some (.ref 94)] [] _ 0 0
  refine j_aload_n x dX6_carries_0 rfl ?_
  refine j2_geti (k := 11) x hb dX6_carries_1 jc_10 wfX6_191 (by decide) rfl ?_; rw [hL]
  refine j_lookup (off := 95) (tgt := 99) x dX6_carries_4 (by decide) (by decide) (by decide) ?_
  refine j_aload_n x dX6_carries_99 rfl ?_
  refine j2_callVi x hb dX6_carries_100 m_X6_comesNext (cx_comesNext_all (d := d) hb hn hct hz) wmX6_149 jc_10 rfl rfl rfl (Nat.le_of_ble_eq_true rfl) (j_fit_rm (by omega) (by omega) (by omega)) rfl ?_
  exact j_zreturn x hr dX6_carries_103 (by first | decide | with_reducible exact jb_nar | with_reducible exact jisS_nar | with_reducible exact gno_nar) (by omega) (by omega) ⟨rfl, rfl⟩
theorem cx_carries_116 {d : Nat} {b : SBt} {Y : OUt} {M : MM} (hb : 104 ≤ b.2.1) {n : Nat} (hn : n ≤ 56) (hct : M 95 9 = nI n) (hz : M 95 1 = 0 ∨ ¬ M 95 1 ≤ 0) (hho : ∀ i, i < n → ∃ h, h < 8 ∧ jof M i 0 = nI h) (hL : M 94 11 = 116) : CM (d + 4) 0 0 yX6_carries cX6_carries 1 (some .boolean) [.ref 94] b Y M (.inl (some (.int (gno (rRules (M 101 0) (M 101 1) (M 101 2)))))) (gst M (rRules (M 101 0) (M 101 1) (M 101 2)) (jm (jxR M (M 101 0) (M 101 1) (M 101 2)) 94 18 (jxR M (M 101 0) (M 101 1) (M 101 2) 95 5))) := by
  refine Con.of (by decide +kernel) (Nat.le_of_ble_eq_true rfl) rfl fun p l e s m args below meth c D tyc A ad0 x hr htab hname => ?_
  change JJ _ _ _ _ _ _ _ _ _ _ _ _ _ _ _ _ _ 0 [some (.ref 94)] [] _ 0 0
  refine j_aload_n x dX6_carries_0 rfl ?_
  refine j2_geti (k := 11) x hb dX6_carries_1 jc_10 wfX6_191 (by decide) rfl ?_; rw [hL]
  refine j_lookup (off := 100) (tgt := 104) x dX6_carries_4 (by decide) (by decide) (by decide) ?_
  refine j_aload_n x dX6_carries_104 rfl ?_
  refine j_aload_n x dX6_carries_105 rfl ?_
  refine j2_getr (k := 12) (r := 101) x hb dX6_carries_106 jc_10 wfX6_29 (by decide) rfl ?_
  refine j_iconst (v := 0) x dX6_carries_109 (by decide) ?_
  refine j2_ialn x hb dX6_carries_110 fa_101 (j := 0) (vp_c (by decide)) (by decide) ?_
  refine j_aload_n x dX6_carries_111 rfl ?_
  refine j2_getr (k := 12) (r := 101) x hb dX6_carries_112 jc_10 wfX6_29 (by decide) rfl ?_
  refine j_iconst (v := 1) x dX6_carries_115 (by decide) ?_
  refine j2_ialn x hb dX6_carries_116 fa_101 (j := 1) (vp_c (by decide)) (by decide) ?_
  refine j_aload_n x dX6_carries_117 rfl ?_
  refine j2_getr (k := 12) (r := 101) x hb dX6_carries_118 jc_10 wfX6_29 (by decide) rfl ?_
  refine j_iconst (v := 2) x dX6_carries_121 (by decide) ?_
  refine j2_ialn x hb dX6_carries_122 fa_101 (j := 2) (vp_c (by decide)) (by decide) ?_
  refine j2_callVi x hb dX6_carries_123 m_X6_takesRules (cx_takesRules_all (d := d) hb) wmX6_119 jc_10 rfl rfl rfl (Nat.le_of_ble_eq_true rfl) (j_fit_rm (by omega) (by omega) (by omega)) rfl ?_
  exact j_zreturn x hr dX6_carries_126 (by first | decide | with_reducible exact jb_nar | with_reducible exact jisS_nar | with_reducible exact gno_nar) (by omega) (by omega) ⟨rfl, rfl⟩
theorem cx_carries {d : Nat} {b : SBt} {Y : OUt} {M : MM} (hb : 104 ≤ b.2.1) {n : Nat} (hn : n ≤ 56) (hct : M 95 9 = nI n) (hz : M 95 1 = 0 ∨ ¬ M 95 1 ≤ 0) (hho : ∀ i, i < n → ∃ h, h < 8 ∧ jof M i 0 = nI h) (hl : isLet (M 94 11)) : CM (d + 4) 0 0 yX6_carries cX6_carries 1 (some .boolean) [.ref 94] b Y M (.inl (some (.int (gno (gcref M n (M 94 11) (M 101 0) (M 101 1) (M 101 2)))))) (gst M (gcref M n (M 94 11) (M 101 0) (M 101 1) (M 101 2)) (gcapp M n (M 94 11) (M 101 0) (M 101 1) (M 101 2))) := by
  rcases hl with hL | hL | hL | hL | hL
  · rw [hL, gcapp, if_pos rfl, gcref, if_pos rfl]
    exact cx_carries_109 hb hn hct hz hho hL
  · rw [hL, gcapp, if_neg (by decide), if_pos rfl, gcref, if_neg (by decide), if_pos rfl]
    exact cx_carries_98 hb hn hct hz hho hL
  · rw [hL, gcapp, if_neg (by decide), if_neg (by decide), if_pos rfl, gcref, if_neg (by decide), if_neg (by decide), if_pos rfl]
    exact cx_carries_111 hb hn hct hz hho hL
  · rw [hL, gcapp, if_neg (by decide), if_neg (by decide), if_neg (by decide), if_pos rfl, gcref, if_neg (by decide), if_neg (by decide), if_neg (by decide), if_pos rfl]
    exact cx_carries_110 hb hn hct hz hho hL
  · rw [hL, gcapp, if_neg (by decide), if_neg (by decide), if_neg (by decide), if_neg (by decide), gcref, if_neg (by decide), if_neg (by decide), if_neg (by decide), if_neg (by decide)]
    exact cx_carries_116 hb hn hct hz hho hL
theorem CM_gs {d mc ms : Nat} {y : MethodName} {cc : ByteArray} {maxL : Nat} {ret : Option FieldType} {as : List Value} {b : SBt} {Y : OUt} {M S : MM} {q : Option (Int32 × Int32)} {r t : Int32} (C : CM d mc ms y cc maxL ret as b Y M (.inl (some (.int (gno q)))) (gst M q S)) (h : q = some (r, t)) : CM d mc ms y cc maxL ret as b Y M (.inl (some (.int 0))) (jrefu M r t) := by
  subst h
  exact C
theorem CM_gn {d mc ms : Nat} {y : MethodName} {cc : ByteArray} {maxL : Nat} {ret : Option FieldType} {as : List Value} {b : SBt} {Y : OUt} {M S : MM} {q : Option (Int32 × Int32)} (C : CM d mc ms y cc maxL ret as b Y M (.inl (some (.int (gno q)))) (gst M q S)) (h : q = none) : CM d mc ms y cc maxL ret as b Y M (.inl (some (.int 1))) S := by
  subst h
  exact C
theorem jxr_n {M : MM} {t : Int32} {c1 : Nat} (h : c5 c1 M) (hc : c1 ≤ 2) {i k : Nat} (hk : i ≠ 95 ∨ k < 5 ∨ 8 < k) : jxr M t i k = M i k := by
  obtain ⟨c, h1, h2⟩ := h
  unfold jxr
  split
  · rfl
  · rw [h2, nI_clamp (by omega), jm_n (by omega), jm_n (by omega)]
theorem jxR_n {M : MM} {t u v : Int32} {i k : Nat} (hk : i ≠ 95 ∨ k < 5 ∨ 8 < k) : jxR M t u v i k = M i k := by
  rw [jxR, jxr_n (c5_s (c5_s c5_0)) (by decide) hk, jxr_n (c5_s c5_0) (by decide) hk, jxr_n c5_0 (by decide) hk, jm_n (by omega)]
theorem jsets_m {M : MM} {m1 w1 i k : Nat} {v : Int32} (hw : 0 < w1 ∧ w1 < 8) (h : i ≠ 95 ∨ k < 18 ∨ (k - 18) % 8 = 0) : jsets M m1 w1 v i k = M i k := by
  rw [jsets, jm_n]
  omega
theorem gcapp_n {M : MM} {n : Nat} {u v w z : Int32} {i k : Nat} (h : (i ≠ 95 ∧ (i ≠ 94 ∨ k ≠ 18)) ∨ (i = 95 ∧ k ≠ 2 ∧ (k < 5 ∨ 8 < k) ∧ (k < 18 ∨ (k - 18) % 8 = 0))) : gcapp M n u v w z i k = M i k := by
  have h9 : ¬ (i = 94 ∧ k = 18) := by omega
  unfold gcapp
  split
  · rw [jm_n h9, gResS, jsets_m (by omega) (by omega), jsets_m (by omega) (by omega), jsets_m (by omega) (by omega)]
  · split
    · rw [jm_n h9, gBackS, jsets_m (by omega) (by omega), jsets_m (by omega) (by omega), jsets_m (by omega) (by omega)]
    · split
      · rw [jm_n h9, gPutS, jsets_m (by omega) (by omega), jsets_m (by omega) (by omega)]
      · split
        · rw [jm_n h9, jm_n (by omega)]
        · rw [jm_n h9, jxR_n (by omega)]
theorem pF_let {T : Nat → Int32} {n a : Nat} (h : pF T n a = none) : isLet (tsg T n a) := by
  unfold pF at h
  by_cases h1 : tsg T n a = 109
  · exact Or.inl h1
  · by_cases h2 : tsg T n a = 98
    · exact Or.inr (Or.inl h2)
    · by_cases h3 : tsg T n a = 111
      · exact Or.inr (Or.inr (Or.inl h3))
      · by_cases h4 : tsg T n a = 110
        · exact Or.inr (Or.inr (Or.inr (Or.inl h4)))
        · by_cases h5 : tsg T n a = 116
          · exact Or.inr (Or.inr (Or.inr (Or.inr h5)))
          · rw [if_neg h1, if_neg h2, if_neg h3, if_neg h4, if_neg h5] at h; cases h
/-- the first reading -/
def gpa (M : MM) (n : Nat) : Nat → MM
  | 0 => jm M 94 10 0
  | i + 1 => jm (gcm (gpa M n i) n (ppo (M 100) n i)) 94 10 (nI (ppo (M 100) n (i + 1)))
def gce (M : MM) (n i : Nat) : MM := gcm (gpa M n i) n (ppo (M 100) n i)
theorem gpa_like {M : MM} {n : Nat} : ∀ i, gLike M (gpa M n i)
  | 0 => fun i k h1 h2 => jm_n (by omega)
  | j + 1 => fun i k h1 h2 => by rw [gpa, jm_n (by omega), gcm_like i k h1 h2]; exact gpa_like j i k h1 h2
theorem gpa_t {M : MM} {n i : Nat} : gpa M n i 100 = M 100 := funext fun k => gpa_like i 100 k (by omega) (by omega)
theorem gpa_p {M : MM} {n : Nat} : ∀ i, gpa M n i 94 10 = nI (ppo (M 100) n i)
  | 0 => jm_s
  | _ + 1 => jm_s
theorem gce_like {M : MM} {n i : Nat} : gLike M (gce M n i) := fun j k h1 h2 => by rw [gce, gcm_like j k h1 h2]; exact gpa_like i j k h1 h2
theorem gce_t {M : MM} {n i : Nat} : gce M n i 100 = M 100 := funext fun k => gce_like 100 k (by omega) (by omega)
theorem gce_p {M : MM} {n i : Nat} : gce M n i 94 10 = nI (pN (M 100) n (ppo (M 100) n i)) := by rw [gce, gcm_p, gpa_t]
theorem cx_first_ok {d : Nat} {b : SBt} {Y : OUt} {M : MM} (hb : 104 ≤ b.2.1) {n i : Nat} (hn : n ≤ 60) (h9 : M 94 9 = nI n) (hp : ppo (M 100) n i ≤ n) (hF : pF (M 100) n (ppo (M 100) n i) = none) : CM (d + 2) 0 0 yX6_isCommand cX6_isCommand 1 (some .boolean) [.ref 94] b Y (gpa M n i) (.inl (some (.int 1))) (gce M n i) :=
  cx_cmd_ok hb hn ((gpa_like i 94 9 (by omega) (by omega)).trans h9) (gpa_p i) hp (by rw [gpa_t]; exact hF)
theorem cx_first_no {d : Nat} {b : SBt} {Y : OUt} {M : MM} (hb : 104 ≤ b.2.1) {n i q : Nat} (hn : n ≤ 60) (h9 : M 94 9 = nI n) (hp : ppo (M 100) n i ≤ n) (hch : ∀ i, i < n → ∃ q, q < 65536 ∧ M 100 i = nI q) (hF : pF (M 100) n (ppo (M 100) n i) = some q) : ∃ N, gLike M N ∧ N 94 10 = nI q ∧ CM (d + 2) 0 0 yX6_isCommand cX6_isCommand 1 (some .boolean) [.ref 94] b Y (gpa M n i) (.inl (some (.int 0))) N := by
  obtain ⟨N, h1, h2, h3⟩ := cx_cmd_no (d := d) (Y := Y) (M := gpa M n i) hb hn ((gpa_like i 94 9 (by omega) (by omega)).trans h9) (gpa_p i) hp (by rw [gpa_t]; exact hch) (by rw [gpa_t]; exact hF)
  exact ⟨N, fun j k z1 z2 => (h1 j k z1 z2).trans (gpa_like i j k z1 z2), h2, h3⟩
/-- the carrying out, from the store M in which at is 0 -/
def gse (M : MM) (n ct : Nat) : Nat → MM
  | 0 => M
  | j + 1 => jm (gcapp (jm (gcm (gse M n ct j) n (ppo (M 100) n j)) 94 16 (nI j)) ct (gcm (gse M n ct j) n (ppo (M 100) n j) 94 11) (gcm (gse M n ct j) n (ppo (M 100) n j) 101 0) (gcm (gse M n ct j) n (ppo (M 100) n j) 101 1) (gcm (gse M n ct j) n (ppo (M 100) n j) 101 2)) 94 10 (nI (ppo (M 100) n (j + 1)))
def gqp (M : MM) (n ct j : Nat) : MM := jm (gcm (gse M n ct j) n (ppo (M 100) n j)) 94 16 (nI j)
def gcR (M : MM) (n ct j : Nat) : Option (Int32 × Int32) := gcref (gqp M n ct j) ct (gqp M n ct j 94 11) (gqp M n ct j 101 0) (gqp M n ct j 101 1) (gqp M n ct j 101 2)
def gcS (M : MM) (n ct j : Nat) : MM := gcapp (gqp M n ct j) ct (gqp M n ct j 94 11) (gqp M n ct j 101 0) (gqp M n ct j 101 1) (gqp M n ct j 101 2)
theorem gse_s {M : MM} {n ct j : Nat} : gse M n ct (j + 1) = jm (gcS M n ct j) 94 10 (nI (ppo (M 100) n (j + 1))) := by
  have e : ∀ i k, ¬ (i = 94 ∧ k = 16) → gqp M n ct j i k = gcm (gse M n ct j) n (ppo (M 100) n j) i k := fun i k h => jm_n h
  rw [gse, gcS, e 94 11 (by omega), e 101 0 (by omega), e 101 1 (by omega), e 101 2 (by omega)]
  rfl
/-- what the carrying out leaves -/
def gKeep (i k : Nat) : Prop := (i ≠ 95 ∧ i ≠ 94 ∧ i ≠ 101) ∨ (i = 94 ∧ k ≠ 10 ∧ k ≠ 11 ∧ k ≠ 16 ∧ k ≠ 18) ∨ (i = 95 ∧ k ≠ 2 ∧ (k < 5 ∨ 8 < k) ∧ (k < 18 ∨ (k - 18) % 8 = 0))
theorem gse_n {M : MM} {n ct i k : Nat} (h : gKeep i k) : ∀ j, gse M n ct j i k = M i k
  | 0 => rfl
  | j + 1 => by
    unfold gKeep at h
    rw [gse_s, jm_n (by omega), gcS, gcapp_n (by omega), gqp, jm_n (by omega), gcm_like i k (by omega) (by omega)]
    exact gse_n (by unfold gKeep; exact h) j
theorem gse_t {M : MM} {n ct j : Nat} : gse M n ct j 100 = M 100 := funext fun k => gse_n (Or.inl (by omega)) j
theorem gse_p {M : MM} {n ct : Nat} (h0 : M 94 10 = 0) : ∀ j, gse M n ct j 94 10 = nI (ppo (M 100) n j)
  | 0 => h0
  | _ + 1 => jm_s
theorem gqp_n {M : MM} {n ct j i k : Nat} (h : gKeep i k) : gqp M n ct j i k = M i k := by
  have h0 := h
  unfold gKeep at h
  rw [gqp, jm_n (by omega), gcm_like i k (by omega) (by omega)]
  exact gse_n h0 j
theorem gqp_t {M : MM} {n ct j : Nat} : gqp M n ct j 100 = M 100 := funext fun k => gqp_n (Or.inl (by omega))
theorem gqp_p {M : MM} {n ct j : Nat} : gqp M n ct j 94 10 = nI (pN (M 100) n (ppo (M 100) n j)) := by rw [gqp, jm_n (by omega), gcm_p, gse_t]
theorem gqp_o {M : MM} {n ct j : Nat} : gqp M n ct j 94 11 = tsg (M 100) n (ppo (M 100) n j) := by rw [gqp, jm_n (by omega), gcm_o, gse_t]
theorem gcS_n {M : MM} {n ct j i k : Nat} (h : gKeep i k) : gcS M n ct j i k = M i k := by
  have h0 := h
  unfold gKeep at h
  rw [gcS, gcapp_n (by omega), gqp_n h0]
theorem gcS_t {M : MM} {n ct j : Nat} : gcS M n ct j 100 = M 100 := funext fun k => gcS_n (Or.inl (by omega))
theorem gcS_p {M : MM} {n ct j : Nat} : gcS M n ct j 94 10 = nI (pN (M 100) n (ppo (M 100) n j)) := by rw [gcS, gcapp_n (by omega), gqp_p]
theorem cx_sec_ok {d : Nat} {b : SBt} {Y : OUt} {M : MM} (hb : 104 ≤ b.2.1) {n ct i : Nat} (hn : n ≤ 60) (h9 : M 94 9 = nI n) (h0 : M 94 10 = 0) (hp : ppo (M 100) n i ≤ n) (hF : pF (M 100) n (ppo (M 100) n i) = none) : CM (d + 2) 0 0 yX6_isCommand cX6_isCommand 1 (some .boolean) [.ref 94] b Y (gse M n ct i) (.inl (some (.int 1))) (gcm (gse M n ct i) n (ppo (M 100) n i)) :=
  cx_cmd_ok hb hn ((gse_n (Or.inr (Or.inl (by omega))) i).trans h9) (gse_p h0 i) hp (by rw [gse_t]; exact hF)
theorem cx_sec_car {d : Nat} {b : SBt} {Y : OUt} {M : MM} (hb : 104 ≤ b.2.1) {n ct i : Nat} (hc56 : ct ≤ 56) (hct : M 95 9 = nI ct) (hz : M 95 1 = 0 ∨ ¬ M 95 1 ≤ 0) (hho : ∀ i, i < ct → ∃ h, h < 8 ∧ jof M i 0 = nI h) (hF : pF (M 100) n (ppo (M 100) n i) = none) : CM (d + 4) 0 0 yX6_carries cX6_carries 1 (some .boolean) [.ref 94] b Y (gqp M n ct i) (.inl (some (.int (gno (gcR M n ct i))))) (gst (gqp M n ct i) (gcR M n ct i) (gcS M n ct i)) :=
  cx_carries hb hc56 ((gqp_n (Or.inr (Or.inr (by omega)))).trans hct) (by rw [gqp_n (Or.inr (Or.inr (by omega)))]; exact hz) (fun j hj => by rw [jof, gqp_n (Or.inr (Or.inr (by omega)))]; exact hho j hj) (by rw [gqp_o]; exact pF_let hF)
theorem jtr_m {M : MM} {i k : Nat} (h : i ≠ 96 ∧ ¬ (i = 94 ∧ (k = 19 ∨ k = 16))) : jtr M i k = M i k := by
  rw [jtr, jcp_n (by omega), jm_n (by omega), jm_n (by omega)]
theorem cx_commands_A0 {d : Nat} {b : SBt} {Y : OUt} {M : MM} (hb : 104 ≤ b.2.1) {N : MM} {n : Nat} (hn : n ≤ 60) (h9 : M 94 9 = nI n) (C : CM (d + 4) 0 0 yX6_isCommand cX6_isCommand 1 (some .boolean) [.ref 94] b Y (gpa (jtr M) n 0) (.inl (some (.int 0))) N) : CM (d + 5) 0 0 yX6_commands cX6_commands 4 (some .int) [.ref 94] b Y M (.inl (some (.int (0)))) (jrai (jm (jm N 94 13 (N 94 10)) 94 9 0) 1) := by
  have h9 : jtr M 94 9 = nI n := (jtr_m (by omega)).trans h9
  refine Con.of (by decide +kernel) (Nat.le_of_ble_eq_true rfl) rfl fun p l e s m args below meth c D tyc A ad0 x hr htab hname => ?_
  change JJ _ _ _ _ _ _ _ _ _ _ _ _ _ _ _ _ _ 0 [some (.ref 94), none, none, none] [] _ 0 0
  refine j_aload_n x dX6_commands_0 rfl ?_
  refine j2_callVv x hb dX6_commands_1 m_X6_tries (cx_tries (d := d) hb) wmX6_76 jc_10 rfl rfl rfl (Nat.le_of_ble_eq_true rfl) (j_fit_rm (by omega) (by omega) (by omega)) rfl ?_
  refine j_aload_n x dX6_commands_4 rfl ?_
  refine j_iconst (v := 0) x dX6_commands_5 (by decide) ?_
  refine j2_puti (k := 10) x hb dX6_commands_6 jc_10 wfX6_188 (by decide) rfl rfl rfl rfl ?_; change JJ _ _ _ _ _ _ _ _ _ _ _ _ _ _ _ _ _ _ _ _ (HH _ _ (gpa (jtr M) n 0)) _ _
  refine j_aload_n x dX6_commands_9 rfl ?_
  refine j2_callVi x hb dX6_commands_10 m_X6_isCommand C wmX6_205 jc_10 rfl rfl rfl (Nat.le_of_ble_eq_true rfl) (j_fit_rm (by omega) (by omega) (by omega)) rfl ?_
  refine j_istore_n x dX6_commands_13 (by decide) rfl ?_
  refine j_iload_n x dX6_commands_14 rfl ?_
  refine j_if_eq (tgt := 54) x dX6_commands_15 (by decide) (fun hc => ?_) (fun hc => absurd (rfl) hc)
  refine j_aload_n x dX6_commands_54 rfl ?_
  refine j_iload_n x dX6_commands_55 rfl ?_
  refine j_if_eq (tgt := 63) x dX6_commands_56 (by decide) (fun hc => ?_) (fun hc => absurd (rfl) hc)
  refine j_aload_n x dX6_commands_63 rfl ?_
  refine j2_geti (k := 10) x hb dX6_commands_64 jc_10 wfX6_188 (by decide) rfl ?_
  refine j2_puti (k := 13) x hb dX6_commands_67 jc_10 wfX6_32 (by decide) rfl rfl rfl rfl ?_
  refine j_iload_n x dX6_commands_70 rfl ?_
  refine j_if_ne (tgt := 85) x dX6_commands_71 (by decide) (fun hc => absurd hc (fun q => q rfl)) (fun hc => ?_)
  refine j_aload_n x dX6_commands_74 rfl ?_
  refine j_iconst (v := 0) x dX6_commands_75 (by decide) ?_
  refine j2_puti (k := 9) x hb dX6_commands_76 jc_10 wfX6_185 (by decide) rfl rfl rfl rfl ?_
  refine j_aload_n x dX6_commands_79 rfl ?_
  refine j_iconst (v := 1) x dX6_commands_80 (by decide) ?_
  refine j2_callVi x hb dX6_commands_81 m_X6_raises (cx_raises (d := d) hb) wmX6_61 jc_10 rfl rfl rfl (Nat.le_of_ble_eq_true rfl) (j_fit_rm (by omega) (by omega) (by omega)) rfl ?_
  exact j_ireturn x hr dX6_commands_84 (by omega) (by omega) ⟨rfl, rfl⟩
theorem cx_commands_A {d : Nat} {b : SBt} {Y : OUt} {M : MM} (hb : 104 ≤ b.2.1) {N : MM} {n : Nat} (hn : n ≤ 60) (h9 : M 94 9 = nI n) {i : Nat} (hg : ∀ j, j < i + 1 → pgo (jtr M 100) n j) (hok : ∀ j, j < i + 1 → pF (jtr M 100) n (ppo (jtr M 100) n j) = none) (C : CM (d + 4) 0 0 yX6_isCommand cX6_isCommand 1 (some .boolean) [.ref 94] b Y (gpa (jtr M) n (i + 1)) (.inl (some (.int 0))) N) : CM (d + 5) 0 0 yX6_commands cX6_commands 4 (some .int) [.ref 94] b Y M (.inl (some (.int (0)))) (jrai (jm (jm N 94 13 (N 94 10)) 94 9 0) 1) := by
  have h9 : jtr M 94 9 = nI n := (jtr_m (by omega)).trans h9
  refine Con.of (by decide +kernel) (Nat.le_of_ble_eq_true rfl) rfl fun p l e s m args below meth c D tyc A ad0 x hr htab hname => ?_
  change JJ _ _ _ _ _ _ _ _ _ _ _ _ _ _ _ _ _ 0 [some (.ref 94), none, none, none] [] _ 0 0
  refine j_aload_n x dX6_commands_0 rfl ?_
  refine j2_callVv x hb dX6_commands_1 m_X6_tries (cx_tries (d := d) hb) wmX6_76 jc_10 rfl rfl rfl (Nat.le_of_ble_eq_true rfl) (j_fit_rm (by omega) (by omega) (by omega)) rfl ?_
  refine j_aload_n x dX6_commands_4 rfl ?_
  refine j_iconst (v := 0) x dX6_commands_5 (by decide) ?_
  refine j2_puti (k := 10) x hb dX6_commands_6 jc_10 wfX6_188 (by decide) rfl rfl rfl rfl ?_; change JJ _ _ _ _ _ _ _ _ _ _ _ _ _ _ _ _ _ _ _ _ (HH _ _ (gpa (jtr M) n 0)) _ _
  refine j_aload_n x dX6_commands_9 rfl ?_
  refine j2_callVi x hb dX6_commands_10 m_X6_isCommand (cx_first_ok (d := d) (M := jtr M) (i := 0) hb hn h9 (Nat.zero_le n) (hok 0 (by omega))) wmX6_205 jc_10 rfl rfl rfl (Nat.le_of_ble_eq_true rfl) (j_fit_rm (by omega) (by omega) (by omega)) rfl ?_
  refine j_istore_n x dX6_commands_13 (by decide) rfl ?_
  refine j_for i (fun z0 => [some (.ref 94), some (.int 1), none, none]) (fun z0 => gce (jtr M) n z0) (fun _ => True) rfl rfl trivial (fun j hj hP ih => ?_) (fun hP => ?_)
  · refine j_iload_n x dX6_commands_14 rfl ?_
    refine j_if_eq (tgt := 54) x dX6_commands_15 (by decide) (fun hc => absurd hc (by decide)) (fun hc => ?_)
    refine j_aload_n x dX6_commands_18 rfl ?_
    refine j2_geti (k := 10) x hb dX6_commands_19 jc_10 wfX6_188 (by decide) rfl ?_; rw [gce_p]
    refine j_aload_n x dX6_commands_22 rfl ?_
    refine j2_geti (k := 9) x hb dX6_commands_23 jc_10 wfX6_185 (by decide) rfl ?_; rw [gce_like 94 9 (by omega) (by omega), h9]
    refine j_icmp_ge (tgt := 54) x dX6_commands_26 (by decide) (fun hc => absurd hc (nI_ge (tsg_lt (hg j (by omega)).2 (by decide)) (by omega))) (fun hc => ?_)
    refine j_aload_n x dX6_commands_29 rfl ?_
    refine j_bipush (v := 59) x dX6_commands_30 (by decide) ?_
    refine j2_callVi x hb dX6_commands_32 m_X6_isNext (cx_isNext_Y (d := d) (M := gce (jtr M) n j) (ch := 59) hb hn ((gce_like 94 9 (by omega) (by omega)).trans h9) gce_p (pN_le (hg j (by omega)).1 (ppo_le (fun i hi => hg i (by omega)))) (by decide) (by rw [gce_t]; exact (hg j (by omega)).2)) wmX6_198 jc_10 rfl rfl rfl (Nat.le_of_ble_eq_true rfl) (j_fit_rm (by omega) (by omega) (by omega)) rfl ?_
    refine j_if_eq (tgt := 49) x dX6_commands_35 (by decide) (fun hc => absurd hc (by decide)) (fun hc => ?_)
    refine j_aload_n x dX6_commands_38 rfl ?_
    refine j2_callVi x hb dX6_commands_39 m_X6_isCommand (cx_first_ok (d := d) (M := jtr M) (i := j + 1) hb hn h9 (ppo_le (fun i hi => hg i (by omega))) (hok (j + 1) (by omega))) wmX6_205 jc_10 rfl rfl rfl (Nat.le_of_ble_eq_true rfl) (j_fit_rm (by omega) (by omega) (by omega)) rfl ?_
    refine j_if_eq (tgt := 49) x dX6_commands_42 (by decide) (fun hc => absurd hc (by decide)) (fun hc => ?_)
    refine j_iconst (v := 1) x dX6_commands_45 (by decide) ?_
    refine j_goto (tgt := 50) x dX6_commands_46 (by decide) ?_
    refine j_istore_n x dX6_commands_50 (by decide) rfl ?_
    refine j_goto (tgt := 14) x dX6_commands_51 (by decide) ?_
    exact j_goal (ih trivial) (wk_c rfl (wk_c rfl (wk_n (wk_n (wk_0))))) rfl
  · refine j_iload_n x dX6_commands_14 rfl ?_
    refine j_if_eq (tgt := 54) x dX6_commands_15 (by decide) (fun hc => absurd hc (by decide)) (fun hc => ?_)
    refine j_aload_n x dX6_commands_18 rfl ?_
    refine j2_geti (k := 10) x hb dX6_commands_19 jc_10 wfX6_188 (by decide) rfl ?_; rw [gce_p]
    refine j_aload_n x dX6_commands_22 rfl ?_
    refine j2_geti (k := 9) x hb dX6_commands_23 jc_10 wfX6_185 (by decide) rfl ?_; rw [gce_like 94 9 (by omega) (by omega), h9]
    refine j_icmp_ge (tgt := 54) x dX6_commands_26 (by decide) (fun hc => absurd hc (nI_ge (tsg_lt (hg i (by omega)).2 (by decide)) (by omega))) (fun hc => ?_)
    refine j_aload_n x dX6_commands_29 rfl ?_
    refine j_bipush (v := 59) x dX6_commands_30 (by decide) ?_
    refine j2_callVi x hb dX6_commands_32 m_X6_isNext (cx_isNext_Y (d := d) (M := gce (jtr M) n i) (ch := 59) hb hn ((gce_like 94 9 (by omega) (by omega)).trans h9) gce_p (pN_le (hg i (by omega)).1 (ppo_le (fun i hi => hg i (by omega)))) (by decide) (by rw [gce_t]; exact (hg i (by omega)).2)) wmX6_198 jc_10 rfl rfl rfl (Nat.le_of_ble_eq_true rfl) (j_fit_rm (by omega) (by omega) (by omega)) rfl ?_
    refine j_if_eq (tgt := 49) x dX6_commands_35 (by decide) (fun hc => absurd hc (by decide)) (fun hc => ?_)
    refine j_aload_n x dX6_commands_38 rfl ?_
    refine j2_callVi x hb dX6_commands_39 m_X6_isCommand C wmX6_205 jc_10 rfl rfl rfl (Nat.le_of_ble_eq_true rfl) (j_fit_rm (by omega) (by omega) (by omega)) rfl ?_
    refine j_if_eq (tgt := 49) x dX6_commands_42 (by decide) (fun hc => ?_) (fun hc => absurd (rfl) hc)
    refine j_iconst (v := 0) x dX6_commands_49 (by decide) ?_
    refine j_istore_n x dX6_commands_50 (by decide) rfl ?_
    refine j_goto (tgt := 14) x dX6_commands_51 (by decide) ?_
    refine j_iload_n x dX6_commands_14 rfl ?_
    refine j_if_eq (tgt := 54) x dX6_commands_15 (by decide) (fun hc => ?_) (fun hc => absurd (rfl) hc)
    refine j_aload_n x dX6_commands_54 rfl ?_
    refine j_iload_n x dX6_commands_55 rfl ?_
    refine j_if_eq (tgt := 63) x dX6_commands_56 (by decide) (fun hc => ?_) (fun hc => absurd (rfl) hc)
    refine j_aload_n x dX6_commands_63 rfl ?_
    refine j2_geti (k := 10) x hb dX6_commands_64 jc_10 wfX6_188 (by decide) rfl ?_
    refine j2_puti (k := 13) x hb dX6_commands_67 jc_10 wfX6_32 (by decide) rfl rfl rfl rfl ?_
    refine j_iload_n x dX6_commands_70 rfl ?_
    refine j_if_ne (tgt := 85) x dX6_commands_71 (by decide) (fun hc => absurd hc (fun q => q rfl)) (fun hc => ?_)
    refine j_aload_n x dX6_commands_74 rfl ?_
    refine j_iconst (v := 0) x dX6_commands_75 (by decide) ?_
    refine j2_puti (k := 9) x hb dX6_commands_76 jc_10 wfX6_185 (by decide) rfl rfl rfl rfl ?_
    refine j_aload_n x dX6_commands_79 rfl ?_
    refine j_iconst (v := 1) x dX6_commands_80 (by decide) ?_
    refine j2_callVi x hb dX6_commands_81 m_X6_raises (cx_raises (d := d) hb) wmX6_61 jc_10 rfl rfl rfl (Nat.le_of_ble_eq_true rfl) (j_fit_rm (by omega) (by omega) (by omega)) rfl ?_
    exact j_ireturn x hr dX6_commands_84 (by omega) (by omega) ⟨rfl, rfl⟩
theorem cx_commands_C {d : Nat} {b : SBt} {Y : OUt} {M : MM} (hb : 104 ≤ b.2.1) {n : Nat} (hn : n ≤ 60) (h9 : M 94 9 = nI n) {i : Nat} (hg : ∀ j, j < i → pgo (jtr M 100) n j) (hok : ∀ j, j < i + 1 → pF (jtr M 100) n (ppo (jtr M 100) n j) = none) (hE : ¬ tsg (jtr M 100) n (pN (jtr M 100) n (ppo (jtr M 100) n i)) = -1) (hE2 : ¬ tsg (jtr M 100) n (pN (jtr M 100) n (ppo (jtr M 100) n i)) = 59) : CM (d + 5) 0 0 yX6_commands cX6_commands 4 (some .int) [.ref 94] b Y M (.inl (some (.int (0)))) (jrai (jm (jm (gce (jtr M) n i) 94 13 (nI (pN (jtr M 100) n (ppo (jtr M 100) n i)))) 94 9 0) 1) := by
  have h9 : jtr M 94 9 = nI n := (jtr_m (by omega)).trans h9
  refine Con.of (by decide +kernel) (Nat.le_of_ble_eq_true rfl) rfl fun p l e s m args below meth c D tyc A ad0 x hr htab hname => ?_
  change JJ _ _ _ _ _ _ _ _ _ _ _ _ _ _ _ _ _ 0 [some (.ref 94), none, none, none] [] _ 0 0
  refine j_aload_n x dX6_commands_0 rfl ?_
  refine j2_callVv x hb dX6_commands_1 m_X6_tries (cx_tries (d := d) hb) wmX6_76 jc_10 rfl rfl rfl (Nat.le_of_ble_eq_true rfl) (j_fit_rm (by omega) (by omega) (by omega)) rfl ?_
  refine j_aload_n x dX6_commands_4 rfl ?_
  refine j_iconst (v := 0) x dX6_commands_5 (by decide) ?_
  refine j2_puti (k := 10) x hb dX6_commands_6 jc_10 wfX6_188 (by decide) rfl rfl rfl rfl ?_; change JJ _ _ _ _ _ _ _ _ _ _ _ _ _ _ _ _ _ _ _ _ (HH _ _ (gpa (jtr M) n 0)) _ _
  refine j_aload_n x dX6_commands_9 rfl ?_
  refine j2_callVi x hb dX6_commands_10 m_X6_isCommand (cx_first_ok (d := d) (M := jtr M) (i := 0) hb hn h9 (Nat.zero_le n) (hok 0 (by omega))) wmX6_205 jc_10 rfl rfl rfl (Nat.le_of_ble_eq_true rfl) (j_fit_rm (by omega) (by omega) (by omega)) rfl ?_
  refine j_istore_n x dX6_commands_13 (by decide) rfl ?_
  refine j_for i (fun z0 => [some (.ref 94), some (.int 1), none, none]) (fun z0 => gce (jtr M) n z0) (fun _ => True) rfl rfl trivial (fun j hj hP ih => ?_) (fun hP => ?_)
  · refine j_iload_n x dX6_commands_14 rfl ?_
    refine j_if_eq (tgt := 54) x dX6_commands_15 (by decide) (fun hc => absurd hc (by decide)) (fun hc => ?_)
    refine j_aload_n x dX6_commands_18 rfl ?_
    refine j2_geti (k := 10) x hb dX6_commands_19 jc_10 wfX6_188 (by decide) rfl ?_; rw [gce_p]
    refine j_aload_n x dX6_commands_22 rfl ?_
    refine j2_geti (k := 9) x hb dX6_commands_23 jc_10 wfX6_185 (by decide) rfl ?_; rw [gce_like 94 9 (by omega) (by omega), h9]
    refine j_icmp_ge (tgt := 54) x dX6_commands_26 (by decide) (fun hc => absurd hc (nI_ge (tsg_lt (hg j (by omega)).2 (by decide)) (by omega))) (fun hc => ?_)
    refine j_aload_n x dX6_commands_29 rfl ?_
    refine j_bipush (v := 59) x dX6_commands_30 (by decide) ?_
    refine j2_callVi x hb dX6_commands_32 m_X6_isNext (cx_isNext_Y (d := d) (M := gce (jtr M) n j) (ch := 59) hb hn ((gce_like 94 9 (by omega) (by omega)).trans h9) gce_p (pN_le (hg j (by omega)).1 (ppo_le (fun i hi => hg i (by omega)))) (by decide) (by rw [gce_t]; exact (hg j (by omega)).2)) wmX6_198 jc_10 rfl rfl rfl (Nat.le_of_ble_eq_true rfl) (j_fit_rm (by omega) (by omega) (by omega)) rfl ?_
    refine j_if_eq (tgt := 49) x dX6_commands_35 (by decide) (fun hc => absurd hc (by decide)) (fun hc => ?_)
    refine j_aload_n x dX6_commands_38 rfl ?_
    refine j2_callVi x hb dX6_commands_39 m_X6_isCommand (cx_first_ok (d := d) (M := jtr M) (i := j + 1) hb hn h9 (ppo_le (fun i hi => hg i (by omega))) (hok (j + 1) (by omega))) wmX6_205 jc_10 rfl rfl rfl (Nat.le_of_ble_eq_true rfl) (j_fit_rm (by omega) (by omega) (by omega)) rfl ?_
    refine j_if_eq (tgt := 49) x dX6_commands_42 (by decide) (fun hc => absurd hc (by decide)) (fun hc => ?_)
    refine j_iconst (v := 1) x dX6_commands_45 (by decide) ?_
    refine j_goto (tgt := 50) x dX6_commands_46 (by decide) ?_
    refine j_istore_n x dX6_commands_50 (by decide) rfl ?_
    refine j_goto (tgt := 14) x dX6_commands_51 (by decide) ?_
    exact j_goal (ih trivial) (wk_c rfl (wk_c rfl (wk_n (wk_n (wk_0))))) rfl
  · refine j_iload_n x dX6_commands_14 rfl ?_
    refine j_if_eq (tgt := 54) x dX6_commands_15 (by decide) (fun hc => absurd hc (by decide)) (fun hc => ?_)
    refine j_aload_n x dX6_commands_18 rfl ?_
    refine j2_geti (k := 10) x hb dX6_commands_19 jc_10 wfX6_188 (by decide) rfl ?_; rw [gce_p]
    refine j_aload_n x dX6_commands_22 rfl ?_
    refine j2_geti (k := 9) x hb dX6_commands_23 jc_10 wfX6_185 (by decide) rfl ?_; rw [gce_like 94 9 (by omega) (by omega), h9]
    refine j_icmp_ge (tgt := 54) x dX6_commands_26 (by decide) (fun hc => absurd hc (nI_ge (Nat.lt_of_not_le (fun q => hE (by rw [tsg, if_neg (by omega)]))) (by omega))) (fun hc => ?_)
    refine j_aload_n x dX6_commands_29 rfl ?_
    refine j_bipush (v := 59) x dX6_commands_30 (by decide) ?_
    refine j2_callVi x hb dX6_commands_32 m_X6_isNext (cx_isNext_N (d := d) (M := gce (jtr M) n i) (ch := 59) hb hn ((gce_like 94 9 (by omega) (by omega)).trans h9) gce_p (pN_le (hok i (by omega)) (ppo_le (fun i hi => hg i (by omega)))) (by rw [gce_t]; exact hE2)) wmX6_198 jc_10 rfl rfl rfl (Nat.le_of_ble_eq_true rfl) (j_fit_rm (by omega) (by omega) (by omega)) rfl ?_
    refine j_if_eq (tgt := 49) x dX6_commands_35 (by decide) (fun hc => ?_) (fun hc => absurd (rfl) hc)
    refine j_iconst (v := 0) x dX6_commands_49 (by decide) ?_
    refine j_istore_n x dX6_commands_50 (by decide) rfl ?_
    refine j_goto (tgt := 14) x dX6_commands_51 (by decide) ?_
    refine j_iload_n x dX6_commands_14 rfl ?_
    refine j_if_eq (tgt := 54) x dX6_commands_15 (by decide) (fun hc => ?_) (fun hc => absurd (rfl) hc)
    refine j_aload_n x dX6_commands_54 rfl ?_
    refine j_iload_n x dX6_commands_55 rfl ?_
    refine j_if_eq (tgt := 63) x dX6_commands_56 (by decide) (fun hc => ?_) (fun hc => absurd (rfl) hc)
    refine j_aload_n x dX6_commands_63 rfl ?_
    refine j2_geti (k := 10) x hb dX6_commands_64 jc_10 wfX6_188 (by decide) rfl ?_
    refine j2_puti (k := 13) x hb dX6_commands_67 jc_10 wfX6_32 (by decide) rfl rfl rfl rfl ?_
    refine j_iload_n x dX6_commands_70 rfl ?_
    refine j_if_ne (tgt := 85) x dX6_commands_71 (by decide) (fun hc => absurd hc (fun q => q rfl)) (fun hc => ?_)
    refine j_aload_n x dX6_commands_74 rfl ?_
    refine j_iconst (v := 0) x dX6_commands_75 (by decide) ?_
    refine j2_puti (k := 9) x hb dX6_commands_76 jc_10 wfX6_185 (by decide) rfl rfl rfl rfl ?_
    refine j_aload_n x dX6_commands_79 rfl ?_
    refine j_iconst (v := 1) x dX6_commands_80 (by decide) ?_
    refine j2_callVi x hb dX6_commands_81 m_X6_raises (cx_raises (d := d) hb) wmX6_61 jc_10 rfl rfl rfl (Nat.le_of_ble_eq_true rfl) (j_fit_rm (by omega) (by omega) (by omega)) rfl ?_
    exact j_ireturn x hr dX6_commands_84 (by omega) (by omega) ⟨rfl, by rw [gce_p]⟩
/-- the store from which the carrying out begins -/
def gB0 (M : MM) (n i : Nat) : MM := jm (jm (gce (jtr M) n i) 94 13 (-1)) 94 10 0
theorem gB0_n {M : MM} {n i a k : Nat} (h : ¬ (a = 94 ∧ (k = 10 ∨ k = 11 ∨ k = 13))) (h2 : a ≠ 101) : gB0 M n i a k = jtr M a k := by
  rw [gB0, jm_n (by omega), jm_n (by omega), gce_like a k (by omega) h2]
theorem gB0_t {M : MM} {n i : Nat} : gB0 M n i 100 = jtr M 100 := funext fun k => gB0_n (by omega) (by omega)
theorem cx_commands_ok {d : Nat} {b : SBt} {Y : OUt} {M : MM} (hb : 104 ≤ b.2.1) {n : Nat} (hn : n ≤ 60) (h9 : M 94 9 = nI n) {i : Nat} (hg : ∀ j, j < i → pgo (jtr M 100) n j) (hok : ∀ j, j < i + 1 → pF (jtr M 100) n (ppo (jtr M 100) n j) = none) (hE : n ≤ pN (jtr M 100) n (ppo (jtr M 100) n i)) {ct : Nat} (hc56 : ct ≤ 56) (hct : M 95 9 = nI ct) (hz : M 95 1 = 0 ∨ ¬ M 95 1 ≤ 0) (hho : ∀ i, i < ct → ∃ h, h < 8 ∧ jof M i 0 = nI h) {k : Nat} (hk : k ≤ 8) (hk3 : M 94 3 = nI k) (h : ∀ j, j < i + 1 → gcR (gB0 M n i) n ct j = none) : CM (d + 6) 0 0 yX6_commands cX6_commands 4 (some .int) [.ref 94] b Y M (.inl (some (.int (nI (i + 1))))) (jkpg (jm (gcS (gB0 M n i) n ct i) 94 9 0) k) := by
  have h9 : jtr M 94 9 = nI n := (jtr_m (by omega)).trans h9
  refine Con.of (by decide +kernel) (Nat.le_of_ble_eq_true rfl) rfl fun p l e s m args below meth c D tyc A ad0 x hr htab hname => ?_
  change JJ _ _ _ _ _ _ _ _ _ _ _ _ _ _ _ _ _ 0 [some (.ref 94), none, none, none] [] _ 0 0
  refine j_aload_n x dX6_commands_0 rfl ?_
  refine j2_callVv x hb dX6_commands_1 m_X6_tries (cx_tries (d := d) hb) wmX6_76 jc_10 rfl rfl rfl (Nat.le_of_ble_eq_true rfl) (j_fit_rm (by omega) (by omega) (by omega)) rfl ?_
  refine j_aload_n x dX6_commands_4 rfl ?_
  refine j_iconst (v := 0) x dX6_commands_5 (by decide) ?_
  refine j2_puti (k := 10) x hb dX6_commands_6 jc_10 wfX6_188 (by decide) rfl rfl rfl rfl ?_; change JJ _ _ _ _ _ _ _ _ _ _ _ _ _ _ _ _ _ _ _ _ (HH _ _ (gpa (jtr M) n 0)) _ _
  refine j_aload_n x dX6_commands_9 rfl ?_
  refine j2_callVi x hb dX6_commands_10 m_X6_isCommand (cx_first_ok (d := d) (M := jtr M) (i := 0) hb hn h9 (Nat.zero_le n) (hok 0 (by omega))) wmX6_205 jc_10 rfl rfl rfl (Nat.le_of_ble_eq_true rfl) (j_fit_rm (by omega) (by omega) (by omega)) rfl ?_
  refine j_istore_n x dX6_commands_13 (by decide) rfl ?_
  refine j_for i (fun z0 => [some (.ref 94), some (.int 1), none, none]) (fun z0 => gce (jtr M) n z0) (fun _ => True) rfl rfl trivial (fun j hj hP ih => ?_) (fun hP => ?_)
  · refine j_iload_n x dX6_commands_14 rfl ?_
    refine j_if_eq (tgt := 54) x dX6_commands_15 (by decide) (fun hc => absurd hc (by decide)) (fun hc => ?_)
    refine j_aload_n x dX6_commands_18 rfl ?_
    refine j2_geti (k := 10) x hb dX6_commands_19 jc_10 wfX6_188 (by decide) rfl ?_; rw [gce_p]
    refine j_aload_n x dX6_commands_22 rfl ?_
    refine j2_geti (k := 9) x hb dX6_commands_23 jc_10 wfX6_185 (by decide) rfl ?_; rw [gce_like 94 9 (by omega) (by omega), h9]
    refine j_icmp_ge (tgt := 54) x dX6_commands_26 (by decide) (fun hc => absurd hc (nI_ge (tsg_lt (hg j (by omega)).2 (by decide)) (by omega))) (fun hc => ?_)
    refine j_aload_n x dX6_commands_29 rfl ?_
    refine j_bipush (v := 59) x dX6_commands_30 (by decide) ?_
    refine j2_callVi x hb dX6_commands_32 m_X6_isNext (cx_isNext_Y (d := d) (M := gce (jtr M) n j) (ch := 59) hb hn ((gce_like 94 9 (by omega) (by omega)).trans h9) gce_p (pN_le (hg j (by omega)).1 (ppo_le (fun i hi => hg i (by omega)))) (by decide) (by rw [gce_t]; exact (hg j (by omega)).2)) wmX6_198 jc_10 rfl rfl rfl (Nat.le_of_ble_eq_true rfl) (j_fit_rm (by omega) (by omega) (by omega)) rfl ?_
    refine j_if_eq (tgt := 49) x dX6_commands_35 (by decide) (fun hc => absurd hc (by decide)) (fun hc => ?_)
    refine j_aload_n x dX6_commands_38 rfl ?_
    refine j2_callVi x hb dX6_commands_39 m_X6_isCommand (cx_first_ok (d := d) (M := jtr M) (i := j + 1) hb hn h9 (ppo_le (fun i hi => hg i (by omega))) (hok (j + 1) (by omega))) wmX6_205 jc_10 rfl rfl rfl (Nat.le_of_ble_eq_true rfl) (j_fit_rm (by omega) (by omega) (by omega)) rfl ?_
    refine j_if_eq (tgt := 49) x dX6_commands_42 (by decide) (fun hc => absurd hc (by decide)) (fun hc => ?_)
    refine j_iconst (v := 1) x dX6_commands_45 (by decide) ?_
    refine j_goto (tgt := 50) x dX6_commands_46 (by decide) ?_
    refine j_istore_n x dX6_commands_50 (by decide) rfl ?_
    refine j_goto (tgt := 14) x dX6_commands_51 (by decide) ?_
    exact j_goal (ih trivial) (wk_c rfl (wk_c rfl (wk_n (wk_n (wk_0))))) rfl
  · refine j_iload_n x dX6_commands_14 rfl ?_
    refine j_if_eq (tgt := 54) x dX6_commands_15 (by decide) (fun hc => absurd hc (by decide)) (fun hc => ?_)
    refine j_aload_n x dX6_commands_18 rfl ?_
    refine j2_geti (k := 10) x hb dX6_commands_19 jc_10 wfX6_188 (by decide) rfl ?_; rw [gce_p]
    refine j_aload_n x dX6_commands_22 rfl ?_
    refine j2_geti (k := 9) x hb dX6_commands_23 jc_10 wfX6_185 (by decide) rfl ?_; rw [gce_like 94 9 (by omega) (by omega), h9]
    refine j_icmp_ge (tgt := 54) x dX6_commands_26 (by decide) (fun hc => ?_) (fun hc => absurd (nI_le hE (by have := pN_le (hok i (by omega)) (ppo_le (fun i hi => hg i (by omega))); omega)) hc)
    refine j_aload_n x dX6_commands_54 rfl ?_
    refine j_iload_n x dX6_commands_55 rfl ?_
    refine j_if_eq (tgt := 63) x dX6_commands_56 (by decide) (fun hc => absurd hc (by decide)) (fun hc => ?_)
    refine j_iconst (v := (-1)) x dX6_commands_59 (by decide) ?_
    refine j_goto (tgt := 67) x dX6_commands_60 (by decide) ?_
    refine j2_puti (k := 13) x hb dX6_commands_67 jc_10 wfX6_32 (by decide) rfl rfl rfl rfl ?_
    refine j_iload_n x dX6_commands_70 rfl ?_
    refine j_if_ne (tgt := 85) x dX6_commands_71 (by decide) (fun hc => ?_) (fun hc => absurd hc (by decide))
    refine j_aload_n x dX6_commands_85 rfl ?_
    refine j_iconst (v := 0) x dX6_commands_86 (by decide) ?_
    refine j2_puti (k := 10) x hb dX6_commands_87 jc_10 wfX6_188 (by decide) rfl rfl rfl rfl ?_
    refine j_iconst (v := 0) x dX6_commands_90 (by decide) ?_
    refine j_istore_n x dX6_commands_91 (by decide) rfl ?_
    refine j_iconst (v := 1) x dX6_commands_92 (by decide) ?_
    refine j_istore_n x dX6_commands_93 (by decide) rfl ?_
    have k9 : gB0 M n i 94 9 = nI n := (gB0_n (by omega) (by omega)).trans h9
    have k0 : gB0 M n i 94 10 = 0 := jm_s
    have kct : gB0 M n i 95 9 = nI ct := (gB0_n (by omega) (by omega)).trans ((jtr_m (by omega)).trans hct)
    have kz : gB0 M n i 95 1 = 0 ∨ ¬ gB0 M n i 95 1 ≤ 0 := by rw [gB0_n (by omega) (by omega), jtr_m (by omega)]; exact hz
    have kho : ∀ i1, i1 < ct → ∃ h, h < 8 ∧ jof (gB0 M n i) i1 0 = nI h := fun i1 hi => by rw [jof, gB0_n (by omega) (by omega), jtr_m (by omega)]; exact hho i1 hi
    have kg : ∀ j, j < i → pgo (gB0 M n i 100) n j := by rw [gB0_t]; exact hg
    have kok : ∀ j, j < i + 1 → pF (gB0 M n i 100) n (ppo (gB0 M n i 100) n j) = none := by rw [gB0_t]; exact hok
    change JJ _ _ _ _ _ _ _ _ _ _ _ _ _ _ _ _ _ _ _ _ (HH _ _ (gB0 M n i)) _ _
    refine j_for i (fun z0 => [some (.ref 94), some (.int 1), some (.int (nI z0)), some (.int 1)]) (fun z0 => gse (gB0 M n i) n ct z0) (fun _ => True) rfl rfl trivial (fun j hj hP ih => ?_) (fun hP => ?_)
    · refine j_iload_n x dX6_commands_94 rfl ?_
      refine j_if_eq (tgt := 142) x dX6_commands_95 (by decide) (fun hc => absurd hc (by decide)) (fun hc => ?_)
      refine j_aload_n x dX6_commands_98 rfl ?_
      refine j2_callVi x hb dX6_commands_99 m_X6_isCommand (cx_sec_ok (d := d) (M := gB0 M n i) (ct := ct) (i := j) hb hn k9 k0 (ppo_le (fun i hi => kg i (by omega))) (kok j (by omega))) wmX6_205 jc_10 rfl rfl rfl (Nat.le_of_ble_eq_true rfl) (j_fit_rm (by omega) (by omega) (by omega)) rfl ?_
      refine j_istore_n x dX6_commands_102 (by decide) rfl ?_
      refine j_aload_n x dX6_commands_103 rfl ?_
      refine j_iload_n x dX6_commands_104 rfl ?_
      refine j2_puti (k := 16) x hb dX6_commands_105 jc_10 wfX6_39 (by decide) rfl rfl rfl rfl ?_; change JJ _ _ _ _ _ _ _ _ _ _ _ _ _ _ _ _ _ _ _ _ (HH _ _ (gqp (gB0 M n i) n ct j)) _ _
      refine j_aload_n x dX6_commands_108 rfl ?_
      refine j2_callVi x hb dX6_commands_109 m_X6_carries (CM_gn (cx_sec_car (d := d) (M := gB0 M n i) (n := n) (i := j) hb hc56 kct kz kho (kok j (by omega))) (h j (by omega))) wmX6_208 jc_10 rfl rfl rfl (Nat.le_of_ble_eq_true rfl) (j_fit_rm (by omega) (by omega) (by omega)) rfl ?_
      refine j_istore_n x dX6_commands_112 (by decide) rfl ?_
      refine j_iload_n x dX6_commands_113 rfl ?_
      refine j_if_eq (tgt := 120) x dX6_commands_114 (by decide) (fun hc => absurd hc (by decide)) (fun hc => ?_)
      refine j_iinc x dX6_commands_117 rfl (by decide) rfl ?_
      refine j_iload_n x dX6_commands_120 rfl ?_
      refine j_if_eq (tgt := 137) x dX6_commands_121 (by decide) (fun hc => absurd hc (by decide)) (fun hc => ?_)
      refine j_aload_n x dX6_commands_124 rfl ?_
      refine j_bipush (v := 59) x dX6_commands_125 (by decide) ?_
      refine j2_callVi x hb dX6_commands_127 m_X6_isNext (cx_isNext_Y (d := d) (M := gcS (gB0 M n i) n ct j) (ch := 59) hb hn ((gcS_n (Or.inr (Or.inl (by omega)))).trans k9) gcS_p (pN_le (kok j (by omega)) (ppo_le (fun i hi => kg i (by omega)))) (by decide) (by rw [gcS_t]; exact (kg j (by omega)).2)) wmX6_198 jc_10 rfl rfl rfl (Nat.le_of_ble_eq_true rfl) (j_fit_rm (by omega) (by omega) (by omega)) rfl ?_
      refine j_if_eq (tgt := 137) x dX6_commands_130 (by decide) (fun hc => absurd hc (by decide)) (fun hc => ?_)
      refine j_iconst (v := 1) x dX6_commands_133 (by decide) ?_
      refine j_goto (tgt := 138) x dX6_commands_134 (by decide) ?_
      refine j_istore_n x dX6_commands_138 (by decide) rfl ?_
      refine j_goto (tgt := 94) x dX6_commands_139 (by decide) ?_
      exact j_goal (ih trivial) (wk_c rfl (wk_c rfl (wk_c (congrArg (fun z => some (Value.int z)) (nI_1 _)) (wk_c rfl (wk_0))))) gse_s
    · refine j_iload_n x dX6_commands_94 rfl ?_
      refine j_if_eq (tgt := 142) x dX6_commands_95 (by decide) (fun hc => absurd hc (by decide)) (fun hc => ?_)
      refine j_aload_n x dX6_commands_98 rfl ?_
      refine j2_callVi x hb dX6_commands_99 m_X6_isCommand (cx_sec_ok (d := d) (M := gB0 M n i) (ct := ct) (i := i) hb hn k9 k0 (ppo_le (fun i hi => kg i (by omega))) (kok i (by omega))) wmX6_205 jc_10 rfl rfl rfl (Nat.le_of_ble_eq_true rfl) (j_fit_rm (by omega) (by omega) (by omega)) rfl ?_
      refine j_istore_n x dX6_commands_102 (by decide) rfl ?_
      refine j_aload_n x dX6_commands_103 rfl ?_
      refine j_iload_n x dX6_commands_104 rfl ?_
      refine j2_puti (k := 16) x hb dX6_commands_105 jc_10 wfX6_39 (by decide) rfl rfl rfl rfl ?_; change JJ _ _ _ _ _ _ _ _ _ _ _ _ _ _ _ _ _ _ _ _ (HH _ _ (gqp (gB0 M n i) n ct i)) _ _
      refine j_aload_n x dX6_commands_108 rfl ?_
      refine j2_callVi x hb dX6_commands_109 m_X6_carries (CM_gn (cx_sec_car (d := d) (M := gB0 M n i) (n := n) (i := i) hb hc56 kct kz kho (kok i (by omega))) (h i (by omega))) wmX6_208 jc_10 rfl rfl rfl (Nat.le_of_ble_eq_true rfl) (j_fit_rm (by omega) (by omega) (by omega)) rfl ?_
      refine j_istore_n x dX6_commands_112 (by decide) rfl ?_
      refine j_iload_n x dX6_commands_113 rfl ?_
      refine j_if_eq (tgt := 120) x dX6_commands_114 (by decide) (fun hc => absurd hc (by decide)) (fun hc => ?_)
      refine j_iinc x dX6_commands_117 rfl (by decide) rfl ?_
      refine j_iload_n x dX6_commands_120 rfl ?_
      refine j_if_eq (tgt := 137) x dX6_commands_121 (by decide) (fun hc => absurd hc (by decide)) (fun hc => ?_)
      refine j_aload_n x dX6_commands_124 rfl ?_
      refine j_bipush (v := 59) x dX6_commands_125 (by decide) ?_
      refine j2_callVi x hb dX6_commands_127 m_X6_isNext (cx_isNext_N (d := d) (M := gcS (gB0 M n i) n ct i) (ch := 59) hb hn ((gcS_n (Or.inr (Or.inl (by omega)))).trans k9) gcS_p (pN_le (kok i (by omega)) (ppo_le (fun i hi => kg i (by omega)))) (by rw [gcS_t]; exact fun q => absurd (tsg_lt q (by decide)) (by rw [gB0_t]; omega))) wmX6_198 jc_10 rfl rfl rfl (Nat.le_of_ble_eq_true rfl) (j_fit_rm (by omega) (by omega) (by omega)) rfl ?_
      refine j_if_eq (tgt := 137) x dX6_commands_130 (by decide) (fun hc => ?_) (fun hc => absurd (rfl) hc)
      refine j_iconst (v := 0) x dX6_commands_137 (by decide) ?_
      refine j_istore_n x dX6_commands_138 (by decide) rfl ?_
      refine j_goto (tgt := 94) x dX6_commands_139 (by decide) ?_
      refine j_iload_n x dX6_commands_94 rfl ?_
      refine j_if_eq (tgt := 142) x dX6_commands_95 (by decide) (fun hc => ?_) (fun hc => absurd (rfl) hc)
      refine j_aload_n x dX6_commands_142 rfl ?_
      refine j_iconst (v := 0) x dX6_commands_143 (by decide) ?_
      refine j2_puti (k := 9) x hb dX6_commands_144 jc_10 wfX6_185 (by decide) rfl rfl rfl rfl ?_
      refine j_iload_n x dX6_commands_147 rfl ?_
      refine j_if_eq (tgt := 157) x dX6_commands_148 (by decide) (fun hc => absurd hc (by decide)) (fun hc => ?_)
      refine j_aload_n x dX6_commands_151 rfl ?_
      refine j_iload_n x dX6_commands_152 rfl ?_
      refine j2_callVi x hb dX6_commands_153 m_X6_keeps (cx_keepsG (d := d) hb hk ((jm_n (by omega)).trans ((gcS_n (Or.inr (Or.inl (by omega)))).trans ((gB0_n (by omega) (by omega)).trans ((jtr_m (by omega)).trans hk3))))) wmX6_57 jc_10 rfl rfl rfl (Nat.le_of_ble_eq_true rfl) (j_fit_rm (by omega) (by omega) (by omega)) rfl ?_
      exact j_ireturn x hr dX6_commands_156 (by omega) (by omega) ⟨congrArg (fun z => Sum.inl (some (Value.int z))) (nI_1 i), rfl⟩
theorem cx_commands_no {d : Nat} {b : SBt} {Y : OUt} {M : MM} (hb : 104 ≤ b.2.1) {n : Nat} (hn : n ≤ 60) (h9 : M 94 9 = nI n) {i : Nat} (hg : ∀ j, j < i → pgo (jtr M 100) n j) (hok : ∀ j, j < i + 1 → pF (jtr M 100) n (ppo (jtr M 100) n j) = none) (hE : n ≤ pN (jtr M 100) n (ppo (jtr M 100) n i)) {ct : Nat} (hc56 : ct ≤ 56) (hct : M 95 9 = nI ct) (hz : M 95 1 = 0 ∨ ¬ M 95 1 ≤ 0) (hho : ∀ i, i < ct → ∃ h, h < 8 ∧ jof M i 0 = nI h) {i0 : Nat} (hi0 : i0 < i + 1) (h : ∀ j, j < i0 → gcR (gB0 M n i) n ct j = none) {r t : Int32} (h2 : gcR (gB0 M n i) n ct i0 = some (r, t)) : CM (d + 6) 0 0 yX6_commands cX6_commands 4 (some .int) [.ref 94] b Y M (.inl (some (.int (0)))) (jrai (jcp (jm (jrefu (gqp (gB0 M n i) n ct i0) r t) 94 9 0) 96 0 95 0 466) 2) := by
  have h9 : jtr M 94 9 = nI n := (jtr_m (by omega)).trans h9
  refine Con.of (by decide +kernel) (Nat.le_of_ble_eq_true rfl) rfl fun p l e s m args below meth c D tyc A ad0 x hr htab hname => ?_
  change JJ _ _ _ _ _ _ _ _ _ _ _ _ _ _ _ _ _ 0 [some (.ref 94), none, none, none] [] _ 0 0
  refine j_aload_n x dX6_commands_0 rfl ?_
  refine j2_callVv x hb dX6_commands_1 m_X6_tries (cx_tries (d := d) hb) wmX6_76 jc_10 rfl rfl rfl (Nat.le_of_ble_eq_true rfl) (j_fit_rm (by omega) (by omega) (by omega)) rfl ?_
  refine j_aload_n x dX6_commands_4 rfl ?_
  refine j_iconst (v := 0) x dX6_commands_5 (by decide) ?_
  refine j2_puti (k := 10) x hb dX6_commands_6 jc_10 wfX6_188 (by decide) rfl rfl rfl rfl ?_; change JJ _ _ _ _ _ _ _ _ _ _ _ _ _ _ _ _ _ _ _ _ (HH _ _ (gpa (jtr M) n 0)) _ _
  refine j_aload_n x dX6_commands_9 rfl ?_
  refine j2_callVi x hb dX6_commands_10 m_X6_isCommand (cx_first_ok (d := d) (M := jtr M) (i := 0) hb hn h9 (Nat.zero_le n) (hok 0 (by omega))) wmX6_205 jc_10 rfl rfl rfl (Nat.le_of_ble_eq_true rfl) (j_fit_rm (by omega) (by omega) (by omega)) rfl ?_
  refine j_istore_n x dX6_commands_13 (by decide) rfl ?_
  refine j_for i (fun z0 => [some (.ref 94), some (.int 1), none, none]) (fun z0 => gce (jtr M) n z0) (fun _ => True) rfl rfl trivial (fun j hj hP ih => ?_) (fun hP => ?_)
  · refine j_iload_n x dX6_commands_14 rfl ?_
    refine j_if_eq (tgt := 54) x dX6_commands_15 (by decide) (fun hc => absurd hc (by decide)) (fun hc => ?_)
    refine j_aload_n x dX6_commands_18 rfl ?_
    refine j2_geti (k := 10) x hb dX6_commands_19 jc_10 wfX6_188 (by decide) rfl ?_; rw [gce_p]
    refine j_aload_n x dX6_commands_22 rfl ?_
    refine j2_geti (k := 9) x hb dX6_commands_23 jc_10 wfX6_185 (by decide) rfl ?_; rw [gce_like 94 9 (by omega) (by omega), h9]
    refine j_icmp_ge (tgt := 54) x dX6_commands_26 (by decide) (fun hc => absurd hc (nI_ge (tsg_lt (hg j (by omega)).2 (by decide)) (by omega))) (fun hc => ?_)
    refine j_aload_n x dX6_commands_29 rfl ?_
    refine j_bipush (v := 59) x dX6_commands_30 (by decide) ?_
    refine j2_callVi x hb dX6_commands_32 m_X6_isNext (cx_isNext_Y (d := d) (M := gce (jtr M) n j) (ch := 59) hb hn ((gce_like 94 9 (by omega) (by omega)).trans h9) gce_p (pN_le (hg j (by omega)).1 (ppo_le (fun i hi => hg i (by omega)))) (by decide) (by rw [gce_t]; exact (hg j (by omega)).2)) wmX6_198 jc_10 rfl rfl rfl (Nat.le_of_ble_eq_true rfl) (j_fit_rm (by omega) (by omega) (by omega)) rfl ?_
    refine j_if_eq (tgt := 49) x dX6_commands_35 (by decide) (fun hc => absurd hc (by decide)) (fun hc => ?_)
    refine j_aload_n x dX6_commands_38 rfl ?_
    refine j2_callVi x hb dX6_commands_39 m_X6_isCommand (cx_first_ok (d := d) (M := jtr M) (i := j + 1) hb hn h9 (ppo_le (fun i hi => hg i (by omega))) (hok (j + 1) (by omega))) wmX6_205 jc_10 rfl rfl rfl (Nat.le_of_ble_eq_true rfl) (j_fit_rm (by omega) (by omega) (by omega)) rfl ?_
    refine j_if_eq (tgt := 49) x dX6_commands_42 (by decide) (fun hc => absurd hc (by decide)) (fun hc => ?_)
    refine j_iconst (v := 1) x dX6_commands_45 (by decide) ?_
    refine j_goto (tgt := 50) x dX6_commands_46 (by decide) ?_
    refine j_istore_n x dX6_commands_50 (by decide) rfl ?_
    refine j_goto (tgt := 14) x dX6_commands_51 (by decide) ?_
    exact j_goal (ih trivial) (wk_c rfl (wk_c rfl (wk_n (wk_n (wk_0))))) rfl
  · refine j_iload_n x dX6_commands_14 rfl ?_
    refine j_if_eq (tgt := 54) x dX6_commands_15 (by decide) (fun hc => absurd hc (by decide)) (fun hc => ?_)
    refine j_aload_n x dX6_commands_18 rfl ?_
    refine j2_geti (k := 10) x hb dX6_commands_19 jc_10 wfX6_188 (by decide) rfl ?_; rw [gce_p]
    refine j_aload_n x dX6_commands_22 rfl ?_
    refine j2_geti (k := 9) x hb dX6_commands_23 jc_10 wfX6_185 (by decide) rfl ?_; rw [gce_like 94 9 (by omega) (by omega), h9]
    refine j_icmp_ge (tgt := 54) x dX6_commands_26 (by decide) (fun hc => ?_) (fun hc => absurd (nI_le hE (by have := pN_le (hok i (by omega)) (ppo_le (fun i hi => hg i (by omega))); omega)) hc)
    refine j_aload_n x dX6_commands_54 rfl ?_
    refine j_iload_n x dX6_commands_55 rfl ?_
    refine j_if_eq (tgt := 63) x dX6_commands_56 (by decide) (fun hc => absurd hc (by decide)) (fun hc => ?_)
    refine j_iconst (v := (-1)) x dX6_commands_59 (by decide) ?_
    refine j_goto (tgt := 67) x dX6_commands_60 (by decide) ?_
    refine j2_puti (k := 13) x hb dX6_commands_67 jc_10 wfX6_32 (by decide) rfl rfl rfl rfl ?_
    refine j_iload_n x dX6_commands_70 rfl ?_
    refine j_if_ne (tgt := 85) x dX6_commands_71 (by decide) (fun hc => ?_) (fun hc => absurd hc (by decide))
    refine j_aload_n x dX6_commands_85 rfl ?_
    refine j_iconst (v := 0) x dX6_commands_86 (by decide) ?_
    refine j2_puti (k := 10) x hb dX6_commands_87 jc_10 wfX6_188 (by decide) rfl rfl rfl rfl ?_
    refine j_iconst (v := 0) x dX6_commands_90 (by decide) ?_
    refine j_istore_n x dX6_commands_91 (by decide) rfl ?_
    refine j_iconst (v := 1) x dX6_commands_92 (by decide) ?_
    refine j_istore_n x dX6_commands_93 (by decide) rfl ?_
    have k9 : gB0 M n i 94 9 = nI n := (gB0_n (by omega) (by omega)).trans h9
    have k0 : gB0 M n i 94 10 = 0 := jm_s
    have kct : gB0 M n i 95 9 = nI ct := (gB0_n (by omega) (by omega)).trans ((jtr_m (by omega)).trans hct)
    have kz : gB0 M n i 95 1 = 0 ∨ ¬ gB0 M n i 95 1 ≤ 0 := by rw [gB0_n (by omega) (by omega), jtr_m (by omega)]; exact hz
    have kho : ∀ i1, i1 < ct → ∃ h, h < 8 ∧ jof (gB0 M n i) i1 0 = nI h := fun i1 hi => by rw [jof, gB0_n (by omega) (by omega), jtr_m (by omega)]; exact hho i1 hi
    have kg : ∀ j, j < i → pgo (gB0 M n i 100) n j := by rw [gB0_t]; exact hg
    have kok : ∀ j, j < i + 1 → pF (gB0 M n i 100) n (ppo (gB0 M n i 100) n j) = none := by rw [gB0_t]; exact hok
    change JJ _ _ _ _ _ _ _ _ _ _ _ _ _ _ _ _ _ _ _ _ (HH _ _ (gB0 M n i)) _ _
    refine j_for i0 (fun z0 => [some (.ref 94), some (.int 1), some (.int (nI z0)), some (.int 1)]) (fun z0 => gse (gB0 M n i) n ct z0) (fun _ => True) rfl rfl trivial (fun j hj hP ih => ?_) (fun hP => ?_)
    · refine j_iload_n x dX6_commands_94 rfl ?_
      refine j_if_eq (tgt := 142) x dX6_commands_95 (by decide) (fun hc => absurd hc (by decide)) (fun hc => ?_)
      refine j_aload_n x dX6_commands_98 rfl ?_
      refine j2_callVi x hb dX6_commands_99 m_X6_isCommand (cx_sec_ok (d := d) (M := gB0 M n i) (ct := ct) (i := j) hb hn k9 k0 (ppo_le (fun i hi => kg i (by omega))) (kok j (by omega))) wmX6_205 jc_10 rfl rfl rfl (Nat.le_of_ble_eq_true rfl) (j_fit_rm (by omega) (by omega) (by omega)) rfl ?_
      refine j_istore_n x dX6_commands_102 (by decide) rfl ?_
      refine j_aload_n x dX6_commands_103 rfl ?_
      refine j_iload_n x dX6_commands_104 rfl ?_
      refine j2_puti (k := 16) x hb dX6_commands_105 jc_10 wfX6_39 (by decide) rfl rfl rfl rfl ?_; change JJ _ _ _ _ _ _ _ _ _ _ _ _ _ _ _ _ _ _ _ _ (HH _ _ (gqp (gB0 M n i) n ct j)) _ _
      refine j_aload_n x dX6_commands_108 rfl ?_
      refine j2_callVi x hb dX6_commands_109 m_X6_carries (CM_gn (cx_sec_car (d := d) (M := gB0 M n i) (n := n) (i := j) hb hc56 kct kz kho (kok j (by omega))) (h j (by omega))) wmX6_208 jc_10 rfl rfl rfl (Nat.le_of_ble_eq_true rfl) (j_fit_rm (by omega) (by omega) (by omega)) rfl ?_
      refine j_istore_n x dX6_commands_112 (by decide) rfl ?_
      refine j_iload_n x dX6_commands_113 rfl ?_
      refine j_if_eq (tgt := 120) x dX6_commands_114 (by decide) (fun hc => absurd hc (by decide)) (fun hc => ?_)
      refine j_iinc x dX6_commands_117 rfl (by decide) rfl ?_
      refine j_iload_n x dX6_commands_120 rfl ?_
      refine j_if_eq (tgt := 137) x dX6_commands_121 (by decide) (fun hc => absurd hc (by decide)) (fun hc => ?_)
      refine j_aload_n x dX6_commands_124 rfl ?_
      refine j_bipush (v := 59) x dX6_commands_125 (by decide) ?_
      refine j2_callVi x hb dX6_commands_127 m_X6_isNext (cx_isNext_Y (d := d) (M := gcS (gB0 M n i) n ct j) (ch := 59) hb hn ((gcS_n (Or.inr (Or.inl (by omega)))).trans k9) gcS_p (pN_le (kok j (by omega)) (ppo_le (fun i hi => kg i (by omega)))) (by decide) (by rw [gcS_t]; exact (kg j (by omega)).2)) wmX6_198 jc_10 rfl rfl rfl (Nat.le_of_ble_eq_true rfl) (j_fit_rm (by omega) (by omega) (by omega)) rfl ?_
      refine j_if_eq (tgt := 137) x dX6_commands_130 (by decide) (fun hc => absurd hc (by decide)) (fun hc => ?_)
      refine j_iconst (v := 1) x dX6_commands_133 (by decide) ?_
      refine j_goto (tgt := 138) x dX6_commands_134 (by decide) ?_
      refine j_istore_n x dX6_commands_138 (by decide) rfl ?_
      refine j_goto (tgt := 94) x dX6_commands_139 (by decide) ?_
      exact j_goal (ih trivial) (wk_c rfl (wk_c rfl (wk_c (congrArg (fun z => some (Value.int z)) (nI_1 _)) (wk_c rfl (wk_0))))) gse_s
    · refine j_iload_n x dX6_commands_94 rfl ?_
      refine j_if_eq (tgt := 142) x dX6_commands_95 (by decide) (fun hc => absurd hc (by decide)) (fun hc => ?_)
      refine j_aload_n x dX6_commands_98 rfl ?_
      refine j2_callVi x hb dX6_commands_99 m_X6_isCommand (cx_sec_ok (d := d) (M := gB0 M n i) (ct := ct) (i := i0) hb hn k9 k0 (ppo_le (fun i hi => kg i (by omega))) (kok i0 (by omega))) wmX6_205 jc_10 rfl rfl rfl (Nat.le_of_ble_eq_true rfl) (j_fit_rm (by omega) (by omega) (by omega)) rfl ?_
      refine j_istore_n x dX6_commands_102 (by decide) rfl ?_
      refine j_aload_n x dX6_commands_103 rfl ?_
      refine j_iload_n x dX6_commands_104 rfl ?_
      refine j2_puti (k := 16) x hb dX6_commands_105 jc_10 wfX6_39 (by decide) rfl rfl rfl rfl ?_; change JJ _ _ _ _ _ _ _ _ _ _ _ _ _ _ _ _ _ _ _ _ (HH _ _ (gqp (gB0 M n i) n ct i0)) _ _
      refine j_aload_n x dX6_commands_108 rfl ?_
      refine j2_callVi x hb dX6_commands_109 m_X6_carries (CM_gs (cx_sec_car (d := d) (M := gB0 M n i) (n := n) (i := i0) hb hc56 kct kz kho (kok i0 (by omega))) h2) wmX6_208 jc_10 rfl rfl rfl (Nat.le_of_ble_eq_true rfl) (j_fit_rm (by omega) (by omega) (by omega)) rfl ?_
      refine j_istore_n x dX6_commands_112 (by decide) rfl ?_
      refine j_iload_n x dX6_commands_113 rfl ?_
      refine j_if_eq (tgt := 120) x dX6_commands_114 (by decide) (fun hc => ?_) (fun hc => absurd (rfl) hc)
      refine j_iload_n x dX6_commands_120 rfl ?_
      refine j_if_eq (tgt := 137) x dX6_commands_121 (by decide) (fun hc => ?_) (fun hc => absurd (rfl) hc)
      refine j_iconst (v := 0) x dX6_commands_137 (by decide) ?_
      refine j_istore_n x dX6_commands_138 (by decide) rfl ?_
      refine j_goto (tgt := 94) x dX6_commands_139 (by decide) ?_
      refine j_iload_n x dX6_commands_94 rfl ?_
      refine j_if_eq (tgt := 142) x dX6_commands_95 (by decide) (fun hc => ?_) (fun hc => absurd (rfl) hc)
      refine j_aload_n x dX6_commands_142 rfl ?_
      refine j_iconst (v := 0) x dX6_commands_143 (by decide) ?_
      refine j2_puti (k := 9) x hb dX6_commands_144 jc_10 wfX6_185 (by decide) rfl rfl rfl rfl ?_
      refine j_iload_n x dX6_commands_147 rfl ?_
      refine j_if_eq (tgt := 157) x dX6_commands_148 (by decide) (fun hc => ?_) (fun hc => absurd (rfl) hc)
      refine j_aload_n x dX6_commands_157 rfl ?_
      refine j2_callVv x hb dX6_commands_158 m_X6_comesBack (cx_comesBack (d := d) hb) wmX6_211 jc_10 rfl rfl rfl (Nat.le_of_ble_eq_true rfl) (j_fit_rm (by omega) (by omega) (by omega)) rfl ?_
      refine j_aload_n x dX6_commands_161 rfl ?_
      refine j_iconst (v := 2) x dX6_commands_162 (by decide) ?_
      refine j2_callVi x hb dX6_commands_163 m_X6_raises (cx_raises (d := d) hb) wmX6_61 jc_10 rfl rfl rfl (Nat.le_of_ble_eq_true rfl) (j_fit_rm (by omega) (by omega) (by omega)) rfl ?_
      exact j_ireturn x hr dX6_commands_166 (by omega) (by omega) ⟨rfl, rfl⟩
