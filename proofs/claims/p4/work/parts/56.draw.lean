/-! ===== the reference: the draw ===== -/
def gwk (p w : Int32) : Int32 := if jb (¬ p - 1 ≤ w) = 0 then w - p + 1 else w
def gP (t : Nat) : Nat := t + t % 2
def gother (t w j : Nat) : Int32 := gRiv (nI (gP t)) (nI j) (gwk (nI (gP t)) (nI w))
def gcond (t w j : Nat) : Prop := (¬ gother t w j < 0 ∧ ¬ nI t - 1 < gother t w j) ∧ gHm (nI (gP t)) (nI j) (gwk (nI (gP t)) (nI w)) = jb (¬ nI (gP t) - 1 ≤ nI w)
def gcondb (t w j : Nat) : Bool := (!decide (gother t w j < 0) && !decide (nI t - 1 < gother t w j)) && (gHm (nI (gP t)) (nI j) (gwk (nI (gP t)) (nI w)) == jb (¬ nI (gP t) - 1 ≤ nI w))
theorem gcond_b {t w j : Nat} : gcondb t w j = true ↔ gcond t w j := by
  unfold gcondb gcond
  simp only [Bool.and_eq_true, Bool.not_eq_true', decide_eq_false_iff_not, beq_iff_eq]
def gin (t w : Nat) : Nat → Nat
  | 0 => 0
  | j + 1 => gin t w j + (if gcondb t w j = true then 1 else 0)
def gbase (t : Nat) : Nat → Nat
  | 0 => 0
  | w + 1 => gbase t w + gin t w t
theorem gin_all : ((List.range 9).all fun t => (List.range (2 * (gP t - 1))).all fun w => (List.range 9).all fun j => decide (gbase t w + gin t w j ≤ 56)) = true := by decide +kernel
theorem gin_le {t w j : Nat} (ht : t ≤ 8) (hw : w < 2 * (gP t - 1)) (hj : j ≤ 8) : gbase t w + gin t w j ≤ 56 :=
  of_decide_eq_true (List.all_eq_true.mp (List.all_eq_true.mp (List.all_eq_true.mp gin_all t (List.mem_range.mpr (by omega))) w (List.mem_range.mpr hw)) j (List.mem_range.mpr (by omega)))
theorem gin_y {t w j : Nat} (h : gcond t w j) : gin t w (j + 1) = gin t w j + 1 := by rw [gin, if_pos (gcond_b.mpr h)]
theorem gin_n {t w j : Nat} (h : ¬ gcond t w j) : gin t w (j + 1) = gin t w j := by rw [gin, if_neg (fun q => h (gcond_b.mp q)), Nat.add_zero]
def gz (N : MM) (c : Nat) : Nat → MM
  | 0 => N
  | k + 1 => jsets (gz N c k) c k 0
def gadd (N : MM) (c t w j : Nat) : MM := jsets (jsets (jsets (jsets (gz (jm N 95 9 (nI (c + 1))) c 8) c 0 (nI j)) c 1 (gother t w j)) c 2 (nI w)) c 3 (nI w)
def gdj (N : MM) (t w : Nat) : Nat → MM
  | 0 => N
  | j + 1 => if gcondb t w j = true then gadd (gdj N t w j) (gbase t w + gin t w j) t w j else gdj N t w j
def gdw (N : MM) (t : Nat) : Nat → MM
  | 0 => jm N 95 1 (nI (2 * (gP t - 1)))
  | w + 1 => gdj (gdw N t w) t w t
theorem gz_n {N : MM} {c i z : Nat} (h : i ≠ 95 ∨ z < 18) : ∀ k, gz N c k i z = N i z
  | 0 => rfl
  | k + 1 => by rw [gz, jsets_n (by omega)]; exact gz_n h k
theorem gadd_n {N : MM} {c t w j i z : Nat} (h : i ≠ 95 ∨ (z < 18 ∧ z ≠ 9)) : gadd N c t w j i z = N i z := by
  unfold gadd
  rw [jsets_n (by omega), jsets_n (by omega), jsets_n (by omega), jsets_n (by omega), gz_n (by omega), jm_n (by omega)]
theorem gadd_9 {N : MM} {c t w j : Nat} : gadd N c t w j 95 9 = nI (c + 1) := by
  unfold gadd
  rw [jsets_n (by omega), jsets_n (by omega), jsets_n (by omega), jsets_n (by omega), gz_n (by omega), jm_s]
theorem gdj_n {N : MM} {t w i z : Nat} (h : i ≠ 95 ∨ (z < 18 ∧ z ≠ 9)) : ∀ j, gdj N t w j i z = N i z
  | 0 => rfl
  | j + 1 => by
    rw [gdj]
    split
    · rw [gadd_n h]; exact gdj_n h j
    · exact gdj_n h j
theorem gdj_9 {N : MM} {t w : Nat} (h : N 95 9 = nI (gbase t w)) : ∀ j, gdj N t w j 95 9 = nI (gbase t w + gin t w j)
  | 0 => h
  | j + 1 => by
    rw [gdj, gin]
    split
    · rw [gadd_9]; rfl
    · exact gdj_9 h j
theorem gdw_n {N : MM} {t i z : Nat} (h : i ≠ 95 ∨ (z < 18 ∧ z ≠ 9 ∧ z ≠ 1)) : ∀ w, gdw N t w i z = N i z
  | 0 => jm_n (by omega)
  | w + 1 => by rw [gdw, gdj_n (by omega)]; exact gdw_n h w
theorem gdw_1 {N : MM} {t : Nat} : ∀ w, gdw N t w 95 1 = nI (2 * (gP t - 1))
  | 0 => jm_s
  | w + 1 => by rw [gdw, gdj_n (by omega)]; exact gdw_1 w
theorem gdw_9 {N : MM} {t : Nat} (h : N 95 9 = 0) : ∀ w, gdw N t w 95 9 = nI (gbase t w)
  | 0 => by rw [gdw, jm_n (by omega), h]; rfl
  | w + 1 => by rw [gdw]; exact gdj_9 (gdw_9 h w) t
theorem gpl_all : ((List.range 9).all fun t => decide (gpl (nI t) = nI (gP t))) = true := by decide +kernel
theorem gpl_nI {t : Nat} (ht : t ≤ 8) : gpl (nI t) = nI (gP t) := of_decide_eq_true (List.all_eq_true.mp gpl_all t (List.mem_range.mpr (by omega)))
theorem gP_le {t : Nat} (h2 : 2 ≤ t) (ht : t ≤ 8) : 2 ≤ gP t ∧ gP t ≤ 8 := by unfold gP; omega
theorem j_goal_st {p : Program} {l : Launch} {e : Env} {R : Room} {s : State} {m : MethodId} {args : Array Value} {below : List Frame} {meth : Method} {c : Code} {D : va_G} {tyc : Nat → ClassId} {A : Nat → Prop} {n0 : Nat} {ad0 : Nat → Nat} {nL : Nat} {Q : State → Prop} {pc : Nat} {L : List (Option Value)} {st : List Value} {b : SBt} {Y : OUt} {M : MM} {cells slots : Nat} {v w : Int32} (h : v = w) (k : JJ p l e R s m args below meth c D tyc A n0 ad0 nL Q pc L (.int w :: st) (HH b Y M) cells slots) : JJ p l e R s m args below meth c D tyc A n0 ad0 nL Q pc L (.int v :: st) (HH b Y M) cells slots := by
  subst h
  exact k
theorem cx_draw_dr {d : Nat} {b : SBt} {Y : OUt} {M : MM} (hb : 104 ≤ b.2.1) (h1 : ¬ M 95 1 ≤ 0) : CM (d + 2) 0 0 yX6_draw cX6_draw 9 (some .int) [.ref 94] b Y M (.inl (some (.int (0)))) (jrai (jrefu (jtr M) 4 0) 1) := by
  refine Con.of (by decide +kernel) (Nat.le_of_ble_eq_true rfl) rfl fun p l e s m args below meth c D tyc A ad0 x hr htab hname => ?_
  change JJ _ _ _ _ _ _ _ _ _ _ _ _ _ _ _ _ _ 0 [some (.ref 94), none, none, none, none, none, none, none, none] [] _ 0 0
  refine j_aload_n x dX6_draw_0 rfl ?_
  refine j2_callVv x hb dX6_draw_1 m_X6_tries (cx_tries (d := d) hb) wmX6_76 jc_10 rfl rfl rfl (Nat.le_of_ble_eq_true rfl) (j_fit_rm (by omega) (by omega) (by omega)) rfl ?_
  refine j_aload_n x dX6_draw_4 rfl ?_
  refine j2_callVi x hb dX6_draw_5 m_X6_isDrawn (CM_v (cx_isDrawn (d := d) hb) (jb_t (by rw [jtr_n (by omega)]; exact h1))) wmX6_87 jc_10 rfl rfl rfl (Nat.le_of_ble_eq_true rfl) (j_fit_rm (by omega) (by omega) (by omega)) rfl ?_
  refine j_if_eq (tgt := 22) x dX6_draw_8 (by decide) (fun hc => absurd hc (by decide)) (fun hc => ?_)
  refine j_aload_n x dX6_draw_11 rfl ?_
  refine j_aload_n x dX6_draw_12 rfl ?_
  refine j_iconst (v := 4) x dX6_draw_13 (by decide) ?_
  refine j_iconst (v := 0) x dX6_draw_14 (by decide) ?_
  refine j2_callVi x hb dX6_draw_15 m_X6_refuses (cx_refuses (d := d) hb) wmX6_79 jc_10 rfl rfl rfl (Nat.le_of_ble_eq_true rfl) (j_fit_rm (by omega) (by omega) (by omega)) rfl ?_
  refine j2_callVi x hb dX6_draw_18 m_X6_ends (cx_ends_0 (d := d) hb) wmX6_83 jc_10 rfl rfl rfl (Nat.le_of_ble_eq_true rfl) (j_fit_rm (by omega) (by omega) (by omega)) rfl ?_
  exact j_ireturn x hr dX6_draw_21 (by omega) (by omega) ⟨rfl, rfl⟩
theorem cx_draw_G {d : Nat} {b : SBt} {Y : OUt} {M : MM} (hb : 104 ≤ b.2.1) {t k : Nat} (h1 : M 95 1 ≤ 0) (h0 : M 95 0 = nI t) (h9 : M 95 9 = 0) (h2 : 2 ≤ t) (ht : t ≤ 8) (hk : k ≤ 8) (h3 : M 94 3 = nI k) : CM (d + 2) 0 0 yX6_draw cX6_draw 9 (some .int) [.ref 94] b Y M (.inl (some (.int (nI (2 * (gP t - 1)))))) (jkpg (gdw (jtr M) t (2 * (gP t - 1))) k) := by
  have hgp := gP_le h2 ht
  refine Con.of (by decide +kernel) (Nat.le_of_ble_eq_true rfl) rfl fun p l e s m args below meth c D tyc A ad0 x hr htab hname => ?_
  change JJ _ _ _ _ _ _ _ _ _ _ _ _ _ _ _ _ _ 0 [some (.ref 94), none, none, none, none, none, none, none, none] [] _ 0 0
  refine j_aload_n x dX6_draw_0 rfl ?_
  refine j2_callVv x hb dX6_draw_1 m_X6_tries (cx_tries (d := d) hb) wmX6_76 jc_10 rfl rfl rfl (Nat.le_of_ble_eq_true rfl) (j_fit_rm (by omega) (by omega) (by omega)) rfl ?_
  refine j_aload_n x dX6_draw_4 rfl ?_
  refine j2_callVi x hb dX6_draw_5 m_X6_isDrawn (CM_v (cx_isDrawn (d := d) hb) (jb_f (fun z => z (by rw [jtr_n (by omega)]; exact h1)))) wmX6_87 jc_10 rfl rfl rfl (Nat.le_of_ble_eq_true rfl) (j_fit_rm (by omega) (by omega) (by omega)) rfl ?_
  refine j_if_eq (tgt := 22) x dX6_draw_8 (by decide) (fun hc => ?_) (fun hc => absurd (rfl) hc)
  refine j_aload_n x dX6_draw_22 rfl ?_
  refine j2_callVi x hb dX6_draw_23 m_X6_places (CM_v (cx_places (d := d) hb) (show _ = nI (gP t) by rw [jtr_n (by omega), h0]; exact gpl_nI ht)) wmX6_94 jc_10 rfl rfl rfl (Nat.le_of_ble_eq_true rfl) (j_fit_rm (by omega) (by omega) (by omega)) rfl ?_
  refine j_istore_n x dX6_draw_26 (by decide) rfl ?_
  refine j_aload_n x dX6_draw_27 rfl ?_
  refine j2_getr (k := 0) (r := 95) x hb dX6_draw_28 jc_10 wfX6_9 (by decide) rfl ?_
  refine j_iconst (v := 0) x dX6_draw_31 (by decide) ?_
  refine j2_ialn x hb dX6_draw_32 fa_95 (j := 0) (vp_c (by decide)) (by decide) ?_; rw [jtr_n (by omega), h0]
  refine j_iconst (v := 2) x dX6_draw_33 (by decide) ?_
  refine j_icmp_ge (tgt := 54) x dX6_draw_34 (by decide) (fun hc => ?_) (fun hc => absurd (show (2 : Int32) ≤ nI t from nI_le (a := 2) h2 (by omega)) hc)
  refine j_aload_n x dX6_draw_54 rfl ?_
  refine j2_getr (k := 0) (r := 95) x hb dX6_draw_55 jc_10 wfX6_9 (by decide) rfl ?_
  refine j_iconst (v := 1) x dX6_draw_58 (by decide) ?_
  refine j_iconst (v := 2) x dX6_draw_59 (by decide) ?_
  refine j_iload_n x dX6_draw_60 rfl ?_
  refine j_iconst (v := 1) x dX6_draw_61 (by decide) ?_
  refine j_isub x dX6_draw_62 ?_
  refine j_imul x dX6_draw_63 ?_; rw [show (nI (gP t) - 1 : Int32) = nI (gP t - 1) from nI_sub (d := 1) (by omega), show (2 : Int32) * nI (gP t - 1) = nI (2 * (gP t - 1)) from nI_mul 2 (gP t - 1)]
  refine j2_iasn x hb dX6_draw_64 fa_95 (j := 1) (vp_c (by decide)) (by decide) ?_
  refine j_iconst (v := 0) x dX6_draw_65 (by decide) ?_
  refine j_istore_n x dX6_draw_66 (by decide) rfl ?_
  refine j_for (2 * (gP t - 1)) (fun z0 => [some (.ref 94), some (.int (nI (gP t))), some (.int (nI z0)), none, none, none, none, none, none]) (fun z0 => gdw (jtr M) t z0) (fun z0 => True) (rfl) (rfl) (trivial) (fun j hj hP ih => ?_) (fun hP => ?_)
  · refine j_iload_n x dX6_draw_67 rfl ?_
    refine j_aload_n x dX6_draw_68 rfl ?_
    refine j2_getr (k := 0) (r := 95) x hb dX6_draw_69 jc_10 wfX6_9 (by decide) rfl ?_
    refine j_iconst (v := 1) x dX6_draw_72 (by decide) ?_
    refine j2_ialn x hb dX6_draw_73 fa_95 (j := 1) (vp_c (by decide)) (by decide) ?_; rw [gdw_1]
    refine j_icmp_ge (tgt := 238) x dX6_draw_74 (by decide) (fun hc => absurd hc (nI_ge hj (by omega))) (fun hc => ?_)
    refine j_iload_n x dX6_draw_77 rfl ?_
    refine j_iload_n x dX6_draw_78 rfl ?_
    refine j_iconst (v := 1) x dX6_draw_79 (by decide) ?_
    refine j_isub x dX6_draw_80 ?_
    refine j_b_icmp_ge (T := 88) (E := 89) x dX6_draw_81 (by decide) dX6_draw_84 dX6_draw_85 (by decide) dX6_draw_88 (by decide) ?_
    refine j_istore_n x dX6_draw_89 (by decide) rfl ?_
    refine j_iload_n x dX6_draw_90 rfl ?_
    refine j_if_eq (tgt := 98) x dX6_draw_91 (by decide) (fun hF => ?_) (fun hF => ?_)
    · refine j_iload_n x dX6_draw_98 rfl ?_
      refine j_iload_n x dX6_draw_99 rfl ?_
      refine j_isub x dX6_draw_100 ?_
      refine j_iconst (v := 1) x dX6_draw_101 (by decide) ?_
      refine j_iadd x dX6_draw_102 ?_
      rw [show (nI j - nI (gP t) + 1 : Int32) = gwk (nI (gP t)) (nI j) from (if_pos hF).symm]; refine j_istore x dX6_draw_103 (by decide) rfl ?_
      refine j_iconst (v := 0) x dX6_draw_105 (by decide) ?_
      refine j_istore x dX6_draw_106 (by decide) rfl ?_
      refine j_for (t) (fun z0 => [some (.ref 94), some (.int (nI (gP t))), some (.int (nI j)), some (.int (jb (¬ nI (gP t) - 1 ≤ nI j))), some (.int (gwk (nI (gP t)) (nI j))), some (.int (nI z0)), none, none, none]) (fun z0 => gdj (gdw (jtr M) t j) t j z0) (fun z0 => True) (rfl) (rfl) (trivial) (fun ja hja hPa iha => ?_) (fun hPa => ?_)
      · refine j_iload x dX6_draw_108 rfl ?_
        refine j_aload_n x dX6_draw_110 rfl ?_
        refine j2_getr (k := 0) (r := 95) x hb dX6_draw_111 jc_10 wfX6_9 (by decide) rfl ?_
        refine j_iconst (v := 0) x dX6_draw_114 (by decide) ?_
        refine j2_ialn x hb dX6_draw_115 fa_95 (j := 0) (vp_c (by decide)) (by decide) ?_; rw [gdj_n (by omega), gdw_n (by omega), jtr_n (by omega), h0]
        refine j_icmp_ge (tgt := 232) x dX6_draw_116 (by decide) (fun hc => absurd hc (nI_ge hja (by omega))) (fun hc => ?_)
        have h95 : (gdj (gdw (jtr M) t j) t j ja) 95 0 = nI t := (by rw [gdj_n (by omega), gdw_n (by omega), jtr_n (by omega), h0]); have hpl : gpl ((gdj (gdw (jtr M) t j) t j ja) 95 0) = nI (gP t) := (by rw [h95]; exact gpl_nI ht); have hpx : ¬ gpl ((gdj (gdw (jtr M) t j) t j ja) 95 0) - 1 = 0 := (by rw [hpl, show (nI (gP t) - 1 : Int32) = nI (gP t - 1) from nI_sub (d := 1) (by omega)]; exact nI_ne0 (by omega) (by omega)); refine j_aload_n x dX6_draw_119 rfl ?_
        refine j_iload x dX6_draw_120 rfl ?_
        refine j_iload x dX6_draw_122 rfl ?_
        refine j2_callVi x hb dX6_draw_124 m_X6_rival (show CM (d + 1) 0 0 _ _ _ _ _ b Y (gdj (gdw (jtr M) t j) t j ja) (.inl (some (.int (gother t j ja)))) (gdj (gdw (jtr M) t j) t j ja) from by have z := cx_rival (d := d) (Y := Y) (M := (gdj (gdw (jtr M) t j) t j ja)) (t := nI ja) (w := gwk (nI (gP t)) (nI j)) hb hpx; rw [hpl] at z; exact z) wmX6_103 jc_10 rfl rfl rfl (Nat.le_of_ble_eq_true rfl) (j_fit_rm (by omega) (by omega) (by omega)) rfl ?_
        refine j_istore x dX6_draw_127 (by decide) rfl ?_
        refine j_aload_n x dX6_draw_129 rfl ?_
        refine j_iload x dX6_draw_130 rfl ?_
        refine j2_callVi x hb dX6_draw_132 m_X6_isTeam (CM_v (cx_isTeam (d := d) hb) (show _ = jb (¬ gother t j ja < 0 ∧ ¬ nI t - 1 < gother t j ja) by rw [h95])) wmX6_91 jc_10 rfl rfl rfl (Nat.le_of_ble_eq_true rfl) (j_fit_rm (by omega) (by omega) (by omega)) rfl ?_
        refine j_if_eq (tgt := 226) x dX6_draw_135 (by decide) (fun g1 => ?_) (fun g1 => ?_)
        · refine j_iinc x dX6_draw_226 rfl (by decide) rfl ?_
          refine j_goto (tgt := 108) x dX6_draw_229 (by decide) ?_
          exact j_goal (iha (trivial)) (wk_c rfl (wk_c rfl (wk_c rfl (wk_c rfl (wk_c rfl (wk_c (congrArg (fun z => some (Value.int z)) (nI_1 _)) (wk_n (wk_n (wk_n (wk_0)))))))))) (by rw [gdj, if_neg (fun z => (fun y => jb_0.mp g1 y.1) (gcond_b.mp z))])
        · refine j_aload_n x dX6_draw_138 rfl ?_
          refine j_iload x dX6_draw_139 rfl ?_
          refine j_iload x dX6_draw_141 rfl ?_
          refine j2_callVi x hb dX6_draw_143 m_X6_isAtHome (show CM (d + 1) 0 0 _ _ _ _ _ b Y (gdj (gdw (jtr M) t j) t j ja) (.inl (some (.int (gHm (nI (gP t)) (nI ja) (gwk (nI (gP t)) (nI j)))))) (gdj (gdw (jtr M) t j) t j ja) from by have z := cx_isAtHome (d := d) (Y := Y) (M := (gdj (gdw (jtr M) t j) t j ja)) (t := nI ja) (w := gwk (nI (gP t)) (nI j)) hb hpx; rw [hpl] at z; exact z) wmX6_106 jc_10 rfl rfl rfl (Nat.le_of_ble_eq_true rfl) (j_fit_rm (by omega) (by omega) (by omega)) rfl ?_
          refine j_iload_n x dX6_draw_146 rfl ?_
          refine j_icmp_eq (tgt := 153) x dX6_draw_147 (by decide) (fun g2 => ?_) (fun g2 => ?_)
          · have hgc : gcond t j ja := ⟨jb_nz.mp g1, g2⟩; have hc56 : (gbase t j + gin t j ja) < 56 := (by have z := gin_le (t := t) (w := j) (j := ja + 1) ht hj (by omega); rw [gin_y hgc] at z; omega); refine j_aload_n x dX6_draw_153 rfl ?_
            refine j2_getr (k := 0) (r := 95) x hb dX6_draw_154 jc_10 wfX6_9 (by decide) rfl ?_
            refine j_bipush (v := 9) x dX6_draw_157 (by decide) ?_
            refine j_dup2 x dX6_draw_159 rfl rfl ?_
            refine j2_ialn x hb dX6_draw_160 fa_95 (j := 9) (vp_c (by decide)) (by decide) ?_; rw [gdj_9 (gdw_9 (by rw [jtr_n (by omega)]; exact h9) j)]
            refine j_dup_x2 x dX6_draw_161 rfl rfl rfl ?_
            refine j_iconst (v := 1) x dX6_draw_162 (by decide) ?_
            refine j_iadd x dX6_draw_163 ?_; rw [nI_1]
            refine j2_iasn x hb dX6_draw_164 fa_95 (j := 9) (vp_c (by decide)) (by decide) ?_
            refine j_istore x dX6_draw_165 (by decide) rfl ?_
            refine j_iconst (v := 0) x dX6_draw_167 (by decide) ?_
            refine j_istore x dX6_draw_168 (by decide) rfl ?_
            refine j_for (8) (fun z0 => [some (.ref 94), some (.int (nI (gP t))), some (.int (nI j)), some (.int (jb (¬ nI (gP t) - 1 ≤ nI j))), some (.int (gwk (nI (gP t)) (nI j))), some (.int (nI ja)), some (.int (gother t j ja)), some (.int (nI (gbase t j + gin t j ja))), some (.int (nI z0))]) (fun z0 => gz (jm (gdj (gdw (jtr M) t j) t j ja) 95 9 (nI ((gbase t j + gin t j ja) + 1))) (gbase t j + gin t j ja) z0) (fun z0 => True) (rfl) (rfl) (trivial) (fun jc hjc hPc ihc => ?_) (fun hPc => ?_)
            · refine j_iload x dX6_draw_170 rfl ?_
              refine j_bipush (v := 8) x dX6_draw_172 (by decide) ?_
              refine j_icmp_ge (tgt := 192) x dX6_draw_174 (by decide) (fun hc => absurd hc (nI_ge hjc (by decide))) (fun hc => ?_)
              refine j_aload_n x dX6_draw_177 rfl ?_
              refine j_iload x dX6_draw_178 rfl ?_
              refine j_iload x dX6_draw_180 rfl ?_
              refine j_iconst (v := 0) x dX6_draw_182 (by decide) ?_
              refine j2_callVv x hb dX6_draw_183 m_X6_sets (cx_sets (d := d) hb (m1 := (gbase t j + gin t j ja)) (w1 := jc) hc56 (by omega)) wmX6_109 jc_10 rfl rfl rfl (Nat.le_of_ble_eq_true rfl) (j_fit_rm (by omega) (by omega) (by omega)) rfl ?_
              refine j_iinc x dX6_draw_186 rfl (by decide) rfl ?_
              refine j_goto (tgt := 170) x dX6_draw_189 (by decide) ?_
              exact j_goal (ihc (trivial)) (wk_c rfl (wk_c rfl (wk_c rfl (wk_c rfl (wk_c rfl (wk_c rfl (wk_c rfl (wk_c rfl (wk_c (congrArg (fun z => some (Value.int z)) (nI_1 _)) (wk_0)))))))))) (rfl)
            refine j_iload x dX6_draw_170 rfl ?_
            refine j_bipush (v := 8) x dX6_draw_172 (by decide) ?_
            refine j_icmp_ge (tgt := 192) x dX6_draw_174 (by decide) (fun hc => ?_) (fun hc => absurd (nI_le (Nat.le_refl 8) (by decide)) hc)
            refine j_aload_n x dX6_draw_192 rfl ?_
            refine j_iload x dX6_draw_193 rfl ?_
            refine j_iconst (v := 0) x dX6_draw_195 (by decide) ?_
            refine j_iload x dX6_draw_196 rfl ?_
            refine j2_callVv x hb dX6_draw_198 m_X6_sets (cx_sets (d := d) hb (m1 := (gbase t j + gin t j ja)) (w1 := 0) hc56 (by omega)) wmX6_109 jc_10 rfl rfl rfl (Nat.le_of_ble_eq_true rfl) (j_fit_rm (by omega) (by omega) (by omega)) rfl ?_
            refine j_aload_n x dX6_draw_201 rfl ?_
            refine j_iload x dX6_draw_202 rfl ?_
            refine j_iconst (v := 1) x dX6_draw_204 (by decide) ?_
            refine j_iload x dX6_draw_205 rfl ?_
            refine j2_callVv x hb dX6_draw_207 m_X6_sets (cx_sets (d := d) hb (m1 := (gbase t j + gin t j ja)) (w1 := 1) hc56 (by omega)) wmX6_109 jc_10 rfl rfl rfl (Nat.le_of_ble_eq_true rfl) (j_fit_rm (by omega) (by omega) (by omega)) rfl ?_
            refine j_aload_n x dX6_draw_210 rfl ?_
            refine j_iload x dX6_draw_211 rfl ?_
            refine j_iconst (v := 2) x dX6_draw_213 (by decide) ?_
            refine j_iload_n x dX6_draw_214 rfl ?_
            refine j2_callVv x hb dX6_draw_215 m_X6_sets (cx_sets (d := d) hb (m1 := (gbase t j + gin t j ja)) (w1 := 2) hc56 (by omega)) wmX6_109 jc_10 rfl rfl rfl (Nat.le_of_ble_eq_true rfl) (j_fit_rm (by omega) (by omega) (by omega)) rfl ?_
            refine j_aload_n x dX6_draw_218 rfl ?_
            refine j_iload x dX6_draw_219 rfl ?_
            refine j_iconst (v := 3) x dX6_draw_221 (by decide) ?_
            refine j_iload_n x dX6_draw_222 rfl ?_
            refine j2_callVv x hb dX6_draw_223 m_X6_sets (cx_sets (d := d) hb (m1 := (gbase t j + gin t j ja)) (w1 := 3) hc56 (by omega)) wmX6_109 jc_10 rfl rfl rfl (Nat.le_of_ble_eq_true rfl) (j_fit_rm (by omega) (by omega) (by omega)) rfl ?_
            refine j_iinc x dX6_draw_226 rfl (by decide) rfl ?_
            refine j_goto (tgt := 108) x dX6_draw_229 (by decide) ?_
            exact j_goal (iha (trivial)) (wk_c rfl (wk_c rfl (wk_c rfl (wk_c rfl (wk_c rfl (wk_c (congrArg (fun z => some (Value.int z)) (nI_1 _)) (wk_n (wk_n (wk_n (wk_0)))))))))) (by rw [gdj, if_pos (gcond_b.mpr hgc)]; rfl)
          · refine j_goto (tgt := 226) x dX6_draw_150 (by decide) ?_
            refine j_iinc x dX6_draw_226 rfl (by decide) rfl ?_
            refine j_goto (tgt := 108) x dX6_draw_229 (by decide) ?_
            exact j_goal (iha (trivial)) (wk_c rfl (wk_c rfl (wk_c rfl (wk_c rfl (wk_c rfl (wk_c (congrArg (fun z => some (Value.int z)) (nI_1 _)) (wk_n (wk_n (wk_n (wk_0)))))))))) (by rw [gdj, if_neg (fun z => (fun y => g2 y.2) (gcond_b.mp z))])
      refine j_iload x dX6_draw_108 rfl ?_
      refine j_aload_n x dX6_draw_110 rfl ?_
      refine j2_getr (k := 0) (r := 95) x hb dX6_draw_111 jc_10 wfX6_9 (by decide) rfl ?_
      refine j_iconst (v := 0) x dX6_draw_114 (by decide) ?_
      refine j2_ialn x hb dX6_draw_115 fa_95 (j := 0) (vp_c (by decide)) (by decide) ?_; rw [gdj_n (by omega), gdw_n (by omega), jtr_n (by omega), h0]
      refine j_icmp_ge (tgt := 232) x dX6_draw_116 (by decide) (fun hc => ?_) (fun hc => absurd (nI_le (Nat.le_refl _) (by omega)) hc)
      refine j_iinc x dX6_draw_232 rfl (by decide) rfl ?_
      refine j_goto (tgt := 67) x dX6_draw_235 (by decide) ?_
      exact j_goal (ih (trivial)) (wk_c rfl (wk_c rfl (wk_c (congrArg (fun z => some (Value.int z)) (nI_1 _)) (wk_n (wk_n (wk_n (wk_n (wk_n (wk_n (wk_0)))))))))) (rfl)
    · refine j_iload_n x dX6_draw_94 rfl ?_
      refine j_goto (tgt := 103) x dX6_draw_95 (by decide) ?_
      refine j_goal_st (show (nI j : Int32) = gwk (nI (gP t)) (nI j) from (if_neg hF).symm) ?_; refine j_istore x dX6_draw_103 (by decide) rfl ?_
      refine j_iconst (v := 0) x dX6_draw_105 (by decide) ?_
      refine j_istore x dX6_draw_106 (by decide) rfl ?_
      refine j_for (t) (fun z0 => [some (.ref 94), some (.int (nI (gP t))), some (.int (nI j)), some (.int (jb (¬ nI (gP t) - 1 ≤ nI j))), some (.int (gwk (nI (gP t)) (nI j))), some (.int (nI z0)), none, none, none]) (fun z0 => gdj (gdw (jtr M) t j) t j z0) (fun z0 => True) (rfl) (rfl) (trivial) (fun ja hja hPa iha => ?_) (fun hPa => ?_)
      · refine j_iload x dX6_draw_108 rfl ?_
        refine j_aload_n x dX6_draw_110 rfl ?_
        refine j2_getr (k := 0) (r := 95) x hb dX6_draw_111 jc_10 wfX6_9 (by decide) rfl ?_
        refine j_iconst (v := 0) x dX6_draw_114 (by decide) ?_
        refine j2_ialn x hb dX6_draw_115 fa_95 (j := 0) (vp_c (by decide)) (by decide) ?_; rw [gdj_n (by omega), gdw_n (by omega), jtr_n (by omega), h0]
        refine j_icmp_ge (tgt := 232) x dX6_draw_116 (by decide) (fun hc => absurd hc (nI_ge hja (by omega))) (fun hc => ?_)
        have h95 : (gdj (gdw (jtr M) t j) t j ja) 95 0 = nI t := (by rw [gdj_n (by omega), gdw_n (by omega), jtr_n (by omega), h0]); have hpl : gpl ((gdj (gdw (jtr M) t j) t j ja) 95 0) = nI (gP t) := (by rw [h95]; exact gpl_nI ht); have hpx : ¬ gpl ((gdj (gdw (jtr M) t j) t j ja) 95 0) - 1 = 0 := (by rw [hpl, show (nI (gP t) - 1 : Int32) = nI (gP t - 1) from nI_sub (d := 1) (by omega)]; exact nI_ne0 (by omega) (by omega)); refine j_aload_n x dX6_draw_119 rfl ?_
        refine j_iload x dX6_draw_120 rfl ?_
        refine j_iload x dX6_draw_122 rfl ?_
        refine j2_callVi x hb dX6_draw_124 m_X6_rival (show CM (d + 1) 0 0 _ _ _ _ _ b Y (gdj (gdw (jtr M) t j) t j ja) (.inl (some (.int (gother t j ja)))) (gdj (gdw (jtr M) t j) t j ja) from by have z := cx_rival (d := d) (Y := Y) (M := (gdj (gdw (jtr M) t j) t j ja)) (t := nI ja) (w := gwk (nI (gP t)) (nI j)) hb hpx; rw [hpl] at z; exact z) wmX6_103 jc_10 rfl rfl rfl (Nat.le_of_ble_eq_true rfl) (j_fit_rm (by omega) (by omega) (by omega)) rfl ?_
        refine j_istore x dX6_draw_127 (by decide) rfl ?_
        refine j_aload_n x dX6_draw_129 rfl ?_
        refine j_iload x dX6_draw_130 rfl ?_
        refine j2_callVi x hb dX6_draw_132 m_X6_isTeam (CM_v (cx_isTeam (d := d) hb) (show _ = jb (¬ gother t j ja < 0 ∧ ¬ nI t - 1 < gother t j ja) by rw [h95])) wmX6_91 jc_10 rfl rfl rfl (Nat.le_of_ble_eq_true rfl) (j_fit_rm (by omega) (by omega) (by omega)) rfl ?_
        refine j_if_eq (tgt := 226) x dX6_draw_135 (by decide) (fun g1 => ?_) (fun g1 => ?_)
        · refine j_iinc x dX6_draw_226 rfl (by decide) rfl ?_
          refine j_goto (tgt := 108) x dX6_draw_229 (by decide) ?_
          exact j_goal (iha (trivial)) (wk_c rfl (wk_c rfl (wk_c rfl (wk_c rfl (wk_c rfl (wk_c (congrArg (fun z => some (Value.int z)) (nI_1 _)) (wk_n (wk_n (wk_n (wk_0)))))))))) (by rw [gdj, if_neg (fun z => (fun y => jb_0.mp g1 y.1) (gcond_b.mp z))])
        · refine j_aload_n x dX6_draw_138 rfl ?_
          refine j_iload x dX6_draw_139 rfl ?_
          refine j_iload x dX6_draw_141 rfl ?_
          refine j2_callVi x hb dX6_draw_143 m_X6_isAtHome (show CM (d + 1) 0 0 _ _ _ _ _ b Y (gdj (gdw (jtr M) t j) t j ja) (.inl (some (.int (gHm (nI (gP t)) (nI ja) (gwk (nI (gP t)) (nI j)))))) (gdj (gdw (jtr M) t j) t j ja) from by have z := cx_isAtHome (d := d) (Y := Y) (M := (gdj (gdw (jtr M) t j) t j ja)) (t := nI ja) (w := gwk (nI (gP t)) (nI j)) hb hpx; rw [hpl] at z; exact z) wmX6_106 jc_10 rfl rfl rfl (Nat.le_of_ble_eq_true rfl) (j_fit_rm (by omega) (by omega) (by omega)) rfl ?_
          refine j_iload_n x dX6_draw_146 rfl ?_
          refine j_icmp_eq (tgt := 153) x dX6_draw_147 (by decide) (fun g2 => ?_) (fun g2 => ?_)
          · have hgc : gcond t j ja := ⟨jb_nz.mp g1, g2⟩; have hc56 : (gbase t j + gin t j ja) < 56 := (by have z := gin_le (t := t) (w := j) (j := ja + 1) ht hj (by omega); rw [gin_y hgc] at z; omega); refine j_aload_n x dX6_draw_153 rfl ?_
            refine j2_getr (k := 0) (r := 95) x hb dX6_draw_154 jc_10 wfX6_9 (by decide) rfl ?_
            refine j_bipush (v := 9) x dX6_draw_157 (by decide) ?_
            refine j_dup2 x dX6_draw_159 rfl rfl ?_
            refine j2_ialn x hb dX6_draw_160 fa_95 (j := 9) (vp_c (by decide)) (by decide) ?_; rw [gdj_9 (gdw_9 (by rw [jtr_n (by omega)]; exact h9) j)]
            refine j_dup_x2 x dX6_draw_161 rfl rfl rfl ?_
            refine j_iconst (v := 1) x dX6_draw_162 (by decide) ?_
            refine j_iadd x dX6_draw_163 ?_; rw [nI_1]
            refine j2_iasn x hb dX6_draw_164 fa_95 (j := 9) (vp_c (by decide)) (by decide) ?_
            refine j_istore x dX6_draw_165 (by decide) rfl ?_
            refine j_iconst (v := 0) x dX6_draw_167 (by decide) ?_
            refine j_istore x dX6_draw_168 (by decide) rfl ?_
            refine j_for (8) (fun z0 => [some (.ref 94), some (.int (nI (gP t))), some (.int (nI j)), some (.int (jb (¬ nI (gP t) - 1 ≤ nI j))), some (.int (gwk (nI (gP t)) (nI j))), some (.int (nI ja)), some (.int (gother t j ja)), some (.int (nI (gbase t j + gin t j ja))), some (.int (nI z0))]) (fun z0 => gz (jm (gdj (gdw (jtr M) t j) t j ja) 95 9 (nI ((gbase t j + gin t j ja) + 1))) (gbase t j + gin t j ja) z0) (fun z0 => True) (rfl) (rfl) (trivial) (fun jc hjc hPc ihc => ?_) (fun hPc => ?_)
            · refine j_iload x dX6_draw_170 rfl ?_
              refine j_bipush (v := 8) x dX6_draw_172 (by decide) ?_
              refine j_icmp_ge (tgt := 192) x dX6_draw_174 (by decide) (fun hc => absurd hc (nI_ge hjc (by decide))) (fun hc => ?_)
              refine j_aload_n x dX6_draw_177 rfl ?_
              refine j_iload x dX6_draw_178 rfl ?_
              refine j_iload x dX6_draw_180 rfl ?_
              refine j_iconst (v := 0) x dX6_draw_182 (by decide) ?_
              refine j2_callVv x hb dX6_draw_183 m_X6_sets (cx_sets (d := d) hb (m1 := (gbase t j + gin t j ja)) (w1 := jc) hc56 (by omega)) wmX6_109 jc_10 rfl rfl rfl (Nat.le_of_ble_eq_true rfl) (j_fit_rm (by omega) (by omega) (by omega)) rfl ?_
              refine j_iinc x dX6_draw_186 rfl (by decide) rfl ?_
              refine j_goto (tgt := 170) x dX6_draw_189 (by decide) ?_
              exact j_goal (ihc (trivial)) (wk_c rfl (wk_c rfl (wk_c rfl (wk_c rfl (wk_c rfl (wk_c rfl (wk_c rfl (wk_c rfl (wk_c (congrArg (fun z => some (Value.int z)) (nI_1 _)) (wk_0)))))))))) (rfl)
            refine j_iload x dX6_draw_170 rfl ?_
            refine j_bipush (v := 8) x dX6_draw_172 (by decide) ?_
            refine j_icmp_ge (tgt := 192) x dX6_draw_174 (by decide) (fun hc => ?_) (fun hc => absurd (nI_le (Nat.le_refl 8) (by decide)) hc)
            refine j_aload_n x dX6_draw_192 rfl ?_
            refine j_iload x dX6_draw_193 rfl ?_
            refine j_iconst (v := 0) x dX6_draw_195 (by decide) ?_
            refine j_iload x dX6_draw_196 rfl ?_
            refine j2_callVv x hb dX6_draw_198 m_X6_sets (cx_sets (d := d) hb (m1 := (gbase t j + gin t j ja)) (w1 := 0) hc56 (by omega)) wmX6_109 jc_10 rfl rfl rfl (Nat.le_of_ble_eq_true rfl) (j_fit_rm (by omega) (by omega) (by omega)) rfl ?_
            refine j_aload_n x dX6_draw_201 rfl ?_
            refine j_iload x dX6_draw_202 rfl ?_
            refine j_iconst (v := 1) x dX6_draw_204 (by decide) ?_
            refine j_iload x dX6_draw_205 rfl ?_
            refine j2_callVv x hb dX6_draw_207 m_X6_sets (cx_sets (d := d) hb (m1 := (gbase t j + gin t j ja)) (w1 := 1) hc56 (by omega)) wmX6_109 jc_10 rfl rfl rfl (Nat.le_of_ble_eq_true rfl) (j_fit_rm (by omega) (by omega) (by omega)) rfl ?_
            refine j_aload_n x dX6_draw_210 rfl ?_
            refine j_iload x dX6_draw_211 rfl ?_
            refine j_iconst (v := 2) x dX6_draw_213 (by decide) ?_
            refine j_iload_n x dX6_draw_214 rfl ?_
            refine j2_callVv x hb dX6_draw_215 m_X6_sets (cx_sets (d := d) hb (m1 := (gbase t j + gin t j ja)) (w1 := 2) hc56 (by omega)) wmX6_109 jc_10 rfl rfl rfl (Nat.le_of_ble_eq_true rfl) (j_fit_rm (by omega) (by omega) (by omega)) rfl ?_
            refine j_aload_n x dX6_draw_218 rfl ?_
            refine j_iload x dX6_draw_219 rfl ?_
            refine j_iconst (v := 3) x dX6_draw_221 (by decide) ?_
            refine j_iload_n x dX6_draw_222 rfl ?_
            refine j2_callVv x hb dX6_draw_223 m_X6_sets (cx_sets (d := d) hb (m1 := (gbase t j + gin t j ja)) (w1 := 3) hc56 (by omega)) wmX6_109 jc_10 rfl rfl rfl (Nat.le_of_ble_eq_true rfl) (j_fit_rm (by omega) (by omega) (by omega)) rfl ?_
            refine j_iinc x dX6_draw_226 rfl (by decide) rfl ?_
            refine j_goto (tgt := 108) x dX6_draw_229 (by decide) ?_
            exact j_goal (iha (trivial)) (wk_c rfl (wk_c rfl (wk_c rfl (wk_c rfl (wk_c rfl (wk_c (congrArg (fun z => some (Value.int z)) (nI_1 _)) (wk_n (wk_n (wk_n (wk_0)))))))))) (by rw [gdj, if_pos (gcond_b.mpr hgc)]; rfl)
          · refine j_goto (tgt := 226) x dX6_draw_150 (by decide) ?_
            refine j_iinc x dX6_draw_226 rfl (by decide) rfl ?_
            refine j_goto (tgt := 108) x dX6_draw_229 (by decide) ?_
            exact j_goal (iha (trivial)) (wk_c rfl (wk_c rfl (wk_c rfl (wk_c rfl (wk_c rfl (wk_c (congrArg (fun z => some (Value.int z)) (nI_1 _)) (wk_n (wk_n (wk_n (wk_0)))))))))) (by rw [gdj, if_neg (fun z => (fun y => g2 y.2) (gcond_b.mp z))])
      refine j_iload x dX6_draw_108 rfl ?_
      refine j_aload_n x dX6_draw_110 rfl ?_
      refine j2_getr (k := 0) (r := 95) x hb dX6_draw_111 jc_10 wfX6_9 (by decide) rfl ?_
      refine j_iconst (v := 0) x dX6_draw_114 (by decide) ?_
      refine j2_ialn x hb dX6_draw_115 fa_95 (j := 0) (vp_c (by decide)) (by decide) ?_; rw [gdj_n (by omega), gdw_n (by omega), jtr_n (by omega), h0]
      refine j_icmp_ge (tgt := 232) x dX6_draw_116 (by decide) (fun hc => ?_) (fun hc => absurd (nI_le (Nat.le_refl _) (by omega)) hc)
      refine j_iinc x dX6_draw_232 rfl (by decide) rfl ?_
      refine j_goto (tgt := 67) x dX6_draw_235 (by decide) ?_
      exact j_goal (ih (trivial)) (wk_c rfl (wk_c rfl (wk_c (congrArg (fun z => some (Value.int z)) (nI_1 _)) (wk_n (wk_n (wk_n (wk_n (wk_n (wk_n (wk_0)))))))))) (rfl)
  refine j_iload_n x dX6_draw_67 rfl ?_
  refine j_aload_n x dX6_draw_68 rfl ?_
  refine j2_getr (k := 0) (r := 95) x hb dX6_draw_69 jc_10 wfX6_9 (by decide) rfl ?_
  refine j_iconst (v := 1) x dX6_draw_72 (by decide) ?_
  refine j2_ialn x hb dX6_draw_73 fa_95 (j := 1) (vp_c (by decide)) (by decide) ?_; rw [gdw_1]
  refine j_icmp_ge (tgt := 238) x dX6_draw_74 (by decide) (fun hc => ?_) (fun hc => absurd (nI_le (Nat.le_refl _) (by omega)) hc)
  refine j_aload_n x dX6_draw_238 rfl ?_
  refine j_aload_n x dX6_draw_239 rfl ?_
  refine j2_getr (k := 0) (r := 95) x hb dX6_draw_240 jc_10 wfX6_9 (by decide) rfl ?_
  refine j_iconst (v := 1) x dX6_draw_243 (by decide) ?_
  refine j2_ialn x hb dX6_draw_244 fa_95 (j := 1) (vp_c (by decide)) (by decide) ?_; rw [gdw_1]
  refine j2_callVi x hb dX6_draw_245 m_X6_keeps (cx_keepsG (d := d) hb hk (by rw [gdw_n (by omega), jtr_f (by omega) (by omega)]; exact h3)) wmX6_57 jc_10 rfl rfl rfl (Nat.le_of_ble_eq_true rfl) (j_fit_rm (by omega) (by omega) (by omega)) rfl ?_
  exact j_ireturn x hr dX6_draw_248 (by omega) (by omega) ⟨rfl, rfl⟩
