section
/-! ===== the reference: the draw ===== -/
def gwk (p w : Int32) : Int32 := if jb (¬ p - 1 ≤ w) = 0 then w - p + 1 else w
def gP (t : Nat) : Nat := t + t % 2
def gother (t w j : Nat) : Int32 := gRiv (nI (gP t)) (nI j) (gwk (nI (gP t)) (nI w))
def gcond (t w j : Nat) : Prop := (¬ gother t w j < 0 ∧ ¬ nI t - 1 < gother t w j) ∧ gHm (nI (gP t)) (nI j) (gwk (nI (gP t)) (nI w)) = jb (¬ nI (gP t) - 1 ≤ nI w)
def gcondb (t w j : Nat) : Bool := (!decide (gother t w j < 0) && !decide (nI t - 1 < gother t w j)) && (gHm (nI (gP t)) (nI j) (gwk (nI (gP t)) (nI w)) == jb (¬ nI (gP t) - 1 ≤ nI w))
theorem gcond_b {t w j : Nat} : gcondb t w j = true ↔ gcond t w j := by
  unfold gcondb gcond
  simp only [Bool.and_eq_true, Bool.not_eq_true', decide_eq_false_iff_not, beq_iff_eq]
def gin (t w : Nat) : Nat → Nat
  | 0 => 0
  | j + 1 => gin t w j + (if gcondb t w j = true then 1 else 0)
def gbase (t : Nat) : Nat → Nat
  | 0 => 0
  | w + 1 => gbase t w + gin t w t
theorem gin_all : ((List.range 9).all fun t => (List.range (2 * (gP t - 1))).all fun w => (List.range 9).all fun j => decide (gbase t w + gin t w j ≤ 56)) = true := by decide +kernel
theorem gin_le {t w j : Nat} (ht : t ≤ 8) (hw : w < 2 * (gP t - 1)) (hj : j ≤ 8) : gbase t w + gin t w j ≤ 56 :=
  of_decide_eq_true (List.all_eq_true.mp (List.all_eq_true.mp (List.all_eq_true.mp gin_all t (List.mem_range.mpr (by omega))) w (List.mem_range.mpr hw)) j (List.mem_range.mpr (by omega)))
theorem gin_y {t w j : Nat} (h : gcond t w j) : gin t w (j + 1) = gin t w j + 1 := by rw [gin, if_pos (gcond_b.mpr h)]
theorem gin_n {t w j : Nat} (h : ¬ gcond t w j) : gin t w (j + 1) = gin t w j := by rw [gin, if_neg (fun q => h (gcond_b.mp q)), Nat.add_zero]
def gz (N : MM) (c : Nat) : Nat → MM
  | 0 => N
  | k + 1 => jsets (gz N c k) c k 0
def gadd (N : MM) (c t w j : Nat) : MM := jsets (jsets (jsets (jsets (gz (jm N 95 9 (nI (c + 1))) c 8) c 0 (nI j)) c 1 (gother t w j)) c 2 (nI w)) c 3 (nI w)
def gdj (N : MM) (t w : Nat) : Nat → MM
  | 0 => N
  | j + 1 => if gcondb t w j = true then gadd (gdj N t w j) (gbase t w + gin t w j) t w j else gdj N t w j
def gdw (N : MM) (t : Nat) : Nat → MM
  | 0 => jm N 95 1 (nI (2 * (gP t - 1)))
  | w + 1 => gdj (gdw N t w) t w t
theorem gz_n {N : MM} {c i z : Nat} (h : i ≠ 95 ∨ z < 18) : ∀ k, gz N c k i z = N i z
  | 0 => rfl
  | k + 1 => by rw [gz, jsets_n (by omega)]; exact gz_n h k
theorem gadd_n {N : MM} {c t w j i z : Nat} (h : i ≠ 95 ∨ (z < 18 ∧ z ≠ 9)) : gadd N c t w j i z = N i z := by
  unfold gadd
  rw [jsets_n (by omega), jsets_n (by omega), jsets_n (by omega), jsets_n (by omega), gz_n (by omega), jm_n (by omega)]
theorem gadd_9 {N : MM} {c t w j : Nat} : gadd N c t w j 95 9 = nI (c + 1) := by
  unfold gadd
  rw [jsets_n (by omega), jsets_n (by omega), jsets_n (by omega), jsets_n (by omega), gz_n (by omega), jm_s]
theorem gdj_n {N : MM} {t w i z : Nat} (h : i ≠ 95 ∨ (z < 18 ∧ z ≠ 9)) : ∀ j, gdj N t w j i z = N i z
  | 0 => rfl
  | j + 1 => by
    rw [gdj]
    split
    · rw [gadd_n h]; exact gdj_n h j
    · exact gdj_n h j
theorem gdj_9 {N : MM} {t w : Nat} (h : N 95 9 = nI (gbase t w)) : ∀ j, gdj N t w j 95 9 = nI (gbase t w + gin t w j)
  | 0 => h
  | j + 1 => by
    rw [gdj, gin]
    split
    · rw [gadd_9]; rfl
    · exact gdj_9 h j
theorem gdw_n {N : MM} {t i z : Nat} (h : i ≠ 95 ∨ (z < 18 ∧ z ≠ 9 ∧ z ≠ 1)) : ∀ w, gdw N t w i z = N i z
  | 0 => jm_n (by omega)
  | w + 1 => by rw [gdw, gdj_n (by omega)]; exact gdw_n h w
theorem gdw_1 {N : MM} {t : Nat} : ∀ w, gdw N t w 95 1 = nI (2 * (gP t - 1))
  | 0 => jm_s
  | w + 1 => by rw [gdw, gdj_n (by omega)]; exact gdw_1 w
theorem gdw_9 {N : MM} {t : Nat} (h : N 95 9 = 0) : ∀ w, gdw N t w 95 9 = nI (gbase t w)
  | 0 => by rw [gdw, jm_n (by omega), h]; rfl
  | w + 1 => by rw [gdw]; exact gdj_9 (gdw_9 h w) t
theorem gpl_all : ((List.range 9).all fun t => decide (gpl (nI t) = nI (gP t))) = true := by decide +kernel
theorem gpl_nI {t : Nat} (ht : t ≤ 8) : gpl (nI t) = nI (gP t) := of_decide_eq_true (List.all_eq_true.mp gpl_all t (List.mem_range.mpr (by omega)))
theorem gP_le {t : Nat} (h2 : 2 ≤ t) (ht : t ≤ 8) : 2 ≤ gP t ∧ gP t ≤ 8 := by unfold gP; omega
theorem j_goal_st {p : Program} {l : Launch} {e : Env} {R : Room} {s : State} {m : MethodId} {args : Array Value} {below : List Frame} {meth : Method} {c : Code} {D : va_G} {tyc : Nat → ClassId} {A : Nat → Prop} {n0 : Nat} {ad0 : Nat → Nat} {nL : Nat} {Q : State → Prop} {pc : Nat} {L : List (Option Value)} {st : List Value} {b : SBt} {Y : OUt} {M : MM} {cells slots : Nat} {v w : Int32} (h : v = w) (k : JJ p l e R s m args below meth c D tyc A n0 ad0 nL Q pc L (.int w :: st) (HH b Y M) cells slots) : JJ p l e R s m args below meth c D tyc A n0 ad0 nL Q pc L (.int v :: st) (HH b Y M) cells slots := by
  subst h
  exact k
theorem cx_draw_dr {d : Nat} {b : SBt} {Y : OUt} {M : MM} (hb : 104 ≤ b.2.1) (h1 : ¬ M 95 1 ≤ 0) : CM (d + 2) 0 0 yX6_draw cX6_draw 9 (some .int) [.ref 94] b Y M (.inl (some (.int (0)))) (jrai (jrefu (jtr M) 4 0) 1) := by
  refine Con.of (by decide +kernel) (Nat.le_of_ble_eq_true rfl) rfl fun p l e s m args below meth c D tyc A ad0 x hr htab hname => ?_
  change JJ _ _ _ _ _ _ _ _ _ _ _ _ _ _ _ _ _ 0 [some (.ref 94), none, none, none, none, none, none, none, none] [] _ 0 0
  refine j_aload_n x dX6_draw_0 rfl ?_
  refine j2_callVv x hb dX6_draw_1 m_X6_tries (cx_tries (d := d) hb) wmX6_76 jc_10 rfl rfl rfl (Nat.le_of_ble_eq_true rfl) (j_fit_rm (by omega) (by omega) (by omega)) rfl ?_
  refine j_aload_n x dX6_draw_4 rfl ?_
  refine j2_callVi x hb dX6_draw_5 m_X6_isDrawn (CM_v (cx_isDrawn (d := d) hb) (jb_t (by rw [jtr_n (by omega)]; exact h1))) wmX6_87 jc_10 rfl rfl rfl (Nat.le_of_ble_eq_true rfl) (j_fit_rm (by omega) (by omega) (by omega)) rfl ?_
  refine j_if_eq (tgt := 22) x dX6_draw_8 (by decide) (fun hc => absurd hc (by decide)) (fun hc => ?_)
  refine j_aload_n x dX6_draw_11 rfl ?_
  refine j_aload_n x dX6_draw_12 rfl ?_
  refine j_iconst (v := 4) x dX6_draw_13 (by decide) ?_
  refine j_iconst (v := 0) x dX6_draw_14 (by decide) ?_
  refine j2_callVi x hb dX6_draw_15 m_X6_refuses (cx_refuses (d := d) hb) wmX6_79 jc_10 rfl rfl rfl (Nat.le_of_ble_eq_true rfl) (j_fit_rm (by omega) (by omega) (by omega)) rfl ?_
  refine j2_callVi x hb dX6_draw_18 m_X6_ends (cx_ends_0 (d := d) hb) wmX6_83 jc_10 rfl rfl rfl (Nat.le_of_ble_eq_true rfl) (j_fit_rm (by omega) (by omega) (by omega)) rfl ?_
  exact j_ireturn x hr dX6_draw_21 (by omega) (by omega) ⟨rfl, rfl⟩
theorem cx_draw_G {d : Nat} {b : SBt} {Y : OUt} {M : MM} (hb : 104 ≤ b.2.1) {t k : Nat} (h1 : M 95 1 ≤ 0) (h0 : M 95 0 = nI t) (h9 : M 95 9 = 0) (h2 : 2 ≤ t) (ht : t ≤ 8) (hk : k ≤ 8) (h3 : M 94 3 = nI k) : CM (d + 2) 0 0 yX6_draw cX6_draw 9 (some .int) [.ref 94] b Y M (.inl (some (.int (nI (2 * (gP t - 1)))))) (jkpg (gdw (jtr M) t (2 * (gP t - 1))) k) := by
  have hgp := gP_le h2 ht
  refine Con.of (by decide +kernel) (Nat.le_of_ble_eq_true rfl) rfl fun p l e s m args below meth c D tyc A ad0 x hr htab hname => ?_
  change JJ _ _ _ _ _ _ _ _ _ _ _ _ _ _ _ _ _ 0 [some (.ref 94), none, none, none, none, none, none, none, none] [] _ 0 0
  refine j_aload_n x dX6_draw_0 rfl ?_
  refine j2_callVv x hb dX6_draw_1 m_X6_tries (cx_tries (d := d) hb) wmX6_76 jc_10 rfl rfl rfl (Nat.le_of_ble_eq_true rfl) (j_fit_rm (by omega) (by omega) (by omega)) rfl ?_
  refine j_aload_n x dX6_draw_4 rfl ?_
  refine j2_callVi x hb dX6_draw_5 m_X6_isDrawn (CM_v (cx_isDrawn (d := d) hb) (jb_f (fun z => z (by rw [jtr_n (by omega)]; exact h1)))) wmX6_87 jc_10 rfl rfl rfl (Nat.le_of_ble_eq_true rfl) (j_fit_rm (by omega) (by omega) (by omega)) rfl ?_
  refine j_if_eq (tgt := 22) x dX6_draw_8 (by decide) (fun hc => ?_) (fun hc => absurd (rfl) hc)
  refine j_aload_n x dX6_draw_22 rfl ?_
  refine j2_callVi x hb dX6_draw_23 m_X6_places (CM_v (cx_places (d := d) hb) (show _ = nI (gP t) by rw [jtr_n (by omega), h0]; exact gpl_nI ht)) wmX6_94 jc_10 rfl rfl rfl (Nat.le_of_ble_eq_true rfl) (j_fit_rm (by omega) (by omega) (by omega)) rfl ?_
  refine j_istore_n x dX6_draw_26 (by decide) rfl ?_
  refine j_aload_n x dX6_draw_27 rfl ?_
  refine j2_getr (k := 0) (r := 95) x hb dX6_draw_28 jc_10 wfX6_9 (by decide) rfl ?_
  refine j_iconst (v := 0) x dX6_draw_31 (by decide) ?_
  refine j2_ialn x hb dX6_draw_32 fa_95 (j := 0) (vp_c (by decide)) (by decide) ?_; rw [jtr_n (by omega), h0]
  refine j_iconst (v := 2) x dX6_draw_33 (by decide) ?_
  refine j_icmp_ge (tgt := 54) x dX6_draw_34 (by decide) (fun hc => ?_) (fun hc => absurd (show (2 : Int32) ≤ nI t from nI_le (a := 2) h2 (by omega)) hc)
  refine j_aload_n x dX6_draw_54 rfl ?_
  refine j2_getr (k := 0) (r := 95) x hb dX6_draw_55 jc_10 wfX6_9 (by decide) rfl ?_
  refine j_iconst (v := 1) x dX6_draw_58 (by decide) ?_
  refine j_iconst (v := 2) x dX6_draw_59 (by decide) ?_
  refine j_iload_n x dX6_draw_60 rfl ?_
  refine j_iconst (v := 1) x dX6_draw_61 (by decide) ?_
  refine j_isub x dX6_draw_62 ?_
  refine j_imul x dX6_draw_63 ?_; rw [show (nI (gP t) - 1 : Int32) = nI (gP t - 1) from nI_sub (d := 1) (by omega), show (2 : Int32) * nI (gP t - 1) = nI (2 * (gP t - 1)) from nI_mul 2 (gP t - 1)]
  refine j2_iasn x hb dX6_draw_64 fa_95 (j := 1) (vp_c (by decide)) (by decide) ?_
  refine j_iconst (v := 0) x dX6_draw_65 (by decide) ?_
  refine j_istore_n x dX6_draw_66 (by decide) rfl ?_
  refine j_for (2 * (gP t - 1)) (fun z0 => [some (.ref 94), some (.int (nI (gP t))), some (.int (nI z0)), none, none, none, none, none, none]) (fun z0 => gdw (jtr M) t z0) (fun z0 => True) (rfl) (rfl) (trivial) (fun j hj hP ih => ?_) (fun hP => ?_)
  · refine j_iload_n x dX6_draw_67 rfl ?_
    refine j_aload_n x dX6_draw_68 rfl ?_
    refine j2_getr (k := 0) (r := 95) x hb dX6_draw_69 jc_10 wfX6_9 (by decide) rfl ?_
    refine j_iconst (v := 1) x dX6_draw_72 (by decide) ?_
    refine j2_ialn x hb dX6_draw_73 fa_95 (j := 1) (vp_c (by decide)) (by decide) ?_; rw [gdw_1]
    refine j_icmp_ge (tgt := 238) x dX6_draw_74 (by decide) (fun hc => absurd hc (nI_ge hj (by omega))) (fun hc => ?_)
    refine j_iload_n x dX6_draw_77 rfl ?_
    refine j_iload_n x dX6_draw_78 rfl ?_
    refine j_iconst (v := 1) x dX6_draw_79 (by decide) ?_
    refine j_isub x dX6_draw_80 ?_
    refine j_b_icmp_ge (T := 88) (E := 89) x dX6_draw_81 (by decide) dX6_draw_84 dX6_draw_85 (by decide) dX6_draw_88 (by decide) ?_
    refine j_istore_n x dX6_draw_89 (by decide) rfl ?_
    refine j_iload_n x dX6_draw_90 rfl ?_
    refine j_if_eq (tgt := 98) x dX6_draw_91 (by decide) (fun hF => ?_) (fun hF => ?_)
    · refine j_iload_n x dX6_draw_98 rfl ?_
      refine j_iload_n x dX6_draw_99 rfl ?_
      refine j_isub x dX6_draw_100 ?_
      refine j_iconst (v := 1) x dX6_draw_101 (by decide) ?_
      refine j_iadd x dX6_draw_102 ?_
      rw [show (nI j - nI (gP t) + 1 : Int32) = gwk (nI (gP t)) (nI j) from (if_pos hF).symm]; refine j_istore x dX6_draw_103 (by decide) rfl ?_
      refine j_iconst (v := 0) x dX6_draw_105 (by decide) ?_
      refine j_istore x dX6_draw_106 (by decide) rfl ?_
      refine j_for (t) (fun z0 => [some (.ref 94), some (.int (nI (gP t))), some (.int (nI j)), some (.int (jb (¬ nI (gP t) - 1 ≤ nI j))), some (.int (gwk (nI (gP t)) (nI j))), some (.int (nI z0)), none, none, none]) (fun z0 => gdj (gdw (jtr M) t j) t j z0) (fun z0 => True) (rfl) (rfl) (trivial) (fun ja hja hPa iha => ?_) (fun hPa => ?_)
      · refine j_iload x dX6_draw_108 rfl ?_
        refine j_aload_n x dX6_draw_110 rfl ?_
        refine j2_getr (k := 0) (r := 95) x hb dX6_draw_111 jc_10 wfX6_9 (by decide) rfl ?_
        refine j_iconst (v := 0) x dX6_draw_114 (by decide) ?_
        refine j2_ialn x hb dX6_draw_115 fa_95 (j := 0) (vp_c (by decide)) (by decide) ?_; rw [gdj_n (by omega), gdw_n (by omega), jtr_n (by omega), h0]
        refine j_icmp_ge (tgt := 232) x dX6_draw_116 (by decide) (fun hc => absurd hc (nI_ge hja (by omega))) (fun hc => ?_)
        have h95 : (gdj (gdw (jtr M) t j) t j ja) 95 0 = nI t := (by rw [gdj_n (by omega), gdw_n (by omega), jtr_n (by omega), h0]); have hpl : gpl ((gdj (gdw (jtr M) t j) t j ja) 95 0) = nI (gP t) := (by rw [h95]; exact gpl_nI ht); have hpx : ¬ gpl ((gdj (gdw (jtr M) t j) t j ja) 95 0) - 1 = 0 := (by rw [hpl, show (nI (gP t) - 1 : Int32) = nI (gP t - 1) from nI_sub (d := 1) (by omega)]; exact nI_ne0 (by omega) (by omega)); refine j_aload_n x dX6_draw_119 rfl ?_
        refine j_iload x dX6_draw_120 rfl ?_
        refine j_iload x dX6_draw_122 rfl ?_
        refine j2_callVi x hb dX6_draw_124 m_X6_rival (show CM (d + 1) 0 0 _ _ _ _ _ b Y (gdj (gdw (jtr M) t j) t j ja) (.inl (some (.int (gother t j ja)))) (gdj (gdw (jtr M) t j) t j ja) from by have z := cx_rival (d := d) (Y := Y) (M := (gdj (gdw (jtr M) t j) t j ja)) (t := nI ja) (w := gwk (nI (gP t)) (nI j)) hb hpx; rw [hpl] at z; exact z) wmX6_103 jc_10 rfl rfl rfl (Nat.le_of_ble_eq_true rfl) (j_fit_rm (by omega) (by omega) (by omega)) rfl ?_
        refine j_istore x dX6_draw_127 (by decide) rfl ?_
        refine j_aload_n x dX6_draw_129 rfl ?_
        refine j_iload x dX6_draw_130 rfl ?_
        refine j2_callVi x hb dX6_draw_132 m_X6_isTeam (CM_v (cx_isTeam (d := d) hb) (show _ = jb (¬ gother t j ja < 0 ∧ ¬ nI t - 1 < gother t j ja) by rw [h95])) wmX6_91 jc_10 rfl rfl rfl (Nat.le_of_ble_eq_true rfl) (j_fit_rm (by omega) (by omega) (by omega)) rfl ?_
        refine j_if_eq (tgt := 226) x dX6_draw_135 (by decide) (fun g1 => ?_) (fun g1 => ?_)
        · refine j_iinc x dX6_draw_226 rfl (by decide) rfl ?_
          refine j_goto (tgt := 108) x dX6_draw_229 (by decide) ?_
          exact j_goal (iha (trivial)) (wk_c rfl (wk_c rfl (wk_c rfl (wk_c rfl (wk_c rfl (wk_c (congrArg (fun z => some (Value.int z)) (nI_1 _)) (wk_n (wk_n (wk_n (wk_0)))))))))) (by rw [gdj, if_neg (fun z => (fun y => jb_0.mp g1 y.1) (gcond_b.mp z))])
        · refine j_aload_n x dX6_draw_138 rfl ?_
          refine j_iload x dX6_draw_139 rfl ?_
          refine j_iload x dX6_draw_141 rfl ?_
          refine j2_callVi x hb dX6_draw_143 m_X6_isAtHome (show CM (d + 1) 0 0 _ _ _ _ _ b Y (gdj (gdw (jtr M) t j) t j ja) (.inl (some (.int (gHm (nI (gP t)) (nI ja) (gwk (nI (gP t)) (nI j)))))) (gdj (gdw (jtr M) t j) t j ja) from by have z := cx_isAtHome (d := d) (Y := Y) (M := (gdj (gdw (jtr M) t j) t j ja)) (t := nI ja) (w := gwk (nI (gP t)) (nI j)) hb hpx; rw [hpl] at z; exact z) wmX6_106 jc_10 rfl rfl rfl (Nat.le_of_ble_eq_true rfl) (j_fit_rm (by omega) (by omega) (by omega)) rfl ?_
          refine j_iload_n x dX6_draw_146 rfl ?_
          refine j_icmp_eq (tgt := 153) x dX6_draw_147 (by decide) (fun g2 => ?_) (fun g2 => ?_)
          · have hgc : gcond t j ja := ⟨jb_nz.mp g1, g2⟩; have hc56 : (gbase t j + gin t j ja) < 56 := (by have z := gin_le (t := t) (w := j) (j := ja + 1) ht hj (by omega); rw [gin_y hgc] at z; omega); refine j_aload_n x dX6_draw_153 rfl ?_
            refine j2_getr (k := 0) (r := 95) x hb dX6_draw_154 jc_10 wfX6_9 (by decide) rfl ?_
            refine j_bipush (v := 9) x dX6_draw_157 (by decide) ?_
            refine j_dup2 x dX6_draw_159 rfl rfl ?_
            refine j2_ialn x hb dX6_draw_160 fa_95 (j := 9) (vp_c (by decide)) (by decide) ?_; rw [gdj_9 (gdw_9 (by rw [jtr_n (by omega)]; exact h9) j)]
            refine j_dup_x2 x dX6_draw_161 rfl rfl rfl ?_
            refine j_iconst (v := 1) x dX6_draw_162 (by decide) ?_
            refine j_iadd x dX6_draw_163 ?_; rw [nI_1]
            refine j2_iasn x hb dX6_draw_164 fa_95 (j := 9) (vp_c (by decide)) (by decide) ?_
            refine j_istore x dX6_draw_165 (by decide) rfl ?_
            refine j_iconst (v := 0) x dX6_draw_167 (by decide) ?_
            refine j_istore x dX6_draw_168 (by decide) rfl ?_
            refine j_for (8) (fun z0 => [some (.ref 94), some (.int (nI (gP t))), some (.int (nI j)), some (.int (jb (¬ nI (gP t) - 1 ≤ nI j))), some (.int (gwk (nI (gP t)) (nI j))), some (.int (nI ja)), some (.int (gother t j ja)), some (.int (nI (gbase t j + gin t j ja))), some (.int (nI z0))]) (fun z0 => gz (jm (gdj (gdw (jtr M) t j) t j ja) 95 9 (nI ((gbase t j + gin t j ja) + 1))) (gbase t j + gin t j ja) z0) (fun z0 => True) (rfl) (rfl) (trivial) (fun jc hjc hPc ihc => ?_) (fun hPc => ?_)
            · refine j_iload x dX6_draw_170 rfl ?_
              refine j_bipush (v := 8) x dX6_draw_172 (by decide) ?_
              refine j_icmp_ge (tgt := 192) x dX6_draw_174 (by decide) (fun hc => absurd hc (nI_ge hjc (by decide))) (fun hc => ?_)
              refine j_aload_n x dX6_draw_177 rfl ?_
              refine j_iload x dX6_draw_178 rfl ?_
              refine j_iload x dX6_draw_180 rfl ?_
              refine j_iconst (v := 0) x dX6_draw_182 (by decide) ?_
              refine j2_callVv x hb dX6_draw_183 m_X6_sets (cx_sets (d := d) hb (m1 := (gbase t j + gin t j ja)) (w1 := jc) hc56 (by omega)) wmX6_109 jc_10 rfl rfl rfl (Nat.le_of_ble_eq_true rfl) (j_fit_rm (by omega) (by omega) (by omega)) rfl ?_
              refine j_iinc x dX6_draw_186 rfl (by decide) rfl ?_
              refine j_goto (tgt := 170) x dX6_draw_189 (by decide) ?_
              exact j_goal (ihc (trivial)) (wk_c rfl (wk_c rfl (wk_c rfl (wk_c rfl (wk_c rfl (wk_c rfl (wk_c rfl (wk_c rfl (wk_c (congrArg (fun z => some (Value.int z)) (nI_1 _)) (wk_0)))))))))) (rfl)
            refine j_iload x dX6_draw_170 rfl ?_
            refine j_bipush (v := 8) x dX6_draw_172 (by decide) ?_
            refine j_icmp_ge (tgt := 192) x dX6_draw_174 (by decide) (fun hc => ?_) (fun hc => absurd (nI_le (Nat.le_refl 8) (by decide)) hc)
            refine j_aload_n x dX6_draw_192 rfl ?_
            refine j_iload x dX6_draw_193 rfl ?_
            refine j_iconst (v := 0) x dX6_draw_195 (by decide) ?_
            refine j_iload x dX6_draw_196 rfl ?_
            refine j2_callVv x hb dX6_draw_198 m_X6_sets (cx_sets (d := d) hb (m1 := (gbase t j + gin t j ja)) (w1 := 0) hc56 (by omega)) wmX6_109 jc_10 rfl rfl rfl (Nat.le_of_ble_eq_true rfl) (j_fit_rm (by omega) (by omega) (by omega)) rfl ?_
            refine j_aload_n x dX6_draw_201 rfl ?_
            refine j_iload x dX6_draw_202 rfl ?_
            refine j_iconst (v := 1) x dX6_draw_204 (by decide) ?_
            refine j_iload x dX6_draw_205 rfl ?_
            refine j2_callVv x hb dX6_draw_207 m_X6_sets (cx_sets (d := d) hb (m1 := (gbase t j + gin t j ja)) (w1 := 1) hc56 (by omega)) wmX6_109 jc_10 rfl rfl rfl (Nat.le_of_ble_eq_true rfl) (j_fit_rm (by omega) (by omega) (by omega)) rfl ?_
            refine j_aload_n x dX6_draw_210 rfl ?_
            refine j_iload x dX6_draw_211 rfl ?_
            refine j_iconst (v := 2) x dX6_draw_213 (by decide) ?_
            refine j_iload_n x dX6_draw_214 rfl ?_
            refine j2_callVv x hb dX6_draw_215 m_X6_sets (cx_sets (d := d) hb (m1 := (gbase t j + gin t j ja)) (w1 := 2) hc56 (by omega)) wmX6_109 jc_10 rfl rfl rfl (Nat.le_of_ble_eq_true rfl) (j_fit_rm (by omega) (by omega) (by omega)) rfl ?_
            refine j_aload_n x dX6_draw_218 rfl ?_
            refine j_iload x dX6_draw_219 rfl ?_
            refine j_iconst (v := 3) x dX6_draw_221 (by decide) ?_
            refine j_iload_n x dX6_draw_222 rfl ?_
            refine j2_callVv x hb dX6_draw_223 m_X6_sets (cx_sets (d := d) hb (m1 := (gbase t j + gin t j ja)) (w1 := 3) hc56 (by omega)) wmX6_109 jc_10 rfl rfl rfl (Nat.le_of_ble_eq_true rfl) (j_fit_rm (by omega) (by omega) (by omega)) rfl ?_
            refine j_iinc x dX6_draw_226 rfl (by decide) rfl ?_
            refine j_goto (tgt := 108) x dX6_draw_229 (by decide) ?_
            exact j_goal (iha (trivial)) (wk_c rfl (wk_c rfl (wk_c rfl (wk_c rfl (wk_c rfl (wk_c (congrArg (fun z => some (Value.int z)) (nI_1 _)) (wk_n (wk_n (wk_n (wk_0)))))))))) (by rw [gdj, if_pos (gcond_b.mpr hgc)]; rfl)
          · refine j_goto (tgt := 226) x dX6_draw_150 (by decide) ?_
            refine j_iinc x dX6_draw_226 rfl (by decide) rfl ?_
            refine j_goto (tgt := 108) x dX6_draw_229 (by decide) ?_
            exact j_goal (iha (trivial)) (wk_c rfl (wk_c rfl (wk_c rfl (wk_c rfl (wk_c rfl (wk_c (congrArg (fun z => some (Value.int z)) (nI_1 _)) (wk_n (wk_n (wk_n (wk_0)))))))))) (by rw [gdj, if_neg (fun z => (fun y => g2 y.2) (gcond_b.mp z))])
      refine j_iload x dX6_draw_108 rfl ?_
      refine j_aload_n x dX6_draw_110 rfl ?_
      refine j2_getr (k := 0) (r := 95) x hb dX6_draw_111 jc_10 wfX6_9 (by decide) rfl ?_
      refine j_iconst (v := 0) x dX6_draw_114 (by decide) ?_
      refine j2_ialn x hb dX6_draw_115 fa_95 (j := 0) (vp_c (by decide)) (by decide) ?_; rw [gdj_n (by omega), gdw_n (by omega), jtr_n (by omega), h0]
      refine j_icmp_ge (tgt := 232) x dX6_draw_116 (by decide) (fun hc => ?_) (fun hc => absurd (nI_le (Nat.le_refl _) (by omega)) hc)
      refine j_iinc x dX6_draw_232 rfl (by decide) rfl ?_
      refine j_goto (tgt := 67) x dX6_draw_235 (by decide) ?_
      exact j_goal (ih (trivial)) (wk_c rfl (wk_c rfl (wk_c (congrArg (fun z => some (Value.int z)) (nI_1 _)) (wk_n (wk_n (wk_n (wk_n (wk_n (wk_n (wk_0)))))))))) (rfl)
    · refine j_iload_n x dX6_draw_94 rfl ?_
      refine j_goto (tgt := 103) x dX6_draw_95 (by decide) ?_
      refine j_goal_st (show (nI j : Int32) = gwk (nI (gP t)) (nI j) from (if_neg hF).symm) ?_; refine j_istore x dX6_draw_103 (by decide) rfl ?_
      refine j_iconst (v := 0) x dX6_draw_105 (by decide) ?_
      refine j_istore x dX6_draw_106 (by decide) rfl ?_
      refine j_for (t) (fun z0 => [some (.ref 94), some (.int (nI (gP t))), some (.int (nI j)), some (.int (jb (¬ nI (gP t) - 1 ≤ nI j))), some (.int (gwk (nI (gP t)) (nI j))), some (.int (nI z0)), none, none, none]) (fun z0 => gdj (gdw (jtr M) t j) t j z0) (fun z0 => True) (rfl) (rfl) (trivial) (fun ja hja hPa iha => ?_) (fun hPa => ?_)
      · refine j_iload x dX6_draw_108 rfl ?_
        refine j_aload_n x dX6_draw_110 rfl ?_
        refine j2_getr (k := 0) (r := 95) x hb dX6_draw_111 jc_10 wfX6_9 (by decide) rfl ?_
        refine j_iconst (v := 0) x dX6_draw_114 (by decide) ?_
        refine j2_ialn x hb dX6_draw_115 fa_95 (j := 0) (vp_c (by decide)) (by decide) ?_; rw [gdj_n (by omega), gdw_n (by omega), jtr_n (by omega), h0]
        refine j_icmp_ge (tgt := 232) x dX6_draw_116 (by decide) (fun hc => absurd hc (nI_ge hja (by omega))) (fun hc => ?_)
        have h95 : (gdj (gdw (jtr M) t j) t j ja) 95 0 = nI t := (by rw [gdj_n (by omega), gdw_n (by omega), jtr_n (by omega), h0]); have hpl : gpl ((gdj (gdw (jtr M) t j) t j ja) 95 0) = nI (gP t) := (by rw [h95]; exact gpl_nI ht); have hpx : ¬ gpl ((gdj (gdw (jtr M) t j) t j ja) 95 0) - 1 = 0 := (by rw [hpl, show (nI (gP t) - 1 : Int32) = nI (gP t - 1) from nI_sub (d := 1) (by omega)]; exact nI_ne0 (by omega) (by omega)); refine j_aload_n x dX6_draw_119 rfl ?_
        refine j_iload x dX6_draw_120 rfl ?_
        refine j_iload x dX6_draw_122 rfl ?_
        refine j2_callVi x hb dX6_draw_124 m_X6_rival (show CM (d + 1) 0 0 _ _ _ _ _ b Y (gdj (gdw (jtr M) t j) t j ja) (.inl (some (.int (gother t j ja)))) (gdj (gdw (jtr M) t j) t j ja) from by have z := cx_rival (d := d) (Y := Y) (M := (gdj (gdw (jtr M) t j) t j ja)) (t := nI ja) (w := gwk (nI (gP t)) (nI j)) hb hpx; rw [hpl] at z; exact z) wmX6_103 jc_10 rfl rfl rfl (Nat.le_of_ble_eq_true rfl) (j_fit_rm (by omega) (by omega) (by omega)) rfl ?_
        refine j_istore x dX6_draw_127 (by decide) rfl ?_
        refine j_aload_n x dX6_draw_129 rfl ?_
        refine j_iload x dX6_draw_130 rfl ?_
        refine j2_callVi x hb dX6_draw_132 m_X6_isTeam (CM_v (cx_isTeam (d := d) hb) (show _ = jb (¬ gother t j ja < 0 ∧ ¬ nI t - 1 < gother t j ja) by rw [h95])) wmX6_91 jc_10 rfl rfl rfl (Nat.le_of_ble_eq_true rfl) (j_fit_rm (by omega) (by omega) (by omega)) rfl ?_
        refine j_if_eq (tgt := 226) x dX6_draw_135 (by decide) (fun g1 => ?_) (fun g1 => ?_)
        · refine j_iinc x dX6_draw_226 rfl (by decide) rfl ?_
          refine j_goto (tgt := 108) x dX6_draw_229 (by decide) ?_
          exact j_goal (iha (trivial)) (wk_c rfl (wk_c rfl (wk_c rfl (wk_c rfl (wk_c rfl (wk_c (congrArg (fun z => some (Value.int z)) (nI_1 _)) (wk_n (wk_n (wk_n (wk_0)))))))))) (by rw [gdj, if_neg (fun z => (fun y => jb_0.mp g1 y.1) (gcond_b.mp z))])
        · refine j_aload_n x dX6_draw_138 rfl ?_
          refine j_iload x dX6_draw_139 rfl ?_
          refine j_iload x dX6_draw_141 rfl ?_
          refine j2_callVi x hb dX6_draw_143 m_X6_isAtHome (show CM (d + 1) 0 0 _ _ _ _ _ b Y (gdj (gdw (jtr M) t j) t j ja) (.inl (some (.int (gHm (nI (gP t)) (nI ja) (gwk (nI (gP t)) (nI j)))))) (gdj (gdw (jtr M) t j) t j ja) from by have z := cx_isAtHome (d := d) (Y := Y) (M := (gdj (gdw (jtr M) t j) t j ja)) (t := nI ja) (w := gwk (nI (gP t)) (nI j)) hb hpx; rw [hpl] at z; exact z) wmX6_106 jc_10 rfl rfl rfl (Nat.le_of_ble_eq_true rfl) (j_fit_rm (by omega) (by omega) (by omega)) rfl ?_
          refine j_iload_n x dX6_draw_146 rfl ?_
          refine j_icmp_eq (tgt := 153) x dX6_draw_147 (by decide) (fun g2 => ?_) (fun g2 => ?_)
          · have hgc : gcond t j ja := ⟨jb_nz.mp g1, g2⟩; have hc56 : (gbase t j + gin t j ja) < 56 := (by have z := gin_le (t := t) (w := j) (j := ja + 1) ht hj (by omega); rw [gin_y hgc] at z; omega); refine j_aload_n x dX6_draw_153 rfl ?_
            refine j2_getr (k := 0) (r := 95) x hb dX6_draw_154 jc_10 wfX6_9 (by decide) rfl ?_
            refine j_bipush (v := 9) x dX6_draw_157 (by decide) ?_
            refine j_dup2 x dX6_draw_159 rfl rfl ?_
            refine j2_ialn x hb dX6_draw_160 fa_95 (j := 9) (vp_c (by decide)) (by decide) ?_; rw [gdj_9 (gdw_9 (by rw [jtr_n (by omega)]; exact h9) j)]
            refine j_dup_x2 x dX6_draw_161 rfl rfl rfl ?_
            refine j_iconst (v := 1) x dX6_draw_162 (by decide) ?_
            refine j_iadd x dX6_draw_163 ?_; rw [nI_1]
            refine j2_iasn x hb dX6_draw_164 fa_95 (j := 9) (vp_c (by decide)) (by decide) ?_
            refine j_istore x dX6_draw_165 (by decide) rfl ?_
            refine j_iconst (v := 0) x dX6_draw_167 (by decide) ?_
            refine j_istore x dX6_draw_168 (by decide) rfl ?_
            refine j_for (8) (fun z0 => [some (.ref 94), some (.int (nI (gP t))), some (.int (nI j)), some (.int (jb (¬ nI (gP t) - 1 ≤ nI j))), some (.int (gwk (nI (gP t)) (nI j))), some (.int (nI ja)), some (.int (gother t j ja)), some (.int (nI (gbase t j + gin t j ja))), some (.int (nI z0))]) (fun z0 => gz (jm (gdj (gdw (jtr M) t j) t j ja) 95 9 (nI ((gbase t j + gin t j ja) + 1))) (gbase t j + gin t j ja) z0) (fun z0 => True) (rfl) (rfl) (trivial) (fun jc hjc hPc ihc => ?_) (fun hPc => ?_)
            · refine j_iload x dX6_draw_170 rfl ?_
              refine j_bipush (v := 8) x dX6_draw_172 (by decide) ?_
              refine j_icmp_ge (tgt := 192) x dX6_draw_174 (by decide) (fun hc => absurd hc (nI_ge hjc (by decide))) (fun hc => ?_)
              refine j_aload_n x dX6_draw_177 rfl ?_
              refine j_iload x dX6_draw_178 rfl ?_
              refine j_iload x dX6_draw_180 rfl ?_
              refine j_iconst (v := 0) x dX6_draw_182 (by decide) ?_
              refine j2_callVv x hb dX6_draw_183 m_X6_sets (cx_sets (d := d) hb (m1 := (gbase t j + gin t j ja)) (w1 := jc) hc56 (by omega)) wmX6_109 jc_10 rfl rfl rfl (Nat.le_of_ble_eq_true rfl) (j_fit_rm (by omega) (by omega) (by omega)) rfl ?_
              refine j_iinc x dX6_draw_186 rfl (by decide) rfl ?_
              refine j_goto (tgt := 170) x dX6_draw_189 (by decide) ?_
              exact j_goal (ihc (trivial)) (wk_c rfl (wk_c rfl (wk_c rfl (wk_c rfl (wk_c rfl (wk_c rfl (wk_c rfl (wk_c rfl (wk_c (congrArg (fun z => some (Value.int z)) (nI_1 _)) (wk_0)))))))))) (rfl)
            refine j_iload x dX6_draw_170 rfl ?_
            refine j_bipush (v := 8) x dX6_draw_172 (by decide) ?_
            refine j_icmp_ge (tgt := 192) x dX6_draw_174 (by decide) (fun hc => ?_) (fun hc => absurd (nI_le (Nat.le_refl 8) (by decide)) hc)
            refine j_aload_n x dX6_draw_192 rfl ?_
            refine j_iload x dX6_draw_193 rfl ?_
            refine j_iconst (v := 0) x dX6_draw_195 (by decide) ?_
            refine j_iload x dX6_draw_196 rfl ?_
            refine j2_callVv x hb dX6_draw_198 m_X6_sets (cx_sets (d := d) hb (m1 := (gbase t j + gin t j ja)) (w1 := 0) hc56 (by omega)) wmX6_109 jc_10 rfl rfl rfl (Nat.le_of_ble_eq_true rfl) (j_fit_rm (by omega) (by omega) (by omega)) rfl ?_
            refine j_aload_n x dX6_draw_201 rfl ?_
            refine j_iload x dX6_draw_202 rfl ?_
            refine j_iconst (v := 1) x dX6_draw_204 (by decide) ?_
            refine j_iload x dX6_draw_205 rfl ?_
            refine j2_callVv x hb dX6_draw_207 m_X6_sets (cx_sets (d := d) hb (m1 := (gbase t j + gin t j ja)) (w1 := 1) hc56 (by omega)) wmX6_109 jc_10 rfl rfl rfl (Nat.le_of_ble_eq_true rfl) (j_fit_rm (by omega) (by omega) (by omega)) rfl ?_
            refine j_aload_n x dX6_draw_210 rfl ?_
            refine j_iload x dX6_draw_211 rfl ?_
            refine j_iconst (v := 2) x dX6_draw_213 (by decide) ?_
            refine j_iload_n x dX6_draw_214 rfl ?_
            refine j2_callVv x hb dX6_draw_215 m_X6_sets (cx_sets (d := d) hb (m1 := (gbase t j + gin t j ja)) (w1 := 2) hc56 (by omega)) wmX6_109 jc_10 rfl rfl rfl (Nat.le_of_ble_eq_true rfl) (j_fit_rm (by omega) (by omega) (by omega)) rfl ?_
            refine j_aload_n x dX6_draw_218 rfl ?_
            refine j_iload x dX6_draw_219 rfl ?_
            refine j_iconst (v := 3) x dX6_draw_221 (by decide) ?_
            refine j_iload_n x dX6_draw_222 rfl ?_
            refine j2_callVv x hb dX6_draw_223 m_X6_sets (cx_sets (d := d) hb (m1 := (gbase t j + gin t j ja)) (w1 := 3) hc56 (by omega)) wmX6_109 jc_10 rfl rfl rfl (Nat.le_of_ble_eq_true rfl) (j_fit_rm (by omega) (by omega) (by omega)) rfl ?_
            refine j_iinc x dX6_draw_226 rfl (by decide) rfl ?_
            refine j_goto (tgt := 108) x dX6_draw_229 (by decide) ?_
            exact j_goal (iha (trivial)) (wk_c rfl (wk_c rfl (wk_c rfl (wk_c rfl (wk_c rfl (wk_c (congrArg (fun z => some (Value.int z)) (nI_1 _)) (wk_n (wk_n (wk_n (wk_0)))))))))) (by rw [gdj, if_pos (gcond_b.mpr hgc)]; rfl)
          · refine j_goto (tgt := 226) x dX6_draw_150 (by decide) ?_
            refine j_iinc x dX6_draw_226 rfl (by decide) rfl ?_
            refine j_goto (tgt := 108) x dX6_draw_229 (by decide) ?_
            exact j_goal (iha (trivial)) (wk_c rfl (wk_c rfl (wk_c rfl (wk_c rfl (wk_c rfl (wk_c (congrArg (fun z => some (Value.int z)) (nI_1 _)) (wk_n (wk_n (wk_n (wk_0)))))))))) (by rw [gdj, if_neg (fun z => (fun y => g2 y.2) (gcond_b.mp z))])
      refine j_iload x dX6_draw_108 rfl ?_
      refine j_aload_n x dX6_draw_110 rfl ?_
      refine j2_getr (k := 0) (r := 95) x hb dX6_draw_111 jc_10 wfX6_9 (by decide) rfl ?_
      refine j_iconst (v := 0) x dX6_draw_114 (by decide) ?_
      refine j2_ialn x hb dX6_draw_115 fa_95 (j := 0) (vp_c (by decide)) (by decide) ?_; rw [gdj_n (by omega), gdw_n (by omega), jtr_n (by omega), h0]
      refine j_icmp_ge (tgt := 232) x dX6_draw_116 (by decide) (fun hc => ?_) (fun hc => absurd (nI_le (Nat.le_refl _) (by omega)) hc)
      refine j_iinc x dX6_draw_232 rfl (by decide) rfl ?_
      refine j_goto (tgt := 67) x dX6_draw_235 (by decide) ?_
      exact j_goal (ih (trivial)) (wk_c rfl (wk_c rfl (wk_c (congrArg (fun z => some (Value.int z)) (nI_1 _)) (wk_n (wk_n (wk_n (wk_n (wk_n (wk_n (wk_0)))))))))) (rfl)
  refine j_iload_n x dX6_draw_67 rfl ?_
  refine j_aload_n x dX6_draw_68 rfl ?_
  refine j2_getr (k := 0) (r := 95) x hb dX6_draw_69 jc_10 wfX6_9 (by decide) rfl ?_
  refine j_iconst (v := 1) x dX6_draw_72 (by decide) ?_
  refine j2_ialn x hb dX6_draw_73 fa_95 (j := 1) (vp_c (by decide)) (by decide) ?_; rw [gdw_1]
  refine j_icmp_ge (tgt := 238) x dX6_draw_74 (by decide) (fun hc => ?_) (fun hc => absurd (nI_le (Nat.le_refl _) (by omega)) hc)
  refine j_aload_n x dX6_draw_238 rfl ?_
  refine j_aload_n x dX6_draw_239 rfl ?_
  refine j2_getr (k := 0) (r := 95) x hb dX6_draw_240 jc_10 wfX6_9 (by decide) rfl ?_
  refine j_iconst (v := 1) x dX6_draw_243 (by decide) ?_
  refine j2_ialn x hb dX6_draw_244 fa_95 (j := 1) (vp_c (by decide)) (by decide) ?_; rw [gdw_1]
  refine j2_callVi x hb dX6_draw_245 m_X6_keeps (cx_keepsG (d := d) hb hk (by rw [gdw_n (by omega), jtr_f (by omega) (by omega)]; exact h3)) wmX6_57 jc_10 rfl rfl rfl (Nat.le_of_ble_eq_true rfl) (j_fit_rm (by omega) (by omega) (by omega)) rfl ?_
  exact j_ireturn x hr dX6_draw_248 (by omega) (by omega) ⟨rfl, rfl⟩
end

section
/-! ===== the reference: undo, restore, its questions ===== -/
def gUndo (M : MM) (k : Nat) : MM := jcp (jm (jm M 94 19 0) 94 3 (nI k)) 97 (466 * k) 95 0 466
theorem cx_undo_ok {d : Nat} {b : SBt} {Y : OUt} {M : MM} (hb : 104 ≤ b.2.1) {k : Nat} (hk : k < 8) (h3 : M 94 3 = nI (k + 1)) : CM (d + 1) 0 0 yX6_undo cX6_undo 2 (some .int) [.ref 94] b Y M (.inl (some (.int (nI k)))) (gUndo M k) := by
  refine Con.of (by decide +kernel) (Nat.le_of_ble_eq_true rfl) rfl fun p l e s m args below meth c D tyc A ad0 x hr htab hname => ?_
  change JJ _ _ _ _ _ _ _ _ _ _ _ _ _ _ _ _ _ 0 [some (.ref 94), none] [] _ 0 0
  refine j_aload_n x dX6_undo_0 rfl ?_
  refine j_iconst (v := 0) x dX6_undo_1 (by decide) ?_
  refine j2_puti (k := 19) x hb dX6_undo_2 jc_10 wfX6_36 (by decide) rfl rfl rfl rfl ?_
  refine j_aload_n x dX6_undo_5 rfl ?_
  refine j2_geti (k := 3) x hb dX6_undo_6 jc_10 wfX6_42 (by decide) rfl ?_
  refine j_if_ne (tgt := 18) x dX6_undo_9 (by decide) (fun hc => ?_) (fun hc => absurd hc (by rw [jm_n (by omega), h3]; exact nI_ne0 (by omega) (by omega)))
  refine j_aload_n x dX6_undo_18 rfl ?_
  refine j_dup x dX6_undo_19 rfl ?_
  refine j2_geti (k := 3) x hb dX6_undo_20 jc_10 wfX6_42 (by decide) rfl ?_
  refine j_iconst (v := 1) x dX6_undo_23 (by decide) ?_
  refine j_isub x dX6_undo_24 ?_; rw [jm_n (by omega), h3, nI_pred]
  refine j2_puti (k := 3) x hb dX6_undo_25 jc_10 wfX6_42 (by decide) rfl rfl rfl rfl ?_
  refine j_iconst (v := 0) x dX6_undo_28 (by decide) ?_
  refine j_istore_n x dX6_undo_29 (by decide) rfl ?_
  refine j2_cpl 97 (466 * k) 95 0 466 (fun j => [some (.ref 94), some (.int (nI j))]) (Or.inl (by decide)) rfl (fun j hj M1 hM ih => ?_) ?_
  · have h9 : M1 94 3 = nI k := by rw [hM, jcp_n (by omega), jm_s]
    have hix : (466 : Int32) * M1 94 3 + nI j = nI (466 * k + j) := by rw [h9, ← nI_add]; congr 1; exact (Int32.ofNat_mul 466 k).symm
    refine j_iload_n x dX6_undo_30 rfl ?_
    refine j_sipush (v := 466) x dX6_undo_31 (by decide) ?_
    refine j_icmp_ge (tgt := 64) x dX6_undo_34 (by decide) (fun hc => absurd hc (nI_ge (b := 466) hj (by decide))) (fun hc => ?_)
    refine j_aload_n x dX6_undo_37 rfl ?_
    refine j2_getr (k := 0) (r := 95) x hb dX6_undo_38 jc_10 wfX6_9 (by decide) rfl ?_
    refine j_iload_n x dX6_undo_41 rfl ?_
    refine j_aload_n x dX6_undo_42 rfl ?_
    refine j2_getr (k := 2) (r := 97) x hb dX6_undo_43 jc_10 wfX6_16 (by decide) rfl ?_
    refine j_sipush (v := 466) x dX6_undo_46 (by decide) ?_
    refine j_aload_n x dX6_undo_49 rfl ?_
    refine j2_geti (k := 3) x hb dX6_undo_50 jc_10 wfX6_42 (by decide) rfl ?_
    refine j_imul x dX6_undo_53 ?_
    refine j_iload_n x dX6_undo_54 rfl ?_
    refine j_iadd x dX6_undo_55 ?_
    refine j2_ialn x hb dX6_undo_56 fa_97 (j := 466 * k + j) (by rw [hix]; exact vp_in_nI (by omega) (by decide)) (by rw [hix]; exact nI_clamp (by omega)) ?_
    refine j2_iasn x hb dX6_undo_57 fa_95 (j := j) (vp_in_nI (by omega) (by decide)) (nI_clamp (by omega)) ?_
    refine j_iinc x dX6_undo_58 rfl (by decide) rfl ?_
    refine j_goto (tgt := 30) x dX6_undo_61 (by decide) ?_
    have h9 := ih
    simp only [Nat.zero_add] at h9
    rw [← nI_1 j] at h9
    exact h9
  refine j_iload_n x dX6_undo_30 rfl ?_
  refine j_sipush (v := 466) x dX6_undo_31 (by decide) ?_
  refine j_icmp_ge (tgt := 64) x dX6_undo_34 (by decide) (fun hc => ?_) (fun hc => absurd (nI_le (Nat.le_refl 466) (by decide)) hc)
  refine j_aload_n x dX6_undo_64 rfl ?_
  refine j2_geti (k := 3) x hb dX6_undo_65 jc_10 wfX6_42 (by decide) rfl ?_
  exact j_ireturn x hr dX6_undo_68 (by omega) (by omega) ⟨by rw [jcp_n (by omega), jm_s], rfl⟩
def gRest (M : MM) : MM := jm (jcp (jm M 94 19 0) 98 0 95 0 466) 94 3 0
theorem cx_restore_ok {d : Nat} {b : SBt} {Y : OUt} {M : MM} (hb : 104 ≤ b.2.1) (h5 : ¬ M 94 5 = 0) : CM (d + 1) 0 0 yX6_restore cX6_restore 2 (some .int) [.ref 94] b Y M (.inl (some (.int (gRest M 95 0)))) (gRest M) := by
  refine Con.of (by decide +kernel) (Nat.le_of_ble_eq_true rfl) rfl fun p l e s m args below meth c D tyc A ad0 x hr htab hname => ?_
  change JJ _ _ _ _ _ _ _ _ _ _ _ _ _ _ _ _ _ 0 [some (.ref 94), none] [] _ 0 0
  refine j_aload_n x dX6_restore_0 rfl ?_
  refine j_iconst (v := 0) x dX6_restore_1 (by decide) ?_
  refine j2_puti (k := 19) x hb dX6_restore_2 jc_10 wfX6_36 (by decide) rfl rfl rfl rfl ?_
  refine j_aload_n x dX6_restore_5 rfl ?_
  refine j2_geti (k := 5) x hb dX6_restore_6 jc_10 wfX6_224 (by decide) rfl ?_
  refine j_if_ne (tgt := 18) x dX6_restore_9 (by decide) (fun hc => ?_) (fun hc => absurd hc ((by rw [jm_n (by omega)]; exact h5)))
  refine j_iconst (v := 0) x dX6_restore_18 (by decide) ?_
  refine j_istore_n x dX6_restore_19 (by decide) rfl ?_
  refine j2_cpl 98 0 95 0 466 (fun j => [some (.ref 94), some (.int (nI j))]) (Or.inl (by decide)) rfl (fun j hj M1 hM ih => ?_) ?_
  · refine j_iload_n x dX6_restore_20 rfl ?_
    refine j_sipush (v := 466) x dX6_restore_21 (by decide) ?_
    refine j_icmp_ge (tgt := 45) x dX6_restore_24 (by decide) (fun hc => absurd hc (nI_ge (b := 466) hj (by decide))) (fun hc => ?_)
    refine j_aload_n x dX6_restore_27 rfl ?_
    refine j2_getr (k := 0) (r := 95) x hb dX6_restore_28 jc_10 wfX6_9 (by decide) rfl ?_
    refine j_iload_n x dX6_restore_31 rfl ?_
    refine j_aload_n x dX6_restore_32 rfl ?_
    refine j2_getr (k := 4) (r := 98) x hb dX6_restore_33 jc_10 wfX6_19 (by decide) rfl ?_
    refine j_iload_n x dX6_restore_36 rfl ?_
    refine j2_ialn x hb dX6_restore_37 fa_98 (j := j) (vp_in_nI (by omega) (by decide)) (nI_clamp (by omega)) ?_
    refine j2_iasn x hb dX6_restore_38 fa_95 (j := j) (vp_in_nI (by omega) (by decide)) (nI_clamp (by omega)) ?_
    refine j_iinc x dX6_restore_39 rfl (by decide) rfl ?_
    refine j_goto (tgt := 20) x dX6_restore_42 (by decide) ?_
    have h9 := ih
    simp only [Nat.zero_add] at h9
    rw [← nI_1 j] at h9
    exact h9
  refine j_iload_n x dX6_restore_20 rfl ?_
  refine j_sipush (v := 466) x dX6_restore_21 (by decide) ?_
  refine j_icmp_ge (tgt := 45) x dX6_restore_24 (by decide) (fun hc => ?_) (fun hc => absurd (nI_le (Nat.le_refl 466) (by decide)) hc)
  refine j_aload_n x dX6_restore_45 rfl ?_
  refine j_iconst (v := 0) x dX6_restore_46 (by decide) ?_
  refine j2_puti (k := 3) x hb dX6_restore_47 jc_10 wfX6_42 (by decide) rfl rfl rfl rfl ?_
  refine j_aload_n x dX6_restore_50 rfl ?_
  refine j2_getr (k := 0) (r := 95) x hb dX6_restore_51 jc_10 wfX6_9 (by decide) rfl ?_
  refine j_iconst (v := 0) x dX6_restore_54 (by decide) ?_
  refine j2_ialn x hb dX6_restore_55 fa_95 (j := 0) (vp_c (by decide)) (by decide) ?_
  exact j_ireturn x hr dX6_restore_56 (by omega) (by omega) ⟨rfl, rfl⟩
theorem cx_append_full {d : Nat} {b : SBt} {Y : OUt} {M : MM} (hb : 104 ≤ b.2.1) {v : Int32} (h9 : M 94 9 = 60) : CM (d + 1) 0 0 yX6_append cX6_append 2 (some .int) [.ref 94, .int v] b Y M (.inl (some (.int (0)))) (jrai (jm M 94 19 0) 1) := by
  refine Con.of (by decide +kernel) (Nat.le_of_ble_eq_true rfl) rfl fun p l e s m args below meth c D tyc A ad0 x hr htab hname => ?_
  change JJ _ _ _ _ _ _ _ _ _ _ _ _ _ _ _ _ _ 0 [some (.ref 94), some (.int v)] [] _ 0 0
  refine j_aload_n x dX6_append_0 rfl ?_
  refine j_iconst (v := 0) x dX6_append_1 (by decide) ?_
  refine j2_puti (k := 19) x hb dX6_append_2 jc_10 wfX6_36 (by decide) rfl rfl rfl rfl ?_
  refine j_aload_n x dX6_append_5 rfl ?_
  refine j2_geti (k := 9) x hb dX6_append_6 jc_10 wfX6_185 (by decide) rfl ?_
  refine j_bipush (v := 60) x dX6_append_9 (by decide) ?_
  refine j_icmp_ne (tgt := 20) x dX6_append_11 (by decide) (fun hc => absurd hc (fun q => q (by rw [jm_n (by omega)]; exact h9))) (fun hc => ?_)
  refine j_aload_n x dX6_append_14 rfl ?_
  refine j_iconst (v := 1) x dX6_append_15 (by decide) ?_
  refine j2_callVi x hb dX6_append_16 m_X6_raises (cx_raises (d := d) hb) wmX6_61 jc_10 rfl rfl rfl (Nat.le_of_ble_eq_true rfl) (j_fit_rm (by omega) (by omega) (by omega)) rfl ?_
  exact j_ireturn x hr dX6_append_19 (by omega) (by omega) ⟨rfl, rfl⟩
theorem cx_reason_k0 {d : Nat} {b : SBt} {Y : OUt} {M : MM} (hb : 104 ≤ b.2.1) (h0 : ¬ M 94 14 = 0) : CM (d + 1) 0 0 yX6_reason cX6_reason 2 (some .int) [.ref 94, .int 0] b Y M (.inl (some (.int ((jm M 94 19 0) 94 14)))) ((jm M 94 19 0)) := by
  refine Con.of (by decide +kernel) (Nat.le_of_ble_eq_true rfl) rfl fun p l e s m args below meth c D tyc A ad0 x hr htab hname => ?_
  change JJ _ _ _ _ _ _ _ _ _ _ _ _ _ _ _ _ _ 0 [some (.ref 94), some (.int 0)] [] _ 0 0
  refine j_aload_n x dX6_reason_0 rfl ?_
  refine j_iconst (v := 0) x dX6_reason_1 (by decide) ?_
  refine j2_puti (k := 19) x hb dX6_reason_2 jc_10 wfX6_36 (by decide) rfl rfl rfl rfl ?_
  refine j_iload_n x dX6_reason_5 rfl ?_
  refine j_iconst (v := 0) x dX6_reason_6 (by decide) ?_
  refine j_iconst (v := 2) x dX6_reason_7 (by decide) ?_
  refine j2_callSi x hb dX6_reason_8 m_X6_in (CM_v (cx_in (d := d) hb) (jb_t (by decide))) wmX6_64 rfl (Nat.le_of_ble_eq_true rfl) (j_fit_rm (by omega) (by omega) (by omega)) rfl ?_
  refine j_if_ne (tgt := 20) x dX6_reason_11 (by decide) (fun hc => ?_) (fun hc => absurd hc (by decide))
  refine j_aload_n x dX6_reason_20 rfl ?_
  refine j2_geti (k := 14) x hb dX6_reason_21 jc_10 wfX6_45 (by decide) rfl ?_
  refine j_if_ne (tgt := 33) x dX6_reason_24 (by decide) (fun hc => ?_) (fun hc => absurd hc ((by rw [jm_n (by omega)]; exact h0)))
  refine j_iload_n x dX6_reason_33 rfl ?_
  refine j_if_ne (tgt := 44) x dX6_reason_34 (by decide) (fun hc => absurd hc (fun q => q rfl)) (fun hc => ?_)
  refine j_aload_n x dX6_reason_37 rfl ?_
  refine j2_geti (k := 14) x hb dX6_reason_38 jc_10 wfX6_45 (by decide) rfl ?_
  refine j_goto (tgt := 60) x dX6_reason_41 (by decide) ?_
  exact j_ireturn x hr dX6_reason_60 (by omega) (by omega) ⟨rfl, rfl⟩
theorem cx_reason_k1 {d : Nat} {b : SBt} {Y : OUt} {M : MM} (hb : 104 ≤ b.2.1) (h0 : ¬ M 94 14 = 0) : CM (d + 1) 0 0 yX6_reason cX6_reason 2 (some .int) [.ref 94, .int 1] b Y M (.inl (some (.int ((jm M 94 19 0) 94 15)))) ((jm M 94 19 0)) := by
  refine Con.of (by decide +kernel) (Nat.le_of_ble_eq_true rfl) rfl fun p l e s m args below meth c D tyc A ad0 x hr htab hname => ?_
  change JJ _ _ _ _ _ _ _ _ _ _ _ _ _ _ _ _ _ 0 [some (.ref 94), some (.int 1)] [] _ 0 0
  refine j_aload_n x dX6_reason_0 rfl ?_
  refine j_iconst (v := 0) x dX6_reason_1 (by decide) ?_
  refine j2_puti (k := 19) x hb dX6_reason_2 jc_10 wfX6_36 (by decide) rfl rfl rfl rfl ?_
  refine j_iload_n x dX6_reason_5 rfl ?_
  refine j_iconst (v := 0) x dX6_reason_6 (by decide) ?_
  refine j_iconst (v := 2) x dX6_reason_7 (by decide) ?_
  refine j2_callSi x hb dX6_reason_8 m_X6_in (CM_v (cx_in (d := d) hb) (jb_t (by decide))) wmX6_64 rfl (Nat.le_of_ble_eq_true rfl) (j_fit_rm (by omega) (by omega) (by omega)) rfl ?_
  refine j_if_ne (tgt := 20) x dX6_reason_11 (by decide) (fun hc => ?_) (fun hc => absurd hc (by decide))
  refine j_aload_n x dX6_reason_20 rfl ?_
  refine j2_geti (k := 14) x hb dX6_reason_21 jc_10 wfX6_45 (by decide) rfl ?_
  refine j_if_ne (tgt := 33) x dX6_reason_24 (by decide) (fun hc => ?_) (fun hc => absurd hc ((by rw [jm_n (by omega)]; exact h0)))
  refine j_iload_n x dX6_reason_33 rfl ?_
  refine j_if_ne (tgt := 44) x dX6_reason_34 (by decide) (fun hc => ?_) (fun hc => absurd hc (by decide))
  refine j_iload_n x dX6_reason_44 rfl ?_
  refine j_iconst (v := 1) x dX6_reason_45 (by decide) ?_
  refine j_icmp_ne (tgt := 56) x dX6_reason_46 (by decide) (fun hc => absurd hc (fun q => q rfl)) (fun hc => ?_)
  refine j_aload_n x dX6_reason_49 rfl ?_
  refine j2_geti (k := 15) x hb dX6_reason_50 jc_10 wfX6_48 (by decide) rfl ?_
  refine j_goto (tgt := 60) x dX6_reason_53 (by decide) ?_
  exact j_ireturn x hr dX6_reason_60 (by omega) (by omega) ⟨rfl, rfl⟩
theorem cx_reason_k2 {d : Nat} {b : SBt} {Y : OUt} {M : MM} (hb : 104 ≤ b.2.1) (h0 : ¬ M 94 14 = 0) : CM (d + 1) 0 0 yX6_reason cX6_reason 2 (some .int) [.ref 94, .int 2] b Y M (.inl (some (.int ((jm M 94 19 0) 94 17)))) ((jm M 94 19 0)) := by
  refine Con.of (by decide +kernel) (Nat.le_of_ble_eq_true rfl) rfl fun p l e s m args below meth c D tyc A ad0 x hr htab hname => ?_
  change JJ _ _ _ _ _ _ _ _ _ _ _ _ _ _ _ _ _ 0 [some (.ref 94), some (.int 2)] [] _ 0 0
  refine j_aload_n x dX6_reason_0 rfl ?_
  refine j_iconst (v := 0) x dX6_reason_1 (by decide) ?_
  refine j2_puti (k := 19) x hb dX6_reason_2 jc_10 wfX6_36 (by decide) rfl rfl rfl rfl ?_
  refine j_iload_n x dX6_reason_5 rfl ?_
  refine j_iconst (v := 0) x dX6_reason_6 (by decide) ?_
  refine j_iconst (v := 2) x dX6_reason_7 (by decide) ?_
  refine j2_callSi x hb dX6_reason_8 m_X6_in (CM_v (cx_in (d := d) hb) (jb_t (by decide))) wmX6_64 rfl (Nat.le_of_ble_eq_true rfl) (j_fit_rm (by omega) (by omega) (by omega)) rfl ?_
  refine j_if_ne (tgt := 20) x dX6_reason_11 (by decide) (fun hc => ?_) (fun hc => absurd hc (by decide))
  refine j_aload_n x dX6_reason_20 rfl ?_
  refine j2_geti (k := 14) x hb dX6_reason_21 jc_10 wfX6_45 (by decide) rfl ?_
  refine j_if_ne (tgt := 33) x dX6_reason_24 (by decide) (fun hc => ?_) (fun hc => absurd hc ((by rw [jm_n (by omega)]; exact h0)))
  refine j_iload_n x dX6_reason_33 rfl ?_
  refine j_if_ne (tgt := 44) x dX6_reason_34 (by decide) (fun hc => ?_) (fun hc => absurd hc (by decide))
  refine j_iload_n x dX6_reason_44 rfl ?_
  refine j_iconst (v := 1) x dX6_reason_45 (by decide) ?_
  refine j_icmp_ne (tgt := 56) x dX6_reason_46 (by decide) (fun hc => ?_) (fun hc => absurd hc (by decide))
  refine j_aload_n x dX6_reason_56 rfl ?_
  refine j2_geti (k := 17) x hb dX6_reason_57 jc_10 wfX6_51 (by decide) rfl ?_
  exact j_ireturn x hr dX6_reason_60 (by omega) (by omega) ⟨rfl, rfl⟩
theorem cx_teamOf_nt {d : Nat} {b : SBt} {Y : OUt} {M : MM} (hb : 104 ≤ b.2.1) {t u : Int32} (hT : ¬ (¬ t < 0 ∧ ¬ M 95 0 - 1 < t)) : CM (d + 2) 0 0 yX6_teamOf cX6_teamOf 3 (some .int) [.ref 94, .int t, .int u] b Y M (.inl (some (.int (0)))) (jrai (jm M 94 19 0) 1) := by
  refine Con.of (by decide +kernel) (Nat.le_of_ble_eq_true rfl) rfl fun p l e s m args below meth c D tyc A ad0 x hr htab hname => ?_
  change JJ _ _ _ _ _ _ _ _ _ _ _ _ _ _ _ _ _ 0 [some (.ref 94), some (.int t), some (.int u)] [] _ 0 0
  refine j_aload_n x dX6_teamOf_0 rfl ?_
  refine j_iconst (v := 0) x dX6_teamOf_1 (by decide) ?_
  refine j2_puti (k := 19) x hb dX6_teamOf_2 jc_10 wfX6_36 (by decide) rfl rfl rfl rfl ?_
  refine j_aload_n x dX6_teamOf_5 rfl ?_
  refine j_iload_n x dX6_teamOf_6 rfl ?_
  refine j2_callVi x hb dX6_teamOf_7 m_X6_isTeam (CM_v (cx_isTeam (d := d) hb) (jb_f (by rw [jm_n (by omega)]; exact hT))) wmX6_91 jc_10 rfl rfl rfl (Nat.le_of_ble_eq_true rfl) (j_fit_rm (by omega) (by omega) (by omega)) rfl ?_
  refine j_if_ne (tgt := 19) x dX6_teamOf_10 (by decide) (fun hc => absurd hc (fun q => q rfl)) (fun hc => ?_)
  refine j_aload_n x dX6_teamOf_13 rfl ?_
  refine j_iconst (v := 1) x dX6_teamOf_14 (by decide) ?_
  refine j2_callVi x hb dX6_teamOf_15 m_X6_raises (cx_raises (d := d) hb) wmX6_61 jc_10 rfl rfl rfl (Nat.le_of_ble_eq_true rfl) (j_fit_rm (by omega) (by omega) (by omega)) rfl ?_
  exact j_ireturn x hr dX6_teamOf_18 (by omega) (by omega) ⟨rfl, rfl⟩
theorem cx_pointsAgain_nt {d : Nat} {b : SBt} {Y : OUt} {M : MM} (hb : 104 ≤ b.2.1) {t : Int32} (hT : ¬ (¬ t < 0 ∧ ¬ M 95 0 - 1 < t)) : CM (d + 2) 0 0 yX6_pointsAgain cX6_pointsAgain 2 (some .int) [.ref 94, .int t] b Y M (.inl (some (.int (0)))) (jrai (jm M 94 19 0) 1) := by
  refine Con.of (by decide +kernel) (Nat.le_of_ble_eq_true rfl) rfl fun p l e s m args below meth c D tyc A ad0 x hr htab hname => ?_
  change JJ _ _ _ _ _ _ _ _ _ _ _ _ _ _ _ _ _ 0 [some (.ref 94), some (.int t)] [] _ 0 0
  refine j_aload_n x dX6_pointsAgain_0 rfl ?_
  refine j_iconst (v := 0) x dX6_pointsAgain_1 (by decide) ?_
  refine j2_puti (k := 19) x hb dX6_pointsAgain_2 jc_10 wfX6_36 (by decide) rfl rfl rfl rfl ?_
  refine j_aload_n x dX6_pointsAgain_5 rfl ?_
  refine j_iload_n x dX6_pointsAgain_6 rfl ?_
  refine j2_callVi x hb dX6_pointsAgain_7 m_X6_isTeam (CM_v (cx_isTeam (d := d) hb) (jb_f (by rw [jm_n (by omega)]; exact hT))) wmX6_91 jc_10 rfl rfl rfl (Nat.le_of_ble_eq_true rfl) (j_fit_rm (by omega) (by omega) (by omega)) rfl ?_
  refine j_if_eq (tgt := 22) x dX6_pointsAgain_10 (by decide) (fun hc => ?_) (fun hc => absurd (rfl) hc)
  refine j_aload_n x dX6_pointsAgain_22 rfl ?_
  refine j_iconst (v := 1) x dX6_pointsAgain_23 (by decide) ?_
  refine j2_callVi x hb dX6_pointsAgain_24 m_X6_raises (cx_raises (d := d) hb) wmX6_61 jc_10 rfl rfl rfl (Nat.le_of_ble_eq_true rfl) (j_fit_rm (by omega) (by omega) (by omega)) rfl ?_
  exact j_ireturn x hr dX6_pointsAgain_27 (by omega) (by omega) ⟨rfl, rfl⟩
theorem cx_placeOf_nt {d : Nat} {b : SBt} {Y : OUt} {M : MM} (hb : 104 ≤ b.2.1) {t : Int32} (hT : ¬ (¬ t < 0 ∧ ¬ M 95 0 - 1 < t)) : CM (d + 2) 0 0 yX6_placeOf cX6_placeOf 2 (some .int) [.ref 94, .int t] b Y M (.inl (some (.int (0)))) (jrai (jm M 94 19 0) 1) := by
  refine Con.of (by decide +kernel) (Nat.le_of_ble_eq_true rfl) rfl fun p l e s m args below meth c D tyc A ad0 x hr htab hname => ?_
  change JJ _ _ _ _ _ _ _ _ _ _ _ _ _ _ _ _ _ 0 [some (.ref 94), some (.int t)] [] _ 0 0
  refine j_aload_n x dX6_placeOf_0 rfl ?_
  refine j_iconst (v := 0) x dX6_placeOf_1 (by decide) ?_
  refine j2_puti (k := 19) x hb dX6_placeOf_2 jc_10 wfX6_36 (by decide) rfl rfl rfl rfl ?_
  refine j_aload_n x dX6_placeOf_5 rfl ?_
  refine j_iload_n x dX6_placeOf_6 rfl ?_
  refine j2_callVi x hb dX6_placeOf_7 m_X6_isTeam (CM_v (cx_isTeam (d := d) hb) (jb_f (by rw [jm_n (by omega)]; exact hT))) wmX6_91 jc_10 rfl rfl rfl (Nat.le_of_ble_eq_true rfl) (j_fit_rm (by omega) (by omega) (by omega)) rfl ?_
  refine j_if_eq (tgt := 21) x dX6_placeOf_10 (by decide) (fun hc => ?_) (fun hc => absurd (rfl) hc)
  refine j_aload_n x dX6_placeOf_21 rfl ?_
  refine j_iconst (v := 1) x dX6_placeOf_22 (by decide) ?_
  refine j2_callVi x hb dX6_placeOf_23 m_X6_raises (cx_raises (d := d) hb) wmX6_61 jc_10 rfl rfl rfl (Nat.le_of_ble_eq_true rfl) (j_fit_rm (by omega) (by omega) (by omega)) rfl ?_
  exact j_ireturn x hr dX6_placeOf_26 (by omega) (by omega) ⟨rfl, rfl⟩
theorem cx_valueOf_nt {d : Nat} {b : SBt} {Y : OUt} {M : MM} (hb : 104 ≤ b.2.1) {t u : Int32} (hT : ¬ (¬ t < 0 ∧ ¬ M 95 0 - 1 < t)) : CM (d + 2) 0 0 yX6_valueOf cX6_valueOf 3 (some .int) [.ref 94, .int t, .int u] b Y M (.inl (some (.int (0)))) (jrai (jm M 94 19 0) 1) := by
  refine Con.of (by decide +kernel) (Nat.le_of_ble_eq_true rfl) rfl fun p l e s m args below meth c D tyc A ad0 x hr htab hname => ?_
  change JJ _ _ _ _ _ _ _ _ _ _ _ _ _ _ _ _ _ 0 [some (.ref 94), some (.int t), some (.int u)] [] _ 0 0
  refine j_aload_n x dX6_valueOf_0 rfl ?_
  refine j_iconst (v := 0) x dX6_valueOf_1 (by decide) ?_
  refine j2_puti (k := 19) x hb dX6_valueOf_2 jc_10 wfX6_36 (by decide) rfl rfl rfl rfl ?_
  refine j_aload_n x dX6_valueOf_5 rfl ?_
  refine j_iload_n x dX6_valueOf_6 rfl ?_
  refine j2_callVi x hb dX6_valueOf_7 m_X6_isTeam (CM_v (cx_isTeam (d := d) hb) (jb_f (by rw [jm_n (by omega)]; exact hT))) wmX6_91 jc_10 rfl rfl rfl (Nat.le_of_ble_eq_true rfl) (j_fit_rm (by omega) (by omega) (by omega)) rfl ?_
  refine j_if_ne (tgt := 19) x dX6_valueOf_10 (by decide) (fun hc => absurd hc (fun q => q rfl)) (fun hc => ?_)
  refine j_aload_n x dX6_valueOf_13 rfl ?_
  refine j_iconst (v := 1) x dX6_valueOf_14 (by decide) ?_
  refine j2_callVi x hb dX6_valueOf_15 m_X6_raises (cx_raises (d := d) hb) wmX6_61 jc_10 rfl rfl rfl (Nat.le_of_ble_eq_true rfl) (j_fit_rm (by omega) (by omega) (by omega)) rfl ?_
  exact j_ireturn x hr dX6_valueOf_18 (by omega) (by omega) ⟨rfl, rfl⟩
theorem cx_tied_nt {d : Nat} {b : SBt} {Y : OUt} {M : MM} (hb : 104 ≤ b.2.1) {t : Int32} (hT : ¬ (¬ t < 0 ∧ ¬ M 95 0 - 1 < t)) : CM (d + 2) 0 0 yX6_tied cX6_tied 2 (some .int) [.ref 94, .int t] b Y M (.inl (some (.int (0)))) (jrai (jm M 94 19 0) 1) := by
  refine Con.of (by decide +kernel) (Nat.le_of_ble_eq_true rfl) rfl fun p l e s m args below meth c D tyc A ad0 x hr htab hname => ?_
  change JJ _ _ _ _ _ _ _ _ _ _ _ _ _ _ _ _ _ 0 [some (.ref 94), some (.int t)] [] _ 0 0
  refine j_aload_n x dX6_tied_0 rfl ?_
  refine j_iconst (v := 0) x dX6_tied_1 (by decide) ?_
  refine j2_puti (k := 19) x hb dX6_tied_2 jc_10 wfX6_36 (by decide) rfl rfl rfl rfl ?_
  refine j_aload_n x dX6_tied_5 rfl ?_
  refine j_iload_n x dX6_tied_6 rfl ?_
  refine j2_callVi x hb dX6_tied_7 m_X6_isTeam (CM_v (cx_isTeam (d := d) hb) (jb_f (by rw [jm_n (by omega)]; exact hT))) wmX6_91 jc_10 rfl rfl rfl (Nat.le_of_ble_eq_true rfl) (j_fit_rm (by omega) (by omega) (by omega)) rfl ?_
  refine j_if_eq (tgt := 21) x dX6_tied_10 (by decide) (fun hc => ?_) (fun hc => absurd (rfl) hc)
  refine j_aload_n x dX6_tied_21 rfl ?_
  refine j_iconst (v := 1) x dX6_tied_22 (by decide) ?_
  refine j2_callVi x hb dX6_tied_23 m_X6_raises (cx_raises (d := d) hb) wmX6_61 jc_10 rfl rfl rfl (Nat.le_of_ble_eq_true rfl) (j_fit_rm (by omega) (by omega) (by omega)) rfl ?_
  exact j_ireturn x hr dX6_tied_26 (by omega) (by omega) ⟨rfl, rfl⟩
theorem cx_most_nt {d : Nat} {b : SBt} {Y : OUt} {M : MM} (hb : 104 ≤ b.2.1) {t : Int32} (hT : ¬ (¬ t < 0 ∧ ¬ M 95 0 - 1 < t)) : CM (d + 2) 0 0 yX6_most cX6_most 2 (some .int) [.ref 94, .int t] b Y M (.inl (some (.int (0)))) (jrai (jm M 94 19 0) 1) := by
  refine Con.of (by decide +kernel) (Nat.le_of_ble_eq_true rfl) rfl fun p l e s m args below meth c D tyc A ad0 x hr htab hname => ?_
  change JJ _ _ _ _ _ _ _ _ _ _ _ _ _ _ _ _ _ 0 [some (.ref 94), some (.int t)] [] _ 0 0
  refine j_aload_n x dX6_most_0 rfl ?_
  refine j_iconst (v := 0) x dX6_most_1 (by decide) ?_
  refine j2_puti (k := 19) x hb dX6_most_2 jc_10 wfX6_36 (by decide) rfl rfl rfl rfl ?_
  refine j_aload_n x dX6_most_5 rfl ?_
  refine j_iload_n x dX6_most_6 rfl ?_
  refine j2_callVi x hb dX6_most_7 m_X6_isTeam (CM_v (cx_isTeam (d := d) hb) (jb_f (by rw [jm_n (by omega)]; exact hT))) wmX6_91 jc_10 rfl rfl rfl (Nat.le_of_ble_eq_true rfl) (j_fit_rm (by omega) (by omega) (by omega)) rfl ?_
  refine j_if_eq (tgt := 21) x dX6_most_10 (by decide) (fun hc => ?_) (fun hc => absurd (rfl) hc)
  refine j_aload_n x dX6_most_21 rfl ?_
  refine j_iconst (v := 1) x dX6_most_22 (by decide) ?_
  refine j2_callVi x hb dX6_most_23 m_X6_raises (cx_raises (d := d) hb) wmX6_61 jc_10 rfl rfl rfl (Nat.le_of_ble_eq_true rfl) (j_fit_rm (by omega) (by omega) (by omega)) rfl ?_
  exact j_ireturn x hr dX6_most_26 (by omega) (by omega) ⟨rfl, rfl⟩
theorem cx_run_nt {d : Nat} {b : SBt} {Y : OUt} {M : MM} (hb : 104 ≤ b.2.1) {t : Int32} (hT : ¬ (¬ t < 0 ∧ ¬ M 95 0 - 1 < t)) : CM (d + 2) 0 0 yX6_run cX6_run 8 (some .int) [.ref 94, .int t] b Y M (.inl (some (.int (0)))) (jrai (jm M 94 19 0) 1) := by
  refine Con.of (by decide +kernel) (Nat.le_of_ble_eq_true rfl) rfl fun p l e s m args below meth c D tyc A ad0 x hr htab hname => ?_
  change JJ _ _ _ _ _ _ _ _ _ _ _ _ _ _ _ _ _ 0 [some (.ref 94), some (.int t), none, none, none, none, none, none] [] _ 0 0
  refine j_aload_n x dX6_run_0 rfl ?_
  refine j_iconst (v := 0) x dX6_run_1 (by decide) ?_
  refine j2_puti (k := 19) x hb dX6_run_2 jc_10 wfX6_36 (by decide) rfl rfl rfl rfl ?_
  refine j_aload_n x dX6_run_5 rfl ?_
  refine j_iload_n x dX6_run_6 rfl ?_
  refine j2_callVi x hb dX6_run_7 m_X6_isTeam (CM_v (cx_isTeam (d := d) hb) (jb_f (by rw [jm_n (by omega)]; exact hT))) wmX6_91 jc_10 rfl rfl rfl (Nat.le_of_ble_eq_true rfl) (j_fit_rm (by omega) (by omega) (by omega)) rfl ?_
  refine j_if_ne (tgt := 19) x dX6_run_10 (by decide) (fun hc => absurd hc (fun q => q rfl)) (fun hc => ?_)
  refine j_aload_n x dX6_run_13 rfl ?_
  refine j_iconst (v := 1) x dX6_run_14 (by decide) ?_
  refine j2_callVi x hb dX6_run_15 m_X6_raises (cx_raises (d := d) hb) wmX6_61 jc_10 rfl rfl rfl (Nat.le_of_ble_eq_true rfl) (j_fit_rm (by omega) (by omega) (by omega)) rfl ?_
  exact j_ireturn x hr dX6_run_18 (by omega) (by omega) ⟨rfl, rfl⟩
theorem cx_line_nt {d : Nat} {b : SBt} {Y : OUt} {M : MM} (hb : 104 ≤ b.2.1) {t : Int32} (hT : ¬ (¬ t < 0 ∧ ¬ M 95 0 - 1 < t)) : CM (d + 2) 0 0 yX6_line cX6_line 3 (some .int) [.ref 94, .int t] b Y M (.inl (some (.int (0)))) (jrai (jm M 94 19 0) 1) := by
  refine Con.of (by decide +kernel) (Nat.le_of_ble_eq_true rfl) rfl fun p l e s m args below meth c D tyc A ad0 x hr htab hname => ?_
  change JJ _ _ _ _ _ _ _ _ _ _ _ _ _ _ _ _ _ 0 [some (.ref 94), some (.int t), none] [] _ 0 0
  refine j_aload_n x dX6_line_0 rfl ?_
  refine j_iconst (v := 0) x dX6_line_1 (by decide) ?_
  refine j2_puti (k := 19) x hb dX6_line_2 jc_10 wfX6_36 (by decide) rfl rfl rfl rfl ?_
  refine j_aload_n x dX6_line_5 rfl ?_
  refine j_iload_n x dX6_line_6 rfl ?_
  refine j2_callVi x hb dX6_line_7 m_X6_isTeam (CM_v (cx_isTeam (d := d) hb) (jb_f (by rw [jm_n (by omega)]; exact hT))) wmX6_91 jc_10 rfl rfl rfl (Nat.le_of_ble_eq_true rfl) (j_fit_rm (by omega) (by omega) (by omega)) rfl ?_
  refine j_if_ne (tgt := 19) x dX6_line_10 (by decide) (fun hc => absurd hc (fun q => q rfl)) (fun hc => ?_)
  refine j_aload_n x dX6_line_13 rfl ?_
  refine j_iconst (v := 1) x dX6_line_14 (by decide) ?_
  refine j2_callVi x hb dX6_line_15 m_X6_raises (cx_raises (d := d) hb) wmX6_61 jc_10 rfl rfl rfl (Nat.le_of_ble_eq_true rfl) (j_fit_rm (by omega) (by omega) (by omega)) rfl ?_
  exact j_ireturn x hr dX6_line_18 (by omega) (by omega) ⟨rfl, rfl⟩
theorem cx_meetingOf_nt {d : Nat} {b : SBt} {Y : OUt} {M : MM} (hb : 104 ≤ b.2.1) {t u : Int32} (hT : ¬ (¬ t < 0 ∧ ¬ M 95 9 - 1 < t)) : CM (d + 2) 0 0 yX6_meetingOf cX6_meetingOf 3 (some .int) [.ref 94, .int t, .int u] b Y M (.inl (some (.int (0)))) (jrai (jm M 94 19 0) 1) := by
  refine Con.of (by decide +kernel) (Nat.le_of_ble_eq_true rfl) rfl fun p l e s m args below meth c D tyc A ad0 x hr htab hname => ?_
  change JJ _ _ _ _ _ _ _ _ _ _ _ _ _ _ _ _ _ 0 [some (.ref 94), some (.int t), some (.int u)] [] _ 0 0
  refine j_aload_n x dX6_meetingOf_0 rfl ?_
  refine j_iconst (v := 0) x dX6_meetingOf_1 (by decide) ?_
  refine j2_puti (k := 19) x hb dX6_meetingOf_2 jc_10 wfX6_36 (by decide) rfl rfl rfl rfl ?_
  refine j_aload_n x dX6_meetingOf_5 rfl ?_
  refine j_iload_n x dX6_meetingOf_6 rfl ?_
  refine j2_callVi x hb dX6_meetingOf_7 m_X6_isMeeting (CM_v (cx_isMeeting (d := d) hb) (jb_f (by rw [jm_n (by omega)]; exact hT))) wmX6_122 jc_10 rfl rfl rfl (Nat.le_of_ble_eq_true rfl) (j_fit_rm (by omega) (by omega) (by omega)) rfl ?_
  refine j_if_ne (tgt := 19) x dX6_meetingOf_10 (by decide) (fun hc => absurd hc (fun q => q rfl)) (fun hc => ?_)
  refine j_aload_n x dX6_meetingOf_13 rfl ?_
  refine j_iconst (v := 1) x dX6_meetingOf_14 (by decide) ?_
  refine j2_callVi x hb dX6_meetingOf_15 m_X6_raises (cx_raises (d := d) hb) wmX6_61 jc_10 rfl rfl rfl (Nat.le_of_ble_eq_true rfl) (j_fit_rm (by omega) (by omega) (by omega)) rfl ?_
  exact j_ireturn x hr dX6_meetingOf_18 (by omega) (by omega) ⟨rfl, rfl⟩
theorem cx_freeWeek_nt {d : Nat} {b : SBt} {Y : OUt} {M : MM} (hb : 104 ≤ b.2.1) {t : Int32} (hT : ¬ (¬ t < 0 ∧ ¬ M 95 9 - 1 < t)) : CM (d + 2) 0 0 yX6_freeWeek cX6_freeWeek 3 (some .int) [.ref 94, .int t] b Y M (.inl (some (.int (0)))) (jrai (jm M 94 19 0) 1) := by
  refine Con.of (by decide +kernel) (Nat.le_of_ble_eq_true rfl) rfl fun p l e s m args below meth c D tyc A ad0 x hr htab hname => ?_
  change JJ _ _ _ _ _ _ _ _ _ _ _ _ _ _ _ _ _ 0 [some (.ref 94), some (.int t), none] [] _ 0 0
  refine j_aload_n x dX6_freeWeek_0 rfl ?_
  refine j_iconst (v := 0) x dX6_freeWeek_1 (by decide) ?_
  refine j2_puti (k := 19) x hb dX6_freeWeek_2 jc_10 wfX6_36 (by decide) rfl rfl rfl rfl ?_
  refine j_aload_n x dX6_freeWeek_5 rfl ?_
  refine j_iload_n x dX6_freeWeek_6 rfl ?_
  refine j2_callVi x hb dX6_freeWeek_7 m_X6_isMeeting (CM_v (cx_isMeeting (d := d) hb) (jb_f (by rw [jm_n (by omega)]; exact hT))) wmX6_122 jc_10 rfl rfl rfl (Nat.le_of_ble_eq_true rfl) (j_fit_rm (by omega) (by omega) (by omega)) rfl ?_
  refine j_if_ne (tgt := 19) x dX6_freeWeek_10 (by decide) (fun hc => absurd hc (fun q => q rfl)) (fun hc => ?_)
  refine j_aload_n x dX6_freeWeek_13 rfl ?_
  refine j_iconst (v := 1) x dX6_freeWeek_14 (by decide) ?_
  refine j2_callVi x hb dX6_freeWeek_15 m_X6_raises (cx_raises (d := d) hb) wmX6_61 jc_10 rfl rfl rfl (Nat.le_of_ble_eq_true rfl) (j_fit_rm (by omega) (by omega) (by omega)) rfl ?_
  exact j_ireturn x hr dX6_freeWeek_18 (by omega) (by omega) ⟨rfl, rfl⟩
theorem cx_byeIn_nt {d : Nat} {b : SBt} {Y : OUt} {M : MM} (hb : 104 ≤ b.2.1) {t : Int32} (hT : ¬ (¬ t < 0 ∧ ¬ M 95 1 - 1 < t)) : CM (d + 2) 0 0 yX6_byeIn cX6_byeIn 2 (some .int) [.ref 94, .int t] b Y M (.inl (some (.int (0)))) (jrai (jm M 94 19 0) 1) := by
  refine Con.of (by decide +kernel) (Nat.le_of_ble_eq_true rfl) rfl fun p l e s m args below meth c D tyc A ad0 x hr htab hname => ?_
  change JJ _ _ _ _ _ _ _ _ _ _ _ _ _ _ _ _ _ 0 [some (.ref 94), some (.int t)] [] _ 0 0
  refine j_aload_n x dX6_byeIn_0 rfl ?_
  refine j_iconst (v := 0) x dX6_byeIn_1 (by decide) ?_
  refine j2_puti (k := 19) x hb dX6_byeIn_2 jc_10 wfX6_36 (by decide) rfl rfl rfl rfl ?_
  refine j_aload_n x dX6_byeIn_5 rfl ?_
  refine j_iload_n x dX6_byeIn_6 rfl ?_
  refine j2_callVi x hb dX6_byeIn_7 m_X6_isWeek (CM_v (cx_isWeek (d := d) hb) (jb_f (by rw [jm_n (by omega)]; exact hT))) wmX6_140 jc_10 rfl rfl rfl (Nat.le_of_ble_eq_true rfl) (j_fit_rm (by omega) (by omega) (by omega)) rfl ?_
  refine j_if_ne (tgt := 19) x dX6_byeIn_10 (by decide) (fun hc => absurd hc (fun q => q rfl)) (fun hc => ?_)
  refine j_aload_n x dX6_byeIn_13 rfl ?_
  refine j_iconst (v := 1) x dX6_byeIn_14 (by decide) ?_
  refine j2_callVi x hb dX6_byeIn_15 m_X6_raises (cx_raises (d := d) hb) wmX6_61 jc_10 rfl rfl rfl (Nat.le_of_ble_eq_true rfl) (j_fit_rm (by omega) (by omega) (by omega)) rfl ?_
  exact j_ireturn x hr dX6_byeIn_18 (by omega) (by omega) ⟨rfl, rfl⟩
theorem cx_meetingsIn_nt {d : Nat} {b : SBt} {Y : OUt} {M : MM} (hb : 104 ≤ b.2.1) {t : Int32} (hT : ¬ (¬ t < 0 ∧ ¬ M 95 1 - 1 < t)) : CM (d + 2) 0 0 yX6_meetingsIn cX6_meetingsIn 4 (some .int) [.ref 94, .int t] b Y M (.inl (some (.int (0)))) (jrai (jm M 94 19 0) 1) := by
  refine Con.of (by decide +kernel) (Nat.le_of_ble_eq_true rfl) rfl fun p l e s m args below meth c D tyc A ad0 x hr htab hname => ?_
  change JJ _ _ _ _ _ _ _ _ _ _ _ _ _ _ _ _ _ 0 [some (.ref 94), some (.int t), none, none] [] _ 0 0
  refine j_aload_n x dX6_meetingsIn_0 rfl ?_
  refine j_iconst (v := 0) x dX6_meetingsIn_1 (by decide) ?_
  refine j2_puti (k := 19) x hb dX6_meetingsIn_2 jc_10 wfX6_36 (by decide) rfl rfl rfl rfl ?_
  refine j_aload_n x dX6_meetingsIn_5 rfl ?_
  refine j_iload_n x dX6_meetingsIn_6 rfl ?_
  refine j2_callVi x hb dX6_meetingsIn_7 m_X6_isWeek (CM_v (cx_isWeek (d := d) hb) (jb_f (by rw [jm_n (by omega)]; exact hT))) wmX6_140 jc_10 rfl rfl rfl (Nat.le_of_ble_eq_true rfl) (j_fit_rm (by omega) (by omega) (by omega)) rfl ?_
  refine j_if_ne (tgt := 19) x dX6_meetingsIn_10 (by decide) (fun hc => absurd hc (fun q => q rfl)) (fun hc => ?_)
  refine j_aload_n x dX6_meetingsIn_13 rfl ?_
  refine j_iconst (v := 1) x dX6_meetingsIn_14 (by decide) ?_
  refine j2_callVi x hb dX6_meetingsIn_15 m_X6_raises (cx_raises (d := d) hb) wmX6_61 jc_10 rfl rfl rfl (Nat.le_of_ble_eq_true rfl) (j_fit_rm (by omega) (by omega) (by omega)) rfl ?_
  exact j_ireturn x hr dX6_meetingsIn_18 (by omega) (by omega) ⟨rfl, rfl⟩
theorem cx_clashes_nt {d : Nat} {b : SBt} {Y : OUt} {M : MM} (hb : 104 ≤ b.2.1) {t : Int32} (hT : ¬ (¬ t < 0 ∧ ¬ M 95 1 - 1 < t)) : CM (d + 2) 0 0 yX6_clashes_ cX6_clashes_ 2 (some .int) [.ref 94, .int t] b Y M (.inl (some (.int (0)))) (jrai (jm M 94 19 0) 1) := by
  refine Con.of (by decide +kernel) (Nat.le_of_ble_eq_true rfl) rfl fun p l e s m args below meth c D tyc A ad0 x hr htab hname => ?_
  change JJ _ _ _ _ _ _ _ _ _ _ _ _ _ _ _ _ _ 0 [some (.ref 94), some (.int t)] [] _ 0 0
  refine j_aload_n x dX6_clashes__0 rfl ?_
  refine j_iconst (v := 0) x dX6_clashes__1 (by decide) ?_
  refine j2_puti (k := 19) x hb dX6_clashes__2 jc_10 wfX6_36 (by decide) rfl rfl rfl rfl ?_
  refine j_aload_n x dX6_clashes__5 rfl ?_
  refine j_iload_n x dX6_clashes__6 rfl ?_
  refine j2_callVi x hb dX6_clashes__7 m_X6_isWeek (CM_v (cx_isWeek (d := d) hb) (jb_f (by rw [jm_n (by omega)]; exact hT))) wmX6_140 jc_10 rfl rfl rfl (Nat.le_of_ble_eq_true rfl) (j_fit_rm (by omega) (by omega) (by omega)) rfl ?_
  refine j_if_eq (tgt := 21) x dX6_clashes__10 (by decide) (fun hc => ?_) (fun hc => absurd (rfl) hc)
  refine j_aload_n x dX6_clashes__21 rfl ?_
  refine j_iconst (v := 1) x dX6_clashes__22 (by decide) ?_
  refine j2_callVi x hb dX6_clashes__23 m_X6_raises (cx_raises (d := d) hb) wmX6_61 jc_10 rfl rfl rfl (Nat.le_of_ble_eq_true rfl) (j_fit_rm (by omega) (by omega) (by omega)) rfl ?_
  exact j_ireturn x hr dX6_clashes__26 (by omega) (by omega) ⟨rfl, rfl⟩
theorem cx_isSafe_nt {d : Nat} {b : SBt} {Y : OUt} {M : MM} (hb : 104 ≤ b.2.1) {t : Int32} (hT : ¬ (¬ t < 0 ∧ ¬ M 95 0 - 1 < t)) : CM (d + 2) 0 0 yX6_isSafe cX6_isSafe 2 (some .boolean) [.ref 94, .int t] b Y M (.inl (some (.int (0)))) (jm M 94 19 1) := by
  refine Con.of (by decide +kernel) (Nat.le_of_ble_eq_true rfl) rfl fun p l e s m args below meth c D tyc A ad0 x hr htab hname => ?_
  change JJ _ _ _ _ _ _ _ _ _ _ _ _ _ _ _ _ _ 0 [some (.ref 94), some (.int t)] [] _ 0 0
  refine j_aload_n x dX6_isSafe_0 rfl ?_
  refine j_aload_n x dX6_isSafe_1 rfl ?_
  refine j_iload_n x dX6_isSafe_2 rfl ?_
  refine j2_callVi x hb dX6_isSafe_3 m_X6_isTeam (CM_v (cx_isTeam (d := d) hb) (jb_f hT)) wmX6_91 jc_10 rfl rfl rfl (Nat.le_of_ble_eq_true rfl) (j_fit_rm (by omega) (by omega) (by omega)) rfl ?_
  refine j_if_eq (tgt := 13) x dX6_isSafe_6 (by decide) (fun hc => ?_) (fun hc => absurd (rfl) hc)
  refine j_iconst (v := 1) x dX6_isSafe_13 (by decide) ?_
  refine j2_puti (k := 19) x hb dX6_isSafe_14 jc_10 wfX6_36 (by decide) rfl rfl rfl rfl ?_
  refine j_aload_n x dX6_isSafe_17 rfl ?_
  refine j2_geti (k := 19) x hb dX6_isSafe_18 jc_10 wfX6_36 (by decide) rfl ?_
  refine j_if_ne (tgt := 36) x dX6_isSafe_21 (by decide) (fun hc => ?_) (fun hc => absurd hc (by rw [jm_s]; decide))
  refine j_iconst (v := 0) x dX6_isSafe_36 (by decide) ?_
  exact j_zreturn x hr dX6_isSafe_37 (by first | decide | with_reducible exact jb_nar | with_reducible exact jisS_nar | with_reducible exact gno_nar) (by omega) (by omega) ⟨rfl, rfl⟩
theorem cx_isOut_nt {d : Nat} {b : SBt} {Y : OUt} {M : MM} (hb : 104 ≤ b.2.1) {t : Int32} (hT : ¬ (¬ t < 0 ∧ ¬ M 95 0 - 1 < t)) : CM (d + 2) 0 0 yX6_isOut cX6_isOut 2 (some .boolean) [.ref 94, .int t] b Y M (.inl (some (.int (0)))) (jm M 94 19 1) := by
  refine Con.of (by decide +kernel) (Nat.le_of_ble_eq_true rfl) rfl fun p l e s m args below meth c D tyc A ad0 x hr htab hname => ?_
  change JJ _ _ _ _ _ _ _ _ _ _ _ _ _ _ _ _ _ 0 [some (.ref 94), some (.int t)] [] _ 0 0
  refine j_aload_n x dX6_isOut_0 rfl ?_
  refine j_aload_n x dX6_isOut_1 rfl ?_
  refine j_iload_n x dX6_isOut_2 rfl ?_
  refine j2_callVi x hb dX6_isOut_3 m_X6_isTeam (CM_v (cx_isTeam (d := d) hb) (jb_f hT)) wmX6_91 jc_10 rfl rfl rfl (Nat.le_of_ble_eq_true rfl) (j_fit_rm (by omega) (by omega) (by omega)) rfl ?_
  refine j_if_eq (tgt := 13) x dX6_isOut_6 (by decide) (fun hc => ?_) (fun hc => absurd (rfl) hc)
  refine j_iconst (v := 1) x dX6_isOut_13 (by decide) ?_
  refine j2_puti (k := 19) x hb dX6_isOut_14 jc_10 wfX6_36 (by decide) rfl rfl rfl rfl ?_
  refine j_aload_n x dX6_isOut_17 rfl ?_
  refine j2_geti (k := 19) x hb dX6_isOut_18 jc_10 wfX6_36 (by decide) rfl ?_
  refine j_if_ne (tgt := 36) x dX6_isOut_21 (by decide) (fun hc => ?_) (fun hc => absurd hc (by rw [jm_s]; decide))
  refine j_iconst (v := 0) x dX6_isOut_36 (by decide) ?_
  exact j_zreturn x hr dX6_isOut_37 (by first | decide | with_reducible exact jb_nar | with_reducible exact jisS_nar | with_reducible exact gno_nar) (by omega) (by omega) ⟨rfl, rfl⟩
theorem cx_teamOf_bad {d : Nat} {b : SBt} {Y : OUt} {M : MM} (hb : 104 ≤ b.2.1) {t u : Int32} (hT : ¬ t < 0 ∧ ¬ M 95 0 - 1 < t) (hx : ¬ (¬ u < 0 ∧ ¬ 8 < u)) : CM (d + 2) 0 0 yX6_teamOf cX6_teamOf 3 (some .int) [.ref 94, .int t, .int u] b Y M (.inl (some (.int (0)))) (jrai (jm M 94 19 0) 2) := by
  refine Con.of (by decide +kernel) (Nat.le_of_ble_eq_true rfl) rfl fun p l e s m args below meth c D tyc A ad0 x hr htab hname => ?_
  change JJ _ _ _ _ _ _ _ _ _ _ _ _ _ _ _ _ _ 0 [some (.ref 94), some (.int t), some (.int u)] [] _ 0 0
  refine j_aload_n x dX6_teamOf_0 rfl ?_
  refine j_iconst (v := 0) x dX6_teamOf_1 (by decide) ?_
  refine j2_puti (k := 19) x hb dX6_teamOf_2 jc_10 wfX6_36 (by decide) rfl rfl rfl rfl ?_
  refine j_aload_n x dX6_teamOf_5 rfl ?_
  refine j_iload_n x dX6_teamOf_6 rfl ?_
  refine j2_callVi x hb dX6_teamOf_7 m_X6_isTeam (CM_v (cx_isTeam (d := d) hb) (jb_t (by rw [jm_n (by omega)]; exact hT))) wmX6_91 jc_10 rfl rfl rfl (Nat.le_of_ble_eq_true rfl) (j_fit_rm (by omega) (by omega) (by omega)) rfl ?_
  refine j_if_ne (tgt := 19) x dX6_teamOf_10 (by decide) (fun hc => ?_) (fun hc => absurd hc (by decide))
  refine j_iload_n x dX6_teamOf_19 rfl ?_
  refine j_iconst (v := 0) x dX6_teamOf_20 (by decide) ?_
  refine j_bipush (v := 8) x dX6_teamOf_21 (by decide) ?_
  refine j2_callSi x hb dX6_teamOf_23 m_X6_in (CM_v (cx_in (d := d) hb) (jb_f hx)) wmX6_64 rfl (Nat.le_of_ble_eq_true rfl) (j_fit_rm (by omega) (by omega) (by omega)) rfl ?_
  refine j_if_ne (tgt := 35) x dX6_teamOf_26 (by decide) (fun hc => absurd hc (fun q => q rfl)) (fun hc => ?_)
  refine j_aload_n x dX6_teamOf_29 rfl ?_
  refine j_iconst (v := 2) x dX6_teamOf_30 (by decide) ?_
  refine j2_callVi x hb dX6_teamOf_31 m_X6_raises (cx_raises (d := d) hb) wmX6_61 jc_10 rfl rfl rfl (Nat.le_of_ble_eq_true rfl) (j_fit_rm (by omega) (by omega) (by omega)) rfl ?_
  exact j_ireturn x hr dX6_teamOf_34 (by omega) (by omega) ⟨rfl, rfl⟩
theorem cx_teamOf_k1 {d : Nat} {b : SBt} {Y : OUt} {M : MM} (hb : 104 ≤ b.2.1) {t : Int32} (hT : ¬ t < 0 ∧ ¬ M 95 0 - 1 < t) {n : Nat} (hn : n ≤ 56) (hct : M 95 9 = nI n) : CM (d + 4) 0 0 yX6_teamOf cX6_teamOf 3 (some .int) [.ref 94, .int t, .int 1] b Y M (.inl (some (.int (gH (jm M 94 19 0) n t 1)))) ((jm M 94 19 0)) := by
  refine Con.of (by decide +kernel) (Nat.le_of_ble_eq_true rfl) rfl fun p l e s m args below meth c D tyc A ad0 x hr htab hname => ?_
  change JJ _ _ _ _ _ _ _ _ _ _ _ _ _ _ _ _ _ 0 [some (.ref 94), some (.int t), some (.int 1)] [] _ 0 0
  refine j_aload_n x dX6_teamOf_0 rfl ?_
  refine j_iconst (v := 0) x dX6_teamOf_1 (by decide) ?_
  refine j2_puti (k := 19) x hb dX6_teamOf_2 jc_10 wfX6_36 (by decide) rfl rfl rfl rfl ?_
  refine j_aload_n x dX6_teamOf_5 rfl ?_
  refine j_iload_n x dX6_teamOf_6 rfl ?_
  refine j2_callVi x hb dX6_teamOf_7 m_X6_isTeam (CM_v (cx_isTeam (d := d) hb) (jb_t (by rw [jm_n (by omega)]; exact hT))) wmX6_91 jc_10 rfl rfl rfl (Nat.le_of_ble_eq_true rfl) (j_fit_rm (by omega) (by omega) (by omega)) rfl ?_
  refine j_if_ne (tgt := 19) x dX6_teamOf_10 (by decide) (fun hc => ?_) (fun hc => absurd hc (by decide))
  refine j_iload_n x dX6_teamOf_19 rfl ?_
  refine j_iconst (v := 0) x dX6_teamOf_20 (by decide) ?_
  refine j_bipush (v := 8) x dX6_teamOf_21 (by decide) ?_
  refine j2_callSi x hb dX6_teamOf_23 m_X6_in (CM_v (cx_in (d := d) hb) (jb_t (by decide))) wmX6_64 rfl (Nat.le_of_ble_eq_true rfl) (j_fit_rm (by omega) (by omega) (by omega)) rfl ?_
  refine j_if_ne (tgt := 35) x dX6_teamOf_26 (by decide) (fun hc => ?_) (fun hc => absurd hc (by decide))
  refine j_iload_n x dX6_teamOf_35 rfl ?_
  refine j_if_ne (tgt := 51) x dX6_teamOf_36 (by decide) (fun hc => ?_) (fun hc => absurd hc (by decide))
  refine j_aload_n x dX6_teamOf_51 rfl ?_
  refine j_iload_n x dX6_teamOf_52 rfl ?_
  refine j_iload_n x dX6_teamOf_53 rfl ?_
  refine j2_callVi x hb dX6_teamOf_54 m_X6_has_ (cx_has2_1 (d := d) hb hn (by rw [jm_n (by omega)]; exact hct)) wmX6_156 jc_10 rfl rfl rfl (Nat.le_of_ble_eq_true rfl) (j_fit_rm (by omega) (by omega) (by omega)) rfl ?_
  exact j_ireturn x hr dX6_teamOf_57 (by omega) (by omega) ⟨rfl, rfl⟩
theorem cx_teamOf_k2 {d : Nat} {b : SBt} {Y : OUt} {M : MM} (hb : 104 ≤ b.2.1) {t : Int32} (hT : ¬ t < 0 ∧ ¬ M 95 0 - 1 < t) {n : Nat} (hn : n ≤ 56) (hct : M 95 9 = nI n) : CM (d + 4) 0 0 yX6_teamOf cX6_teamOf 3 (some .int) [.ref 94, .int t, .int 2] b Y M (.inl (some (.int (gH (jm M 94 19 0) n t 2)))) ((jm M 94 19 0)) := by
  refine Con.of (by decide +kernel) (Nat.le_of_ble_eq_true rfl) rfl fun p l e s m args below meth c D tyc A ad0 x hr htab hname => ?_
  change JJ _ _ _ _ _ _ _ _ _ _ _ _ _ _ _ _ _ 0 [some (.ref 94), some (.int t), some (.int 2)] [] _ 0 0
  refine j_aload_n x dX6_teamOf_0 rfl ?_
  refine j_iconst (v := 0) x dX6_teamOf_1 (by decide) ?_
  refine j2_puti (k := 19) x hb dX6_teamOf_2 jc_10 wfX6_36 (by decide) rfl rfl rfl rfl ?_
  refine j_aload_n x dX6_teamOf_5 rfl ?_
  refine j_iload_n x dX6_teamOf_6 rfl ?_
  refine j2_callVi x hb dX6_teamOf_7 m_X6_isTeam (CM_v (cx_isTeam (d := d) hb) (jb_t (by rw [jm_n (by omega)]; exact hT))) wmX6_91 jc_10 rfl rfl rfl (Nat.le_of_ble_eq_true rfl) (j_fit_rm (by omega) (by omega) (by omega)) rfl ?_
  refine j_if_ne (tgt := 19) x dX6_teamOf_10 (by decide) (fun hc => ?_) (fun hc => absurd hc (by decide))
  refine j_iload_n x dX6_teamOf_19 rfl ?_
  refine j_iconst (v := 0) x dX6_teamOf_20 (by decide) ?_
  refine j_bipush (v := 8) x dX6_teamOf_21 (by decide) ?_
  refine j2_callSi x hb dX6_teamOf_23 m_X6_in (CM_v (cx_in (d := d) hb) (jb_t (by decide))) wmX6_64 rfl (Nat.le_of_ble_eq_true rfl) (j_fit_rm (by omega) (by omega) (by omega)) rfl ?_
  refine j_if_ne (tgt := 35) x dX6_teamOf_26 (by decide) (fun hc => ?_) (fun hc => absurd hc (by decide))
  refine j_iload_n x dX6_teamOf_35 rfl ?_
  refine j_if_ne (tgt := 51) x dX6_teamOf_36 (by decide) (fun hc => ?_) (fun hc => absurd hc (by decide))
  refine j_aload_n x dX6_teamOf_51 rfl ?_
  refine j_iload_n x dX6_teamOf_52 rfl ?_
  refine j_iload_n x dX6_teamOf_53 rfl ?_
  refine j2_callVi x hb dX6_teamOf_54 m_X6_has_ (cx_has2_2 (d := d) hb hn (by rw [jm_n (by omega)]; exact hct)) wmX6_156 jc_10 rfl rfl rfl (Nat.le_of_ble_eq_true rfl) (j_fit_rm (by omega) (by omega) (by omega)) rfl ?_
  exact j_ireturn x hr dX6_teamOf_57 (by omega) (by omega) ⟨rfl, rfl⟩
theorem cx_teamOf_k3 {d : Nat} {b : SBt} {Y : OUt} {M : MM} (hb : 104 ≤ b.2.1) {t : Int32} (hT : ¬ t < 0 ∧ ¬ M 95 0 - 1 < t) {n : Nat} (hn : n ≤ 56) (hct : M 95 9 = nI n) : CM (d + 4) 0 0 yX6_teamOf cX6_teamOf 3 (some .int) [.ref 94, .int t, .int 3] b Y M (.inl (some (.int (gH (jm M 94 19 0) n t 3)))) ((jm M 94 19 0)) := by
  refine Con.of (by decide +kernel) (Nat.le_of_ble_eq_true rfl) rfl fun p l e s m args below meth c D tyc A ad0 x hr htab hname => ?_
  change JJ _ _ _ _ _ _ _ _ _ _ _ _ _ _ _ _ _ 0 [some (.ref 94), some (.int t), some (.int 3)] [] _ 0 0
  refine j_aload_n x dX6_teamOf_0 rfl ?_
  refine j_iconst (v := 0) x dX6_teamOf_1 (by decide) ?_
  refine j2_puti (k := 19) x hb dX6_teamOf_2 jc_10 wfX6_36 (by decide) rfl rfl rfl rfl ?_
  refine j_aload_n x dX6_teamOf_5 rfl ?_
  refine j_iload_n x dX6_teamOf_6 rfl ?_
  refine j2_callVi x hb dX6_teamOf_7 m_X6_isTeam (CM_v (cx_isTeam (d := d) hb) (jb_t (by rw [jm_n (by omega)]; exact hT))) wmX6_91 jc_10 rfl rfl rfl (Nat.le_of_ble_eq_true rfl) (j_fit_rm (by omega) (by omega) (by omega)) rfl ?_
  refine j_if_ne (tgt := 19) x dX6_teamOf_10 (by decide) (fun hc => ?_) (fun hc => absurd hc (by decide))
  refine j_iload_n x dX6_teamOf_19 rfl ?_
  refine j_iconst (v := 0) x dX6_teamOf_20 (by decide) ?_
  refine j_bipush (v := 8) x dX6_teamOf_21 (by decide) ?_
  refine j2_callSi x hb dX6_teamOf_23 m_X6_in (CM_v (cx_in (d := d) hb) (jb_t (by decide))) wmX6_64 rfl (Nat.le_of_ble_eq_true rfl) (j_fit_rm (by omega) (by omega) (by omega)) rfl ?_
  refine j_if_ne (tgt := 35) x dX6_teamOf_26 (by decide) (fun hc => ?_) (fun hc => absurd hc (by decide))
  refine j_iload_n x dX6_teamOf_35 rfl ?_
  refine j_if_ne (tgt := 51) x dX6_teamOf_36 (by decide) (fun hc => ?_) (fun hc => absurd hc (by decide))
  refine j_aload_n x dX6_teamOf_51 rfl ?_
  refine j_iload_n x dX6_teamOf_52 rfl ?_
  refine j_iload_n x dX6_teamOf_53 rfl ?_
  refine j2_callVi x hb dX6_teamOf_54 m_X6_has_ (cx_has2_3 (d := d) hb hn (by rw [jm_n (by omega)]; exact hct)) wmX6_156 jc_10 rfl rfl rfl (Nat.le_of_ble_eq_true rfl) (j_fit_rm (by omega) (by omega) (by omega)) rfl ?_
  exact j_ireturn x hr dX6_teamOf_57 (by omega) (by omega) ⟨rfl, rfl⟩
theorem cx_teamOf_k4 {d : Nat} {b : SBt} {Y : OUt} {M : MM} (hb : 104 ≤ b.2.1) {t : Int32} (hT : ¬ t < 0 ∧ ¬ M 95 0 - 1 < t) {n : Nat} (hn : n ≤ 56) (hct : M 95 9 = nI n) : CM (d + 4) 0 0 yX6_teamOf cX6_teamOf 3 (some .int) [.ref 94, .int t, .int 4] b Y M (.inl (some (.int (gH (jm M 94 19 0) n t 4)))) ((jm M 94 19 0)) := by
  refine Con.of (by decide +kernel) (Nat.le_of_ble_eq_true rfl) rfl fun p l e s m args below meth c D tyc A ad0 x hr htab hname => ?_
  change JJ _ _ _ _ _ _ _ _ _ _ _ _ _ _ _ _ _ 0 [some (.ref 94), some (.int t), some (.int 4)] [] _ 0 0
  refine j_aload_n x dX6_teamOf_0 rfl ?_
  refine j_iconst (v := 0) x dX6_teamOf_1 (by decide) ?_
  refine j2_puti (k := 19) x hb dX6_teamOf_2 jc_10 wfX6_36 (by decide) rfl rfl rfl rfl ?_
  refine j_aload_n x dX6_teamOf_5 rfl ?_
  refine j_iload_n x dX6_teamOf_6 rfl ?_
  refine j2_callVi x hb dX6_teamOf_7 m_X6_isTeam (CM_v (cx_isTeam (d := d) hb) (jb_t (by rw [jm_n (by omega)]; exact hT))) wmX6_91 jc_10 rfl rfl rfl (Nat.le_of_ble_eq_true rfl) (j_fit_rm (by omega) (by omega) (by omega)) rfl ?_
  refine j_if_ne (tgt := 19) x dX6_teamOf_10 (by decide) (fun hc => ?_) (fun hc => absurd hc (by decide))
  refine j_iload_n x dX6_teamOf_19 rfl ?_
  refine j_iconst (v := 0) x dX6_teamOf_20 (by decide) ?_
  refine j_bipush (v := 8) x dX6_teamOf_21 (by decide) ?_
  refine j2_callSi x hb dX6_teamOf_23 m_X6_in (CM_v (cx_in (d := d) hb) (jb_t (by decide))) wmX6_64 rfl (Nat.le_of_ble_eq_true rfl) (j_fit_rm (by omega) (by omega) (by omega)) rfl ?_
  refine j_if_ne (tgt := 35) x dX6_teamOf_26 (by decide) (fun hc => ?_) (fun hc => absurd hc (by decide))
  refine j_iload_n x dX6_teamOf_35 rfl ?_
  refine j_if_ne (tgt := 51) x dX6_teamOf_36 (by decide) (fun hc => ?_) (fun hc => absurd hc (by decide))
  refine j_aload_n x dX6_teamOf_51 rfl ?_
  refine j_iload_n x dX6_teamOf_52 rfl ?_
  refine j_iload_n x dX6_teamOf_53 rfl ?_
  refine j2_callVi x hb dX6_teamOf_54 m_X6_has_ (cx_has2_4 (d := d) hb hn (by rw [jm_n (by omega)]; exact hct)) wmX6_156 jc_10 rfl rfl rfl (Nat.le_of_ble_eq_true rfl) (j_fit_rm (by omega) (by omega) (by omega)) rfl ?_
  exact j_ireturn x hr dX6_teamOf_57 (by omega) (by omega) ⟨rfl, rfl⟩
theorem cx_teamOf_k5 {d : Nat} {b : SBt} {Y : OUt} {M : MM} (hb : 104 ≤ b.2.1) {t : Int32} (hT : ¬ t < 0 ∧ ¬ M 95 0 - 1 < t) {n : Nat} (hn : n ≤ 56) (hct : M 95 9 = nI n) : CM (d + 4) 0 0 yX6_teamOf cX6_teamOf 3 (some .int) [.ref 94, .int t, .int 5] b Y M (.inl (some (.int (gH (jm M 94 19 0) n t 5)))) ((jm M 94 19 0)) := by
  refine Con.of (by decide +kernel) (Nat.le_of_ble_eq_true rfl) rfl fun p l e s m args below meth c D tyc A ad0 x hr htab hname => ?_
  change JJ _ _ _ _ _ _ _ _ _ _ _ _ _ _ _ _ _ 0 [some (.ref 94), some (.int t), some (.int 5)] [] _ 0 0
  refine j_aload_n x dX6_teamOf_0 rfl ?_
  refine j_iconst (v := 0) x dX6_teamOf_1 (by decide) ?_
  refine j2_puti (k := 19) x hb dX6_teamOf_2 jc_10 wfX6_36 (by decide) rfl rfl rfl rfl ?_
  refine j_aload_n x dX6_teamOf_5 rfl ?_
  refine j_iload_n x dX6_teamOf_6 rfl ?_
  refine j2_callVi x hb dX6_teamOf_7 m_X6_isTeam (CM_v (cx_isTeam (d := d) hb) (jb_t (by rw [jm_n (by omega)]; exact hT))) wmX6_91 jc_10 rfl rfl rfl (Nat.le_of_ble_eq_true rfl) (j_fit_rm (by omega) (by omega) (by omega)) rfl ?_
  refine j_if_ne (tgt := 19) x dX6_teamOf_10 (by decide) (fun hc => ?_) (fun hc => absurd hc (by decide))
  refine j_iload_n x dX6_teamOf_19 rfl ?_
  refine j_iconst (v := 0) x dX6_teamOf_20 (by decide) ?_
  refine j_bipush (v := 8) x dX6_teamOf_21 (by decide) ?_
  refine j2_callSi x hb dX6_teamOf_23 m_X6_in (CM_v (cx_in (d := d) hb) (jb_t (by decide))) wmX6_64 rfl (Nat.le_of_ble_eq_true rfl) (j_fit_rm (by omega) (by omega) (by omega)) rfl ?_
  refine j_if_ne (tgt := 35) x dX6_teamOf_26 (by decide) (fun hc => ?_) (fun hc => absurd hc (by decide))
  refine j_iload_n x dX6_teamOf_35 rfl ?_
  refine j_if_ne (tgt := 51) x dX6_teamOf_36 (by decide) (fun hc => ?_) (fun hc => absurd hc (by decide))
  refine j_aload_n x dX6_teamOf_51 rfl ?_
  refine j_iload_n x dX6_teamOf_52 rfl ?_
  refine j_iload_n x dX6_teamOf_53 rfl ?_
  refine j2_callVi x hb dX6_teamOf_54 m_X6_has_ (cx_has2_5 (d := d) hb hn (by rw [jm_n (by omega)]; exact hct)) wmX6_156 jc_10 rfl rfl rfl (Nat.le_of_ble_eq_true rfl) (j_fit_rm (by omega) (by omega) (by omega)) rfl ?_
  exact j_ireturn x hr dX6_teamOf_57 (by omega) (by omega) ⟨rfl, rfl⟩
theorem cx_teamOf_k6 {d : Nat} {b : SBt} {Y : OUt} {M : MM} (hb : 104 ≤ b.2.1) {t : Int32} (hT : ¬ t < 0 ∧ ¬ M 95 0 - 1 < t) {n : Nat} (hn : n ≤ 56) (hct : M 95 9 = nI n) : CM (d + 4) 0 0 yX6_teamOf cX6_teamOf 3 (some .int) [.ref 94, .int t, .int 6] b Y M (.inl (some (.int (gH (jm M 94 19 0) n t 6)))) ((jm M 94 19 0)) := by
  refine Con.of (by decide +kernel) (Nat.le_of_ble_eq_true rfl) rfl fun p l e s m args below meth c D tyc A ad0 x hr htab hname => ?_
  change JJ _ _ _ _ _ _ _ _ _ _ _ _ _ _ _ _ _ 0 [some (.ref 94), some (.int t), some (.int 6)] [] _ 0 0
  refine j_aload_n x dX6_teamOf_0 rfl ?_
  refine j_iconst (v := 0) x dX6_teamOf_1 (by decide) ?_
  refine j2_puti (k := 19) x hb dX6_teamOf_2 jc_10 wfX6_36 (by decide) rfl rfl rfl rfl ?_
  refine j_aload_n x dX6_teamOf_5 rfl ?_
  refine j_iload_n x dX6_teamOf_6 rfl ?_
  refine j2_callVi x hb dX6_teamOf_7 m_X6_isTeam (CM_v (cx_isTeam (d := d) hb) (jb_t (by rw [jm_n (by omega)]; exact hT))) wmX6_91 jc_10 rfl rfl rfl (Nat.le_of_ble_eq_true rfl) (j_fit_rm (by omega) (by omega) (by omega)) rfl ?_
  refine j_if_ne (tgt := 19) x dX6_teamOf_10 (by decide) (fun hc => ?_) (fun hc => absurd hc (by decide))
  refine j_iload_n x dX6_teamOf_19 rfl ?_
  refine j_iconst (v := 0) x dX6_teamOf_20 (by decide) ?_
  refine j_bipush (v := 8) x dX6_teamOf_21 (by decide) ?_
  refine j2_callSi x hb dX6_teamOf_23 m_X6_in (CM_v (cx_in (d := d) hb) (jb_t (by decide))) wmX6_64 rfl (Nat.le_of_ble_eq_true rfl) (j_fit_rm (by omega) (by omega) (by omega)) rfl ?_
  refine j_if_ne (tgt := 35) x dX6_teamOf_26 (by decide) (fun hc => ?_) (fun hc => absurd hc (by decide))
  refine j_iload_n x dX6_teamOf_35 rfl ?_
  refine j_if_ne (tgt := 51) x dX6_teamOf_36 (by decide) (fun hc => ?_) (fun hc => absurd hc (by decide))
  refine j_aload_n x dX6_teamOf_51 rfl ?_
  refine j_iload_n x dX6_teamOf_52 rfl ?_
  refine j_iload_n x dX6_teamOf_53 rfl ?_
  refine j2_callVi x hb dX6_teamOf_54 m_X6_has_ (cx_has2_6 (d := d) hb hn (by rw [jm_n (by omega)]; exact hct)) wmX6_156 jc_10 rfl rfl rfl (Nat.le_of_ble_eq_true rfl) (j_fit_rm (by omega) (by omega) (by omega)) rfl ?_
  exact j_ireturn x hr dX6_teamOf_57 (by omega) (by omega) ⟨rfl, rfl⟩
theorem cx_teamOf_k7 {d : Nat} {b : SBt} {Y : OUt} {M : MM} (hb : 104 ≤ b.2.1) {t : Int32} (hT : ¬ t < 0 ∧ ¬ M 95 0 - 1 < t) {n : Nat} (hn : n ≤ 56) (hct : M 95 9 = nI n) : CM (d + 4) 0 0 yX6_teamOf cX6_teamOf 3 (some .int) [.ref 94, .int t, .int 7] b Y M (.inl (some (.int (gH (jm M 94 19 0) n t 7)))) ((jm M 94 19 0)) := by
  refine Con.of (by decide +kernel) (Nat.le_of_ble_eq_true rfl) rfl fun p l e s m args below meth c D tyc A ad0 x hr htab hname => ?_
  change JJ _ _ _ _ _ _ _ _ _ _ _ _ _ _ _ _ _ 0 [some (.ref 94), some (.int t), some (.int 7)] [] _ 0 0
  refine j_aload_n x dX6_teamOf_0 rfl ?_
  refine j_iconst (v := 0) x dX6_teamOf_1 (by decide) ?_
  refine j2_puti (k := 19) x hb dX6_teamOf_2 jc_10 wfX6_36 (by decide) rfl rfl rfl rfl ?_
  refine j_aload_n x dX6_teamOf_5 rfl ?_
  refine j_iload_n x dX6_teamOf_6 rfl ?_
  refine j2_callVi x hb dX6_teamOf_7 m_X6_isTeam (CM_v (cx_isTeam (d := d) hb) (jb_t (by rw [jm_n (by omega)]; exact hT))) wmX6_91 jc_10 rfl rfl rfl (Nat.le_of_ble_eq_true rfl) (j_fit_rm (by omega) (by omega) (by omega)) rfl ?_
  refine j_if_ne (tgt := 19) x dX6_teamOf_10 (by decide) (fun hc => ?_) (fun hc => absurd hc (by decide))
  refine j_iload_n x dX6_teamOf_19 rfl ?_
  refine j_iconst (v := 0) x dX6_teamOf_20 (by decide) ?_
  refine j_bipush (v := 8) x dX6_teamOf_21 (by decide) ?_
  refine j2_callSi x hb dX6_teamOf_23 m_X6_in (CM_v (cx_in (d := d) hb) (jb_t (by decide))) wmX6_64 rfl (Nat.le_of_ble_eq_true rfl) (j_fit_rm (by omega) (by omega) (by omega)) rfl ?_
  refine j_if_ne (tgt := 35) x dX6_teamOf_26 (by decide) (fun hc => ?_) (fun hc => absurd hc (by decide))
  refine j_iload_n x dX6_teamOf_35 rfl ?_
  refine j_if_ne (tgt := 51) x dX6_teamOf_36 (by decide) (fun hc => ?_) (fun hc => absurd hc (by decide))
  refine j_aload_n x dX6_teamOf_51 rfl ?_
  refine j_iload_n x dX6_teamOf_52 rfl ?_
  refine j_iload_n x dX6_teamOf_53 rfl ?_
  refine j2_callVi x hb dX6_teamOf_54 m_X6_has_ (cx_has2_7 (d := d) hb hn (by rw [jm_n (by omega)]; exact hct)) wmX6_156 jc_10 rfl rfl rfl (Nat.le_of_ble_eq_true rfl) (j_fit_rm (by omega) (by omega) (by omega)) rfl ?_
  exact j_ireturn x hr dX6_teamOf_57 (by omega) (by omega) ⟨rfl, rfl⟩
theorem cx_teamOf_k8 {d : Nat} {b : SBt} {Y : OUt} {M : MM} (hb : 104 ≤ b.2.1) {t : Int32} (hT : ¬ t < 0 ∧ ¬ M 95 0 - 1 < t) {n : Nat} (hn : n ≤ 56) (hct : M 95 9 = nI n) : CM (d + 4) 0 0 yX6_teamOf cX6_teamOf 3 (some .int) [.ref 94, .int t, .int 8] b Y M (.inl (some (.int (gH (jm M 94 19 0) n t 8)))) ((jm M 94 19 0)) := by
  refine Con.of (by decide +kernel) (Nat.le_of_ble_eq_true rfl) rfl fun p l e s m args below meth c D tyc A ad0 x hr htab hname => ?_
  change JJ _ _ _ _ _ _ _ _ _ _ _ _ _ _ _ _ _ 0 [some (.ref 94), some (.int t), some (.int 8)] [] _ 0 0
  refine j_aload_n x dX6_teamOf_0 rfl ?_
  refine j_iconst (v := 0) x dX6_teamOf_1 (by decide) ?_
  refine j2_puti (k := 19) x hb dX6_teamOf_2 jc_10 wfX6_36 (by decide) rfl rfl rfl rfl ?_
  refine j_aload_n x dX6_teamOf_5 rfl ?_
  refine j_iload_n x dX6_teamOf_6 rfl ?_
  refine j2_callVi x hb dX6_teamOf_7 m_X6_isTeam (CM_v (cx_isTeam (d := d) hb) (jb_t (by rw [jm_n (by omega)]; exact hT))) wmX6_91 jc_10 rfl rfl rfl (Nat.le_of_ble_eq_true rfl) (j_fit_rm (by omega) (by omega) (by omega)) rfl ?_
  refine j_if_ne (tgt := 19) x dX6_teamOf_10 (by decide) (fun hc => ?_) (fun hc => absurd hc (by decide))
  refine j_iload_n x dX6_teamOf_19 rfl ?_
  refine j_iconst (v := 0) x dX6_teamOf_20 (by decide) ?_
  refine j_bipush (v := 8) x dX6_teamOf_21 (by decide) ?_
  refine j2_callSi x hb dX6_teamOf_23 m_X6_in (CM_v (cx_in (d := d) hb) (jb_t (by decide))) wmX6_64 rfl (Nat.le_of_ble_eq_true rfl) (j_fit_rm (by omega) (by omega) (by omega)) rfl ?_
  refine j_if_ne (tgt := 35) x dX6_teamOf_26 (by decide) (fun hc => ?_) (fun hc => absurd hc (by decide))
  refine j_iload_n x dX6_teamOf_35 rfl ?_
  refine j_if_ne (tgt := 51) x dX6_teamOf_36 (by decide) (fun hc => ?_) (fun hc => absurd hc (by decide))
  refine j_aload_n x dX6_teamOf_51 rfl ?_
  refine j_iload_n x dX6_teamOf_52 rfl ?_
  refine j_iload_n x dX6_teamOf_53 rfl ?_
  refine j2_callVi x hb dX6_teamOf_54 m_X6_has_ (cx_has2_8 (d := d) hb hn (by rw [jm_n (by omega)]; exact hct)) wmX6_156 jc_10 rfl rfl rfl (Nat.le_of_ble_eq_true rfl) (j_fit_rm (by omega) (by omega) (by omega)) rfl ?_
  exact j_ireturn x hr dX6_teamOf_57 (by omega) (by omega) ⟨rfl, rfl⟩
theorem cx_teamOf_k0 {d : Nat} {b : SBt} {Y : OUt} {M : MM} (hb : 104 ≤ b.2.1) {t1 : Nat} {w : Nat} (hw : w ≤ 8) (h0 : M 95 0 = nI w) (ht : t1 < w) : CM (d + 4) 0 0 yX6_teamOf cX6_teamOf 3 (some .int) [.ref 94, .int (nI t1), .int 0] b Y M (.inl (some (.int ((jm M 94 19 0) 95 (10 + t1))))) ((jm M 94 19 0)) := by
  refine Con.of (by decide +kernel) (Nat.le_of_ble_eq_true rfl) rfl fun p l e s m args below meth c D tyc A ad0 x hr htab hname => ?_
  change JJ _ _ _ _ _ _ _ _ _ _ _ _ _ _ _ _ _ 0 [some (.ref 94), some (.int (nI t1)), some (.int 0)] [] _ 0 0
  refine j_aload_n x dX6_teamOf_0 rfl ?_
  refine j_iconst (v := 0) x dX6_teamOf_1 (by decide) ?_
  refine j2_puti (k := 19) x hb dX6_teamOf_2 jc_10 wfX6_36 (by decide) rfl rfl rfl rfl ?_
  refine j_aload_n x dX6_teamOf_5 rfl ?_
  refine j_iload_n x dX6_teamOf_6 rfl ?_
  refine j2_callVi x hb dX6_teamOf_7 m_X6_isTeam (CM_v (cx_isTeam (d := d) hb) (jb_t ⟨nI_pos (by omega), by rw [jm_n (by omega), h0, show (nI w - 1 : Int32) = nI (w - 1) from nI_sub (d := 1) (by omega)]; exact nI_nlt (by omega) (by omega)⟩)) wmX6_91 jc_10 rfl rfl rfl (Nat.le_of_ble_eq_true rfl) (j_fit_rm (by omega) (by omega) (by omega)) rfl ?_
  refine j_if_ne (tgt := 19) x dX6_teamOf_10 (by decide) (fun hc => ?_) (fun hc => absurd hc (by decide))
  refine j_iload_n x dX6_teamOf_19 rfl ?_
  refine j_iconst (v := 0) x dX6_teamOf_20 (by decide) ?_
  refine j_bipush (v := 8) x dX6_teamOf_21 (by decide) ?_
  refine j2_callSi x hb dX6_teamOf_23 m_X6_in (CM_v (cx_in (d := d) hb) (jb_t (by decide))) wmX6_64 rfl (Nat.le_of_ble_eq_true rfl) (j_fit_rm (by omega) (by omega) (by omega)) rfl ?_
  refine j_if_ne (tgt := 35) x dX6_teamOf_26 (by decide) (fun hc => ?_) (fun hc => absurd hc (by decide))
  refine j_iload_n x dX6_teamOf_35 rfl ?_
  refine j_if_ne (tgt := 51) x dX6_teamOf_36 (by decide) (fun hc => absurd hc (fun q => q rfl)) (fun hc => ?_)
  refine j_aload_n x dX6_teamOf_39 rfl ?_
  refine j2_getr (k := 0) (r := 95) x hb dX6_teamOf_40 jc_10 wfX6_9 (by decide) rfl ?_
  refine j_bipush (v := 10) x dX6_teamOf_43 (by decide) ?_
  refine j_iload_n x dX6_teamOf_45 rfl ?_
  refine j_iadd x dX6_teamOf_46 ?_
  refine j2_ialn x hb dX6_teamOf_47 fa_95 (j := 10 + t1) (by rw [show (10 : Int32) + nI t1 = nI (10 + t1) from nI_add 10 t1]; exact vp_in_nI (by omega) (by decide)) (by rw [show (10 : Int32) + nI t1 = nI (10 + t1) from nI_add 10 t1]; exact nI_clamp (by omega)) ?_
  refine j_goto (tgt := 57) x dX6_teamOf_48 (by decide) ?_
  exact j_ireturn x hr dX6_teamOf_57 (by omega) (by omega) ⟨rfl, rfl⟩
theorem cx_pointsAgain {d : Nat} {b : SBt} {Y : OUt} {M : MM} (hb : 104 ≤ b.2.1) {t : Int32} (hT : ¬ t < 0 ∧ ¬ M 95 0 - 1 < t) {n : Nat} (hn : n ≤ 56) (hct : M 95 9 = nI n) : CM (d + 4) 0 0 yX6_pointsAgain cX6_pointsAgain 2 (some .int) [.ref 94, .int t] b Y M (.inl (some (.int (gH (jm M 94 19 0) n t 1)))) ((jm M 94 19 0)) := by
  refine Con.of (by decide +kernel) (Nat.le_of_ble_eq_true rfl) rfl fun p l e s m args below meth c D tyc A ad0 x hr htab hname => ?_
  change JJ _ _ _ _ _ _ _ _ _ _ _ _ _ _ _ _ _ 0 [some (.ref 94), some (.int t)] [] _ 0 0
  refine j_aload_n x dX6_pointsAgain_0 rfl ?_
  refine j_iconst (v := 0) x dX6_pointsAgain_1 (by decide) ?_
  refine j2_puti (k := 19) x hb dX6_pointsAgain_2 jc_10 wfX6_36 (by decide) rfl rfl rfl rfl ?_
  refine j_aload_n x dX6_pointsAgain_5 rfl ?_
  refine j_iload_n x dX6_pointsAgain_6 rfl ?_
  refine j2_callVi x hb dX6_pointsAgain_7 m_X6_isTeam (CM_v (cx_isTeam (d := d) hb) (jb_t (by rw [jm_n (by omega)]; exact hT))) wmX6_91 jc_10 rfl rfl rfl (Nat.le_of_ble_eq_true rfl) (j_fit_rm (by omega) (by omega) (by omega)) rfl ?_
  refine j_if_eq (tgt := 22) x dX6_pointsAgain_10 (by decide) (fun hc => absurd hc (by decide)) (fun hc => ?_)
  refine j_aload_n x dX6_pointsAgain_13 rfl ?_
  refine j_iload_n x dX6_pointsAgain_14 rfl ?_
  refine j_iconst (v := 1) x dX6_pointsAgain_15 (by decide) ?_
  refine j2_callVi x hb dX6_pointsAgain_16 m_X6_has_ (cx_has2_1 (d := d) hb hn (by rw [jm_n (by omega)]; exact hct)) wmX6_156 jc_10 rfl rfl rfl (Nat.le_of_ble_eq_true rfl) (j_fit_rm (by omega) (by omega) (by omega)) rfl ?_
  refine j_goto (tgt := 27) x dX6_pointsAgain_19 (by decide) ?_
  exact j_ireturn x hr dX6_pointsAgain_27 (by omega) (by omega) ⟨rfl, rfl⟩
theorem cx_placeOf {d : Nat} {b : SBt} {Y : OUt} {M : MM} (hb : 104 ≤ b.2.1) {t : Int32} (hT : ¬ t < 0 ∧ ¬ M 95 0 - 1 < t) {n : Nat} (hn : n ≤ 56) (hct : M 95 9 = nI n) {w : Nat} (hw : w ≤ 8) (h0 : M 95 0 = nI w) {r : Nat} (hr3 : r ≤ 3) (h5 : M 95 5 = nI r) (hru : ∀ i, i < r → M 95 (6 + i) = 0 ∨ M 95 (6 + i) = 1 ∨ M 95 (6 + i) = 2 ∨ M 95 (6 + i) = 3 ∨ M 95 (6 + i) = 4) : CM (d + 8) 0 0 yX6_placeOf cX6_placeOf 2 (some .int) [.ref 94, .int t] b Y M (.inl (some (.int (jsum (fgPl (jm M 94 19 0) n w r t) w)))) ((jm M 94 19 0)) := by
  refine Con.of (by decide +kernel) (Nat.le_of_ble_eq_true rfl) rfl fun p l e s m args below meth c D tyc A ad0 x hr htab hname => ?_
  change JJ _ _ _ _ _ _ _ _ _ _ _ _ _ _ _ _ _ 0 [some (.ref 94), some (.int t)] [] _ 0 0
  refine j_aload_n x dX6_placeOf_0 rfl ?_
  refine j_iconst (v := 0) x dX6_placeOf_1 (by decide) ?_
  refine j2_puti (k := 19) x hb dX6_placeOf_2 jc_10 wfX6_36 (by decide) rfl rfl rfl rfl ?_
  refine j_aload_n x dX6_placeOf_5 rfl ?_
  refine j_iload_n x dX6_placeOf_6 rfl ?_
  refine j2_callVi x hb dX6_placeOf_7 m_X6_isTeam (CM_v (cx_isTeam (d := d) hb) (jb_t (by rw [jm_n (by omega)]; exact hT))) wmX6_91 jc_10 rfl rfl rfl (Nat.le_of_ble_eq_true rfl) (j_fit_rm (by omega) (by omega) (by omega)) rfl ?_
  refine j_if_eq (tgt := 21) x dX6_placeOf_10 (by decide) (fun hc => absurd hc (by decide)) (fun hc => ?_)
  refine j_aload_n x dX6_placeOf_13 rfl ?_
  refine j_iload_n x dX6_placeOf_14 rfl ?_
  refine j2_callVi x hb dX6_placeOf_15 m_X6_placeIn (cx_placeIn (d := d) hb hn (by rw [jm_n (by omega)]; exact hct) hw (by rw [jm_n (by omega)]; exact h0) hr3 (by rw [jm_n (by omega)]; exact h5) (fun i hi => by rw [jm_n (by omega)]; exact hru i hi)) wmX6_170 jc_10 rfl rfl rfl (Nat.le_of_ble_eq_true rfl) (j_fit_rm (by omega) (by omega) (by omega)) rfl ?_
  refine j_goto (tgt := 26) x dX6_placeOf_18 (by decide) ?_
  exact j_ireturn x hr dX6_placeOf_26 (by omega) (by omega) ⟨rfl, rfl⟩
theorem cx_tied {d : Nat} {b : SBt} {Y : OUt} {M : MM} (hb : 104 ≤ b.2.1) {t : Int32} (hT : ¬ t < 0 ∧ ¬ M 95 0 - 1 < t) {n : Nat} (hn : n ≤ 56) (hct : M 95 9 = nI n) {w : Nat} (hw : w ≤ 8) (h0 : M 95 0 = nI w) : CM (d + 5) 0 0 yX6_tied cX6_tied 2 (some .int) [.ref 94, .int t] b Y M (.inl (some (.int (gTied (jm M 94 19 0) n t w)))) ((jm M 94 19 0)) := by
  refine Con.of (by decide +kernel) (Nat.le_of_ble_eq_true rfl) rfl fun p l e s m args below meth c D tyc A ad0 x hr htab hname => ?_
  change JJ _ _ _ _ _ _ _ _ _ _ _ _ _ _ _ _ _ 0 [some (.ref 94), some (.int t)] [] _ 0 0
  refine j_aload_n x dX6_tied_0 rfl ?_
  refine j_iconst (v := 0) x dX6_tied_1 (by decide) ?_
  refine j2_puti (k := 19) x hb dX6_tied_2 jc_10 wfX6_36 (by decide) rfl rfl rfl rfl ?_
  refine j_aload_n x dX6_tied_5 rfl ?_
  refine j_iload_n x dX6_tied_6 rfl ?_
  refine j2_callVi x hb dX6_tied_7 m_X6_isTeam (CM_v (cx_isTeam (d := d) hb) (jb_t (by rw [jm_n (by omega)]; exact hT))) wmX6_91 jc_10 rfl rfl rfl (Nat.le_of_ble_eq_true rfl) (j_fit_rm (by omega) (by omega) (by omega)) rfl ?_
  refine j_if_eq (tgt := 21) x dX6_tied_10 (by decide) (fun hc => absurd hc (by decide)) (fun hc => ?_)
  refine j_aload_n x dX6_tied_13 rfl ?_
  refine j_iload_n x dX6_tied_14 rfl ?_
  refine j2_callVi x hb dX6_tied_15 m_X6_tiedWith (cx_tiedWith (d := d) hb hn (by rw [jm_n (by omega)]; exact hct) hw (by rw [jm_n (by omega)]; exact h0)) wmX6_161 jc_10 rfl rfl rfl (Nat.le_of_ble_eq_true rfl) (j_fit_rm (by omega) (by omega) (by omega)) rfl ?_
  refine j_goto (tgt := 26) x dX6_tied_18 (by decide) ?_
  exact j_ireturn x hr dX6_tied_26 (by omega) (by omega) ⟨rfl, rfl⟩
theorem cx_most {d : Nat} {b : SBt} {Y : OUt} {M : MM} (hb : 104 ≤ b.2.1) {t : Int32} (hT : ¬ t < 0 ∧ ¬ M 95 0 - 1 < t) {n : Nat} (hn : n ≤ 56) (hct : M 95 9 = nI n) : CM (d + 5) 0 0 yX6_most cX6_most 2 (some .int) [.ref 94, .int t] b Y M (.inl (some (.int (gMost (jm M 94 19 0) n t)))) ((jm M 94 19 0)) := by
  refine Con.of (by decide +kernel) (Nat.le_of_ble_eq_true rfl) rfl fun p l e s m args below meth c D tyc A ad0 x hr htab hname => ?_
  change JJ _ _ _ _ _ _ _ _ _ _ _ _ _ _ _ _ _ 0 [some (.ref 94), some (.int t)] [] _ 0 0
  refine j_aload_n x dX6_most_0 rfl ?_
  refine j_iconst (v := 0) x dX6_most_1 (by decide) ?_
  refine j2_puti (k := 19) x hb dX6_most_2 jc_10 wfX6_36 (by decide) rfl rfl rfl rfl ?_
  refine j_aload_n x dX6_most_5 rfl ?_
  refine j_iload_n x dX6_most_6 rfl ?_
  refine j2_callVi x hb dX6_most_7 m_X6_isTeam (CM_v (cx_isTeam (d := d) hb) (jb_t (by rw [jm_n (by omega)]; exact hT))) wmX6_91 jc_10 rfl rfl rfl (Nat.le_of_ble_eq_true rfl) (j_fit_rm (by omega) (by omega) (by omega)) rfl ?_
  refine j_if_eq (tgt := 21) x dX6_most_10 (by decide) (fun hc => absurd hc (by decide)) (fun hc => ?_)
  refine j_aload_n x dX6_most_13 rfl ?_
  refine j_iload_n x dX6_most_14 rfl ?_
  refine j2_callVi x hb dX6_most_15 m_X6_mostOf (cx_mostOf (d := d) hb hn (by rw [jm_n (by omega)]; exact hct)) wmX6_173 jc_10 rfl rfl rfl (Nat.le_of_ble_eq_true rfl) (j_fit_rm (by omega) (by omega) (by omega)) rfl ?_
  refine j_goto (tgt := 26) x dX6_most_18 (by decide) ?_
  exact j_ireturn x hr dX6_most_26 (by omega) (by omega) ⟨rfl, rfl⟩
end

section
/-! ===== the reference: more questions ===== -/
theorem cx_valueOf_bad {d : Nat} {b : SBt} {Y : OUt} {M : MM} (hb : 104 ≤ b.2.1) {t u : Int32} (hT : ¬ t < 0 ∧ ¬ M 95 0 - 1 < t) (hx : ¬ (¬ u < 0 ∧ ¬ 4 < u)) : CM (d + 2) 0 0 yX6_valueOf cX6_valueOf 3 (some .int) [.ref 94, .int t, .int u] b Y M (.inl (some (.int (0)))) (jrai (jm M 94 19 0) 2) := by
  refine Con.of (by decide +kernel) (Nat.le_of_ble_eq_true rfl) rfl fun p l e s m args below meth c D tyc A ad0 x hr htab hname => ?_
  change JJ _ _ _ _ _ _ _ _ _ _ _ _ _ _ _ _ _ 0 [some (.ref 94), some (.int t), some (.int u)] [] _ 0 0
  refine j_aload_n x dX6_valueOf_0 rfl ?_
  refine j_iconst (v := 0) x dX6_valueOf_1 (by decide) ?_
  refine j2_puti (k := 19) x hb dX6_valueOf_2 jc_10 wfX6_36 (by decide) rfl rfl rfl rfl ?_
  refine j_aload_n x dX6_valueOf_5 rfl ?_
  refine j_iload_n x dX6_valueOf_6 rfl ?_
  refine j2_callVi x hb dX6_valueOf_7 m_X6_isTeam (CM_v (cx_isTeam (d := d) hb) (jb_t (by rw [jm_n (by omega)]; exact hT))) wmX6_91 jc_10 rfl rfl rfl (Nat.le_of_ble_eq_true rfl) (j_fit_rm (by omega) (by omega) (by omega)) rfl ?_
  refine j_if_ne (tgt := 19) x dX6_valueOf_10 (by decide) (fun hc => ?_) (fun hc => absurd hc (by decide))
  refine j_iload_n x dX6_valueOf_19 rfl ?_
  refine j_iconst (v := 0) x dX6_valueOf_20 (by decide) ?_
  refine j_iconst (v := 4) x dX6_valueOf_21 (by decide) ?_
  refine j2_callSi x hb dX6_valueOf_22 m_X6_in (CM_v (cx_in (d := d) hb) (jb_f hx)) wmX6_64 rfl (Nat.le_of_ble_eq_true rfl) (j_fit_rm (by omega) (by omega) (by omega)) rfl ?_
  refine j_if_eq (tgt := 37) x dX6_valueOf_25 (by decide) (fun hc => ?_) (fun hc => absurd (rfl) hc)
  refine j_aload_n x dX6_valueOf_37 rfl ?_
  refine j_iconst (v := 2) x dX6_valueOf_38 (by decide) ?_
  refine j2_callVi x hb dX6_valueOf_39 m_X6_raises (cx_raises (d := d) hb) wmX6_61 jc_10 rfl rfl rfl (Nat.le_of_ble_eq_true rfl) (j_fit_rm (by omega) (by omega) (by omega)) rfl ?_
  exact j_ireturn x hr dX6_valueOf_42 (by omega) (by omega) ⟨rfl, rfl⟩
theorem cx_valueOf {d : Nat} {b : SBt} {Y : OUt} {M : MM} (hb : 104 ≤ b.2.1) {t u : Int32} (hT : ¬ t < 0 ∧ ¬ M 95 0 - 1 < t) {n : Nat} (hn : n ≤ 56) (hct : M 95 9 = nI n) {w : Nat} (hw : w ≤ 8) (h0 : M 95 0 = nI w) (hx : ¬ u < 0 ∧ ¬ 4 < u) (hu : u = 0 ∨ u = 1 ∨ u = 2 ∨ u = 3 ∨ u = 4) : CM (d + 6) 0 0 yX6_valueOf cX6_valueOf 3 (some .int) [.ref 94, .int t, .int u] b Y M (.inl (some (.int (gRule (jm M 94 19 0) n w t u)))) ((jm M 94 19 0)) := by
  refine Con.of (by decide +kernel) (Nat.le_of_ble_eq_true rfl) rfl fun p l e s m args below meth c D tyc A ad0 x hr htab hname => ?_
  change JJ _ _ _ _ _ _ _ _ _ _ _ _ _ _ _ _ _ 0 [some (.ref 94), some (.int t), some (.int u)] [] _ 0 0
  refine j_aload_n x dX6_valueOf_0 rfl ?_
  refine j_iconst (v := 0) x dX6_valueOf_1 (by decide) ?_
  refine j2_puti (k := 19) x hb dX6_valueOf_2 jc_10 wfX6_36 (by decide) rfl rfl rfl rfl ?_
  refine j_aload_n x dX6_valueOf_5 rfl ?_
  refine j_iload_n x dX6_valueOf_6 rfl ?_
  refine j2_callVi x hb dX6_valueOf_7 m_X6_isTeam (CM_v (cx_isTeam (d := d) hb) (jb_t (by rw [jm_n (by omega)]; exact hT))) wmX6_91 jc_10 rfl rfl rfl (Nat.le_of_ble_eq_true rfl) (j_fit_rm (by omega) (by omega) (by omega)) rfl ?_
  refine j_if_ne (tgt := 19) x dX6_valueOf_10 (by decide) (fun hc => ?_) (fun hc => absurd hc (by decide))
  refine j_iload_n x dX6_valueOf_19 rfl ?_
  refine j_iconst (v := 0) x dX6_valueOf_20 (by decide) ?_
  refine j_iconst (v := 4) x dX6_valueOf_21 (by decide) ?_
  refine j2_callSi x hb dX6_valueOf_22 m_X6_in (CM_v (cx_in (d := d) hb) (jb_t hx)) wmX6_64 rfl (Nat.le_of_ble_eq_true rfl) (j_fit_rm (by omega) (by omega) (by omega)) rfl ?_
  refine j_if_eq (tgt := 37) x dX6_valueOf_25 (by decide) (fun hc => absurd hc (by decide)) (fun hc => ?_)
  refine j_aload_n x dX6_valueOf_28 rfl ?_
  refine j_iload_n x dX6_valueOf_29 rfl ?_
  refine j_iload_n x dX6_valueOf_30 rfl ?_
  refine j2_callVi x hb dX6_valueOf_31 m_X6_byRule (cx_byRule (d := d) hb hn (by rw [jm_n (by omega)]; exact hct) hw (by rw [jm_n (by omega)]; exact h0) hu) wmX6_164 jc_10 rfl rfl rfl (Nat.le_of_ble_eq_true rfl) (j_fit_rm (by omega) (by omega) (by omega)) rfl ?_
  refine j_goto (tgt := 42) x dX6_valueOf_34 (by decide) ?_
  exact j_ireturn x hr dX6_valueOf_42 (by omega) (by omega) ⟨rfl, rfl⟩
theorem cx_isSafe {d : Nat} {b : SBt} {Y : OUt} {M : MM} (hb : 104 ≤ b.2.1) {t : Int32} (hT : ¬ t < 0 ∧ ¬ M 95 0 - 1 < t) {n : Nat} (hn : n ≤ 56) (hct : M 95 9 = nI n) {w : Nat} (hw : w ≤ 8) (h0 : M 95 0 = nI w) : CM (d + 6) 0 0 yX6_isSafe cX6_isSafe 2 (some .boolean) [.ref 94, .int t] b Y M (.inl (some (.int (jb (jfst (fgS (jm M 94 19 0) n t) w = -1))))) ((jm M 94 19 0)) := by
  refine Con.of (by decide +kernel) (Nat.le_of_ble_eq_true rfl) rfl fun p l e s m args below meth c D tyc A ad0 x hr htab hname => ?_
  change JJ _ _ _ _ _ _ _ _ _ _ _ _ _ _ _ _ _ 0 [some (.ref 94), some (.int t)] [] _ 0 0
  refine j_aload_n x dX6_isSafe_0 rfl ?_
  refine j_aload_n x dX6_isSafe_1 rfl ?_
  refine j_iload_n x dX6_isSafe_2 rfl ?_
  refine j2_callVi x hb dX6_isSafe_3 m_X6_isTeam (CM_v (cx_isTeam (d := d) hb) (jb_t hT)) wmX6_91 jc_10 rfl rfl rfl (Nat.le_of_ble_eq_true rfl) (j_fit_rm (by omega) (by omega) (by omega)) rfl ?_
  refine j_if_eq (tgt := 13) x dX6_isSafe_6 (by decide) (fun hc => absurd hc (by decide)) (fun hc => ?_)
  refine j_iconst (v := 0) x dX6_isSafe_9 (by decide) ?_
  refine j_goto (tgt := 14) x dX6_isSafe_10 (by decide) ?_
  refine j2_puti (k := 19) x hb dX6_isSafe_14 jc_10 wfX6_36 (by decide) rfl rfl rfl rfl ?_
  refine j_aload_n x dX6_isSafe_17 rfl ?_
  refine j2_geti (k := 19) x hb dX6_isSafe_18 jc_10 wfX6_36 (by decide) rfl ?_
  refine j_if_ne (tgt := 36) x dX6_isSafe_21 (by decide) (fun hc => absurd hc (fun q => q jm_s)) (fun hc => ?_)
  refine j_aload_n x dX6_isSafe_24 rfl ?_
  refine j_iload_n x dX6_isSafe_25 rfl ?_
  refine j2_callVi x hb dX6_isSafe_26 m_X6_isSafeNow (cx_isSafeNow (d := d) hb hn (by rw [jm_n (by omega)]; exact hct) hw (by rw [jm_n (by omega)]; exact h0)) wmX6_176 jc_10 rfl rfl rfl (Nat.le_of_ble_eq_true rfl) (j_fit_rm (by omega) (by omega) (by omega)) rfl ?_
  refine j_if_eq (tgt := 36) x dX6_isSafe_29 (by decide) (fun h9 => ?_) (fun h9 => ?_)
  · refine j_iconst (v := 0) x dX6_isSafe_36 (by decide) ?_
    exact j_zreturn x hr dX6_isSafe_37 (by first | decide | with_reducible exact jb_nar | with_reducible exact jisS_nar | with_reducible exact gno_nar) (by omega) (by omega) ⟨by rw [jb_0.mp h9 |> fun z => jb_f z], rfl⟩
  · refine j_iconst (v := 1) x dX6_isSafe_32 (by decide) ?_
    refine j_goto (tgt := 37) x dX6_isSafe_33 (by decide) ?_
    exact j_zreturn x hr dX6_isSafe_37 (by first | decide | with_reducible exact jb_nar | with_reducible exact jisS_nar | with_reducible exact gno_nar) (by omega) (by omega) ⟨by rw [jb_t (jb_nz.mp h9)], rfl⟩
theorem cx_isOut {d : Nat} {b : SBt} {Y : OUt} {M : MM} (hb : 104 ≤ b.2.1) {t : Int32} (hT : ¬ t < 0 ∧ ¬ M 95 0 - 1 < t) {n : Nat} (hn : n ≤ 56) (hct : M 95 9 = nI n) {w : Nat} (hw : w ≤ 8) (h0 : M 95 0 = nI w) : CM (d + 6) 0 0 yX6_isOut cX6_isOut 2 (some .boolean) [.ref 94, .int t] b Y M (.inl (some (.int (jb (¬ jfst (fgO (jm M 94 19 0) n t) w = -1))))) ((jm M 94 19 0)) := by
  refine Con.of (by decide +kernel) (Nat.le_of_ble_eq_true rfl) rfl fun p l e s m args below meth c D tyc A ad0 x hr htab hname => ?_
  change JJ _ _ _ _ _ _ _ _ _ _ _ _ _ _ _ _ _ 0 [some (.ref 94), some (.int t)] [] _ 0 0
  refine j_aload_n x dX6_isOut_0 rfl ?_
  refine j_aload_n x dX6_isOut_1 rfl ?_
  refine j_iload_n x dX6_isOut_2 rfl ?_
  refine j2_callVi x hb dX6_isOut_3 m_X6_isTeam (CM_v (cx_isTeam (d := d) hb) (jb_t hT)) wmX6_91 jc_10 rfl rfl rfl (Nat.le_of_ble_eq_true rfl) (j_fit_rm (by omega) (by omega) (by omega)) rfl ?_
  refine j_if_eq (tgt := 13) x dX6_isOut_6 (by decide) (fun hc => absurd hc (by decide)) (fun hc => ?_)
  refine j_iconst (v := 0) x dX6_isOut_9 (by decide) ?_
  refine j_goto (tgt := 14) x dX6_isOut_10 (by decide) ?_
  refine j2_puti (k := 19) x hb dX6_isOut_14 jc_10 wfX6_36 (by decide) rfl rfl rfl rfl ?_
  refine j_aload_n x dX6_isOut_17 rfl ?_
  refine j2_geti (k := 19) x hb dX6_isOut_18 jc_10 wfX6_36 (by decide) rfl ?_
  refine j_if_ne (tgt := 36) x dX6_isOut_21 (by decide) (fun hc => absurd hc (fun q => q jm_s)) (fun hc => ?_)
  refine j_aload_n x dX6_isOut_24 rfl ?_
  refine j_iload_n x dX6_isOut_25 rfl ?_
  refine j2_callVi x hb dX6_isOut_26 m_X6_isOutNow (cx_isOutNow (d := d) hb hn (by rw [jm_n (by omega)]; exact hct) hw (by rw [jm_n (by omega)]; exact h0)) wmX6_179 jc_10 rfl rfl rfl (Nat.le_of_ble_eq_true rfl) (j_fit_rm (by omega) (by omega) (by omega)) rfl ?_
  refine j_if_eq (tgt := 36) x dX6_isOut_29 (by decide) (fun h9 => ?_) (fun h9 => ?_)
  · refine j_iconst (v := 0) x dX6_isOut_36 (by decide) ?_
    exact j_zreturn x hr dX6_isOut_37 (by first | decide | with_reducible exact jb_nar | with_reducible exact jisS_nar | with_reducible exact gno_nar) (by omega) (by omega) ⟨by rw [jb_0.mp h9 |> fun z => jb_f z], rfl⟩
  · refine j_iconst (v := 1) x dX6_isOut_32 (by decide) ?_
    refine j_goto (tgt := 37) x dX6_isOut_33 (by decide) ?_
    exact j_zreturn x hr dX6_isOut_37 (by first | decide | with_reducible exact jb_nar | with_reducible exact jisS_nar | with_reducible exact gno_nar) (by omega) (by omega) ⟨by rw [jb_t (jb_nz.mp h9)], rfl⟩
def gBet (M : MM) (u v : Int32) (m : Nat) : Int32 := jb (jof M m 0 = u ∧ jof M m 1 = v)
theorem cx_find_no {d : Nat} {b : SBt} {Y : OUt} {M : MM} (hb : 104 ≤ b.2.1) {t u : Int32} (hT : ¬ t < 0 ∧ ¬ M 95 0 - 1 < t) (hU : ¬ u < 0 ∧ ¬ M 95 0 - 1 < u) {n : Nat} (hn : n ≤ 56) (hct : M 95 9 = nI n) (h : jfst (gBet (jm M 94 19 0) t u) n = -1) : CM (d + 2) 0 0 yX6_find cX6_find 4 (some .int) [.ref 94, .int t, .int u] b Y M (.inl (some (.int (0)))) (jrai (jm M 94 19 0) 2) := by
  refine Con.of (by decide +kernel) (Nat.le_of_ble_eq_true rfl) rfl fun p l e s m args below meth c D tyc A ad0 x hr htab hname => ?_
  change JJ _ _ _ _ _ _ _ _ _ _ _ _ _ _ _ _ _ 0 [some (.ref 94), some (.int t), some (.int u), none] [] _ 0 0
  refine j_aload_n x dX6_find_0 rfl ?_
  refine j_iconst (v := 0) x dX6_find_1 (by decide) ?_
  refine j2_puti (k := 19) x hb dX6_find_2 jc_10 wfX6_36 (by decide) rfl rfl rfl rfl ?_
  refine j_aload_n x dX6_find_5 rfl ?_
  refine j_iload_n x dX6_find_6 rfl ?_
  refine j2_callVi x hb dX6_find_7 m_X6_isTeam (CM_v (cx_isTeam (d := d) hb) (jb_t (by rw [jm_n (by omega)]; exact hT))) wmX6_91 jc_10 rfl rfl rfl (Nat.le_of_ble_eq_true rfl) (j_fit_rm (by omega) (by omega) (by omega)) rfl ?_
  refine j_if_eq (tgt := 21) x dX6_find_10 (by decide) (fun hc => absurd hc (by decide)) (fun hc => ?_)
  refine j_aload_n x dX6_find_13 rfl ?_
  refine j_iload_n x dX6_find_14 rfl ?_
  refine j2_callVi x hb dX6_find_15 m_X6_isTeam (CM_v (cx_isTeam (d := d) hb) (jb_t (by rw [jm_n (by omega)]; exact hU))) wmX6_91 jc_10 rfl rfl rfl (Nat.le_of_ble_eq_true rfl) (j_fit_rm (by omega) (by omega) (by omega)) rfl ?_
  refine j_if_ne (tgt := 27) x dX6_find_18 (by decide) (fun hc => ?_) (fun hc => absurd hc (by decide))
  refine j_iconst (v := 0) x dX6_find_27 (by decide) ?_
  refine j_istore_n x dX6_find_28 (by decide) rfl ?_
  refine j_for (n) (fun z0 => [some (.ref 94), some (.int t), some (.int u), some (.int (nI z0))]) (fun z0 => (jm M 94 19 0)) (fun z0 => jfst (gBet (jm M 94 19 0) t u) z0 = -1) (rfl) (rfl) (rfl) (fun j hj hP ih => ?_) (fun hP => ?_)
  · refine j_iload_n x dX6_find_29 rfl ?_
    refine j_aload_n x dX6_find_30 rfl ?_
    refine j2_getr (k := 0) (r := 95) x hb dX6_find_31 jc_10 wfX6_9 (by decide) rfl ?_
    refine j_bipush (v := 9) x dX6_find_34 (by decide) ?_
    refine j2_ialn x hb dX6_find_36 fa_95 (j := 9) (vp_c (by decide)) (by decide) ?_; rw [jm_n (by omega), hct]
    refine j_icmp_ge (tgt := 68) x dX6_find_37 (by decide) (fun hc => absurd hc (nI_ge hj (by omega))) (fun hc => ?_)
    refine j_aload_n x dX6_find_40 rfl ?_
    refine j_iload_n x dX6_find_41 rfl ?_
    refine j_iconst (v := 0) x dX6_find_42 (by decide) ?_
    refine j2_callVi x hb dX6_find_43 m_X6_of (cx_of (d := d) hb (m1 := j) (w1 := 0) (by omega) (by decide)) wmX6_68 jc_10 rfl rfl rfl (Nat.le_of_ble_eq_true rfl) (j_fit_rm (by omega) (by omega) (by omega)) rfl ?_
    refine j_iload_n x dX6_find_46 rfl ?_
    refine j_icmp_ne (tgt := 62) x dX6_find_47 (by decide) (fun h1 => ?_) (fun h1 => ?_)
    · refine j_iinc x dX6_find_62 rfl (by decide) rfl ?_
      refine j_goto (tgt := 29) x dX6_find_65 (by decide) ?_
      exact j_goal (ih (jfst_no hP (fun q => absurd ((show gBet (jm M 94 19 0) t u j = 0 from jb_f (fun q => h1 q.1)).symm.trans q) (by decide)))) (wk_c rfl (wk_c rfl (wk_c rfl (wk_c (congrArg (fun z => some (Value.int z)) (nI_1 _)) (wk_0))))) (rfl)
    · refine j_aload_n x dX6_find_50 rfl ?_
      refine j_iload_n x dX6_find_51 rfl ?_
      refine j_iconst (v := 1) x dX6_find_52 (by decide) ?_
      refine j2_callVi x hb dX6_find_53 m_X6_of (cx_of (d := d) hb (m1 := j) (w1 := 1) (by omega) (by decide)) wmX6_68 jc_10 rfl rfl rfl (Nat.le_of_ble_eq_true rfl) (j_fit_rm (by omega) (by omega) (by omega)) rfl ?_
      refine j_iload_n x dX6_find_56 rfl ?_
      refine j_icmp_ne (tgt := 62) x dX6_find_57 (by decide) (fun h2 => ?_) (fun h2 => ?_)
      · refine j_iinc x dX6_find_62 rfl (by decide) rfl ?_
        refine j_goto (tgt := 29) x dX6_find_65 (by decide) ?_
        exact j_goal (ih (jfst_no hP (fun q => absurd ((show gBet (jm M 94 19 0) t u j = 0 from jb_f (fun q => h2 q.2)).symm.trans q) (by decide)))) (wk_c rfl (wk_c rfl (wk_c rfl (wk_c (congrArg (fun z => some (Value.int z)) (nI_1 _)) (wk_0))))) (rfl)
      · refine j_iload_n x dX6_find_60 rfl ?_
        exact j_ireturn x hr dX6_find_61 (by omega) (by omega) ⟨absurd ((jfst_at hP (show gBet (jm M 94 19 0) t u j = 1 from jb_t ⟨h1, h2⟩) (by omega) hj).symm.trans h) (nI_nm1 (by omega)), absurd ((jfst_at hP (show gBet (jm M 94 19 0) t u j = 1 from jb_t ⟨h1, h2⟩) (by omega) hj).symm.trans h) (nI_nm1 (by omega))⟩
  refine j_iload_n x dX6_find_29 rfl ?_
  refine j_aload_n x dX6_find_30 rfl ?_
  refine j2_getr (k := 0) (r := 95) x hb dX6_find_31 jc_10 wfX6_9 (by decide) rfl ?_
  refine j_bipush (v := 9) x dX6_find_34 (by decide) ?_
  refine j2_ialn x hb dX6_find_36 fa_95 (j := 9) (vp_c (by decide)) (by decide) ?_; rw [jm_n (by omega), hct]
  refine j_icmp_ge (tgt := 68) x dX6_find_37 (by decide) (fun hc => ?_) (fun hc => absurd (nI_le (Nat.le_refl _) (by omega)) hc)
  refine j_aload_n x dX6_find_68 rfl ?_
  refine j_iconst (v := 2) x dX6_find_69 (by decide) ?_
  refine j2_callVi x hb dX6_find_70 m_X6_raises (cx_raises (d := d) hb) wmX6_61 jc_10 rfl rfl rfl (Nat.le_of_ble_eq_true rfl) (j_fit_rm (by omega) (by omega) (by omega)) rfl ?_
  exact j_ireturn x hr dX6_find_73 (by omega) (by omega) ⟨rfl, rfl⟩
theorem cx_find_ok {d : Nat} {b : SBt} {Y : OUt} {M : MM} (hb : 104 ≤ b.2.1) {t u : Int32} (hT : ¬ t < 0 ∧ ¬ M 95 0 - 1 < t) (hU : ¬ u < 0 ∧ ¬ M 95 0 - 1 < u) {n : Nat} (hn : n ≤ 56) (hct : M 95 9 = nI n) (h : ¬ jfst (gBet (jm M 94 19 0) t u) n = -1) : CM (d + 2) 0 0 yX6_find cX6_find 4 (some .int) [.ref 94, .int t, .int u] b Y M (.inl (some (.int (jfst (gBet (jm M 94 19 0) t u) n)))) ((jm M 94 19 0)) := by
  refine Con.of (by decide +kernel) (Nat.le_of_ble_eq_true rfl) rfl fun p l e s m args below meth c D tyc A ad0 x hr htab hname => ?_
  change JJ _ _ _ _ _ _ _ _ _ _ _ _ _ _ _ _ _ 0 [some (.ref 94), some (.int t), some (.int u), none] [] _ 0 0
  refine j_aload_n x dX6_find_0 rfl ?_
  refine j_iconst (v := 0) x dX6_find_1 (by decide) ?_
  refine j2_puti (k := 19) x hb dX6_find_2 jc_10 wfX6_36 (by decide) rfl rfl rfl rfl ?_
  refine j_aload_n x dX6_find_5 rfl ?_
  refine j_iload_n x dX6_find_6 rfl ?_
  refine j2_callVi x hb dX6_find_7 m_X6_isTeam (CM_v (cx_isTeam (d := d) hb) (jb_t (by rw [jm_n (by omega)]; exact hT))) wmX6_91 jc_10 rfl rfl rfl (Nat.le_of_ble_eq_true rfl) (j_fit_rm (by omega) (by omega) (by omega)) rfl ?_
  refine j_if_eq (tgt := 21) x dX6_find_10 (by decide) (fun hc => absurd hc (by decide)) (fun hc => ?_)
  refine j_aload_n x dX6_find_13 rfl ?_
  refine j_iload_n x dX6_find_14 rfl ?_
  refine j2_callVi x hb dX6_find_15 m_X6_isTeam (CM_v (cx_isTeam (d := d) hb) (jb_t (by rw [jm_n (by omega)]; exact hU))) wmX6_91 jc_10 rfl rfl rfl (Nat.le_of_ble_eq_true rfl) (j_fit_rm (by omega) (by omega) (by omega)) rfl ?_
  refine j_if_ne (tgt := 27) x dX6_find_18 (by decide) (fun hc => ?_) (fun hc => absurd hc (by decide))
  refine j_iconst (v := 0) x dX6_find_27 (by decide) ?_
  refine j_istore_n x dX6_find_28 (by decide) rfl ?_
  refine j_for (n) (fun z0 => [some (.ref 94), some (.int t), some (.int u), some (.int (nI z0))]) (fun z0 => (jm M 94 19 0)) (fun z0 => jfst (gBet (jm M 94 19 0) t u) z0 = -1) (rfl) (rfl) (rfl) (fun j hj hP ih => ?_) (fun hP => ?_)
  · refine j_iload_n x dX6_find_29 rfl ?_
    refine j_aload_n x dX6_find_30 rfl ?_
    refine j2_getr (k := 0) (r := 95) x hb dX6_find_31 jc_10 wfX6_9 (by decide) rfl ?_
    refine j_bipush (v := 9) x dX6_find_34 (by decide) ?_
    refine j2_ialn x hb dX6_find_36 fa_95 (j := 9) (vp_c (by decide)) (by decide) ?_; rw [jm_n (by omega), hct]
    refine j_icmp_ge (tgt := 68) x dX6_find_37 (by decide) (fun hc => absurd hc (nI_ge hj (by omega))) (fun hc => ?_)
    refine j_aload_n x dX6_find_40 rfl ?_
    refine j_iload_n x dX6_find_41 rfl ?_
    refine j_iconst (v := 0) x dX6_find_42 (by decide) ?_
    refine j2_callVi x hb dX6_find_43 m_X6_of (cx_of (d := d) hb (m1 := j) (w1 := 0) (by omega) (by decide)) wmX6_68 jc_10 rfl rfl rfl (Nat.le_of_ble_eq_true rfl) (j_fit_rm (by omega) (by omega) (by omega)) rfl ?_
    refine j_iload_n x dX6_find_46 rfl ?_
    refine j_icmp_ne (tgt := 62) x dX6_find_47 (by decide) (fun h1 => ?_) (fun h1 => ?_)
    · refine j_iinc x dX6_find_62 rfl (by decide) rfl ?_
      refine j_goto (tgt := 29) x dX6_find_65 (by decide) ?_
      exact j_goal (ih (jfst_no hP (fun q => absurd ((show gBet (jm M 94 19 0) t u j = 0 from jb_f (fun q => h1 q.1)).symm.trans q) (by decide)))) (wk_c rfl (wk_c rfl (wk_c rfl (wk_c (congrArg (fun z => some (Value.int z)) (nI_1 _)) (wk_0))))) (rfl)
    · refine j_aload_n x dX6_find_50 rfl ?_
      refine j_iload_n x dX6_find_51 rfl ?_
      refine j_iconst (v := 1) x dX6_find_52 (by decide) ?_
      refine j2_callVi x hb dX6_find_53 m_X6_of (cx_of (d := d) hb (m1 := j) (w1 := 1) (by omega) (by decide)) wmX6_68 jc_10 rfl rfl rfl (Nat.le_of_ble_eq_true rfl) (j_fit_rm (by omega) (by omega) (by omega)) rfl ?_
      refine j_iload_n x dX6_find_56 rfl ?_
      refine j_icmp_ne (tgt := 62) x dX6_find_57 (by decide) (fun h2 => ?_) (fun h2 => ?_)
      · refine j_iinc x dX6_find_62 rfl (by decide) rfl ?_
        refine j_goto (tgt := 29) x dX6_find_65 (by decide) ?_
        exact j_goal (ih (jfst_no hP (fun q => absurd ((show gBet (jm M 94 19 0) t u j = 0 from jb_f (fun q => h2 q.2)).symm.trans q) (by decide)))) (wk_c rfl (wk_c rfl (wk_c rfl (wk_c (congrArg (fun z => some (Value.int z)) (nI_1 _)) (wk_0))))) (rfl)
      · refine j_iload_n x dX6_find_60 rfl ?_
        exact j_ireturn x hr dX6_find_61 (by omega) (by omega) ⟨by rw [jfst_at hP (show gBet (jm M 94 19 0) t u j = 1 from jb_t ⟨h1, h2⟩) (by omega) hj], rfl⟩
  refine j_iload_n x dX6_find_29 rfl ?_
  refine j_aload_n x dX6_find_30 rfl ?_
  refine j2_getr (k := 0) (r := 95) x hb dX6_find_31 jc_10 wfX6_9 (by decide) rfl ?_
  refine j_bipush (v := 9) x dX6_find_34 (by decide) ?_
  refine j2_ialn x hb dX6_find_36 fa_95 (j := 9) (vp_c (by decide)) (by decide) ?_; rw [jm_n (by omega), hct]
  refine j_icmp_ge (tgt := 68) x dX6_find_37 (by decide) (fun hc => ?_) (fun hc => absurd (nI_le (Nat.le_refl _) (by omega)) hc)
  exact absurd hP h
theorem cx_find_nt {d : Nat} {b : SBt} {Y : OUt} {M : MM} (hb : 104 ≤ b.2.1) {t u : Int32} (hT : ¬ ((¬ t < 0 ∧ ¬ M 95 0 - 1 < t) ∧ (¬ u < 0 ∧ ¬ M 95 0 - 1 < u))) : CM (d + 2) 0 0 yX6_find cX6_find 4 (some .int) [.ref 94, .int t, .int u] b Y M (.inl (some (.int (0)))) (jrai (jm M 94 19 0) 1) := by
  refine Con.of (by decide +kernel) (Nat.le_of_ble_eq_true rfl) rfl fun p l e s m args below meth c D tyc A ad0 x hr htab hname => ?_
  change JJ _ _ _ _ _ _ _ _ _ _ _ _ _ _ _ _ _ 0 [some (.ref 94), some (.int t), some (.int u), none] [] _ 0 0
  refine j_aload_n x dX6_find_0 rfl ?_
  refine j_iconst (v := 0) x dX6_find_1 (by decide) ?_
  refine j2_puti (k := 19) x hb dX6_find_2 jc_10 wfX6_36 (by decide) rfl rfl rfl rfl ?_
  refine j_aload_n x dX6_find_5 rfl ?_
  refine j_iload_n x dX6_find_6 rfl ?_
  refine j2_callVi x hb dX6_find_7 m_X6_isTeam (show CM (d + 1) 0 0 _ _ _ _ _ b Y (jm M 94 19 0) (.inl (some (.int (jb (¬ t < 0 ∧ ¬ M 95 0 - 1 < t))))) (jm M 94 19 0) from by have z := cx_isTeam (d := d) (Y := Y) (M := (jm M 94 19 0)) (t := t) hb; rw [jm_n (by omega)] at z; exact z) wmX6_91 jc_10 rfl rfl rfl (Nat.le_of_ble_eq_true rfl) (j_fit_rm (by omega) (by omega) (by omega)) rfl ?_
  refine j_if_eq (tgt := 21) x dX6_find_10 (by decide) (fun h1 => ?_) (fun h1 => ?_)
  · refine j_aload_n x dX6_find_21 rfl ?_
    refine j_iconst (v := 1) x dX6_find_22 (by decide) ?_
    refine j2_callVi x hb dX6_find_23 m_X6_raises (cx_raises (d := d) hb) wmX6_61 jc_10 rfl rfl rfl (Nat.le_of_ble_eq_true rfl) (j_fit_rm (by omega) (by omega) (by omega)) rfl ?_
    exact j_ireturn x hr dX6_find_26 (by omega) (by omega) ⟨rfl, rfl⟩
  · refine j_aload_n x dX6_find_13 rfl ?_
    refine j_iload_n x dX6_find_14 rfl ?_
    refine j2_callVi x hb dX6_find_15 m_X6_isTeam (show CM (d + 1) 0 0 _ _ _ _ _ b Y (jm M 94 19 0) (.inl (some (.int (jb (¬ u < 0 ∧ ¬ M 95 0 - 1 < u))))) (jm M 94 19 0) from by have z := cx_isTeam (d := d) (Y := Y) (M := (jm M 94 19 0)) (t := u) hb; rw [jm_n (by omega)] at z; exact z) wmX6_91 jc_10 rfl rfl rfl (Nat.le_of_ble_eq_true rfl) (j_fit_rm (by omega) (by omega) (by omega)) rfl ?_
    refine j_if_ne (tgt := 27) x dX6_find_18 (by decide) (fun hc => absurd hc (fun q => hT ⟨jb_nz.mp h1, jb_nz.mp q⟩)) (fun hc => ?_)
    refine j_aload_n x dX6_find_21 rfl ?_
    refine j_iconst (v := 1) x dX6_find_22 (by decide) ?_
    refine j2_callVi x hb dX6_find_23 m_X6_raises (cx_raises (d := d) hb) wmX6_61 jc_10 rfl rfl rfl (Nat.le_of_ble_eq_true rfl) (j_fit_rm (by omega) (by omega) (by omega)) rfl ?_
    exact j_ireturn x hr dX6_find_26 (by omega) (by omega) ⟨rfl, rfl⟩
end

section
/-! ===== the reference: weeks, runs, accounts ===== -/
theorem cx_byeIn_no {d : Nat} {b : SBt} {Y : OUt} {M : MM} (hb : 104 ≤ b.2.1) {t : Int32} {w : Nat} (hT : ¬ t < 0 ∧ ¬ M 95 1 - 1 < t) (h0 : M 95 0 = nI w) (h2 : nI w - nI w / 2 * 2 = 0) : CM (d + 2) 0 0 yX6_byeIn cX6_byeIn 2 (some .int) [.ref 94, .int t] b Y M (.inl (some (.int (0)))) (jrai (jm M 94 19 0) 2) := by
  refine Con.of (by decide +kernel) (Nat.le_of_ble_eq_true rfl) rfl fun p l e s m args below meth c D tyc A ad0 x hr htab hname => ?_
  change JJ _ _ _ _ _ _ _ _ _ _ _ _ _ _ _ _ _ 0 [some (.ref 94), some (.int t)] [] _ 0 0
  refine j_aload_n x dX6_byeIn_0 rfl ?_
  refine j_iconst (v := 0) x dX6_byeIn_1 (by decide) ?_
  refine j2_puti (k := 19) x hb dX6_byeIn_2 jc_10 wfX6_36 (by decide) rfl rfl rfl rfl ?_
  refine j_aload_n x dX6_byeIn_5 rfl ?_
  refine j_iload_n x dX6_byeIn_6 rfl ?_
  refine j2_callVi x hb dX6_byeIn_7 m_X6_isWeek (CM_v (cx_isWeek (d := d) hb) (jb_t (by rw [jm_n (by omega)]; exact hT))) wmX6_140 jc_10 rfl rfl rfl (Nat.le_of_ble_eq_true rfl) (j_fit_rm (by omega) (by omega) (by omega)) rfl ?_
  refine j_if_ne (tgt := 19) x dX6_byeIn_10 (by decide) (fun hc => ?_) (fun hc => absurd hc (by decide))
  refine j_aload_n x dX6_byeIn_19 rfl ?_
  refine j2_getr (k := 0) (r := 95) x hb dX6_byeIn_20 jc_10 wfX6_9 (by decide) rfl ?_
  refine j_iconst (v := 0) x dX6_byeIn_23 (by decide) ?_
  refine j2_ialn x hb dX6_byeIn_24 fa_95 (j := 0) (vp_c (by decide)) (by decide) ?_; rw [jm_n (by omega), h0]
  refine j_iconst (v := 2) x dX6_byeIn_25 (by decide) ?_
  refine j_irem x dX6_byeIn_26 (by decide) ?_
  refine j_if_ne (tgt := 36) x dX6_byeIn_27 (by decide) (fun hc => absurd hc (fun q => q h2)) (fun hc => ?_)
  refine j_aload_n x dX6_byeIn_30 rfl ?_
  refine j_iconst (v := 2) x dX6_byeIn_31 (by decide) ?_
  refine j2_callVi x hb dX6_byeIn_32 m_X6_raises (cx_raises (d := d) hb) wmX6_61 jc_10 rfl rfl rfl (Nat.le_of_ble_eq_true rfl) (j_fit_rm (by omega) (by omega) (by omega)) rfl ?_
  exact j_ireturn x hr dX6_byeIn_35 (by omega) (by omega) ⟨rfl, rfl⟩
theorem cx_byeIn_ok {d : Nat} {b : SBt} {Y : OUt} {M : MM} (hb : 104 ≤ b.2.1) {t : Int32} {w : Nat} (hT : ¬ t < 0 ∧ ¬ M 95 1 - 1 < t) (h0 : M 95 0 = nI w) (h2 : ¬ nI w - nI w / 2 * 2 = 0) (hp : ¬ gpl (nI w) - 1 = 0) : CM (d + 2) 0 0 yX6_byeIn cX6_byeIn 2 (some .int) [.ref 94, .int t] b Y M (.inl (some (.int (t - t / (gpl (nI w) - 1) * (gpl (nI w) - 1))))) ((jm M 94 19 0)) := by
  refine Con.of (by decide +kernel) (Nat.le_of_ble_eq_true rfl) rfl fun p l e s m args below meth c D tyc A ad0 x hr htab hname => ?_
  change JJ _ _ _ _ _ _ _ _ _ _ _ _ _ _ _ _ _ 0 [some (.ref 94), some (.int t)] [] _ 0 0
  refine j_aload_n x dX6_byeIn_0 rfl ?_
  refine j_iconst (v := 0) x dX6_byeIn_1 (by decide) ?_
  refine j2_puti (k := 19) x hb dX6_byeIn_2 jc_10 wfX6_36 (by decide) rfl rfl rfl rfl ?_
  refine j_aload_n x dX6_byeIn_5 rfl ?_
  refine j_iload_n x dX6_byeIn_6 rfl ?_
  refine j2_callVi x hb dX6_byeIn_7 m_X6_isWeek (CM_v (cx_isWeek (d := d) hb) (jb_t (by rw [jm_n (by omega)]; exact hT))) wmX6_140 jc_10 rfl rfl rfl (Nat.le_of_ble_eq_true rfl) (j_fit_rm (by omega) (by omega) (by omega)) rfl ?_
  refine j_if_ne (tgt := 19) x dX6_byeIn_10 (by decide) (fun hc => ?_) (fun hc => absurd hc (by decide))
  refine j_aload_n x dX6_byeIn_19 rfl ?_
  refine j2_getr (k := 0) (r := 95) x hb dX6_byeIn_20 jc_10 wfX6_9 (by decide) rfl ?_
  refine j_iconst (v := 0) x dX6_byeIn_23 (by decide) ?_
  refine j2_ialn x hb dX6_byeIn_24 fa_95 (j := 0) (vp_c (by decide)) (by decide) ?_; rw [jm_n (by omega), h0]
  refine j_iconst (v := 2) x dX6_byeIn_25 (by decide) ?_
  refine j_irem x dX6_byeIn_26 (by decide) ?_
  refine j_if_ne (tgt := 36) x dX6_byeIn_27 (by decide) (fun hc => ?_) (fun hc => absurd hc (h2))
  refine j_iload_n x dX6_byeIn_36 rfl ?_
  refine j_aload_n x dX6_byeIn_37 rfl ?_
  refine j2_callVi x hb dX6_byeIn_38 m_X6_places (CM_v (cx_places (d := d) hb) (show _ = gpl (nI w) by rw [jm_n (by omega), h0]; rfl)) wmX6_94 jc_10 rfl rfl rfl (Nat.le_of_ble_eq_true rfl) (j_fit_rm (by omega) (by omega) (by omega)) rfl ?_
  refine j_iconst (v := 1) x dX6_byeIn_41 (by decide) ?_
  refine j_isub x dX6_byeIn_42 ?_
  refine j_irem x dX6_byeIn_43 hp ?_
  exact j_ireturn x hr dX6_byeIn_44 (by omega) (by omega) ⟨rfl, rfl⟩
def gIn (M : MM) (t : Int32) (m : Nat) : Int32 := jb (jof M m 2 = t)
theorem cx_meetingsIn {d : Nat} {b : SBt} {Y : OUt} {M : MM} (hb : 104 ≤ b.2.1) {t : Int32} (hT : ¬ t < 0 ∧ ¬ M 95 1 - 1 < t) {n : Nat} (hn : n ≤ 56) (hct : M 95 9 = nI n) : CM (d + 2) 0 0 yX6_meetingsIn cX6_meetingsIn 4 (some .int) [.ref 94, .int t] b Y M (.inl (some (.int (jsum (gIn (jm M 94 19 0) t) n)))) ((jm M 94 19 0)) := by
  refine Con.of (by decide +kernel) (Nat.le_of_ble_eq_true rfl) rfl fun p l e s m args below meth c D tyc A ad0 x hr htab hname => ?_
  change JJ _ _ _ _ _ _ _ _ _ _ _ _ _ _ _ _ _ 0 [some (.ref 94), some (.int t), none, none] [] _ 0 0
  refine j_aload_n x dX6_meetingsIn_0 rfl ?_
  refine j_iconst (v := 0) x dX6_meetingsIn_1 (by decide) ?_
  refine j2_puti (k := 19) x hb dX6_meetingsIn_2 jc_10 wfX6_36 (by decide) rfl rfl rfl rfl ?_
  refine j_aload_n x dX6_meetingsIn_5 rfl ?_
  refine j_iload_n x dX6_meetingsIn_6 rfl ?_
  refine j2_callVi x hb dX6_meetingsIn_7 m_X6_isWeek (CM_v (cx_isWeek (d := d) hb) (jb_t (by rw [jm_n (by omega)]; exact hT))) wmX6_140 jc_10 rfl rfl rfl (Nat.le_of_ble_eq_true rfl) (j_fit_rm (by omega) (by omega) (by omega)) rfl ?_
  refine j_if_ne (tgt := 19) x dX6_meetingsIn_10 (by decide) (fun hc => ?_) (fun hc => absurd hc (by decide))
  refine j_iconst (v := 0) x dX6_meetingsIn_19 (by decide) ?_
  refine j_istore_n x dX6_meetingsIn_20 (by decide) rfl ?_
  refine j_iconst (v := 0) x dX6_meetingsIn_21 (by decide) ?_
  refine j_istore_n x dX6_meetingsIn_22 (by decide) rfl ?_
  refine j_for (n) (fun z0 => [some (.ref 94), some (.int t), some (.int (jsum (gIn (jm M 94 19 0) t) z0)), some (.int (nI z0))]) (fun z0 => (jm M 94 19 0)) (fun z0 => True) (rfl) (rfl) (trivial) (fun j hj hP ih => ?_) (fun hP => ?_)
  · refine j_iload_n x dX6_meetingsIn_23 rfl ?_
    refine j_aload_n x dX6_meetingsIn_24 rfl ?_
    refine j2_getr (k := 0) (r := 95) x hb dX6_meetingsIn_25 jc_10 wfX6_9 (by decide) rfl ?_
    refine j_bipush (v := 9) x dX6_meetingsIn_28 (by decide) ?_
    refine j2_ialn x hb dX6_meetingsIn_30 fa_95 (j := 9) (vp_c (by decide)) (by decide) ?_; rw [jm_n (by omega), hct]
    refine j_icmp_ge (tgt := 53) x dX6_meetingsIn_31 (by decide) (fun hc => absurd hc (nI_ge hj (by omega))) (fun hc => ?_)
    refine j_aload_n x dX6_meetingsIn_34 rfl ?_
    refine j_iload_n x dX6_meetingsIn_35 rfl ?_
    refine j_iconst (v := 2) x dX6_meetingsIn_36 (by decide) ?_
    refine j2_callVi x hb dX6_meetingsIn_37 m_X6_of (cx_of (d := d) hb (m1 := j) (w1 := 2) (by omega) (by decide)) wmX6_68 jc_10 rfl rfl rfl (Nat.le_of_ble_eq_true rfl) (j_fit_rm (by omega) (by omega) (by omega)) rfl ?_
    refine j_iload_n x dX6_meetingsIn_40 rfl ?_
    refine j_icmp_ne (tgt := 47) x dX6_meetingsIn_41 (by decide) (fun h1 => ?_) (fun h1 => ?_)
    · refine j_iinc x dX6_meetingsIn_47 rfl (by decide) rfl ?_
      refine j_goto (tgt := 23) x dX6_meetingsIn_50 (by decide) ?_
      exact j_goal (ih (trivial)) (wk_c rfl (wk_c rfl (wk_c (congrArg (fun z => some (Value.int z)) (jsum_f (jb_f h1))) (wk_c (congrArg (fun z => some (Value.int z)) (nI_1 _)) (wk_0))))) (rfl)
    · refine j_iinc x dX6_meetingsIn_44 rfl (by decide) rfl ?_
      refine j_iinc x dX6_meetingsIn_47 rfl (by decide) rfl ?_
      refine j_goto (tgt := 23) x dX6_meetingsIn_50 (by decide) ?_
      exact j_goal (ih (trivial)) (wk_c rfl (wk_c rfl (wk_c (congrArg (fun z => some (Value.int z)) (jsum_v (jb_t h1))) (wk_c (congrArg (fun z => some (Value.int z)) (nI_1 _)) (wk_0))))) (rfl)
  refine j_iload_n x dX6_meetingsIn_23 rfl ?_
  refine j_aload_n x dX6_meetingsIn_24 rfl ?_
  refine j2_getr (k := 0) (r := 95) x hb dX6_meetingsIn_25 jc_10 wfX6_9 (by decide) rfl ?_
  refine j_bipush (v := 9) x dX6_meetingsIn_28 (by decide) ?_
  refine j2_ialn x hb dX6_meetingsIn_30 fa_95 (j := 9) (vp_c (by decide)) (by decide) ?_; rw [jm_n (by omega), hct]
  refine j_icmp_ge (tgt := 53) x dX6_meetingsIn_31 (by decide) (fun hc => ?_) (fun hc => absurd (nI_le (Nat.le_refl _) (by omega)) hc)
  refine j_iload_n x dX6_meetingsIn_53 rfl ?_
  exact j_ireturn x hr dX6_meetingsIn_54 (by omega) (by omega) ⟨rfl, rfl⟩
theorem cx_clashesW {d : Nat} {b : SBt} {Y : OUt} {M : MM} (hb : 104 ≤ b.2.1) {t : Int32} (hT : ¬ t < 0 ∧ ¬ M 95 1 - 1 < t) {n : Nat} (hn : n ≤ 56) (hct : M 95 9 = nI n) (hho : ∀ i, i < n → ∃ h, h < 8 ∧ jof M i 0 = nI h) : CM (d + 4) 0 0 yX6_clashes_ cX6_clashes_ 2 (some .int) [.ref 94, .int t] b Y M (.inl (some (.int (gpairs (jm M 94 19 0) n t)))) ((jm M 94 19 0)) := by
  refine Con.of (by decide +kernel) (Nat.le_of_ble_eq_true rfl) rfl fun p l e s m args below meth c D tyc A ad0 x hr htab hname => ?_
  change JJ _ _ _ _ _ _ _ _ _ _ _ _ _ _ _ _ _ 0 [some (.ref 94), some (.int t)] [] _ 0 0
  refine j_aload_n x dX6_clashes__0 rfl ?_
  refine j_iconst (v := 0) x dX6_clashes__1 (by decide) ?_
  refine j2_puti (k := 19) x hb dX6_clashes__2 jc_10 wfX6_36 (by decide) rfl rfl rfl rfl ?_
  refine j_aload_n x dX6_clashes__5 rfl ?_
  refine j_iload_n x dX6_clashes__6 rfl ?_
  refine j2_callVi x hb dX6_clashes__7 m_X6_isWeek (CM_v (cx_isWeek (d := d) hb) (jb_t (by rw [jm_n (by omega)]; exact hT))) wmX6_140 jc_10 rfl rfl rfl (Nat.le_of_ble_eq_true rfl) (j_fit_rm (by omega) (by omega) (by omega)) rfl ?_
  refine j_if_eq (tgt := 21) x dX6_clashes__10 (by decide) (fun hc => absurd hc (by decide)) (fun hc => ?_)
  refine j_aload_n x dX6_clashes__13 rfl ?_
  refine j_iload_n x dX6_clashes__14 rfl ?_
  refine j2_callVi x hb dX6_clashes__15 m_X6_clashesIn (cx_clashesIn (d := d) hb hn (by rw [jm_n (by omega)]; exact hct) (fun i hi => by have z := hho i hi; unfold jof at z ⊢; rw [jm_n (by omega)]; exact z)) wmX6_158 jc_10 rfl rfl rfl (Nat.le_of_ble_eq_true rfl) (j_fit_rm (by omega) (by omega) (by omega)) rfl ?_
  refine j_goto (tgt := 26) x dX6_clashes__18 (by decide) ?_
  exact j_ireturn x hr dX6_clashes__26 (by omega) (by omega) ⟨rfl, rfl⟩
def gfree (M : MM) (n z q0 q : Nat) : Int32 := if jfst (fun i => jb (jsum (gCl (jm M 94 19 0) q (nI (q0 + 1 + i))) n = 0)) (z - (q0 + 1)) = -1 then -1 else nI (q0 + 1) + jfst (fun i => jb (jsum (gCl (jm M 94 19 0) q (nI (q0 + 1 + i))) n = 0)) (z - (q0 + 1))
theorem cx_freeWeek_ok {d : Nat} {b : SBt} {Y : OUt} {M : MM} (hb : 104 ≤ b.2.1) {n q : Nat} (hn : n ≤ 56) (hct : M 95 9 = nI n) (hq : q < n) (hho : ∀ i, i < n → ∃ h, h < 8 ∧ jof M i 0 = nI h) {z q0 : Nat} (hz : z ≤ 14) (hz1 : M 95 1 = nI z) (hq2 : jof M q 2 = nI q0) (hq0 : q0 < z) (h : ¬ gfree M n z q0 q = -1) : CM (d + 3) 0 0 yX6_freeWeek cX6_freeWeek 3 (some .int) [.ref 94, .int (nI q)] b Y M (.inl (some (.int (gfree M n z q0 q)))) ((jm M 94 19 0)) := by
  refine Con.of (by decide +kernel) (Nat.le_of_ble_eq_true rfl) rfl fun p l e s m args below meth c D tyc A ad0 x hr htab hname => ?_
  change JJ _ _ _ _ _ _ _ _ _ _ _ _ _ _ _ _ _ 0 [some (.ref 94), some (.int (nI q)), none] [] _ 0 0
  refine j_aload_n x dX6_freeWeek_0 rfl ?_
  refine j_iconst (v := 0) x dX6_freeWeek_1 (by decide) ?_
  refine j2_puti (k := 19) x hb dX6_freeWeek_2 jc_10 wfX6_36 (by decide) rfl rfl rfl rfl ?_
  refine j_aload_n x dX6_freeWeek_5 rfl ?_
  refine j_iload_n x dX6_freeWeek_6 rfl ?_
  refine j2_callVi x hb dX6_freeWeek_7 m_X6_isMeeting (CM_v (cx_isMeeting (d := d) hb) (jb_t ⟨nI_pos (by omega), by rw [jm_n (by omega), hct, show (nI n - 1 : Int32) = nI (n - 1) from nI_sub (d := 1) (by omega)]; exact nI_nlt (by omega) (by omega)⟩)) wmX6_122 jc_10 rfl rfl rfl (Nat.le_of_ble_eq_true rfl) (j_fit_rm (by omega) (by omega) (by omega)) rfl ?_
  refine j_if_ne (tgt := 19) x dX6_freeWeek_10 (by decide) (fun hc => ?_) (fun hc => absurd hc (by decide))
  refine j_aload_n x dX6_freeWeek_19 rfl ?_
  refine j_iload_n x dX6_freeWeek_20 rfl ?_
  refine j_iconst (v := 2) x dX6_freeWeek_21 (by decide) ?_
  refine j2_callVi x hb dX6_freeWeek_22 m_X6_of (cx_of (d := d) hb (m1 := q) (w1 := 2) (by omega) (by decide)) wmX6_68 jc_10 rfl rfl rfl (Nat.le_of_ble_eq_true rfl) (j_fit_rm (by omega) (by omega) (by omega)) rfl ?_
  refine j_iconst (v := 1) x dX6_freeWeek_25 (by decide) ?_
  rw [show jof (jm M 94 19 0) q 2 = nI q0 from (by unfold jof at hq2 ⊢; rw [jm_n (by omega)]; exact hq2)]; refine j_iadd x dX6_freeWeek_26 ?_; rw [nI_1]
  refine j_istore_n x dX6_freeWeek_27 (by decide) rfl ?_
  refine j_for (z - (q0 + 1)) (fun z0 => [some (.ref 94), some (.int (nI q)), some (.int (nI (q0 + 1 + z0)))]) (fun z0 => (jm M 94 19 0)) (fun z0 => jfst (fun i => jb (jsum (gCl (jm M 94 19 0) q (nI (q0 + 1 + i))) n = 0)) z0 = -1) (rfl) (rfl) (rfl) (fun j hj hP ih => ?_) (fun hP => ?_)
  · refine j_iload_n x dX6_freeWeek_28 rfl ?_
    refine j_aload_n x dX6_freeWeek_29 rfl ?_
    refine j2_getr (k := 0) (r := 95) x hb dX6_freeWeek_30 jc_10 wfX6_9 (by decide) rfl ?_
    refine j_iconst (v := 1) x dX6_freeWeek_33 (by decide) ?_
    refine j2_ialn x hb dX6_freeWeek_34 fa_95 (j := 1) (vp_c (by decide)) (by decide) ?_; rw [jm_n (by omega), hz1]
    refine j_icmp_ge (tgt := 55) x dX6_freeWeek_35 (by decide) (fun hc => absurd hc (nI_ge (by omega) (by omega))) (fun hc => ?_)
    refine j_aload_n x dX6_freeWeek_38 rfl ?_
    refine j_iload_n x dX6_freeWeek_39 rfl ?_
    refine j_iload_n x dX6_freeWeek_40 rfl ?_
    refine j2_callVi x hb dX6_freeWeek_41 m_X6_clashes (cx_clashesOf (d := d) hb hn (by rw [jm_n (by omega)]; exact hct) hq (fun i hi => by have z := hho i hi; unfold jof at z ⊢; rw [jm_n (by omega)]; exact z)) wmX6_143 jc_10 rfl rfl rfl (Nat.le_of_ble_eq_true rfl) (j_fit_rm (by omega) (by omega) (by omega)) rfl ?_
    refine j_if_ne (tgt := 49) x dX6_freeWeek_44 (by decide) (fun h1 => ?_) (fun h1 => ?_)
    · refine j_iinc x dX6_freeWeek_49 rfl (by decide) rfl ?_
      refine j_goto (tgt := 28) x dX6_freeWeek_52 (by decide) ?_
      exact j_goal (ih (jfst_no hP (fun y => absurd ((show (fun i => jb (jsum (gCl (jm M 94 19 0) q (nI (q0 + 1 + i))) n = 0)) j = 0 from jb_f h1).symm.trans y) (by decide)))) (wk_c rfl (wk_c rfl (wk_c (congrArg (fun z => some (Value.int z)) (nI_1 (q0 + 1 + j))) (wk_0)))) (rfl)
    · refine j_iload_n x dX6_freeWeek_47 rfl ?_
      exact j_ireturn x hr dX6_freeWeek_48 (by omega) (by omega) ⟨by unfold gfree; rw [jfst_at hP (show (fun i => jb (jsum (gCl (jm M 94 19 0) q (nI (q0 + 1 + i))) n = 0)) j = 1 from jb_t h1) (by omega) hj, if_neg (nI_nm1 (by omega)), nI_add], rfl⟩
  refine j_iload_n x dX6_freeWeek_28 rfl ?_
  refine j_aload_n x dX6_freeWeek_29 rfl ?_
  refine j2_getr (k := 0) (r := 95) x hb dX6_freeWeek_30 jc_10 wfX6_9 (by decide) rfl ?_
  refine j_iconst (v := 1) x dX6_freeWeek_33 (by decide) ?_
  refine j2_ialn x hb dX6_freeWeek_34 fa_95 (j := 1) (vp_c (by decide)) (by decide) ?_; rw [jm_n (by omega), hz1]
  refine j_icmp_ge (tgt := 55) x dX6_freeWeek_35 (by decide) (fun hc => ?_) (fun hc => absurd (by rw [show q0 + 1 + (z - (q0 + 1)) = z from by omega]; exact nI_le (Nat.le_refl _) (by omega)) hc)
  exact absurd (show gfree M n z q0 q = -1 from if_pos hP) h
theorem cx_freeWeek_no {d : Nat} {b : SBt} {Y : OUt} {M : MM} (hb : 104 ≤ b.2.1) {n q : Nat} (hn : n ≤ 56) (hct : M 95 9 = nI n) (hq : q < n) (hho : ∀ i, i < n → ∃ h, h < 8 ∧ jof M i 0 = nI h) {z q0 : Nat} (hz : z ≤ 14) (hz1 : M 95 1 = nI z) (hq2 : jof M q 2 = nI q0) (hq0 : q0 < z) (h : gfree M n z q0 q = -1) : CM (d + 3) 0 0 yX6_freeWeek cX6_freeWeek 3 (some .int) [.ref 94, .int (nI q)] b Y M (.inl (some (.int (0)))) (jrai (jm M 94 19 0) 2) := by
  refine Con.of (by decide +kernel) (Nat.le_of_ble_eq_true rfl) rfl fun p l e s m args below meth c D tyc A ad0 x hr htab hname => ?_
  change JJ _ _ _ _ _ _ _ _ _ _ _ _ _ _ _ _ _ 0 [some (.ref 94), some (.int (nI q)), none] [] _ 0 0
  refine j_aload_n x dX6_freeWeek_0 rfl ?_
  refine j_iconst (v := 0) x dX6_freeWeek_1 (by decide) ?_
  refine j2_puti (k := 19) x hb dX6_freeWeek_2 jc_10 wfX6_36 (by decide) rfl rfl rfl rfl ?_
  refine j_aload_n x dX6_freeWeek_5 rfl ?_
  refine j_iload_n x dX6_freeWeek_6 rfl ?_
  refine j2_callVi x hb dX6_freeWeek_7 m_X6_isMeeting (CM_v (cx_isMeeting (d := d) hb) (jb_t ⟨nI_pos (by omega), by rw [jm_n (by omega), hct, show (nI n - 1 : Int32) = nI (n - 1) from nI_sub (d := 1) (by omega)]; exact nI_nlt (by omega) (by omega)⟩)) wmX6_122 jc_10 rfl rfl rfl (Nat.le_of_ble_eq_true rfl) (j_fit_rm (by omega) (by omega) (by omega)) rfl ?_
  refine j_if_ne (tgt := 19) x dX6_freeWeek_10 (by decide) (fun hc => ?_) (fun hc => absurd hc (by decide))
  refine j_aload_n x dX6_freeWeek_19 rfl ?_
  refine j_iload_n x dX6_freeWeek_20 rfl ?_
  refine j_iconst (v := 2) x dX6_freeWeek_21 (by decide) ?_
  refine j2_callVi x hb dX6_freeWeek_22 m_X6_of (cx_of (d := d) hb (m1 := q) (w1 := 2) (by omega) (by decide)) wmX6_68 jc_10 rfl rfl rfl (Nat.le_of_ble_eq_true rfl) (j_fit_rm (by omega) (by omega) (by omega)) rfl ?_
  refine j_iconst (v := 1) x dX6_freeWeek_25 (by decide) ?_
  rw [show jof (jm M 94 19 0) q 2 = nI q0 from (by unfold jof at hq2 ⊢; rw [jm_n (by omega)]; exact hq2)]; refine j_iadd x dX6_freeWeek_26 ?_; rw [nI_1]
  refine j_istore_n x dX6_freeWeek_27 (by decide) rfl ?_
  refine j_for (z - (q0 + 1)) (fun z0 => [some (.ref 94), some (.int (nI q)), some (.int (nI (q0 + 1 + z0)))]) (fun z0 => (jm M 94 19 0)) (fun z0 => jfst (fun i => jb (jsum (gCl (jm M 94 19 0) q (nI (q0 + 1 + i))) n = 0)) z0 = -1) (rfl) (rfl) (rfl) (fun j hj hP ih => ?_) (fun hP => ?_)
  · refine j_iload_n x dX6_freeWeek_28 rfl ?_
    refine j_aload_n x dX6_freeWeek_29 rfl ?_
    refine j2_getr (k := 0) (r := 95) x hb dX6_freeWeek_30 jc_10 wfX6_9 (by decide) rfl ?_
    refine j_iconst (v := 1) x dX6_freeWeek_33 (by decide) ?_
    refine j2_ialn x hb dX6_freeWeek_34 fa_95 (j := 1) (vp_c (by decide)) (by decide) ?_; rw [jm_n (by omega), hz1]
    refine j_icmp_ge (tgt := 55) x dX6_freeWeek_35 (by decide) (fun hc => absurd hc (nI_ge (by omega) (by omega))) (fun hc => ?_)
    refine j_aload_n x dX6_freeWeek_38 rfl ?_
    refine j_iload_n x dX6_freeWeek_39 rfl ?_
    refine j_iload_n x dX6_freeWeek_40 rfl ?_
    refine j2_callVi x hb dX6_freeWeek_41 m_X6_clashes (cx_clashesOf (d := d) hb hn (by rw [jm_n (by omega)]; exact hct) hq (fun i hi => by have z := hho i hi; unfold jof at z ⊢; rw [jm_n (by omega)]; exact z)) wmX6_143 jc_10 rfl rfl rfl (Nat.le_of_ble_eq_true rfl) (j_fit_rm (by omega) (by omega) (by omega)) rfl ?_
    refine j_if_ne (tgt := 49) x dX6_freeWeek_44 (by decide) (fun h1 => ?_) (fun h1 => ?_)
    · refine j_iinc x dX6_freeWeek_49 rfl (by decide) rfl ?_
      refine j_goto (tgt := 28) x dX6_freeWeek_52 (by decide) ?_
      exact j_goal (ih (jfst_no hP (fun y => absurd ((show (fun i => jb (jsum (gCl (jm M 94 19 0) q (nI (q0 + 1 + i))) n = 0)) j = 0 from jb_f h1).symm.trans y) (by decide)))) (wk_c rfl (wk_c rfl (wk_c (congrArg (fun z => some (Value.int z)) (nI_1 (q0 + 1 + j))) (wk_0)))) (rfl)
    · refine j_iload_n x dX6_freeWeek_47 rfl ?_
      exact j_ireturn x hr dX6_freeWeek_48 (by omega) (by omega) ⟨absurd (show gfree M n z q0 q = nI (q0 + 1 + j) by unfold gfree; rw [jfst_at hP (show (fun i => jb (jsum (gCl (jm M 94 19 0) q (nI (q0 + 1 + i))) n = 0)) j = 1 from jb_t h1) (by omega) hj, if_neg (nI_nm1 (by omega)), nI_add]) (by rw [h]; exact fun y => nI_nm1 (n := q0 + 1 + j) (by omega) y.symm), absurd (show gfree M n z q0 q = nI (q0 + 1 + j) by unfold gfree; rw [jfst_at hP (show (fun i => jb (jsum (gCl (jm M 94 19 0) q (nI (q0 + 1 + i))) n = 0)) j = 1 from jb_t h1) (by omega) hj, if_neg (nI_nm1 (by omega)), nI_add]) (by rw [h]; exact fun y => nI_nm1 (n := q0 + 1 + j) (by omega) y.symm)⟩
  refine j_iload_n x dX6_freeWeek_28 rfl ?_
  refine j_aload_n x dX6_freeWeek_29 rfl ?_
  refine j2_getr (k := 0) (r := 95) x hb dX6_freeWeek_30 jc_10 wfX6_9 (by decide) rfl ?_
  refine j_iconst (v := 1) x dX6_freeWeek_33 (by decide) ?_
  refine j2_ialn x hb dX6_freeWeek_34 fa_95 (j := 1) (vp_c (by decide)) (by decide) ?_; rw [jm_n (by omega), hz1]
  refine j_icmp_ge (tgt := 55) x dX6_freeWeek_35 (by decide) (fun hc => ?_) (fun hc => absurd (by rw [show q0 + 1 + (z - (q0 + 1)) = z from by omega]; exact nI_le (Nat.le_refl _) (by omega)) hc)
  refine j_aload_n x dX6_freeWeek_55 rfl ?_
  refine j_iconst (v := 2) x dX6_freeWeek_56 (by decide) ?_
  refine j2_callVi x hb dX6_freeWeek_57 m_X6_raises (cx_raises (d := d) hb) wmX6_61 jc_10 rfl rfl rfl (Nat.le_of_ble_eq_true rfl) (j_fit_rm (by omega) (by omega) (by omega)) rfl ?_
  exact j_ireturn x hr dX6_freeWeek_60 (by omega) (by omega) ⟨rfl, rfl⟩
end

section
/-! ===== the reference: ranks, runs, meetings, accounts ===== -/
def fRank (M : MM) (n w r : Nat) (t : Int32) (i : Nat) : Int32 := jb (jsum (fgPl M n w r (nI i)) w = t)
theorem cx_ranked_ok {d : Nat} {b : SBt} {Y : OUt} {M : MM} (hb : 104 ≤ b.2.1) {t : Int32} {n : Nat} (hn : n ≤ 56) (hct : M 95 9 = nI n) {w : Nat} (hw : w ≤ 8) (h0 : M 95 0 = nI w) {r : Nat} (hr3 : r ≤ 3) (h5 : M 95 5 = nI r) (hru : ∀ i, i < r → M 95 (6 + i) = 0 ∨ M 95 (6 + i) = 1 ∨ M 95 (6 + i) = 2 ∨ M 95 (6 + i) = 3 ∨ M 95 (6 + i) = 4) (h : ¬ jfst (fRank (jm M 94 19 0) n w r t) w = -1) : CM (d + 9) 0 0 yX6_ranked cX6_ranked 3 (some .int) [.ref 94, .int t] b Y M (.inl (some (.int (jfst (fRank (jm M 94 19 0) n w r t) w)))) ((jm M 94 19 0)) := by
  refine Con.of (by decide +kernel) (Nat.le_of_ble_eq_true rfl) rfl fun p l e s m args below meth c D tyc A ad0 x hr htab hname => ?_
  change JJ _ _ _ _ _ _ _ _ _ _ _ _ _ _ _ _ _ 0 [some (.ref 94), some (.int t), none] [] _ 0 0
  refine j_aload_n x dX6_ranked_0 rfl ?_
  refine j_iconst (v := 0) x dX6_ranked_1 (by decide) ?_
  refine j2_puti (k := 19) x hb dX6_ranked_2 jc_10 wfX6_36 (by decide) rfl rfl rfl rfl ?_
  refine j_iconst (v := 0) x dX6_ranked_5 (by decide) ?_
  refine j_istore_n x dX6_ranked_6 (by decide) rfl ?_
  refine j_for (w) (fun z0 => [some (.ref 94), some (.int t), some (.int (nI z0))]) (fun z0 => (jm M 94 19 0)) (fun z0 => jfst (fRank (jm M 94 19 0) n w r t) z0 = -1) (rfl) (rfl) (rfl) (fun j hj hP ih => ?_) (fun hP => ?_)
  · refine j_iload_n x dX6_ranked_7 rfl ?_
    refine j_aload_n x dX6_ranked_8 rfl ?_
    refine j2_getr (k := 0) (r := 95) x hb dX6_ranked_9 jc_10 wfX6_9 (by decide) rfl ?_
    refine j_iconst (v := 0) x dX6_ranked_12 (by decide) ?_
    refine j2_ialn x hb dX6_ranked_13 fa_95 (j := 0) (vp_c (by decide)) (by decide) ?_; rw [jm_n (by omega), h0]
    refine j_icmp_ge (tgt := 34) x dX6_ranked_14 (by decide) (fun hc => absurd hc (nI_ge hj (by omega))) (fun hc => ?_)
    refine j_aload_n x dX6_ranked_17 rfl ?_
    refine j_iload_n x dX6_ranked_18 rfl ?_
    refine j2_callVi x hb dX6_ranked_19 m_X6_placeIn (cx_placeIn (d := d) hb hn (by rw [jm_n (by omega)]; exact hct) hw (by rw [jm_n (by omega)]; exact h0) hr3 (by rw [jm_n (by omega)]; exact h5) (fun i hi => by rw [jm_n (by omega)]; exact hru i hi)) wmX6_170 jc_10 rfl rfl rfl (Nat.le_of_ble_eq_true rfl) (j_fit_rm (by omega) (by omega) (by omega)) rfl ?_
    refine j_iload_n x dX6_ranked_22 rfl ?_
    refine j_icmp_ne (tgt := 28) x dX6_ranked_23 (by decide) (fun h1 => ?_) (fun h1 => ?_)
    · refine j_iinc x dX6_ranked_28 rfl (by decide) rfl ?_
      refine j_goto (tgt := 7) x dX6_ranked_31 (by decide) ?_
      exact j_goal (ih (jfst_no hP (fun y => absurd ((show fRank (jm M 94 19 0) n w r t j = 0 from jb_f h1).symm.trans y) (by decide)))) (wk_c rfl (wk_c rfl (wk_c (congrArg (fun z => some (Value.int z)) (nI_1 _)) (wk_0)))) (rfl)
    · refine j_iload_n x dX6_ranked_26 rfl ?_
      exact j_ireturn x hr dX6_ranked_27 (by omega) (by omega) ⟨by rw [jfst_at hP (show fRank (jm M 94 19 0) n w r t j = 1 from jb_t h1) (by omega) hj], rfl⟩
  refine j_iload_n x dX6_ranked_7 rfl ?_
  refine j_aload_n x dX6_ranked_8 rfl ?_
  refine j2_getr (k := 0) (r := 95) x hb dX6_ranked_9 jc_10 wfX6_9 (by decide) rfl ?_
  refine j_iconst (v := 0) x dX6_ranked_12 (by decide) ?_
  refine j2_ialn x hb dX6_ranked_13 fa_95 (j := 0) (vp_c (by decide)) (by decide) ?_; rw [jm_n (by omega), h0]
  refine j_icmp_ge (tgt := 34) x dX6_ranked_14 (by decide) (fun hc => ?_) (fun hc => absurd (nI_le (Nat.le_refl _) (by omega)) hc)
  exact absurd hP h
theorem cx_ranked_no {d : Nat} {b : SBt} {Y : OUt} {M : MM} (hb : 104 ≤ b.2.1) {t : Int32} {n : Nat} (hn : n ≤ 56) (hct : M 95 9 = nI n) {w : Nat} (hw : w ≤ 8) (h0 : M 95 0 = nI w) {r : Nat} (hr3 : r ≤ 3) (h5 : M 95 5 = nI r) (hru : ∀ i, i < r → M 95 (6 + i) = 0 ∨ M 95 (6 + i) = 1 ∨ M 95 (6 + i) = 2 ∨ M 95 (6 + i) = 3 ∨ M 95 (6 + i) = 4) (h : jfst (fRank (jm M 94 19 0) n w r t) w = -1) : CM (d + 9) 0 0 yX6_ranked cX6_ranked 3 (some .int) [.ref 94, .int t] b Y M (.inl (some (.int (0)))) (jrai (jm M 94 19 0) 1) := by
  refine Con.of (by decide +kernel) (Nat.le_of_ble_eq_true rfl) rfl fun p l e s m args below meth c D tyc A ad0 x hr htab hname => ?_
  change JJ _ _ _ _ _ _ _ _ _ _ _ _ _ _ _ _ _ 0 [some (.ref 94), some (.int t), none] [] _ 0 0
  refine j_aload_n x dX6_ranked_0 rfl ?_
  refine j_iconst (v := 0) x dX6_ranked_1 (by decide) ?_
  refine j2_puti (k := 19) x hb dX6_ranked_2 jc_10 wfX6_36 (by decide) rfl rfl rfl rfl ?_
  refine j_iconst (v := 0) x dX6_ranked_5 (by decide) ?_
  refine j_istore_n x dX6_ranked_6 (by decide) rfl ?_
  refine j_for (w) (fun z0 => [some (.ref 94), some (.int t), some (.int (nI z0))]) (fun z0 => (jm M 94 19 0)) (fun z0 => jfst (fRank (jm M 94 19 0) n w r t) z0 = -1) (rfl) (rfl) (rfl) (fun j hj hP ih => ?_) (fun hP => ?_)
  · refine j_iload_n x dX6_ranked_7 rfl ?_
    refine j_aload_n x dX6_ranked_8 rfl ?_
    refine j2_getr (k := 0) (r := 95) x hb dX6_ranked_9 jc_10 wfX6_9 (by decide) rfl ?_
    refine j_iconst (v := 0) x dX6_ranked_12 (by decide) ?_
    refine j2_ialn x hb dX6_ranked_13 fa_95 (j := 0) (vp_c (by decide)) (by decide) ?_; rw [jm_n (by omega), h0]
    refine j_icmp_ge (tgt := 34) x dX6_ranked_14 (by decide) (fun hc => absurd hc (nI_ge hj (by omega))) (fun hc => ?_)
    refine j_aload_n x dX6_ranked_17 rfl ?_
    refine j_iload_n x dX6_ranked_18 rfl ?_
    refine j2_callVi x hb dX6_ranked_19 m_X6_placeIn (cx_placeIn (d := d) hb hn (by rw [jm_n (by omega)]; exact hct) hw (by rw [jm_n (by omega)]; exact h0) hr3 (by rw [jm_n (by omega)]; exact h5) (fun i hi => by rw [jm_n (by omega)]; exact hru i hi)) wmX6_170 jc_10 rfl rfl rfl (Nat.le_of_ble_eq_true rfl) (j_fit_rm (by omega) (by omega) (by omega)) rfl ?_
    refine j_iload_n x dX6_ranked_22 rfl ?_
    refine j_icmp_ne (tgt := 28) x dX6_ranked_23 (by decide) (fun h1 => ?_) (fun h1 => ?_)
    · refine j_iinc x dX6_ranked_28 rfl (by decide) rfl ?_
      refine j_goto (tgt := 7) x dX6_ranked_31 (by decide) ?_
      exact j_goal (ih (jfst_no hP (fun y => absurd ((show fRank (jm M 94 19 0) n w r t j = 0 from jb_f h1).symm.trans y) (by decide)))) (wk_c rfl (wk_c rfl (wk_c (congrArg (fun z => some (Value.int z)) (nI_1 _)) (wk_0)))) (rfl)
    · refine j_iload_n x dX6_ranked_26 rfl ?_
      exact j_ireturn x hr dX6_ranked_27 (by omega) (by omega) ⟨absurd ((jfst_at hP (show fRank (jm M 94 19 0) n w r t j = 1 from jb_t h1) (by omega) hj).symm.trans h) (nI_nm1 (by omega)), absurd ((jfst_at hP (show fRank (jm M 94 19 0) n w r t j = 1 from jb_t h1) (by omega) hj).symm.trans h) (nI_nm1 (by omega))⟩
  refine j_iload_n x dX6_ranked_7 rfl ?_
  refine j_aload_n x dX6_ranked_8 rfl ?_
  refine j2_getr (k := 0) (r := 95) x hb dX6_ranked_9 jc_10 wfX6_9 (by decide) rfl ?_
  refine j_iconst (v := 0) x dX6_ranked_12 (by decide) ?_
  refine j2_ialn x hb dX6_ranked_13 fa_95 (j := 0) (vp_c (by decide)) (by decide) ?_; rw [jm_n (by omega), h0]
  refine j_icmp_ge (tgt := 34) x dX6_ranked_14 (by decide) (fun hc => ?_) (fun hc => absurd (nI_le (Nat.le_refl _) (by omega)) hc)
  refine j_aload_n x dX6_ranked_34 rfl ?_
  refine j_iconst (v := 1) x dX6_ranked_35 (by decide) ?_
  refine j2_callVi x hb dX6_ranked_36 m_X6_raises (cx_raises (d := d) hb) wmX6_61 jc_10 rfl rfl rfl (Nat.le_of_ble_eq_true rfl) (j_fit_rm (by omega) (by omega) (by omega)) rfl ?_
  exact j_ireturn x hr dX6_ranked_39 (by omega) (by omega) ⟨rfl, rfl⟩
theorem cx_meetingOf_k0 {d : Nat} {b : SBt} {Y : OUt} {M : MM} (hb : 104 ≤ b.2.1) {n q : Nat} (hn : n ≤ 56) (hct : M 95 9 = nI n) (hq : q < n) : CM (d + 4) 0 0 yX6_meetingOf cX6_meetingOf 3 (some .int) [.ref 94, .int (nI q), .int 0] b Y M (.inl (some (.int (jof (jm M 94 19 0) q 2)))) ((jm M 94 19 0)) := by
  refine Con.of (by decide +kernel) (Nat.le_of_ble_eq_true rfl) rfl fun p l e s m args below meth c D tyc A ad0 x hr htab hname => ?_
  change JJ _ _ _ _ _ _ _ _ _ _ _ _ _ _ _ _ _ 0 [some (.ref 94), some (.int (nI q)), some (.int 0)] [] _ 0 0
  refine j_aload_n x dX6_meetingOf_0 rfl ?_
  refine j_iconst (v := 0) x dX6_meetingOf_1 (by decide) ?_
  refine j2_puti (k := 19) x hb dX6_meetingOf_2 jc_10 wfX6_36 (by decide) rfl rfl rfl rfl ?_
  refine j_aload_n x dX6_meetingOf_5 rfl ?_
  refine j_iload_n x dX6_meetingOf_6 rfl ?_
  refine j2_callVi x hb dX6_meetingOf_7 m_X6_isMeeting (CM_v (cx_isMeeting (d := d) hb) (jb_t ⟨nI_pos (by omega), by rw [jm_n (by omega), hct, show (nI n - 1 : Int32) = nI (n - 1) from nI_sub (d := 1) (by omega)]; exact nI_nlt (by omega) (by omega)⟩)) wmX6_122 jc_10 rfl rfl rfl (Nat.le_of_ble_eq_true rfl) (j_fit_rm (by omega) (by omega) (by omega)) rfl ?_
  refine j_if_ne (tgt := 19) x dX6_meetingOf_10 (by decide) (fun hc => ?_) (fun hc => absurd hc (by decide))
  refine j_iload_n x dX6_meetingOf_19 rfl ?_
  refine j_tableIn (tgt := 64) x dX6_meetingOf_20 (by decide) (by decide) rfl (by decide) ?_
  refine j_aload_n x dX6_meetingOf_64 rfl ?_
  refine j_iload_n x dX6_meetingOf_65 rfl ?_
  refine j_iconst (v := 2) x dX6_meetingOf_66 (by decide) ?_
  refine j2_callVi x hb dX6_meetingOf_67 m_X6_of (cx_of (d := d) hb (m1 := q) (w1 := 2) (by omega) (by decide)) wmX6_68 jc_10 rfl rfl rfl (Nat.le_of_ble_eq_true rfl) (j_fit_rm (by omega) (by omega) (by omega)) rfl ?_
  exact j_ireturn x hr dX6_meetingOf_70 (by omega) (by omega) ⟨rfl, rfl⟩
theorem cx_meetingOf_k1 {d : Nat} {b : SBt} {Y : OUt} {M : MM} (hb : 104 ≤ b.2.1) {n q : Nat} (hn : n ≤ 56) (hct : M 95 9 = nI n) (hq : q < n) : CM (d + 4) 0 0 yX6_meetingOf cX6_meetingOf 3 (some .int) [.ref 94, .int (nI q), .int 1] b Y M (.inl (some (.int (jof (jm M 94 19 0) q 0)))) ((jm M 94 19 0)) := by
  refine Con.of (by decide +kernel) (Nat.le_of_ble_eq_true rfl) rfl fun p l e s m args below meth c D tyc A ad0 x hr htab hname => ?_
  change JJ _ _ _ _ _ _ _ _ _ _ _ _ _ _ _ _ _ 0 [some (.ref 94), some (.int (nI q)), some (.int 1)] [] _ 0 0
  refine j_aload_n x dX6_meetingOf_0 rfl ?_
  refine j_iconst (v := 0) x dX6_meetingOf_1 (by decide) ?_
  refine j2_puti (k := 19) x hb dX6_meetingOf_2 jc_10 wfX6_36 (by decide) rfl rfl rfl rfl ?_
  refine j_aload_n x dX6_meetingOf_5 rfl ?_
  refine j_iload_n x dX6_meetingOf_6 rfl ?_
  refine j2_callVi x hb dX6_meetingOf_7 m_X6_isMeeting (CM_v (cx_isMeeting (d := d) hb) (jb_t ⟨nI_pos (by omega), by rw [jm_n (by omega), hct, show (nI n - 1 : Int32) = nI (n - 1) from nI_sub (d := 1) (by omega)]; exact nI_nlt (by omega) (by omega)⟩)) wmX6_122 jc_10 rfl rfl rfl (Nat.le_of_ble_eq_true rfl) (j_fit_rm (by omega) (by omega) (by omega)) rfl ?_
  refine j_if_ne (tgt := 19) x dX6_meetingOf_10 (by decide) (fun hc => ?_) (fun hc => absurd hc (by decide))
  refine j_iload_n x dX6_meetingOf_19 rfl ?_
  refine j_tableIn (tgt := 71) x dX6_meetingOf_20 (by decide) (by decide) rfl (by decide) ?_
  refine j_aload_n x dX6_meetingOf_71 rfl ?_
  refine j_iload_n x dX6_meetingOf_72 rfl ?_
  refine j_iconst (v := 0) x dX6_meetingOf_73 (by decide) ?_
  refine j2_callVi x hb dX6_meetingOf_74 m_X6_of (cx_of (d := d) hb (m1 := q) (w1 := 0) (by omega) (by decide)) wmX6_68 jc_10 rfl rfl rfl (Nat.le_of_ble_eq_true rfl) (j_fit_rm (by omega) (by omega) (by omega)) rfl ?_
  exact j_ireturn x hr dX6_meetingOf_77 (by omega) (by omega) ⟨rfl, rfl⟩
theorem cx_meetingOf_k2 {d : Nat} {b : SBt} {Y : OUt} {M : MM} (hb : 104 ≤ b.2.1) {n q : Nat} (hn : n ≤ 56) (hct : M 95 9 = nI n) (hq : q < n) : CM (d + 4) 0 0 yX6_meetingOf cX6_meetingOf 3 (some .int) [.ref 94, .int (nI q), .int 2] b Y M (.inl (some (.int (jof (jm M 94 19 0) q 1)))) ((jm M 94 19 0)) := by
  refine Con.of (by decide +kernel) (Nat.le_of_ble_eq_true rfl) rfl fun p l e s m args below meth c D tyc A ad0 x hr htab hname => ?_
  change JJ _ _ _ _ _ _ _ _ _ _ _ _ _ _ _ _ _ 0 [some (.ref 94), some (.int (nI q)), some (.int 2)] [] _ 0 0
  refine j_aload_n x dX6_meetingOf_0 rfl ?_
  refine j_iconst (v := 0) x dX6_meetingOf_1 (by decide) ?_
  refine j2_puti (k := 19) x hb dX6_meetingOf_2 jc_10 wfX6_36 (by decide) rfl rfl rfl rfl ?_
  refine j_aload_n x dX6_meetingOf_5 rfl ?_
  refine j_iload_n x dX6_meetingOf_6 rfl ?_
  refine j2_callVi x hb dX6_meetingOf_7 m_X6_isMeeting (CM_v (cx_isMeeting (d := d) hb) (jb_t ⟨nI_pos (by omega), by rw [jm_n (by omega), hct, show (nI n - 1 : Int32) = nI (n - 1) from nI_sub (d := 1) (by omega)]; exact nI_nlt (by omega) (by omega)⟩)) wmX6_122 jc_10 rfl rfl rfl (Nat.le_of_ble_eq_true rfl) (j_fit_rm (by omega) (by omega) (by omega)) rfl ?_
  refine j_if_ne (tgt := 19) x dX6_meetingOf_10 (by decide) (fun hc => ?_) (fun hc => absurd hc (by decide))
  refine j_iload_n x dX6_meetingOf_19 rfl ?_
  refine j_tableIn (tgt := 78) x dX6_meetingOf_20 (by decide) (by decide) rfl (by decide) ?_
  refine j_aload_n x dX6_meetingOf_78 rfl ?_
  refine j_iload_n x dX6_meetingOf_79 rfl ?_
  refine j_iconst (v := 1) x dX6_meetingOf_80 (by decide) ?_
  refine j2_callVi x hb dX6_meetingOf_81 m_X6_of (cx_of (d := d) hb (m1 := q) (w1 := 1) (by omega) (by decide)) wmX6_68 jc_10 rfl rfl rfl (Nat.le_of_ble_eq_true rfl) (j_fit_rm (by omega) (by omega) (by omega)) rfl ?_
  exact j_ireturn x hr dX6_meetingOf_84 (by omega) (by omega) ⟨rfl, rfl⟩
theorem cx_meetingOf_k3 {d : Nat} {b : SBt} {Y : OUt} {M : MM} (hb : 104 ≤ b.2.1) {n q : Nat} (hn : n ≤ 56) (hct : M 95 9 = nI n) (hq : q < n) : CM (d + 4) 0 0 yX6_meetingOf cX6_meetingOf 3 (some .int) [.ref 94, .int (nI q), .int 3] b Y M (.inl (some (.int (jhow (jm M 94 19 0) q)))) ((jm M 94 19 0)) := by
  refine Con.of (by decide +kernel) (Nat.le_of_ble_eq_true rfl) rfl fun p l e s m args below meth c D tyc A ad0 x hr htab hname => ?_
  change JJ _ _ _ _ _ _ _ _ _ _ _ _ _ _ _ _ _ 0 [some (.ref 94), some (.int (nI q)), some (.int 3)] [] _ 0 0
  refine j_aload_n x dX6_meetingOf_0 rfl ?_
  refine j_iconst (v := 0) x dX6_meetingOf_1 (by decide) ?_
  refine j2_puti (k := 19) x hb dX6_meetingOf_2 jc_10 wfX6_36 (by decide) rfl rfl rfl rfl ?_
  refine j_aload_n x dX6_meetingOf_5 rfl ?_
  refine j_iload_n x dX6_meetingOf_6 rfl ?_
  refine j2_callVi x hb dX6_meetingOf_7 m_X6_isMeeting (CM_v (cx_isMeeting (d := d) hb) (jb_t ⟨nI_pos (by omega), by rw [jm_n (by omega), hct, show (nI n - 1 : Int32) = nI (n - 1) from nI_sub (d := 1) (by omega)]; exact nI_nlt (by omega) (by omega)⟩)) wmX6_122 jc_10 rfl rfl rfl (Nat.le_of_ble_eq_true rfl) (j_fit_rm (by omega) (by omega) (by omega)) rfl ?_
  refine j_if_ne (tgt := 19) x dX6_meetingOf_10 (by decide) (fun hc => ?_) (fun hc => absurd hc (by decide))
  refine j_iload_n x dX6_meetingOf_19 rfl ?_
  refine j_tableIn (tgt := 85) x dX6_meetingOf_20 (by decide) (by decide) rfl (by decide) ?_
  refine j_aload_n x dX6_meetingOf_85 rfl ?_
  refine j_iload_n x dX6_meetingOf_86 rfl ?_
  refine j2_callVi x hb dX6_meetingOf_87 m_X6_how (cx_how (d := d) hb (m1 := q) (by omega)) wmX6_131 jc_10 rfl rfl rfl (Nat.le_of_ble_eq_true rfl) (j_fit_rm (by omega) (by omega) (by omega)) rfl ?_
  exact j_ireturn x hr dX6_meetingOf_90 (by omega) (by omega) ⟨rfl, rfl⟩
theorem cx_meetingOf_k4 {d : Nat} {b : SBt} {Y : OUt} {M : MM} (hb : 104 ≤ b.2.1) {n q : Nat} (hn : n ≤ 56) (hct : M 95 9 = nI n) (hq : q < n) : CM (d + 4) 0 0 yX6_meetingOf cX6_meetingOf 3 (some .int) [.ref 94, .int (nI q), .int 4] b Y M (.inl (some (.int (if jof (jm M 94 19 0) q 4 = 1 then jof (jm M 94 19 0) q 6 else -1)))) ((jm M 94 19 0)) := by
  refine Con.of (by decide +kernel) (Nat.le_of_ble_eq_true rfl) rfl fun p l e s m args below meth c D tyc A ad0 x hr htab hname => ?_
  change JJ _ _ _ _ _ _ _ _ _ _ _ _ _ _ _ _ _ 0 [some (.ref 94), some (.int (nI q)), some (.int 4)] [] _ 0 0
  refine j_aload_n x dX6_meetingOf_0 rfl ?_
  refine j_iconst (v := 0) x dX6_meetingOf_1 (by decide) ?_
  refine j2_puti (k := 19) x hb dX6_meetingOf_2 jc_10 wfX6_36 (by decide) rfl rfl rfl rfl ?_
  refine j_aload_n x dX6_meetingOf_5 rfl ?_
  refine j_iload_n x dX6_meetingOf_6 rfl ?_
  refine j2_callVi x hb dX6_meetingOf_7 m_X6_isMeeting (CM_v (cx_isMeeting (d := d) hb) (jb_t ⟨nI_pos (by omega), by rw [jm_n (by omega), hct, show (nI n - 1 : Int32) = nI (n - 1) from nI_sub (d := 1) (by omega)]; exact nI_nlt (by omega) (by omega)⟩)) wmX6_122 jc_10 rfl rfl rfl (Nat.le_of_ble_eq_true rfl) (j_fit_rm (by omega) (by omega) (by omega)) rfl ?_
  refine j_if_ne (tgt := 19) x dX6_meetingOf_10 (by decide) (fun hc => ?_) (fun hc => absurd hc (by decide))
  refine j_iload_n x dX6_meetingOf_19 rfl ?_
  refine j_tableIn (tgt := 91) x dX6_meetingOf_20 (by decide) (by decide) rfl (by decide) ?_
  refine j_aload_n x dX6_meetingOf_91 rfl ?_
  refine j_iload_n x dX6_meetingOf_92 rfl ?_
  refine j2_callVi x hb dX6_meetingOf_93 m_X6_isPlayed (cx_isPlayed (d := d) hb (m1 := q) (by omega)) wmX6_72 jc_10 rfl rfl rfl (Nat.le_of_ble_eq_true rfl) (j_fit_rm (by omega) (by omega) (by omega)) rfl ?_
  refine j_if_eq (tgt := 113) x dX6_meetingOf_96 (by decide) (fun h1 => ?_) (fun h1 => ?_)
  · refine j_iconst (v := (-1)) x dX6_meetingOf_113 (by decide) ?_
    exact j_ireturn x hr dX6_meetingOf_114 (by omega) (by omega) ⟨by rw [if_neg (jb_0.mp h1)], rfl⟩
  · refine j_aload_n x dX6_meetingOf_99 rfl ?_
    refine j_iload_n x dX6_meetingOf_100 rfl ?_
    refine j_bipush (v := 6) x dX6_meetingOf_101 (by decide) ?_
    refine j_iload_n x dX6_meetingOf_103 rfl ?_
    refine j_iadd x dX6_meetingOf_104 ?_
    refine j_iconst (v := 4) x dX6_meetingOf_105 (by decide) ?_
    refine j_isub x dX6_meetingOf_106 ?_
    refine j2_callVi x hb dX6_meetingOf_107 m_X6_of (cx_of (d := d) hb (m1 := q) (w1 := 6) (by omega) (by decide)) wmX6_68 jc_10 rfl rfl rfl (Nat.le_of_ble_eq_true rfl) (j_fit_rm (by omega) (by omega) (by omega)) rfl ?_
    refine j_goto (tgt := 114) x dX6_meetingOf_110 (by decide) ?_
    exact j_ireturn x hr dX6_meetingOf_114 (by omega) (by omega) ⟨by rw [if_pos (jb_nz.mp h1)], rfl⟩
theorem cx_meetingOf_k5 {d : Nat} {b : SBt} {Y : OUt} {M : MM} (hb : 104 ≤ b.2.1) {n q : Nat} (hn : n ≤ 56) (hct : M 95 9 = nI n) (hq : q < n) : CM (d + 4) 0 0 yX6_meetingOf cX6_meetingOf 3 (some .int) [.ref 94, .int (nI q), .int 5] b Y M (.inl (some (.int (if jof (jm M 94 19 0) q 4 = 1 then jof (jm M 94 19 0) q 7 else -1)))) ((jm M 94 19 0)) := by
  refine Con.of (by decide +kernel) (Nat.le_of_ble_eq_true rfl) rfl fun p l e s m args below meth c D tyc A ad0 x hr htab hname => ?_
  change JJ _ _ _ _ _ _ _ _ _ _ _ _ _ _ _ _ _ 0 [some (.ref 94), some (.int (nI q)), some (.int 5)] [] _ 0 0
  refine j_aload_n x dX6_meetingOf_0 rfl ?_
  refine j_iconst (v := 0) x dX6_meetingOf_1 (by decide) ?_
  refine j2_puti (k := 19) x hb dX6_meetingOf_2 jc_10 wfX6_36 (by decide) rfl rfl rfl rfl ?_
  refine j_aload_n x dX6_meetingOf_5 rfl ?_
  refine j_iload_n x dX6_meetingOf_6 rfl ?_
  refine j2_callVi x hb dX6_meetingOf_7 m_X6_isMeeting (CM_v (cx_isMeeting (d := d) hb) (jb_t ⟨nI_pos (by omega), by rw [jm_n (by omega), hct, show (nI n - 1 : Int32) = nI (n - 1) from nI_sub (d := 1) (by omega)]; exact nI_nlt (by omega) (by omega)⟩)) wmX6_122 jc_10 rfl rfl rfl (Nat.le_of_ble_eq_true rfl) (j_fit_rm (by omega) (by omega) (by omega)) rfl ?_
  refine j_if_ne (tgt := 19) x dX6_meetingOf_10 (by decide) (fun hc => ?_) (fun hc => absurd hc (by decide))
  refine j_iload_n x dX6_meetingOf_19 rfl ?_
  refine j_tableIn (tgt := 91) x dX6_meetingOf_20 (by decide) (by decide) rfl (by decide) ?_
  refine j_aload_n x dX6_meetingOf_91 rfl ?_
  refine j_iload_n x dX6_meetingOf_92 rfl ?_
  refine j2_callVi x hb dX6_meetingOf_93 m_X6_isPlayed (cx_isPlayed (d := d) hb (m1 := q) (by omega)) wmX6_72 jc_10 rfl rfl rfl (Nat.le_of_ble_eq_true rfl) (j_fit_rm (by omega) (by omega) (by omega)) rfl ?_
  refine j_if_eq (tgt := 113) x dX6_meetingOf_96 (by decide) (fun h1 => ?_) (fun h1 => ?_)
  · refine j_iconst (v := (-1)) x dX6_meetingOf_113 (by decide) ?_
    exact j_ireturn x hr dX6_meetingOf_114 (by omega) (by omega) ⟨by rw [if_neg (jb_0.mp h1)], rfl⟩
  · refine j_aload_n x dX6_meetingOf_99 rfl ?_
    refine j_iload_n x dX6_meetingOf_100 rfl ?_
    refine j_bipush (v := 6) x dX6_meetingOf_101 (by decide) ?_
    refine j_iload_n x dX6_meetingOf_103 rfl ?_
    refine j_iadd x dX6_meetingOf_104 ?_
    refine j_iconst (v := 4) x dX6_meetingOf_105 (by decide) ?_
    refine j_isub x dX6_meetingOf_106 ?_
    refine j2_callVi x hb dX6_meetingOf_107 m_X6_of (cx_of (d := d) hb (m1 := q) (w1 := 7) (by omega) (by decide)) wmX6_68 jc_10 rfl rfl rfl (Nat.le_of_ble_eq_true rfl) (j_fit_rm (by omega) (by omega) (by omega)) rfl ?_
    refine j_goto (tgt := 114) x dX6_meetingOf_110 (by decide) ?_
    exact j_ireturn x hr dX6_meetingOf_114 (by omega) (by omega) ⟨by rw [if_pos (jb_nz.mp h1)], rfl⟩
theorem cx_meetingOf_k6 {d : Nat} {b : SBt} {Y : OUt} {M : MM} (hb : 104 ≤ b.2.1) {n q : Nat} (hn : n ≤ 56) (hct : M 95 9 = nI n) (hq : q < n) : CM (d + 4) 0 0 yX6_meetingOf cX6_meetingOf 3 (some .int) [.ref 94, .int (nI q), .int 6] b Y M (.inl (some (.int (jof (jm M 94 19 0) q 3)))) ((jm M 94 19 0)) := by
  refine Con.of (by decide +kernel) (Nat.le_of_ble_eq_true rfl) rfl fun p l e s m args below meth c D tyc A ad0 x hr htab hname => ?_
  change JJ _ _ _ _ _ _ _ _ _ _ _ _ _ _ _ _ _ 0 [some (.ref 94), some (.int (nI q)), some (.int 6)] [] _ 0 0
  refine j_aload_n x dX6_meetingOf_0 rfl ?_
  refine j_iconst (v := 0) x dX6_meetingOf_1 (by decide) ?_
  refine j2_puti (k := 19) x hb dX6_meetingOf_2 jc_10 wfX6_36 (by decide) rfl rfl rfl rfl ?_
  refine j_aload_n x dX6_meetingOf_5 rfl ?_
  refine j_iload_n x dX6_meetingOf_6 rfl ?_
  refine j2_callVi x hb dX6_meetingOf_7 m_X6_isMeeting (CM_v (cx_isMeeting (d := d) hb) (jb_t ⟨nI_pos (by omega), by rw [jm_n (by omega), hct, show (nI n - 1 : Int32) = nI (n - 1) from nI_sub (d := 1) (by omega)]; exact nI_nlt (by omega) (by omega)⟩)) wmX6_122 jc_10 rfl rfl rfl (Nat.le_of_ble_eq_true rfl) (j_fit_rm (by omega) (by omega) (by omega)) rfl ?_
  refine j_if_ne (tgt := 19) x dX6_meetingOf_10 (by decide) (fun hc => ?_) (fun hc => absurd hc (by decide))
  refine j_iload_n x dX6_meetingOf_19 rfl ?_
  refine j_tableIn (tgt := 115) x dX6_meetingOf_20 (by decide) (by decide) rfl (by decide) ?_
  refine j_aload_n x dX6_meetingOf_115 rfl ?_
  refine j_iload_n x dX6_meetingOf_116 rfl ?_
  refine j_iconst (v := 3) x dX6_meetingOf_117 (by decide) ?_
  refine j2_callVi x hb dX6_meetingOf_118 m_X6_of (cx_of (d := d) hb (m1 := q) (w1 := 3) (by omega) (by decide)) wmX6_68 jc_10 rfl rfl rfl (Nat.le_of_ble_eq_true rfl) (j_fit_rm (by omega) (by omega) (by omega)) rfl ?_
  exact j_ireturn x hr dX6_meetingOf_121 (by omega) (by omega) ⟨rfl, rfl⟩
theorem cx_meetingOf_bad {d : Nat} {b : SBt} {Y : OUt} {M : MM} (hb : 104 ≤ b.2.1) {n q : Nat} (hn : n ≤ 56) (hct : M 95 9 = nI n) (hq : q < n) {u : Int32} (hx : u.toInt < 0 ∨ 6 < u.toInt) : CM (d + 4) 0 0 yX6_meetingOf cX6_meetingOf 3 (some .int) [.ref 94, .int (nI q), .int u] b Y M (.inl (some (.int (0)))) (jrai (jm M 94 19 0) 2) := by
  refine Con.of (by decide +kernel) (Nat.le_of_ble_eq_true rfl) rfl fun p l e s m args below meth c D tyc A ad0 x hr htab hname => ?_
  change JJ _ _ _ _ _ _ _ _ _ _ _ _ _ _ _ _ _ 0 [some (.ref 94), some (.int (nI q)), some (.int u)] [] _ 0 0
  refine j_aload_n x dX6_meetingOf_0 rfl ?_
  refine j_iconst (v := 0) x dX6_meetingOf_1 (by decide) ?_
  refine j2_puti (k := 19) x hb dX6_meetingOf_2 jc_10 wfX6_36 (by decide) rfl rfl rfl rfl ?_
  refine j_aload_n x dX6_meetingOf_5 rfl ?_
  refine j_iload_n x dX6_meetingOf_6 rfl ?_
  refine j2_callVi x hb dX6_meetingOf_7 m_X6_isMeeting (CM_v (cx_isMeeting (d := d) hb) (jb_t ⟨nI_pos (by omega), by rw [jm_n (by omega), hct, show (nI n - 1 : Int32) = nI (n - 1) from nI_sub (d := 1) (by omega)]; exact nI_nlt (by omega) (by omega)⟩)) wmX6_122 jc_10 rfl rfl rfl (Nat.le_of_ble_eq_true rfl) (j_fit_rm (by omega) (by omega) (by omega)) rfl ?_
  refine j_if_ne (tgt := 19) x dX6_meetingOf_10 (by decide) (fun hc => ?_) (fun hc => absurd hc (by decide))
  refine j_iload_n x dX6_meetingOf_19 rfl ?_
  refine j_tableOut (tgt := 122) x dX6_meetingOf_20 hx (by decide) ?_
  refine j_aload_n x dX6_meetingOf_122 rfl ?_
  refine j_iconst (v := 2) x dX6_meetingOf_123 (by decide) ?_
  refine j2_callVi x hb dX6_meetingOf_124 m_X6_raises (cx_raises (d := d) hb) wmX6_61 jc_10 rfl rfl rfl (Nat.le_of_ble_eq_true rfl) (j_fit_rm (by omega) (by omega) (by omega)) rfl ?_
  exact j_ireturn x hr dX6_meetingOf_127 (by omega) (by omega) ⟨rfl, rfl⟩
def gRun (M : MM) (t : Int32) : Nat → Int32 × Int32
  | 0 => (0, 0)
  | m + 1 => if ¬ jof M m 4 = 1 then gRun M t m else if ¬ (jof M m 0 = t ∨ jof M m 1 = t) then gRun M t m else
    let g : Int32 := if (if jof M m 0 = t then jb (¬ 0 ≤ jof M m 6 - jof M m 7) else jb (¬ jof M m 6 - jof M m 7 ≤ 0)) = 0 then (gRun M t m).2 + 1 else 0
    ((if (gRun M t m).1 < g then g else (gRun M t m).1), g)
theorem cx_run {d : Nat} {b : SBt} {Y : OUt} {M : MM} (hb : 104 ≤ b.2.1) {t : Int32} (hT : ¬ t < 0 ∧ ¬ M 95 0 - 1 < t) {n : Nat} (hn : n ≤ 56) (hct : M 95 9 = nI n) : CM (d + 3) 0 0 yX6_run cX6_run 8 (some .int) [.ref 94, .int t] b Y M (.inl (some (.int ((gRun (jm M 94 19 0) t n).1)))) ((jm M 94 19 0)) := by
  refine Con.of (by decide +kernel) (Nat.le_of_ble_eq_true rfl) rfl fun p l e s m args below meth c D tyc A ad0 x hr htab hname => ?_
  change JJ _ _ _ _ _ _ _ _ _ _ _ _ _ _ _ _ _ 0 [some (.ref 94), some (.int t), none, none, none, none, none, none] [] _ 0 0
  refine j_aload_n x dX6_run_0 rfl ?_
  refine j_iconst (v := 0) x dX6_run_1 (by decide) ?_
  refine j2_puti (k := 19) x hb dX6_run_2 jc_10 wfX6_36 (by decide) rfl rfl rfl rfl ?_
  refine j_aload_n x dX6_run_5 rfl ?_
  refine j_iload_n x dX6_run_6 rfl ?_
  refine j2_callVi x hb dX6_run_7 m_X6_isTeam (CM_v (cx_isTeam (d := d) hb) (jb_t (by rw [jm_n (by omega)]; exact hT))) wmX6_91 jc_10 rfl rfl rfl (Nat.le_of_ble_eq_true rfl) (j_fit_rm (by omega) (by omega) (by omega)) rfl ?_
  refine j_if_ne (tgt := 19) x dX6_run_10 (by decide) (fun hc => ?_) (fun hc => absurd hc (by decide))
  refine j_iconst (v := 0) x dX6_run_19 (by decide) ?_
  refine j_istore_n x dX6_run_20 (by decide) rfl ?_
  refine j_iconst (v := 0) x dX6_run_21 (by decide) ?_
  refine j_istore_n x dX6_run_22 (by decide) rfl ?_
  refine j_iconst (v := 0) x dX6_run_23 (by decide) ?_
  refine j_istore x dX6_run_24 (by decide) rfl ?_
  refine j_for (n) (fun z0 => [some (.ref 94), some (.int t), some (.int (gRun (jm M 94 19 0) t z0).1), some (.int (gRun (jm M 94 19 0) t z0).2), some (.int (nI z0)), none, none, none]) (fun z0 => (jm M 94 19 0)) (fun z0 => True) (rfl) (rfl) (trivial) (fun j hj hP ih => ?_) (fun hP => ?_)
  · refine j_iload x dX6_run_26 rfl ?_
    refine j_aload_n x dX6_run_28 rfl ?_
    refine j2_getr (k := 0) (r := 95) x hb dX6_run_29 jc_10 wfX6_9 (by decide) rfl ?_
    refine j_bipush (v := 9) x dX6_run_32 (by decide) ?_
    refine j2_ialn x hb dX6_run_34 fa_95 (j := 9) (vp_c (by decide)) (by decide) ?_; rw [jm_n (by omega), hct]
    refine j_icmp_ge (tgt := 158) x dX6_run_35 (by decide) (fun hc => absurd hc (nI_ge hj (by omega))) (fun hc => ?_)
    refine j_aload_n x dX6_run_38 rfl ?_
    refine j_iload x dX6_run_39 rfl ?_
    refine j_iconst (v := 0) x dX6_run_41 (by decide) ?_
    refine j2_callVi x hb dX6_run_42 m_X6_of (cx_of (d := d) hb (m1 := j) (w1 := 0) (by omega) (by decide)) wmX6_68 jc_10 rfl rfl rfl (Nat.le_of_ble_eq_true rfl) (j_fit_rm (by omega) (by omega) (by omega)) rfl ?_
    refine j_iload_n x dX6_run_45 rfl ?_
    refine j_icmp_ne (tgt := 53) x dX6_run_46 (by decide) (fun hA => ?_) (fun hA => ?_)
    · refine j_iconst (v := 0) x dX6_run_53 (by decide) ?_
      refine j_istore x dX6_run_54 (by decide) rfl ?_
      refine j_aload_n x dX6_run_56 rfl ?_
      refine j_iload x dX6_run_57 rfl ?_
      refine j2_callVi x hb dX6_run_59 m_X6_isPlayed (cx_isPlayed (d := d) hb (m1 := j) (by omega)) wmX6_72 jc_10 rfl rfl rfl (Nat.le_of_ble_eq_true rfl) (j_fit_rm (by omega) (by omega) (by omega)) rfl ?_
      refine j_if_eq (tgt := 152) x dX6_run_62 (by decide) (fun h1 => ?_) (fun h1 => ?_)
      · refine j_iinc x dX6_run_152 rfl (by decide) rfl ?_
        refine j_goto (tgt := 26) x dX6_run_155 (by decide) ?_
        exact j_goal (ih (trivial)) (wk_c rfl (wk_c rfl (wk_c (congrArg (fun z => some (Value.int z)) (show _ = (gRun (jm M 94 19 0) t (j + 1)).1 by simp [gRun, jb_0.mp h1])) (wk_c (congrArg (fun z => some (Value.int z)) (show _ = (gRun (jm M 94 19 0) t (j + 1)).2 by simp [gRun, jb_0.mp h1])) (wk_c (congrArg (fun z => some (Value.int z)) (nI_1 _)) (wk_n (wk_n (wk_n (wk_0))))))))) (rfl)
      · refine j_iload x dX6_run_65 rfl ?_
        refine j_if_ne (tgt := 84) x dX6_run_67 (by decide) (fun hc => absurd hc (fun q => q rfl)) (fun hc => ?_)
        refine j_aload_n x dX6_run_70 rfl ?_
        refine j_iload x dX6_run_71 rfl ?_
        refine j_iconst (v := 1) x dX6_run_73 (by decide) ?_
        refine j2_callVi x hb dX6_run_74 m_X6_of (cx_of (d := d) hb (m1 := j) (w1 := 1) (by omega) (by decide)) wmX6_68 jc_10 rfl rfl rfl (Nat.le_of_ble_eq_true rfl) (j_fit_rm (by omega) (by omega) (by omega)) rfl ?_
        refine j_iload_n x dX6_run_77 rfl ?_
        refine j_icmp_eq (tgt := 84) x dX6_run_78 (by decide) (fun hB => ?_) (fun hB => ?_)
        · refine j_aload_n x dX6_run_84 rfl ?_
          refine j_iload x dX6_run_85 rfl ?_
          refine j_bipush (v := 6) x dX6_run_87 (by decide) ?_
          refine j2_callVi x hb dX6_run_89 m_X6_of (cx_of (d := d) hb (m1 := j) (w1 := 6) (by omega) (by decide)) wmX6_68 jc_10 rfl rfl rfl (Nat.le_of_ble_eq_true rfl) (j_fit_rm (by omega) (by omega) (by omega)) rfl ?_
          refine j_aload_n x dX6_run_92 rfl ?_
          refine j_iload x dX6_run_93 rfl ?_
          refine j_bipush (v := 7) x dX6_run_95 (by decide) ?_
          refine j2_callVi x hb dX6_run_97 m_X6_of (cx_of (d := d) hb (m1 := j) (w1 := 7) (by omega) (by decide)) wmX6_68 jc_10 rfl rfl rfl (Nat.le_of_ble_eq_true rfl) (j_fit_rm (by omega) (by omega) (by omega)) rfl ?_
          refine j_isub x dX6_run_100 ?_
          refine j_istore x dX6_run_101 (by decide) rfl ?_
          refine j_iload x dX6_run_103 rfl ?_
          refine j_if_eq (tgt := 121) x dX6_run_105 (by decide) (fun hc => ?_) (fun hc => absurd (rfl) hc)
          refine j_iload x dX6_run_121 rfl ?_
          refine j_if_le (tgt := 130) x dX6_run_123 (by decide) (fun g1 => ?_) (fun g1 => ?_)
          · refine j_iconst (v := 0) x dX6_run_130 (by decide) ?_
            refine j_istore x dX6_run_131 (by decide) rfl ?_
            refine j_iload x dX6_run_133 rfl ?_
            refine j_if_eq (tgt := 142) x dX6_run_135 (by decide) (fun hc => ?_) (fun hc => absurd (rfl) hc)
            refine j_iload_n x dX6_run_142 rfl ?_
            refine j_iconst (v := 1) x dX6_run_143 (by decide) ?_
            refine j_iadd x dX6_run_144 ?_
            refine j_istore_n x dX6_run_145 (by decide) rfl ?_
            refine j_iload_n x dX6_run_146 rfl ?_
            refine j_iload_n x dX6_run_147 rfl ?_
            refine j_max x wmath dX6_run_148 wmX6_182 (Nat.le_of_ble_eq_true rfl) (Nat.zero_le _) (Nat.zero_le _) ?_
            refine j_istore_n x dX6_run_151 (by decide) rfl ?_
            refine j_iinc x dX6_run_152 rfl (by decide) rfl ?_
            refine j_goto (tgt := 26) x dX6_run_155 (by decide) ?_
            exact j_goal (ih (trivial)) (wk_c rfl (wk_c rfl (wk_c (congrArg (fun z => some (Value.int z)) (show _ = (gRun (jm M 94 19 0) t (j + 1)).1 by simp [gRun, jb_nz.mp h1, hA, hB, jb, g1])) (wk_c (congrArg (fun z => some (Value.int z)) (show _ = (gRun (jm M 94 19 0) t (j + 1)).2 by simp [gRun, jb_nz.mp h1, hA, hB, jb, g1])) (wk_c (congrArg (fun z => some (Value.int z)) (nI_1 _)) (wk_n (wk_n (wk_n (wk_0))))))))) (rfl)
          · refine j_iconst (v := 1) x dX6_run_126 (by decide) ?_
            refine j_goto (tgt := 131) x dX6_run_127 (by decide) ?_
            refine j_istore x dX6_run_131 (by decide) rfl ?_
            refine j_iload x dX6_run_133 rfl ?_
            refine j_if_eq (tgt := 142) x dX6_run_135 (by decide) (fun hc => absurd hc (by decide)) (fun hc => ?_)
            refine j_iconst (v := 0) x dX6_run_138 (by decide) ?_
            refine j_goto (tgt := 145) x dX6_run_139 (by decide) ?_
            refine j_istore_n x dX6_run_145 (by decide) rfl ?_
            refine j_iload_n x dX6_run_146 rfl ?_
            refine j_iload_n x dX6_run_147 rfl ?_
            refine j_max x wmath dX6_run_148 wmX6_182 (Nat.le_of_ble_eq_true rfl) (Nat.zero_le _) (Nat.zero_le _) ?_
            refine j_istore_n x dX6_run_151 (by decide) rfl ?_
            refine j_iinc x dX6_run_152 rfl (by decide) rfl ?_
            refine j_goto (tgt := 26) x dX6_run_155 (by decide) ?_
            exact j_goal (ih (trivial)) (wk_c rfl (wk_c rfl (wk_c (congrArg (fun z => some (Value.int z)) (show _ = (gRun (jm M 94 19 0) t (j + 1)).1 by simp [gRun, jb_nz.mp h1, hA, hB, jb, g1])) (wk_c (congrArg (fun z => some (Value.int z)) (show _ = (gRun (jm M 94 19 0) t (j + 1)).2 by simp [gRun, jb_nz.mp h1, hA, hB, jb, g1])) (wk_c (congrArg (fun z => some (Value.int z)) (nI_1 _)) (wk_n (wk_n (wk_n (wk_0))))))))) (rfl)
        · refine j_goto (tgt := 152) x dX6_run_81 (by decide) ?_
          refine j_iinc x dX6_run_152 rfl (by decide) rfl ?_
          refine j_goto (tgt := 26) x dX6_run_155 (by decide) ?_
          exact j_goal (ih (trivial)) (wk_c rfl (wk_c rfl (wk_c (congrArg (fun z => some (Value.int z)) (show _ = (gRun (jm M 94 19 0) t (j + 1)).1 by simp [gRun, jb_nz.mp h1, hA, hB])) (wk_c (congrArg (fun z => some (Value.int z)) (show _ = (gRun (jm M 94 19 0) t (j + 1)).2 by simp [gRun, jb_nz.mp h1, hA, hB])) (wk_c (congrArg (fun z => some (Value.int z)) (nI_1 _)) (wk_n (wk_n (wk_n (wk_0))))))))) (rfl)
    · refine j_iconst (v := 1) x dX6_run_49 (by decide) ?_
      refine j_goto (tgt := 54) x dX6_run_50 (by decide) ?_
      refine j_istore x dX6_run_54 (by decide) rfl ?_
      refine j_aload_n x dX6_run_56 rfl ?_
      refine j_iload x dX6_run_57 rfl ?_
      refine j2_callVi x hb dX6_run_59 m_X6_isPlayed (cx_isPlayed (d := d) hb (m1 := j) (by omega)) wmX6_72 jc_10 rfl rfl rfl (Nat.le_of_ble_eq_true rfl) (j_fit_rm (by omega) (by omega) (by omega)) rfl ?_
      refine j_if_eq (tgt := 152) x dX6_run_62 (by decide) (fun h1 => ?_) (fun h1 => ?_)
      · refine j_iinc x dX6_run_152 rfl (by decide) rfl ?_
        refine j_goto (tgt := 26) x dX6_run_155 (by decide) ?_
        exact j_goal (ih (trivial)) (wk_c rfl (wk_c rfl (wk_c (congrArg (fun z => some (Value.int z)) (show _ = (gRun (jm M 94 19 0) t (j + 1)).1 by simp [gRun, jb_0.mp h1])) (wk_c (congrArg (fun z => some (Value.int z)) (show _ = (gRun (jm M 94 19 0) t (j + 1)).2 by simp [gRun, jb_0.mp h1])) (wk_c (congrArg (fun z => some (Value.int z)) (nI_1 _)) (wk_n (wk_n (wk_n (wk_0))))))))) (rfl)
      · refine j_iload x dX6_run_65 rfl ?_
        refine j_if_ne (tgt := 84) x dX6_run_67 (by decide) (fun hc => ?_) (fun hc => absurd hc (by decide))
        refine j_aload_n x dX6_run_84 rfl ?_
        refine j_iload x dX6_run_85 rfl ?_
        refine j_bipush (v := 6) x dX6_run_87 (by decide) ?_
        refine j2_callVi x hb dX6_run_89 m_X6_of (cx_of (d := d) hb (m1 := j) (w1 := 6) (by omega) (by decide)) wmX6_68 jc_10 rfl rfl rfl (Nat.le_of_ble_eq_true rfl) (j_fit_rm (by omega) (by omega) (by omega)) rfl ?_
        refine j_aload_n x dX6_run_92 rfl ?_
        refine j_iload x dX6_run_93 rfl ?_
        refine j_bipush (v := 7) x dX6_run_95 (by decide) ?_
        refine j2_callVi x hb dX6_run_97 m_X6_of (cx_of (d := d) hb (m1 := j) (w1 := 7) (by omega) (by decide)) wmX6_68 jc_10 rfl rfl rfl (Nat.le_of_ble_eq_true rfl) (j_fit_rm (by omega) (by omega) (by omega)) rfl ?_
        refine j_isub x dX6_run_100 ?_
        refine j_istore x dX6_run_101 (by decide) rfl ?_
        refine j_iload x dX6_run_103 rfl ?_
        refine j_if_eq (tgt := 121) x dX6_run_105 (by decide) (fun hc => absurd hc (by decide)) (fun hc => ?_)
        refine j_iload x dX6_run_108 rfl ?_
        refine j_if_ge (tgt := 117) x dX6_run_110 (by decide) (fun g1 => ?_) (fun g1 => ?_)
        · refine j_iconst (v := 0) x dX6_run_117 (by decide) ?_
          refine j_goto (tgt := 131) x dX6_run_118 (by decide) ?_
          refine j_istore x dX6_run_131 (by decide) rfl ?_
          refine j_iload x dX6_run_133 rfl ?_
          refine j_if_eq (tgt := 142) x dX6_run_135 (by decide) (fun hc => ?_) (fun hc => absurd (rfl) hc)
          refine j_iload_n x dX6_run_142 rfl ?_
          refine j_iconst (v := 1) x dX6_run_143 (by decide) ?_
          refine j_iadd x dX6_run_144 ?_
          refine j_istore_n x dX6_run_145 (by decide) rfl ?_
          refine j_iload_n x dX6_run_146 rfl ?_
          refine j_iload_n x dX6_run_147 rfl ?_
          refine j_max x wmath dX6_run_148 wmX6_182 (Nat.le_of_ble_eq_true rfl) (Nat.zero_le _) (Nat.zero_le _) ?_
          refine j_istore_n x dX6_run_151 (by decide) rfl ?_
          refine j_iinc x dX6_run_152 rfl (by decide) rfl ?_
          refine j_goto (tgt := 26) x dX6_run_155 (by decide) ?_
          exact j_goal (ih (trivial)) (wk_c rfl (wk_c rfl (wk_c (congrArg (fun z => some (Value.int z)) (show _ = (gRun (jm M 94 19 0) t (j + 1)).1 by simp [gRun, jb_nz.mp h1, hA, jb, g1])) (wk_c (congrArg (fun z => some (Value.int z)) (show _ = (gRun (jm M 94 19 0) t (j + 1)).2 by simp [gRun, jb_nz.mp h1, hA, jb, g1])) (wk_c (congrArg (fun z => some (Value.int z)) (nI_1 _)) (wk_n (wk_n (wk_n (wk_0))))))))) (rfl)
        · refine j_iconst (v := 1) x dX6_run_113 (by decide) ?_
          refine j_goto (tgt := 131) x dX6_run_114 (by decide) ?_
          refine j_istore x dX6_run_131 (by decide) rfl ?_
          refine j_iload x dX6_run_133 rfl ?_
          refine j_if_eq (tgt := 142) x dX6_run_135 (by decide) (fun hc => absurd hc (by decide)) (fun hc => ?_)
          refine j_iconst (v := 0) x dX6_run_138 (by decide) ?_
          refine j_goto (tgt := 145) x dX6_run_139 (by decide) ?_
          refine j_istore_n x dX6_run_145 (by decide) rfl ?_
          refine j_iload_n x dX6_run_146 rfl ?_
          refine j_iload_n x dX6_run_147 rfl ?_
          refine j_max x wmath dX6_run_148 wmX6_182 (Nat.le_of_ble_eq_true rfl) (Nat.zero_le _) (Nat.zero_le _) ?_
          refine j_istore_n x dX6_run_151 (by decide) rfl ?_
          refine j_iinc x dX6_run_152 rfl (by decide) rfl ?_
          refine j_goto (tgt := 26) x dX6_run_155 (by decide) ?_
          exact j_goal (ih (trivial)) (wk_c rfl (wk_c rfl (wk_c (congrArg (fun z => some (Value.int z)) (show _ = (gRun (jm M 94 19 0) t (j + 1)).1 by simp [gRun, jb_nz.mp h1, hA, jb, g1])) (wk_c (congrArg (fun z => some (Value.int z)) (show _ = (gRun (jm M 94 19 0) t (j + 1)).2 by simp [gRun, jb_nz.mp h1, hA, jb, g1])) (wk_c (congrArg (fun z => some (Value.int z)) (nI_1 _)) (wk_n (wk_n (wk_n (wk_0))))))))) (rfl)
  refine j_iload x dX6_run_26 rfl ?_
  refine j_aload_n x dX6_run_28 rfl ?_
  refine j2_getr (k := 0) (r := 95) x hb dX6_run_29 jc_10 wfX6_9 (by decide) rfl ?_
  refine j_bipush (v := 9) x dX6_run_32 (by decide) ?_
  refine j2_ialn x hb dX6_run_34 fa_95 (j := 9) (vp_c (by decide)) (by decide) ?_; rw [jm_n (by omega), hct]
  refine j_icmp_ge (tgt := 158) x dX6_run_35 (by decide) (fun hc => ?_) (fun hc => absurd (nI_le (Nat.le_refl _) (by omega)) hc)
  refine j_iload_n x dX6_run_158 rfl ?_
  exact j_ireturn x hr dX6_run_159 (by omega) (by omega) ⟨rfl, rfl⟩
end

section
/-! ===== the reference: accounts, means ===== -/
def gGoals (M : MM) (m : Nat) : Int32 := if jof M m 4 = 1 then jof M m 6 + jof M m 7 else 0
theorem cx_goals {d : Nat} {b : SBt} {Y : OUt} {M : MM} (hb : 104 ≤ b.2.1) {n : Nat} (hn : n ≤ 56) (hct : M 95 9 = nI n) : CM (d + 2) 0 0 yX6_goals cX6_goals 3 (some .int) [.ref 94] b Y M (.inl (some (.int (jsum (gGoals M) n)))) (M) := by
  refine Con.of (by decide +kernel) (Nat.le_of_ble_eq_true rfl) rfl fun p l e s m args below meth c D tyc A ad0 x hr htab hname => ?_
  change JJ _ _ _ _ _ _ _ _ _ _ _ _ _ _ _ _ _ 0 [some (.ref 94), none, none] [] _ 0 0
  refine j_iconst (v := 0) x dX6_goals_0 (by decide) ?_
  refine j_istore_n x dX6_goals_1 (by decide) rfl ?_
  refine j_iconst (v := 0) x dX6_goals_2 (by decide) ?_
  refine j_istore_n x dX6_goals_3 (by decide) rfl ?_
  refine j_for (n) (fun z0 => [some (.ref 94), some (.int (jsum (gGoals M) z0)), some (.int (nI z0))]) (fun z0 => M) (fun z0 => True) (rfl) (rfl) (trivial) (fun j hj hP ih => ?_) (fun hP => ?_)
  · refine j_iload_n x dX6_goals_4 rfl ?_
    refine j_aload_n x dX6_goals_5 rfl ?_
    refine j2_getr (k := 0) (r := 95) x hb dX6_goals_6 jc_10 wfX6_9 (by decide) rfl ?_
    refine j_bipush (v := 9) x dX6_goals_9 (by decide) ?_
    refine j2_ialn x hb dX6_goals_11 fa_95 (j := 9) (vp_c (by decide)) (by decide) ?_; rw [hct]
    refine j_icmp_ge (tgt := 47) x dX6_goals_12 (by decide) (fun hc => absurd hc (nI_ge hj (by omega))) (fun hc => ?_)
    refine j_aload_n x dX6_goals_15 rfl ?_
    refine j_iload_n x dX6_goals_16 rfl ?_
    refine j2_callVi x hb dX6_goals_17 m_X6_isPlayed (cx_isPlayed (d := d) hb (m1 := j) (by omega)) wmX6_72 jc_10 rfl rfl rfl (Nat.le_of_ble_eq_true rfl) (j_fit_rm (by omega) (by omega) (by omega)) rfl ?_
    refine j_if_eq (tgt := 41) x dX6_goals_20 (by decide) (fun h1 => ?_) (fun h1 => ?_)
    · refine j_iinc x dX6_goals_41 rfl (by decide) rfl ?_
      refine j_goto (tgt := 4) x dX6_goals_44 (by decide) ?_
      exact j_goal (ih (trivial)) (wk_c rfl (wk_c (congrArg (fun z => some (Value.int z)) (jsum_f (if_neg (jb_0.mp h1)))) (wk_c (congrArg (fun z => some (Value.int z)) (nI_1 _)) (wk_0)))) (rfl)
    · refine j_iload_n x dX6_goals_23 rfl ?_
      refine j_aload_n x dX6_goals_24 rfl ?_
      refine j_iload_n x dX6_goals_25 rfl ?_
      refine j_bipush (v := 6) x dX6_goals_26 (by decide) ?_
      refine j2_callVi x hb dX6_goals_28 m_X6_of (cx_of (d := d) hb (m1 := j) (w1 := 6) (by omega) (by decide)) wmX6_68 jc_10 rfl rfl rfl (Nat.le_of_ble_eq_true rfl) (j_fit_rm (by omega) (by omega) (by omega)) rfl ?_
      refine j_aload_n x dX6_goals_31 rfl ?_
      refine j_iload_n x dX6_goals_32 rfl ?_
      refine j_bipush (v := 7) x dX6_goals_33 (by decide) ?_
      refine j2_callVi x hb dX6_goals_35 m_X6_of (cx_of (d := d) hb (m1 := j) (w1 := 7) (by omega) (by decide)) wmX6_68 jc_10 rfl rfl rfl (Nat.le_of_ble_eq_true rfl) (j_fit_rm (by omega) (by omega) (by omega)) rfl ?_
      refine j_iadd x dX6_goals_38 ?_
      refine j_iadd x dX6_goals_39 ?_
      refine j_istore_n x dX6_goals_40 (by decide) rfl ?_
      refine j_iinc x dX6_goals_41 rfl (by decide) rfl ?_
      refine j_goto (tgt := 4) x dX6_goals_44 (by decide) ?_
      exact j_goal (ih (trivial)) (wk_c rfl (wk_c (congrArg (fun z => some (Value.int z)) (jsum_v (if_pos (jb_nz.mp h1)))) (wk_c (congrArg (fun z => some (Value.int z)) (nI_1 _)) (wk_0)))) (rfl)
  refine j_iload_n x dX6_goals_4 rfl ?_
  refine j_aload_n x dX6_goals_5 rfl ?_
  refine j2_getr (k := 0) (r := 95) x hb dX6_goals_6 jc_10 wfX6_9 (by decide) rfl ?_
  refine j_bipush (v := 9) x dX6_goals_9 (by decide) ?_
  refine j2_ialn x hb dX6_goals_11 fa_95 (j := 9) (vp_c (by decide)) (by decide) ?_; rw [hct]
  refine j_icmp_ge (tgt := 47) x dX6_goals_12 (by decide) (fun hc => ?_) (fun hc => absurd (nI_le (Nat.le_refl _) (by omega)) hc)
  refine j_iload_n x dX6_goals_47 rfl ?_
  exact j_ireturn x hr dX6_goals_48 (by omega) (by omega) ⟨rfl, rfl⟩
theorem cx_meanGoals_no {d : Nat} {b : SBt} {Y : OUt} {M : MM} (hb : 104 ≤ b.2.1) {n : Nat} (hn : n ≤ 56) (hct : M 95 9 = nI n) (h : jsum (fun m => jof (jm M 94 19 0) m 4) n = 0) : CM (d + 2) 0 0 yX6_meanGoals cX6_meanGoals 1 (some .float) [.ref 94] b Y M (.inl (some (.float (FP.i2f 0)))) (jrai (jm M 94 19 0) 1) := by
  refine Con.of (by decide +kernel) (Nat.le_of_ble_eq_true rfl) rfl fun p l e s m args below meth c D tyc A ad0 x hr htab hname => ?_
  change JJ _ _ _ _ _ _ _ _ _ _ _ _ _ _ _ _ _ 0 [some (.ref 94)] [] _ 0 0
  refine j_aload_n x dX6_meanGoals_0 rfl ?_
  refine j_iconst (v := 0) x dX6_meanGoals_1 (by decide) ?_
  refine j2_puti (k := 19) x hb dX6_meanGoals_2 jc_10 wfX6_36 (by decide) rfl rfl rfl rfl ?_
  refine j_aload_n x dX6_meanGoals_5 rfl ?_
  refine j2_callVi x hb dX6_meanGoals_6 m_X6_played (cx_played (d := d) hb hn (by rw [jm_n (by omega)]; exact hct)) wmX6_113 jc_10 rfl rfl rfl (Nat.le_of_ble_eq_true rfl) (j_fit_rm (by omega) (by omega) (by omega)) rfl ?_
  refine j_if_ne (tgt := 21) x dX6_meanGoals_9 (by decide) (fun hc => absurd hc (fun q => q h)) (fun hc => ?_)
  refine j_aload_n x dX6_meanGoals_12 rfl ?_
  refine j_iconst (v := 1) x dX6_meanGoals_13 (by decide) ?_
  refine j2_callVi x hb dX6_meanGoals_14 m_X6_raises (cx_raises (d := d) hb) wmX6_61 jc_10 rfl rfl rfl (Nat.le_of_ble_eq_true rfl) (j_fit_rm (by omega) (by omega) (by omega)) rfl ?_
  refine j_i2f x dX6_meanGoals_17 ?_
  refine j_goto (tgt := 32) x dX6_meanGoals_18 (by decide) ?_
  exact j_freturn x hr dX6_meanGoals_32 (by omega) (by omega) ⟨rfl, rfl⟩
theorem cx_homeShare_no {d : Nat} {b : SBt} {Y : OUt} {M : MM} (hb : 104 ≤ b.2.1) {n : Nat} (hn : n ≤ 56) (hct : M 95 9 = nI n) (h : jsum (fun m => jof (jm M 94 19 0) m 4) n = 0) : CM (d + 2) 0 0 yX6_homeShare cX6_homeShare 3 (some .double) [.ref 94] b Y M (.inl (some (.double (FP.i2d 0)))) (jrai (jm M 94 19 0) 1) := by
  refine Con.of (by decide +kernel) (Nat.le_of_ble_eq_true rfl) rfl fun p l e s m args below meth c D tyc A ad0 x hr htab hname => ?_
  change JJ _ _ _ _ _ _ _ _ _ _ _ _ _ _ _ _ _ 0 [some (.ref 94), none, none] [] _ 0 0
  refine j_aload_n x dX6_homeShare_0 rfl ?_
  refine j_iconst (v := 0) x dX6_homeShare_1 (by decide) ?_
  refine j2_puti (k := 19) x hb dX6_homeShare_2 jc_10 wfX6_36 (by decide) rfl rfl rfl rfl ?_
  refine j_aload_n x dX6_homeShare_5 rfl ?_
  refine j2_callVi x hb dX6_homeShare_6 m_X6_played (cx_played (d := d) hb hn (by rw [jm_n (by omega)]; exact hct)) wmX6_113 jc_10 rfl rfl rfl (Nat.le_of_ble_eq_true rfl) (j_fit_rm (by omega) (by omega) (by omega)) rfl ?_
  refine j_if_ne (tgt := 19) x dX6_homeShare_9 (by decide) (fun hc => absurd hc (fun q => q h)) (fun hc => ?_)
  refine j_aload_n x dX6_homeShare_12 rfl ?_
  refine j_iconst (v := 1) x dX6_homeShare_13 (by decide) ?_
  refine j2_callVi x hb dX6_homeShare_14 m_X6_raises (cx_raises (d := d) hb) wmX6_61 jc_10 rfl rfl rfl (Nat.le_of_ble_eq_true rfl) (j_fit_rm (by omega) (by omega) (by omega)) rfl ?_
  refine j_i2d x dX6_homeShare_17 ?_
  exact j_dreturn x hr dX6_homeShare_18 (by omega) (by omega) ⟨rfl, rfl⟩
theorem cx_account_q0 {d : Nat} {b : SBt} {Y : OUt} {M : MM} (hb : 104 ≤ b.2.1)  : CM (d + 3) 0 0 yX6_account cX6_account 4 (some .int) [.ref 94, .int 0] b Y M (.inl (some (.int ((jm M 94 19 0) 95 0)))) ((jm M 94 19 0)) := by
  refine Con.of (by decide +kernel) (Nat.le_of_ble_eq_true rfl) rfl fun p l e s m args below meth c D tyc A ad0 x hr htab hname => ?_
  change JJ _ _ _ _ _ _ _ _ _ _ _ _ _ _ _ _ _ 0 [some (.ref 94), some (.int 0), none, none] [] _ 0 0
  refine j_aload_n x dX6_account_0 rfl ?_
  refine j_iconst (v := 0) x dX6_account_1 (by decide) ?_
  refine j2_puti (k := 19) x hb dX6_account_2 jc_10 wfX6_36 (by decide) rfl rfl rfl rfl ?_
  refine j_iconst (v := 0) x dX6_account_5 (by decide) ?_
  refine j_istore_n x dX6_account_6 (by decide) rfl ?_
  refine j_iload_n x dX6_account_7 rfl ?_
  refine j_tableIn (tgt := 84) x dX6_account_8 (by decide) (by decide) rfl (by decide) ?_
  refine j_aload_n x dX6_account_84 rfl ?_
  refine j2_getr (k := 0) (r := 95) x hb dX6_account_85 jc_10 wfX6_9 (by decide) rfl ?_
  refine j_iconst (v := 0) x dX6_account_88 (by decide) ?_
  refine j2_ialn x hb dX6_account_89 fa_95 (j := 0) (vp_c (by decide)) (by decide) ?_
  exact j_ireturn x hr dX6_account_90 (by omega) (by omega) ⟨rfl, rfl⟩
theorem cx_account_q1 {d : Nat} {b : SBt} {Y : OUt} {M : MM} (hb : 104 ≤ b.2.1)  : CM (d + 3) 0 0 yX6_account cX6_account 4 (some .int) [.ref 94, .int 1] b Y M (.inl (some (.int (jb (¬ (jm M 94 19 0) 95 1 ≤ 0))))) ((jm M 94 19 0)) := by
  refine Con.of (by decide +kernel) (Nat.le_of_ble_eq_true rfl) rfl fun p l e s m args below meth c D tyc A ad0 x hr htab hname => ?_
  change JJ _ _ _ _ _ _ _ _ _ _ _ _ _ _ _ _ _ 0 [some (.ref 94), some (.int 1), none, none] [] _ 0 0
  refine j_aload_n x dX6_account_0 rfl ?_
  refine j_iconst (v := 0) x dX6_account_1 (by decide) ?_
  refine j2_puti (k := 19) x hb dX6_account_2 jc_10 wfX6_36 (by decide) rfl rfl rfl rfl ?_
  refine j_iconst (v := 0) x dX6_account_5 (by decide) ?_
  refine j_istore_n x dX6_account_6 (by decide) rfl ?_
  refine j_iload_n x dX6_account_7 rfl ?_
  refine j_tableIn (tgt := 91) x dX6_account_8 (by decide) (by decide) rfl (by decide) ?_
  refine j_aload_n x dX6_account_91 rfl ?_
  refine j2_callVi x hb dX6_account_92 m_X6_isDrawn (cx_isDrawn (d := d) hb) wmX6_87 jc_10 rfl rfl rfl (Nat.le_of_ble_eq_true rfl) (j_fit_rm (by omega) (by omega) (by omega)) rfl ?_
  refine j_if_eq (tgt := 102) x dX6_account_95 (by decide) (fun h9 => ?_) (fun h9 => ?_)
  · refine j_iconst (v := 0) x dX6_account_102 (by decide) ?_
    exact j_ireturn x hr dX6_account_103 (by omega) (by omega) ⟨by rw [jb_f (jb_0.mp h9)], rfl⟩
  · refine j_iconst (v := 1) x dX6_account_98 (by decide) ?_
    refine j_goto (tgt := 103) x dX6_account_99 (by decide) ?_
    exact j_ireturn x hr dX6_account_103 (by omega) (by omega) ⟨by rw [jb_t (jb_nz.mp h9)], rfl⟩
theorem cx_account_q2 {d : Nat} {b : SBt} {Y : OUt} {M : MM} (hb : 104 ≤ b.2.1)  : CM (d + 3) 0 0 yX6_account cX6_account 4 (some .int) [.ref 94, .int 2] b Y M (.inl (some (.int ((jm M 94 19 0) 95 1)))) ((jm M 94 19 0)) := by
  refine Con.of (by decide +kernel) (Nat.le_of_ble_eq_true rfl) rfl fun p l e s m args below meth c D tyc A ad0 x hr htab hname => ?_
  change JJ _ _ _ _ _ _ _ _ _ _ _ _ _ _ _ _ _ 0 [some (.ref 94), some (.int 2), none, none] [] _ 0 0
  refine j_aload_n x dX6_account_0 rfl ?_
  refine j_iconst (v := 0) x dX6_account_1 (by decide) ?_
  refine j2_puti (k := 19) x hb dX6_account_2 jc_10 wfX6_36 (by decide) rfl rfl rfl rfl ?_
  refine j_iconst (v := 0) x dX6_account_5 (by decide) ?_
  refine j_istore_n x dX6_account_6 (by decide) rfl ?_
  refine j_iload_n x dX6_account_7 rfl ?_
  refine j_tableIn (tgt := 104) x dX6_account_8 (by decide) (by decide) rfl (by decide) ?_
  refine j_aload_n x dX6_account_104 rfl ?_
  refine j2_getr (k := 0) (r := 95) x hb dX6_account_105 jc_10 wfX6_9 (by decide) rfl ?_
  refine j_iconst (v := 1) x dX6_account_108 (by decide) ?_
  refine j2_ialn x hb dX6_account_109 fa_95 (j := 1) (vp_c (by decide)) (by decide) ?_
  exact j_ireturn x hr dX6_account_110 (by omega) (by omega) ⟨rfl, rfl⟩
theorem cx_account_q3 {d : Nat} {b : SBt} {Y : OUt} {M : MM} (hb : 104 ≤ b.2.1)  : CM (d + 3) 0 0 yX6_account cX6_account 4 (some .int) [.ref 94, .int 3] b Y M (.inl (some (.int ((jm M 94 19 0) 95 2)))) ((jm M 94 19 0)) := by
  refine Con.of (by decide +kernel) (Nat.le_of_ble_eq_true rfl) rfl fun p l e s m args below meth c D tyc A ad0 x hr htab hname => ?_
  change JJ _ _ _ _ _ _ _ _ _ _ _ _ _ _ _ _ _ 0 [some (.ref 94), some (.int 3), none, none] [] _ 0 0
  refine j_aload_n x dX6_account_0 rfl ?_
  refine j_iconst (v := 0) x dX6_account_1 (by decide) ?_
  refine j2_puti (k := 19) x hb dX6_account_2 jc_10 wfX6_36 (by decide) rfl rfl rfl rfl ?_
  refine j_iconst (v := 0) x dX6_account_5 (by decide) ?_
  refine j_istore_n x dX6_account_6 (by decide) rfl ?_
  refine j_iload_n x dX6_account_7 rfl ?_
  refine j_tableIn (tgt := 111) x dX6_account_8 (by decide) (by decide) rfl (by decide) ?_
  refine j_aload_n x dX6_account_111 rfl ?_
  refine j2_getr (k := 0) (r := 95) x hb dX6_account_112 jc_10 wfX6_9 (by decide) rfl ?_
  refine j_iconst (v := 2) x dX6_account_115 (by decide) ?_
  refine j2_ialn x hb dX6_account_116 fa_95 (j := 2) (vp_c (by decide)) (by decide) ?_
  exact j_ireturn x hr dX6_account_117 (by omega) (by omega) ⟨rfl, rfl⟩
theorem cx_account_q4 {d : Nat} {b : SBt} {Y : OUt} {M : MM} (hb : 104 ≤ b.2.1)  : CM (d + 3) 0 0 yX6_account cX6_account 4 (some .int) [.ref 94, .int 4] b Y M (.inl (some (.int ((jm M 94 19 0) 95 9)))) ((jm M 94 19 0)) := by
  refine Con.of (by decide +kernel) (Nat.le_of_ble_eq_true rfl) rfl fun p l e s m args below meth c D tyc A ad0 x hr htab hname => ?_
  change JJ _ _ _ _ _ _ _ _ _ _ _ _ _ _ _ _ _ 0 [some (.ref 94), some (.int 4), none, none] [] _ 0 0
  refine j_aload_n x dX6_account_0 rfl ?_
  refine j_iconst (v := 0) x dX6_account_1 (by decide) ?_
  refine j2_puti (k := 19) x hb dX6_account_2 jc_10 wfX6_36 (by decide) rfl rfl rfl rfl ?_
  refine j_iconst (v := 0) x dX6_account_5 (by decide) ?_
  refine j_istore_n x dX6_account_6 (by decide) rfl ?_
  refine j_iload_n x dX6_account_7 rfl ?_
  refine j_tableIn (tgt := 118) x dX6_account_8 (by decide) (by decide) rfl (by decide) ?_
  refine j_aload_n x dX6_account_118 rfl ?_
  refine j2_getr (k := 0) (r := 95) x hb dX6_account_119 jc_10 wfX6_9 (by decide) rfl ?_
  refine j_bipush (v := 9) x dX6_account_122 (by decide) ?_
  refine j2_ialn x hb dX6_account_124 fa_95 (j := 9) (vp_c (by decide)) (by decide) ?_
  exact j_ireturn x hr dX6_account_125 (by omega) (by omega) ⟨rfl, rfl⟩
theorem cx_account_q5 {d : Nat} {b : SBt} {Y : OUt} {M : MM} (hb : 104 ≤ b.2.1) {n : Nat} (hn : n ≤ 56) (hct : M 95 9 = nI n) : CM (d + 3) 0 0 yX6_account cX6_account 4 (some .int) [.ref 94, .int 5] b Y M (.inl (some (.int (jsum (fun m => jof (jm M 94 19 0) m 4) n)))) ((jm M 94 19 0)) := by
  refine Con.of (by decide +kernel) (Nat.le_of_ble_eq_true rfl) rfl fun p l e s m args below meth c D tyc A ad0 x hr htab hname => ?_
  change JJ _ _ _ _ _ _ _ _ _ _ _ _ _ _ _ _ _ 0 [some (.ref 94), some (.int 5), none, none] [] _ 0 0
  refine j_aload_n x dX6_account_0 rfl ?_
  refine j_iconst (v := 0) x dX6_account_1 (by decide) ?_
  refine j2_puti (k := 19) x hb dX6_account_2 jc_10 wfX6_36 (by decide) rfl rfl rfl rfl ?_
  refine j_iconst (v := 0) x dX6_account_5 (by decide) ?_
  refine j_istore_n x dX6_account_6 (by decide) rfl ?_
  refine j_iload_n x dX6_account_7 rfl ?_
  refine j_tableIn (tgt := 126) x dX6_account_8 (by decide) (by decide) rfl (by decide) ?_
  refine j_aload_n x dX6_account_126 rfl ?_
  refine j2_callVi x hb dX6_account_127 m_X6_played (cx_played (d := d) hb hn (by rw [jm_n (by omega)]; exact hct)) wmX6_113 jc_10 rfl rfl rfl (Nat.le_of_ble_eq_true rfl) (j_fit_rm (by omega) (by omega) (by omega)) rfl ?_
  exact j_ireturn x hr dX6_account_130 (by omega) (by omega) ⟨rfl, rfl⟩
theorem cx_account_q7 {d : Nat} {b : SBt} {Y : OUt} {M : MM} (hb : 104 ≤ b.2.1)  : CM (d + 3) 0 0 yX6_account cX6_account 4 (some .int) [.ref 94, .int 7] b Y M (.inl (some (.int ((jm M 94 19 0) 95 3)))) ((jm M 94 19 0)) := by
  refine Con.of (by decide +kernel) (Nat.le_of_ble_eq_true rfl) rfl fun p l e s m args below meth c D tyc A ad0 x hr htab hname => ?_
  change JJ _ _ _ _ _ _ _ _ _ _ _ _ _ _ _ _ _ 0 [some (.ref 94), some (.int 7), none, none] [] _ 0 0
  refine j_aload_n x dX6_account_0 rfl ?_
  refine j_iconst (v := 0) x dX6_account_1 (by decide) ?_
  refine j2_puti (k := 19) x hb dX6_account_2 jc_10 wfX6_36 (by decide) rfl rfl rfl rfl ?_
  refine j_iconst (v := 0) x dX6_account_5 (by decide) ?_
  refine j_istore_n x dX6_account_6 (by decide) rfl ?_
  refine j_iload_n x dX6_account_7 rfl ?_
  refine j_tableIn (tgt := 164) x dX6_account_8 (by decide) (by decide) rfl (by decide) ?_
  refine j_aload_n x dX6_account_164 rfl ?_
  refine j2_getr (k := 0) (r := 95) x hb dX6_account_165 jc_10 wfX6_9 (by decide) rfl ?_
  refine j_iconst (v := 3) x dX6_account_168 (by decide) ?_
  refine j2_ialn x hb dX6_account_169 fa_95 (j := 3) (vp_c (by decide)) (by decide) ?_
  exact j_ireturn x hr dX6_account_170 (by omega) (by omega) ⟨rfl, rfl⟩
theorem cx_account_q8 {d : Nat} {b : SBt} {Y : OUt} {M : MM} (hb : 104 ≤ b.2.1)  : CM (d + 3) 0 0 yX6_account cX6_account 4 (some .int) [.ref 94, .int 8] b Y M (.inl (some (.int ((jm M 94 19 0) 95 4)))) ((jm M 94 19 0)) := by
  refine Con.of (by decide +kernel) (Nat.le_of_ble_eq_true rfl) rfl fun p l e s m args below meth c D tyc A ad0 x hr htab hname => ?_
  change JJ _ _ _ _ _ _ _ _ _ _ _ _ _ _ _ _ _ 0 [some (.ref 94), some (.int 8), none, none] [] _ 0 0
  refine j_aload_n x dX6_account_0 rfl ?_
  refine j_iconst (v := 0) x dX6_account_1 (by decide) ?_
  refine j2_puti (k := 19) x hb dX6_account_2 jc_10 wfX6_36 (by decide) rfl rfl rfl rfl ?_
  refine j_iconst (v := 0) x dX6_account_5 (by decide) ?_
  refine j_istore_n x dX6_account_6 (by decide) rfl ?_
  refine j_iload_n x dX6_account_7 rfl ?_
  refine j_tableIn (tgt := 171) x dX6_account_8 (by decide) (by decide) rfl (by decide) ?_
  refine j_aload_n x dX6_account_171 rfl ?_
  refine j2_getr (k := 0) (r := 95) x hb dX6_account_172 jc_10 wfX6_9 (by decide) rfl ?_
  refine j_iconst (v := 4) x dX6_account_175 (by decide) ?_
  refine j2_ialn x hb dX6_account_176 fa_95 (j := 4) (vp_c (by decide)) (by decide) ?_
  exact j_ireturn x hr dX6_account_177 (by omega) (by omega) ⟨rfl, rfl⟩
theorem cx_account_q9 {d : Nat} {b : SBt} {Y : OUt} {M : MM} (hb : 104 ≤ b.2.1)  : CM (d + 3) 0 0 yX6_account cX6_account 4 (some .int) [.ref 94, .int 9] b Y M (.inl (some (.int ((jm M 94 19 0) 95 5)))) ((jm M 94 19 0)) := by
  refine Con.of (by decide +kernel) (Nat.le_of_ble_eq_true rfl) rfl fun p l e s m args below meth c D tyc A ad0 x hr htab hname => ?_
  change JJ _ _ _ _ _ _ _ _ _ _ _ _ _ _ _ _ _ 0 [some (.ref 94), some (.int 9), none, none] [] _ 0 0
  refine j_aload_n x dX6_account_0 rfl ?_
  refine j_iconst (v := 0) x dX6_account_1 (by decide) ?_
  refine j2_puti (k := 19) x hb dX6_account_2 jc_10 wfX6_36 (by decide) rfl rfl rfl rfl ?_
  refine j_iconst (v := 0) x dX6_account_5 (by decide) ?_
  refine j_istore_n x dX6_account_6 (by decide) rfl ?_
  refine j_iload_n x dX6_account_7 rfl ?_
  refine j_tableIn (tgt := 178) x dX6_account_8 (by decide) (by decide) rfl (by decide) ?_
  refine j_aload_n x dX6_account_178 rfl ?_
  refine j2_getr (k := 0) (r := 95) x hb dX6_account_179 jc_10 wfX6_9 (by decide) rfl ?_
  refine j_iconst (v := 5) x dX6_account_182 (by decide) ?_
  refine j2_ialn x hb dX6_account_183 fa_95 (j := 5) (vp_c (by decide)) (by decide) ?_
  exact j_ireturn x hr dX6_account_184 (by omega) (by omega) ⟨rfl, rfl⟩
theorem cx_account_q10 {d : Nat} {b : SBt} {Y : OUt} {M : MM} (hb : 104 ≤ b.2.1) {n : Nat} (hn : n ≤ 56) (hct : M 95 9 = nI n) : CM (d + 3) 0 0 yX6_account cX6_account 4 (some .int) [.ref 94, .int 10] b Y M (.inl (some (.int (jsum (gGoals (jm M 94 19 0)) n)))) ((jm M 94 19 0)) := by
  refine Con.of (by decide +kernel) (Nat.le_of_ble_eq_true rfl) rfl fun p l e s m args below meth c D tyc A ad0 x hr htab hname => ?_
  change JJ _ _ _ _ _ _ _ _ _ _ _ _ _ _ _ _ _ 0 [some (.ref 94), some (.int 10), none, none] [] _ 0 0
  refine j_aload_n x dX6_account_0 rfl ?_
  refine j_iconst (v := 0) x dX6_account_1 (by decide) ?_
  refine j2_puti (k := 19) x hb dX6_account_2 jc_10 wfX6_36 (by decide) rfl rfl rfl rfl ?_
  refine j_iconst (v := 0) x dX6_account_5 (by decide) ?_
  refine j_istore_n x dX6_account_6 (by decide) rfl ?_
  refine j_iload_n x dX6_account_7 rfl ?_
  refine j_tableIn (tgt := 185) x dX6_account_8 (by decide) (by decide) rfl (by decide) ?_
  refine j_aload_n x dX6_account_185 rfl ?_
  refine j2_callVi x hb dX6_account_186 m_X6_goals (cx_goals (d := d) hb hn (by rw [jm_n (by omega)]; exact hct)) wmX6_221 jc_10 rfl rfl rfl (Nat.le_of_ble_eq_true rfl) (j_fit_rm (by omega) (by omega) (by omega)) rfl ?_
  exact j_ireturn x hr dX6_account_189 (by omega) (by omega) ⟨rfl, rfl⟩
theorem cx_account_q13 {d : Nat} {b : SBt} {Y : OUt} {M : MM} (hb : 104 ≤ b.2.1)  : CM (d + 3) 0 0 yX6_account cX6_account 4 (some .int) [.ref 94, .int 13] b Y M (.inl (some (.int ((jm M 94 19 0) 94 3)))) ((jm M 94 19 0)) := by
  refine Con.of (by decide +kernel) (Nat.le_of_ble_eq_true rfl) rfl fun p l e s m args below meth c D tyc A ad0 x hr htab hname => ?_
  change JJ _ _ _ _ _ _ _ _ _ _ _ _ _ _ _ _ _ 0 [some (.ref 94), some (.int 13), none, none] [] _ 0 0
  refine j_aload_n x dX6_account_0 rfl ?_
  refine j_iconst (v := 0) x dX6_account_1 (by decide) ?_
  refine j2_puti (k := 19) x hb dX6_account_2 jc_10 wfX6_36 (by decide) rfl rfl rfl rfl ?_
  refine j_iconst (v := 0) x dX6_account_5 (by decide) ?_
  refine j_istore_n x dX6_account_6 (by decide) rfl ?_
  refine j_iload_n x dX6_account_7 rfl ?_
  refine j_tableIn (tgt := 247) x dX6_account_8 (by decide) (by decide) rfl (by decide) ?_
  refine j_aload_n x dX6_account_247 rfl ?_
  refine j2_geti (k := 3) x hb dX6_account_248 jc_10 wfX6_42 (by decide) rfl ?_
  exact j_ireturn x hr dX6_account_251 (by omega) (by omega) ⟨rfl, rfl⟩
theorem cx_account_q14 {d : Nat} {b : SBt} {Y : OUt} {M : MM} (hb : 104 ≤ b.2.1)  : CM (d + 3) 0 0 yX6_account cX6_account 4 (some .int) [.ref 94, .int 14] b Y M (.inl (some (.int ((jm M 94 19 0) 94 9)))) ((jm M 94 19 0)) := by
  refine Con.of (by decide +kernel) (Nat.le_of_ble_eq_true rfl) rfl fun p l e s m args below meth c D tyc A ad0 x hr htab hname => ?_
  change JJ _ _ _ _ _ _ _ _ _ _ _ _ _ _ _ _ _ 0 [some (.ref 94), some (.int 14), none, none] [] _ 0 0
  refine j_aload_n x dX6_account_0 rfl ?_
  refine j_iconst (v := 0) x dX6_account_1 (by decide) ?_
  refine j2_puti (k := 19) x hb dX6_account_2 jc_10 wfX6_36 (by decide) rfl rfl rfl rfl ?_
  refine j_iconst (v := 0) x dX6_account_5 (by decide) ?_
  refine j_istore_n x dX6_account_6 (by decide) rfl ?_
  refine j_iload_n x dX6_account_7 rfl ?_
  refine j_tableIn (tgt := 252) x dX6_account_8 (by decide) (by decide) rfl (by decide) ?_
  refine j_aload_n x dX6_account_252 rfl ?_
  refine j2_geti (k := 9) x hb dX6_account_253 jc_10 wfX6_185 (by decide) rfl ?_
  exact j_ireturn x hr dX6_account_256 (by omega) (by omega) ⟨rfl, rfl⟩
def gPutC (M : MM) (m : Nat) : Int32 := jb (jhow M m = 2)
theorem cx_account_q6 {d : Nat} {b : SBt} {Y : OUt} {M : MM} (hb : 104 ≤ b.2.1) {n : Nat} (hn : n ≤ 56) (hct : M 95 9 = nI n) : CM (d + 3) 0 0 yX6_account cX6_account 4 (some .int) [.ref 94, .int 6] b Y M (.inl (some (.int (jsum (gPutC (jm M 94 19 0)) n)))) ((jm M 94 19 0)) := by
  refine Con.of (by decide +kernel) (Nat.le_of_ble_eq_true rfl) rfl fun p l e s m args below meth c D tyc A ad0 x hr htab hname => ?_
  change JJ _ _ _ _ _ _ _ _ _ _ _ _ _ _ _ _ _ 0 [some (.ref 94), some (.int 6), none, none] [] _ 0 0
  refine j_aload_n x dX6_account_0 rfl ?_
  refine j_iconst (v := 0) x dX6_account_1 (by decide) ?_
  refine j2_puti (k := 19) x hb dX6_account_2 jc_10 wfX6_36 (by decide) rfl rfl rfl rfl ?_
  refine j_iconst (v := 0) x dX6_account_5 (by decide) ?_
  refine j_istore_n x dX6_account_6 (by decide) rfl ?_
  refine j_iload_n x dX6_account_7 rfl ?_
  refine j_tableIn (tgt := 131) x dX6_account_8 (by decide) (by decide) rfl (by decide) ?_
  refine j_iconst (v := 0) x dX6_account_131 (by decide) ?_
  refine j_istore_n x dX6_account_132 (by decide) rfl ?_
  refine j_for (n) (fun z0 => [some (.ref 94), some (.int 6), some (.int (jsum (gPutC (jm M 94 19 0)) z0)), some (.int (nI z0))]) (fun z0 => (jm M 94 19 0)) (fun z0 => True) (rfl) (rfl) (trivial) (fun j hj hP ih => ?_) (fun hP => ?_)
  · refine j_iload_n x dX6_account_133 rfl ?_
    refine j_aload_n x dX6_account_134 rfl ?_
    refine j2_getr (k := 0) (r := 95) x hb dX6_account_135 jc_10 wfX6_9 (by decide) rfl ?_
    refine j_bipush (v := 9) x dX6_account_138 (by decide) ?_
    refine j2_ialn x hb dX6_account_140 fa_95 (j := 9) (vp_c (by decide)) (by decide) ?_; rw [jm_n (by omega), hct]
    refine j_icmp_ge (tgt := 162) x dX6_account_141 (by decide) (fun hc => absurd hc (nI_ge hj (by omega))) (fun hc => ?_)
    refine j_aload_n x dX6_account_144 rfl ?_
    refine j_iload_n x dX6_account_145 rfl ?_
    refine j2_callVi x hb dX6_account_146 m_X6_how (cx_how (d := d) hb (m1 := j) (by omega)) wmX6_131 jc_10 rfl rfl rfl (Nat.le_of_ble_eq_true rfl) (j_fit_rm (by omega) (by omega) (by omega)) rfl ?_
    refine j_iconst (v := 2) x dX6_account_149 (by decide) ?_
    refine j_icmp_ne (tgt := 156) x dX6_account_150 (by decide) (fun h1 => ?_) (fun h1 => ?_)
    · refine j_iinc x dX6_account_156 rfl (by decide) rfl ?_
      refine j_goto (tgt := 133) x dX6_account_159 (by decide) ?_
      exact j_goal (ih (trivial)) (wk_c rfl (wk_c rfl (wk_c (congrArg (fun z => some (Value.int z)) (jsum_f (jb_f h1))) (wk_c (congrArg (fun z => some (Value.int z)) (nI_1 _)) (wk_0))))) (rfl)
    · refine j_iinc x dX6_account_153 rfl (by decide) rfl ?_
      refine j_iinc x dX6_account_156 rfl (by decide) rfl ?_
      refine j_goto (tgt := 133) x dX6_account_159 (by decide) ?_
      exact j_goal (ih (trivial)) (wk_c rfl (wk_c rfl (wk_c (congrArg (fun z => some (Value.int z)) (jsum_v (jb_t h1))) (wk_c (congrArg (fun z => some (Value.int z)) (nI_1 _)) (wk_0))))) (rfl)
  refine j_iload_n x dX6_account_133 rfl ?_
  refine j_aload_n x dX6_account_134 rfl ?_
  refine j2_getr (k := 0) (r := 95) x hb dX6_account_135 jc_10 wfX6_9 (by decide) rfl ?_
  refine j_bipush (v := 9) x dX6_account_138 (by decide) ?_
  refine j2_ialn x hb dX6_account_140 fa_95 (j := 9) (vp_c (by decide)) (by decide) ?_; rw [jm_n (by omega), hct]
  refine j_icmp_ge (tgt := 162) x dX6_account_141 (by decide) (fun hc => ?_) (fun hc => absurd (nI_le (Nat.le_refl _) (by omega)) hc)
  refine j_iload_n x dX6_account_162 rfl ?_
  exact j_ireturn x hr dX6_account_163 (by omega) (by omega) ⟨rfl, rfl⟩
theorem cx_account_q11 {d : Nat} {b : SBt} {Y : OUt} {M : MM} (hb : 104 ≤ b.2.1) {n : Nat} (hn : n ≤ 56) (hct : M 95 9 = nI n) {w : Nat} (hw : w ≤ 8) (h0 : M 95 0 = nI w) : CM (d + 4) 0 0 yX6_account cX6_account 4 (some .int) [.ref 94, .int 11] b Y M (.inl (some (.int (jsum (fun i => gH (jm M 94 19 0) n (nI i) 1) w)))) ((jm M 94 19 0)) := by
  refine Con.of (by decide +kernel) (Nat.le_of_ble_eq_true rfl) rfl fun p l e s m args below meth c D tyc A ad0 x hr htab hname => ?_
  change JJ _ _ _ _ _ _ _ _ _ _ _ _ _ _ _ _ _ 0 [some (.ref 94), some (.int 11), none, none] [] _ 0 0
  refine j_aload_n x dX6_account_0 rfl ?_
  refine j_iconst (v := 0) x dX6_account_1 (by decide) ?_
  refine j2_puti (k := 19) x hb dX6_account_2 jc_10 wfX6_36 (by decide) rfl rfl rfl rfl ?_
  refine j_iconst (v := 0) x dX6_account_5 (by decide) ?_
  refine j_istore_n x dX6_account_6 (by decide) rfl ?_
  refine j_iload_n x dX6_account_7 rfl ?_
  refine j_tableIn (tgt := 190) x dX6_account_8 (by decide) (by decide) rfl (by decide) ?_
  refine j_iconst (v := 0) x dX6_account_190 (by decide) ?_
  refine j_istore_n x dX6_account_191 (by decide) rfl ?_
  refine j_for (w) (fun z0 => [some (.ref 94), some (.int 11), some (.int (jsum (fun i => gH (jm M 94 19 0) n (nI i) 1) z0)), some (.int (nI z0))]) (fun z0 => (jm M 94 19 0)) (fun z0 => True) (rfl) (rfl) (trivial) (fun j hj hP ih => ?_) (fun hP => ?_)
  · refine j_iload_n x dX6_account_192 rfl ?_
    refine j_aload_n x dX6_account_193 rfl ?_
    refine j2_getr (k := 0) (r := 95) x hb dX6_account_194 jc_10 wfX6_9 (by decide) rfl ?_
    refine j_iconst (v := 0) x dX6_account_197 (by decide) ?_
    refine j2_ialn x hb dX6_account_198 fa_95 (j := 0) (vp_c (by decide)) (by decide) ?_; rw [jm_n (by omega), h0]
    refine j_icmp_ge (tgt := 217) x dX6_account_199 (by decide) (fun hc => absurd hc (nI_ge hj (by omega))) (fun hc => ?_)
    refine j_iload_n x dX6_account_202 rfl ?_
    refine j_aload_n x dX6_account_203 rfl ?_
    refine j_iload_n x dX6_account_204 rfl ?_
    refine j_iconst (v := 1) x dX6_account_205 (by decide) ?_
    refine j2_callVi x hb dX6_account_206 m_X6_has_ (cx_has2_1 (d := d) hb hn (by rw [jm_n (by omega)]; exact hct)) wmX6_156 jc_10 rfl rfl rfl (Nat.le_of_ble_eq_true rfl) (j_fit_rm (by omega) (by omega) (by omega)) rfl ?_
    refine j_iadd x dX6_account_209 ?_
    refine j_istore_n x dX6_account_210 (by decide) rfl ?_
    refine j_iinc x dX6_account_211 rfl (by decide) rfl ?_
    refine j_goto (tgt := 192) x dX6_account_214 (by decide) ?_
    exact j_goal (ih (trivial)) (wk_c rfl (wk_c rfl (wk_c (congrArg (fun z => some (Value.int z)) (jsum_v rfl)) (wk_c (congrArg (fun z => some (Value.int z)) (nI_1 _)) (wk_0))))) (rfl)
  refine j_iload_n x dX6_account_192 rfl ?_
  refine j_aload_n x dX6_account_193 rfl ?_
  refine j2_getr (k := 0) (r := 95) x hb dX6_account_194 jc_10 wfX6_9 (by decide) rfl ?_
  refine j_iconst (v := 0) x dX6_account_197 (by decide) ?_
  refine j2_ialn x hb dX6_account_198 fa_95 (j := 0) (vp_c (by decide)) (by decide) ?_; rw [jm_n (by omega), h0]
  refine j_icmp_ge (tgt := 217) x dX6_account_199 (by decide) (fun hc => ?_) (fun hc => absurd (nI_le (Nat.le_refl _) (by omega)) hc)
  refine j_iload_n x dX6_account_217 rfl ?_
  exact j_ireturn x hr dX6_account_218 (by omega) (by omega) ⟨rfl, rfl⟩
theorem cx_account_q12 {d : Nat} {b : SBt} {Y : OUt} {M : MM} (hb : 104 ≤ b.2.1) {n : Nat} (hn : n ≤ 56) (hct : M 95 9 = nI n) (hho : ∀ i, i < n → ∃ h, h < 8 ∧ jof M i 0 = nI h) {z : Nat} (hz : z ≤ 14) (hz1 : M 95 1 = nI z) : CM (d + 4) 0 0 yX6_account cX6_account 4 (some .int) [.ref 94, .int 12] b Y M (.inl (some (.int (jsum (fun i => gpairs (jm M 94 19 0) n (nI i)) z)))) ((jm M 94 19 0)) := by
  refine Con.of (by decide +kernel) (Nat.le_of_ble_eq_true rfl) rfl fun p l e s m args below meth c D tyc A ad0 x hr htab hname => ?_
  change JJ _ _ _ _ _ _ _ _ _ _ _ _ _ _ _ _ _ 0 [some (.ref 94), some (.int 12), none, none] [] _ 0 0
  refine j_aload_n x dX6_account_0 rfl ?_
  refine j_iconst (v := 0) x dX6_account_1 (by decide) ?_
  refine j2_puti (k := 19) x hb dX6_account_2 jc_10 wfX6_36 (by decide) rfl rfl rfl rfl ?_
  refine j_iconst (v := 0) x dX6_account_5 (by decide) ?_
  refine j_istore_n x dX6_account_6 (by decide) rfl ?_
  refine j_iload_n x dX6_account_7 rfl ?_
  refine j_tableIn (tgt := 219) x dX6_account_8 (by decide) (by decide) rfl (by decide) ?_
  refine j_iconst (v := 0) x dX6_account_219 (by decide) ?_
  refine j_istore_n x dX6_account_220 (by decide) rfl ?_
  refine j_for (z) (fun z0 => [some (.ref 94), some (.int 12), some (.int (jsum (fun i => gpairs (jm M 94 19 0) n (nI i)) z0)), some (.int (nI z0))]) (fun z0 => (jm M 94 19 0)) (fun z0 => True) (rfl) (rfl) (trivial) (fun j hj hP ih => ?_) (fun hP => ?_)
  · refine j_iload_n x dX6_account_221 rfl ?_
    refine j_aload_n x dX6_account_222 rfl ?_
    refine j2_getr (k := 0) (r := 95) x hb dX6_account_223 jc_10 wfX6_9 (by decide) rfl ?_
    refine j_iconst (v := 1) x dX6_account_226 (by decide) ?_
    refine j2_ialn x hb dX6_account_227 fa_95 (j := 1) (vp_c (by decide)) (by decide) ?_; rw [jm_n (by omega), hz1]
    refine j_icmp_ge (tgt := 245) x dX6_account_228 (by decide) (fun hc => absurd hc (nI_ge hj (by omega))) (fun hc => ?_)
    refine j_iload_n x dX6_account_231 rfl ?_
    refine j_aload_n x dX6_account_232 rfl ?_
    refine j_iload_n x dX6_account_233 rfl ?_
    refine j2_callVi x hb dX6_account_234 m_X6_clashesIn (cx_clashesIn (d := d) hb hn (by rw [jm_n (by omega)]; exact hct) (fun i hi => by have z := hho i hi; unfold jof at z ⊢; rw [jm_n (by omega)]; exact z)) wmX6_158 jc_10 rfl rfl rfl (Nat.le_of_ble_eq_true rfl) (j_fit_rm (by omega) (by omega) (by omega)) rfl ?_
    refine j_iadd x dX6_account_237 ?_
    refine j_istore_n x dX6_account_238 (by decide) rfl ?_
    refine j_iinc x dX6_account_239 rfl (by decide) rfl ?_
    refine j_goto (tgt := 221) x dX6_account_242 (by decide) ?_
    exact j_goal (ih (trivial)) (wk_c rfl (wk_c rfl (wk_c (congrArg (fun z => some (Value.int z)) (jsum_v rfl)) (wk_c (congrArg (fun z => some (Value.int z)) (nI_1 _)) (wk_0))))) (rfl)
  refine j_iload_n x dX6_account_221 rfl ?_
  refine j_aload_n x dX6_account_222 rfl ?_
  refine j2_getr (k := 0) (r := 95) x hb dX6_account_223 jc_10 wfX6_9 (by decide) rfl ?_
  refine j_iconst (v := 1) x dX6_account_226 (by decide) ?_
  refine j2_ialn x hb dX6_account_227 fa_95 (j := 1) (vp_c (by decide)) (by decide) ?_; rw [jm_n (by omega), hz1]
  refine j_icmp_ge (tgt := 245) x dX6_account_228 (by decide) (fun hc => ?_) (fun hc => absurd (nI_le (Nat.le_refl _) (by omega)) hc)
  refine j_iload_n x dX6_account_245 rfl ?_
  exact j_ireturn x hr dX6_account_246 (by omega) (by omega) ⟨rfl, rfl⟩
end

section
/-! ===== the reference: commands ===== -/
theorem cx_isNext_end {d : Nat} {b : SBt} {Y : OUt} {M : MM} (hb : 104 ≤ b.2.1) {ch : Int32} {a n : Nat} (hn : n ≤ 60) (h9 : M 94 9 = nI n) (hat : M 94 10 = nI a) (ha : a = n) : CM (d) 0 0 yX6_isNext cX6_isNext 2 (some .boolean) [.ref 94, .int ch] b Y M (.inl (some (.int (0)))) (M) := by
  refine Con.of (by decide +kernel) (Nat.le_of_ble_eq_true rfl) rfl fun p l e s m args below meth c D tyc A ad0 x hr htab hname => ?_
  change JJ _ _ _ _ _ _ _ _ _ _ _ _ _ _ _ _ _ 0 [some (.ref 94), some (.int ch)] [] _ 0 0
  refine j_aload_n x dX6_isNext_0 rfl ?_
  refine j2_geti (k := 10) x hb dX6_isNext_1 jc_10 wfX6_188 (by decide) rfl ?_
  refine j_aload_n x dX6_isNext_4 rfl ?_
  refine j2_geti (k := 9) x hb dX6_isNext_5 jc_10 wfX6_185 (by decide) rfl ?_
  refine j_icmp_eq (tgt := 24) x dX6_isNext_8 (by decide) (fun hc => ?_) (fun hc => absurd (by rw [hat, h9, ha]) hc)
  refine j_iconst (v := 0) x dX6_isNext_24 (by decide) ?_
  exact j_zreturn x hr dX6_isNext_25 (by first | decide | with_reducible exact jb_nar | with_reducible exact jisS_nar | with_reducible exact gno_nar) (by omega) (by omega) ⟨rfl, rfl⟩
theorem cx_isNext_no {d : Nat} {b : SBt} {Y : OUt} {M : MM} (hb : 104 ≤ b.2.1) {ch : Int32} {a n : Nat} (hn : n ≤ 60) (h9 : M 94 9 = nI n) (hat : M 94 10 = nI a) (ha : a < n) (hne : ¬ M 100 a = ch) : CM (d) 0 0 yX6_isNext cX6_isNext 2 (some .boolean) [.ref 94, .int ch] b Y M (.inl (some (.int (0)))) (M) := by
  refine Con.of (by decide +kernel) (Nat.le_of_ble_eq_true rfl) rfl fun p l e s m args below meth c D tyc A ad0 x hr htab hname => ?_
  change JJ _ _ _ _ _ _ _ _ _ _ _ _ _ _ _ _ _ 0 [some (.ref 94), some (.int ch)] [] _ 0 0
  refine j_aload_n x dX6_isNext_0 rfl ?_
  refine j2_geti (k := 10) x hb dX6_isNext_1 jc_10 wfX6_188 (by decide) rfl ?_
  refine j_aload_n x dX6_isNext_4 rfl ?_
  refine j2_geti (k := 9) x hb dX6_isNext_5 jc_10 wfX6_185 (by decide) rfl ?_
  refine j_icmp_eq (tgt := 24) x dX6_isNext_8 (by decide) (fun hc => absurd hc (by rw [hat, h9]; exact fun q => by have := congrArg Int32.toNatClampNeg q; rw [nI_clamp (by omega), nI_clamp (by omega)] at this; omega)) (fun hc => ?_)
  refine j_aload_n x dX6_isNext_11 rfl ?_
  refine j2_getr (k := 8) (r := 100) x hb dX6_isNext_12 jc_10 wfX6_25 (by decide) rfl ?_
  refine j_aload_n x dX6_isNext_15 rfl ?_
  refine j2_geti (k := 10) x hb dX6_isNext_16 jc_10 wfX6_188 (by decide) rfl ?_
  refine j2_cald x hb dX6_isNext_19 rfl (n := 60) (k := M 94 10) (v := M 100 a) (by rw [hat]; exact vp_in_nI (by omega) (by decide)) (by rw [hat, nI_clamp (by omega)]) ?_
  refine j_iload_n x dX6_isNext_20 rfl ?_
  refine j_icmp_eq (tgt := 26) x dX6_isNext_21 (by decide) (fun hc => absurd hc (hne)) (fun hc => ?_)
  refine j_iconst (v := 0) x dX6_isNext_24 (by decide) ?_
  exact j_zreturn x hr dX6_isNext_25 (by first | decide | with_reducible exact jb_nar | with_reducible exact jisS_nar | with_reducible exact gno_nar) (by omega) (by omega) ⟨rfl, rfl⟩
theorem cx_isNext_yes {d : Nat} {b : SBt} {Y : OUt} {M : MM} (hb : 104 ≤ b.2.1) {ch : Int32} {a n : Nat} (hn : n ≤ 60) (h9 : M 94 9 = nI n) (hat : M 94 10 = nI a) (ha : a < n) (he : M 100 a = ch) : CM (d) 0 0 yX6_isNext cX6_isNext 2 (some .boolean) [.ref 94, .int ch] b Y M (.inl (some (.int (1)))) (jm M 94 10 (nI (a + 1))) := by
  refine Con.of (by decide +kernel) (Nat.le_of_ble_eq_true rfl) rfl fun p l e s m args below meth c D tyc A ad0 x hr htab hname => ?_
  change JJ _ _ _ _ _ _ _ _ _ _ _ _ _ _ _ _ _ 0 [some (.ref 94), some (.int ch)] [] _ 0 0
  refine j_aload_n x dX6_isNext_0 rfl ?_
  refine j2_geti (k := 10) x hb dX6_isNext_1 jc_10 wfX6_188 (by decide) rfl ?_
  refine j_aload_n x dX6_isNext_4 rfl ?_
  refine j2_geti (k := 9) x hb dX6_isNext_5 jc_10 wfX6_185 (by decide) rfl ?_
  refine j_icmp_eq (tgt := 24) x dX6_isNext_8 (by decide) (fun hc => absurd hc (by rw [hat, h9]; exact fun q => by have := congrArg Int32.toNatClampNeg q; rw [nI_clamp (by omega), nI_clamp (by omega)] at this; omega)) (fun hc => ?_)
  refine j_aload_n x dX6_isNext_11 rfl ?_
  refine j2_getr (k := 8) (r := 100) x hb dX6_isNext_12 jc_10 wfX6_25 (by decide) rfl ?_
  refine j_aload_n x dX6_isNext_15 rfl ?_
  refine j2_geti (k := 10) x hb dX6_isNext_16 jc_10 wfX6_188 (by decide) rfl ?_
  refine j2_cald x hb dX6_isNext_19 rfl (n := 60) (k := M 94 10) (v := M 100 a) (by rw [hat]; exact vp_in_nI (by omega) (by decide)) (by rw [hat, nI_clamp (by omega)]) ?_
  refine j_iload_n x dX6_isNext_20 rfl ?_
  refine j_icmp_eq (tgt := 26) x dX6_isNext_21 (by decide) (fun hc => ?_) (fun hc => absurd (he) hc)
  refine j_aload_n x dX6_isNext_26 rfl ?_
  refine j_dup x dX6_isNext_27 rfl ?_
  refine j2_geti (k := 10) x hb dX6_isNext_28 jc_10 wfX6_188 (by decide) rfl ?_
  refine j_iconst (v := 1) x dX6_isNext_31 (by decide) ?_
  refine j_iadd x dX6_isNext_32 ?_
  refine j2_puti (k := 10) x hb dX6_isNext_33 jc_10 wfX6_188 (by decide) rfl rfl rfl rfl ?_
  refine j_iconst (v := 1) x dX6_isNext_36 (by decide) ?_
  exact j_zreturn x hr dX6_isNext_37 (by first | decide | with_reducible exact jb_nar | with_reducible exact jisS_nar | with_reducible exact gno_nar) (by omega) (by omega) ⟨rfl, by rw [hat, nI_1]⟩
def gN0 (M : MM) (k : Nat) : MM := jm M 101 k 0
def gN1 (M : MM) (k a : Nat) : MM := jm (jm (gN0 M k) 94 10 ((gN0 M k) 94 10 + 1)) 101 k (10 * (gN0 M k) 101 k + M 100 a - 48)
abbrev isD (lo hi v : Int32) : Prop := ¬ v < lo ∧ ¬ hi < v
theorem gN0_at {M : MM} {k : Nat} : gN0 M k 94 10 = M 94 10 := jm_n (by omega)
theorem gN0_len {M : MM} {k : Nat} : gN0 M k 94 9 = M 94 9 := jm_n (by omega)
theorem gN0_tx {M : MM} {k a : Nat} : gN0 M k 100 a = M 100 a := jm_n (by omega)
theorem gN1_at {M : MM} {k a c1 : Nat} (hat : M 94 10 = nI c1) : gN1 M k a 94 10 = nI (c1 + 1) := by unfold gN1; rw [jm_n (by omega), jm_s, gN0_at, hat, nI_1]
theorem gN1_len {M : MM} {k a : Nat} : gN1 M k a 94 9 = M 94 9 := by unfold gN1; rw [jm_n (by omega), jm_n (by omega), gN0_len]
theorem gN1_tx {M : MM} {k a c1 : Nat} : gN1 M k a 100 c1 = M 100 c1 := by unfold gN1; rw [jm_n (by omega), jm_n (by omega), gN0_tx]
theorem cx_number_end {d : Nat} {b : SBt} {Y : OUt} {M : MM} (hb : 104 ≤ b.2.1) {k : Nat} (hk : k < 3) {a n : Nat} (hn : n ≤ 60) (h9 : M 94 9 = nI n) (hat : M 94 10 = nI a) (ha : a = n) : CM (d) 0 0 yX6_number cX6_number 3 (some .boolean) [.ref 94, .int (nI k)] b Y M (.inl (some (.int (0)))) (gN0 M k) := by
  refine Con.of (by decide +kernel) (Nat.le_of_ble_eq_true rfl) rfl fun p l e s m args below meth c D tyc A ad0 x hr htab hname => ?_
  change JJ _ _ _ _ _ _ _ _ _ _ _ _ _ _ _ _ _ 0 [some (.ref 94), some (.int (nI k)), none] [] _ 0 0
  refine j_iconst (v := 0) x dX6_number_0 (by decide) ?_
  refine j_istore_n x dX6_number_1 (by decide) rfl ?_
  refine j_aload_n x dX6_number_2 rfl ?_
  refine j2_getr (k := 12) (r := 101) x hb dX6_number_3 jc_10 wfX6_29 (by decide) rfl ?_
  refine j_iload_n x dX6_number_6 rfl ?_
  refine j_iconst (v := 0) x dX6_number_7 (by decide) ?_
  refine j2_iasn x hb dX6_number_8 fa_101 (j := k) (vp_in_nI (by omega) (by decide)) (nI_clamp (by omega)) ?_
  refine j_iload_n x dX6_number_9 rfl ?_
  refine j_iconst (v := 2) x dX6_number_10 (by decide) ?_
  refine j_icmp_ge (tgt := 85) x dX6_number_11 (by decide) (fun hc => absurd hc (by decide)) (fun hc => ?_)
  refine j_aload_n x dX6_number_14 rfl ?_
  refine j2_geti (k := 10) x hb dX6_number_15 jc_10 wfX6_188 (by decide) rfl ?_
  refine j_aload_n x dX6_number_18 rfl ?_
  refine j2_geti (k := 9) x hb dX6_number_19 jc_10 wfX6_185 (by decide) rfl ?_
  refine j_icmp_ge (tgt := 85) x dX6_number_22 (by decide) (fun hc => ?_) (fun hc => absurd (by rw [jm_n (by omega), jm_n (by omega), hat, h9, ha]; exact nI_le (Nat.le_refl _) (by omega)) hc)
  refine j_iload_n x dX6_number_85 rfl ?_
  refine j_if_le (tgt := 93) x dX6_number_86 (by decide) (fun hc => ?_) (fun hc => absurd (by decide) hc)
  refine j_iconst (v := 0) x dX6_number_93 (by decide) ?_
  exact j_zreturn x hr dX6_number_94 (by first | decide | with_reducible exact jb_nar | with_reducible exact jisS_nar | with_reducible exact gno_nar) (by omega) (by omega) ⟨rfl, rfl⟩
theorem cx_number_no {d : Nat} {b : SBt} {Y : OUt} {M : MM} (hb : 104 ≤ b.2.1) {k : Nat} (hk : k < 3) {a n : Nat} (hn : n ≤ 60) (h9 : M 94 9 = nI n) (hat : M 94 10 = nI a) (ha : a < n) (hd : ¬ isD 48 57 (M 100 a)) : CM (d + 1) 0 0 yX6_number cX6_number 3 (some .boolean) [.ref 94, .int (nI k)] b Y M (.inl (some (.int (0)))) (gN0 M k) := by
  refine Con.of (by decide +kernel) (Nat.le_of_ble_eq_true rfl) rfl fun p l e s m args below meth c D tyc A ad0 x hr htab hname => ?_
  change JJ _ _ _ _ _ _ _ _ _ _ _ _ _ _ _ _ _ 0 [some (.ref 94), some (.int (nI k)), none] [] _ 0 0
  refine j_iconst (v := 0) x dX6_number_0 (by decide) ?_
  refine j_istore_n x dX6_number_1 (by decide) rfl ?_
  refine j_aload_n x dX6_number_2 rfl ?_
  refine j2_getr (k := 12) (r := 101) x hb dX6_number_3 jc_10 wfX6_29 (by decide) rfl ?_
  refine j_iload_n x dX6_number_6 rfl ?_
  refine j_iconst (v := 0) x dX6_number_7 (by decide) ?_
  refine j2_iasn x hb dX6_number_8 fa_101 (j := k) (vp_in_nI (by omega) (by decide)) (nI_clamp (by omega)) ?_
  refine j_iload_n x dX6_number_9 rfl ?_
  refine j_iconst (v := 2) x dX6_number_10 (by decide) ?_
  refine j_icmp_ge (tgt := 85) x dX6_number_11 (by decide) (fun hc => absurd hc (by decide)) (fun hc => ?_)
  refine j_aload_n x dX6_number_14 rfl ?_
  refine j2_geti (k := 10) x hb dX6_number_15 jc_10 wfX6_188 (by decide) rfl ?_
  refine j_aload_n x dX6_number_18 rfl ?_
  refine j2_geti (k := 9) x hb dX6_number_19 jc_10 wfX6_185 (by decide) rfl ?_
  refine j_icmp_ge (tgt := 85) x dX6_number_22 (by decide) (fun hc => absurd hc (by rw [jm_n (by omega), jm_n (by omega), hat, h9]; exact nI_ge ha (by omega))) (fun hc => ?_)
  refine j_aload_n x dX6_number_25 rfl ?_
  refine j2_getr (k := 8) (r := 100) x hb dX6_number_26 jc_10 wfX6_25 (by decide) rfl ?_
  refine j_aload_n x dX6_number_29 rfl ?_
  refine j2_geti (k := 10) x hb dX6_number_30 jc_10 wfX6_188 (by decide) rfl ?_
  refine j2_cald x hb dX6_number_33 rfl (n := 60) (v := M 100 a) (by rw [jm_n (by omega), hat]; exact vp_in_nI (by omega) (by decide)) (by rw [jm_n (by omega), jm_n (by omega), hat, nI_clamp (by omega)]) ?_
  refine j_bipush (v := 48) x dX6_number_34 (by decide) ?_
  refine j_bipush (v := 57) x dX6_number_36 (by decide) ?_
  refine j2_callSi x hb dX6_number_38 m_X6_in (CM_v (cx_in (d := d) hb) (jb_f hd)) wmX6_64 rfl (Nat.le_of_ble_eq_true rfl) (j_fit_rm (by omega) (by omega) (by omega)) rfl ?_
  refine j_if_eq (tgt := 85) x dX6_number_41 (by decide) (fun hc => ?_) (fun hc => absurd (rfl) hc)
  refine j_iload_n x dX6_number_85 rfl ?_
  refine j_if_le (tgt := 93) x dX6_number_86 (by decide) (fun hc => ?_) (fun hc => absurd (by decide) hc)
  refine j_iconst (v := 0) x dX6_number_93 (by decide) ?_
  exact j_zreturn x hr dX6_number_94 (by first | decide | with_reducible exact jb_nar | with_reducible exact jisS_nar | with_reducible exact gno_nar) (by omega) (by omega) ⟨rfl, rfl⟩
theorem cx_number_1e {d : Nat} {b : SBt} {Y : OUt} {M : MM} (hb : 104 ≤ b.2.1) {k : Nat} (hk : k < 3) {a n : Nat} (hn : n ≤ 60) (h9 : M 94 9 = nI n) (hat : M 94 10 = nI a) (ha : a < n) (hd : isD 48 57 (M 100 a)) (he : a + 1 = n) : CM (d + 1) 0 0 yX6_number cX6_number 3 (some .boolean) [.ref 94, .int (nI k)] b Y M (.inl (some (.int (1)))) (gN1 M k a) := by
  refine Con.of (by decide +kernel) (Nat.le_of_ble_eq_true rfl) rfl fun p l e s m args below meth c D tyc A ad0 x hr htab hname => ?_
  change JJ _ _ _ _ _ _ _ _ _ _ _ _ _ _ _ _ _ 0 [some (.ref 94), some (.int (nI k)), none] [] _ 0 0
  refine j_iconst (v := 0) x dX6_number_0 (by decide) ?_
  refine j_istore_n x dX6_number_1 (by decide) rfl ?_
  refine j_aload_n x dX6_number_2 rfl ?_
  refine j2_getr (k := 12) (r := 101) x hb dX6_number_3 jc_10 wfX6_29 (by decide) rfl ?_
  refine j_iload_n x dX6_number_6 rfl ?_
  refine j_iconst (v := 0) x dX6_number_7 (by decide) ?_
  refine j2_iasn x hb dX6_number_8 fa_101 (j := k) (vp_in_nI (by omega) (by decide)) (nI_clamp (by omega)) ?_
  refine j_iload_n x dX6_number_9 rfl ?_
  refine j_iconst (v := 2) x dX6_number_10 (by decide) ?_
  refine j_icmp_ge (tgt := 85) x dX6_number_11 (by decide) (fun hc => absurd hc (by decide)) (fun hc => ?_)
  refine j_aload_n x dX6_number_14 rfl ?_
  refine j2_geti (k := 10) x hb dX6_number_15 jc_10 wfX6_188 (by decide) rfl ?_
  refine j_aload_n x dX6_number_18 rfl ?_
  refine j2_geti (k := 9) x hb dX6_number_19 jc_10 wfX6_185 (by decide) rfl ?_
  refine j_icmp_ge (tgt := 85) x dX6_number_22 (by decide) (fun hc => absurd hc (by rw [jm_n (by omega), jm_n (by omega), hat, h9]; exact nI_ge ha (by omega))) (fun hc => ?_)
  refine j_aload_n x dX6_number_25 rfl ?_
  refine j2_getr (k := 8) (r := 100) x hb dX6_number_26 jc_10 wfX6_25 (by decide) rfl ?_
  refine j_aload_n x dX6_number_29 rfl ?_
  refine j2_geti (k := 10) x hb dX6_number_30 jc_10 wfX6_188 (by decide) rfl ?_
  refine j2_cald x hb dX6_number_33 rfl (n := 60) (v := M 100 a) (by rw [jm_n (by omega), hat]; exact vp_in_nI (by omega) (by decide)) (by rw [jm_n (by omega), jm_n (by omega), hat, nI_clamp (by omega)]) ?_
  refine j_bipush (v := 48) x dX6_number_34 (by decide) ?_
  refine j_bipush (v := 57) x dX6_number_36 (by decide) ?_
  refine j2_callSi x hb dX6_number_38 m_X6_in (CM_v (cx_in (d := d) hb) (jb_t hd)) wmX6_64 rfl (Nat.le_of_ble_eq_true rfl) (j_fit_rm (by omega) (by omega) (by omega)) rfl ?_
  refine j_if_eq (tgt := 85) x dX6_number_41 (by decide) (fun hc => absurd hc (by decide)) (fun hc => ?_)
  refine j_aload_n x dX6_number_44 rfl ?_
  refine j2_getr (k := 12) (r := 101) x hb dX6_number_45 jc_10 wfX6_29 (by decide) rfl ?_
  refine j_iload_n x dX6_number_48 rfl ?_
  refine j_bipush (v := 10) x dX6_number_49 (by decide) ?_
  refine j_aload_n x dX6_number_51 rfl ?_
  refine j2_getr (k := 12) (r := 101) x hb dX6_number_52 jc_10 wfX6_29 (by decide) rfl ?_
  refine j_iload_n x dX6_number_55 rfl ?_
  refine j2_ialn x hb dX6_number_56 fa_101 (j := k) (vp_in_nI (by omega) (by decide)) (nI_clamp (by omega)) ?_
  refine j_imul x dX6_number_57 ?_
  refine j_aload_n x dX6_number_58 rfl ?_
  refine j2_getr (k := 8) (r := 100) x hb dX6_number_59 jc_10 wfX6_25 (by decide) rfl ?_
  refine j_aload_n x dX6_number_62 rfl ?_
  refine j_dup x dX6_number_63 rfl ?_
  refine j2_geti (k := 10) x hb dX6_number_64 jc_10 wfX6_188 (by decide) rfl ?_
  refine j_dup_x1 x dX6_number_67 rfl rfl ?_
  refine j_iconst (v := 1) x dX6_number_68 (by decide) ?_
  refine j_iadd x dX6_number_69 ?_
  refine j2_puti (k := 10) x hb dX6_number_70 jc_10 wfX6_188 (by decide) rfl rfl rfl rfl ?_
  refine j2_cald x hb dX6_number_73 rfl (n := 60) (v := M 100 a) (by rw [jm_n (by omega), hat]; exact vp_in_nI (by omega) (by decide)) (by rw [jm_n (by omega), jm_n (by omega), jm_n (by omega), hat, nI_clamp (by omega)]) ?_
  refine j_iadd x dX6_number_74 ?_
  refine j_bipush (v := 48) x dX6_number_75 (by decide) ?_
  refine j_isub x dX6_number_77 ?_
  refine j2_iasn x hb dX6_number_78 fa_101 (j := k) (vp_in_nI (by omega) (by decide)) (nI_clamp (by omega)) ?_
  refine j_iinc x dX6_number_79 rfl (by decide) rfl ?_
  refine j_goto (tgt := 9) x dX6_number_82 (by decide) ?_
  refine j_iload_n x dX6_number_9 rfl ?_
  refine j_iconst (v := 2) x dX6_number_10 (by decide) ?_
  refine j_icmp_ge (tgt := 85) x dX6_number_11 (by decide) (fun hc => absurd hc (by decide)) (fun hc => ?_)
  refine j_aload_n x dX6_number_14 rfl ?_
  refine j2_geti (k := 10) x hb dX6_number_15 jc_10 wfX6_188 (by decide) rfl ?_
  refine j_aload_n x dX6_number_18 rfl ?_
  refine j2_geti (k := 9) x hb dX6_number_19 jc_10 wfX6_185 (by decide) rfl ?_
  refine j_icmp_ge (tgt := 85) x dX6_number_22 (by decide) (fun hc => ?_) (fun hc => absurd (by change gN1 M k a 94 9 ≤ gN1 M k a 94 10; rw [gN1_len (M := M) (k := k) (a := a), gN1_at (M := M) (k := k) (a := a) hat, h9, he]; exact nI_le (Nat.le_refl _) (by omega)) hc)
  refine j_iload_n x dX6_number_85 rfl ?_
  refine j_if_le (tgt := 93) x dX6_number_86 (by decide) (fun hc => absurd hc (by decide)) (fun hc => ?_)
  refine j_iconst (v := 1) x dX6_number_89 (by decide) ?_
  refine j_goto (tgt := 94) x dX6_number_90 (by decide) ?_
  exact j_zreturn x hr dX6_number_94 (by first | decide | with_reducible exact jb_nar | with_reducible exact jisS_nar | with_reducible exact gno_nar) (by omega) (by omega) ⟨rfl, rfl⟩
def gN2 (M : MM) (k a : Nat) : MM := jm (jm (gN1 M k a) 94 10 ((gN1 M k a) 94 10 + 1)) 101 k (10 * (gN1 M k a) 101 k + M 100 (a + 1) - 48)
theorem cx_number_1n {d : Nat} {b : SBt} {Y : OUt} {M : MM} (hb : 104 ≤ b.2.1) {k : Nat} (hk : k < 3) {a n : Nat} (hn : n ≤ 60) (h9 : M 94 9 = nI n) (hat : M 94 10 = nI a) (ha : a < n) (hd : isD 48 57 (M 100 a)) (he : a + 1 < n) (hd2 : ¬ isD 48 57 (M 100 (a + 1))) : CM (d + 1) 0 0 yX6_number cX6_number 3 (some .boolean) [.ref 94, .int (nI k)] b Y M (.inl (some (.int (1)))) (gN1 M k a) := by
  refine Con.of (by decide +kernel) (Nat.le_of_ble_eq_true rfl) rfl fun p l e s m args below meth c D tyc A ad0 x hr htab hname => ?_
  change JJ _ _ _ _ _ _ _ _ _ _ _ _ _ _ _ _ _ 0 [some (.ref 94), some (.int (nI k)), none] [] _ 0 0
  refine j_iconst (v := 0) x dX6_number_0 (by decide) ?_
  refine j_istore_n x dX6_number_1 (by decide) rfl ?_
  refine j_aload_n x dX6_number_2 rfl ?_
  refine j2_getr (k := 12) (r := 101) x hb dX6_number_3 jc_10 wfX6_29 (by decide) rfl ?_
  refine j_iload_n x dX6_number_6 rfl ?_
  refine j_iconst (v := 0) x dX6_number_7 (by decide) ?_
  refine j2_iasn x hb dX6_number_8 fa_101 (j := k) (vp_in_nI (by omega) (by decide)) (nI_clamp (by omega)) ?_
  refine j_iload_n x dX6_number_9 rfl ?_
  refine j_iconst (v := 2) x dX6_number_10 (by decide) ?_
  refine j_icmp_ge (tgt := 85) x dX6_number_11 (by decide) (fun hc => absurd hc (by decide)) (fun hc => ?_)
  refine j_aload_n x dX6_number_14 rfl ?_
  refine j2_geti (k := 10) x hb dX6_number_15 jc_10 wfX6_188 (by decide) rfl ?_
  refine j_aload_n x dX6_number_18 rfl ?_
  refine j2_geti (k := 9) x hb dX6_number_19 jc_10 wfX6_185 (by decide) rfl ?_
  refine j_icmp_ge (tgt := 85) x dX6_number_22 (by decide) (fun hc => absurd hc (by rw [jm_n (by omega), jm_n (by omega), hat, h9]; exact nI_ge ha (by omega))) (fun hc => ?_)
  refine j_aload_n x dX6_number_25 rfl ?_
  refine j2_getr (k := 8) (r := 100) x hb dX6_number_26 jc_10 wfX6_25 (by decide) rfl ?_
  refine j_aload_n x dX6_number_29 rfl ?_
  refine j2_geti (k := 10) x hb dX6_number_30 jc_10 wfX6_188 (by decide) rfl ?_
  refine j2_cald x hb dX6_number_33 rfl (n := 60) (v := M 100 a) (by rw [jm_n (by omega), hat]; exact vp_in_nI (by omega) (by decide)) (by rw [jm_n (by omega), jm_n (by omega), hat, nI_clamp (by omega)]) ?_
  refine j_bipush (v := 48) x dX6_number_34 (by decide) ?_
  refine j_bipush (v := 57) x dX6_number_36 (by decide) ?_
  refine j2_callSi x hb dX6_number_38 m_X6_in (CM_v (cx_in (d := d) hb) (jb_t hd)) wmX6_64 rfl (Nat.le_of_ble_eq_true rfl) (j_fit_rm (by omega) (by omega) (by omega)) rfl ?_
  refine j_if_eq (tgt := 85) x dX6_number_41 (by decide) (fun hc => absurd hc (by decide)) (fun hc => ?_)
  refine j_aload_n x dX6_number_44 rfl ?_
  refine j2_getr (k := 12) (r := 101) x hb dX6_number_45 jc_10 wfX6_29 (by decide) rfl ?_
  refine j_iload_n x dX6_number_48 rfl ?_
  refine j_bipush (v := 10) x dX6_number_49 (by decide) ?_
  refine j_aload_n x dX6_number_51 rfl ?_
  refine j2_getr (k := 12) (r := 101) x hb dX6_number_52 jc_10 wfX6_29 (by decide) rfl ?_
  refine j_iload_n x dX6_number_55 rfl ?_
  refine j2_ialn x hb dX6_number_56 fa_101 (j := k) (vp_in_nI (by omega) (by decide)) (nI_clamp (by omega)) ?_
  refine j_imul x dX6_number_57 ?_
  refine j_aload_n x dX6_number_58 rfl ?_
  refine j2_getr (k := 8) (r := 100) x hb dX6_number_59 jc_10 wfX6_25 (by decide) rfl ?_
  refine j_aload_n x dX6_number_62 rfl ?_
  refine j_dup x dX6_number_63 rfl ?_
  refine j2_geti (k := 10) x hb dX6_number_64 jc_10 wfX6_188 (by decide) rfl ?_
  refine j_dup_x1 x dX6_number_67 rfl rfl ?_
  refine j_iconst (v := 1) x dX6_number_68 (by decide) ?_
  refine j_iadd x dX6_number_69 ?_
  refine j2_puti (k := 10) x hb dX6_number_70 jc_10 wfX6_188 (by decide) rfl rfl rfl rfl ?_
  refine j2_cald x hb dX6_number_73 rfl (n := 60) (v := M 100 a) (by rw [jm_n (by omega), hat]; exact vp_in_nI (by omega) (by decide)) (by rw [jm_n (by omega), jm_n (by omega), jm_n (by omega), hat, nI_clamp (by omega)]) ?_
  refine j_iadd x dX6_number_74 ?_
  refine j_bipush (v := 48) x dX6_number_75 (by decide) ?_
  refine j_isub x dX6_number_77 ?_
  refine j2_iasn x hb dX6_number_78 fa_101 (j := k) (vp_in_nI (by omega) (by decide)) (nI_clamp (by omega)) ?_
  refine j_iinc x dX6_number_79 rfl (by decide) rfl ?_
  refine j_goto (tgt := 9) x dX6_number_82 (by decide) ?_
  refine j_iload_n x dX6_number_9 rfl ?_
  refine j_iconst (v := 2) x dX6_number_10 (by decide) ?_
  refine j_icmp_ge (tgt := 85) x dX6_number_11 (by decide) (fun hc => absurd hc (by decide)) (fun hc => ?_)
  refine j_aload_n x dX6_number_14 rfl ?_
  refine j2_geti (k := 10) x hb dX6_number_15 jc_10 wfX6_188 (by decide) rfl ?_
  refine j_aload_n x dX6_number_18 rfl ?_
  refine j2_geti (k := 9) x hb dX6_number_19 jc_10 wfX6_185 (by decide) rfl ?_
  refine j_icmp_ge (tgt := 85) x dX6_number_22 (by decide) (fun hc => absurd hc (by change ¬ gN1 M k a 94 9 ≤ gN1 M k a 94 10; rw [gN1_len (M := M) (k := k) (a := a), gN1_at (M := M) (k := k) (a := a) hat, h9]; exact nI_ge he (by omega))) (fun hc => ?_)
  refine j_aload_n x dX6_number_25 rfl ?_
  refine j2_getr (k := 8) (r := 100) x hb dX6_number_26 jc_10 wfX6_25 (by decide) rfl ?_
  refine j_aload_n x dX6_number_29 rfl ?_
  refine j2_geti (k := 10) x hb dX6_number_30 jc_10 wfX6_188 (by decide) rfl ?_
  refine j2_cald x hb dX6_number_33 rfl (n := 60) (k := gN1 M k a 94 10) (v := M 100 (a + 1)) (by rw [gN1_at (M := M) (k := k) (a := a) hat]; exact vp_in_nI (by omega) (by decide)) (show gN1 M k a 100 (gN1 M k a 94 10).toNatClampNeg = _ from by rw [gN1_at (M := M) (k := k) (a := a) hat, nI_clamp (by omega), gN1_tx (M := M) (k := k) (a := a)]) ?_
  refine j_bipush (v := 48) x dX6_number_34 (by decide) ?_
  refine j_bipush (v := 57) x dX6_number_36 (by decide) ?_
  refine j2_callSi x hb dX6_number_38 m_X6_in (CM_v (cx_in (d := d) hb) (jb_f hd2)) wmX6_64 rfl (Nat.le_of_ble_eq_true rfl) (j_fit_rm (by omega) (by omega) (by omega)) rfl ?_
  refine j_if_eq (tgt := 85) x dX6_number_41 (by decide) (fun hc => ?_) (fun hc => absurd (rfl) hc)
  refine j_iload_n x dX6_number_85 rfl ?_
  refine j_if_le (tgt := 93) x dX6_number_86 (by decide) (fun hc => absurd hc (by decide)) (fun hc => ?_)
  refine j_iconst (v := 1) x dX6_number_89 (by decide) ?_
  refine j_goto (tgt := 94) x dX6_number_90 (by decide) ?_
  exact j_zreturn x hr dX6_number_94 (by first | decide | with_reducible exact jb_nar | with_reducible exact jisS_nar | with_reducible exact gno_nar) (by omega) (by omega) ⟨rfl, rfl⟩
theorem cx_number_2 {d : Nat} {b : SBt} {Y : OUt} {M : MM} (hb : 104 ≤ b.2.1) {k : Nat} (hk : k < 3) {a n : Nat} (hn : n ≤ 60) (h9 : M 94 9 = nI n) (hat : M 94 10 = nI a) (ha : a < n) (hd : isD 48 57 (M 100 a)) (he : a + 1 < n) (hd2 : isD 48 57 (M 100 (a + 1))) : CM (d + 1) 0 0 yX6_number cX6_number 3 (some .boolean) [.ref 94, .int (nI k)] b Y M (.inl (some (.int (1)))) (gN2 M k a) := by
  refine Con.of (by decide +kernel) (Nat.le_of_ble_eq_true rfl) rfl fun p l e s m args below meth c D tyc A ad0 x hr htab hname => ?_
  change JJ _ _ _ _ _ _ _ _ _ _ _ _ _ _ _ _ _ 0 [some (.ref 94), some (.int (nI k)), none] [] _ 0 0
  refine j_iconst (v := 0) x dX6_number_0 (by decide) ?_
  refine j_istore_n x dX6_number_1 (by decide) rfl ?_
  refine j_aload_n x dX6_number_2 rfl ?_
  refine j2_getr (k := 12) (r := 101) x hb dX6_number_3 jc_10 wfX6_29 (by decide) rfl ?_
  refine j_iload_n x dX6_number_6 rfl ?_
  refine j_iconst (v := 0) x dX6_number_7 (by decide) ?_
  refine j2_iasn x hb dX6_number_8 fa_101 (j := k) (vp_in_nI (by omega) (by decide)) (nI_clamp (by omega)) ?_
  refine j_iload_n x dX6_number_9 rfl ?_
  refine j_iconst (v := 2) x dX6_number_10 (by decide) ?_
  refine j_icmp_ge (tgt := 85) x dX6_number_11 (by decide) (fun hc => absurd hc (by decide)) (fun hc => ?_)
  refine j_aload_n x dX6_number_14 rfl ?_
  refine j2_geti (k := 10) x hb dX6_number_15 jc_10 wfX6_188 (by decide) rfl ?_
  refine j_aload_n x dX6_number_18 rfl ?_
  refine j2_geti (k := 9) x hb dX6_number_19 jc_10 wfX6_185 (by decide) rfl ?_
  refine j_icmp_ge (tgt := 85) x dX6_number_22 (by decide) (fun hc => absurd hc (by rw [jm_n (by omega), jm_n (by omega), hat, h9]; exact nI_ge ha (by omega))) (fun hc => ?_)
  refine j_aload_n x dX6_number_25 rfl ?_
  refine j2_getr (k := 8) (r := 100) x hb dX6_number_26 jc_10 wfX6_25 (by decide) rfl ?_
  refine j_aload_n x dX6_number_29 rfl ?_
  refine j2_geti (k := 10) x hb dX6_number_30 jc_10 wfX6_188 (by decide) rfl ?_
  refine j2_cald x hb dX6_number_33 rfl (n := 60) (v := M 100 a) (by rw [jm_n (by omega), hat]; exact vp_in_nI (by omega) (by decide)) (by rw [jm_n (by omega), jm_n (by omega), hat, nI_clamp (by omega)]) ?_
  refine j_bipush (v := 48) x dX6_number_34 (by decide) ?_
  refine j_bipush (v := 57) x dX6_number_36 (by decide) ?_
  refine j2_callSi x hb dX6_number_38 m_X6_in (CM_v (cx_in (d := d) hb) (jb_t hd)) wmX6_64 rfl (Nat.le_of_ble_eq_true rfl) (j_fit_rm (by omega) (by omega) (by omega)) rfl ?_
  refine j_if_eq (tgt := 85) x dX6_number_41 (by decide) (fun hc => absurd hc (by decide)) (fun hc => ?_)
  refine j_aload_n x dX6_number_44 rfl ?_
  refine j2_getr (k := 12) (r := 101) x hb dX6_number_45 jc_10 wfX6_29 (by decide) rfl ?_
  refine j_iload_n x dX6_number_48 rfl ?_
  refine j_bipush (v := 10) x dX6_number_49 (by decide) ?_
  refine j_aload_n x dX6_number_51 rfl ?_
  refine j2_getr (k := 12) (r := 101) x hb dX6_number_52 jc_10 wfX6_29 (by decide) rfl ?_
  refine j_iload_n x dX6_number_55 rfl ?_
  refine j2_ialn x hb dX6_number_56 fa_101 (j := k) (vp_in_nI (by omega) (by decide)) (nI_clamp (by omega)) ?_
  refine j_imul x dX6_number_57 ?_
  refine j_aload_n x dX6_number_58 rfl ?_
  refine j2_getr (k := 8) (r := 100) x hb dX6_number_59 jc_10 wfX6_25 (by decide) rfl ?_
  refine j_aload_n x dX6_number_62 rfl ?_
  refine j_dup x dX6_number_63 rfl ?_
  refine j2_geti (k := 10) x hb dX6_number_64 jc_10 wfX6_188 (by decide) rfl ?_
  refine j_dup_x1 x dX6_number_67 rfl rfl ?_
  refine j_iconst (v := 1) x dX6_number_68 (by decide) ?_
  refine j_iadd x dX6_number_69 ?_
  refine j2_puti (k := 10) x hb dX6_number_70 jc_10 wfX6_188 (by decide) rfl rfl rfl rfl ?_
  refine j2_cald x hb dX6_number_73 rfl (n := 60) (v := M 100 a) (by rw [jm_n (by omega), hat]; exact vp_in_nI (by omega) (by decide)) (by rw [jm_n (by omega), jm_n (by omega), jm_n (by omega), hat, nI_clamp (by omega)]) ?_
  refine j_iadd x dX6_number_74 ?_
  refine j_bipush (v := 48) x dX6_number_75 (by decide) ?_
  refine j_isub x dX6_number_77 ?_
  refine j2_iasn x hb dX6_number_78 fa_101 (j := k) (vp_in_nI (by omega) (by decide)) (nI_clamp (by omega)) ?_
  refine j_iinc x dX6_number_79 rfl (by decide) rfl ?_
  refine j_goto (tgt := 9) x dX6_number_82 (by decide) ?_
  refine j_iload_n x dX6_number_9 rfl ?_
  refine j_iconst (v := 2) x dX6_number_10 (by decide) ?_
  refine j_icmp_ge (tgt := 85) x dX6_number_11 (by decide) (fun hc => absurd hc (by decide)) (fun hc => ?_)
  refine j_aload_n x dX6_number_14 rfl ?_
  refine j2_geti (k := 10) x hb dX6_number_15 jc_10 wfX6_188 (by decide) rfl ?_
  refine j_aload_n x dX6_number_18 rfl ?_
  refine j2_geti (k := 9) x hb dX6_number_19 jc_10 wfX6_185 (by decide) rfl ?_
  refine j_icmp_ge (tgt := 85) x dX6_number_22 (by decide) (fun hc => absurd hc (by change ¬ gN1 M k a 94 9 ≤ gN1 M k a 94 10; rw [gN1_len (M := M) (k := k) (a := a), gN1_at (M := M) (k := k) (a := a) hat, h9]; exact nI_ge he (by omega))) (fun hc => ?_)
  refine j_aload_n x dX6_number_25 rfl ?_
  refine j2_getr (k := 8) (r := 100) x hb dX6_number_26 jc_10 wfX6_25 (by decide) rfl ?_
  refine j_aload_n x dX6_number_29 rfl ?_
  refine j2_geti (k := 10) x hb dX6_number_30 jc_10 wfX6_188 (by decide) rfl ?_
  refine j2_cald x hb dX6_number_33 rfl (n := 60) (k := gN1 M k a 94 10) (v := M 100 (a + 1)) (by rw [gN1_at (M := M) (k := k) (a := a) hat]; exact vp_in_nI (by omega) (by decide)) (show gN1 M k a 100 (gN1 M k a 94 10).toNatClampNeg = _ from by rw [gN1_at (M := M) (k := k) (a := a) hat, nI_clamp (by omega), gN1_tx (M := M) (k := k) (a := a)]) ?_
  refine j_bipush (v := 48) x dX6_number_34 (by decide) ?_
  refine j_bipush (v := 57) x dX6_number_36 (by decide) ?_
  refine j2_callSi x hb dX6_number_38 m_X6_in (CM_v (cx_in (d := d) hb) (jb_t hd2)) wmX6_64 rfl (Nat.le_of_ble_eq_true rfl) (j_fit_rm (by omega) (by omega) (by omega)) rfl ?_
  refine j_if_eq (tgt := 85) x dX6_number_41 (by decide) (fun hc => absurd hc (by decide)) (fun hc => ?_)
  refine j_aload_n x dX6_number_44 rfl ?_
  refine j2_getr (k := 12) (r := 101) x hb dX6_number_45 jc_10 wfX6_29 (by decide) rfl ?_
  refine j_iload_n x dX6_number_48 rfl ?_
  refine j_bipush (v := 10) x dX6_number_49 (by decide) ?_
  refine j_aload_n x dX6_number_51 rfl ?_
  refine j2_getr (k := 12) (r := 101) x hb dX6_number_52 jc_10 wfX6_29 (by decide) rfl ?_
  refine j_iload_n x dX6_number_55 rfl ?_
  refine j2_ialn x hb dX6_number_56 fa_101 (j := k) (vp_in_nI (by omega) (by decide)) (nI_clamp (by omega)) ?_
  refine j_imul x dX6_number_57 ?_
  refine j_aload_n x dX6_number_58 rfl ?_
  refine j2_getr (k := 8) (r := 100) x hb dX6_number_59 jc_10 wfX6_25 (by decide) rfl ?_
  refine j_aload_n x dX6_number_62 rfl ?_
  refine j_dup x dX6_number_63 rfl ?_
  refine j2_geti (k := 10) x hb dX6_number_64 jc_10 wfX6_188 (by decide) rfl ?_
  refine j_dup_x1 x dX6_number_67 rfl rfl ?_
  refine j_iconst (v := 1) x dX6_number_68 (by decide) ?_
  refine j_iadd x dX6_number_69 ?_
  refine j2_puti (k := 10) x hb dX6_number_70 jc_10 wfX6_188 (by decide) rfl rfl rfl rfl ?_
  refine j2_cald x hb dX6_number_73 rfl (n := 60) (k := gN1 M k a 94 10) (v := M 100 (a + 1)) (by rw [gN1_at (M := M) (k := k) (a := a) hat]; exact vp_in_nI (by omega) (by decide)) (show jm (gN1 M k a) 94 10 (gN1 M k a 94 10 + 1) 100 (gN1 M k a 94 10).toNatClampNeg = _ from by rw [jm_n (by omega), gN1_at (M := M) (k := k) (a := a) hat, nI_clamp (by omega), gN1_tx (M := M) (k := k) (a := a)]) ?_
  refine j_iadd x dX6_number_74 ?_
  refine j_bipush (v := 48) x dX6_number_75 (by decide) ?_
  refine j_isub x dX6_number_77 ?_
  refine j2_iasn x hb dX6_number_78 fa_101 (j := k) (vp_in_nI (by omega) (by decide)) (nI_clamp (by omega)) ?_
  refine j_iinc x dX6_number_79 rfl (by decide) rfl ?_
  refine j_goto (tgt := 9) x dX6_number_82 (by decide) ?_
  refine j_iload_n x dX6_number_9 rfl ?_
  refine j_iconst (v := 2) x dX6_number_10 (by decide) ?_
  refine j_icmp_ge (tgt := 85) x dX6_number_11 (by decide) (fun hc => ?_) (fun hc => absurd (by decide) hc)
  refine j_iload_n x dX6_number_85 rfl ?_
  refine j_if_le (tgt := 93) x dX6_number_86 (by decide) (fun hc => absurd hc (by decide)) (fun hc => ?_)
  refine j_iconst (v := 1) x dX6_number_89 (by decide) ?_
  refine j_goto (tgt := 94) x dX6_number_90 (by decide) ?_
  exact j_zreturn x hr dX6_number_94 (by first | decide | with_reducible exact jb_nar | with_reducible exact jisS_nar | with_reducible exact gno_nar) (by omega) (by omega) ⟨rfl, rfl⟩
def gDa (M : MM) (n a : Nat) : Nat → Nat
  | 0 => a
  | j + 1 => if gDa M n a j < n ∧ isD 48 52 (M 100 (gDa M n a j)) then gDa M n a j + 1 else gDa M n a j
def gDs (M : MM) (n a : Nat) : Nat → MM
  | 0 => M
  | j + 1 => if gDa M n a j < n ∧ isD 48 52 (M 100 (gDa M n a j)) then jm (jm (gDs M n a j) 94 10 ((gDs M n a j) 94 10 + 1)) 101 j (M 100 (gDa M n a j) - 48) else jm (gDs M n a j) 101 j (-1)
theorem gDa_le {M : MM} {n a : Nat} (ha : a ≤ n) : ∀ j, gDa M n a j ≤ n
  | 0 => ha
  | j + 1 => by have h := gDa_le (M := M) ha j; rw [gDa]; split <;> omega
theorem gDs_at {M : MM} {n a : Nat} (hat : M 94 10 = nI a) : ∀ j, gDs M n a j 94 10 = nI (gDa M n a j)
  | 0 => hat
  | j + 1 => by
    have h := gDs_at (n := n) hat j
    rw [gDs, gDa]; split
    · rw [jm_n (by omega), jm_s, h, nI_1]
    · rw [jm_n (by omega), h]
theorem gDs_len {M : MM} {n a : Nat} : ∀ j, gDs M n a j 94 9 = M 94 9
  | 0 => rfl
  | j + 1 => by
    have h := gDs_len (M := M) (n := n) (a := a) j
    rw [gDs]; split
    · rw [jm_n (by omega), jm_n (by omega), h]
    · rw [jm_n (by omega), h]
theorem gDs_tx {M : MM} {n a i : Nat} : ∀ j, gDs M n a j 100 i = M 100 i
  | 0 => rfl
  | j + 1 => by
    have h := gDs_tx (M := M) (n := n) (a := a) (i := i) j
    rw [gDs]; split
    · rw [jm_n (by omega), jm_n (by omega), h]
    · rw [jm_n (by omega), h]
theorem cx_digits {d : Nat} {b : SBt} {Y : OUt} {M : MM} (hb : 104 ≤ b.2.1) {a n : Nat} (hn : n ≤ 60) (h9 : M 94 9 = nI n) (hat : M 94 10 = nI a) (ha : a ≤ n) : CM (d + 1) 0 0 yX6_digits cX6_digits 2 (some .boolean) [.ref 94] b Y M (.inl (some (.int (1)))) (gDs M n a 3) := by
  refine Con.of (by decide +kernel) (Nat.le_of_ble_eq_true rfl) rfl fun p l e s m args below meth c D tyc A ad0 x hr htab hname => ?_
  change JJ _ _ _ _ _ _ _ _ _ _ _ _ _ _ _ _ _ 0 [some (.ref 94), none] [] _ 0 0
  refine j_iconst (v := 0) x dX6_digits_0 (by decide) ?_
  refine j_istore_n x dX6_digits_1 (by decide) rfl ?_
  refine j_for (3) (fun z0 => [some (.ref 94), some (.int (nI z0))]) (fun z0 => gDs M n a z0) (fun z0 => True) (rfl) (rfl) (trivial) (fun j hj hP ih => ?_) (fun hP => ?_)
  · have hle := gDa_le (M := M) ha j
    have hA := gDs_at (n := n) hat j
    have hN := gDs_len (M := M) (n := n) (a := a) j
    have hT := gDs_tx (M := M) (n := n) (a := a) (i := gDa M n a j) j
    refine j_iload_n x dX6_digits_2 rfl ?_
    refine j_iconst (v := 3) x dX6_digits_3 (by decide) ?_
    refine j_icmp_ge (tgt := 72) x dX6_digits_4 (by decide) (fun hc => absurd hc (nI_ge hj (by decide))) (fun hc => ?_)
    refine j_aload_n x dX6_digits_7 rfl ?_
    refine j2_getr (k := 12) (r := 101) x hb dX6_digits_8 jc_10 wfX6_29 (by decide) rfl ?_
    refine j_iload_n x dX6_digits_11 rfl ?_
    refine j_aload_n x dX6_digits_12 rfl ?_
    refine j2_geti (k := 10) x hb dX6_digits_13 jc_10 wfX6_188 (by decide) rfl ?_
    refine j_aload_n x dX6_digits_16 rfl ?_
    refine j2_geti (k := 9) x hb dX6_digits_17 jc_10 wfX6_185 (by decide) rfl ?_
    refine j_icmp_ge (tgt := 64) x dX6_digits_20 (by decide) (fun h1 => ?_) (fun h1 => ?_)
    · refine j_iconst (v := (-1)) x dX6_digits_64 (by decide) ?_
      refine j2_iasn x hb dX6_digits_65 fa_101 (j := j) (vp_in_nI (by omega) (by decide)) (nI_clamp (by omega)) ?_
      refine j_iinc x dX6_digits_66 rfl (by decide) rfl ?_
      refine j_goto (tgt := 2) x dX6_digits_69 (by decide) ?_
      exact j_goal (ih (trivial)) (wk_c rfl (wk_c (congrArg (fun z => some (Value.int z)) (nI_1 _)) (wk_0))) (if_neg (fun q => absurd h1 (by rw [hN, hA, h9]; exact nI_ge q.1 (by omega))))
    · refine j_aload_n x dX6_digits_23 rfl ?_
      refine j2_getr (k := 8) (r := 100) x hb dX6_digits_24 jc_10 wfX6_25 (by decide) rfl ?_
      refine j_aload_n x dX6_digits_27 rfl ?_
      refine j2_geti (k := 10) x hb dX6_digits_28 jc_10 wfX6_188 (by decide) rfl ?_
      refine j2_cald x hb dX6_digits_31 rfl (n := 60) (v := M 100 (gDa M n a j)) (by have q1 : gDa M n a j < n := Nat.lt_of_not_le (fun q => h1 (by rw [hN, hA, h9]; exact nI_le q (by omega))); rw [hA]; exact vp_in_nI (by omega) (by decide)) (by rw [hA, nI_clamp (by omega), hT]) ?_
      refine j_bipush (v := 48) x dX6_digits_32 (by decide) ?_
      refine j_bipush (v := 52) x dX6_digits_34 (by decide) ?_
      refine j2_callSi x hb dX6_digits_36 m_X6_in (cx_in (d := d) hb) wmX6_64 rfl (Nat.le_of_ble_eq_true rfl) (j_fit_rm (by omega) (by omega) (by omega)) rfl ?_
      refine j_if_eq (tgt := 64) x dX6_digits_39 (by decide) (fun h2 => ?_) (fun h2 => ?_)
      · refine j_iconst (v := (-1)) x dX6_digits_64 (by decide) ?_
        refine j2_iasn x hb dX6_digits_65 fa_101 (j := j) (vp_in_nI (by omega) (by decide)) (nI_clamp (by omega)) ?_
        refine j_iinc x dX6_digits_66 rfl (by decide) rfl ?_
        refine j_goto (tgt := 2) x dX6_digits_69 (by decide) ?_
        exact j_goal (ih (trivial)) (wk_c rfl (wk_c (congrArg (fun z => some (Value.int z)) (nI_1 _)) (wk_0))) (if_neg (fun q => jb_0.mp h2 q.2))
      · refine j_aload_n x dX6_digits_42 rfl ?_
        refine j2_getr (k := 8) (r := 100) x hb dX6_digits_43 jc_10 wfX6_25 (by decide) rfl ?_
        refine j_aload_n x dX6_digits_46 rfl ?_
        refine j_dup x dX6_digits_47 rfl ?_
        refine j2_geti (k := 10) x hb dX6_digits_48 jc_10 wfX6_188 (by decide) rfl ?_
        refine j_dup_x1 x dX6_digits_51 rfl rfl ?_
        refine j_iconst (v := 1) x dX6_digits_52 (by decide) ?_
        refine j_iadd x dX6_digits_53 ?_
        refine j2_puti (k := 10) x hb dX6_digits_54 jc_10 wfX6_188 (by decide) rfl rfl rfl rfl ?_
        refine j2_cald x hb dX6_digits_57 rfl (n := 60) (v := M 100 (gDa M n a j)) (by have q1 : gDa M n a j < n := Nat.lt_of_not_le (fun q => h1 (by rw [hN, hA, h9]; exact nI_le q (by omega))); rw [hA]; exact vp_in_nI (by omega) (by decide)) (by rw [jm_n (by omega), hA, nI_clamp (by omega), hT]) ?_
        refine j_bipush (v := 48) x dX6_digits_58 (by decide) ?_
        refine j_isub x dX6_digits_60 ?_
        refine j_goto (tgt := 65) x dX6_digits_61 (by decide) ?_
        refine j2_iasn x hb dX6_digits_65 fa_101 (j := j) (vp_in_nI (by omega) (by decide)) (nI_clamp (by omega)) ?_
        refine j_iinc x dX6_digits_66 rfl (by decide) rfl ?_
        refine j_goto (tgt := 2) x dX6_digits_69 (by decide) ?_
        exact j_goal (ih (trivial)) (wk_c rfl (wk_c (congrArg (fun z => some (Value.int z)) (nI_1 _)) (wk_0))) (by have q1 : gDa M n a j < n := Nat.lt_of_not_le (fun q => h1 (by rw [hN, hA, h9]; exact nI_le q (by omega))); exact if_pos ⟨q1, jb_nz.mp h2⟩)
  refine j_iload_n x dX6_digits_2 rfl ?_
  refine j_iconst (v := 3) x dX6_digits_3 (by decide) ?_
  refine j_icmp_ge (tgt := 72) x dX6_digits_4 (by decide) (fun hc => ?_) (fun hc => absurd (by decide) hc)
  refine j_iconst (v := 1) x dX6_digits_72 (by decide) ?_
  exact j_zreturn x hr dX6_digits_73 (by first | decide | with_reducible exact jb_nar | with_reducible exact jisS_nar | with_reducible exact gno_nar) (by omega) (by omega) ⟨rfl, rfl⟩
def gW (M : MM) (q v : Nat) : MM := jm (jm M 94 7 (nI (q + 1))) 99 q (nI (48 + v % 10))
theorem cx_writesNumber_1 {d : Nat} {b : SBt} {Y : OUt} {M : MM} (hb : 104 ≤ b.2.1) {q v : Nat} (hq : q < 40) (h7 : M 94 7 = nI q) (hv : v < 10) : CM (d) 0 0 yX6_writesNumber cX6_writesNumber 2 none [.ref 94, .int (nI v)] b Y M (.inl none) (gW M q v) := by
  refine Con.of (by decide +kernel) (Nat.le_of_ble_eq_true rfl) rfl fun p l e s m args below meth c D tyc A ad0 x hr htab hname => ?_
  change JJ _ _ _ _ _ _ _ _ _ _ _ _ _ _ _ _ _ 0 [some (.ref 94), some (.int (nI v))] [] _ 0 0
  refine j_iload_n x dX6_writesNumber_0 rfl ?_
  refine j_bipush (v := 9) x dX6_writesNumber_1 (by decide) ?_
  refine j_icmp_le (tgt := 14) x dX6_writesNumber_3 (by decide) (fun hc => ?_) (fun hc => absurd (show nI v ≤ nI 9 from nI_le (by omega) (by omega)) hc)
  refine j_aload_n x dX6_writesNumber_14 rfl ?_
  refine j2_getr (k := 6) (r := 99) x hb dX6_writesNumber_15 jc_10 wfX6_22 (by decide) rfl ?_
  refine j_aload_n x dX6_writesNumber_18 rfl ?_
  refine j_dup x dX6_writesNumber_19 rfl ?_
  refine j2_geti (k := 7) x hb dX6_writesNumber_20 jc_10 wfX6_218 (by decide) rfl ?_
  refine j_dup_x1 x dX6_writesNumber_23 rfl rfl ?_
  refine j_iconst (v := 1) x dX6_writesNumber_24 (by decide) ?_
  refine j_iadd x dX6_writesNumber_25 ?_
  refine j2_puti (k := 7) x hb dX6_writesNumber_26 jc_10 wfX6_218 (by decide) rfl rfl rfl rfl ?_
  refine j_bipush (v := 48) x dX6_writesNumber_29 (by decide) ?_
  refine j_iload_n x dX6_writesNumber_31 rfl ?_
  refine j_bipush (v := 10) x dX6_writesNumber_32 (by decide) ?_
  refine j_irem x dX6_writesNumber_34 (by decide) ?_; rw [show (10 : Int32) = nI 10 from rfl, nI_rem (by omega) (by omega) (by omega)]
  refine j_iadd x dX6_writesNumber_35 ?_; rw [show (48 : Int32) = nI 48 from rfl, nI_add]
  refine j2_iasn x hb dX6_writesNumber_36 fa_99 (j := q) (by rw [h7]; exact vp_in_nI (by omega) (by decide)) (by rw [h7]; exact nI_clamp (by omega)) ?_
  exact j_return x hr dX6_writesNumber_37 (by omega) (by omega) ⟨rfl, by rw [h7, nI_1]; rfl⟩
theorem cx_writesNumber_2 {d : Nat} {b : SBt} {Y : OUt} {M : MM} (hb : 104 ≤ b.2.1) {q v : Nat} (hq : q + 1 < 40) (h7 : M 94 7 = nI q) (hv : 9 < v) (hv2 : v < 100) : CM (d + 1) 0 0 yX6_writesNumber cX6_writesNumber 2 none [.ref 94, .int (nI v)] b Y M (.inl none) (gW (gW M q (v / 10)) (q + 1) v) := by
  refine Con.of (by decide +kernel) (Nat.le_of_ble_eq_true rfl) rfl fun p l e s m args below meth c D tyc A ad0 x hr htab hname => ?_
  change JJ _ _ _ _ _ _ _ _ _ _ _ _ _ _ _ _ _ 0 [some (.ref 94), some (.int (nI v))] [] _ 0 0
  refine j_iload_n x dX6_writesNumber_0 rfl ?_
  refine j_bipush (v := 9) x dX6_writesNumber_1 (by decide) ?_
  refine j_icmp_le (tgt := 14) x dX6_writesNumber_3 (by decide) (fun hc => absurd hc (show ¬ nI v ≤ nI 9 from nI_ge (by omega) (by omega))) (fun hc => ?_)
  refine j_aload_n x dX6_writesNumber_6 rfl ?_
  refine j_iload_n x dX6_writesNumber_7 rfl ?_
  refine j_bipush (v := 10) x dX6_writesNumber_8 (by decide) ?_
  refine j_idiv x dX6_writesNumber_10 (by decide) ?_; rw [show (10 : Int32) = nI 10 from rfl, nI_div2 (by omega) (by omega) (by omega)]
  refine j2_callVv x hb dX6_writesNumber_11 m_X6_writesNumber (cx_writesNumber_1 (d := d) hb (by omega) h7 (by omega)) wmX6_214 jc_10 rfl rfl rfl (Nat.le_of_ble_eq_true rfl) (j_fit_rm (by omega) (by omega) (by omega)) rfl ?_
  refine j_aload_n x dX6_writesNumber_14 rfl ?_
  refine j2_getr (k := 6) (r := 99) x hb dX6_writesNumber_15 jc_10 wfX6_22 (by decide) rfl ?_
  refine j_aload_n x dX6_writesNumber_18 rfl ?_
  refine j_dup x dX6_writesNumber_19 rfl ?_
  refine j2_geti (k := 7) x hb dX6_writesNumber_20 jc_10 wfX6_218 (by decide) rfl ?_
  refine j_dup_x1 x dX6_writesNumber_23 rfl rfl ?_
  refine j_iconst (v := 1) x dX6_writesNumber_24 (by decide) ?_
  refine j_iadd x dX6_writesNumber_25 ?_
  refine j2_puti (k := 7) x hb dX6_writesNumber_26 jc_10 wfX6_218 (by decide) rfl rfl rfl rfl ?_
  refine j_bipush (v := 48) x dX6_writesNumber_29 (by decide) ?_
  refine j_iload_n x dX6_writesNumber_31 rfl ?_
  refine j_bipush (v := 10) x dX6_writesNumber_32 (by decide) ?_
  refine j_irem x dX6_writesNumber_34 (by decide) ?_; rw [show (10 : Int32) = nI 10 from rfl, nI_rem (by omega) (by omega) (by omega)]
  refine j_iadd x dX6_writesNumber_35 ?_; rw [show (48 : Int32) = nI 48 from rfl, nI_add]
  refine j2_iasn x hb dX6_writesNumber_36 fa_99 (j := q + 1) (by rw [(show gW M q (v / 10) 94 7 = nI (q + 1) from by rw [gW, jm_n (by omega), jm_s])]; exact vp_in_nI (by omega) (by decide)) (by rw [(show gW M q (v / 10) 94 7 = nI (q + 1) from by rw [gW, jm_n (by omega), jm_s])]; exact nI_clamp (by omega)) ?_
  exact j_return x hr dX6_writesNumber_37 (by omega) (by omega) ⟨rfl, by rw [(show gW M q (v / 10) 94 7 = nI (q + 1) from by rw [gW, jm_n (by omega), jm_s]), nI_1]; rfl⟩
theorem cx_character_bad {d : Nat} {b : SBt} {Y : OUt} {M : MM} (hb : 104 ≤ b.2.1) {t : Int32} (hT : ¬ (¬ t < 0 ∧ ¬ M 94 7 - 1 < t)) : CM (d + 1) 0 0 yX6_character cX6_character 2 (some .char) [.ref 94, .int t] b Y M (.inl (some (.int (97)))) (jm M 94 19 1) := by
  refine Con.of (by decide +kernel) (Nat.le_of_ble_eq_true rfl) rfl fun p l e s m args below meth c D tyc A ad0 x hr htab hname => ?_
  change JJ _ _ _ _ _ _ _ _ _ _ _ _ _ _ _ _ _ 0 [some (.ref 94), some (.int t)] [] _ 0 0
  refine j_aload_n x dX6_character_0 rfl ?_
  refine j_iload_n x dX6_character_1 rfl ?_
  refine j_iconst (v := 0) x dX6_character_2 (by decide) ?_
  refine j_aload_n x dX6_character_3 rfl ?_
  refine j2_geti (k := 7) x hb dX6_character_4 jc_10 wfX6_218 (by decide) rfl ?_
  refine j_iconst (v := 1) x dX6_character_7 (by decide) ?_
  refine j_isub x dX6_character_8 ?_
  refine j2_callSi x hb dX6_character_9 m_X6_in (CM_v (cx_in (d := d) hb) (jb_f hT)) wmX6_64 rfl (Nat.le_of_ble_eq_true rfl) (j_fit_rm (by omega) (by omega) (by omega)) rfl ?_
  refine j_if_eq (tgt := 19) x dX6_character_12 (by decide) (fun hc => ?_) (fun hc => absurd (rfl) hc)
  refine j_iconst (v := 1) x dX6_character_19 (by decide) ?_
  refine j2_puti (k := 19) x hb dX6_character_20 jc_10 wfX6_36 (by decide) rfl rfl rfl rfl ?_
  refine j_aload_n x dX6_character_23 rfl ?_
  refine j2_geti (k := 19) x hb dX6_character_24 jc_10 wfX6_36 (by decide) rfl ?_
  refine j_if_ne (tgt := 40) x dX6_character_27 (by decide) (fun hc => ?_) (fun hc => absurd hc (by rw [jm_s]; decide))
  refine j_bipush (v := 97) x dX6_character_40 (by decide) ?_
  exact j_zreturn x hr dX6_character_42 (by first | decide | with_reducible exact jb_nar | with_reducible exact jisS_nar | with_reducible exact gno_nar) (by omega) (by omega) ⟨rfl, rfl⟩
theorem cx_character_ok {d : Nat} {b : SBt} {Y : OUt} {M : MM} (hb : 104 ≤ b.2.1) {i : Nat} {w : Int32} (hi : i < 40) (hT : ¬ nI i < 0 ∧ ¬ M 94 7 - 1 < nI i) (hw : ((M 99 i).toUInt32 % 65536).toInt32 = w) (hnar : narrow .char (.int w) = .int w) : CM (d + 1) 0 0 yX6_character cX6_character 2 (some .char) [.ref 94, .int (nI i)] b Y M (.inl (some (.int (w)))) (jm M 94 19 0) := by
  refine Con.of (by decide +kernel) (Nat.le_of_ble_eq_true rfl) rfl fun p l e s m args below meth c D tyc A ad0 x hr htab hname => ?_
  change JJ _ _ _ _ _ _ _ _ _ _ _ _ _ _ _ _ _ 0 [some (.ref 94), some (.int (nI i))] [] _ 0 0
  refine j_aload_n x dX6_character_0 rfl ?_
  refine j_iload_n x dX6_character_1 rfl ?_
  refine j_iconst (v := 0) x dX6_character_2 (by decide) ?_
  refine j_aload_n x dX6_character_3 rfl ?_
  refine j2_geti (k := 7) x hb dX6_character_4 jc_10 wfX6_218 (by decide) rfl ?_
  refine j_iconst (v := 1) x dX6_character_7 (by decide) ?_
  refine j_isub x dX6_character_8 ?_
  refine j2_callSi x hb dX6_character_9 m_X6_in (CM_v (cx_in (d := d) hb) (jb_t hT)) wmX6_64 rfl (Nat.le_of_ble_eq_true rfl) (j_fit_rm (by omega) (by omega) (by omega)) rfl ?_
  refine j_if_eq (tgt := 19) x dX6_character_12 (by decide) (fun hc => absurd hc (by decide)) (fun hc => ?_)
  refine j_iconst (v := 0) x dX6_character_15 (by decide) ?_
  refine j_goto (tgt := 20) x dX6_character_16 (by decide) ?_
  refine j2_puti (k := 19) x hb dX6_character_20 jc_10 wfX6_36 (by decide) rfl rfl rfl rfl ?_
  refine j_aload_n x dX6_character_23 rfl ?_
  refine j2_geti (k := 19) x hb dX6_character_24 jc_10 wfX6_36 (by decide) rfl ?_
  refine j_if_ne (tgt := 40) x dX6_character_27 (by decide) (fun hc => absurd hc (fun q => q (by rw [jm_s]))) (fun hc => ?_)
  refine j_aload_n x dX6_character_30 rfl ?_
  refine j2_getr (k := 6) (r := 99) x hb dX6_character_31 jc_10 wfX6_22 (by decide) rfl ?_
  refine j_iload_n x dX6_character_34 rfl ?_
  refine j2_ialn x hb dX6_character_35 fa_99 (j := i) (vp_in_nI (by omega) (by decide)) (nI_clamp (by omega)) ?_
  refine j_i2c x dX6_character_36 ?_; rw [jm_n (by omega), hw]
  refine j_goto (tgt := 42) x dX6_character_37 (by decide) ?_
  exact j_zreturn x hr dX6_character_42 hnar (by omega) (by omega) ⟨rfl, rfl⟩
end
