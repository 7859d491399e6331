/-! ===== the class's line; a character of it ===== -/
theorem sbI_c {b : SBt} {M N : MM} {n : Nat} (h : sbI b M n) (hN : ∀ i k, ¬ (i < 92 ∨ (93 < i ∧ i < 94)) → N i k = M i k) : sbI b N n := by
  obtain ⟨h1, h2, h3, h4, h5, h6⟩ := h
  have := isB_ne h1
  exact ⟨h1, h2, h3, h4, by rw [hN 92 1 (by omega)]; exact h5, fun k => by rw [hN b.1 k (by omega)]; exact h6 k⟩
/-- the first c bytes of the line -/
def sbT (b : SBt) (N : MM) (c : Nat) (T : Nat → Int32) : Prop := ∀ k, k < c → N b.1 k = T k
def ln0 : Nat × (Nat → Int32) := (0, fun _ => 0)
def lnC (x : Nat × (Nat → Int32)) (w : Int32) : Nat × (Nat → Int32) := (x.1 + 1, fun k => if k < x.1 then x.2 k else vp_nar .byte w)
def lnI (x : Nat × (Nat → Int32)) (v : Nat) : Nat × (Nat → Int32) := (x.1 + dg v, fun k => if k < x.1 then x.2 k else dgB v (k - x.1))
def lnT (t0 a1 a2 a3 a4 a5 a6 : Nat) : Nat × (Nat → Int32) := lnI (lnC (lnI (lnC (lnI (lnC (lnI (lnC (lnI (lnC (lnI (lnC (lnI ln0 t0) 58) a1) 32) a2) 45) a3) 45) a4) 32) a5) 58) a6
def lnM (x : Nat × (Nat → Int32)) (m : Nat) : Nat × (Nat → Int32) := if m = 1 then lnC x 42 else if m = 2 then lnC x 120 else x
def lnK (M : MM) (t0 w : Nat) : Nat := if ¬ jb (jfst (fSafe M (nI t0)) w = -1) = 0 then 1 else if ¬ jb (¬ jfst (fOut M (nI t0)) w = -1) = 0 then 2 else 0
theorem sbT_C {b b2 : SBt} {N N2 : MM} {x : Nat × (Nat → Int32)} {w : Int32} (h : sbT b N x.1 x.2) (hA : ∀ k, k < x.1 → N2 b2.1 k = N b.1 k) (hB : N2 b2.1 x.1 = vp_nar .byte w) : sbT b2 N2 (lnC x w).1 (lnC x w).2 := fun k hk => by
  have hk : k < x.1 + 1 := hk
  show N2 b2.1 k = if k < x.1 then x.2 k else vp_nar .byte w
  by_cases c : k < x.1
  · rw [if_pos c, hA k c]; exact h k c
  · rw [if_neg c, show k = x.1 by omega]; exact hB
theorem sbT_I {b b2 : SBt} {N N2 : MM} {x : Nat × (Nat → Int32)} {v : Nat} (h : sbT b N x.1 x.2) (hA : ∀ k, k < x.1 → N2 b2.1 k = N b.1 k) (hB : ∀ j, j < dg v → N2 b2.1 (x.1 + j) = dgB v j) : sbT b2 N2 (lnI x v).1 (lnI x v).2 := fun k hk => by
  have hk : k < x.1 + dg v := hk
  show N2 b2.1 k = if k < x.1 then x.2 k else dgB v (k - x.1)
  by_cases c : k < x.1
  · rw [if_pos c, hA k c]; exact h k c
  · rw [if_neg c]
    have := hB (k - x.1) (by omega)
    rw [show x.1 + (k - x.1) = k by omega] at this
    exact this
theorem sbG_row {M N : MM} (h : sbG M N) {i : Nat} (hi : i < 92) : N i = M i := funext fun k => h i k (by omega)
theorem fSafe_G {M N : MM} {t : Int32} (h : sbG M N) : fSafe N t = fSafe M t := funext fun i => by
  unfold fSafe jreach
  rw [sbG_row h (i := 76) (by decide), sbG_row h (i := 83) (by decide), sbG_row h (i := 1) (by decide)]
theorem fOut_G {M N : MM} {t : Int32} (h : sbG M N) : fOut N t = fOut M t := funext fun i => by
  unfold fOut jreach
  rw [sbG_row h (i := 76) (by decide), sbG_row h (i := 83) (by decide), sbG_row h (i := 1) (by decide)]
theorem c_line {d : Nat} {b : SBt} {Y : OUt} {M : MM} (hb : 94 ≤ b.2.1) {t0 : Nat} (ht0 : t0 < 8) (hT : ¬ nI t0 < 0 ∧ ¬ M 1 0 ≤ nI t0) {n : Nat} (hn : n ≤ 56) (hm : jmc M = nI n) {w : Nat} (hw : w ≤ 8) (h0 : M 1 0 = nI w) {z0 : Nat} (hI : sbI b M z0) (hz : z0 ≤ 202) {c1 : Nat} (hc : M 92 3 = nI c1) (hc1 : c1 < 2 ^ 31) {v76 v77 v78 v79 v80 v81 : Nat} (w76 : v76 < 10000) (hv76 : jat 8 (jcount M n 76) (nI t0) = nI v76) (w77 : v77 < 10000) (hv77 : jat 8 (jcount M n 77) (nI t0) = nI v77) (w78 : v78 < 10000) (hv78 : jat 8 (jcount M n 78) (nI t0) = nI v78) (w79 : v79 < 10000) (hv79 : jat 8 (jcount M n 79) (nI t0) = nI v79) (w80 : v80 < 10000) (hv80 : jat 8 (jcount M n 80) (nI t0) = nI v80) (w81 : v81 < 10000) (hv81 : jat 8 (jcount M n 81) (nI t0) = nI v81) : Con (d + 6) 14 2828 yX5_line cX5_line 2 (some .int) [.ref 0, .int (nI t0)] (HH b Y M) (fun o k => ∃ c1 b2 N n2, c1 ≤ 100 ∧ o = .inl (some (.int (nI c1))) ∧ k = HH b2 Y N ∧ sbI b2 N n2 ∧ n2 ≤ 202 ∧ c1 ≤ n2 ∧ sbG (jcount M n) N ∧ N 92 3 = nI c1 ∧ ∃ mk : Nat, mk = lnK (jcount M n) t0 w ∧ c1 = (lnM (lnT t0 v76 v77 v78 v79 v80 v81) mk).1 ∧ sbT b2 N (lnM (lnT t0 v76 v77 v78 v79 v80 v81) mk).1 (lnM (lnT t0 v76 v77 v78 v79 v80 v81) mk).2) := by
  have hb0 := hb
  have d0 := dg_le t0
  have d76 := dg_le v76
  have d77 := dg_le v77
  have d78 := dg_le v78
  have d79 := dg_le v79
  have d80 := dg_le v80
  have d81 := dg_le v81
  have hI0 : sbI b (jcount M n) z0 := sbI_c hI fun i k q => jcount_n (by omega)
  have hn0 := hz
  have hc0 : jcount M n 92 3 = nI c1 := by rw [jcount_n (by omega)]; exact hc
  refine Con.of (by decide +kernel) (Nat.le_of_ble_eq_true rfl) rfl fun p l e s m args below meth c D tyc A ad0 x hr htab hname => ?_
  change JJ _ _ _ _ _ _ _ _ _ _ _ _ _ _ _ _ _ 0 [some (.ref 0), some (.int (nI t0))] [] _ 0 0
  refine j_aload_n x dX5_line_0 rfl ?_
  refine j_iload_n x dX5_line_1 rfl ?_
  refine j2_callVi x hb0 dX5_line_2 m_X5_isTeam (CM_v (c_isTeam (d := d) hb) (jb_t hT)) wmX5_174 jc_9 rfl rfl rfl (Nat.le_of_ble_eq_true rfl) (j_fit_rm (by omega) (by omega) (by omega)) rfl ?_
  refine j_if_ne (tgt := 18) x dX5_line_5 (by decide) (fun hc => ?_) (fun hc => absurd hc (by decide))
  refine j_aload_n x dX5_line_18 rfl ?_
  refine j2_callVv x hb0 dX5_line_19 m_X5_count (c_count (d := d) hb0 hn hm) wmX5_187 jc_9 rfl rfl rfl (Nat.le_of_ble_eq_true rfl) (j_fit_rm (by omega) (by omega) (by omega)) rfl ?_
  refine j_aload_n x dX5_line_22 rfl ?_
  refine j2_getr (k := 13) (r := 92) x hb0 dX5_line_23 jc_9 wfX5_58 (by decide) rfl ?_
  refine j_iconst (v := 0) x dX5_line_26 (by decide) ?_
  refine j_callV x dX5_line_27 (c_setLen (d := d) (Y := Y) hb0 hI0 hn0 hc0 hc1) m_J4_setLength_d00df wmX5_354 jc_1 rfl (show 92 < _ from Nat.lt_of_lt_of_le (by decide) hb0) rfl rfl (Nat.le_of_ble_eq_true rfl) (j_fit_rm (by omega) (by omega) (by omega)) rfl (fun E k z => by cases z.1) (fun v h1 hQ => ?_)
  obtain ⟨ho, N1, rfl, hI1, hG1, hc1⟩ := hQ
  cases ho
  change JJ _ _ _ _ _ _ _ _ _ _ _ _ _ _ _ _ _ _ _ [] (HH b Y N1) _ _
  have hb1 := hb0
  have hn1 := hn0
  have hc1 : N1 92 3 = nI 0 := hc1
  have hm1 : 0 ≤ z0 := Nat.zero_le _
  have hT1 : sbT b N1 ln0.1 ln0.2 := fun k hk => absurd hk (Nat.not_lt_zero k)
  refine j_aload_n x dX5_line_30 rfl ?_
  refine j2_getr (k := 13) (r := 92) x hb1 dX5_line_31 jc_9 wfX5_58 (by decide) rfl ?_
  refine j_iload_n x dX5_line_34 rfl ?_
  refine j_callV x dX5_line_35 (c_appI (d := d) (Y := Y) hb1 hI1 hn1 hc1 hm1 (by omega) (v1 := t0) (by omega)) m_J4_append_bf812 wmX5_357 jc_1 rfl (show 92 < _ from Nat.lt_of_lt_of_le (by decide) hb1) rfl rfl (Nat.le_of_ble_eq_true rfl) (j_fit_rm (by omega) (Nat.le_of_ble_eq_true rfl) (Nat.le_of_ble_eq_true rfl)) rfl (fun E k z => by cases z.1) (fun v h1 hQ => ?_)
  obtain ⟨ho, b2, N2, n2, rfl, hI2, hn2, hm2, hF2, hc2, hA2, hB2⟩ := hQ
  have hT2 : sbT b2 N2 (lnI ln0 t0).1 (lnI ln0 t0).2 := sbT_I hT1 hA2 hB2
  cases ho
  change JJ _ _ _ _ _ _ _ _ _ _ _ _ _ _ _ _ _ _ _ [.ref 92] (HH b2 Y N2) _ _
  have hb2 : 94 ≤ b2.2.1 := hI2.2.2.1
  have hG2 := sbG_t hG1 hF2
  refine j_bipush (v := 58) x dX5_line_38 (by decide) ?_
  refine j_callV x dX5_line_40 (c_appC (d := d) (Y := Y) hb2 hI2 hn2 hc2 hm2 (by omega) (t := 58) (by decide)) m_J4_append_cf468 wmX5_361 jc_1 rfl (show 92 < _ from Nat.lt_of_lt_of_le (by decide) hb2) rfl rfl (Nat.le_of_ble_eq_true rfl) (j_fit_rm (by omega) (Nat.le_of_ble_eq_true rfl) (Nat.le_of_ble_eq_true rfl)) rfl (fun E k z => by cases z.1) (fun v h1 hQ => ?_)
  obtain ⟨ho, b3, N3, n3, rfl, hI3, hn3, hm3, hF3, hc3, hA3, hB3⟩ := hQ
  have hT3 : sbT b3 N3 (lnC (lnI ln0 t0) 58).1 (lnC (lnI ln0 t0) 58).2 := sbT_C hT2 hA3 hB3
  cases ho
  change JJ _ _ _ _ _ _ _ _ _ _ _ _ _ _ _ _ _ _ _ [.ref 92] (HH b3 Y N3) _ _
  have hb3 : 94 ≤ b3.2.1 := hI3.2.2.1
  have hG3 := sbG_t hG2 hF3
  refine j_aload_n x dX5_line_43 rfl ?_
  refine j2_getr (k := 5) (r := 75) x hb3 dX5_line_44 jc_9 wfX5_36 (by decide) rfl ?_
  refine j2_getr (k := 3) (r := 76) x hb3 dX5_line_47 jc_7 wfX5_190 (by decide) rfl ?_
  refine j_iload_n x dX5_line_50 rfl ?_
  refine j2_callSi x hb3 dX5_line_51 m_X5_at (c_at (d := d) hb3 fa_76 (by decide)) wmX5_93 rfl (Nat.le_of_ble_eq_true rfl) (j_fit_rm (by omega) (Nat.le_of_ble_eq_true rfl) (Nat.le_of_ble_eq_true rfl)) rfl ?_
  rw [show jat 8 (N3 76) (nI t0) = nI v76 from (congrArg (fun f => jat 8 f (nI t0)) (funext fun q => hG3 76 q (by omega))).trans hv76]
  refine j_callV x dX5_line_54 (c_appI (d := d) (Y := Y) hb3 hI3 hn3 hc3 hm3 (by omega) (v1 := v76) (by omega)) m_J4_append_bf812 wmX5_357 jc_1 rfl (show 92 < _ from Nat.lt_of_lt_of_le (by decide) hb3) rfl rfl (Nat.le_of_ble_eq_true rfl) (j_fit_rm (by omega) (Nat.le_of_ble_eq_true rfl) (Nat.le_of_ble_eq_true rfl)) rfl (fun E k z => by cases z.1) (fun v h1 hQ => ?_)
  obtain ⟨ho, b4, N4, n4, rfl, hI4, hn4, hm4, hF4, hc4, hA4, hB4⟩ := hQ
  have hT4 : sbT b4 N4 (lnI (lnC (lnI ln0 t0) 58) v76).1 (lnI (lnC (lnI ln0 t0) 58) v76).2 := sbT_I hT3 hA4 hB4
  cases ho
  change JJ _ _ _ _ _ _ _ _ _ _ _ _ _ _ _ _ _ _ _ [.ref 92] (HH b4 Y N4) _ _
  have hb4 : 94 ≤ b4.2.1 := hI4.2.2.1
  have hG4 := sbG_t hG3 hF4
  refine j_pop x dX5_line_57 rfl ?_
  refine j_aload_n x dX5_line_58 rfl ?_
  refine j2_getr (k := 13) (r := 92) x hb4 dX5_line_59 jc_9 wfX5_58 (by decide) rfl ?_
  refine j_bipush (v := 32) x dX5_line_62 (by decide) ?_
  refine j_callV x dX5_line_64 (c_appC (d := d) (Y := Y) hb4 hI4 hn4 hc4 hm4 (by omega) (t := 32) (by decide)) m_J4_append_cf468 wmX5_361 jc_1 rfl (show 92 < _ from Nat.lt_of_lt_of_le (by decide) hb4) rfl rfl (Nat.le_of_ble_eq_true rfl) (j_fit_rm (by omega) (Nat.le_of_ble_eq_true rfl) (Nat.le_of_ble_eq_true rfl)) rfl (fun E k z => by cases z.1) (fun v h1 hQ => ?_)
  obtain ⟨ho, b5, N5, n5, rfl, hI5, hn5, hm5, hF5, hc5, hA5, hB5⟩ := hQ
  have hT5 : sbT b5 N5 (lnC (lnI (lnC (lnI ln0 t0) 58) v76) 32).1 (lnC (lnI (lnC (lnI ln0 t0) 58) v76) 32).2 := sbT_C hT4 hA5 hB5
  cases ho
  change JJ _ _ _ _ _ _ _ _ _ _ _ _ _ _ _ _ _ _ _ [.ref 92] (HH b5 Y N5) _ _
  have hb5 : 94 ≤ b5.2.1 := hI5.2.2.1
  have hG5 := sbG_t hG4 hF5
  refine j_aload_n x dX5_line_67 rfl ?_
  refine j2_getr (k := 5) (r := 75) x hb5 dX5_line_68 jc_9 wfX5_36 (by decide) rfl ?_
  refine j2_getr (k := 4) (r := 77) x hb5 dX5_line_71 jc_7 wfX5_193 (by decide) rfl ?_
  refine j_iload_n x dX5_line_74 rfl ?_
  refine j2_callSi x hb5 dX5_line_75 m_X5_at (c_at (d := d) hb5 fa_77 (by decide)) wmX5_93 rfl (Nat.le_of_ble_eq_true rfl) (j_fit_rm (by omega) (Nat.le_of_ble_eq_true rfl) (Nat.le_of_ble_eq_true rfl)) rfl ?_
  rw [show jat 8 (N5 77) (nI t0) = nI v77 from (congrArg (fun f => jat 8 f (nI t0)) (funext fun q => hG5 77 q (by omega))).trans hv77]
  refine j_callV x dX5_line_78 (c_appI (d := d) (Y := Y) hb5 hI5 hn5 hc5 hm5 (by omega) (v1 := v77) (by omega)) m_J4_append_bf812 wmX5_357 jc_1 rfl (show 92 < _ from Nat.lt_of_lt_of_le (by decide) hb5) rfl rfl (Nat.le_of_ble_eq_true rfl) (j_fit_rm (by omega) (Nat.le_of_ble_eq_true rfl) (Nat.le_of_ble_eq_true rfl)) rfl (fun E k z => by cases z.1) (fun v h1 hQ => ?_)
  obtain ⟨ho, b6, N6, n6, rfl, hI6, hn6, hm6, hF6, hc6, hA6, hB6⟩ := hQ
  have hT6 : sbT b6 N6 (lnI (lnC (lnI (lnC (lnI ln0 t0) 58) v76) 32) v77).1 (lnI (lnC (lnI (lnC (lnI ln0 t0) 58) v76) 32) v77).2 := sbT_I hT5 hA6 hB6
  cases ho
  change JJ _ _ _ _ _ _ _ _ _ _ _ _ _ _ _ _ _ _ _ [.ref 92] (HH b6 Y N6) _ _
  have hb6 : 94 ≤ b6.2.1 := hI6.2.2.1
  have hG6 := sbG_t hG5 hF6
  refine j_pop x dX5_line_81 rfl ?_
  refine j_aload_n x dX5_line_82 rfl ?_
  refine j2_getr (k := 13) (r := 92) x hb6 dX5_line_83 jc_9 wfX5_58 (by decide) rfl ?_
  refine j_bipush (v := 45) x dX5_line_86 (by decide) ?_
  refine j_callV x dX5_line_88 (c_appC (d := d) (Y := Y) hb6 hI6 hn6 hc6 hm6 (by omega) (t := 45) (by decide)) m_J4_append_cf468 wmX5_361 jc_1 rfl (show 92 < _ from Nat.lt_of_lt_of_le (by decide) hb6) rfl rfl (Nat.le_of_ble_eq_true rfl) (j_fit_rm (by omega) (Nat.le_of_ble_eq_true rfl) (Nat.le_of_ble_eq_true rfl)) rfl (fun E k z => by cases z.1) (fun v h1 hQ => ?_)
  obtain ⟨ho, b7, N7, n7, rfl, hI7, hn7, hm7, hF7, hc7, hA7, hB7⟩ := hQ
  have hT7 : sbT b7 N7 (lnC (lnI (lnC (lnI (lnC (lnI ln0 t0) 58) v76) 32) v77) 45).1 (lnC (lnI (lnC (lnI (lnC (lnI ln0 t0) 58) v76) 32) v77) 45).2 := sbT_C hT6 hA7 hB7
  cases ho
  change JJ _ _ _ _ _ _ _ _ _ _ _ _ _ _ _ _ _ _ _ [.ref 92] (HH b7 Y N7) _ _
  have hb7 : 94 ≤ b7.2.1 := hI7.2.2.1
  have hG7 := sbG_t hG6 hF7
  refine j_aload_n x dX5_line_91 rfl ?_
  refine j2_getr (k := 5) (r := 75) x hb7 dX5_line_92 jc_9 wfX5_36 (by decide) rfl ?_
  refine j2_getr (k := 5) (r := 78) x hb7 dX5_line_95 jc_7 wfX5_196 (by decide) rfl ?_
  refine j_iload_n x dX5_line_98 rfl ?_
  refine j2_callSi x hb7 dX5_line_99 m_X5_at (c_at (d := d) hb7 fa_78 (by decide)) wmX5_93 rfl (Nat.le_of_ble_eq_true rfl) (j_fit_rm (by omega) (Nat.le_of_ble_eq_true rfl) (Nat.le_of_ble_eq_true rfl)) rfl ?_
  rw [show jat 8 (N7 78) (nI t0) = nI v78 from (congrArg (fun f => jat 8 f (nI t0)) (funext fun q => hG7 78 q (by omega))).trans hv78]
  refine j_callV x dX5_line_102 (c_appI (d := d) (Y := Y) hb7 hI7 hn7 hc7 hm7 (by omega) (v1 := v78) (by omega)) m_J4_append_bf812 wmX5_357 jc_1 rfl (show 92 < _ from Nat.lt_of_lt_of_le (by decide) hb7) rfl rfl (Nat.le_of_ble_eq_true rfl) (j_fit_rm (by omega) (Nat.le_of_ble_eq_true rfl) (Nat.le_of_ble_eq_true rfl)) rfl (fun E k z => by cases z.1) (fun v h1 hQ => ?_)
  obtain ⟨ho, b8, N8, n8, rfl, hI8, hn8, hm8, hF8, hc8, hA8, hB8⟩ := hQ
  have hT8 : sbT b8 N8 (lnI (lnC (lnI (lnC (lnI (lnC (lnI ln0 t0) 58) v76) 32) v77) 45) v78).1 (lnI (lnC (lnI (lnC (lnI (lnC (lnI ln0 t0) 58) v76) 32) v77) 45) v78).2 := sbT_I hT7 hA8 hB8
  cases ho
  change JJ _ _ _ _ _ _ _ _ _ _ _ _ _ _ _ _ _ _ _ [.ref 92] (HH b8 Y N8) _ _
  have hb8 : 94 ≤ b8.2.1 := hI8.2.2.1
  have hG8 := sbG_t hG7 hF8
  refine j_pop x dX5_line_105 rfl ?_
  refine j_aload_n x dX5_line_106 rfl ?_
  refine j2_getr (k := 13) (r := 92) x hb8 dX5_line_107 jc_9 wfX5_58 (by decide) rfl ?_
  refine j_bipush (v := 45) x dX5_line_110 (by decide) ?_
  refine j_callV x dX5_line_112 (c_appC (d := d) (Y := Y) hb8 hI8 hn8 hc8 hm8 (by omega) (t := 45) (by decide)) m_J4_append_cf468 wmX5_361 jc_1 rfl (show 92 < _ from Nat.lt_of_lt_of_le (by decide) hb8) rfl rfl (Nat.le_of_ble_eq_true rfl) (j_fit_rm (by omega) (Nat.le_of_ble_eq_true rfl) (Nat.le_of_ble_eq_true rfl)) rfl (fun E k z => by cases z.1) (fun v h1 hQ => ?_)
  obtain ⟨ho, b9, N9, n9, rfl, hI9, hn9, hm9, hF9, hc9, hA9, hB9⟩ := hQ
  have hT9 : sbT b9 N9 (lnC (lnI (lnC (lnI (lnC (lnI (lnC (lnI ln0 t0) 58) v76) 32) v77) 45) v78) 45).1 (lnC (lnI (lnC (lnI (lnC (lnI (lnC (lnI ln0 t0) 58) v76) 32) v77) 45) v78) 45).2 := sbT_C hT8 hA9 hB9
  cases ho
  change JJ _ _ _ _ _ _ _ _ _ _ _ _ _ _ _ _ _ _ _ [.ref 92] (HH b9 Y N9) _ _
  have hb9 : 94 ≤ b9.2.1 := hI9.2.2.1
  have hG9 := sbG_t hG8 hF9
  refine j_aload_n x dX5_line_115 rfl ?_
  refine j2_getr (k := 5) (r := 75) x hb9 dX5_line_116 jc_9 wfX5_36 (by decide) rfl ?_
  refine j2_getr (k := 6) (r := 79) x hb9 dX5_line_119 jc_7 wfX5_199 (by decide) rfl ?_
  refine j_iload_n x dX5_line_122 rfl ?_
  refine j2_callSi x hb9 dX5_line_123 m_X5_at (c_at (d := d) hb9 fa_79 (by decide)) wmX5_93 rfl (Nat.le_of_ble_eq_true rfl) (j_fit_rm (by omega) (Nat.le_of_ble_eq_true rfl) (Nat.le_of_ble_eq_true rfl)) rfl ?_
  rw [show jat 8 (N9 79) (nI t0) = nI v79 from (congrArg (fun f => jat 8 f (nI t0)) (funext fun q => hG9 79 q (by omega))).trans hv79]
  refine j_callV x dX5_line_126 (c_appI (d := d) (Y := Y) hb9 hI9 hn9 hc9 hm9 (by omega) (v1 := v79) (by omega)) m_J4_append_bf812 wmX5_357 jc_1 rfl (show 92 < _ from Nat.lt_of_lt_of_le (by decide) hb9) rfl rfl (Nat.le_of_ble_eq_true rfl) (j_fit_rm (by omega) (Nat.le_of_ble_eq_true rfl) (Nat.le_of_ble_eq_true rfl)) rfl (fun E k z => by cases z.1) (fun v h1 hQ => ?_)
  obtain ⟨ho, b10, N10, n10, rfl, hI10, hn10, hm10, hF10, hc10, hA10, hB10⟩ := hQ
  have hT10 : sbT b10 N10 (lnI (lnC (lnI (lnC (lnI (lnC (lnI (lnC (lnI ln0 t0) 58) v76) 32) v77) 45) v78) 45) v79).1 (lnI (lnC (lnI (lnC (lnI (lnC (lnI (lnC (lnI ln0 t0) 58) v76) 32) v77) 45) v78) 45) v79).2 := sbT_I hT9 hA10 hB10
  cases ho
  change JJ _ _ _ _ _ _ _ _ _ _ _ _ _ _ _ _ _ _ _ [.ref 92] (HH b10 Y N10) _ _
  have hb10 : 94 ≤ b10.2.1 := hI10.2.2.1
  have hG10 := sbG_t hG9 hF10
  refine j_pop x dX5_line_129 rfl ?_
  refine j_aload_n x dX5_line_130 rfl ?_
  refine j2_getr (k := 13) (r := 92) x hb10 dX5_line_131 jc_9 wfX5_58 (by decide) rfl ?_
  refine j_bipush (v := 32) x dX5_line_134 (by decide) ?_
  refine j_callV x dX5_line_136 (c_appC (d := d) (Y := Y) hb10 hI10 hn10 hc10 hm10 (by omega) (t := 32) (by decide)) m_J4_append_cf468 wmX5_361 jc_1 rfl (show 92 < _ from Nat.lt_of_lt_of_le (by decide) hb10) rfl rfl (Nat.le_of_ble_eq_true rfl) (j_fit_rm (by omega) (Nat.le_of_ble_eq_true rfl) (Nat.le_of_ble_eq_true rfl)) rfl (fun E k z => by cases z.1) (fun v h1 hQ => ?_)
  obtain ⟨ho, b11, N11, n11, rfl, hI11, hn11, hm11, hF11, hc11, hA11, hB11⟩ := hQ
  have hT11 : sbT b11 N11 (lnC (lnI (lnC (lnI (lnC (lnI (lnC (lnI (lnC (lnI ln0 t0) 58) v76) 32) v77) 45) v78) 45) v79) 32).1 (lnC (lnI (lnC (lnI (lnC (lnI (lnC (lnI (lnC (lnI ln0 t0) 58) v76) 32) v77) 45) v78) 45) v79) 32).2 := sbT_C hT10 hA11 hB11
  cases ho
  change JJ _ _ _ _ _ _ _ _ _ _ _ _ _ _ _ _ _ _ _ [.ref 92] (HH b11 Y N11) _ _
  have hb11 : 94 ≤ b11.2.1 := hI11.2.2.1
  have hG11 := sbG_t hG10 hF11
  refine j_aload_n x dX5_line_139 rfl ?_
  refine j2_getr (k := 5) (r := 75) x hb11 dX5_line_140 jc_9 wfX5_36 (by decide) rfl ?_
  refine j2_getr (k := 7) (r := 80) x hb11 dX5_line_143 jc_7 wfX5_202 (by decide) rfl ?_
  refine j_iload_n x dX5_line_146 rfl ?_
  refine j2_callSi x hb11 dX5_line_147 m_X5_at (c_at (d := d) hb11 fa_80 (by decide)) wmX5_93 rfl (Nat.le_of_ble_eq_true rfl) (j_fit_rm (by omega) (Nat.le_of_ble_eq_true rfl) (Nat.le_of_ble_eq_true rfl)) rfl ?_
  rw [show jat 8 (N11 80) (nI t0) = nI v80 from (congrArg (fun f => jat 8 f (nI t0)) (funext fun q => hG11 80 q (by omega))).trans hv80]
  refine j_callV x dX5_line_150 (c_appI (d := d) (Y := Y) hb11 hI11 hn11 hc11 hm11 (by omega) (v1 := v80) (by omega)) m_J4_append_bf812 wmX5_357 jc_1 rfl (show 92 < _ from Nat.lt_of_lt_of_le (by decide) hb11) rfl rfl (Nat.le_of_ble_eq_true rfl) (j_fit_rm (by omega) (Nat.le_of_ble_eq_true rfl) (Nat.le_of_ble_eq_true rfl)) rfl (fun E k z => by cases z.1) (fun v h1 hQ => ?_)
  obtain ⟨ho, b12, N12, n12, rfl, hI12, hn12, hm12, hF12, hc12, hA12, hB12⟩ := hQ
  have hT12 : sbT b12 N12 (lnI (lnC (lnI (lnC (lnI (lnC (lnI (lnC (lnI (lnC (lnI ln0 t0) 58) v76) 32) v77) 45) v78) 45) v79) 32) v80).1 (lnI (lnC (lnI (lnC (lnI (lnC (lnI (lnC (lnI (lnC (lnI ln0 t0) 58) v76) 32) v77) 45) v78) 45) v79) 32) v80).2 := sbT_I hT11 hA12 hB12
  cases ho
  change JJ _ _ _ _ _ _ _ _ _ _ _ _ _ _ _ _ _ _ _ [.ref 92] (HH b12 Y N12) _ _
  have hb12 : 94 ≤ b12.2.1 := hI12.2.2.1
  have hG12 := sbG_t hG11 hF12
  refine j_pop x dX5_line_153 rfl ?_
  refine j_aload_n x dX5_line_154 rfl ?_
  refine j2_getr (k := 13) (r := 92) x hb12 dX5_line_155 jc_9 wfX5_58 (by decide) rfl ?_
  refine j_bipush (v := 58) x dX5_line_158 (by decide) ?_
  refine j_callV x dX5_line_160 (c_appC (d := d) (Y := Y) hb12 hI12 hn12 hc12 hm12 (by omega) (t := 58) (by decide)) m_J4_append_cf468 wmX5_361 jc_1 rfl (show 92 < _ from Nat.lt_of_lt_of_le (by decide) hb12) rfl rfl (Nat.le_of_ble_eq_true rfl) (j_fit_rm (by omega) (Nat.le_of_ble_eq_true rfl) (Nat.le_of_ble_eq_true rfl)) rfl (fun E k z => by cases z.1) (fun v h1 hQ => ?_)
  obtain ⟨ho, b13, N13, n13, rfl, hI13, hn13, hm13, hF13, hc13, hA13, hB13⟩ := hQ
  have hT13 : sbT b13 N13 (lnC (lnI (lnC (lnI (lnC (lnI (lnC (lnI (lnC (lnI (lnC (lnI ln0 t0) 58) v76) 32) v77) 45) v78) 45) v79) 32) v80) 58).1 (lnC (lnI (lnC (lnI (lnC (lnI (lnC (lnI (lnC (lnI (lnC (lnI ln0 t0) 58) v76) 32) v77) 45) v78) 45) v79) 32) v80) 58).2 := sbT_C hT12 hA13 hB13
  cases ho
  change JJ _ _ _ _ _ _ _ _ _ _ _ _ _ _ _ _ _ _ _ [.ref 92] (HH b13 Y N13) _ _
  have hb13 : 94 ≤ b13.2.1 := hI13.2.2.1
  have hG13 := sbG_t hG12 hF13
  refine j_aload_n x dX5_line_163 rfl ?_
  refine j2_getr (k := 5) (r := 75) x hb13 dX5_line_164 jc_9 wfX5_36 (by decide) rfl ?_
  refine j2_getr (k := 8) (r := 81) x hb13 dX5_line_167 jc_7 wfX5_205 (by decide) rfl ?_
  refine j_iload_n x dX5_line_170 rfl ?_
  refine j2_callSi x hb13 dX5_line_171 m_X5_at (c_at (d := d) hb13 fa_81 (by decide)) wmX5_93 rfl (Nat.le_of_ble_eq_true rfl) (j_fit_rm (by omega) (Nat.le_of_ble_eq_true rfl) (Nat.le_of_ble_eq_true rfl)) rfl ?_
  rw [show jat 8 (N13 81) (nI t0) = nI v81 from (congrArg (fun f => jat 8 f (nI t0)) (funext fun q => hG13 81 q (by omega))).trans hv81]
  refine j_callV x dX5_line_174 (c_appI (d := d) (Y := Y) hb13 hI13 hn13 hc13 hm13 (by omega) (v1 := v81) (by omega)) m_J4_append_bf812 wmX5_357 jc_1 rfl (show 92 < _ from Nat.lt_of_lt_of_le (by decide) hb13) rfl rfl (Nat.le_of_ble_eq_true rfl) (j_fit_rm (by omega) (Nat.le_of_ble_eq_true rfl) (Nat.le_of_ble_eq_true rfl)) rfl (fun E k z => by cases z.1) (fun v h1 hQ => ?_)
  obtain ⟨ho, b14, N14, n14, rfl, hI14, hn14, hm14, hF14, hc14, hA14, hB14⟩ := hQ
  have hT14 : sbT b14 N14 (lnI (lnC (lnI (lnC (lnI (lnC (lnI (lnC (lnI (lnC (lnI (lnC (lnI ln0 t0) 58) v76) 32) v77) 45) v78) 45) v79) 32) v80) 58) v81).1 (lnI (lnC (lnI (lnC (lnI (lnC (lnI (lnC (lnI (lnC (lnI (lnC (lnI ln0 t0) 58) v76) 32) v77) 45) v78) 45) v79) 32) v80) 58) v81).2 := sbT_I hT13 hA14 hB14
  cases ho
  change JJ _ _ _ _ _ _ _ _ _ _ _ _ _ _ _ _ _ _ _ [.ref 92] (HH b14 Y N14) _ _
  have hb14 : 94 ≤ b14.2.1 := hI14.2.2.1
  have hG14 := sbG_t hG13 hF14
  refine j_pop x dX5_line_177 rfl ?_
  refine j_aload_n x dX5_line_178 rfl ?_
  refine j_iload_n x dX5_line_179 rfl ?_
  have eS : fSafe N14 (nI t0) = fSafe (jcount M n) (nI t0) := fSafe_G hG14
  have eO : fOut N14 (nI t0) = fOut (jcount M n) (nI t0) := fOut_G hG14
  refine j2_callVi x hb14 dX5_line_180 m_X5_isBeyondOthers (c_isBeyondOthers (d := d) hb14 hw (by rw [hG14 1 0 (by omega), jcount_n (by omega)]; exact h0)) wmX5_282 jc_9 rfl rfl rfl (Nat.le_of_ble_eq_true rfl) (j_fit_rm (by omega) (Nat.le_of_ble_eq_true rfl) (Nat.le_of_ble_eq_true rfl)) rfl ?_
  refine j_if_eq (tgt := 199) x dX5_line_183 (by decide) (fun g1 => ?_) (fun g1 => ?_)
  · refine j_aload_n x dX5_line_199 rfl ?_
    refine j_iload_n x dX5_line_200 rfl ?_
    refine j2_callVi x hb14 dX5_line_201 m_X5_isBehindAnother (c_isBehindAnother (d := d) hb14 hw (by rw [hG14 1 0 (by omega), jcount_n (by omega)]; exact h0)) wmX5_285 jc_9 rfl rfl rfl (Nat.le_of_ble_eq_true rfl) (j_fit_rm (by omega) (Nat.le_of_ble_eq_true rfl) (Nat.le_of_ble_eq_true rfl)) rfl ?_
    refine j_if_eq (tgt := 217) x dX5_line_204 (by decide) (fun g2 => ?_) (fun g2 => ?_)
    · refine j_aload_n x dX5_line_217 rfl ?_
      refine j2_getr (k := 13) (r := 92) x hb14 dX5_line_218 jc_9 wfX5_58 (by decide) rfl ?_
      refine j2_callVi x hb14 dX5_line_221 m_J4_length_8abf5 (CM_v (c_sbLength (d := d) hb14) hc14) wmX5_364 jc_1 rfl rfl rfl (Nat.le_of_ble_eq_true rfl) (j_fit_rm (by omega) (Nat.le_of_ble_eq_true rfl) (Nat.le_of_ble_eq_true rfl)) rfl ?_
      exact j_ireturn x hr dX5_line_224 (Nat.le_of_ble_eq_true rfl) (Nat.le_of_ble_eq_true rfl) ⟨0 + dg t0 + 1 + dg v76 + 1 + dg v77 + 1 + dg v78 + 1 + dg v79 + 1 + dg v80 + 1 + dg v81, b14, N14, n14, by omega, rfl, rfl, hI14, hn14, hm14, hG14, hc14, 0, by unfold lnK; rw [← eS, ← eO]; exact ((if_neg (fun z => z g1)).trans (if_neg (fun z => z g2))).symm, rfl, hT14⟩
    · refine j_aload_n x dX5_line_207 rfl ?_
      refine j2_getr (k := 13) (r := 92) x hb14 dX5_line_208 jc_9 wfX5_58 (by decide) rfl ?_
      refine j_bipush (v := 120) x dX5_line_211 (by decide) ?_
      refine j_callV x dX5_line_213 (c_appC (d := d) (Y := Y) hb14 hI14 hn14 hc14 hm14 (by omega) (t := 120) (by decide)) m_J4_append_cf468 wmX5_361 jc_1 rfl (show 92 < _ from Nat.lt_of_lt_of_le (by decide) hb14) rfl rfl (Nat.le_of_ble_eq_true rfl) (j_fit_rm (by omega) (Nat.le_of_ble_eq_true rfl) (Nat.le_of_ble_eq_true rfl)) rfl (fun E k z => by cases z.1) (fun v h1 hQ => ?_)
      obtain ⟨ho, b15, N15, n15, rfl, hI15, hn15, hm15, hF15, hc15, hA15, hB15⟩ := hQ
      have hT15 : sbT b15 N15 (lnC (lnI (lnC (lnI (lnC (lnI (lnC (lnI (lnC (lnI (lnC (lnI (lnC (lnI ln0 t0) 58) v76) 32) v77) 45) v78) 45) v79) 32) v80) 58) v81) 120).1 (lnC (lnI (lnC (lnI (lnC (lnI (lnC (lnI (lnC (lnI (lnC (lnI (lnC (lnI ln0 t0) 58) v76) 32) v77) 45) v78) 45) v79) 32) v80) 58) v81) 120).2 := sbT_C hT14 hA15 hB15
      cases ho
      change JJ _ _ _ _ _ _ _ _ _ _ _ _ _ _ _ _ _ _ _ [.ref 92] (HH b15 Y N15) _ _
      have hb15 : 94 ≤ b15.2.1 := hI15.2.2.1
      have hG15 := sbG_t hG14 hF15
      refine j_pop x dX5_line_216 rfl ?_
      refine j_aload_n x dX5_line_217 rfl ?_
      refine j2_getr (k := 13) (r := 92) x hb15 dX5_line_218 jc_9 wfX5_58 (by decide) rfl ?_
      refine j2_callVi x hb15 dX5_line_221 m_J4_length_8abf5 (CM_v (c_sbLength (d := d) hb15) hc15) wmX5_364 jc_1 rfl rfl rfl (Nat.le_of_ble_eq_true rfl) (j_fit_rm (by omega) (Nat.le_of_ble_eq_true rfl) (Nat.le_of_ble_eq_true rfl)) rfl ?_
      exact j_ireturn x hr dX5_line_224 (Nat.le_of_ble_eq_true rfl) (Nat.le_of_ble_eq_true rfl) ⟨0 + dg t0 + 1 + dg v76 + 1 + dg v77 + 1 + dg v78 + 1 + dg v79 + 1 + dg v80 + 1 + dg v81 + 1, b15, N15, n15, by omega, rfl, rfl, hI15, hn15, hm15, hG15, hc15, 2, by unfold lnK; rw [← eS, ← eO]; exact ((if_neg (fun z => z g1)).trans (if_pos g2)).symm, rfl, hT15⟩
  · refine j_aload_n x dX5_line_186 rfl ?_
    refine j2_getr (k := 13) (r := 92) x hb14 dX5_line_187 jc_9 wfX5_58 (by decide) rfl ?_
    refine j_bipush (v := 42) x dX5_line_190 (by decide) ?_
    refine j_callV x dX5_line_192 (c_appC (d := d) (Y := Y) hb14 hI14 hn14 hc14 hm14 (by omega) (t := 42) (by decide)) m_J4_append_cf468 wmX5_361 jc_1 rfl (show 92 < _ from Nat.lt_of_lt_of_le (by decide) hb14) rfl rfl (Nat.le_of_ble_eq_true rfl) (j_fit_rm (by omega) (Nat.le_of_ble_eq_true rfl) (Nat.le_of_ble_eq_true rfl)) rfl (fun E k z => by cases z.1) (fun v h1 hQ => ?_)
    obtain ⟨ho, b15, N15, n15, rfl, hI15, hn15, hm15, hF15, hc15, hA15, hB15⟩ := hQ
    have hT15 : sbT b15 N15 (lnC (lnI (lnC (lnI (lnC (lnI (lnC (lnI (lnC (lnI (lnC (lnI (lnC (lnI ln0 t0) 58) v76) 32) v77) 45) v78) 45) v79) 32) v80) 58) v81) 42).1 (lnC (lnI (lnC (lnI (lnC (lnI (lnC (lnI (lnC (lnI (lnC (lnI (lnC (lnI ln0 t0) 58) v76) 32) v77) 45) v78) 45) v79) 32) v80) 58) v81) 42).2 := sbT_C hT14 hA15 hB15
    cases ho
    change JJ _ _ _ _ _ _ _ _ _ _ _ _ _ _ _ _ _ _ _ [.ref 92] (HH b15 Y N15) _ _
    have hb15 : 94 ≤ b15.2.1 := hI15.2.2.1
    have hG15 := sbG_t hG14 hF15
    refine j_pop x dX5_line_195 rfl ?_
    refine j_goto (tgt := 217) x dX5_line_196 (by decide) ?_
    refine j_aload_n x dX5_line_217 rfl ?_
    refine j2_getr (k := 13) (r := 92) x hb15 dX5_line_218 jc_9 wfX5_58 (by decide) rfl ?_
    refine j2_callVi x hb15 dX5_line_221 m_J4_length_8abf5 (CM_v (c_sbLength (d := d) hb15) hc15) wmX5_364 jc_1 rfl rfl rfl (Nat.le_of_ble_eq_true rfl) (j_fit_rm (by omega) (Nat.le_of_ble_eq_true rfl) (Nat.le_of_ble_eq_true rfl)) rfl ?_
    exact j_ireturn x hr dX5_line_224 (Nat.le_of_ble_eq_true rfl) (Nat.le_of_ble_eq_true rfl) ⟨0 + dg t0 + 1 + dg v76 + 1 + dg v77 + 1 + dg v78 + 1 + dg v79 + 1 + dg v80 + 1 + dg v81 + 1, b15, N15, n15, by omega, rfl, rfl, hI15, hn15, hm15, hG15, hc15, 1, by unfold lnK; rw [← eS]; exact (if_pos g1).symm, rfl, hT15⟩
theorem c_character {d : Nat} {b : SBt} {Y : OUt} {M : MM} (hb : 94 ≤ b.2.1) {n : Nat} (hI : sbI b M n) (hn : n ≤ 202) {c1 : Nat} (hcl : M 92 3 = nI c1) {i1 : Nat} (h1 : i1 < c1) (h2 : c1 ≤ n) : CM (d + 4) 0 0 yX5_character cX5_character 2 (some .char) [.ref 0, .int (nI i1)] b Y M (.inl (some (.int (((M b.1 i1 &&& 255).toUInt32 % 65536).toInt32)))) (M) := by
  refine Con.of (by decide +kernel) (Nat.le_of_ble_eq_true rfl) rfl fun p l e s m args below meth c D tyc A ad0 x hr htab hname => ?_
  change JJ _ _ _ _ _ _ _ _ _ _ _ _ _ _ _ _ _ 0 [some (.ref 0), some (.int (nI i1))] [] _ 0 0
  refine j_iload_n x dX5_character_0 rfl ?_
  refine j_if_lt (tgt := 15) x dX5_character_1 (by decide) (fun hc => absurd hc (nI_pos (by omega))) (fun hc => ?_)
  refine j_iload_n x dX5_character_4 rfl ?_
  refine j_aload_n x dX5_character_5 rfl ?_
  refine j2_getr (k := 13) (r := 92) x hb dX5_character_6 jc_9 wfX5_58 (by decide) rfl ?_
  refine j2_callVi x hb dX5_character_9 m_J4_length_8abf5 (CM_v (c_sbLength (d := d) hb) hcl) wmX5_364 jc_1 rfl rfl rfl (Nat.le_of_ble_eq_true rfl) (j_fit_rm (by omega) (by omega) (by omega)) rfl ?_
  refine j_icmp_lt (tgt := 26) x dX5_character_12 (by decide) (fun hc => ?_) (fun hc => absurd (nI_lt h1 (by omega)) hc)
  refine j_aload_n x dX5_character_26 rfl ?_
  refine j2_getr (k := 13) (r := 92) x hb dX5_character_27 jc_9 wfX5_58 (by decide) rfl ?_
  refine j_iload_n x dX5_character_30 rfl ?_
  refine j2_callVi x hb dX5_character_31 m_J4_charAt_5068e (c_charAt (d := d) hb hI hn hcl h1 h2) wmX5_368 jc_1 rfl rfl rfl (Nat.le_of_ble_eq_true rfl) (j_fit_rm (by omega) (by omega) (by omega)) rfl ?_
  exact j_zreturn x hr dX5_character_34 (i2c_nar _) (by omega) (by omega) ⟨rfl, rfl⟩
theorem c_character_bad {d : Nat} {b : SBt} {Y : OUt} {M : MM} (hb : 94 ≤ b.2.1) {c1 : Nat} (hcl : M 92 3 = nI c1) (hc1 : c1 < 2 ^ 31) {t : Int32} (ht : ¬ (¬ t < 0 ∧ ¬ nI c1 ≤ t)) : CM (d + 2) 1 6 yX5_character cX5_character 2 (some .char) [.ref 0, .int t] b Y M (.inr "java/lang/IndexOutOfBoundsException") (M) := by
  refine Con.of (by decide +kernel) (Nat.le_of_ble_eq_true rfl) rfl fun p l e s m args below meth c D tyc A ad0 x hr htab hname => ?_
  change JJ _ _ _ _ _ _ _ _ _ _ _ _ _ _ _ _ _ 0 [some (.ref 0), some (.int t)] [] _ 0 0
  refine j_iload_n x dX5_character_0 rfl ?_
  refine j_if_lt (tgt := 15) x dX5_character_1 (by decide) (fun g1 => ?_) (fun g1 => ?_)
  · exact j_throwSW x exX5_177 wsX5_366 dX5_character_15 dX5_character_18 dX5_character_19 dX5_character_22 dX5_character_25 htab (by omega) (by omega) ⟨rfl, rfl⟩
  · refine j_iload_n x dX5_character_4 rfl ?_
    refine j_aload_n x dX5_character_5 rfl ?_
    refine j2_getr (k := 13) (r := 92) x hb dX5_character_6 jc_9 wfX5_58 (by decide) rfl ?_
    refine j2_callVi x hb dX5_character_9 m_J4_length_8abf5 (CM_v (c_sbLength (d := d) hb) hcl) wmX5_364 jc_1 rfl rfl rfl (Nat.le_of_ble_eq_true rfl) (j_fit_rm (by omega) (by omega) (by omega)) rfl ?_
    refine j_icmp_lt (tgt := 26) x dX5_character_12 (by decide) (fun hc => absurd hc (fun q => ht ⟨g1, Int32.not_le.mpr q⟩)) (fun hc => ?_)
    exact j_throwSW x exX5_177 wsX5_366 dX5_character_15 dX5_character_18 dX5_character_19 dX5_character_22 dX5_character_25 htab (by omega) (by omega) ⟨rfl, rfl⟩
