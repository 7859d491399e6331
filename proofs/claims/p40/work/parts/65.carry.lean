/-! ===== the class: commands ===== -/
theorem pN_le {T : Nat → Int32} {n a : Nat} (h : pF T n a = none) (ha : a ≤ n) : pN T n a ≤ n := by
  unfold pF at h
  unfold pN
  by_cases h1 : tsg T n a = 109
  · have k1 := tsg_lt h1 (by decide)
    simp only [h1, if_true] at h ⊢
    unfold rFm at h
    by_cases g1 : tnv T n (a + 1) = -1
    · rw [if_pos g1] at h; cases h
    · rw [if_neg g1] at h
      by_cases g2 : tsg T n (tna T n (a + 1)) = 61
      · have k2 := tsg_lt g2 (by decide)
        rw [if_neg (fun z => z g2)] at h
        by_cases g3 : tnv T n (tna T n (a + 1) + 1) = -1
        · rw [if_pos g3] at h; cases h
        · rw [if_neg g3] at h
          by_cases g4 : tsg T n (tna T n (tna T n (a + 1) + 1)) = 58
          · exact tna_le (tsg_lt g4 (by decide))
          · rw [if_pos g4] at h; cases h
      · rw [if_pos g2] at h; cases h
  · by_cases h2 : tsg T n a = 98
    · simp only [h2, if_true, show ¬ (98 : Int32) = 109 from by decide, if_false] at h ⊢
      exact tna_le (tsg_lt h2 (by decide))
    · by_cases h3 : tsg T n a = 111
      · simp only [h3, if_true, show ¬ (111 : Int32) = 109 from by decide, show ¬ (111 : Int32) = 98 from by decide, if_false] at h ⊢
        unfold rFo at h
        by_cases g1 : tnv T n (a + 1) = -1
        · rw [if_pos g1] at h; cases h
        · rw [if_neg g1] at h
          by_cases g2 : tsg T n (tna T n (a + 1)) = 43
          · exact tna_le (tsg_lt g2 (by decide))
          · rw [if_pos g2] at h; cases h
      · by_cases h4 : tsg T n a = 110
        · have k1 := tsg_lt h4 (by decide)
          simp only [h4, if_true, show ¬ (110 : Int32) = 109 from by decide, show ¬ (110 : Int32) = 98 from by decide, show ¬ (110 : Int32) = 111 from by decide, if_false]
          exact k1
        · by_cases h5 : tsg T n a = 116
          · have k1 := tsg_lt h5 (by decide)
            rw [if_neg h1, if_neg h2, if_neg h3, if_neg h4]
            exact tda_le (tda_le (tda_le k1))
          · rw [if_neg h1, if_neg h2, if_neg h3, if_neg h4, if_neg h5] at h; cases h
theorem tda_ge {T : Nat → Int32} {n a : Nat} {h : Int32} : a ≤ tda T n a h := by unfold tda; split <;> omega
theorem tna_ge {T : Nat → Int32} {n a : Nat} : a ≤ tna T n a := by
  unfold tna
  split
  · omega
  · split <;> omega
theorem pN_ge {T : Nat → Int32} {n a : Nat} : a + 1 ≤ pN T n a := by
  have h1 := tna_ge (T := T) (n := n) (a := a + 1)
  have h2 := tna_ge (T := T) (n := n) (a := tna T n (a + 1) + 1)
  have h3 := tna_ge (T := T) (n := n) (a := tna T n (tna T n (a + 1) + 1) + 1)
  have k1 := tda_ge (T := T) (n := n) (a := a + 1) (h := 4)
  have k2 := tda_ge (T := T) (n := n) (a := tda T n (a + 1) 4) (h := 4)
  have k3 := tda_ge (T := T) (n := n) (a := tda T n (tda T n (a + 1) 4) 4) (h := 4)
  unfold pN
  split
  · omega
  · split
    · omega
    · split
      · omega
      · split <;> omega
/-- where the i-th command begins -/
def ppo (T : Nat → Int32) (n : Nat) : Nat → Nat
  | 0 => 0
  | i + 1 => pN T n (ppo T n i) + 1
def pgo (T : Nat → Int32) (n i : Nat) : Prop := pF T n (ppo T n i) = none ∧ tsg T n (pN T n (ppo T n i)) = 59
theorem ppo_le {T : Nat → Int32} {n : Nat} : ∀ {i : Nat}, (∀ j, j < i → pgo T n j) → ppo T n i ≤ n
  | 0, _ => Nat.zero_le n
  | i + 1, h => tsg_lt (h i (by omega)).2 (by decide)
theorem ppo_ge {T : Nat → Int32} {n : Nat} : ∀ {i : Nat}, 2 * i ≤ ppo T n i
  | 0 => Nat.zero_le _
  | i + 1 => by
    have h1 := ppo_ge (T := T) (n := n) (i := i)
    have h2 := pN_ge (T := T) (n := n) (a := ppo T n i)
    rw [ppo]
    omega
def jpa (M : MM) (n : Nat) : Nat → MM
  | 0 => jm (jpos M 0) 86 2 0
  | i + 1 => jpos (jadd (jpos (jpa M n i) (pN (M 87) n (ppo (M 87) n i))) i (tsg (M 87) n (ppo (M 87) n i)) (p1 (M 87) n (ppo (M 87) n i)) (p2 (M 87) n (ppo (M 87) n i)) (p3 (M 87) n (ppo (M 87) n i))) (ppo (M 87) n (i + 1))
def jcm (M : MM) (n i : Nat) : MM := jadd (jpos (jpa M n i) (pN (M 87) n (ppo (M 87) n i))) i (tsg (M 87) n (ppo (M 87) n i)) (p1 (M 87) n (ppo (M 87) n i)) (p2 (M 87) n (ppo (M 87) n i)) (p3 (M 87) n (ppo (M 87) n i))
theorem jadd_n {M : MM} {c1 i k : Nat} {u v w z : Int32} (h : i < 86 ∨ i = 87 ∨ 91 < i ∨ (i = 86 ∧ k ≠ 2)) : jadd M c1 u v w z i k = M i k := by
  rw [jadd, jm_n (by omega), jm_n (by omega), jm_n (by omega), jm_n (by omega), jm_n (by omega)]
theorem jpa_n {M : MM} {n i k : Nat} (h : i < 86 ∨ i = 87 ∨ 91 < i ∨ (i = 86 ∧ k = 0)) : ∀ j, jpa M n j i k = M i k
  | 0 => by rw [jpa, jm_n (by omega), jpos_n (by omega)]
  | j + 1 => by rw [jpa, jpos_n (by omega), jadd_n (by omega), jpos_n (by omega)]; exact jpa_n h j
theorem jpa_t {M : MM} {n j : Nat} : jpa M n j 87 = M 87 := funext fun k => jpa_n (by omega) j
theorem jpa_p {M : MM} {n : Nat} : ∀ j, jpa M n j 86 1 = nI (ppo (M 87) n j)
  | 0 => by rw [jpa, jm_n (by omega), jpos_s]; rfl
  | j + 1 => jpos_s
theorem jpa_c {M : MM} {n : Nat} : ∀ j, jpa M n j 86 2 = nI j
  | 0 => jm_s
  | j + 1 => by rw [jpa, jpos_n (by omega), jadd, jm_s]
theorem jcm_n {M : MM} {n j i k : Nat} (h : i < 86 ∨ i = 87 ∨ 91 < i ∨ (i = 86 ∧ k = 0)) : jcm M n j i k = M i k := by
  rw [jcm, jadd_n (by omega), jpos_n (by omega)]; exact jpa_n h j
theorem jcm_t {M : MM} {n j : Nat} : jcm M n j 87 = M 87 := funext fun k => jcm_n (by omega)
theorem jcm_p {M : MM} {n j : Nat} : jcm M n j 86 1 = nI (pN (M 87) n (ppo (M 87) n j)) := by rw [jcm, jadd_n (by omega), jpos_s]
theorem jcm_c {M : MM} {n j : Nat} : jcm M n j 86 2 = nI (j + 1) := by rw [jcm, jadd, jm_s]
theorem jadd_at {M : MM} {c1 k : Nat} {u v w z : Int32} (h : k ≠ c1) (i : Nat) (hi : 88 ≤ i) : jadd M c1 u v w z i k = M i k := by
  rw [jadd, jm_n (by omega), jm_n (by omega), jm_n (by omega), jm_n (by omega), jm_n (by omega)]
theorem jadd_0 {M : MM} {c1 : Nat} {u v w z : Int32} : jadd M c1 u v w z 88 c1 = u ∧ jadd M c1 u v w z 89 c1 = v ∧ jadd M c1 u v w z 90 c1 = w ∧ jadd M c1 u v w z 91 c1 = z := by
  refine ⟨?_, ?_, ?_, ?_⟩
  · rw [jadd, jm_n (by omega), jm_n (by omega), jm_n (by omega), jm_n (by omega), jm_s]
  · rw [jadd, jm_n (by omega), jm_n (by omega), jm_n (by omega), jm_s]
  · rw [jadd, jm_n (by omega), jm_n (by omega), jm_s]
  · rw [jadd, jm_n (by omega), jm_s]
/-- the rows in which the commands lie -/
def jrows (N : MM) (T : Nat → Int32) (n j : Nat) : Prop := N 88 j = tsg T n (ppo T n j) ∧ N 89 j = p1 T n (ppo T n j) ∧ N 90 j = p2 T n (ppo T n j) ∧ N 91 j = p3 T n (ppo T n j)
theorem jpa_rows {M : MM} {n : Nat} : ∀ i j, j < i → jrows (jpa M n i) (M 87) n j
  | 0, j, h => absurd h (Nat.not_lt_zero j)
  | i + 1, j, h => by
    by_cases hj : j = i
    · subst hj
      unfold jrows
      rw [jpa, jpos_n (by omega), jpos_n (by omega), jpos_n (by omega), jpos_n (by omega)]
      exact jadd_0
    · have h1 := jpa_rows (M := M) (n := n) i j (by omega)
      unfold jrows at h1 ⊢
      rw [jpa, jpos_n (by omega), jpos_n (by omega), jpos_n (by omega), jpos_n (by omega), jadd_at hj 88 (by omega), jadd_at hj 89 (by omega), jadd_at hj 90 (by omega), jadd_at hj 91 (by omega), jpos_n (by omega), jpos_n (by omega), jpos_n (by omega), jpos_n (by omega)]
      exact h1
theorem jcm_rows {M : MM} {n i j : Nat} (h : j < i + 1) : jrows (jcm M n i) (M 87) n j := by
  have h1 := jpa_rows (M := M) (n := n) (i + 1) j h
  unfold jrows at h1 ⊢
  rw [jpa, jpos_n (by omega), jpos_n (by omega), jpos_n (by omega), jpos_n (by omega)] at h1
  exact h1
theorem c_cmd_no {d : Nat} {b : SBt} {Y : OUt} {M : MM} (hb : 94 ≤ b.2.1) {n : Nat} (hn : n ≤ 60) (hl : M 86 0 = nI n) {j q : Nat} (hj : j < 30) (hg : ∀ i, i < j → pgo (M 87) n i) (hF : pF (M 87) n (ppo (M 87) n j) = some q) : CM (d + 4) 0 0 yX4_isCommandParsed cX4_isCommandParsed 2 (some .boolean) [.ref 86] b Y (jpa M n j) (.inl (some (.int 0))) (jpos (jpa M n j) q) := by
  have h := c_isCommandParsed (d := d) (Y := Y) (M := jpa M n j) hb hn ((jpa_n (by omega) j).trans hl) (jpa_p j) (ppo_le hg) (jpa_c j) hj
  rw [jpa_t, hF] at h
  exact h
theorem c_cmd_ok {d : Nat} {b : SBt} {Y : OUt} {M : MM} (hb : 94 ≤ b.2.1) {n : Nat} (hn : n ≤ 60) (hl : M 86 0 = nI n) {j : Nat} (hj : j < 30) (hg : ∀ i, i < j → pgo (M 87) n i) (hF : pF (M 87) n (ppo (M 87) n j) = none) : CM (d + 4) 0 0 yX4_isCommandParsed cX4_isCommandParsed 2 (some .boolean) [.ref 86] b Y (jpa M n j) (.inl (some (.int 1))) (jcm M n j) := by
  have h := c_isCommandParsed (d := d) (Y := Y) (M := jpa M n j) hb hn ((jpa_n (by omega) j).trans hl) (jpa_p j) (ppo_le hg) (jpa_c j) hj
  rw [jpa_t, hF] at h
  exact h
theorem c_isParsed_A {d : Nat} {b : SBt} {Y : OUt} {M : MM} (hb : 94 ≤ b.2.1) {n : Nat} (hn : n ≤ 60) (hl : M 86 0 = nI n) {i : Nat} (hi : i < 30) (hg : ∀ j, j < i → pgo (M 87) n j) {q : Nat} (hF : pF (M 87) n (ppo (M 87) n i) = some q) : CM (d + 5) 0 0 yX4_isParsed cX4_isParsed 2 (some .boolean) [.ref 86] b Y M (.inl (some (.int (0)))) (jpos (jpa M n i) q) := by
  refine Con.of (by decide +kernel) (Nat.le_of_ble_eq_true rfl) rfl fun p l e s m args below meth c D tyc A ad0 x hr htab hname => ?_
  change JJ _ _ _ _ _ _ _ _ _ _ _ _ _ _ _ _ _ 0 [some (.ref 86), none] [] _ 0 0
  refine j_aload_n x dX4_isParsed_0 rfl ?_
  refine j_iconst (v := 0) x dX4_isParsed_1 (by decide) ?_
  refine j2_puti (k := 1) x hb dX4_isParsed_2 jc_8 wfX4_32 (by decide) rfl rfl rfl rfl ?_
  refine j_aload_n x dX4_isParsed_5 rfl ?_
  refine j_iconst (v := 0) x dX4_isParsed_6 (by decide) ?_
  refine j2_puti (k := 2) x hb dX4_isParsed_7 jc_8 wfX4_35 (by decide) rfl rfl rfl rfl ?_
  refine j_iconst (v := 0) x dX4_isParsed_10 (by decide) ?_
  refine j_istore_n x dX4_isParsed_11 (by decide) rfl ?_
  refine j_for i (fun z0 => [some (.ref 86), some (.int (nI z0))]) (fun z0 => jpa M n z0) (fun _ => True) rfl rfl trivial (fun j hj hP ih => ?_) (fun hP => ?_)
  · refine j_iload_n x dX4_isParsed_12 rfl ?_
    refine j_bipush (v := 30) x dX4_isParsed_13 (by decide) ?_
    refine j_icmp_ge (tgt := 54) x dX4_isParsed_15 (by decide) (fun hc => absurd hc (show ¬ nI 30 ≤ nI j from nI_ge (by omega) (by decide))) (fun hc => ?_)
    refine j_aload_n x dX4_isParsed_18 rfl ?_
    refine j2_callVi x hb dX4_isParsed_19 m_X4_isCommandParsed (c_cmd_ok (d := d) hb hn hl (show j < 30 by omega) (fun i hi => hg i (by omega)) (hg j hj).1) wmX4_38 jc_8 rfl rfl rfl (Nat.le_of_ble_eq_true rfl) (j_fit_rm (by omega) (by omega) (by omega)) rfl ?_
    refine j_if_ne (tgt := 27) x dX4_isParsed_22 (by decide) (fun hc => ?_) (fun hc => absurd hc (by decide))
    refine j_aload_n x dX4_isParsed_27 rfl ?_
    refine j2_callVi x hb dX4_isParsed_28 m_X4_sign (CM_v (w := 59) (c_sign (d := d) hb hn ((jcm_n (by omega)).trans hl) jcm_p (pN_le (hg j hj).1 (ppo_le (fun i hi => hg i (by omega))))) (by rw [jcm_t]; exact (hg j hj).2)) wmX4_42 jc_8 rfl rfl rfl (Nat.le_of_ble_eq_true rfl) (j_fit_rm (by omega) (by omega) (by omega)) rfl ?_
    refine j_iconst (v := (-1)) x dX4_isParsed_31 (by decide) ?_
    refine j_icmp_ne (tgt := 37) x dX4_isParsed_32 (by decide) (fun hc => ?_) (fun hc => absurd hc (by decide))
    refine j_aload_n x dX4_isParsed_37 rfl ?_
    refine j_bipush (v := 59) x dX4_isParsed_38 (by decide) ?_
    refine j2_callVi x hb dX4_isParsed_40 m_X4_isPassed (c_isPassed_y (d := d) (ch := 59) hb hn ((jcm_n (by omega)).trans hl) jcm_p (pN_le (hg j hj).1 (ppo_le (fun i hi => hg i (by omega)))) (by rw [jcm_t]; exact (hg j hj).2)) wmX4_46 jc_8 rfl rfl rfl (Nat.le_of_ble_eq_true rfl) (j_fit_rm (by omega) (by omega) (by omega)) rfl ?_
    refine j_if_ne (tgt := 48) x dX4_isParsed_43 (by decide) (fun hc => ?_) (fun hc => absurd hc (by decide))
    refine j_iinc x dX4_isParsed_48 rfl (by decide) rfl ?_
    refine j_goto (tgt := 12) x dX4_isParsed_51 (by decide) ?_
    exact j_goal (ih trivial) (wk_c rfl (wk_c (congrArg (fun z => some (Value.int z)) (nI_1 _)) (wk_0))) rfl
  · refine j_iload_n x dX4_isParsed_12 rfl ?_
    refine j_bipush (v := 30) x dX4_isParsed_13 (by decide) ?_
    refine j_icmp_ge (tgt := 54) x dX4_isParsed_15 (by decide) (fun hc => absurd hc (show ¬ nI 30 ≤ nI i from nI_ge (by omega) (by decide))) (fun hc => ?_)
    refine j_aload_n x dX4_isParsed_18 rfl ?_
    refine j2_callVi x hb dX4_isParsed_19 m_X4_isCommandParsed (c_cmd_no (d := d) hb hn hl hi hg hF) wmX4_38 jc_8 rfl rfl rfl (Nat.le_of_ble_eq_true rfl) (j_fit_rm (by omega) (by omega) (by omega)) rfl ?_
    refine j_if_ne (tgt := 27) x dX4_isParsed_22 (by decide) (fun hc => absurd hc (fun q => q rfl)) (fun hc => ?_)
    refine j_iconst (v := 0) x dX4_isParsed_25 (by decide) ?_
    exact j_zreturn x hr dX4_isParsed_26 (by first | decide | with_reducible exact jb_nar | with_reducible exact jisS_nar | with_reducible exact gno_nar) (by omega) (by omega) ⟨rfl, rfl⟩
theorem c_isParsed_B {d : Nat} {b : SBt} {Y : OUt} {M : MM} (hb : 94 ≤ b.2.1) {n : Nat} (hn : n ≤ 60) (hl : M 86 0 = nI n) {i : Nat} (hi : i < 30) (hg : ∀ j, j < i → pgo (M 87) n j) (hF : pF (M 87) n (ppo (M 87) n i) = none) (hE : tsg (M 87) n (pN (M 87) n (ppo (M 87) n i)) = -1) : CM (d + 5) 0 0 yX4_isParsed cX4_isParsed 2 (some .boolean) [.ref 86] b Y M (.inl (some (.int (1)))) (jcm M n i) := by
  refine Con.of (by decide +kernel) (Nat.le_of_ble_eq_true rfl) rfl fun p l e s m args below meth c D tyc A ad0 x hr htab hname => ?_
  change JJ _ _ _ _ _ _ _ _ _ _ _ _ _ _ _ _ _ 0 [some (.ref 86), none] [] _ 0 0
  refine j_aload_n x dX4_isParsed_0 rfl ?_
  refine j_iconst (v := 0) x dX4_isParsed_1 (by decide) ?_
  refine j2_puti (k := 1) x hb dX4_isParsed_2 jc_8 wfX4_32 (by decide) rfl rfl rfl rfl ?_
  refine j_aload_n x dX4_isParsed_5 rfl ?_
  refine j_iconst (v := 0) x dX4_isParsed_6 (by decide) ?_
  refine j2_puti (k := 2) x hb dX4_isParsed_7 jc_8 wfX4_35 (by decide) rfl rfl rfl rfl ?_
  refine j_iconst (v := 0) x dX4_isParsed_10 (by decide) ?_
  refine j_istore_n x dX4_isParsed_11 (by decide) rfl ?_
  refine j_for i (fun z0 => [some (.ref 86), some (.int (nI z0))]) (fun z0 => jpa M n z0) (fun _ => True) rfl rfl trivial (fun j hj hP ih => ?_) (fun hP => ?_)
  · refine j_iload_n x dX4_isParsed_12 rfl ?_
    refine j_bipush (v := 30) x dX4_isParsed_13 (by decide) ?_
    refine j_icmp_ge (tgt := 54) x dX4_isParsed_15 (by decide) (fun hc => absurd hc (show ¬ nI 30 ≤ nI j from nI_ge (by omega) (by decide))) (fun hc => ?_)
    refine j_aload_n x dX4_isParsed_18 rfl ?_
    refine j2_callVi x hb dX4_isParsed_19 m_X4_isCommandParsed (c_cmd_ok (d := d) hb hn hl (show j < 30 by omega) (fun i hi => hg i (by omega)) (hg j hj).1) wmX4_38 jc_8 rfl rfl rfl (Nat.le_of_ble_eq_true rfl) (j_fit_rm (by omega) (by omega) (by omega)) rfl ?_
    refine j_if_ne (tgt := 27) x dX4_isParsed_22 (by decide) (fun hc => ?_) (fun hc => absurd hc (by decide))
    refine j_aload_n x dX4_isParsed_27 rfl ?_
    refine j2_callVi x hb dX4_isParsed_28 m_X4_sign (CM_v (w := 59) (c_sign (d := d) hb hn ((jcm_n (by omega)).trans hl) jcm_p (pN_le (hg j hj).1 (ppo_le (fun i hi => hg i (by omega))))) (by rw [jcm_t]; exact (hg j hj).2)) wmX4_42 jc_8 rfl rfl rfl (Nat.le_of_ble_eq_true rfl) (j_fit_rm (by omega) (by omega) (by omega)) rfl ?_
    refine j_iconst (v := (-1)) x dX4_isParsed_31 (by decide) ?_
    refine j_icmp_ne (tgt := 37) x dX4_isParsed_32 (by decide) (fun hc => ?_) (fun hc => absurd hc (by decide))
    refine j_aload_n x dX4_isParsed_37 rfl ?_
    refine j_bipush (v := 59) x dX4_isParsed_38 (by decide) ?_
    refine j2_callVi x hb dX4_isParsed_40 m_X4_isPassed (c_isPassed_y (d := d) (ch := 59) hb hn ((jcm_n (by omega)).trans hl) jcm_p (pN_le (hg j hj).1 (ppo_le (fun i hi => hg i (by omega)))) (by rw [jcm_t]; exact (hg j hj).2)) wmX4_46 jc_8 rfl rfl rfl (Nat.le_of_ble_eq_true rfl) (j_fit_rm (by omega) (by omega) (by omega)) rfl ?_
    refine j_if_ne (tgt := 48) x dX4_isParsed_43 (by decide) (fun hc => ?_) (fun hc => absurd hc (by decide))
    refine j_iinc x dX4_isParsed_48 rfl (by decide) rfl ?_
    refine j_goto (tgt := 12) x dX4_isParsed_51 (by decide) ?_
    exact j_goal (ih trivial) (wk_c rfl (wk_c (congrArg (fun z => some (Value.int z)) (nI_1 _)) (wk_0))) rfl
  · refine j_iload_n x dX4_isParsed_12 rfl ?_
    refine j_bipush (v := 30) x dX4_isParsed_13 (by decide) ?_
    refine j_icmp_ge (tgt := 54) x dX4_isParsed_15 (by decide) (fun hc => absurd hc (show ¬ nI 30 ≤ nI i from nI_ge (by omega) (by decide))) (fun hc => ?_)
    refine j_aload_n x dX4_isParsed_18 rfl ?_
    refine j2_callVi x hb dX4_isParsed_19 m_X4_isCommandParsed (c_cmd_ok (d := d) hb hn hl hi hg hF) wmX4_38 jc_8 rfl rfl rfl (Nat.le_of_ble_eq_true rfl) (j_fit_rm (by omega) (by omega) (by omega)) rfl ?_
    refine j_if_ne (tgt := 27) x dX4_isParsed_22 (by decide) (fun hc => ?_) (fun hc => absurd hc (by decide))
    refine j_aload_n x dX4_isParsed_27 rfl ?_
    refine j2_callVi x hb dX4_isParsed_28 m_X4_sign (CM_v (w := (-1)) (c_sign (d := d) hb hn ((jcm_n (by omega)).trans hl) jcm_p (pN_le hF (ppo_le hg))) (by rw [jcm_t]; exact hE)) wmX4_42 jc_8 rfl rfl rfl (Nat.le_of_ble_eq_true rfl) (j_fit_rm (by omega) (by omega) (by omega)) rfl ?_
    refine j_iconst (v := (-1)) x dX4_isParsed_31 (by decide) ?_
    refine j_icmp_ne (tgt := 37) x dX4_isParsed_32 (by decide) (fun hc => absurd hc (fun q => q rfl)) (fun hc => ?_)
    refine j_iconst (v := 1) x dX4_isParsed_35 (by decide) ?_
    exact j_zreturn x hr dX4_isParsed_36 (by first | decide | with_reducible exact jb_nar | with_reducible exact jisS_nar | with_reducible exact gno_nar) (by omega) (by omega) ⟨rfl, rfl⟩
theorem c_isParsed_C {d : Nat} {b : SBt} {Y : OUt} {M : MM} (hb : 94 ≤ b.2.1) {n : Nat} (hn : n ≤ 60) (hl : M 86 0 = nI n) {i : Nat} (hi : i < 30) (hg : ∀ j, j < i → pgo (M 87) n j) (hF : pF (M 87) n (ppo (M 87) n i) = none) (hE : ¬ tsg (M 87) n (pN (M 87) n (ppo (M 87) n i)) = -1) (hE2 : ¬ tsg (M 87) n (pN (M 87) n (ppo (M 87) n i)) = 59) : CM (d + 5) 0 0 yX4_isParsed cX4_isParsed 2 (some .boolean) [.ref 86] b Y M (.inl (some (.int (0)))) (jcm M n i) := by
  refine Con.of (by decide +kernel) (Nat.le_of_ble_eq_true rfl) rfl fun p l e s m args below meth c D tyc A ad0 x hr htab hname => ?_
  change JJ _ _ _ _ _ _ _ _ _ _ _ _ _ _ _ _ _ 0 [some (.ref 86), none] [] _ 0 0
  refine j_aload_n x dX4_isParsed_0 rfl ?_
  refine j_iconst (v := 0) x dX4_isParsed_1 (by decide) ?_
  refine j2_puti (k := 1) x hb dX4_isParsed_2 jc_8 wfX4_32 (by decide) rfl rfl rfl rfl ?_
  refine j_aload_n x dX4_isParsed_5 rfl ?_
  refine j_iconst (v := 0) x dX4_isParsed_6 (by decide) ?_
  refine j2_puti (k := 2) x hb dX4_isParsed_7 jc_8 wfX4_35 (by decide) rfl rfl rfl rfl ?_
  refine j_iconst (v := 0) x dX4_isParsed_10 (by decide) ?_
  refine j_istore_n x dX4_isParsed_11 (by decide) rfl ?_
  refine j_for i (fun z0 => [some (.ref 86), some (.int (nI z0))]) (fun z0 => jpa M n z0) (fun _ => True) rfl rfl trivial (fun j hj hP ih => ?_) (fun hP => ?_)
  · refine j_iload_n x dX4_isParsed_12 rfl ?_
    refine j_bipush (v := 30) x dX4_isParsed_13 (by decide) ?_
    refine j_icmp_ge (tgt := 54) x dX4_isParsed_15 (by decide) (fun hc => absurd hc (show ¬ nI 30 ≤ nI j from nI_ge (by omega) (by decide))) (fun hc => ?_)
    refine j_aload_n x dX4_isParsed_18 rfl ?_
    refine j2_callVi x hb dX4_isParsed_19 m_X4_isCommandParsed (c_cmd_ok (d := d) hb hn hl (show j < 30 by omega) (fun i hi => hg i (by omega)) (hg j hj).1) wmX4_38 jc_8 rfl rfl rfl (Nat.le_of_ble_eq_true rfl) (j_fit_rm (by omega) (by omega) (by omega)) rfl ?_
    refine j_if_ne (tgt := 27) x dX4_isParsed_22 (by decide) (fun hc => ?_) (fun hc => absurd hc (by decide))
    refine j_aload_n x dX4_isParsed_27 rfl ?_
    refine j2_callVi x hb dX4_isParsed_28 m_X4_sign (CM_v (w := 59) (c_sign (d := d) hb hn ((jcm_n (by omega)).trans hl) jcm_p (pN_le (hg j hj).1 (ppo_le (fun i hi => hg i (by omega))))) (by rw [jcm_t]; exact (hg j hj).2)) wmX4_42 jc_8 rfl rfl rfl (Nat.le_of_ble_eq_true rfl) (j_fit_rm (by omega) (by omega) (by omega)) rfl ?_
    refine j_iconst (v := (-1)) x dX4_isParsed_31 (by decide) ?_
    refine j_icmp_ne (tgt := 37) x dX4_isParsed_32 (by decide) (fun hc => ?_) (fun hc => absurd hc (by decide))
    refine j_aload_n x dX4_isParsed_37 rfl ?_
    refine j_bipush (v := 59) x dX4_isParsed_38 (by decide) ?_
    refine j2_callVi x hb dX4_isParsed_40 m_X4_isPassed (c_isPassed_y (d := d) (ch := 59) hb hn ((jcm_n (by omega)).trans hl) jcm_p (pN_le (hg j hj).1 (ppo_le (fun i hi => hg i (by omega)))) (by rw [jcm_t]; exact (hg j hj).2)) wmX4_46 jc_8 rfl rfl rfl (Nat.le_of_ble_eq_true rfl) (j_fit_rm (by omega) (by omega) (by omega)) rfl ?_
    refine j_if_ne (tgt := 48) x dX4_isParsed_43 (by decide) (fun hc => ?_) (fun hc => absurd hc (by decide))
    refine j_iinc x dX4_isParsed_48 rfl (by decide) rfl ?_
    refine j_goto (tgt := 12) x dX4_isParsed_51 (by decide) ?_
    exact j_goal (ih trivial) (wk_c rfl (wk_c (congrArg (fun z => some (Value.int z)) (nI_1 _)) (wk_0))) rfl
  · refine j_iload_n x dX4_isParsed_12 rfl ?_
    refine j_bipush (v := 30) x dX4_isParsed_13 (by decide) ?_
    refine j_icmp_ge (tgt := 54) x dX4_isParsed_15 (by decide) (fun hc => absurd hc (show ¬ nI 30 ≤ nI i from nI_ge (by omega) (by decide))) (fun hc => ?_)
    refine j_aload_n x dX4_isParsed_18 rfl ?_
    refine j2_callVi x hb dX4_isParsed_19 m_X4_isCommandParsed (c_cmd_ok (d := d) hb hn hl hi hg hF) wmX4_38 jc_8 rfl rfl rfl (Nat.le_of_ble_eq_true rfl) (j_fit_rm (by omega) (by omega) (by omega)) rfl ?_
    refine j_if_ne (tgt := 27) x dX4_isParsed_22 (by decide) (fun hc => ?_) (fun hc => absurd hc (by decide))
    refine j_aload_n x dX4_isParsed_27 rfl ?_
    refine j2_callVi x hb dX4_isParsed_28 m_X4_sign (c_sign (d := d) hb hn ((jcm_n (by omega)).trans hl) jcm_p (pN_le hF (ppo_le hg))) wmX4_42 jc_8 rfl rfl rfl (Nat.le_of_ble_eq_true rfl) (j_fit_rm (by omega) (by omega) (by omega)) rfl ?_
    refine j_iconst (v := (-1)) x dX4_isParsed_31 (by decide) ?_
    refine j_icmp_ne (tgt := 37) x dX4_isParsed_32 (by decide) (fun hc => ?_) (fun hc => absurd hc (by rw [jcm_t]; exact hE))
    refine j_aload_n x dX4_isParsed_37 rfl ?_
    refine j_bipush (v := 59) x dX4_isParsed_38 (by decide) ?_
    refine j2_callVi x hb dX4_isParsed_40 m_X4_isPassed (c_isPassed_n (d := d) (ch := 59) hb hn ((jcm_n (by omega)).trans hl) jcm_p (pN_le hF (ppo_le hg)) (by rw [jcm_t]; exact hE2)) wmX4_46 jc_8 rfl rfl rfl (Nat.le_of_ble_eq_true rfl) (j_fit_rm (by omega) (by omega) (by omega)) rfl ?_
    refine j_if_ne (tgt := 48) x dX4_isParsed_43 (by decide) (fun hc => absurd hc (fun q => q rfl)) (fun hc => ?_)
    refine j_iconst (v := 0) x dX4_isParsed_46 (by decide) ?_
    exact j_zreturn x hr dX4_isParsed_47 (by first | decide | with_reducible exact jb_nar | with_reducible exact jisS_nar | with_reducible exact gno_nar) (by omega) (by omega) ⟨rfl, rfl⟩
theorem c_isParsed_D {d : Nat} {b : SBt} {Y : OUt} {M : MM} (hb : 94 ≤ b.2.1) {n : Nat} (hn : n ≤ 60) (hl : M 86 0 = nI n) (hg : ∀ j, j < 30 → pgo (M 87) n j) : CM (d + 5) 0 0 yX4_isParsed cX4_isParsed 2 (some .boolean) [.ref 86] b Y M (.inl (some (.int (0)))) (jpa M n 30) := by
  refine Con.of (by decide +kernel) (Nat.le_of_ble_eq_true rfl) rfl fun p l e s m args below meth c D tyc A ad0 x hr htab hname => ?_
  change JJ _ _ _ _ _ _ _ _ _ _ _ _ _ _ _ _ _ 0 [some (.ref 86), none] [] _ 0 0
  refine j_aload_n x dX4_isParsed_0 rfl ?_
  refine j_iconst (v := 0) x dX4_isParsed_1 (by decide) ?_
  refine j2_puti (k := 1) x hb dX4_isParsed_2 jc_8 wfX4_32 (by decide) rfl rfl rfl rfl ?_
  refine j_aload_n x dX4_isParsed_5 rfl ?_
  refine j_iconst (v := 0) x dX4_isParsed_6 (by decide) ?_
  refine j2_puti (k := 2) x hb dX4_isParsed_7 jc_8 wfX4_35 (by decide) rfl rfl rfl rfl ?_
  refine j_iconst (v := 0) x dX4_isParsed_10 (by decide) ?_
  refine j_istore_n x dX4_isParsed_11 (by decide) rfl ?_
  refine j_for 30 (fun z0 => [some (.ref 86), some (.int (nI z0))]) (fun z0 => jpa M n z0) (fun _ => True) rfl rfl trivial (fun j hj hP ih => ?_) (fun hP => ?_)
  · refine j_iload_n x dX4_isParsed_12 rfl ?_
    refine j_bipush (v := 30) x dX4_isParsed_13 (by decide) ?_
    refine j_icmp_ge (tgt := 54) x dX4_isParsed_15 (by decide) (fun hc => absurd hc (show ¬ nI 30 ≤ nI j from nI_ge (by omega) (by decide))) (fun hc => ?_)
    refine j_aload_n x dX4_isParsed_18 rfl ?_
    refine j2_callVi x hb dX4_isParsed_19 m_X4_isCommandParsed (c_cmd_ok (d := d) hb hn hl (show j < 30 by omega) (fun i hi => hg i (by omega)) (hg j hj).1) wmX4_38 jc_8 rfl rfl rfl (Nat.le_of_ble_eq_true rfl) (j_fit_rm (by omega) (by omega) (by omega)) rfl ?_
    refine j_if_ne (tgt := 27) x dX4_isParsed_22 (by decide) (fun hc => ?_) (fun hc => absurd hc (by decide))
    refine j_aload_n x dX4_isParsed_27 rfl ?_
    refine j2_callVi x hb dX4_isParsed_28 m_X4_sign (CM_v (w := 59) (c_sign (d := d) hb hn ((jcm_n (by omega)).trans hl) jcm_p (pN_le (hg j hj).1 (ppo_le (fun i hi => hg i (by omega))))) (by rw [jcm_t]; exact (hg j hj).2)) wmX4_42 jc_8 rfl rfl rfl (Nat.le_of_ble_eq_true rfl) (j_fit_rm (by omega) (by omega) (by omega)) rfl ?_
    refine j_iconst (v := (-1)) x dX4_isParsed_31 (by decide) ?_
    refine j_icmp_ne (tgt := 37) x dX4_isParsed_32 (by decide) (fun hc => ?_) (fun hc => absurd hc (by decide))
    refine j_aload_n x dX4_isParsed_37 rfl ?_
    refine j_bipush (v := 59) x dX4_isParsed_38 (by decide) ?_
    refine j2_callVi x hb dX4_isParsed_40 m_X4_isPassed (c_isPassed_y (d := d) (ch := 59) hb hn ((jcm_n (by omega)).trans hl) jcm_p (pN_le (hg j hj).1 (ppo_le (fun i hi => hg i (by omega)))) (by rw [jcm_t]; exact (hg j hj).2)) wmX4_46 jc_8 rfl rfl rfl (Nat.le_of_ble_eq_true rfl) (j_fit_rm (by omega) (by omega) (by omega)) rfl ?_
    refine j_if_ne (tgt := 48) x dX4_isParsed_43 (by decide) (fun hc => ?_) (fun hc => absurd hc (by decide))
    refine j_iinc x dX4_isParsed_48 rfl (by decide) rfl ?_
    refine j_goto (tgt := 12) x dX4_isParsed_51 (by decide) ?_
    exact j_goal (ih trivial) (wk_c rfl (wk_c (congrArg (fun z => some (Value.int z)) (nI_1 _)) (wk_0))) rfl
  · refine j_iload_n x dX4_isParsed_12 rfl ?_
    refine j_bipush (v := 30) x dX4_isParsed_13 (by decide) ?_
    refine j_icmp_ge (tgt := 54) x dX4_isParsed_15 (by decide) (fun hc => ?_) (fun hc => absurd (by decide) hc)
    refine j_iconst (v := 0) x dX4_isParsed_54 (by decide) ?_
    exact j_zreturn x hr dX4_isParsed_55 (by first | decide | with_reducible exact jb_nar | with_reducible exact jisS_nar | with_reducible exact gno_nar) (by omega) (by omega) ⟨rfl, rfl⟩
def cref (M : MM) (n : Nat) (u v w z : Int32) : Option (Int32 × Int32) := if u = 109 then rRes M v w z else if u = 98 then rBack M v else if u = 111 then rPut M v w else if u = 110 then rNext M n else rRules v w z
def capp (M : MM) (u v w z : Int32) : MM := if u = 109 then jsetg M 1 v w z else if u = 98 then jsetg M 1 v (-1) (-1) else if u = 111 then jput 56 M 4 v (M 1 3 + w) else if u = 110 then jm M 1 3 (M 1 3 + 1) else jsetr M 1 v w z
abbrev isLet (u : Int32) : Prop := u = 109 ∨ u = 98 ∨ u = 111 ∨ u = 110 ∨ u = 116
theorem c_isCarriedOut_109_s {d : Nat} {b : SBt} {Y : OUt} {M : MM} (hb : 94 ≤ b.2.1) {i n : Nat} (hi : i < 30) (hn : n ≤ 56) (hm : jmc M = nI n) (hL : M 88 i = 109) {r t : Int32} (h : rRes M (M 89 i) (M 90 i) (M 91 i) = some (r, t)) : CM (d + 4) 0 0 yX5_isCarriedOut cX5_isCarriedOut 5 (some .boolean) [.ref 0, .int (nI i)] b Y M (.inl (some (.int (0)))) (jref M r t) := by
  refine Con.of (by decide +kernel) (Nat.le_of_ble_eq_true rfl) rfl fun p l e s m args below meth c D tyc A ad0 x hr htab hname => ?_
  change JJ _ _ _ _ _ _ _ _ _ _ _ _ _ _ _ _ _ 0 [some (.ref 0), some (.int (nI i)), none, none, none] [] _ 0 0
  refine j_aload_n x dX5_isCarriedOut_0 rfl ?_
  refine j2_getr (k := 7) (r := 86) x hb dX5_isCarriedOut_1 jc_9 wfX5_47 (by decide) rfl ?_
  refine j2_getr (k := 5) (r := 89) x hb dX5_isCarriedOut_4 jc_8 wfX5_450 (by decide) rfl ?_
  refine j_iload_n x dX5_isCarriedOut_7 rfl ?_
  refine j2_callSi x hb dX5_isCarriedOut_8 m_X5_at (CM_v (c_at (d := d) hb fa_89 (by decide)) (jat_nI hi (by decide))) wmX5_93 rfl (Nat.le_of_ble_eq_true rfl) (j_fit_rm (by omega) (by omega) (by omega)) rfl ?_
  refine j_istore_n x dX5_isCarriedOut_11 (by decide) rfl ?_
  refine j_aload_n x dX5_isCarriedOut_12 rfl ?_
  refine j2_getr (k := 7) (r := 86) x hb dX5_isCarriedOut_13 jc_9 wfX5_47 (by decide) rfl ?_
  refine j2_getr (k := 6) (r := 90) x hb dX5_isCarriedOut_16 jc_8 wfX5_453 (by decide) rfl ?_
  refine j_iload_n x dX5_isCarriedOut_19 rfl ?_
  refine j2_callSi x hb dX5_isCarriedOut_20 m_X5_at (CM_v (c_at (d := d) hb fa_90 (by decide)) (jat_nI hi (by decide))) wmX5_93 rfl (Nat.le_of_ble_eq_true rfl) (j_fit_rm (by omega) (by omega) (by omega)) rfl ?_
  refine j_istore_n x dX5_isCarriedOut_23 (by decide) rfl ?_
  refine j_aload_n x dX5_isCarriedOut_24 rfl ?_
  refine j2_getr (k := 7) (r := 86) x hb dX5_isCarriedOut_25 jc_9 wfX5_47 (by decide) rfl ?_
  refine j2_getr (k := 7) (r := 91) x hb dX5_isCarriedOut_28 jc_8 wfX5_456 (by decide) rfl ?_
  refine j_iload_n x dX5_isCarriedOut_31 rfl ?_
  refine j2_callSi x hb dX5_isCarriedOut_32 m_X5_at (CM_v (c_at (d := d) hb fa_91 (by decide)) (jat_nI hi (by decide))) wmX5_93 rfl (Nat.le_of_ble_eq_true rfl) (j_fit_rm (by omega) (by omega) (by omega)) rfl ?_
  refine j_istore x dX5_isCarriedOut_35 (by decide) rfl ?_
  refine j_aload_n x dX5_isCarriedOut_37 rfl ?_
  refine j2_getr (k := 7) (r := 86) x hb dX5_isCarriedOut_38 jc_9 wfX5_47 (by decide) rfl ?_
  refine j2_getr (k := 4) (r := 88) x hb dX5_isCarriedOut_41 jc_8 wfX5_459 (by decide) rfl ?_
  refine j_iload_n x dX5_isCarriedOut_44 rfl ?_
  refine j2_callSi x hb dX5_isCarriedOut_45 m_X5_at (CM_v (CM_v (c_at (d := d) hb fa_88 (by decide)) (jat_nI hi (by decide))) hL) wmX5_93 rfl (Nat.le_of_ble_eq_true rfl) (j_fit_rm (by omega) (by omega) (by omega)) rfl ?_
  refine j_lookup (off := 44) (tgt := 92) x dX5_isCarriedOut_48 (by decide) (by decide) (by decide) ?_
  refine j_aload_n x dX5_isCarriedOut_92 rfl ?_
  refine j_iload_n x dX5_isCarriedOut_93 rfl ?_
  refine j_iload_n x dX5_isCarriedOut_94 rfl ?_
  refine j_iload x dX5_isCarriedOut_95 rfl ?_
  refine j2_callVi x hb dX5_isCarriedOut_97 m_X5_isResultRefused (CM_s (c_isResultRefused (d := d) hb) h) wmX5_138 jc_9 rfl rfl rfl (Nat.le_of_ble_eq_true rfl) (j_fit_rm (by omega) (by omega) (by omega)) rfl ?_
  refine j_if_eq (tgt := 105) x dX5_isCarriedOut_100 (by decide) (fun hc => absurd hc (by decide)) (fun hc => ?_)
  refine j_iconst (v := 0) x dX5_isCarriedOut_103 (by decide) ?_
  exact j_zreturn x hr dX5_isCarriedOut_104 (by first | decide | with_reducible exact jb_nar | with_reducible exact jisS_nar | with_reducible exact gno_nar) (by omega) (by omega) ⟨rfl, rfl⟩
theorem c_isCarriedOut_109_n {d : Nat} {b : SBt} {Y : OUt} {M : MM} (hb : 94 ≤ b.2.1) {i n : Nat} (hi : i < 30) (hn : n ≤ 56) (hm : jmc M = nI n) (hL : M 88 i = 109) (h : rRes M (M 89 i) (M 90 i) (M 91 i) = none) : CM (d + 4) 0 0 yX5_isCarriedOut cX5_isCarriedOut 5 (some .boolean) [.ref 0, .int (nI i)] b Y M (.inl (some (.int (1)))) (jsetg M 1 (M 89 i) (M 90 i) (M 91 i)) := by
  refine Con.of (by decide +kernel) (Nat.le_of_ble_eq_true rfl) rfl fun p l e s m args below meth c D tyc A ad0 x hr htab hname => ?_
  change JJ _ _ _ _ _ _ _ _ _ _ _ _ _ _ _ _ _ 0 [some (.ref 0), some (.int (nI i)), none, none, none] [] _ 0 0
  refine j_aload_n x dX5_isCarriedOut_0 rfl ?_
  refine j2_getr (k := 7) (r := 86) x hb dX5_isCarriedOut_1 jc_9 wfX5_47 (by decide) rfl ?_
  refine j2_getr (k := 5) (r := 89) x hb dX5_isCarriedOut_4 jc_8 wfX5_450 (by decide) rfl ?_
  refine j_iload_n x dX5_isCarriedOut_7 rfl ?_
  refine j2_callSi x hb dX5_isCarriedOut_8 m_X5_at (CM_v (c_at (d := d) hb fa_89 (by decide)) (jat_nI hi (by decide))) wmX5_93 rfl (Nat.le_of_ble_eq_true rfl) (j_fit_rm (by omega) (by omega) (by omega)) rfl ?_
  refine j_istore_n x dX5_isCarriedOut_11 (by decide) rfl ?_
  refine j_aload_n x dX5_isCarriedOut_12 rfl ?_
  refine j2_getr (k := 7) (r := 86) x hb dX5_isCarriedOut_13 jc_9 wfX5_47 (by decide) rfl ?_
  refine j2_getr (k := 6) (r := 90) x hb dX5_isCarriedOut_16 jc_8 wfX5_453 (by decide) rfl ?_
  refine j_iload_n x dX5_isCarriedOut_19 rfl ?_
  refine j2_callSi x hb dX5_isCarriedOut_20 m_X5_at (CM_v (c_at (d := d) hb fa_90 (by decide)) (jat_nI hi (by decide))) wmX5_93 rfl (Nat.le_of_ble_eq_true rfl) (j_fit_rm (by omega) (by omega) (by omega)) rfl ?_
  refine j_istore_n x dX5_isCarriedOut_23 (by decide) rfl ?_
  refine j_aload_n x dX5_isCarriedOut_24 rfl ?_
  refine j2_getr (k := 7) (r := 86) x hb dX5_isCarriedOut_25 jc_9 wfX5_47 (by decide) rfl ?_
  refine j2_getr (k := 7) (r := 91) x hb dX5_isCarriedOut_28 jc_8 wfX5_456 (by decide) rfl ?_
  refine j_iload_n x dX5_isCarriedOut_31 rfl ?_
  refine j2_callSi x hb dX5_isCarriedOut_32 m_X5_at (CM_v (c_at (d := d) hb fa_91 (by decide)) (jat_nI hi (by decide))) wmX5_93 rfl (Nat.le_of_ble_eq_true rfl) (j_fit_rm (by omega) (by omega) (by omega)) rfl ?_
  refine j_istore x dX5_isCarriedOut_35 (by decide) rfl ?_
  refine j_aload_n x dX5_isCarriedOut_37 rfl ?_
  refine j2_getr (k := 7) (r := 86) x hb dX5_isCarriedOut_38 jc_9 wfX5_47 (by decide) rfl ?_
  refine j2_getr (k := 4) (r := 88) x hb dX5_isCarriedOut_41 jc_8 wfX5_459 (by decide) rfl ?_
  refine j_iload_n x dX5_isCarriedOut_44 rfl ?_
  refine j2_callSi x hb dX5_isCarriedOut_45 m_X5_at (CM_v (CM_v (c_at (d := d) hb fa_88 (by decide)) (jat_nI hi (by decide))) hL) wmX5_93 rfl (Nat.le_of_ble_eq_true rfl) (j_fit_rm (by omega) (by omega) (by omega)) rfl ?_
  refine j_lookup (off := 44) (tgt := 92) x dX5_isCarriedOut_48 (by decide) (by decide) (by decide) ?_
  refine j_aload_n x dX5_isCarriedOut_92 rfl ?_
  refine j_iload_n x dX5_isCarriedOut_93 rfl ?_
  refine j_iload_n x dX5_isCarriedOut_94 rfl ?_
  refine j_iload x dX5_isCarriedOut_95 rfl ?_
  refine j2_callVi x hb dX5_isCarriedOut_97 m_X5_isResultRefused (CM_n (c_isResultRefused (d := d) hb) h) wmX5_138 jc_9 rfl rfl rfl (Nat.le_of_ble_eq_true rfl) (j_fit_rm (by omega) (by omega) (by omega)) rfl ?_
  refine j_if_eq (tgt := 105) x dX5_isCarriedOut_100 (by decide) (fun hc => ?_) (fun hc => absurd (rfl) hc)
  refine j_aload_n x dX5_isCarriedOut_105 rfl ?_
  refine j2_getr (k := 0) (r := 1) x hb dX5_isCarriedOut_106 jc_9 wfX5_10 (by decide) rfl ?_
  refine j_iload_n x dX5_isCarriedOut_109 rfl ?_
  refine j_iload_n x dX5_isCarriedOut_110 rfl ?_
  refine j_iload x dX5_isCarriedOut_111 rfl ?_
  refine j2_callVv x hb dX5_isCarriedOut_113 m_X2_setGoals (c_setGoals (d := d) hb rfl) wmX5_143 jc_6 rfl rfl rfl (Nat.le_of_ble_eq_true rfl) (j_fit_rm (by omega) (by omega) (by omega)) rfl ?_
  refine j_iconst (v := 1) x dX5_isCarriedOut_116 (by decide) ?_
  exact j_zreturn x hr dX5_isCarriedOut_117 (by first | decide | with_reducible exact jb_nar | with_reducible exact jisS_nar | with_reducible exact gno_nar) (by omega) (by omega) ⟨rfl, rfl⟩
theorem c_isCarriedOut_98_s {d : Nat} {b : SBt} {Y : OUt} {M : MM} (hb : 94 ≤ b.2.1) {i n : Nat} (hi : i < 30) (hn : n ≤ 56) (hm : jmc M = nI n) (hL : M 88 i = 98) {r t : Int32} (h : rBack M (M 89 i) = some (r, t)) : CM (d + 4) 0 0 yX5_isCarriedOut cX5_isCarriedOut 5 (some .boolean) [.ref 0, .int (nI i)] b Y M (.inl (some (.int (0)))) (jref M r t) := by
  refine Con.of (by decide +kernel) (Nat.le_of_ble_eq_true rfl) rfl fun p l e s m args below meth c D tyc A ad0 x hr htab hname => ?_
  change JJ _ _ _ _ _ _ _ _ _ _ _ _ _ _ _ _ _ 0 [some (.ref 0), some (.int (nI i)), none, none, none] [] _ 0 0
  refine j_aload_n x dX5_isCarriedOut_0 rfl ?_
  refine j2_getr (k := 7) (r := 86) x hb dX5_isCarriedOut_1 jc_9 wfX5_47 (by decide) rfl ?_
  refine j2_getr (k := 5) (r := 89) x hb dX5_isCarriedOut_4 jc_8 wfX5_450 (by decide) rfl ?_
  refine j_iload_n x dX5_isCarriedOut_7 rfl ?_
  refine j2_callSi x hb dX5_isCarriedOut_8 m_X5_at (CM_v (c_at (d := d) hb fa_89 (by decide)) (jat_nI hi (by decide))) wmX5_93 rfl (Nat.le_of_ble_eq_true rfl) (j_fit_rm (by omega) (by omega) (by omega)) rfl ?_
  refine j_istore_n x dX5_isCarriedOut_11 (by decide) rfl ?_
  refine j_aload_n x dX5_isCarriedOut_12 rfl ?_
  refine j2_getr (k := 7) (r := 86) x hb dX5_isCarriedOut_13 jc_9 wfX5_47 (by decide) rfl ?_
  refine j2_getr (k := 6) (r := 90) x hb dX5_isCarriedOut_16 jc_8 wfX5_453 (by decide) rfl ?_
  refine j_iload_n x dX5_isCarriedOut_19 rfl ?_
  refine j2_callSi x hb dX5_isCarriedOut_20 m_X5_at (CM_v (c_at (d := d) hb fa_90 (by decide)) (jat_nI hi (by decide))) wmX5_93 rfl (Nat.le_of_ble_eq_true rfl) (j_fit_rm (by omega) (by omega) (by omega)) rfl ?_
  refine j_istore_n x dX5_isCarriedOut_23 (by decide) rfl ?_
  refine j_aload_n x dX5_isCarriedOut_24 rfl ?_
  refine j2_getr (k := 7) (r := 86) x hb dX5_isCarriedOut_25 jc_9 wfX5_47 (by decide) rfl ?_
  refine j2_getr (k := 7) (r := 91) x hb dX5_isCarriedOut_28 jc_8 wfX5_456 (by decide) rfl ?_
  refine j_iload_n x dX5_isCarriedOut_31 rfl ?_
  refine j2_callSi x hb dX5_isCarriedOut_32 m_X5_at (CM_v (c_at (d := d) hb fa_91 (by decide)) (jat_nI hi (by decide))) wmX5_93 rfl (Nat.le_of_ble_eq_true rfl) (j_fit_rm (by omega) (by omega) (by omega)) rfl ?_
  refine j_istore x dX5_isCarriedOut_35 (by decide) rfl ?_
  refine j_aload_n x dX5_isCarriedOut_37 rfl ?_
  refine j2_getr (k := 7) (r := 86) x hb dX5_isCarriedOut_38 jc_9 wfX5_47 (by decide) rfl ?_
  refine j2_getr (k := 4) (r := 88) x hb dX5_isCarriedOut_41 jc_8 wfX5_459 (by decide) rfl ?_
  refine j_iload_n x dX5_isCarriedOut_44 rfl ?_
  refine j2_callSi x hb dX5_isCarriedOut_45 m_X5_at (CM_v (CM_v (c_at (d := d) hb fa_88 (by decide)) (jat_nI hi (by decide))) hL) wmX5_93 rfl (Nat.le_of_ble_eq_true rfl) (j_fit_rm (by omega) (by omega) (by omega)) rfl ?_
  refine j_lookup (off := 70) (tgt := 118) x dX5_isCarriedOut_48 (by decide) (by decide) (by decide) ?_
  refine j_aload_n x dX5_isCarriedOut_118 rfl ?_
  refine j_iload_n x dX5_isCarriedOut_119 rfl ?_
  refine j2_callVi x hb dX5_isCarriedOut_120 m_X5_isBackRefused (CM_s (c_isBackRefused (d := d) hb) h) wmX5_150 jc_9 rfl rfl rfl (Nat.le_of_ble_eq_true rfl) (j_fit_rm (by omega) (by omega) (by omega)) rfl ?_
  refine j_if_eq (tgt := 128) x dX5_isCarriedOut_123 (by decide) (fun hc => absurd hc (by decide)) (fun hc => ?_)
  refine j_iconst (v := 0) x dX5_isCarriedOut_126 (by decide) ?_
  exact j_zreturn x hr dX5_isCarriedOut_127 (by first | decide | with_reducible exact jb_nar | with_reducible exact jisS_nar | with_reducible exact gno_nar) (by omega) (by omega) ⟨rfl, rfl⟩
theorem c_isCarriedOut_98_n {d : Nat} {b : SBt} {Y : OUt} {M : MM} (hb : 94 ≤ b.2.1) {i n : Nat} (hi : i < 30) (hn : n ≤ 56) (hm : jmc M = nI n) (hL : M 88 i = 98) (h : rBack M (M 89 i) = none) : CM (d + 4) 0 0 yX5_isCarriedOut cX5_isCarriedOut 5 (some .boolean) [.ref 0, .int (nI i)] b Y M (.inl (some (.int (1)))) (jsetg M 1 (M 89 i) (-1) (-1)) := by
  refine Con.of (by decide +kernel) (Nat.le_of_ble_eq_true rfl) rfl fun p l e s m args below meth c D tyc A ad0 x hr htab hname => ?_
  change JJ _ _ _ _ _ _ _ _ _ _ _ _ _ _ _ _ _ 0 [some (.ref 0), some (.int (nI i)), none, none, none] [] _ 0 0
  refine j_aload_n x dX5_isCarriedOut_0 rfl ?_
  refine j2_getr (k := 7) (r := 86) x hb dX5_isCarriedOut_1 jc_9 wfX5_47 (by decide) rfl ?_
  refine j2_getr (k := 5) (r := 89) x hb dX5_isCarriedOut_4 jc_8 wfX5_450 (by decide) rfl ?_
  refine j_iload_n x dX5_isCarriedOut_7 rfl ?_
  refine j2_callSi x hb dX5_isCarriedOut_8 m_X5_at (CM_v (c_at (d := d) hb fa_89 (by decide)) (jat_nI hi (by decide))) wmX5_93 rfl (Nat.le_of_ble_eq_true rfl) (j_fit_rm (by omega) (by omega) (by omega)) rfl ?_
  refine j_istore_n x dX5_isCarriedOut_11 (by decide) rfl ?_
  refine j_aload_n x dX5_isCarriedOut_12 rfl ?_
  refine j2_getr (k := 7) (r := 86) x hb dX5_isCarriedOut_13 jc_9 wfX5_47 (by decide) rfl ?_
  refine j2_getr (k := 6) (r := 90) x hb dX5_isCarriedOut_16 jc_8 wfX5_453 (by decide) rfl ?_
  refine j_iload_n x dX5_isCarriedOut_19 rfl ?_
  refine j2_callSi x hb dX5_isCarriedOut_20 m_X5_at (CM_v (c_at (d := d) hb fa_90 (by decide)) (jat_nI hi (by decide))) wmX5_93 rfl (Nat.le_of_ble_eq_true rfl) (j_fit_rm (by omega) (by omega) (by omega)) rfl ?_
  refine j_istore_n x dX5_isCarriedOut_23 (by decide) rfl ?_
  refine j_aload_n x dX5_isCarriedOut_24 rfl ?_
  refine j2_getr (k := 7) (r := 86) x hb dX5_isCarriedOut_25 jc_9 wfX5_47 (by decide) rfl ?_
  refine j2_getr (k := 7) (r := 91) x hb dX5_isCarriedOut_28 jc_8 wfX5_456 (by decide) rfl ?_
  refine j_iload_n x dX5_isCarriedOut_31 rfl ?_
  refine j2_callSi x hb dX5_isCarriedOut_32 m_X5_at (CM_v (c_at (d := d) hb fa_91 (by decide)) (jat_nI hi (by decide))) wmX5_93 rfl (Nat.le_of_ble_eq_true rfl) (j_fit_rm (by omega) (by omega) (by omega)) rfl ?_
  refine j_istore x dX5_isCarriedOut_35 (by decide) rfl ?_
  refine j_aload_n x dX5_isCarriedOut_37 rfl ?_
  refine j2_getr (k := 7) (r := 86) x hb dX5_isCarriedOut_38 jc_9 wfX5_47 (by decide) rfl ?_
  refine j2_getr (k := 4) (r := 88) x hb dX5_isCarriedOut_41 jc_8 wfX5_459 (by decide) rfl ?_
  refine j_iload_n x dX5_isCarriedOut_44 rfl ?_
  refine j2_callSi x hb dX5_isCarriedOut_45 m_X5_at (CM_v (CM_v (c_at (d := d) hb fa_88 (by decide)) (jat_nI hi (by decide))) hL) wmX5_93 rfl (Nat.le_of_ble_eq_true rfl) (j_fit_rm (by omega) (by omega) (by omega)) rfl ?_
  refine j_lookup (off := 70) (tgt := 118) x dX5_isCarriedOut_48 (by decide) (by decide) (by decide) ?_
  refine j_aload_n x dX5_isCarriedOut_118 rfl ?_
  refine j_iload_n x dX5_isCarriedOut_119 rfl ?_
  refine j2_callVi x hb dX5_isCarriedOut_120 m_X5_isBackRefused (CM_n (c_isBackRefused (d := d) hb) h) wmX5_150 jc_9 rfl rfl rfl (Nat.le_of_ble_eq_true rfl) (j_fit_rm (by omega) (by omega) (by omega)) rfl ?_
  refine j_if_eq (tgt := 128) x dX5_isCarriedOut_123 (by decide) (fun hc => ?_) (fun hc => absurd (rfl) hc)
  refine j_aload_n x dX5_isCarriedOut_128 rfl ?_
  refine j2_getr (k := 0) (r := 1) x hb dX5_isCarriedOut_129 jc_9 wfX5_10 (by decide) rfl ?_
  refine j_iload_n x dX5_isCarriedOut_132 rfl ?_
  refine j_iconst (v := (-1)) x dX5_isCarriedOut_133 (by decide) ?_
  refine j_iconst (v := (-1)) x dX5_isCarriedOut_134 (by decide) ?_
  refine j2_callVv x hb dX5_isCarriedOut_135 m_X2_setGoals (c_setGoals (d := d) hb rfl) wmX5_143 jc_6 rfl rfl rfl (Nat.le_of_ble_eq_true rfl) (j_fit_rm (by omega) (by omega) (by omega)) rfl ?_
  refine j_iconst (v := 1) x dX5_isCarriedOut_138 (by decide) ?_
  exact j_zreturn x hr dX5_isCarriedOut_139 (by first | decide | with_reducible exact jb_nar | with_reducible exact jisS_nar | with_reducible exact gno_nar) (by omega) (by omega) ⟨rfl, rfl⟩
theorem c_isCarriedOut_111_s {d : Nat} {b : SBt} {Y : OUt} {M : MM} (hb : 94 ≤ b.2.1) {i n : Nat} (hi : i < 30) (hn : n ≤ 56) (hm : jmc M = nI n) (hL : M 88 i = 111) {r t : Int32} (h : rPut M (M 89 i) (M 90 i) = some (r, t)) : CM (d + 4) 0 0 yX5_isCarriedOut cX5_isCarriedOut 5 (some .boolean) [.ref 0, .int (nI i)] b Y M (.inl (some (.int (0)))) (jref M r t) := by
  refine Con.of (by decide +kernel) (Nat.le_of_ble_eq_true rfl) rfl fun p l e s m args below meth c D tyc A ad0 x hr htab hname => ?_
  change JJ _ _ _ _ _ _ _ _ _ _ _ _ _ _ _ _ _ 0 [some (.ref 0), some (.int (nI i)), none, none, none] [] _ 0 0
  refine j_aload_n x dX5_isCarriedOut_0 rfl ?_
  refine j2_getr (k := 7) (r := 86) x hb dX5_isCarriedOut_1 jc_9 wfX5_47 (by decide) rfl ?_
  refine j2_getr (k := 5) (r := 89) x hb dX5_isCarriedOut_4 jc_8 wfX5_450 (by decide) rfl ?_
  refine j_iload_n x dX5_isCarriedOut_7 rfl ?_
  refine j2_callSi x hb dX5_isCarriedOut_8 m_X5_at (CM_v (c_at (d := d) hb fa_89 (by decide)) (jat_nI hi (by decide))) wmX5_93 rfl (Nat.le_of_ble_eq_true rfl) (j_fit_rm (by omega) (by omega) (by omega)) rfl ?_
  refine j_istore_n x dX5_isCarriedOut_11 (by decide) rfl ?_
  refine j_aload_n x dX5_isCarriedOut_12 rfl ?_
  refine j2_getr (k := 7) (r := 86) x hb dX5_isCarriedOut_13 jc_9 wfX5_47 (by decide) rfl ?_
  refine j2_getr (k := 6) (r := 90) x hb dX5_isCarriedOut_16 jc_8 wfX5_453 (by decide) rfl ?_
  refine j_iload_n x dX5_isCarriedOut_19 rfl ?_
  refine j2_callSi x hb dX5_isCarriedOut_20 m_X5_at (CM_v (c_at (d := d) hb fa_90 (by decide)) (jat_nI hi (by decide))) wmX5_93 rfl (Nat.le_of_ble_eq_true rfl) (j_fit_rm (by omega) (by omega) (by omega)) rfl ?_
  refine j_istore_n x dX5_isCarriedOut_23 (by decide) rfl ?_
  refine j_aload_n x dX5_isCarriedOut_24 rfl ?_
  refine j2_getr (k := 7) (r := 86) x hb dX5_isCarriedOut_25 jc_9 wfX5_47 (by decide) rfl ?_
  refine j2_getr (k := 7) (r := 91) x hb dX5_isCarriedOut_28 jc_8 wfX5_456 (by decide) rfl ?_
  refine j_iload_n x dX5_isCarriedOut_31 rfl ?_
  refine j2_callSi x hb dX5_isCarriedOut_32 m_X5_at (CM_v (c_at (d := d) hb fa_91 (by decide)) (jat_nI hi (by decide))) wmX5_93 rfl (Nat.le_of_ble_eq_true rfl) (j_fit_rm (by omega) (by omega) (by omega)) rfl ?_
  refine j_istore x dX5_isCarriedOut_35 (by decide) rfl ?_
  refine j_aload_n x dX5_isCarriedOut_37 rfl ?_
  refine j2_getr (k := 7) (r := 86) x hb dX5_isCarriedOut_38 jc_9 wfX5_47 (by decide) rfl ?_
  refine j2_getr (k := 4) (r := 88) x hb dX5_isCarriedOut_41 jc_8 wfX5_459 (by decide) rfl ?_
  refine j_iload_n x dX5_isCarriedOut_44 rfl ?_
  refine j2_callSi x hb dX5_isCarriedOut_45 m_X5_at (CM_v (CM_v (c_at (d := d) hb fa_88 (by decide)) (jat_nI hi (by decide))) hL) wmX5_93 rfl (Nat.le_of_ble_eq_true rfl) (j_fit_rm (by omega) (by omega) (by omega)) rfl ?_
  refine j_lookup (off := 92) (tgt := 140) x dX5_isCarriedOut_48 (by decide) (by decide) (by decide) ?_
  refine j_aload_n x dX5_isCarriedOut_140 rfl ?_
  refine j_iload_n x dX5_isCarriedOut_141 rfl ?_
  refine j_iload_n x dX5_isCarriedOut_142 rfl ?_
  refine j2_callVi x hb dX5_isCarriedOut_143 m_X5_isPutOffRefused (CM_s (c_isPutOffRefused (d := d) hb) h) wmX5_155 jc_9 rfl rfl rfl (Nat.le_of_ble_eq_true rfl) (j_fit_rm (by omega) (by omega) (by omega)) rfl ?_
  refine j_if_eq (tgt := 151) x dX5_isCarriedOut_146 (by decide) (fun hc => absurd hc (by decide)) (fun hc => ?_)
  refine j_iconst (v := 0) x dX5_isCarriedOut_149 (by decide) ?_
  exact j_zreturn x hr dX5_isCarriedOut_150 (by first | decide | with_reducible exact jb_nar | with_reducible exact jisS_nar | with_reducible exact gno_nar) (by omega) (by omega) ⟨rfl, rfl⟩
theorem c_isCarriedOut_111_n {d : Nat} {b : SBt} {Y : OUt} {M : MM} (hb : 94 ≤ b.2.1) {i n : Nat} (hi : i < 30) (hn : n ≤ 56) (hm : jmc M = nI n) (hL : M 88 i = 111) (h : rPut M (M 89 i) (M 90 i) = none) : CM (d + 4) 0 0 yX5_isCarriedOut cX5_isCarriedOut 5 (some .boolean) [.ref 0, .int (nI i)] b Y M (.inl (some (.int (1)))) (jput 56 M 4 (M 89 i) (M 1 3 + M 90 i)) := by
  refine Con.of (by decide +kernel) (Nat.le_of_ble_eq_true rfl) rfl fun p l e s m args below meth c D tyc A ad0 x hr htab hname => ?_
  change JJ _ _ _ _ _ _ _ _ _ _ _ _ _ _ _ _ _ 0 [some (.ref 0), some (.int (nI i)), none, none, none] [] _ 0 0
  refine j_aload_n x dX5_isCarriedOut_0 rfl ?_
  refine j2_getr (k := 7) (r := 86) x hb dX5_isCarriedOut_1 jc_9 wfX5_47 (by decide) rfl ?_
  refine j2_getr (k := 5) (r := 89) x hb dX5_isCarriedOut_4 jc_8 wfX5_450 (by decide) rfl ?_
  refine j_iload_n x dX5_isCarriedOut_7 rfl ?_
  refine j2_callSi x hb dX5_isCarriedOut_8 m_X5_at (CM_v (c_at (d := d) hb fa_89 (by decide)) (jat_nI hi (by decide))) wmX5_93 rfl (Nat.le_of_ble_eq_true rfl) (j_fit_rm (by omega) (by omega) (by omega)) rfl ?_
  refine j_istore_n x dX5_isCarriedOut_11 (by decide) rfl ?_
  refine j_aload_n x dX5_isCarriedOut_12 rfl ?_
  refine j2_getr (k := 7) (r := 86) x hb dX5_isCarriedOut_13 jc_9 wfX5_47 (by decide) rfl ?_
  refine j2_getr (k := 6) (r := 90) x hb dX5_isCarriedOut_16 jc_8 wfX5_453 (by decide) rfl ?_
  refine j_iload_n x dX5_isCarriedOut_19 rfl ?_
  refine j2_callSi x hb dX5_isCarriedOut_20 m_X5_at (CM_v (c_at (d := d) hb fa_90 (by decide)) (jat_nI hi (by decide))) wmX5_93 rfl (Nat.le_of_ble_eq_true rfl) (j_fit_rm (by omega) (by omega) (by omega)) rfl ?_
  refine j_istore_n x dX5_isCarriedOut_23 (by decide) rfl ?_
  refine j_aload_n x dX5_isCarriedOut_24 rfl ?_
  refine j2_getr (k := 7) (r := 86) x hb dX5_isCarriedOut_25 jc_9 wfX5_47 (by decide) rfl ?_
  refine j2_getr (k := 7) (r := 91) x hb dX5_isCarriedOut_28 jc_8 wfX5_456 (by decide) rfl ?_
  refine j_iload_n x dX5_isCarriedOut_31 rfl ?_
  refine j2_callSi x hb dX5_isCarriedOut_32 m_X5_at (CM_v (c_at (d := d) hb fa_91 (by decide)) (jat_nI hi (by decide))) wmX5_93 rfl (Nat.le_of_ble_eq_true rfl) (j_fit_rm (by omega) (by omega) (by omega)) rfl ?_
  refine j_istore x dX5_isCarriedOut_35 (by decide) rfl ?_
  refine j_aload_n x dX5_isCarriedOut_37 rfl ?_
  refine j2_getr (k := 7) (r := 86) x hb dX5_isCarriedOut_38 jc_9 wfX5_47 (by decide) rfl ?_
  refine j2_getr (k := 4) (r := 88) x hb dX5_isCarriedOut_41 jc_8 wfX5_459 (by decide) rfl ?_
  refine j_iload_n x dX5_isCarriedOut_44 rfl ?_
  refine j2_callSi x hb dX5_isCarriedOut_45 m_X5_at (CM_v (CM_v (c_at (d := d) hb fa_88 (by decide)) (jat_nI hi (by decide))) hL) wmX5_93 rfl (Nat.le_of_ble_eq_true rfl) (j_fit_rm (by omega) (by omega) (by omega)) rfl ?_
  refine j_lookup (off := 92) (tgt := 140) x dX5_isCarriedOut_48 (by decide) (by decide) (by decide) ?_
  refine j_aload_n x dX5_isCarriedOut_140 rfl ?_
  refine j_iload_n x dX5_isCarriedOut_141 rfl ?_
  refine j_iload_n x dX5_isCarriedOut_142 rfl ?_
  refine j2_callVi x hb dX5_isCarriedOut_143 m_X5_isPutOffRefused (CM_n (c_isPutOffRefused (d := d) hb) h) wmX5_155 jc_9 rfl rfl rfl (Nat.le_of_ble_eq_true rfl) (j_fit_rm (by omega) (by omega) (by omega)) rfl ?_
  refine j_if_eq (tgt := 151) x dX5_isCarriedOut_146 (by decide) (fun hc => ?_) (fun hc => absurd (rfl) hc)
  refine j_aload_n x dX5_isCarriedOut_151 rfl ?_
  refine j2_getr (k := 0) (r := 1) x hb dX5_isCarriedOut_152 jc_9 wfX5_10 (by decide) rfl ?_
  refine j2_getr (k := 8) (r := 4) x hb dX5_isCarriedOut_155 jc_6 wfX5_163 (by decide) rfl ?_
  refine j_iload_n x dX5_isCarriedOut_158 rfl ?_
  refine j_aload_n x dX5_isCarriedOut_159 rfl ?_
  refine j2_getr (k := 0) (r := 1) x hb dX5_isCarriedOut_160 jc_9 wfX5_10 (by decide) rfl ?_
  refine j2_geti (k := 3) x hb dX5_isCarriedOut_163 jc_6 wfX5_160 (by decide) rfl ?_
  refine j_iload_n x dX5_isCarriedOut_166 rfl ?_
  refine j_iadd x dX5_isCarriedOut_167 ?_
  refine j2_callSv x hb dX5_isCarriedOut_168 m_X5_put (c_put (d := d) hb fa_4 (by decide)) wmX5_83 rfl (Nat.le_of_ble_eq_true rfl) (j_fit_rm (by omega) (by omega) (by omega)) rfl ?_
  refine j_iconst (v := 1) x dX5_isCarriedOut_171 (by decide) ?_
  exact j_zreturn x hr dX5_isCarriedOut_172 (by first | decide | with_reducible exact jb_nar | with_reducible exact jisS_nar | with_reducible exact gno_nar) (by omega) (by omega) ⟨rfl, rfl⟩
theorem c_isCarriedOut_110_s {d : Nat} {b : SBt} {Y : OUt} {M : MM} (hb : 94 ≤ b.2.1) {i n : Nat} (hi : i < 30) (hn : n ≤ 56) (hm : jmc M = nI n) (hL : M 88 i = 110) {r t : Int32} (h : rNext M n = some (r, t)) : CM (d + 4) 0 0 yX5_isCarriedOut cX5_isCarriedOut 5 (some .boolean) [.ref 0, .int (nI i)] b Y M (.inl (some (.int (0)))) (jref M r t) := by
  refine Con.of (by decide +kernel) (Nat.le_of_ble_eq_true rfl) rfl fun p l e s m args below meth c D tyc A ad0 x hr htab hname => ?_
  change JJ _ _ _ _ _ _ _ _ _ _ _ _ _ _ _ _ _ 0 [some (.ref 0), some (.int (nI i)), none, none, none] [] _ 0 0
  refine j_aload_n x dX5_isCarriedOut_0 rfl ?_
  refine j2_getr (k := 7) (r := 86) x hb dX5_isCarriedOut_1 jc_9 wfX5_47 (by decide) rfl ?_
  refine j2_getr (k := 5) (r := 89) x hb dX5_isCarriedOut_4 jc_8 wfX5_450 (by decide) rfl ?_
  refine j_iload_n x dX5_isCarriedOut_7 rfl ?_
  refine j2_callSi x hb dX5_isCarriedOut_8 m_X5_at (CM_v (c_at (d := d) hb fa_89 (by decide)) (jat_nI hi (by decide))) wmX5_93 rfl (Nat.le_of_ble_eq_true rfl) (j_fit_rm (by omega) (by omega) (by omega)) rfl ?_
  refine j_istore_n x dX5_isCarriedOut_11 (by decide) rfl ?_
  refine j_aload_n x dX5_isCarriedOut_12 rfl ?_
  refine j2_getr (k := 7) (r := 86) x hb dX5_isCarriedOut_13 jc_9 wfX5_47 (by decide) rfl ?_
  refine j2_getr (k := 6) (r := 90) x hb dX5_isCarriedOut_16 jc_8 wfX5_453 (by decide) rfl ?_
  refine j_iload_n x dX5_isCarriedOut_19 rfl ?_
  refine j2_callSi x hb dX5_isCarriedOut_20 m_X5_at (CM_v (c_at (d := d) hb fa_90 (by decide)) (jat_nI hi (by decide))) wmX5_93 rfl (Nat.le_of_ble_eq_true rfl) (j_fit_rm (by omega) (by omega) (by omega)) rfl ?_
  refine j_istore_n x dX5_isCarriedOut_23 (by decide) rfl ?_
  refine j_aload_n x dX5_isCarriedOut_24 rfl ?_
  refine j2_getr (k := 7) (r := 86) x hb dX5_isCarriedOut_25 jc_9 wfX5_47 (by decide) rfl ?_
  refine j2_getr (k := 7) (r := 91) x hb dX5_isCarriedOut_28 jc_8 wfX5_456 (by decide) rfl ?_
  refine j_iload_n x dX5_isCarriedOut_31 rfl ?_
  refine j2_callSi x hb dX5_isCarriedOut_32 m_X5_at (CM_v (c_at (d := d) hb fa_91 (by decide)) (jat_nI hi (by decide))) wmX5_93 rfl (Nat.le_of_ble_eq_true rfl) (j_fit_rm (by omega) (by omega) (by omega)) rfl ?_
  refine j_istore x dX5_isCarriedOut_35 (by decide) rfl ?_
  refine j_aload_n x dX5_isCarriedOut_37 rfl ?_
  refine j2_getr (k := 7) (r := 86) x hb dX5_isCarriedOut_38 jc_9 wfX5_47 (by decide) rfl ?_
  refine j2_getr (k := 4) (r := 88) x hb dX5_isCarriedOut_41 jc_8 wfX5_459 (by decide) rfl ?_
  refine j_iload_n x dX5_isCarriedOut_44 rfl ?_
  refine j2_callSi x hb dX5_isCarriedOut_45 m_X5_at (CM_v (CM_v (c_at (d := d) hb fa_88 (by decide)) (jat_nI hi (by decide))) hL) wmX5_93 rfl (Nat.le_of_ble_eq_true rfl) (j_fit_rm (by omega) (by omega) (by omega)) rfl ?_
  refine j_lookup (off := 125) (tgt := 173) x dX5_isCarriedOut_48 (by decide) (by decide) (by decide) ?_
  refine j_aload_n x dX5_isCarriedOut_173 rfl ?_
  refine j2_callVi x hb dX5_isCarriedOut_174 m_X5_isNextRefused (CM_s (c_isNextRefused (d := d) hb hn hm) h) wmX5_169 jc_9 rfl rfl rfl (Nat.le_of_ble_eq_true rfl) (j_fit_rm (by omega) (by omega) (by omega)) rfl ?_
  refine j_if_eq (tgt := 182) x dX5_isCarriedOut_177 (by decide) (fun hc => absurd hc (by decide)) (fun hc => ?_)
  refine j_iconst (v := 0) x dX5_isCarriedOut_180 (by decide) ?_
  exact j_zreturn x hr dX5_isCarriedOut_181 (by first | decide | with_reducible exact jb_nar | with_reducible exact jisS_nar | with_reducible exact gno_nar) (by omega) (by omega) ⟨rfl, rfl⟩
theorem c_isCarriedOut_110_n {d : Nat} {b : SBt} {Y : OUt} {M : MM} (hb : 94 ≤ b.2.1) {i n : Nat} (hi : i < 30) (hn : n ≤ 56) (hm : jmc M = nI n) (hL : M 88 i = 110) (h : rNext M n = none) : CM (d + 4) 0 0 yX5_isCarriedOut cX5_isCarriedOut 5 (some .boolean) [.ref 0, .int (nI i)] b Y M (.inl (some (.int (1)))) (jm M 1 3 (M 1 3 + 1)) := by
  refine Con.of (by decide +kernel) (Nat.le_of_ble_eq_true rfl) rfl fun p l e s m args below meth c D tyc A ad0 x hr htab hname => ?_
  change JJ _ _ _ _ _ _ _ _ _ _ _ _ _ _ _ _ _ 0 [some (.ref 0), some (.int (nI i)), none, none, none] [] _ 0 0
  refine j_aload_n x dX5_isCarriedOut_0 rfl ?_
  refine j2_getr (k := 7) (r := 86) x hb dX5_isCarriedOut_1 jc_9 wfX5_47 (by decide) rfl ?_
  refine j2_getr (k := 5) (r := 89) x hb dX5_isCarriedOut_4 jc_8 wfX5_450 (by decide) rfl ?_
  refine j_iload_n x dX5_isCarriedOut_7 rfl ?_
  refine j2_callSi x hb dX5_isCarriedOut_8 m_X5_at (CM_v (c_at (d := d) hb fa_89 (by decide)) (jat_nI hi (by decide))) wmX5_93 rfl (Nat.le_of_ble_eq_true rfl) (j_fit_rm (by omega) (by omega) (by omega)) rfl ?_
  refine j_istore_n x dX5_isCarriedOut_11 (by decide) rfl ?_
  refine j_aload_n x dX5_isCarriedOut_12 rfl ?_
  refine j2_getr (k := 7) (r := 86) x hb dX5_isCarriedOut_13 jc_9 wfX5_47 (by decide) rfl ?_
  refine j2_getr (k := 6) (r := 90) x hb dX5_isCarriedOut_16 jc_8 wfX5_453 (by decide) rfl ?_
  refine j_iload_n x dX5_isCarriedOut_19 rfl ?_
  refine j2_callSi x hb dX5_isCarriedOut_20 m_X5_at (CM_v (c_at (d := d) hb fa_90 (by decide)) (jat_nI hi (by decide))) wmX5_93 rfl (Nat.le_of_ble_eq_true rfl) (j_fit_rm (by omega) (by omega) (by omega)) rfl ?_
  refine j_istore_n x dX5_isCarriedOut_23 (by decide) rfl ?_
  refine j_aload_n x dX5_isCarriedOut_24 rfl ?_
  refine j2_getr (k := 7) (r := 86) x hb dX5_isCarriedOut_25 jc_9 wfX5_47 (by decide) rfl ?_
  refine j2_getr (k := 7) (r := 91) x hb dX5_isCarriedOut_28 jc_8 wfX5_456 (by decide) rfl ?_
  refine j_iload_n x dX5_isCarriedOut_31 rfl ?_
  refine j2_callSi x hb dX5_isCarriedOut_32 m_X5_at (CM_v (c_at (d := d) hb fa_91 (by decide)) (jat_nI hi (by decide))) wmX5_93 rfl (Nat.le_of_ble_eq_true rfl) (j_fit_rm (by omega) (by omega) (by omega)) rfl ?_
  refine j_istore x dX5_isCarriedOut_35 (by decide) rfl ?_
  refine j_aload_n x dX5_isCarriedOut_37 rfl ?_
  refine j2_getr (k := 7) (r := 86) x hb dX5_isCarriedOut_38 jc_9 wfX5_47 (by decide) rfl ?_
  refine j2_getr (k := 4) (r := 88) x hb dX5_isCarriedOut_41 jc_8 wfX5_459 (by decide) rfl ?_
  refine j_iload_n x dX5_isCarriedOut_44 rfl ?_
  refine j2_callSi x hb dX5_isCarriedOut_45 m_X5_at (CM_v (CM_v (c_at (d := d) hb fa_88 (by decide)) (jat_nI hi (by decide))) hL) wmX5_93 rfl (Nat.le_of_ble_eq_true rfl) (j_fit_rm (by omega) (by omega) (by omega)) rfl ?_
  refine j_lookup (off := 125) (tgt := 173) x dX5_isCarriedOut_48 (by decide) (by decide) (by decide) ?_
  refine j_aload_n x dX5_isCarriedOut_173 rfl ?_
  refine j2_callVi x hb dX5_isCarriedOut_174 m_X5_isNextRefused (CM_n (c_isNextRefused (d := d) hb hn hm) h) wmX5_169 jc_9 rfl rfl rfl (Nat.le_of_ble_eq_true rfl) (j_fit_rm (by omega) (by omega) (by omega)) rfl ?_
  refine j_if_eq (tgt := 182) x dX5_isCarriedOut_177 (by decide) (fun hc => ?_) (fun hc => absurd (rfl) hc)
  refine j_aload_n x dX5_isCarriedOut_182 rfl ?_
  refine j2_getr (k := 0) (r := 1) x hb dX5_isCarriedOut_183 jc_9 wfX5_10 (by decide) rfl ?_
  refine j_dup x dX5_isCarriedOut_186 rfl ?_
  refine j2_geti (k := 3) x hb dX5_isCarriedOut_187 jc_6 wfX5_160 (by decide) rfl ?_
  refine j_iconst (v := 1) x dX5_isCarriedOut_190 (by decide) ?_
  refine j_iadd x dX5_isCarriedOut_191 ?_
  refine j2_puti (k := 3) x hb dX5_isCarriedOut_192 jc_6 wfX5_160 (by decide) rfl rfl rfl rfl ?_
  refine j_iconst (v := 1) x dX5_isCarriedOut_195 (by decide) ?_
  exact j_zreturn x hr dX5_isCarriedOut_196 (by first | decide | with_reducible exact jb_nar | with_reducible exact jisS_nar | with_reducible exact gno_nar) (by omega) (by omega) ⟨rfl, rfl⟩
theorem c_isCarriedOut_116_s {d : Nat} {b : SBt} {Y : OUt} {M : MM} (hb : 94 ≤ b.2.1) {i n : Nat} (hi : i < 30) (hn : n ≤ 56) (hm : jmc M = nI n) (hL : M 88 i = 116) {r t : Int32} (h : rRules (M 89 i) (M 90 i) (M 91 i) = some (r, t)) : CM (d + 4) 0 0 yX5_isCarriedOut cX5_isCarriedOut 5 (some .boolean) [.ref 0, .int (nI i)] b Y M (.inl (some (.int (0)))) (jref M r t) := by
  refine Con.of (by decide +kernel) (Nat.le_of_ble_eq_true rfl) rfl fun p l e s m args below meth c D tyc A ad0 x hr htab hname => ?_
  change JJ _ _ _ _ _ _ _ _ _ _ _ _ _ _ _ _ _ 0 [some (.ref 0), some (.int (nI i)), none, none, none] [] _ 0 0
  refine j_aload_n x dX5_isCarriedOut_0 rfl ?_
  refine j2_getr (k := 7) (r := 86) x hb dX5_isCarriedOut_1 jc_9 wfX5_47 (by decide) rfl ?_
  refine j2_getr (k := 5) (r := 89) x hb dX5_isCarriedOut_4 jc_8 wfX5_450 (by decide) rfl ?_
  refine j_iload_n x dX5_isCarriedOut_7 rfl ?_
  refine j2_callSi x hb dX5_isCarriedOut_8 m_X5_at (CM_v (c_at (d := d) hb fa_89 (by decide)) (jat_nI hi (by decide))) wmX5_93 rfl (Nat.le_of_ble_eq_true rfl) (j_fit_rm (by omega) (by omega) (by omega)) rfl ?_
  refine j_istore_n x dX5_isCarriedOut_11 (by decide) rfl ?_
  refine j_aload_n x dX5_isCarriedOut_12 rfl ?_
  refine j2_getr (k := 7) (r := 86) x hb dX5_isCarriedOut_13 jc_9 wfX5_47 (by decide) rfl ?_
  refine j2_getr (k := 6) (r := 90) x hb dX5_isCarriedOut_16 jc_8 wfX5_453 (by decide) rfl ?_
  refine j_iload_n x dX5_isCarriedOut_19 rfl ?_
  refine j2_callSi x hb dX5_isCarriedOut_20 m_X5_at (CM_v (c_at (d := d) hb fa_90 (by decide)) (jat_nI hi (by decide))) wmX5_93 rfl (Nat.le_of_ble_eq_true rfl) (j_fit_rm (by omega) (by omega) (by omega)) rfl ?_
  refine j_istore_n x dX5_isCarriedOut_23 (by decide) rfl ?_
  refine j_aload_n x dX5_isCarriedOut_24 rfl ?_
  refine j2_getr (k := 7) (r := 86) x hb dX5_isCarriedOut_25 jc_9 wfX5_47 (by decide) rfl ?_
  refine j2_getr (k := 7) (r := 91) x hb dX5_isCarriedOut_28 jc_8 wfX5_456 (by decide) rfl ?_
  refine j_iload_n x dX5_isCarriedOut_31 rfl ?_
  refine j2_callSi x hb dX5_isCarriedOut_32 m_X5_at (CM_v (c_at (d := d) hb fa_91 (by decide)) (jat_nI hi (by decide))) wmX5_93 rfl (Nat.le_of_ble_eq_true rfl) (j_fit_rm (by omega) (by omega) (by omega)) rfl ?_
  refine j_istore x dX5_isCarriedOut_35 (by decide) rfl ?_
  refine j_aload_n x dX5_isCarriedOut_37 rfl ?_
  refine j2_getr (k := 7) (r := 86) x hb dX5_isCarriedOut_38 jc_9 wfX5_47 (by decide) rfl ?_
  refine j2_getr (k := 4) (r := 88) x hb dX5_isCarriedOut_41 jc_8 wfX5_459 (by decide) rfl ?_
  refine j_iload_n x dX5_isCarriedOut_44 rfl ?_
  refine j2_callSi x hb dX5_isCarriedOut_45 m_X5_at (CM_v (CM_v (c_at (d := d) hb fa_88 (by decide)) (jat_nI hi (by decide))) hL) wmX5_93 rfl (Nat.le_of_ble_eq_true rfl) (j_fit_rm (by omega) (by omega) (by omega)) rfl ?_
  refine j_lookup (off := 149) (tgt := 197) x dX5_isCarriedOut_48 (by decide) (by decide) (by decide) ?_
  refine j_aload_n x dX5_isCarriedOut_197 rfl ?_
  refine j_iload_n x dX5_isCarriedOut_198 rfl ?_
  refine j_iload_n x dX5_isCarriedOut_199 rfl ?_
  refine j_iload x dX5_isCarriedOut_200 rfl ?_
  refine j2_callVi x hb dX5_isCarriedOut_202 m_X5_isRulesRefused (CM_s (c_isRulesRefused (d := d) hb) h) wmX5_125 jc_9 rfl rfl rfl (Nat.le_of_ble_eq_true rfl) (j_fit_rm (by omega) (by omega) (by omega)) rfl ?_
  refine j_if_eq (tgt := 210) x dX5_isCarriedOut_205 (by decide) (fun hc => absurd hc (by decide)) (fun hc => ?_)
  refine j_iconst (v := 0) x dX5_isCarriedOut_208 (by decide) ?_
  exact j_zreturn x hr dX5_isCarriedOut_209 (by first | decide | with_reducible exact jb_nar | with_reducible exact jisS_nar | with_reducible exact gno_nar) (by omega) (by omega) ⟨rfl, rfl⟩
theorem c_isCarriedOut_116_n {d : Nat} {b : SBt} {Y : OUt} {M : MM} (hb : 94 ≤ b.2.1) {i n : Nat} (hi : i < 30) (hn : n ≤ 56) (hm : jmc M = nI n) (hL : M 88 i = 116) (h : rRules (M 89 i) (M 90 i) (M 91 i) = none) : CM (d + 4) 0 0 yX5_isCarriedOut cX5_isCarriedOut 5 (some .boolean) [.ref 0, .int (nI i)] b Y M (.inl (some (.int (1)))) (jsetr M 1 (M 89 i) (M 90 i) (M 91 i)) := by
  refine Con.of (by decide +kernel) (Nat.le_of_ble_eq_true rfl) rfl fun p l e s m args below meth c D tyc A ad0 x hr htab hname => ?_
  change JJ _ _ _ _ _ _ _ _ _ _ _ _ _ _ _ _ _ 0 [some (.ref 0), some (.int (nI i)), none, none, none] [] _ 0 0
  refine j_aload_n x dX5_isCarriedOut_0 rfl ?_
  refine j2_getr (k := 7) (r := 86) x hb dX5_isCarriedOut_1 jc_9 wfX5_47 (by decide) rfl ?_
  refine j2_getr (k := 5) (r := 89) x hb dX5_isCarriedOut_4 jc_8 wfX5_450 (by decide) rfl ?_
  refine j_iload_n x dX5_isCarriedOut_7 rfl ?_
  refine j2_callSi x hb dX5_isCarriedOut_8 m_X5_at (CM_v (c_at (d := d) hb fa_89 (by decide)) (jat_nI hi (by decide))) wmX5_93 rfl (Nat.le_of_ble_eq_true rfl) (j_fit_rm (by omega) (by omega) (by omega)) rfl ?_
  refine j_istore_n x dX5_isCarriedOut_11 (by decide) rfl ?_
  refine j_aload_n x dX5_isCarriedOut_12 rfl ?_
  refine j2_getr (k := 7) (r := 86) x hb dX5_isCarriedOut_13 jc_9 wfX5_47 (by decide) rfl ?_
  refine j2_getr (k := 6) (r := 90) x hb dX5_isCarriedOut_16 jc_8 wfX5_453 (by decide) rfl ?_
  refine j_iload_n x dX5_isCarriedOut_19 rfl ?_
  refine j2_callSi x hb dX5_isCarriedOut_20 m_X5_at (CM_v (c_at (d := d) hb fa_90 (by decide)) (jat_nI hi (by decide))) wmX5_93 rfl (Nat.le_of_ble_eq_true rfl) (j_fit_rm (by omega) (by omega) (by omega)) rfl ?_
  refine j_istore_n x dX5_isCarriedOut_23 (by decide) rfl ?_
  refine j_aload_n x dX5_isCarriedOut_24 rfl ?_
  refine j2_getr (k := 7) (r := 86) x hb dX5_isCarriedOut_25 jc_9 wfX5_47 (by decide) rfl ?_
  refine j2_getr (k := 7) (r := 91) x hb dX5_isCarriedOut_28 jc_8 wfX5_456 (by decide) rfl ?_
  refine j_iload_n x dX5_isCarriedOut_31 rfl ?_
  refine j2_callSi x hb dX5_isCarriedOut_32 m_X5_at (CM_v (c_at (d := d) hb fa_91 (by decide)) (jat_nI hi (by decide))) wmX5_93 rfl (Nat.le_of_ble_eq_true rfl) (j_fit_rm (by omega) (by omega) (by omega)) rfl ?_
  refine j_istore x dX5_isCarriedOut_35 (by decide) rfl ?_
  refine j_aload_n x dX5_isCarriedOut_37 rfl ?_
  refine j2_getr (k := 7) (r := 86) x hb dX5_isCarriedOut_38 jc_9 wfX5_47 (by decide) rfl ?_
  refine j2_getr (k := 4) (r := 88) x hb dX5_isCarriedOut_41 jc_8 wfX5_459 (by decide) rfl ?_
  refine j_iload_n x dX5_isCarriedOut_44 rfl ?_
  refine j2_callSi x hb dX5_isCarriedOut_45 m_X5_at (CM_v (CM_v (c_at (d := d) hb fa_88 (by decide)) (jat_nI hi (by decide))) hL) wmX5_93 rfl (Nat.le_of_ble_eq_true rfl) (j_fit_rm (by omega) (by omega) (by omega)) rfl ?_
  refine j_lookup (off := 149) (tgt := 197) x dX5_isCarriedOut_48 (by decide) (by decide) (by decide) ?_
  refine j_aload_n x dX5_isCarriedOut_197 rfl ?_
  refine j_iload_n x dX5_isCarriedOut_198 rfl ?_
  refine j_iload_n x dX5_isCarriedOut_199 rfl ?_
  refine j_iload x dX5_isCarriedOut_200 rfl ?_
  refine j2_callVi x hb dX5_isCarriedOut_202 m_X5_isRulesRefused (CM_n (c_isRulesRefused (d := d) hb) h) wmX5_125 jc_9 rfl rfl rfl (Nat.le_of_ble_eq_true rfl) (j_fit_rm (by omega) (by omega) (by omega)) rfl ?_
  refine j_if_eq (tgt := 210) x dX5_isCarriedOut_205 (by decide) (fun hc => ?_) (fun hc => absurd (rfl) hc)
  refine j_aload_n x dX5_isCarriedOut_210 rfl ?_
  refine j2_getr (k := 0) (r := 1) x hb dX5_isCarriedOut_211 jc_9 wfX5_10 (by decide) rfl ?_
  refine j_iload_n x dX5_isCarriedOut_214 rfl ?_
  refine j_iload_n x dX5_isCarriedOut_215 rfl ?_
  refine j_iload x dX5_isCarriedOut_216 rfl ?_
  refine j2_callVv x hb dX5_isCarriedOut_218 m_X2_setRules (c_setRules (d := d) hb rfl) wmX5_131 jc_6 rfl rfl rfl (Nat.le_of_ble_eq_true rfl) (j_fit_rm (by omega) (by omega) (by omega)) rfl ?_
  refine j_iconst (v := 1) x dX5_isCarriedOut_221 (by decide) ?_
  exact j_zreturn x hr dX5_isCarriedOut_222 (by first | decide | with_reducible exact jb_nar | with_reducible exact jisS_nar | with_reducible exact gno_nar) (by omega) (by omega) ⟨rfl, rfl⟩
theorem c_isCarriedOut_s {d : Nat} {b : SBt} {Y : OUt} {M : MM} (hb : 94 ≤ b.2.1) {i n : Nat} (hi : i < 30) (hn : n ≤ 56) (hm : jmc M = nI n) (hl : isLet (M 88 i)) {r t : Int32} (h : cref M n (M 88 i) (M 89 i) (M 90 i) (M 91 i) = some (r, t)) : CM (d + 4) 0 0 yX5_isCarriedOut cX5_isCarriedOut 5 (some .boolean) [.ref 0, .int (nI i)] b Y M (.inl (some (.int 0))) (jref M r t) := by
  rcases hl with hL | hL | hL | hL | hL
  · have g := h
    rw [hL, cref, if_pos rfl] at g
    exact c_isCarriedOut_109_s hb hi hn hm hL g
  · have g := h
    rw [hL, cref, if_neg (by decide), if_pos rfl] at g
    exact c_isCarriedOut_98_s hb hi hn hm hL g
  · have g := h
    rw [hL, cref, if_neg (by decide), if_neg (by decide), if_pos rfl] at g
    exact c_isCarriedOut_111_s hb hi hn hm hL g
  · have g := h
    rw [hL, cref, if_neg (by decide), if_neg (by decide), if_neg (by decide), if_pos rfl] at g
    exact c_isCarriedOut_110_s hb hi hn hm hL g
  · have g := h
    rw [hL, cref, if_neg (by decide), if_neg (by decide), if_neg (by decide), if_neg (by decide)] at g
    exact c_isCarriedOut_116_s hb hi hn hm hL g
theorem c_isCarriedOut_n {d : Nat} {b : SBt} {Y : OUt} {M : MM} (hb : 94 ≤ b.2.1) {i n : Nat} (hi : i < 30) (hn : n ≤ 56) (hm : jmc M = nI n) (hl : isLet (M 88 i)) (h : cref M n (M 88 i) (M 89 i) (M 90 i) (M 91 i) = none) : CM (d + 4) 0 0 yX5_isCarriedOut cX5_isCarriedOut 5 (some .boolean) [.ref 0, .int (nI i)] b Y M (.inl (some (.int 1))) (capp M (M 88 i) (M 89 i) (M 90 i) (M 91 i)) := by
  rcases hl with hL | hL | hL | hL | hL
  · have g := h
    rw [hL, cref, if_pos rfl] at g
    rw [hL, capp, if_pos rfl]
    exact c_isCarriedOut_109_n hb hi hn hm hL g
  · have g := h
    rw [hL, cref, if_neg (by decide), if_pos rfl] at g
    rw [hL, capp, if_neg (by decide), if_pos rfl]
    exact c_isCarriedOut_98_n hb hi hn hm hL g
  · have g := h
    rw [hL, cref, if_neg (by decide), if_neg (by decide), if_pos rfl] at g
    rw [hL, capp, if_neg (by decide), if_neg (by decide), if_pos rfl]
    exact c_isCarriedOut_111_n hb hi hn hm hL g
  · have g := h
    rw [hL, cref, if_neg (by decide), if_neg (by decide), if_neg (by decide), if_pos rfl] at g
    rw [hL, capp, if_neg (by decide), if_neg (by decide), if_neg (by decide), if_pos rfl]
    exact c_isCarriedOut_110_n hb hi hn hm hL g
  · have g := h
    rw [hL, cref, if_neg (by decide), if_neg (by decide), if_neg (by decide), if_neg (by decide)] at g
    rw [hL, capp, if_neg (by decide), if_neg (by decide), if_neg (by decide), if_neg (by decide)]
    exact c_isCarriedOut_116_n hb hi hn hm hL g
def jac (M : MM) : Nat → MM
  | 0 => M
  | i + 1 => capp (jm (jac M i) 0 12 (nI i)) (M 88 i) (M 89 i) (M 90 i) (M 91 i)
theorem capp_n {M : MM} {u v w z : Int32} {i k : Nat} (h : 6 < i ∨ i = 0 ∨ i = 2 ∨ (i = 1 ∧ k ≠ 3 ∧ k ≠ 6)) : capp M u v w z i k = M i k := by
  unfold capp
  split
  · exact jsetg_n (by omega) (by omega)
  · split
    · exact jsetg_n (by omega) (by omega)
    · split
      · exact m_put (by omega)
      · split
        · exact jm_n (by omega)
        · have ha : ∀ (N : MM) (t : Int32), jaddr N 1 t i k = N i k := by
            intro N t
            unfold jaddr
            split
            · rfl
            · rw [jm_n (by omega), m_put (by omega)]
          rw [jsetr, ha, ha, ha, jm_n (by omega)]
theorem jac_n {M : MM} {i k : Nat} (h : 6 < i ∨ (i = 0 ∧ k ≠ 12) ∨ i = 2 ∨ (i = 1 ∧ k ≠ 3 ∧ k ≠ 6)) : ∀ j, jac M j i k = M i k
  | 0 => rfl
  | j + 1 => by rw [jac, capp_n (by omega), jm_n (by omega)]; exact jac_n h j
abbrev jat12 (M : MM) (i : Nat) : MM := jm (jac M i) 0 12 (nI i)
theorem jat12_n {M : MM} {i k j : Nat} (h : 6 < i ∨ (i = 0 ∧ k ≠ 12) ∨ i = 2 ∨ (i = 1 ∧ k ≠ 3 ∧ k ≠ 6)) : jat12 M j i k = M i k := by
  rw [jat12, jm_n (by omega)]; exact jac_n h j
theorem jac_step (M : MM) (j : Nat) : jac M (j + 1) = capp (jat12 M j) (jat12 M j 88 j) (jat12 M j 89 j) (jat12 M j 90 j) (jat12 M j 91 j) := by
  rw [jat12_n (i := 88) (by omega), jat12_n (i := 89) (by omega), jat12_n (i := 90) (by omega), jat12_n (i := 91) (by omega)]; rfl
theorem c_areCarriedOut_ok {d : Nat} {b : SBt} {Y : OUt} {M : MM} (hb : 94 ≤ b.2.1) {n k1 : Nat} (hn : n ≤ 56) (hm : jmc M = nI n) (hk30 : k1 ≤ 30) (hk1 : M 86 2 = nI k1) (hl : ∀ i, i < k1 → isLet (M 88 i)) (h : ∀ i, i < k1 → cref (jat12 M i) n (M 88 i) (M 89 i) (M 90 i) (M 91 i) = none) : CM (d + 5) 0 0 yX5_areCarriedOut cX5_areCarriedOut 3 (some .boolean) [.ref 0] b Y M (.inl (some (.int (1)))) (jm (jac M k1) 0 12 0) := by
  refine Con.of (by decide +kernel) (Nat.le_of_ble_eq_true rfl) rfl fun p l e s m args below meth c D tyc A ad0 x hr htab hname => ?_
  change JJ _ _ _ _ _ _ _ _ _ _ _ _ _ _ _ _ _ 0 [some (.ref 0), none, none] [] _ 0 0
  refine j_iconst (v := 1) x dX5_areCarriedOut_0 (by decide) ?_
  refine j_istore_n x dX5_areCarriedOut_1 (by decide) rfl ?_
  refine j_iconst (v := 0) x dX5_areCarriedOut_2 (by decide) ?_
  refine j_istore_n x dX5_areCarriedOut_3 (by decide) rfl ?_
  refine j_for k1 (fun z0 => [some (.ref 0), some (.int 1), some (.int (nI z0))]) (fun z0 => jac M z0) (fun _ => True) rfl rfl trivial (fun j hj hP ih => ?_) (fun hP => ?_)
  · refine j_iload_n x dX5_areCarriedOut_4 rfl ?_
    refine j_aload_n x dX5_areCarriedOut_5 rfl ?_
    refine j2_getr (k := 7) (r := 86) x hb dX5_areCarriedOut_6 jc_9 wfX5_47 (by decide) rfl ?_
    refine j2_geti (k := 2) x hb dX5_areCarriedOut_9 jc_8 wfX5_339 (by decide) rfl ?_; rw [jac_n (by omega), hk1]
    refine j_icmp_ge (tgt := 36) x dX5_areCarriedOut_12 (by decide) (fun hc => absurd hc (nI_ge (show j < k1 by omega) (by omega))) (fun hc => ?_)
    refine j_iload_n x dX5_areCarriedOut_15 rfl ?_
    refine j_if_eq (tgt := 36) x dX5_areCarriedOut_16 (by decide) (fun hc => absurd hc (by decide)) (fun hc => ?_)
    refine j_aload_n x dX5_areCarriedOut_19 rfl ?_
    refine j_iload_n x dX5_areCarriedOut_20 rfl ?_
    refine j2_puti (k := 12) x hb dX5_areCarriedOut_21 jc_9 wfX5_444 (by decide) rfl rfl rfl rfl ?_
    refine j_aload_n x dX5_areCarriedOut_24 rfl ?_
    refine j_iload_n x dX5_areCarriedOut_25 rfl ?_
    refine j2_callVi x hb dX5_areCarriedOut_26 m_X5_isCarriedOut (c_isCarriedOut_n (d := d) (M := jat12 M j) hb (show j < 30 by omega) hn ((jmc_c (M := M) (jat12_n (by omega)) (jat12_n (by omega))).trans hm) (by rw [jat12_n (by omega)]; exact hl j (by omega)) (by rw [jat12_n (i := 88) (by omega), jat12_n (i := 89) (by omega), jat12_n (i := 90) (by omega), jat12_n (i := 91) (by omega)]; exact h j hj)) wmX5_447 jc_9 rfl rfl rfl (Nat.le_of_ble_eq_true rfl) (j_fit_rm (by omega) (by omega) (by omega)) rfl ?_
    refine j_istore_n x dX5_areCarriedOut_29 (by decide) rfl ?_
    refine j_iinc x dX5_areCarriedOut_30 rfl (by decide) rfl ?_
    refine j_goto (tgt := 4) x dX5_areCarriedOut_33 (by decide) ?_
    exact j_goal (ih trivial) (wk_c rfl (wk_c rfl (wk_c (congrArg (fun z => some (Value.int z)) (nI_1 _)) (wk_0)))) (jac_step M j)
  · refine j_iload_n x dX5_areCarriedOut_4 rfl ?_
    refine j_aload_n x dX5_areCarriedOut_5 rfl ?_
    refine j2_getr (k := 7) (r := 86) x hb dX5_areCarriedOut_6 jc_9 wfX5_47 (by decide) rfl ?_
    refine j2_geti (k := 2) x hb dX5_areCarriedOut_9 jc_8 wfX5_339 (by decide) rfl ?_; rw [jac_n (by omega), hk1]
    refine j_icmp_ge (tgt := 36) x dX5_areCarriedOut_12 (by decide) (fun hc => ?_) (fun hc => absurd (nI_le (Nat.le_refl _) (by omega)) hc)
    refine j_aload_n x dX5_areCarriedOut_36 rfl ?_
    refine j_iconst (v := 0) x dX5_areCarriedOut_37 (by decide) ?_
    refine j2_puti (k := 12) x hb dX5_areCarriedOut_38 jc_9 wfX5_444 (by decide) rfl rfl rfl rfl ?_
    refine j_iload_n x dX5_areCarriedOut_41 rfl ?_
    exact j_zreturn x hr dX5_areCarriedOut_42 (by first | decide | with_reducible exact jb_nar | with_reducible exact jisS_nar | with_reducible exact gno_nar) (by omega) (by omega) ⟨rfl, rfl⟩
theorem c_areCarriedOut_no {d : Nat} {b : SBt} {Y : OUt} {M : MM} (hb : 94 ≤ b.2.1) {n k1 : Nat} (hn : n ≤ 56) (hm : jmc M = nI n) (hk30 : k1 ≤ 30) (hk1 : M 86 2 = nI k1) (hl : ∀ i, i < k1 → isLet (M 88 i)) {i0 : Nat} (hi0 : i0 < k1) (h : ∀ i, i < i0 → cref (jat12 M i) n (M 88 i) (M 89 i) (M 90 i) (M 91 i) = none) {r t : Int32} (h2 : cref (jat12 M i0) n (M 88 i0) (M 89 i0) (M 90 i0) (M 91 i0) = some (r, t)) : CM (d + 5) 0 0 yX5_areCarriedOut cX5_areCarriedOut 3 (some .boolean) [.ref 0] b Y M (.inl (some (.int (0)))) (jm (jref (jat12 M i0) r t) 0 12 0) := by
  refine Con.of (by decide +kernel) (Nat.le_of_ble_eq_true rfl) rfl fun p l e s m args below meth c D tyc A ad0 x hr htab hname => ?_
  change JJ _ _ _ _ _ _ _ _ _ _ _ _ _ _ _ _ _ 0 [some (.ref 0), none, none] [] _ 0 0
  refine j_iconst (v := 1) x dX5_areCarriedOut_0 (by decide) ?_
  refine j_istore_n x dX5_areCarriedOut_1 (by decide) rfl ?_
  refine j_iconst (v := 0) x dX5_areCarriedOut_2 (by decide) ?_
  refine j_istore_n x dX5_areCarriedOut_3 (by decide) rfl ?_
  refine j_for i0 (fun z0 => [some (.ref 0), some (.int 1), some (.int (nI z0))]) (fun z0 => jac M z0) (fun _ => True) rfl rfl trivial (fun j hj hP ih => ?_) (fun hP => ?_)
  · refine j_iload_n x dX5_areCarriedOut_4 rfl ?_
    refine j_aload_n x dX5_areCarriedOut_5 rfl ?_
    refine j2_getr (k := 7) (r := 86) x hb dX5_areCarriedOut_6 jc_9 wfX5_47 (by decide) rfl ?_
    refine j2_geti (k := 2) x hb dX5_areCarriedOut_9 jc_8 wfX5_339 (by decide) rfl ?_; rw [jac_n (by omega), hk1]
    refine j_icmp_ge (tgt := 36) x dX5_areCarriedOut_12 (by decide) (fun hc => absurd hc (nI_ge (show j < k1 by omega) (by omega))) (fun hc => ?_)
    refine j_iload_n x dX5_areCarriedOut_15 rfl ?_
    refine j_if_eq (tgt := 36) x dX5_areCarriedOut_16 (by decide) (fun hc => absurd hc (by decide)) (fun hc => ?_)
    refine j_aload_n x dX5_areCarriedOut_19 rfl ?_
    refine j_iload_n x dX5_areCarriedOut_20 rfl ?_
    refine j2_puti (k := 12) x hb dX5_areCarriedOut_21 jc_9 wfX5_444 (by decide) rfl rfl rfl rfl ?_
    refine j_aload_n x dX5_areCarriedOut_24 rfl ?_
    refine j_iload_n x dX5_areCarriedOut_25 rfl ?_
    refine j2_callVi x hb dX5_areCarriedOut_26 m_X5_isCarriedOut (c_isCarriedOut_n (d := d) (M := jat12 M j) hb (show j < 30 by omega) hn ((jmc_c (M := M) (jat12_n (by omega)) (jat12_n (by omega))).trans hm) (by rw [jat12_n (by omega)]; exact hl j (by omega)) (by rw [jat12_n (i := 88) (by omega), jat12_n (i := 89) (by omega), jat12_n (i := 90) (by omega), jat12_n (i := 91) (by omega)]; exact h j hj)) wmX5_447 jc_9 rfl rfl rfl (Nat.le_of_ble_eq_true rfl) (j_fit_rm (by omega) (by omega) (by omega)) rfl ?_
    refine j_istore_n x dX5_areCarriedOut_29 (by decide) rfl ?_
    refine j_iinc x dX5_areCarriedOut_30 rfl (by decide) rfl ?_
    refine j_goto (tgt := 4) x dX5_areCarriedOut_33 (by decide) ?_
    exact j_goal (ih trivial) (wk_c rfl (wk_c rfl (wk_c (congrArg (fun z => some (Value.int z)) (nI_1 _)) (wk_0)))) (jac_step M j)
  · refine j_iload_n x dX5_areCarriedOut_4 rfl ?_
    refine j_aload_n x dX5_areCarriedOut_5 rfl ?_
    refine j2_getr (k := 7) (r := 86) x hb dX5_areCarriedOut_6 jc_9 wfX5_47 (by decide) rfl ?_
    refine j2_geti (k := 2) x hb dX5_areCarriedOut_9 jc_8 wfX5_339 (by decide) rfl ?_; rw [jac_n (by omega), hk1]
    refine j_icmp_ge (tgt := 36) x dX5_areCarriedOut_12 (by decide) (fun hc => absurd hc (nI_ge hi0 (by omega))) (fun hc => ?_)
    refine j_iload_n x dX5_areCarriedOut_15 rfl ?_
    refine j_if_eq (tgt := 36) x dX5_areCarriedOut_16 (by decide) (fun hc => absurd hc (by decide)) (fun hc => ?_)
    refine j_aload_n x dX5_areCarriedOut_19 rfl ?_
    refine j_iload_n x dX5_areCarriedOut_20 rfl ?_
    refine j2_puti (k := 12) x hb dX5_areCarriedOut_21 jc_9 wfX5_444 (by decide) rfl rfl rfl rfl ?_
    refine j_aload_n x dX5_areCarriedOut_24 rfl ?_
    refine j_iload_n x dX5_areCarriedOut_25 rfl ?_
    refine j2_callVi x hb dX5_areCarriedOut_26 m_X5_isCarriedOut (c_isCarriedOut_s (d := d) (M := jat12 M i0) hb (show i0 < 30 by omega) hn ((jmc_c (M := M) (jat12_n (by omega)) (jat12_n (by omega))).trans hm) (by rw [jat12_n (by omega)]; exact hl i0 (by omega)) (by rw [jat12_n (i := 88) (by omega), jat12_n (i := 89) (by omega), jat12_n (i := 90) (by omega), jat12_n (i := 91) (by omega)]; exact h2)) wmX5_447 jc_9 rfl rfl rfl (Nat.le_of_ble_eq_true rfl) (j_fit_rm (by omega) (by omega) (by omega)) rfl ?_
    refine j_istore_n x dX5_areCarriedOut_29 (by decide) rfl ?_
    refine j_iinc x dX5_areCarriedOut_30 rfl (by decide) rfl ?_
    refine j_goto (tgt := 4) x dX5_areCarriedOut_33 (by decide) ?_
    refine j_iload_n x dX5_areCarriedOut_4 rfl ?_
    refine j_aload_n x dX5_areCarriedOut_5 rfl ?_
    refine j2_getr (k := 7) (r := 86) x hb dX5_areCarriedOut_6 jc_9 wfX5_47 (by decide) rfl ?_
    refine j2_geti (k := 2) x hb dX5_areCarriedOut_9 jc_8 wfX5_339 (by decide) rfl ?_
    refine j_icmp_ge (tgt := 36) x dX5_areCarriedOut_12 (by decide) (fun g1 => ?_) (fun g1 => ?_)
    · refine j_aload_n x dX5_areCarriedOut_36 rfl ?_
      refine j_iconst (v := 0) x dX5_areCarriedOut_37 (by decide) ?_
      refine j2_puti (k := 12) x hb dX5_areCarriedOut_38 jc_9 wfX5_444 (by decide) rfl rfl rfl rfl ?_
      refine j_iload_n x dX5_areCarriedOut_41 rfl ?_
      exact j_zreturn x hr dX5_areCarriedOut_42 (by first | decide | with_reducible exact jb_nar | with_reducible exact jisS_nar | with_reducible exact gno_nar) (by omega) (by omega) ⟨rfl, rfl⟩
    · refine j_iload_n x dX5_areCarriedOut_15 rfl ?_
      refine j_if_eq (tgt := 36) x dX5_areCarriedOut_16 (by decide) (fun hc => ?_) (fun hc => absurd (rfl) hc)
      refine j_aload_n x dX5_areCarriedOut_36 rfl ?_
      refine j_iconst (v := 0) x dX5_areCarriedOut_37 (by decide) ?_
      refine j2_puti (k := 12) x hb dX5_areCarriedOut_38 jc_9 wfX5_444 (by decide) rfl rfl rfl rfl ?_
      refine j_iload_n x dX5_areCarriedOut_41 rfl ?_
      exact j_zreturn x hr dX5_areCarriedOut_42 (by first | decide | with_reducible exact jb_nar | with_reducible exact jisS_nar | with_reducible exact gno_nar) (by omega) (by omega) ⟨rfl, rfl⟩
theorem c_commands_fault {d : Nat} {b : SBt} {Y : OUt} {M : MM} (hb : 94 ≤ b.2.1) {N : MM} (C : CM (d + 5) 0 0 yX4_isParsed cX4_isParsed 2 (some .boolean) [.ref 86] b Y M (.inl (some (.int 0))) N) : CM (d + 6) 1 6 yX5_commands cX5_commands 2 (some .int) [.ref 0] b Y M (.inr "java/lang/IllegalArgumentException") (jm (jm N 86 0 0) 0 8 (N 86 1)) := by
  refine Con.of (by decide +kernel) (Nat.le_of_ble_eq_true rfl) rfl fun p l e s m args below meth c D tyc A ad0 x hr htab hname => ?_
  change JJ _ _ _ _ _ _ _ _ _ _ _ _ _ _ _ _ _ 0 [some (.ref 0), none] [] _ 0 0
  refine j_aload_n x dX5_commands_0 rfl ?_
  refine j2_getr (k := 7) (r := 86) x hb dX5_commands_1 jc_9 wfX5_47 (by decide) rfl ?_
  refine j2_callVi x hb dX5_commands_4 m_X4_isParsed C wmX5_317 jc_8 rfl rfl rfl (Nat.le_of_ble_eq_true rfl) (j_fit_rm (by omega) (by omega) (by omega)) rfl ?_
  refine j_istore_n x dX5_commands_7 (by decide) rfl ?_
  refine j_aload_n x dX5_commands_8 rfl ?_
  refine j2_getr (k := 7) (r := 86) x hb dX5_commands_9 jc_9 wfX5_47 (by decide) rfl ?_
  refine j_iconst (v := 0) x dX5_commands_12 (by decide) ?_
  refine j2_puti (k := 0) x hb dX5_commands_13 jc_8 wfX5_314 (by decide) rfl rfl rfl rfl ?_
  refine j_aload_n x dX5_commands_16 rfl ?_
  refine j_iload_n x dX5_commands_17 rfl ?_
  refine j_if_eq (tgt := 25) x dX5_commands_18 (by decide) (fun hc => ?_) (fun hc => absurd (rfl) hc)
  refine j_aload_n x dX5_commands_25 rfl ?_
  refine j2_getr (k := 7) (r := 86) x hb dX5_commands_26 jc_9 wfX5_47 (by decide) rfl ?_
  refine j2_geti (k := 1) x hb dX5_commands_29 jc_8 wfX5_320 (by decide) rfl ?_; rw [jm_n (by omega)]
  refine j2_puti (k := 8) x hb dX5_commands_32 jc_9 wfX5_51 (by decide) rfl rfl rfl rfl ?_
  refine j_iload_n x dX5_commands_35 rfl ?_
  refine j_if_ne (tgt := 50) x dX5_commands_36 (by decide) (fun hc => absurd hc (fun q => q rfl)) (fun hc => ?_)
  exact j_throwSW x exX5_182 wsX5_323 dX5_commands_39 dX5_commands_42 dX5_commands_43 dX5_commands_46 dX5_commands_49 htab (by omega) (by omega) ⟨rfl, rfl⟩
theorem c_commands_ok {d : Nat} {b : SBt} {Y : OUt} {M : MM} (hb : 94 ≤ b.2.1) {N N2 : MM} (C : CM (d + 5) 0 0 yX4_isParsed cX4_isParsed 2 (some .boolean) [.ref 86] b Y M (.inl (some (.int 1))) N) {j k : Nat} (hj : j < 9) (hk : k ≤ 8) (hh : N 13 1 = nI j) (hz : N 1 2 = 0 ∨ N 1 2 = 1) (C2 : CM (d + 5) 0 0 yX5_areCarriedOut cX5_areCarriedOut 3 (some .boolean) [.ref 0] b Y (jlg (jm (jm N 86 0 0) 0 8 (-1)) 1 (15 + 6 * j)) (.inl (some (.int 1))) N2) (hh2 : N2 13 1 = nI j) (h22 : N2 13 2 = nI k) : CM (d + 6) 1 6 yX5_commands cX5_commands 2 (some .int) [.ref 0] b Y M (.inl (some (.int (jkh N2 j k 86 2)))) (jkh N2 j k) := by
  refine Con.of (by decide +kernel) (Nat.le_of_ble_eq_true rfl) rfl fun p l e s m args below meth c D tyc A ad0 x hr htab hname => ?_
  change JJ _ _ _ _ _ _ _ _ _ _ _ _ _ _ _ _ _ 0 [some (.ref 0), none] [] _ 0 0
  refine j_aload_n x dX5_commands_0 rfl ?_
  refine j2_getr (k := 7) (r := 86) x hb dX5_commands_1 jc_9 wfX5_47 (by decide) rfl ?_
  refine j2_callVi x hb dX5_commands_4 m_X4_isParsed C wmX5_317 jc_8 rfl rfl rfl (Nat.le_of_ble_eq_true rfl) (j_fit_rm (by omega) (by omega) (by omega)) rfl ?_
  refine j_istore_n x dX5_commands_7 (by decide) rfl ?_
  refine j_aload_n x dX5_commands_8 rfl ?_
  refine j2_getr (k := 7) (r := 86) x hb dX5_commands_9 jc_9 wfX5_47 (by decide) rfl ?_
  refine j_iconst (v := 0) x dX5_commands_12 (by decide) ?_
  refine j2_puti (k := 0) x hb dX5_commands_13 jc_8 wfX5_314 (by decide) rfl rfl rfl rfl ?_
  refine j_aload_n x dX5_commands_16 rfl ?_
  refine j_iload_n x dX5_commands_17 rfl ?_
  refine j_if_eq (tgt := 25) x dX5_commands_18 (by decide) (fun hc => absurd hc (by decide)) (fun hc => ?_)
  refine j_iconst (v := (-1)) x dX5_commands_21 (by decide) ?_
  refine j_goto (tgt := 32) x dX5_commands_22 (by decide) ?_
  refine j2_puti (k := 8) x hb dX5_commands_32 jc_9 wfX5_51 (by decide) rfl rfl rfl rfl ?_
  refine j_iload_n x dX5_commands_35 rfl ?_
  refine j_if_ne (tgt := 50) x dX5_commands_36 (by decide) (fun hc => ?_) (fun hc => absurd hc (by decide))
  refine j_aload_n x dX5_commands_50 rfl ?_
  refine j2_getr (k := 3) (r := 13) x hb dX5_commands_51 jc_9 wfX5_22 (by decide) rfl ?_
  refine j_aload_n x dX5_commands_54 rfl ?_
  refine j2_getr (k := 0) (r := 1) x hb dX5_commands_55 jc_9 wfX5_10 (by decide) rfl ?_
  refine j2_callVv x hb dX5_commands_58 m_X1_hold (c_hold (d := d) hb hj ((jm_n (by omega)).trans ((jm_n (by omega)).trans hh)) (by rw [jm_n (by omega), jm_n (by omega)]; exact hz)) wmX5_325 jc_5 rfl rfl rfl (Nat.le_of_ble_eq_true rfl) (j_fit_rm (by omega) (by omega) (by omega)) rfl ?_
  refine j_aload_n x dX5_commands_61 rfl ?_
  refine j2_callVi x hb dX5_commands_62 m_X5_areCarriedOut C2 wmX5_328 jc_9 rfl rfl rfl (Nat.le_of_ble_eq_true rfl) (j_fit_rm (by omega) (by omega) (by omega)) rfl ?_
  refine j_if_ne (tgt := 90) x dX5_commands_65 (by decide) (fun hc => ?_) (fun hc => absurd hc (by decide))
  refine j_aload_n x dX5_commands_90 rfl ?_
  refine j2_getr (k := 3) (r := 13) x hb dX5_commands_91 jc_9 wfX5_22 (by decide) rfl ?_
  refine j2_callVv x hb dX5_commands_94 m_X1_keepHeld (c_keepHeld (d := d) hb hj hk hh2 h22) wmX5_336 jc_5 rfl rfl rfl (Nat.le_of_ble_eq_true rfl) (j_fit_rm (by omega) (by omega) (by omega)) rfl ?_
  refine j_aload_n x dX5_commands_97 rfl ?_
  refine j2_getr (k := 7) (r := 86) x hb dX5_commands_98 jc_9 wfX5_47 (by decide) rfl ?_
  refine j2_geti (k := 2) x hb dX5_commands_101 jc_8 wfX5_339 (by decide) rfl ?_
  exact j_ireturn x hr dX5_commands_104 (by omega) (by omega) ⟨rfl, rfl⟩
theorem c_commands_no {d : Nat} {b : SBt} {Y : OUt} {M : MM} (hb : 94 ≤ b.2.1) {N N2 : MM} (C : CM (d + 5) 0 0 yX4_isParsed cX4_isParsed 2 (some .boolean) [.ref 86] b Y M (.inl (some (.int 1))) N) {j k : Nat} (hj : j < 9) (hk : k ≤ 8) (hh : N 13 1 = nI j) (hz : N 1 2 = 0 ∨ N 1 2 = 1) (C2 : CM (d + 5) 0 0 yX5_areCarriedOut cX5_areCarriedOut 3 (some .boolean) [.ref 0] b Y (jlg (jm (jm N 86 0 0) 0 8 (-1)) 1 (15 + 6 * j)) (.inl (some (.int 0))) N2) (hh2 : N2 13 1 = nI j) (hz2 : N2 (15 + 6 * j) 2 = 0 ∨ N2 (15 + 6 * j) 2 = 1) : CM (d + 6) 1 6 yX5_commands cX5_commands 2 (some .int) [.ref 0] b Y M (.inr "java/lang/UnsupportedOperationException") (jlg N2 (15 + 6 * j) 1) := by
  refine Con.of (by decide +kernel) (Nat.le_of_ble_eq_true rfl) rfl fun p l e s m args below meth c D tyc A ad0 x hr htab hname => ?_
  change JJ _ _ _ _ _ _ _ _ _ _ _ _ _ _ _ _ _ 0 [some (.ref 0), none] [] _ 0 0
  refine j_aload_n x dX5_commands_0 rfl ?_
  refine j2_getr (k := 7) (r := 86) x hb dX5_commands_1 jc_9 wfX5_47 (by decide) rfl ?_
  refine j2_callVi x hb dX5_commands_4 m_X4_isParsed C wmX5_317 jc_8 rfl rfl rfl (Nat.le_of_ble_eq_true rfl) (j_fit_rm (by omega) (by omega) (by omega)) rfl ?_
  refine j_istore_n x dX5_commands_7 (by decide) rfl ?_
  refine j_aload_n x dX5_commands_8 rfl ?_
  refine j2_getr (k := 7) (r := 86) x hb dX5_commands_9 jc_9 wfX5_47 (by decide) rfl ?_
  refine j_iconst (v := 0) x dX5_commands_12 (by decide) ?_
  refine j2_puti (k := 0) x hb dX5_commands_13 jc_8 wfX5_314 (by decide) rfl rfl rfl rfl ?_
  refine j_aload_n x dX5_commands_16 rfl ?_
  refine j_iload_n x dX5_commands_17 rfl ?_
  refine j_if_eq (tgt := 25) x dX5_commands_18 (by decide) (fun hc => absurd hc (by decide)) (fun hc => ?_)
  refine j_iconst (v := (-1)) x dX5_commands_21 (by decide) ?_
  refine j_goto (tgt := 32) x dX5_commands_22 (by decide) ?_
  refine j2_puti (k := 8) x hb dX5_commands_32 jc_9 wfX5_51 (by decide) rfl rfl rfl rfl ?_
  refine j_iload_n x dX5_commands_35 rfl ?_
  refine j_if_ne (tgt := 50) x dX5_commands_36 (by decide) (fun hc => ?_) (fun hc => absurd hc (by decide))
  refine j_aload_n x dX5_commands_50 rfl ?_
  refine j2_getr (k := 3) (r := 13) x hb dX5_commands_51 jc_9 wfX5_22 (by decide) rfl ?_
  refine j_aload_n x dX5_commands_54 rfl ?_
  refine j2_getr (k := 0) (r := 1) x hb dX5_commands_55 jc_9 wfX5_10 (by decide) rfl ?_
  refine j2_callVv x hb dX5_commands_58 m_X1_hold (c_hold (d := d) hb hj ((jm_n (by omega)).trans ((jm_n (by omega)).trans hh)) (by rw [jm_n (by omega), jm_n (by omega)]; exact hz)) wmX5_325 jc_5 rfl rfl rfl (Nat.le_of_ble_eq_true rfl) (j_fit_rm (by omega) (by omega) (by omega)) rfl ?_
  refine j_aload_n x dX5_commands_61 rfl ?_
  refine j2_callVi x hb dX5_commands_62 m_X5_areCarriedOut C2 wmX5_328 jc_9 rfl rfl rfl (Nat.le_of_ble_eq_true rfl) (j_fit_rm (by omega) (by omega) (by omega)) rfl ?_
  refine j_if_ne (tgt := 90) x dX5_commands_65 (by decide) (fun hc => absurd hc (fun q => q rfl)) (fun hc => ?_)
  refine j_aload_n x dX5_commands_68 rfl ?_
  refine j2_getr (k := 3) (r := 13) x hb dX5_commands_69 jc_9 wfX5_22 (by decide) rfl ?_
  refine j_aload_n x dX5_commands_72 rfl ?_
  refine j2_getr (k := 0) (r := 1) x hb dX5_commands_73 jc_9 wfX5_10 (by decide) rfl ?_
  refine j2_callVv x hb dX5_commands_76 m_X1_giveHeld (c_giveHeld (d := d) hb hj hh2 hz2) wmX5_331 jc_5 rfl rfl rfl (Nat.le_of_ble_eq_true rfl) (j_fit_rm (by omega) (by omega) (by omega)) rfl ?_
  exact j_throwSW x exX5_66 wsX5_334 dX5_commands_79 dX5_commands_82 dX5_commands_83 dX5_commands_86 dX5_commands_89 htab (by omega) (by omega) ⟨rfl, rfl⟩
