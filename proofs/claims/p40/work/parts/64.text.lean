/-! ===== texts of commands: what they say (T: the signs, n: how many) ===== -/
def tsg (T : Nat → Int32) (n a : Nat) : Int32 := if a < n then T a else -1
abbrev tdc (T : Nat → Int32) (n a : Nat) (h : Int32) : Prop := ¬ tsg T n a - 48 < 0 ∧ ¬ h < tsg T n a - 48
def tdg (T : Nat → Int32) (n a : Nat) (h : Int32) : Int32 := if tdc T n a h then tsg T n a - 48 else -1
def tda (T : Nat → Int32) (n a : Nat) (h : Int32) : Nat := if tdc T n a h then a + 1 else a
def tnv (T : Nat → Int32) (n a : Nat) : Int32 := if tdg T n a 9 = -1 then -1 else if tdg T n (a + 1) 9 = -1 then tdg T n a 9 else 10 * tdg T n a 9 + tdg T n (a + 1) 9
def tna (T : Nat → Int32) (n a : Nat) : Nat := if tdg T n a 9 = -1 then a else if tdg T n (a + 1) 9 = -1 then a + 1 else a + 2
theorem tdc_lt {T : Nat → Int32} {n a : Nat} {h : Int32} (q : tdc T n a h) : a < n := Nat.lt_of_not_le fun z => q.1 (by rw [tsg, if_neg (by omega)]; decide)
theorem tda_le {T : Nat → Int32} {n a : Nat} {h : Int32} (ha : a ≤ n) : tda T n a h ≤ n := by
  unfold tda
  split
  · have := tdc_lt (by assumption); omega
  · exact ha
theorem tdg_c {T : Nat → Int32} {n a : Nat} {h : Int32} (q : ¬ tdg T n a h = -1) : tdc T n a h := Decidable.byContradiction fun z => q (if_neg z)
theorem tdg_n {T : Nat → Int32} {n a : Nat} {h : Int32} (q : tdg T n a h = -1) : ¬ tdc T n a h := fun z => by
  rw [tdg, if_pos z] at q
  exact z.1 (by rw [q]; decide)
theorem tda_s {T : Nat → Int32} {n a : Nat} {h : Int32} (q : ¬ tdg T n a h = -1) : tda T n a h = a + 1 := if_pos (tdg_c q)
theorem tda_z {T : Nat → Int32} {n a : Nat} {h : Int32} (q : tdg T n a h = -1) : tda T n a h = a := if_neg (tdg_n q)
theorem tdg_lt {T : Nat → Int32} {n a : Nat} {h : Int32} (q : ¬ tdg T n a h = -1) : a < n := tdc_lt (tdg_c q)
theorem tna_le {T : Nat → Int32} {n a : Nat} (ha : a ≤ n) : tna T n a ≤ n := by
  unfold tna
  split
  · exact ha
  · split
    · have := tdg_lt (by assumption : ¬ tdg T n a 9 = -1); omega
    · have := tdg_lt (by assumption : ¬ tdg T n (a + 1) 9 = -1); omega
theorem tsg_lt {T : Nat → Int32} {n a : Nat} {c : Int32} (h : tsg T n a = c) (hc : ¬ c = -1) : a < n := Nat.lt_of_not_le fun z => hc (by rw [← h, tsg, if_neg (by omega)])
/-- a fault's place; else none -/
def tF (T : Nat → Int32) (n a : Nat) : Option Nat := if tnv T n a = -1 then some (tna T n a) else none
def rFm (T : Nat → Int32) (n a : Nat) : Option Nat :=
  if tnv T n (a + 1) = -1 then some (tna T n (a + 1)) else
  if ¬ tsg T n (tna T n (a + 1)) = 61 then some (tna T n (a + 1)) else
  if tnv T n (tna T n (a + 1) + 1) = -1 then some (tna T n (tna T n (a + 1) + 1)) else
  if ¬ tsg T n (tna T n (tna T n (a + 1) + 1)) = 58 then some (tna T n (tna T n (a + 1) + 1)) else
  if tnv T n (tna T n (tna T n (a + 1) + 1) + 1) = -1 then some (tna T n (tna T n (tna T n (a + 1) + 1) + 1)) else none
def rFb (T : Nat → Int32) (n a : Nat) : Option Nat := if tnv T n (a + 1) = -1 then some (tna T n (a + 1)) else none
def rFo (T : Nat → Int32) (n a : Nat) : Option Nat :=
  if tnv T n (a + 1) = -1 then some (tna T n (a + 1)) else
  if ¬ tsg T n (tna T n (a + 1)) = 43 then some (tna T n (a + 1)) else
  if tnv T n (tna T n (a + 1) + 1) = -1 then some (tna T n (tna T n (a + 1) + 1)) else none
def pF (T : Nat → Int32) (n a : Nat) : Option Nat := if tsg T n a = 109 then rFm T n a else if tsg T n a = 98 then rFb T n a else if tsg T n a = 111 then rFo T n a else if tsg T n a = 110 then none else if tsg T n a = 116 then none else some a
/-- where the next one begins, and the numbers -/
def pN (T : Nat → Int32) (n a : Nat) : Nat := if tsg T n a = 109 then tna T n (tna T n (tna T n (a + 1) + 1) + 1) else if tsg T n a = 98 then tna T n (a + 1) else if tsg T n a = 111 then tna T n (tna T n (a + 1) + 1) else if tsg T n a = 110 then a + 1 else tda T n (tda T n (tda T n (a + 1) 4) 4) 4
def p1 (T : Nat → Int32) (n a : Nat) : Int32 := if tsg T n a = 110 then -1 else if tsg T n a = 116 then tdg T n (a + 1) 4 else tnv T n (a + 1)
def p2 (T : Nat → Int32) (n a : Nat) : Int32 := if tsg T n a = 110 ∨ tsg T n a = 98 then -1 else if tsg T n a = 116 then tdg T n (tda T n (a + 1) 4) 4 else tnv T n (tna T n (a + 1) + 1)
def p3 (T : Nat → Int32) (n a : Nat) : Int32 := if tsg T n a = 109 then tnv T n (tna T n (tna T n (a + 1) + 1) + 1) else if tsg T n a = 116 then tdg T n (tda T n (tda T n (a + 1) 4) 4) 4 else -1
/-! ===== the class: its text ===== -/
def tno (q : Option Nat) : Int32 := match q with
  | some _ => 0
  | none => 1
def jpos (M : MM) (a : Nat) : MM := jm M 86 1 (nI a)
def tst (M : MM) (q : Option Nat) (S : MM) : MM := match q with
  | some z => jpos M z
  | none => S
theorem tno_nar {q : Option Nat} : narrow .boolean (.int (tno q)) = .int (tno q) := by
  cases q
  · show narrow .boolean (.int 1) = .int 1; decide
  · show narrow .boolean (.int 0) = .int 0; decide
theorem jm_id {M : MM} {i k : Nat} {v : Int32} (h : M i k = v) : jm M i k v = M := funext fun a => funext fun c => by
  by_cases hh : a = i ∧ c = k
  · obtain ⟨rfl, rfl⟩ := hh; rw [jm_s, h]
  · exact jm_n hh
theorem jm_jm {M : MM} {i k : Nat} {v w : Int32} : jm (jm M i k v) i k w = jm M i k w := funext fun a => funext fun c => by
  by_cases hh : a = i ∧ c = k
  · obtain ⟨rfl, rfl⟩ := hh; rw [jm_s, jm_s]
  · rw [jm_n hh, jm_n hh, jm_n hh]
theorem jm_row {M : MM} {i k a : Nat} {v : Int32} (h : a ≠ i) : jm M i k v a = M a := funext fun c => jm_n (by omega)
theorem jpos_id {M : MM} {a : Nat} (h : M 86 1 = nI a) : jpos M a = M := jm_id h
theorem jpos_jpos {M : MM} {a c : Nat} : jpos (jpos M a) c = jpos M c := jm_jm
theorem jpos_t {M : MM} {a : Nat} : jpos M a 87 = M 87 := jm_row (by decide)
theorem jpos_n {M : MM} {a i k : Nat} (h : ¬ (i = 86 ∧ k = 1)) : jpos M a i k = M i k := jm_n h
theorem jpos_s {M : MM} {a : Nat} : jpos M a 86 1 = nI a := jm_s
def jadd (M : MM) (c : Nat) (u v w z : Int32) : MM := jm (jm (jm (jm (jm M 88 c u) 89 c v) 90 c w) 91 c z) 86 2 (nI (c + 1))
theorem c_sign {d : Nat} {b : SBt} {Y : OUt} {M : MM} (hb : 94 ≤ b.2.1) {a n : Nat} (hn : n ≤ 60) (hl : M 86 0 = nI n) (hp : M 86 1 = nI a) (ha : a ≤ n) : CM (d) 0 0 yX4_sign cX4_sign 1 (some .int) [.ref 86] b Y M (.inl (some (.int (tsg (M 87) n a)))) (M) := by
  refine Con.of (by decide +kernel) (Nat.le_of_ble_eq_true rfl) rfl fun p l e s m args below meth c D tyc A ad0 x hr htab hname => ?_
  change JJ _ _ _ _ _ _ _ _ _ _ _ _ _ _ _ _ _ 0 [some (.ref 86)] [] _ 0 0
  refine j_aload_n x dX4_sign_0 rfl ?_
  refine j2_geti (k := 1) x hb dX4_sign_1 jc_8 wfX4_32 (by decide) rfl ?_
  refine j_if_lt (tgt := 42) x dX4_sign_4 (by decide) (fun hc => absurd hc (by rw [hp]; exact fun q => absurd q (nI_pos (by omega)))) (fun hc => ?_)
  refine j_aload_n x dX4_sign_7 rfl ?_
  refine j2_geti (k := 1) x hb dX4_sign_8 jc_8 wfX4_32 (by decide) rfl ?_
  refine j_aload_n x dX4_sign_11 rfl ?_
  refine j2_geti (k := 0) x hb dX4_sign_12 jc_8 wfX4_28 (by decide) rfl ?_
  refine j_icmp_ge (tgt := 42) x dX4_sign_15 (by decide) (fun g1 => ?_) (fun g1 => ?_)
  · refine j_iconst (v := (-1)) x dX4_sign_42 (by decide) ?_
    exact j_ireturn x hr dX4_sign_43 (by omega) (by omega) ⟨by rw [tsg, if_neg]; rw [hp, hl] at g1; exact fun q => nI_ge q (by omega) g1, rfl⟩
  · refine j_aload_n x dX4_sign_18 rfl ?_
    refine j2_geti (k := 1) x hb dX4_sign_19 jc_8 wfX4_32 (by decide) rfl ?_
    refine j_aload_n x dX4_sign_22 rfl ?_
    refine j2_getr (k := 3) (r := 87) x hb dX4_sign_23 jc_8 wfX4_9 (by decide) rfl ?_
    refine j2_alen x hb dX4_sign_26 fa_87 (by decide) rfl ?_
    refine j_icmp_ge (tgt := 42) x dX4_sign_27 (by decide) (fun hc => absurd hc (by rw [hp]; exact nI_ge (b := 60) (by rw [hp, hl] at g1; exact Nat.lt_of_not_le (fun q => g1 (nI_le (by omega) (by omega)))) (by decide))) (fun hc => ?_)
    refine j_aload_n x dX4_sign_30 rfl ?_
    refine j2_getr (k := 3) (r := 87) x hb dX4_sign_31 jc_8 wfX4_9 (by decide) rfl ?_
    refine j_aload_n x dX4_sign_34 rfl ?_
    refine j2_geti (k := 1) x hb dX4_sign_35 jc_8 wfX4_32 (by decide) rfl ?_
    refine j2_cald x hb dX4_sign_38 rfl (n := 60) (v := M 87 a) (by rw [hp]; rw [hp, hl] at g1; exact vp_in_nI (Nat.lt_of_lt_of_le (Nat.lt_of_not_le (fun q => g1 (nI_le q (by omega)))) hn) (by decide)) (by rw [hp, nI_clamp (by omega)]) ?_
    refine j_goto (tgt := 43) x dX4_sign_39 (by decide) ?_
    exact j_ireturn x hr dX4_sign_43 (by omega) (by omega) ⟨by rw [tsg, if_pos]; rw [hp, hl] at g1; exact Nat.lt_of_not_le (fun q => g1 (nI_le q (by omega))), rfl⟩
theorem c_digit {d : Nat} {b : SBt} {Y : OUt} {M : MM} (hb : 94 ≤ b.2.1) {a n : Nat} (hn : n ≤ 60) (hl : M 86 0 = nI n) (hp : M 86 1 = nI a) (ha : a ≤ n) {h : Int32} : CM (d + 1) 0 0 yX4_digit cX4_digit 3 (some .int) [.ref 86, .int h] b Y M (.inl (some (.int (tdg (M 87) n a h)))) (jpos M (tda (M 87) n a h)) := by
  refine Con.of (by decide +kernel) (Nat.le_of_ble_eq_true rfl) rfl fun p l e s m args below meth c D tyc A ad0 x hr htab hname => ?_
  change JJ _ _ _ _ _ _ _ _ _ _ _ _ _ _ _ _ _ 0 [some (.ref 86), some (.int h), none] [] _ 0 0
  refine j_aload_n x dX4_digit_0 rfl ?_
  refine j2_callVi x hb dX4_digit_1 m_X4_sign (c_sign (d := d) hb hn hl hp ha) wmX4_42 jc_8 rfl rfl rfl (Nat.le_of_ble_eq_true rfl) (j_fit_rm (by omega) (by omega) (by omega)) rfl ?_
  refine j_bipush (v := 48) x dX4_digit_4 (by decide) ?_
  refine j_isub x dX4_digit_6 ?_
  refine j_istore_n x dX4_digit_7 (by decide) rfl ?_
  refine j_iload_n x dX4_digit_8 rfl ?_
  refine j_if_lt (tgt := 17) x dX4_digit_9 (by decide) (fun g1 => ?_) (fun g1 => ?_)
  · refine j_iconst (v := (-1)) x dX4_digit_17 (by decide) ?_
    exact j_ireturn x hr dX4_digit_18 (by omega) (by omega) ⟨by rw [tdg, if_neg (fun q => q.1 g1)], by rw [tda, if_neg (fun q => q.1 g1), jpos_id hp]⟩
  · refine j_iload_n x dX4_digit_12 rfl ?_
    refine j_iload_n x dX4_digit_13 rfl ?_
    refine j_icmp_le (tgt := 19) x dX4_digit_14 (by decide) (fun g2 => ?_) (fun g2 => ?_)
    · refine j_aload_n x dX4_digit_19 rfl ?_
      refine j_dup x dX4_digit_20 rfl ?_
      refine j2_geti (k := 1) x hb dX4_digit_21 jc_8 wfX4_32 (by decide) rfl ?_
      refine j_iconst (v := 1) x dX4_digit_24 (by decide) ?_
      refine j_iadd x dX4_digit_25 ?_
      refine j2_puti (k := 1) x hb dX4_digit_26 jc_8 wfX4_32 (by decide) rfl rfl rfl rfl ?_
      refine j_iload_n x dX4_digit_29 rfl ?_
      exact j_ireturn x hr dX4_digit_30 (by omega) (by omega) ⟨by rw [tdg, if_pos ⟨g1, Int32.not_lt.mpr g2⟩], by rw [tda, if_pos ⟨g1, Int32.not_lt.mpr g2⟩, jpos, hp, nI_1]⟩
    · refine j_iconst (v := (-1)) x dX4_digit_17 (by decide) ?_
      exact j_ireturn x hr dX4_digit_18 (by omega) (by omega) ⟨by rw [tdg, if_neg (fun q => g2 (Int32.not_lt.mp q.2))], by rw [tda, if_neg (fun q => g2 (Int32.not_lt.mp q.2)), jpos_id hp]⟩
theorem c_digit_p {d : Nat} {b : SBt} {Y : OUt} {M : MM} (hb : 94 ≤ b.2.1) {a n : Nat} (hn : n ≤ 60) (hl : M 86 0 = nI n) (ha : a ≤ n) {h : Int32} : CM (d + 1) 0 0 yX4_digit cX4_digit 3 (some .int) [.ref 86, .int h] b Y (jpos M a) (.inl (some (.int (tdg (M 87) n a h)))) (jpos M (tda (M 87) n a h)) := by
  have h := c_digit (d := d) (Y := Y) (M := jpos M a) hb hn (h := h) (by rw [jpos_n (by omega)]; exact hl) jpos_s ha
  try simp only [jpos_t, jpos_jpos] at h
  exact h
theorem c_sign_p {d : Nat} {b : SBt} {Y : OUt} {M : MM} (hb : 94 ≤ b.2.1) {a n : Nat} (hn : n ≤ 60) (hl : M 86 0 = nI n) (ha : a ≤ n) : CM (d) 0 0 yX4_sign cX4_sign 1 (some .int) [.ref 86] b Y (jpos M a) (.inl (some (.int (tsg (M 87) n a)))) (jpos M a) := by
  have h := c_sign (d := d) (Y := Y) (M := jpos M a) hb hn (by rw [jpos_n (by omega)]; exact hl) jpos_s ha
  try simp only [jpos_t, jpos_jpos] at h
  exact h
theorem c_isPassed_y {d : Nat} {b : SBt} {Y : OUt} {M : MM} (hb : 94 ≤ b.2.1) {a n : Nat} (hn : n ≤ 60) (hl : M 86 0 = nI n) (hp : M 86 1 = nI a) (ha : a ≤ n) {ch : Int32} (he : tsg (M 87) n a = ch) : CM (d + 1) 0 0 yX4_isPassed cX4_isPassed 2 (some .boolean) [.ref 86, .int ch] b Y M (.inl (some (.int (1)))) (jpos M (a + 1)) := by
  refine Con.of (by decide +kernel) (Nat.le_of_ble_eq_true rfl) rfl fun p l e s m args below meth c D tyc A ad0 x hr htab hname => ?_
  change JJ _ _ _ _ _ _ _ _ _ _ _ _ _ _ _ _ _ 0 [some (.ref 86), some (.int ch)] [] _ 0 0
  refine j_aload_n x dX4_isPassed_0 rfl ?_
  refine j2_callVi x hb dX4_isPassed_1 m_X4_sign (c_sign (d := d) hb hn hl hp ha) wmX4_42 jc_8 rfl rfl rfl (Nat.le_of_ble_eq_true rfl) (j_fit_rm (by omega) (by omega) (by omega)) rfl ?_
  refine j_iload_n x dX4_isPassed_4 rfl ?_
  refine j_icmp_eq (tgt := 10) x dX4_isPassed_5 (by decide) (fun hc => ?_) (fun hc => absurd (he) hc)
  refine j_aload_n x dX4_isPassed_10 rfl ?_
  refine j_dup x dX4_isPassed_11 rfl ?_
  refine j2_geti (k := 1) x hb dX4_isPassed_12 jc_8 wfX4_32 (by decide) rfl ?_
  refine j_iconst (v := 1) x dX4_isPassed_15 (by decide) ?_
  refine j_iadd x dX4_isPassed_16 ?_
  refine j2_puti (k := 1) x hb dX4_isPassed_17 jc_8 wfX4_32 (by decide) rfl rfl rfl rfl ?_
  refine j_iconst (v := 1) x dX4_isPassed_20 (by decide) ?_
  exact j_zreturn x hr dX4_isPassed_21 (by first | decide | with_reducible exact jb_nar | with_reducible exact tno_nar | with_reducible exact jisS_nar | with_reducible exact gno_nar) (by omega) (by omega) ⟨rfl, by rw [jpos, hp, nI_1]⟩
theorem c_isPassed_y_p {d : Nat} {b : SBt} {Y : OUt} {M : MM} (hb : 94 ≤ b.2.1) {a n : Nat} (hn : n ≤ 60) (hl : M 86 0 = nI n) (ha : a ≤ n) {ch : Int32} (he : tsg (M 87) n a = ch) : CM (d + 1) 0 0 yX4_isPassed cX4_isPassed 2 (some .boolean) [.ref 86, .int ch] b Y (jpos M a) (.inl (some (.int (1)))) (jpos M (a + 1)) := by
  have h := c_isPassed_y (d := d) (Y := Y) (M := jpos M a) hb hn (ch := ch) (by rw [jpos_n (by omega)]; exact hl) jpos_s ha (by rw [jpos_t]; exact he)
  try simp only [jpos_t, jpos_jpos] at h
  exact h
theorem c_isPassed_n {d : Nat} {b : SBt} {Y : OUt} {M : MM} (hb : 94 ≤ b.2.1) {a n : Nat} (hn : n ≤ 60) (hl : M 86 0 = nI n) (hp : M 86 1 = nI a) (ha : a ≤ n) {ch : Int32} (he : ¬ tsg (M 87) n a = ch) : CM (d + 1) 0 0 yX4_isPassed cX4_isPassed 2 (some .boolean) [.ref 86, .int ch] b Y M (.inl (some (.int (0)))) (M) := by
  refine Con.of (by decide +kernel) (Nat.le_of_ble_eq_true rfl) rfl fun p l e s m args below meth c D tyc A ad0 x hr htab hname => ?_
  change JJ _ _ _ _ _ _ _ _ _ _ _ _ _ _ _ _ _ 0 [some (.ref 86), some (.int ch)] [] _ 0 0
  refine j_aload_n x dX4_isPassed_0 rfl ?_
  refine j2_callVi x hb dX4_isPassed_1 m_X4_sign (c_sign (d := d) hb hn hl hp ha) wmX4_42 jc_8 rfl rfl rfl (Nat.le_of_ble_eq_true rfl) (j_fit_rm (by omega) (by omega) (by omega)) rfl ?_
  refine j_iload_n x dX4_isPassed_4 rfl ?_
  refine j_icmp_eq (tgt := 10) x dX4_isPassed_5 (by decide) (fun hc => absurd hc (he)) (fun hc => ?_)
  refine j_iconst (v := 0) x dX4_isPassed_8 (by decide) ?_
  exact j_zreturn x hr dX4_isPassed_9 (by first | decide | with_reducible exact jb_nar | with_reducible exact tno_nar | with_reducible exact jisS_nar | with_reducible exact gno_nar) (by omega) (by omega) ⟨rfl, rfl⟩
theorem c_isPassed_n_p {d : Nat} {b : SBt} {Y : OUt} {M : MM} (hb : 94 ≤ b.2.1) {a n : Nat} (hn : n ≤ 60) (hl : M 86 0 = nI n) (ha : a ≤ n) {ch : Int32} (he : ¬ tsg (M 87) n a = ch) : CM (d + 1) 0 0 yX4_isPassed cX4_isPassed 2 (some .boolean) [.ref 86, .int ch] b Y (jpos M a) (.inl (some (.int (0)))) (jpos M a) := by
  have h := c_isPassed_n (d := d) (Y := Y) (M := jpos M a) hb hn (ch := ch) (by rw [jpos_n (by omega)]; exact hl) jpos_s ha (by rw [jpos_t]; exact he)
  try simp only [jpos_t, jpos_jpos] at h
  exact h
theorem c_number {d : Nat} {b : SBt} {Y : OUt} {M : MM} (hb : 94 ≤ b.2.1) {a n : Nat} (hn : n ≤ 60) (hl : M 86 0 = nI n) (hp : M 86 1 = nI a) (ha : a ≤ n) : CM (d + 2) 0 0 yX4_number cX4_number 3 (some .int) [.ref 86] b Y M (.inl (some (.int (tnv (M 87) n a)))) (jpos M (tna (M 87) n a)) := by
  refine Con.of (by decide +kernel) (Nat.le_of_ble_eq_true rfl) rfl fun p l e s m args below meth c D tyc A ad0 x hr htab hname => ?_
  change JJ _ _ _ _ _ _ _ _ _ _ _ _ _ _ _ _ _ 0 [some (.ref 86), none, none] [] _ 0 0
  refine j_aload_n x dX4_number_0 rfl ?_
  refine j_bipush (v := 9) x dX4_number_1 (by decide) ?_
  refine j2_callVi x hb dX4_number_3 m_X4_digit (c_digit (d := d) hb hn hl hp ha) wmX4_69 jc_8 rfl rfl rfl (Nat.le_of_ble_eq_true rfl) (j_fit_rm (by omega) (by omega) (by omega)) rfl ?_
  refine j_istore_n x dX4_number_6 (by decide) rfl ?_
  refine j_iload_n x dX4_number_7 rfl ?_
  refine j_iconst (v := (-1)) x dX4_number_8 (by decide) ?_
  refine j_icmp_ne (tgt := 14) x dX4_number_9 (by decide) (fun g1 => ?_) (fun g1 => ?_)
  · refine j_aload_n x dX4_number_14 rfl ?_
    refine j_bipush (v := 9) x dX4_number_15 (by decide) ?_
    refine j2_callVi x hb dX4_number_17 m_X4_digit (c_digit_p (d := d) hb hn hl (tda_le ha)) wmX4_69 jc_8 rfl rfl rfl (Nat.le_of_ble_eq_true rfl) (j_fit_rm (by omega) (by omega) (by omega)) rfl ?_
    refine j_istore_n x dX4_number_20 (by decide) rfl ?_
    refine j_iload_n x dX4_number_21 rfl ?_
    refine j_iconst (v := (-1)) x dX4_number_22 (by decide) ?_
    refine j_icmp_ne (tgt := 30) x dX4_number_23 (by decide) (fun g2 => ?_) (fun g2 => ?_)
    · refine j_bipush (v := 10) x dX4_number_30 (by decide) ?_
      refine j_iload_n x dX4_number_32 rfl ?_
      refine j_imul x dX4_number_33 ?_
      refine j_iload_n x dX4_number_34 rfl ?_
      refine j_iadd x dX4_number_35 ?_
      exact j_ireturn x hr dX4_number_36 (by omega) (by omega) ⟨by rw [tnv, if_neg g1, if_neg (tda_s g1 ▸ g2), tda_s g1], by rw [tna, if_neg g1, if_neg (tda_s g1 ▸ g2), tda_s g1, tda_s (tda_s g1 ▸ g2)]⟩
    · refine j_iload_n x dX4_number_26 rfl ?_
      refine j_goto (tgt := 36) x dX4_number_27 (by decide) ?_
      exact j_ireturn x hr dX4_number_36 (by omega) (by omega) ⟨by rw [tnv, if_neg g1, if_pos (tda_s g1 ▸ g2)], by rw [tna, if_neg g1, if_pos (tda_s g1 ▸ g2), tda_s g1, tda_z (tda_s g1 ▸ g2)]⟩
  · refine j_iconst (v := (-1)) x dX4_number_12 (by decide) ?_
    exact j_ireturn x hr dX4_number_13 (by omega) (by omega) ⟨by rw [tnv, if_pos g1], by rw [tna, if_pos g1, tda_z g1]⟩
theorem c_number_p {d : Nat} {b : SBt} {Y : OUt} {M : MM} (hb : 94 ≤ b.2.1) {a n : Nat} (hn : n ≤ 60) (hl : M 86 0 = nI n) (ha : a ≤ n) : CM (d + 2) 0 0 yX4_number cX4_number 3 (some .int) [.ref 86] b Y (jpos M a) (.inl (some (.int (tnv (M 87) n a)))) (jpos M (tna (M 87) n a)) := by
  have h := c_number (d := d) (Y := Y) (M := jpos M a) hb hn (by rw [jpos_n (by omega)]; exact hl) jpos_s ha
  try simp only [jpos_t, jpos_jpos] at h
  exact h
theorem c_add {d : Nat} {b : SBt} {Y : OUt} {M : MM} (hb : 94 ≤ b.2.1) {c1 : Nat} (hc1 : M 86 2 = nI c1) (hc30 : c1 < 30) {u v w z : Int32} : CM (d + 1) 0 0 yX4_add cX4_add 5 (some .boolean) [.ref 86, .int u, .int v, .int w, .int z] b Y M (.inl (some (.int (1)))) (jadd M c1 u v w z) := by
  refine Con.of (by decide +kernel) (Nat.le_of_ble_eq_true rfl) rfl fun p l e s m args below meth c D tyc A ad0 x hr htab hname => ?_
  change JJ _ _ _ _ _ _ _ _ _ _ _ _ _ _ _ _ _ 0 [some (.ref 86), some (.int u), some (.int v), some (.int w), some (.int z)] [] _ 0 0
  refine j_aload_n x dX4_add_0 rfl ?_
  refine j2_getr (k := 4) (r := 88) x hb dX4_add_1 jc_8 wfX4_15 (by decide) rfl ?_
  refine j_aload_n x dX4_add_4 rfl ?_
  refine j2_geti (k := 2) x hb dX4_add_5 jc_8 wfX4_35 (by decide) rfl ?_; rw [hc1]
  refine j_iload_n x dX4_add_8 rfl ?_
  refine j2_callSNv x hb dX4_add_9 m_X5_put (c_put (d := d) hb fa_88 (by decide)) wnX4_73 rfl (Nat.le_of_ble_eq_true rfl) (j_fit_rm (by omega) (by omega) (by omega)) rfl ?_
  rw [jput_nI (show c1 < 30 by omega) (by decide)]
  refine j_aload_n x dX4_add_12 rfl ?_
  refine j2_getr (k := 5) (r := 89) x hb dX4_add_13 jc_8 wfX4_19 (by decide) rfl ?_
  refine j_aload_n x dX4_add_16 rfl ?_
  refine j2_geti (k := 2) x hb dX4_add_17 jc_8 wfX4_35 (by decide) rfl ?_; rw [jm_n (by omega), hc1]
  refine j_iload_n x dX4_add_20 rfl ?_
  refine j2_callSNv x hb dX4_add_21 m_X5_put (c_put (d := d) hb fa_89 (by decide)) wnX4_73 rfl (Nat.le_of_ble_eq_true rfl) (j_fit_rm (by omega) (by omega) (by omega)) rfl ?_
  rw [jput_nI (show c1 < 30 by omega) (by decide)]
  refine j_aload_n x dX4_add_24 rfl ?_
  refine j2_getr (k := 6) (r := 90) x hb dX4_add_25 jc_8 wfX4_22 (by decide) rfl ?_
  refine j_aload_n x dX4_add_28 rfl ?_
  refine j2_geti (k := 2) x hb dX4_add_29 jc_8 wfX4_35 (by decide) rfl ?_; rw [jm_n (by omega), jm_n (by omega), hc1]
  refine j_iload_n x dX4_add_32 rfl ?_
  refine j2_callSNv x hb dX4_add_33 m_X5_put (c_put (d := d) hb fa_90 (by decide)) wnX4_73 rfl (Nat.le_of_ble_eq_true rfl) (j_fit_rm (by omega) (by omega) (by omega)) rfl ?_
  rw [jput_nI (show c1 < 30 by omega) (by decide)]
  refine j_aload_n x dX4_add_36 rfl ?_
  refine j2_getr (k := 7) (r := 91) x hb dX4_add_37 jc_8 wfX4_25 (by decide) rfl ?_
  refine j_aload_n x dX4_add_40 rfl ?_
  refine j2_geti (k := 2) x hb dX4_add_41 jc_8 wfX4_35 (by decide) rfl ?_; rw [jm_n (by omega), jm_n (by omega), jm_n (by omega), hc1]
  refine j_iload x dX4_add_44 rfl ?_
  refine j2_callSNv x hb dX4_add_46 m_X5_put (c_put (d := d) hb fa_91 (by decide)) wnX4_73 rfl (Nat.le_of_ble_eq_true rfl) (j_fit_rm (by omega) (by omega) (by omega)) rfl ?_
  rw [jput_nI (show c1 < 30 by omega) (by decide)]
  refine j_aload_n x dX4_add_49 rfl ?_
  refine j_dup x dX4_add_50 rfl ?_
  refine j2_geti (k := 2) x hb dX4_add_51 jc_8 wfX4_35 (by decide) rfl ?_
  refine j_iconst (v := 1) x dX4_add_54 (by decide) ?_
  refine j_iadd x dX4_add_55 ?_
  refine j2_puti (k := 2) x hb dX4_add_56 jc_8 wfX4_35 (by decide) rfl rfl rfl rfl ?_
  refine j_iconst (v := 1) x dX4_add_59 (by decide) ?_
  exact j_zreturn x hr dX4_add_60 (by first | decide | with_reducible exact jb_nar | with_reducible exact tno_nar | with_reducible exact jisS_nar | with_reducible exact gno_nar) (by omega) (by omega) ⟨rfl, by rw [jadd, jm_n (by omega), jm_n (by omega), jm_n (by omega), jm_n (by omega), hc1, nI_1]⟩
theorem c_isBackParsed {d : Nat} {b : SBt} {Y : OUt} {M : MM} (hb : 94 ≤ b.2.1) {a n : Nat} (hn : n ≤ 60) (hl : M 86 0 = nI n) (hp : M 86 1 = nI a) (ha : a < n) {c1 : Nat} (hc1 : M 86 2 = nI c1) (hc30 : c1 < 30) : CM (d + 3) 0 0 yX4_isBackParsed cX4_isBackParsed 2 (some .boolean) [.ref 86] b Y M (.inl (some (.int (tno (rFb (M 87) n a))))) (tst M (rFb (M 87) n a) (jadd (jpos M (tna (M 87) n (a + 1))) c1 98 (tnv (M 87) n (a + 1)) (-1) (-1))) := by
  refine Con.of (by decide +kernel) (Nat.le_of_ble_eq_true rfl) rfl fun p l e s m args below meth c D tyc A ad0 x hr htab hname => ?_
  change JJ _ _ _ _ _ _ _ _ _ _ _ _ _ _ _ _ _ 0 [some (.ref 86), none] [] _ 0 0
  refine j_aload_n x dX4_isBackParsed_0 rfl ?_
  refine j_dup x dX4_isBackParsed_1 rfl ?_
  refine j2_geti (k := 1) x hb dX4_isBackParsed_2 jc_8 wfX4_32 (by decide) rfl ?_
  refine j_iconst (v := 1) x dX4_isBackParsed_5 (by decide) ?_
  refine j_iadd x dX4_isBackParsed_6 ?_
  refine j2_puti (k := 1) x hb dX4_isBackParsed_7 jc_8 wfX4_32 (by decide) rfl rfl rfl rfl ?_; rw [show jm M 86 1 (M 86 1 + 1) = jpos M (a + 1) from by rw [hp, nI_1]; rfl]
  refine j_aload_n x dX4_isBackParsed_10 rfl ?_
  refine j2_callVi x hb dX4_isBackParsed_11 m_X4_number (c_number_p (d := d) hb hn hl (show a + 1 ≤ n by omega)) wmX4_66 jc_8 rfl rfl rfl (Nat.le_of_ble_eq_true rfl) (j_fit_rm (by omega) (by omega) (by omega)) rfl ?_
  refine j_istore_n x dX4_isBackParsed_14 (by decide) rfl ?_
  refine j_iload_n x dX4_isBackParsed_15 rfl ?_
  refine j_iconst (v := (-1)) x dX4_isBackParsed_16 (by decide) ?_
  refine j_icmp_eq (tgt := 36) x dX4_isBackParsed_17 (by decide) (fun g1 => ?_) (fun g1 => ?_)
  · refine j_iconst (v := 0) x dX4_isBackParsed_36 (by decide) ?_
    exact j_zreturn x hr dX4_isBackParsed_37 (by first | decide | with_reducible exact jb_nar | with_reducible exact tno_nar | with_reducible exact jisS_nar | with_reducible exact gno_nar) (by omega) (by omega) ⟨by rw [rFb, if_pos g1]; rfl, by rw [rFb, if_pos g1]; rfl⟩
  · refine j_aload_n x dX4_isBackParsed_20 rfl ?_
    refine j_bipush (v := 98) x dX4_isBackParsed_21 (by decide) ?_
    refine j_iload_n x dX4_isBackParsed_23 rfl ?_
    refine j_iconst (v := (-1)) x dX4_isBackParsed_24 (by decide) ?_
    refine j_iconst (v := (-1)) x dX4_isBackParsed_25 (by decide) ?_
    refine j2_callVi x hb dX4_isBackParsed_26 m_X4_add (c_add (d := d + 1) hb ((jpos_n (by omega)).trans hc1) hc30) wmX4_59 jc_8 rfl rfl rfl (Nat.le_of_ble_eq_true rfl) (j_fit_rm (by omega) (by omega) (by omega)) rfl ?_
    refine j_if_eq (tgt := 36) x dX4_isBackParsed_29 (by decide) (fun hc => absurd hc (by decide)) (fun hc => ?_)
    refine j_iconst (v := 1) x dX4_isBackParsed_32 (by decide) ?_
    refine j_goto (tgt := 37) x dX4_isBackParsed_33 (by decide) ?_
    exact j_zreturn x hr dX4_isBackParsed_37 (by first | decide | with_reducible exact jb_nar | with_reducible exact tno_nar | with_reducible exact jisS_nar | with_reducible exact gno_nar) (by omega) (by omega) ⟨by rw [rFb, if_neg g1]; rfl, by rw [rFb, if_neg g1]; rfl⟩
theorem c_isPutOffParsed {d : Nat} {b : SBt} {Y : OUt} {M : MM} (hb : 94 ≤ b.2.1) {a n : Nat} (hn : n ≤ 60) (hl : M 86 0 = nI n) (hp : M 86 1 = nI a) (ha : a < n) {c1 : Nat} (hc1 : M 86 2 = nI c1) (hc30 : c1 < 30) : CM (d + 3) 0 0 yX4_isPutOffParsed cX4_isPutOffParsed 3 (some .boolean) [.ref 86] b Y M (.inl (some (.int (tno (rFo (M 87) n a))))) (tst M (rFo (M 87) n a) (jadd (jpos M (tna (M 87) n (tna (M 87) n (a + 1) + 1))) c1 111 (tnv (M 87) n (a + 1)) (tnv (M 87) n (tna (M 87) n (a + 1) + 1)) (-1))) := by
  refine Con.of (by decide +kernel) (Nat.le_of_ble_eq_true rfl) rfl fun p l e s m args below meth c D tyc A ad0 x hr htab hname => ?_
  change JJ _ _ _ _ _ _ _ _ _ _ _ _ _ _ _ _ _ 0 [some (.ref 86), none, none] [] _ 0 0
  refine j_aload_n x dX4_isPutOffParsed_0 rfl ?_
  refine j_dup x dX4_isPutOffParsed_1 rfl ?_
  refine j2_geti (k := 1) x hb dX4_isPutOffParsed_2 jc_8 wfX4_32 (by decide) rfl ?_
  refine j_iconst (v := 1) x dX4_isPutOffParsed_5 (by decide) ?_
  refine j_iadd x dX4_isPutOffParsed_6 ?_
  refine j2_puti (k := 1) x hb dX4_isPutOffParsed_7 jc_8 wfX4_32 (by decide) rfl rfl rfl rfl ?_; rw [show jm M 86 1 (M 86 1 + 1) = jpos M (a + 1) from by rw [hp, nI_1]; rfl]
  refine j_aload_n x dX4_isPutOffParsed_10 rfl ?_
  refine j2_callVi x hb dX4_isPutOffParsed_11 m_X4_number (c_number_p (d := d) hb hn hl (show a + 1 ≤ n by omega)) wmX4_66 jc_8 rfl rfl rfl (Nat.le_of_ble_eq_true rfl) (j_fit_rm (by omega) (by omega) (by omega)) rfl ?_
  refine j_istore_n x dX4_isPutOffParsed_14 (by decide) rfl ?_
  refine j_iload_n x dX4_isPutOffParsed_15 rfl ?_
  refine j_iconst (v := (-1)) x dX4_isPutOffParsed_16 (by decide) ?_
  refine j_icmp_eq (tgt := 29) x dX4_isPutOffParsed_17 (by decide) (fun g1 => ?_) (fun g1 => ?_)
  · refine j_iconst (v := 0) x dX4_isPutOffParsed_29 (by decide) ?_
    exact j_zreturn x hr dX4_isPutOffParsed_30 (by first | decide | with_reducible exact jb_nar | with_reducible exact tno_nar | with_reducible exact jisS_nar | with_reducible exact gno_nar) (by omega) (by omega) ⟨by rw [rFo, if_pos g1]; rfl, by rw [rFo, if_pos g1]; rfl⟩
  · refine j_aload_n x dX4_isPutOffParsed_20 rfl ?_
    refine j_bipush (v := 43) x dX4_isPutOffParsed_21 (by decide) ?_
    by_cases g2 : tsg (M 87) n (tna (M 87) n (a + 1)) = 43
    · refine j2_callVi x hb dX4_isPutOffParsed_23 m_X4_isPassed (c_isPassed_y_p (d := d + 1) hb hn hl (tna_le (show a + 1 ≤ n by omega)) g2) wmX4_46 jc_8 rfl rfl rfl (Nat.le_of_ble_eq_true rfl) (j_fit_rm (by omega) (by omega) (by omega)) rfl ?_
      refine j_if_ne (tgt := 31) x dX4_isPutOffParsed_26 (by decide) (fun hc => ?_) (fun hc => absurd hc (by decide))
      refine j_aload_n x dX4_isPutOffParsed_31 rfl ?_
      refine j2_callVi x hb dX4_isPutOffParsed_32 m_X4_number (c_number_p (d := d) hb hn hl (tsg_lt g2 (by decide))) wmX4_66 jc_8 rfl rfl rfl (Nat.le_of_ble_eq_true rfl) (j_fit_rm (by omega) (by omega) (by omega)) rfl ?_
      refine j_istore_n x dX4_isPutOffParsed_35 (by decide) rfl ?_
      refine j_iload_n x dX4_isPutOffParsed_36 rfl ?_
      refine j_iconst (v := (-1)) x dX4_isPutOffParsed_37 (by decide) ?_
      refine j_icmp_eq (tgt := 57) x dX4_isPutOffParsed_38 (by decide) (fun g3 => ?_) (fun g3 => ?_)
      · refine j_iconst (v := 0) x dX4_isPutOffParsed_57 (by decide) ?_
        exact j_zreturn x hr dX4_isPutOffParsed_58 (by first | decide | with_reducible exact jb_nar | with_reducible exact tno_nar | with_reducible exact jisS_nar | with_reducible exact gno_nar) (by omega) (by omega) ⟨by rw [rFo, if_neg g1, if_neg (fun z => z g2), if_pos g3]; rfl, by rw [rFo, if_neg g1, if_neg (fun z => z g2), if_pos g3]; rfl⟩
      · refine j_aload_n x dX4_isPutOffParsed_41 rfl ?_
        refine j_bipush (v := 111) x dX4_isPutOffParsed_42 (by decide) ?_
        refine j_iload_n x dX4_isPutOffParsed_44 rfl ?_
        refine j_iload_n x dX4_isPutOffParsed_45 rfl ?_
        refine j_iconst (v := (-1)) x dX4_isPutOffParsed_46 (by decide) ?_
        refine j2_callVi x hb dX4_isPutOffParsed_47 m_X4_add (c_add (d := d + 1) hb ((jpos_n (by omega)).trans hc1) hc30) wmX4_59 jc_8 rfl rfl rfl (Nat.le_of_ble_eq_true rfl) (j_fit_rm (by omega) (by omega) (by omega)) rfl ?_
        refine j_if_eq (tgt := 57) x dX4_isPutOffParsed_50 (by decide) (fun hc => absurd hc (by decide)) (fun hc => ?_)
        refine j_iconst (v := 1) x dX4_isPutOffParsed_53 (by decide) ?_
        refine j_goto (tgt := 58) x dX4_isPutOffParsed_54 (by decide) ?_
        exact j_zreturn x hr dX4_isPutOffParsed_58 (by first | decide | with_reducible exact jb_nar | with_reducible exact tno_nar | with_reducible exact jisS_nar | with_reducible exact gno_nar) (by omega) (by omega) ⟨by rw [rFo, if_neg g1, if_neg (fun z => z g2), if_neg g3]; rfl, by rw [rFo, if_neg g1, if_neg (fun z => z g2), if_neg g3]; rfl⟩
    · refine j2_callVi x hb dX4_isPutOffParsed_23 m_X4_isPassed (c_isPassed_n_p (d := d + 1) hb hn hl (tna_le (show a + 1 ≤ n by omega)) g2) wmX4_46 jc_8 rfl rfl rfl (Nat.le_of_ble_eq_true rfl) (j_fit_rm (by omega) (by omega) (by omega)) rfl ?_
      refine j_if_ne (tgt := 31) x dX4_isPutOffParsed_26 (by decide) (fun hc => absurd hc (fun z => z rfl)) (fun hc => ?_)
      refine j_iconst (v := 0) x dX4_isPutOffParsed_29 (by decide) ?_
      exact j_zreturn x hr dX4_isPutOffParsed_30 (by first | decide | with_reducible exact jb_nar | with_reducible exact tno_nar | with_reducible exact jisS_nar | with_reducible exact gno_nar) (by omega) (by omega) ⟨by rw [rFo, if_neg g1, if_pos g2]; rfl, by rw [rFo, if_neg g1, if_pos g2]; rfl⟩
theorem c_isResultParsed {d : Nat} {b : SBt} {Y : OUt} {M : MM} (hb : 94 ≤ b.2.1) {a n : Nat} (hn : n ≤ 60) (hl : M 86 0 = nI n) (hp : M 86 1 = nI a) (ha : a < n) {c1 : Nat} (hc1 : M 86 2 = nI c1) (hc30 : c1 < 30) : CM (d + 3) 0 0 yX4_isResultParsed cX4_isResultParsed 4 (some .boolean) [.ref 86] b Y M (.inl (some (.int (tno (rFm (M 87) n a))))) (tst M (rFm (M 87) n a) (jadd (jpos M (tna (M 87) n (tna (M 87) n (tna (M 87) n (a + 1) + 1) + 1))) c1 109 (tnv (M 87) n (a + 1)) (tnv (M 87) n (tna (M 87) n (a + 1) + 1)) (tnv (M 87) n (tna (M 87) n (tna (M 87) n (a + 1) + 1) + 1)))) := by
  refine Con.of (by decide +kernel) (Nat.le_of_ble_eq_true rfl) rfl fun p l e s m args below meth c D tyc A ad0 x hr htab hname => ?_
  change JJ _ _ _ _ _ _ _ _ _ _ _ _ _ _ _ _ _ 0 [some (.ref 86), none, none, none] [] _ 0 0
  refine j_aload_n x dX4_isResultParsed_0 rfl ?_
  refine j_dup x dX4_isResultParsed_1 rfl ?_
  refine j2_geti (k := 1) x hb dX4_isResultParsed_2 jc_8 wfX4_32 (by decide) rfl ?_
  refine j_iconst (v := 1) x dX4_isResultParsed_5 (by decide) ?_
  refine j_iadd x dX4_isResultParsed_6 ?_
  refine j2_puti (k := 1) x hb dX4_isResultParsed_7 jc_8 wfX4_32 (by decide) rfl rfl rfl rfl ?_; rw [show jm M 86 1 (M 86 1 + 1) = jpos M (a + 1) from by rw [hp, nI_1]; rfl]
  refine j_aload_n x dX4_isResultParsed_10 rfl ?_
  refine j2_callVi x hb dX4_isResultParsed_11 m_X4_number (c_number_p (d := d) hb hn hl (show a + 1 ≤ n by omega)) wmX4_66 jc_8 rfl rfl rfl (Nat.le_of_ble_eq_true rfl) (j_fit_rm (by omega) (by omega) (by omega)) rfl ?_
  refine j_istore_n x dX4_isResultParsed_14 (by decide) rfl ?_
  refine j_iload_n x dX4_isResultParsed_15 rfl ?_
  refine j_iconst (v := (-1)) x dX4_isResultParsed_16 (by decide) ?_
  refine j_icmp_eq (tgt := 29) x dX4_isResultParsed_17 (by decide) (fun g1 => ?_) (fun g1 => ?_)
  · refine j_iconst (v := 0) x dX4_isResultParsed_29 (by decide) ?_
    exact j_zreturn x hr dX4_isResultParsed_30 (by first | decide | with_reducible exact jb_nar | with_reducible exact tno_nar | with_reducible exact jisS_nar | with_reducible exact gno_nar) (by omega) (by omega) ⟨by rw [rFm, if_pos g1]; rfl, by rw [rFm, if_pos g1]; rfl⟩
  · refine j_aload_n x dX4_isResultParsed_20 rfl ?_
    refine j_bipush (v := 61) x dX4_isResultParsed_21 (by decide) ?_
    by_cases g2 : tsg (M 87) n (tna (M 87) n (a + 1)) = 61
    · refine j2_callVi x hb dX4_isResultParsed_23 m_X4_isPassed (c_isPassed_y_p (d := d + 1) hb hn hl (tna_le (show a + 1 ≤ n by omega)) g2) wmX4_46 jc_8 rfl rfl rfl (Nat.le_of_ble_eq_true rfl) (j_fit_rm (by omega) (by omega) (by omega)) rfl ?_
      refine j_if_ne (tgt := 31) x dX4_isResultParsed_26 (by decide) (fun hc => ?_) (fun hc => absurd hc (by decide))
      refine j_aload_n x dX4_isResultParsed_31 rfl ?_
      refine j2_callVi x hb dX4_isResultParsed_32 m_X4_number (c_number_p (d := d) hb hn hl (tsg_lt g2 (by decide))) wmX4_66 jc_8 rfl rfl rfl (Nat.le_of_ble_eq_true rfl) (j_fit_rm (by omega) (by omega) (by omega)) rfl ?_
      refine j_istore_n x dX4_isResultParsed_35 (by decide) rfl ?_
      refine j_iload_n x dX4_isResultParsed_36 rfl ?_
      refine j_iconst (v := (-1)) x dX4_isResultParsed_37 (by decide) ?_
      refine j_icmp_eq (tgt := 50) x dX4_isResultParsed_38 (by decide) (fun g3 => ?_) (fun g3 => ?_)
      · refine j_iconst (v := 0) x dX4_isResultParsed_50 (by decide) ?_
        exact j_zreturn x hr dX4_isResultParsed_51 (by first | decide | with_reducible exact jb_nar | with_reducible exact tno_nar | with_reducible exact jisS_nar | with_reducible exact gno_nar) (by omega) (by omega) ⟨by rw [rFm, if_neg g1, if_neg (fun z => z g2), if_pos g3]; rfl, by rw [rFm, if_neg g1, if_neg (fun z => z g2), if_pos g3]; rfl⟩
      · refine j_aload_n x dX4_isResultParsed_41 rfl ?_
        refine j_bipush (v := 58) x dX4_isResultParsed_42 (by decide) ?_
        by_cases g4 : tsg (M 87) n (tna (M 87) n (tna (M 87) n (a + 1) + 1)) = 58
        · refine j2_callVi x hb dX4_isResultParsed_44 m_X4_isPassed (c_isPassed_y_p (d := d + 1) hb hn hl (tna_le (tsg_lt g2 (by decide))) g4) wmX4_46 jc_8 rfl rfl rfl (Nat.le_of_ble_eq_true rfl) (j_fit_rm (by omega) (by omega) (by omega)) rfl ?_
          refine j_if_ne (tgt := 52) x dX4_isResultParsed_47 (by decide) (fun hc => ?_) (fun hc => absurd hc (by decide))
          refine j_aload_n x dX4_isResultParsed_52 rfl ?_
          refine j2_callVi x hb dX4_isResultParsed_53 m_X4_number (c_number_p (d := d) hb hn hl (tsg_lt g4 (by decide))) wmX4_66 jc_8 rfl rfl rfl (Nat.le_of_ble_eq_true rfl) (j_fit_rm (by omega) (by omega) (by omega)) rfl ?_
          refine j_istore_n x dX4_isResultParsed_56 (by decide) rfl ?_
          refine j_iload_n x dX4_isResultParsed_57 rfl ?_
          refine j_iconst (v := (-1)) x dX4_isResultParsed_58 (by decide) ?_
          refine j_icmp_eq (tgt := 78) x dX4_isResultParsed_59 (by decide) (fun g5 => ?_) (fun g5 => ?_)
          · refine j_iconst (v := 0) x dX4_isResultParsed_78 (by decide) ?_
            exact j_zreturn x hr dX4_isResultParsed_79 (by first | decide | with_reducible exact jb_nar | with_reducible exact tno_nar | with_reducible exact jisS_nar | with_reducible exact gno_nar) (by omega) (by omega) ⟨by rw [rFm, if_neg g1, if_neg (fun z => z g2), if_neg g3, if_neg (fun z => z g4), if_pos g5]; rfl, by rw [rFm, if_neg g1, if_neg (fun z => z g2), if_neg g3, if_neg (fun z => z g4), if_pos g5]; rfl⟩
          · refine j_aload_n x dX4_isResultParsed_62 rfl ?_
            refine j_bipush (v := 109) x dX4_isResultParsed_63 (by decide) ?_
            refine j_iload_n x dX4_isResultParsed_65 rfl ?_
            refine j_iload_n x dX4_isResultParsed_66 rfl ?_
            refine j_iload_n x dX4_isResultParsed_67 rfl ?_
            refine j2_callVi x hb dX4_isResultParsed_68 m_X4_add (c_add (d := d + 1) hb ((jpos_n (by omega)).trans hc1) hc30) wmX4_59 jc_8 rfl rfl rfl (Nat.le_of_ble_eq_true rfl) (j_fit_rm (by omega) (by omega) (by omega)) rfl ?_
            refine j_if_eq (tgt := 78) x dX4_isResultParsed_71 (by decide) (fun hc => absurd hc (by decide)) (fun hc => ?_)
            refine j_iconst (v := 1) x dX4_isResultParsed_74 (by decide) ?_
            refine j_goto (tgt := 79) x dX4_isResultParsed_75 (by decide) ?_
            exact j_zreturn x hr dX4_isResultParsed_79 (by first | decide | with_reducible exact jb_nar | with_reducible exact tno_nar | with_reducible exact jisS_nar | with_reducible exact gno_nar) (by omega) (by omega) ⟨by rw [rFm, if_neg g1, if_neg (fun z => z g2), if_neg g3, if_neg (fun z => z g4), if_neg g5]; rfl, by rw [rFm, if_neg g1, if_neg (fun z => z g2), if_neg g3, if_neg (fun z => z g4), if_neg g5]; rfl⟩
        · refine j2_callVi x hb dX4_isResultParsed_44 m_X4_isPassed (c_isPassed_n_p (d := d + 1) hb hn hl (tna_le (tsg_lt g2 (by decide))) g4) wmX4_46 jc_8 rfl rfl rfl (Nat.le_of_ble_eq_true rfl) (j_fit_rm (by omega) (by omega) (by omega)) rfl ?_
          refine j_if_ne (tgt := 52) x dX4_isResultParsed_47 (by decide) (fun hc => absurd hc (fun z => z rfl)) (fun hc => ?_)
          refine j_iconst (v := 0) x dX4_isResultParsed_50 (by decide) ?_
          exact j_zreturn x hr dX4_isResultParsed_51 (by first | decide | with_reducible exact jb_nar | with_reducible exact tno_nar | with_reducible exact jisS_nar | with_reducible exact gno_nar) (by omega) (by omega) ⟨by rw [rFm, if_neg g1, if_neg (fun z => z g2), if_neg g3, if_pos g4]; rfl, by rw [rFm, if_neg g1, if_neg (fun z => z g2), if_neg g3, if_pos g4]; rfl⟩
    · refine j2_callVi x hb dX4_isResultParsed_23 m_X4_isPassed (c_isPassed_n_p (d := d + 1) hb hn hl (tna_le (show a + 1 ≤ n by omega)) g2) wmX4_46 jc_8 rfl rfl rfl (Nat.le_of_ble_eq_true rfl) (j_fit_rm (by omega) (by omega) (by omega)) rfl ?_
      refine j_if_ne (tgt := 31) x dX4_isResultParsed_26 (by decide) (fun hc => absurd hc (fun z => z rfl)) (fun hc => ?_)
      refine j_iconst (v := 0) x dX4_isResultParsed_29 (by decide) ?_
      exact j_zreturn x hr dX4_isResultParsed_30 (by first | decide | with_reducible exact jb_nar | with_reducible exact tno_nar | with_reducible exact jisS_nar | with_reducible exact gno_nar) (by omega) (by omega) ⟨by rw [rFm, if_neg g1, if_pos g2]; rfl, by rw [rFm, if_neg g1, if_pos g2]; rfl⟩
theorem c_areRulesParsed {d : Nat} {b : SBt} {Y : OUt} {M : MM} (hb : 94 ≤ b.2.1) {a n : Nat} (hn : n ≤ 60) (hl : M 86 0 = nI n) (hp : M 86 1 = nI (a + 1)) (ha : a + 1 ≤ n) {c1 : Nat} (hc1 : M 86 2 = nI c1) (hc30 : c1 < 30) : CM (d + 3) 0 0 yX4_areRulesParsed cX4_areRulesParsed 4 (some .boolean) [.ref 86] b Y M (.inl (some (.int (1)))) (jadd (jpos M (tda (M 87) n (tda (M 87) n (tda (M 87) n (a + 1) 4) 4) 4)) c1 116 (tdg (M 87) n (a + 1) 4) (tdg (M 87) n (tda (M 87) n (a + 1) 4) 4) (tdg (M 87) n (tda (M 87) n (tda (M 87) n (a + 1) 4) 4) 4)) := by
  refine Con.of (by decide +kernel) (Nat.le_of_ble_eq_true rfl) rfl fun p l e s m args below meth c D tyc A ad0 x hr htab hname => ?_
  change JJ _ _ _ _ _ _ _ _ _ _ _ _ _ _ _ _ _ 0 [some (.ref 86), none, none, none] [] _ 0 0
  refine j_aload_n x dX4_areRulesParsed_0 rfl ?_
  refine j_iconst (v := 4) x dX4_areRulesParsed_1 (by decide) ?_
  refine j2_callVi x hb dX4_areRulesParsed_2 m_X4_digit (c_digit (d := d) hb hn hl hp ha) wmX4_69 jc_8 rfl rfl rfl (Nat.le_of_ble_eq_true rfl) (j_fit_rm (by omega) (by omega) (by omega)) rfl ?_
  refine j_istore_n x dX4_areRulesParsed_5 (by decide) rfl ?_
  refine j_aload_n x dX4_areRulesParsed_6 rfl ?_
  refine j_iconst (v := 4) x dX4_areRulesParsed_7 (by decide) ?_
  refine j2_callVi x hb dX4_areRulesParsed_8 m_X4_digit (c_digit_p (d := d) hb hn hl (tda_le ha)) wmX4_69 jc_8 rfl rfl rfl (Nat.le_of_ble_eq_true rfl) (j_fit_rm (by omega) (by omega) (by omega)) rfl ?_
  refine j_istore_n x dX4_areRulesParsed_11 (by decide) rfl ?_
  refine j_aload_n x dX4_areRulesParsed_12 rfl ?_
  refine j_iconst (v := 4) x dX4_areRulesParsed_13 (by decide) ?_
  refine j2_callVi x hb dX4_areRulesParsed_14 m_X4_digit (c_digit_p (d := d) hb hn hl (tda_le (tda_le ha))) wmX4_69 jc_8 rfl rfl rfl (Nat.le_of_ble_eq_true rfl) (j_fit_rm (by omega) (by omega) (by omega)) rfl ?_
  refine j_istore_n x dX4_areRulesParsed_17 (by decide) rfl ?_
  refine j_aload_n x dX4_areRulesParsed_18 rfl ?_
  refine j_bipush (v := 116) x dX4_areRulesParsed_19 (by decide) ?_
  refine j_iload_n x dX4_areRulesParsed_21 rfl ?_
  refine j_iload_n x dX4_areRulesParsed_22 rfl ?_
  refine j_iload_n x dX4_areRulesParsed_23 rfl ?_
  refine j2_callVi x hb dX4_areRulesParsed_24 m_X4_add (c_add (d := d + 1) hb ((jpos_n (by omega)).trans hc1) hc30) wmX4_59 jc_8 rfl rfl rfl (Nat.le_of_ble_eq_true rfl) (j_fit_rm (by omega) (by omega) (by omega)) rfl ?_
  exact j_zreturn x hr dX4_areRulesParsed_27 (by first | decide | with_reducible exact jb_nar | with_reducible exact tno_nar | with_reducible exact jisS_nar | with_reducible exact gno_nar) (by omega) (by omega) ⟨rfl, rfl⟩
theorem c_isCommandParsed_109 {d : Nat} {b : SBt} {Y : OUt} {M : MM} (hb : 94 ≤ b.2.1) {a n : Nat} (hn : n ≤ 60) (hl : M 86 0 = nI n) (hp : M 86 1 = nI a) (ha : a ≤ n) {c1 : Nat} (hc1 : M 86 2 = nI c1) (hc30 : c1 < 30) (hL : tsg (M 87) n a = 109) : CM (d + 4) 0 0 yX4_isCommandParsed cX4_isCommandParsed 2 (some .boolean) [.ref 86] b Y M (.inl (some (.int (tno (rFm (M 87) n a))))) (tst M (rFm (M 87) n a) (jadd (jpos M (tna (M 87) n (tna (M 87) n (tna (M 87) n (a + 1) + 1) + 1))) c1 109 (tnv (M 87) n (a + 1)) (tnv (M 87) n (tna (M 87) n (a + 1) + 1)) (tnv (M 87) n (tna (M 87) n (tna (M 87) n (a + 1) + 1) + 1)))) := by
  refine Con.of (by decide +kernel) (Nat.le_of_ble_eq_true rfl) rfl fun p l e s m args below meth c D tyc A ad0 x hr htab hname => ?_
  change JJ _ _ _ _ _ _ _ _ _ _ _ _ _ _ _ _ _ 0 [some (.ref 86), none] [] _ 0 0
  refine j_aload_n x dX4_isCommandParsed_0 rfl ?_
  refine j2_callVi x hb dX4_isCommandParsed_1 m_X4_sign (CM_v (c_sign (d := d) hb hn hl hp ha) hL) wmX4_42 jc_8 rfl rfl rfl (Nat.le_of_ble_eq_true rfl) (j_fit_rm (by omega) (by omega) (by omega)) rfl ?_
  refine j_istore_n x dX4_isCommandParsed_4 (by decide) rfl ?_
  refine j_iload_n x dX4_isCommandParsed_5 rfl ?_
  refine j_lookup (off := 50) (tgt := 56) x dX4_isCommandParsed_6 (by decide) (by decide) (by decide) ?_
  refine j_aload_n x dX4_isCommandParsed_56 rfl ?_
  refine j2_callVi x hb dX4_isCommandParsed_57 m_X4_isResultParsed (c_isResultParsed (d := d) hb hn hl hp (tsg_lt hL (by decide)) hc1 hc30) wmX4_50 jc_8 rfl rfl rfl (Nat.le_of_ble_eq_true rfl) (j_fit_rm (by omega) (by omega) (by omega)) rfl ?_
  exact j_zreturn x hr dX4_isCommandParsed_60 (by first | decide | with_reducible exact jb_nar | with_reducible exact tno_nar | with_reducible exact jisS_nar | with_reducible exact gno_nar) (by omega) (by omega) ⟨rfl, rfl⟩
theorem c_isCommandParsed_98 {d : Nat} {b : SBt} {Y : OUt} {M : MM} (hb : 94 ≤ b.2.1) {a n : Nat} (hn : n ≤ 60) (hl : M 86 0 = nI n) (hp : M 86 1 = nI a) (ha : a ≤ n) {c1 : Nat} (hc1 : M 86 2 = nI c1) (hc30 : c1 < 30) (hL : tsg (M 87) n a = 98) : CM (d + 4) 0 0 yX4_isCommandParsed cX4_isCommandParsed 2 (some .boolean) [.ref 86] b Y M (.inl (some (.int (tno (rFb (M 87) n a))))) (tst M (rFb (M 87) n a) (jadd (jpos M (tna (M 87) n (a + 1))) c1 98 (tnv (M 87) n (a + 1)) (-1) (-1))) := by
  refine Con.of (by decide +kernel) (Nat.le_of_ble_eq_true rfl) rfl fun p l e s m args below meth c D tyc A ad0 x hr htab hname => ?_
  change JJ _ _ _ _ _ _ _ _ _ _ _ _ _ _ _ _ _ 0 [some (.ref 86), none] [] _ 0 0
  refine j_aload_n x dX4_isCommandParsed_0 rfl ?_
  refine j2_callVi x hb dX4_isCommandParsed_1 m_X4_sign (CM_v (c_sign (d := d) hb hn hl hp ha) hL) wmX4_42 jc_8 rfl rfl rfl (Nat.le_of_ble_eq_true rfl) (j_fit_rm (by omega) (by omega) (by omega)) rfl ?_
  refine j_istore_n x dX4_isCommandParsed_4 (by decide) rfl ?_
  refine j_iload_n x dX4_isCommandParsed_5 rfl ?_
  refine j_lookup (off := 55) (tgt := 61) x dX4_isCommandParsed_6 (by decide) (by decide) (by decide) ?_
  refine j_aload_n x dX4_isCommandParsed_61 rfl ?_
  refine j2_callVi x hb dX4_isCommandParsed_62 m_X4_isBackParsed (c_isBackParsed (d := d) hb hn hl hp (tsg_lt hL (by decide)) hc1 hc30) wmX4_53 jc_8 rfl rfl rfl (Nat.le_of_ble_eq_true rfl) (j_fit_rm (by omega) (by omega) (by omega)) rfl ?_
  exact j_zreturn x hr dX4_isCommandParsed_65 (by first | decide | with_reducible exact jb_nar | with_reducible exact tno_nar | with_reducible exact jisS_nar | with_reducible exact gno_nar) (by omega) (by omega) ⟨rfl, rfl⟩
theorem c_isCommandParsed_111 {d : Nat} {b : SBt} {Y : OUt} {M : MM} (hb : 94 ≤ b.2.1) {a n : Nat} (hn : n ≤ 60) (hl : M 86 0 = nI n) (hp : M 86 1 = nI a) (ha : a ≤ n) {c1 : Nat} (hc1 : M 86 2 = nI c1) (hc30 : c1 < 30) (hL : tsg (M 87) n a = 111) : CM (d + 4) 0 0 yX4_isCommandParsed cX4_isCommandParsed 2 (some .boolean) [.ref 86] b Y M (.inl (some (.int (tno (rFo (M 87) n a))))) (tst M (rFo (M 87) n a) (jadd (jpos M (tna (M 87) n (tna (M 87) n (a + 1) + 1))) c1 111 (tnv (M 87) n (a + 1)) (tnv (M 87) n (tna (M 87) n (a + 1) + 1)) (-1))) := by
  refine Con.of (by decide +kernel) (Nat.le_of_ble_eq_true rfl) rfl fun p l e s m args below meth c D tyc A ad0 x hr htab hname => ?_
  change JJ _ _ _ _ _ _ _ _ _ _ _ _ _ _ _ _ _ 0 [some (.ref 86), none] [] _ 0 0
  refine j_aload_n x dX4_isCommandParsed_0 rfl ?_
  refine j2_callVi x hb dX4_isCommandParsed_1 m_X4_sign (CM_v (c_sign (d := d) hb hn hl hp ha) hL) wmX4_42 jc_8 rfl rfl rfl (Nat.le_of_ble_eq_true rfl) (j_fit_rm (by omega) (by omega) (by omega)) rfl ?_
  refine j_istore_n x dX4_isCommandParsed_4 (by decide) rfl ?_
  refine j_iload_n x dX4_isCommandParsed_5 rfl ?_
  refine j_lookup (off := 60) (tgt := 66) x dX4_isCommandParsed_6 (by decide) (by decide) (by decide) ?_
  refine j_aload_n x dX4_isCommandParsed_66 rfl ?_
  refine j2_callVi x hb dX4_isCommandParsed_67 m_X4_isPutOffParsed (c_isPutOffParsed (d := d) hb hn hl hp (tsg_lt hL (by decide)) hc1 hc30) wmX4_56 jc_8 rfl rfl rfl (Nat.le_of_ble_eq_true rfl) (j_fit_rm (by omega) (by omega) (by omega)) rfl ?_
  exact j_zreturn x hr dX4_isCommandParsed_70 (by first | decide | with_reducible exact jb_nar | with_reducible exact tno_nar | with_reducible exact jisS_nar | with_reducible exact gno_nar) (by omega) (by omega) ⟨rfl, rfl⟩
theorem c_isCommandParsed_110 {d : Nat} {b : SBt} {Y : OUt} {M : MM} (hb : 94 ≤ b.2.1) {a n : Nat} (hn : n ≤ 60) (hl : M 86 0 = nI n) (hp : M 86 1 = nI a) (ha : a ≤ n) {c1 : Nat} (hc1 : M 86 2 = nI c1) (hc30 : c1 < 30) (hL : tsg (M 87) n a = 110) : CM (d + 4) 0 0 yX4_isCommandParsed cX4_isCommandParsed 2 (some .boolean) [.ref 86] b Y M (.inl (some (.int (1)))) (jadd (jpos M (a + 1)) c1 110 (-1) (-1) (-1)) := by
  refine Con.of (by decide +kernel) (Nat.le_of_ble_eq_true rfl) rfl fun p l e s m args below meth c D tyc A ad0 x hr htab hname => ?_
  change JJ _ _ _ _ _ _ _ _ _ _ _ _ _ _ _ _ _ 0 [some (.ref 86), none] [] _ 0 0
  refine j_aload_n x dX4_isCommandParsed_0 rfl ?_
  refine j2_callVi x hb dX4_isCommandParsed_1 m_X4_sign (CM_v (c_sign (d := d) hb hn hl hp ha) hL) wmX4_42 jc_8 rfl rfl rfl (Nat.le_of_ble_eq_true rfl) (j_fit_rm (by omega) (by omega) (by omega)) rfl ?_
  refine j_istore_n x dX4_isCommandParsed_4 (by decide) rfl ?_
  refine j_iload_n x dX4_isCommandParsed_5 rfl ?_
  refine j_lookup (off := 65) (tgt := 71) x dX4_isCommandParsed_6 (by decide) (by decide) (by decide) ?_
  refine j_aload_n x dX4_isCommandParsed_71 rfl ?_
  refine j_bipush (v := 110) x dX4_isCommandParsed_72 (by decide) ?_
  refine j2_callVi x hb dX4_isCommandParsed_74 m_X4_isPassed (c_isPassed_y (d := d) hb hn hl hp ha hL) wmX4_46 jc_8 rfl rfl rfl (Nat.le_of_ble_eq_true rfl) (j_fit_rm (by omega) (by omega) (by omega)) rfl ?_
  refine j_if_eq (tgt := 96) x dX4_isCommandParsed_77 (by decide) (fun hc => absurd hc (by decide)) (fun hc => ?_)
  refine j_aload_n x dX4_isCommandParsed_80 rfl ?_
  refine j_bipush (v := 110) x dX4_isCommandParsed_81 (by decide) ?_
  refine j_iconst (v := (-1)) x dX4_isCommandParsed_83 (by decide) ?_
  refine j_iconst (v := (-1)) x dX4_isCommandParsed_84 (by decide) ?_
  refine j_iconst (v := (-1)) x dX4_isCommandParsed_85 (by decide) ?_
  refine j2_callVi x hb dX4_isCommandParsed_86 m_X4_add (c_add (d := d) hb ((jpos_n (by omega)).trans hc1) hc30) wmX4_59 jc_8 rfl rfl rfl (Nat.le_of_ble_eq_true rfl) (j_fit_rm (by omega) (by omega) (by omega)) rfl ?_
  refine j_if_eq (tgt := 96) x dX4_isCommandParsed_89 (by decide) (fun hc => absurd hc (by decide)) (fun hc => ?_)
  refine j_iconst (v := 1) x dX4_isCommandParsed_92 (by decide) ?_
  refine j_goto (tgt := 97) x dX4_isCommandParsed_93 (by decide) ?_
  exact j_zreturn x hr dX4_isCommandParsed_97 (by first | decide | with_reducible exact jb_nar | with_reducible exact tno_nar | with_reducible exact jisS_nar | with_reducible exact gno_nar) (by omega) (by omega) ⟨rfl, rfl⟩
theorem c_areRulesParsed_p {d : Nat} {b : SBt} {Y : OUt} {M : MM} (hb : 94 ≤ b.2.1) {a n : Nat} (hn : n ≤ 60) (hl : M 86 0 = nI n) (ha : a + 1 ≤ n) {c1 : Nat} (hc1 : M 86 2 = nI c1) (hc30 : c1 < 30) : CM (d + 3) 0 0 yX4_areRulesParsed cX4_areRulesParsed 4 (some .boolean) [.ref 86] b Y (jpos M (a + 1)) (.inl (some (.int 1))) (jadd (jpos M (tda (M 87) n (tda (M 87) n (tda (M 87) n (a + 1) 4) 4) 4)) c1 116 (tdg (M 87) n (a + 1) 4) (tdg (M 87) n (tda (M 87) n (a + 1) 4) 4) (tdg (M 87) n (tda (M 87) n (tda (M 87) n (a + 1) 4) 4) 4)) := by
  have h := c_areRulesParsed (d := d) (Y := Y) (M := jpos M (a + 1)) hb hn (by rw [jpos_n (by omega)]; exact hl) jpos_s ha (c1 := c1) (by rw [jpos_n (by omega)]; exact hc1) hc30
  try simp only [jpos_t, jpos_jpos] at h
  exact h
theorem c_isCommandParsed_116 {d : Nat} {b : SBt} {Y : OUt} {M : MM} (hb : 94 ≤ b.2.1) {a n : Nat} (hn : n ≤ 60) (hl : M 86 0 = nI n) (hp : M 86 1 = nI a) (ha : a ≤ n) {c1 : Nat} (hc1 : M 86 2 = nI c1) (hc30 : c1 < 30) (hL : tsg (M 87) n a = 116) : CM (d + 4) 0 0 yX4_isCommandParsed cX4_isCommandParsed 2 (some .boolean) [.ref 86] b Y M (.inl (some (.int (1)))) (jadd (jpos M (tda (M 87) n (tda (M 87) n (tda (M 87) n (a + 1) 4) 4) 4)) c1 116 (tdg (M 87) n (a + 1) 4) (tdg (M 87) n (tda (M 87) n (a + 1) 4) 4) (tdg (M 87) n (tda (M 87) n (tda (M 87) n (a + 1) 4) 4) 4)) := by
  refine Con.of (by decide +kernel) (Nat.le_of_ble_eq_true rfl) rfl fun p l e s m args below meth c D tyc A ad0 x hr htab hname => ?_
  change JJ _ _ _ _ _ _ _ _ _ _ _ _ _ _ _ _ _ 0 [some (.ref 86), none] [] _ 0 0
  refine j_aload_n x dX4_isCommandParsed_0 rfl ?_
  refine j2_callVi x hb dX4_isCommandParsed_1 m_X4_sign (CM_v (c_sign (d := d) hb hn hl hp ha) hL) wmX4_42 jc_8 rfl rfl rfl (Nat.le_of_ble_eq_true rfl) (j_fit_rm (by omega) (by omega) (by omega)) rfl ?_
  refine j_istore_n x dX4_isCommandParsed_4 (by decide) rfl ?_
  refine j_iload_n x dX4_isCommandParsed_5 rfl ?_
  refine j_lookup (off := 92) (tgt := 98) x dX4_isCommandParsed_6 (by decide) (by decide) (by decide) ?_
  refine j_aload_n x dX4_isCommandParsed_98 rfl ?_
  refine j_bipush (v := 116) x dX4_isCommandParsed_99 (by decide) ?_
  refine j2_callVi x hb dX4_isCommandParsed_101 m_X4_isPassed (c_isPassed_y (d := d) hb hn hl hp ha hL) wmX4_46 jc_8 rfl rfl rfl (Nat.le_of_ble_eq_true rfl) (j_fit_rm (by omega) (by omega) (by omega)) rfl ?_
  refine j_if_eq (tgt := 118) x dX4_isCommandParsed_104 (by decide) (fun hc => absurd hc (by decide)) (fun hc => ?_)
  refine j_aload_n x dX4_isCommandParsed_107 rfl ?_
  refine j2_callVi x hb dX4_isCommandParsed_108 m_X4_areRulesParsed (c_areRulesParsed_p (d := d) hb hn hl (tsg_lt hL (by decide)) hc1 hc30) wmX4_63 jc_8 rfl rfl rfl (Nat.le_of_ble_eq_true rfl) (j_fit_rm (by omega) (by omega) (by omega)) rfl ?_
  refine j_if_eq (tgt := 118) x dX4_isCommandParsed_111 (by decide) (fun hc => absurd hc (by decide)) (fun hc => ?_)
  refine j_iconst (v := 1) x dX4_isCommandParsed_114 (by decide) ?_
  refine j_goto (tgt := 119) x dX4_isCommandParsed_115 (by decide) ?_
  exact j_zreturn x hr dX4_isCommandParsed_119 (by first | decide | with_reducible exact jb_nar | with_reducible exact tno_nar | with_reducible exact jisS_nar | with_reducible exact gno_nar) (by omega) (by omega) ⟨rfl, rfl⟩
theorem c_isCommandParsed_no {d : Nat} {b : SBt} {Y : OUt} {M : MM} (hb : 94 ≤ b.2.1) {a n : Nat} (hn : n ≤ 60) (hl : M 86 0 = nI n) (hp : M 86 1 = nI a) (ha : a ≤ n) (h1 : ¬ tsg (M 87) n a = 109) (h2 : ¬ tsg (M 87) n a = 98) (h3 : ¬ tsg (M 87) n a = 111) (h4 : ¬ tsg (M 87) n a = 110) (h5 : ¬ tsg (M 87) n a = 116) : CM (d + 4) 0 0 yX4_isCommandParsed cX4_isCommandParsed 2 (some .boolean) [.ref 86] b Y M (.inl (some (.int (0)))) (M) := by
  refine Con.of (by decide +kernel) (Nat.le_of_ble_eq_true rfl) rfl fun p l e s m args below meth c D tyc A ad0 x hr htab hname => ?_
  change JJ _ _ _ _ _ _ _ _ _ _ _ _ _ _ _ _ _ 0 [some (.ref 86), none] [] _ 0 0
  refine j_aload_n x dX4_isCommandParsed_0 rfl ?_
  refine j2_callVi x hb dX4_isCommandParsed_1 m_X4_sign (c_sign (d := d) hb hn hl hp ha) wmX4_42 jc_8 rfl rfl rfl (Nat.le_of_ble_eq_true rfl) (j_fit_rm (by omega) (by omega) (by omega)) rfl ?_
  refine j_istore_n x dX4_isCommandParsed_4 (by decide) rfl ?_
  refine j_iload_n x dX4_isCommandParsed_5 rfl ?_
  refine j_lookup (off := 114) (tgt := 120) x dX4_isCommandParsed_6 (by decide) ((lv_osw h2 (by decide)).trans ((lv_osw h1 (by decide)).trans ((lv_osw h4 (by decide)).trans ((lv_osw h3 (by decide)).trans ((lv_osw h5 (by decide)).trans (Op.lookupswitch.offset_nil _ _)))))) (by decide) ?_
  refine j_iconst (v := 0) x dX4_isCommandParsed_120 (by decide) ?_
  exact j_zreturn x hr dX4_isCommandParsed_121 (by first | decide | with_reducible exact jb_nar | with_reducible exact tno_nar | with_reducible exact jisS_nar | with_reducible exact gno_nar) (by omega) (by omega) ⟨rfl, rfl⟩
theorem c_isCommandParsed {d : Nat} {b : SBt} {Y : OUt} {M : MM} (hb : 94 ≤ b.2.1) {a n : Nat} (hn : n ≤ 60) (hl : M 86 0 = nI n) (hp : M 86 1 = nI a) (ha : a ≤ n) {c1 : Nat} (hc1 : M 86 2 = nI c1) (hc30 : c1 < 30) : CM (d + 4) 0 0 yX4_isCommandParsed cX4_isCommandParsed 2 (some .boolean) [.ref 86] b Y M (.inl (some (.int (tno (pF (M 87) n a))))) (tst M (pF (M 87) n a) (jadd (jpos M (pN (M 87) n a)) c1 (tsg (M 87) n a) (p1 (M 87) n a) (p2 (M 87) n a) (p3 (M 87) n a))) := by
  by_cases h1 : tsg (M 87) n a = 109
  · have h := c_isCommandParsed_109 (d := d) (Y := Y) hb hn hl hp ha hc1 hc30 h1
    simp only [pF, pN, p1, p2, p3, h1, if_true, if_false, reduceCtorEq, show ¬ (109 : Int32) = 110 from by decide, show ¬ (109 : Int32) = 116 from by decide, show ¬ (109 : Int32) = 98 from by decide, or_self]
    exact h
  · by_cases h2 : tsg (M 87) n a = 98
    · have h := c_isCommandParsed_98 (d := d) (Y := Y) hb hn hl hp ha hc1 hc30 h2
      simp only [pF, pN, p1, p2, p3, h2, if_true, if_false, show ¬ (98 : Int32) = 110 from by decide, show ¬ (98 : Int32) = 116 from by decide, show ¬ (98 : Int32) = 109 from by decide, or_true]
      exact h
    · by_cases h3 : tsg (M 87) n a = 111
      · have h := c_isCommandParsed_111 (d := d) (Y := Y) hb hn hl hp ha hc1 hc30 h3
        simp only [pF, pN, p1, p2, p3, h3, if_true, if_false, show ¬ (111 : Int32) = 110 from by decide, show ¬ (111 : Int32) = 116 from by decide, show ¬ (111 : Int32) = 109 from by decide, show ¬ (111 : Int32) = 98 from by decide, or_self]
        exact h
      · by_cases h4 : tsg (M 87) n a = 110
        · have h := c_isCommandParsed_110 (d := d) (Y := Y) hb hn hl hp ha hc1 hc30 h4
          simp only [pF, pN, p1, p2, p3, h4, if_true, if_false, show ¬ (110 : Int32) = 116 from by decide, show ¬ (110 : Int32) = 109 from by decide, show ¬ (110 : Int32) = 98 from by decide, show ¬ (110 : Int32) = 111 from by decide, true_or]
          exact h
        · by_cases h5 : tsg (M 87) n a = 116
          · have h := c_isCommandParsed_116 (d := d) (Y := Y) hb hn hl hp ha hc1 hc30 h5
            simp only [pF, pN, p1, p2, p3, h5, if_true, if_false, show ¬ (116 : Int32) = 110 from by decide, show ¬ (116 : Int32) = 109 from by decide, show ¬ (116 : Int32) = 98 from by decide, show ¬ (116 : Int32) = 111 from by decide, or_self]
            exact h
          · have h := c_isCommandParsed_no (d := d) (Y := Y) hb hn hl hp ha h1 h2 h3 h4 h5
            simp only [pF, if_neg h1, if_neg h2, if_neg h3, if_neg h4, if_neg h5]
            show CM _ _ _ _ _ _ _ _ _ _ _ (.inl (some (.int 0))) (jpos M a)
            rw [jpos_id hp]
            exact h
