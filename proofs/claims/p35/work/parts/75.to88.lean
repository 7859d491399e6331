section
/-! ===== the meetings of a number of teams: both sides draw the same ===== -/
def wT (t : Nat) : Nat := 2 * (gP t - 1)
def nT (t : Nat) : Nat := gbase t (wT t)
/-- home, away, week of the m-th meeting of t teams: as the reference lays them -/
def TB (t m k : Nat) : Int32 := jof (gdw (fun _ _ => 0) t (wT t)) m k
theorem nT_le {t : Nat} (ht : t ≤ 8) : nT t ≤ 56 := by
  unfold nT
  cases h : wT t with
  | zero => exact Nat.zero_le _
  | succ w =>
    have h1 := gin_le (t := t) (w := w) (j := t) ht (by unfold wT at h; omega) ht
    rw [gbase]
    exact h1
theorem wT_le {t : Nat} (ht : t ≤ 8) : wT t ≤ 14 := by unfold wT gP; omega
theorem gbase_mono {t : Nat} : ∀ {w w2 : Nat}, w ≤ w2 → gbase t w ≤ gbase t w2
  | w, 0, h => by rw [show w = 0 by omega]; exact Nat.le_refl _
  | w, w2 + 1, h => by
    by_cases e : w = w2 + 1
    · rw [e]; exact Nat.le_refl _
    · exact Nat.le_trans (gbase_mono (w2 := w2) (by omega)) (Nat.le_add_right _ _)
theorem gz_of {N : MM} {c m k : Nat} (hk : k < 8) (h : m ≠ c) : ∀ i, i ≤ 8 → jof (gz N c i) m k = jof N m k
  | 0, _ => rfl
  | i + 1, hi => by rw [gz, jsets_of (by omega) (by omega) hk]; exact gz_of hk h i (by omega)
theorem gz_at {N : MM} {c k : Nat} : ∀ i, i ≤ 8 → k < i → jof (gz N c i) c k = 0
  | 0, _, h => absurd h (Nat.not_lt_zero k)
  | i + 1, hi, h => by
    rw [gz]
    by_cases e : k = i
    · subst e; exact jsets_s
    · rw [jsets_of (by omega) (by omega) (by omega)]; exact gz_at i (by omega) (by omega)
theorem gadd_of {N : MM} {c t w j m k : Nat} (hk : k < 8) (h : m ≠ c) : jof (gadd N c t w j) m k = jof N m k := by
  unfold gadd
  rw [jsets_of (by omega) (by omega) hk, jsets_of (by omega) (by omega) hk, jsets_of (by omega) (by omega) hk, jsets_of (by omega) (by omega) hk, gz_of hk h 8 (Nat.le_refl _)]
  unfold jof
  rw [jm_n (by omega)]
theorem gadd_0 {N : MM} {c t w j : Nat} : jof (gadd N c t w j) c 0 = nI j := by
  unfold gadd
  rw [jsets_of (by omega) (by omega) (by omega), jsets_of (by omega) (by omega) (by omega), jsets_of (by omega) (by omega) (by omega), jsets_s]
theorem gadd_1 {N : MM} {c t w j : Nat} : jof (gadd N c t w j) c 1 = gother t w j := by
  unfold gadd
  rw [jsets_of (by omega) (by omega) (by omega), jsets_of (by omega) (by omega) (by omega), jsets_s]
theorem gadd_2 {N : MM} {c t w j : Nat} : jof (gadd N c t w j) c 2 = nI w := by
  unfold gadd
  rw [jsets_of (by omega) (by omega) (by omega), jsets_s]
theorem gadd_3 {N : MM} {c t w j : Nat} : jof (gadd N c t w j) c 3 = nI w := by unfold gadd; rw [jsets_s]
theorem gadd_4 {N : MM} {c t w j k : Nat} (h : 4 ≤ k) (hk : k < 8) : jof (gadd N c t w j) c k = 0 := by
  unfold gadd
  rw [jsets_of (by omega) (by omega) hk, jsets_of (by omega) (by omega) hk, jsets_of (by omega) (by omega) hk, jsets_of (by omega) (by omega) hk]
  exact gz_at 8 (Nat.le_refl _) hk
theorem gadd_c {N N2 : MM} {c t w j m k : Nat} (hk : k < 8) (h : m ≠ c → jof N m k = jof N2 m k) : jof (gadd N c t w j) m k = jof (gadd N2 c t w j) m k := by
  by_cases e : m = c
  · subst e
    rcases (show k = 0 ∨ k = 1 ∨ k = 2 ∨ k = 3 ∨ 4 ≤ k by omega) with rfl | rfl | rfl | rfl | h4
    · rw [gadd_0, gadd_0]
    · rw [gadd_1, gadd_1]
    · rw [gadd_2, gadd_2]
    · rw [gadd_3, gadd_3]
    · rw [gadd_4 h4 hk, gadd_4 h4 hk]
  · rw [gadd_of hk e, gadd_of hk e]; exact h e
theorem gdj_c {N N2 : MM} {t w k : Nat} (hk : k < 8) (h : ∀ m, m < gbase t w → jof N m k = jof N2 m k) : ∀ j m, m < gbase t w + gin t w j → jof (gdj N t w j) m k = jof (gdj N2 t w j) m k
  | 0, m, hm => h m hm
  | j + 1, m, hm => by
    rw [gdj, gdj]
    rw [gin] at hm
    split
    · rw [if_pos (by assumption)] at hm
      exact gadd_c hk (fun e => gdj_c hk h j m (by omega))
    · rw [if_neg (by assumption)] at hm
      exact gdj_c hk h j m hm
theorem gdw_c {N N2 : MM} {t k : Nat} (hk : k < 8) : ∀ w m, m < gbase t w → jof (gdw N t w) m k = jof (gdw N2 t w) m k
  | 0, m, h => absurd h (Nat.not_lt_zero m)
  | w + 1, m, h => gdj_c hk (gdw_c hk w) t m h
theorem gdw_TB {N : MM} {t m k : Nat} (hk : k < 8) (hm : m < nT t) : jof (gdw N t (wT t)) m k = TB t m k := gdw_c hk (wT t) m hm
/-- what holds of each meeting as it is laid -/
def okM (t : Nat) (f : Nat → Int32) : Prop := ∃ h a w : Nat, h < t ∧ a < t ∧ h ≠ a ∧ w < wT t ∧ f 0 = nI h ∧ f 1 = nI a ∧ f 2 = nI w ∧ f 3 = nI w ∧ f 4 = 0 ∧ f 5 = 0 ∧ f 6 = 0 ∧ f 7 = 0
theorem gcond_all : ((List.range 9).all fun t => (List.range (wT t)).all fun w => (List.range t).all fun j => !gcondb t w j || (List.range t).any fun a => decide (gother t w j = nI a) && !(a == j)) = true := by decide +kernel
theorem gcond_ok {t w j : Nat} (ht : t ≤ 8) (hw : w < wT t) (hj : j < t) (h : gcondb t w j = true) : ∃ a, a < t ∧ a ≠ j ∧ gother t w j = nI a := by
  have h1 := List.all_eq_true.mp (List.all_eq_true.mp (List.all_eq_true.mp gcond_all t (List.mem_range.mpr (by omega))) w (List.mem_range.mpr hw)) j (List.mem_range.mpr hj)
  rw [h, Bool.not_true, Bool.false_or] at h1
  obtain ⟨a, h2, h3⟩ := List.any_eq_true.mp h1
  rw [Bool.and_eq_true, decide_eq_true_eq, Bool.not_eq_true', beq_eq_false_iff_ne] at h3
  exact ⟨a, List.mem_range.mp h2, h3.2, h3.1⟩
theorem gdj_ok {N : MM} {t w : Nat} (ht : t ≤ 8) (hw : w < wT t) (h : ∀ m, m < gbase t w → okM t (jof N m)) : ∀ j, j ≤ t → ∀ m, m < gbase t w + gin t w j → okM t (jof (gdj N t w j) m)
  | 0, _, m, hm => h m hm
  | j + 1, hj, m, hm => by
    rw [gdj]
    rw [gin] at hm
    split
    · rename_i hc
      rw [if_pos hc] at hm
      by_cases e : m = gbase t w + gin t w j
      · subst e
        obtain ⟨a, h1, h2, h3⟩ := gcond_ok ht hw (by omega) hc
        exact ⟨j, a, w, by omega, h1, fun q => h2 q.symm, hw, gadd_0, gadd_1.trans h3, gadd_2, gadd_3, gadd_4 (by omega) (by omega), gadd_4 (by omega) (by omega), gadd_4 (by omega) (by omega), gadd_4 (by omega) (by omega)⟩
      · obtain ⟨h1, a, w1, q⟩ := gdj_ok ht hw h j (by omega) m (by omega)
        refine ⟨h1, a, w1, ?_⟩
        simp only [gadd_of (show 0 < 8 by omega) e, gadd_of (show 1 < 8 by omega) e, gadd_of (show 2 < 8 by omega) e, gadd_of (show 3 < 8 by omega) e, gadd_of (show 4 < 8 by omega) e, gadd_of (show 5 < 8 by omega) e, gadd_of (show 6 < 8 by omega) e, gadd_of (show 7 < 8 by omega) e]
        exact q
    · rename_i hc
      rw [if_neg hc] at hm
      exact gdj_ok ht hw h j (by omega) m hm
theorem gdw_ok {N : MM} {t : Nat} (ht : t ≤ 8) : ∀ w, w ≤ wT t → ∀ m, m < gbase t w → okM t (jof (gdw N t w) m)
  | 0, _, m, h => absurd h (Nat.not_lt_zero m)
  | w + 1, hw, m, h => gdj_ok ht (by omega) (gdw_ok ht w (by omega)) t (Nat.le_refl _) m h
theorem TB_ok {t m : Nat} (ht : t ≤ 8) (hm : m < nT t) : okM t (TB t m) := gdw_ok ht (wT t) (Nat.le_refl _) m hm
/-! the class -/
theorem jput_c {n i k : Nat} {X X2 : MM} {u v : Int32} (h : X i k = X2 i k) : jput n X i u v i k = jput n X2 i u v i k := by
  unfold jput
  split
  · exact h
  · by_cases e : k = u.toNatClampNeg
    · subst e; rw [jm_s, jm_s]
    · rw [jm_n (by omega), jm_n (by omega)]; exact h
theorem jhost_c {X X2 : MM} {u v z : Int32} {k : Nat} (h : X 74 k = X2 74 k) : jhost X u v z 74 k = jhost X2 u v z 74 k := by
  unfold jhost
  split <;> exact jput_c h
theorem jpl_c {r q : Nat} {z : Int32} {X X2 : MM} {k : Nat} (h : X 74 k = X2 74 k) : ∀ n, jpl r q z X n 74 k = jpl r q z X2 n 74 k
  | 0 => jhost_c h
  | n + 1 => jhost_c (jpl_c h n)
/-- the guest of a team in a week, as the class pairs them -/
def cgu (t w j : Nat) : Int32 := jpl (jrd (gP t - 1) w) (gP t - 1) (if w < gP t - 1 then 0 else 1) (fun _ _ => -1) ((gP t - 1) / 2) 74 j
theorem cgu_all : ((List.range 9).all fun t => decide (t < 2) || (List.range (wT t)).all fun w => (List.range t).all fun j => (gcondb t w j && decide (cgu t w j = gother t w j)) || (!gcondb t w j && (decide (cgu t w j = -1) || decide (nI t ≤ cgu t w j)))) = true := by decide +kernel
theorem cgu_y {t w j : Nat} (h2 : 2 ≤ t) (ht : t ≤ 8) (hw : w < wT t) (hj : j < t) (h : gcondb t w j = true) : cgu t w j = gother t w j ∧ ¬ cgu t w j = -1 ∧ ¬ nI t ≤ cgu t w j := by
  have h0 := List.all_eq_true.mp cgu_all t (List.mem_range.mpr (by omega))
  rw [decide_eq_false (by omega), Bool.false_or] at h0
  have h1 := List.all_eq_true.mp (List.all_eq_true.mp h0 w (List.mem_range.mpr hw)) j (List.mem_range.mpr hj)
  rw [h, Bool.true_and, Bool.not_true, Bool.false_and, Bool.or_false, decide_eq_true_eq] at h1
  obtain ⟨a, k1, k2, k3⟩ := gcond_ok ht hw hj h
  refine ⟨h1, ?_, ?_⟩
  · rw [h1, k3]; exact nI_nm1 (by omega)
  · rw [h1, k3]; exact nI_ge k1 (by omega)
theorem cgu_n {t w j : Nat} (h2 : 2 ≤ t) (ht : t ≤ 8) (hw : w < wT t) (hj : j < t) (h : ¬ gcondb t w j = true) : cgu t w j = -1 ∨ nI t ≤ cgu t w j := by
  have h0 := List.all_eq_true.mp cgu_all t (List.mem_range.mpr (by omega))
  rw [decide_eq_false (by omega), Bool.false_or] at h0
  have h1 := List.all_eq_true.mp (List.all_eq_true.mp h0 w (List.mem_range.mpr hw)) j (List.mem_range.mpr hj)
  rw [Bool.not_eq_true] at h
  rw [h, Bool.false_and, Bool.false_or, Bool.not_false, Bool.true_and, Bool.or_eq_true, decide_eq_true_eq, decide_eq_true_eq] at h1
  exact h1
/-- the class's rows and the reference's: the same below c -/
def rFx (X Y : MM) (c : Nat) : Prop := ∀ m, m < c → X 70 m = jof Y m 0 ∧ X 71 m = jof Y m 1 ∧ X 72 m = jof Y m 2
theorem jaw_rel {t w : Nat} {X Y : MM} (h2 : 2 ≤ t) (ht : t ≤ 8) (hw : w < wT t) (hg : ∀ j, j < t → X 74 j = cgu t w j) (h9 : X 69 1 = nI (gbase t w)) (hr : rFx X Y (gbase t w)) : ∀ j, j ≤ t → jaw w t X j 69 1 = nI (gbase t w + gin t w j) ∧ rFx (jaw w t X j) (gdj Y t w j) (gbase t w + gin t w j)
  | 0, _ => ⟨h9, hr⟩
  | j + 1, hj => by
    obtain ⟨i1, i2⟩ := jaw_rel h2 ht hw hg h9 hr j (by omega)
    have hG : jaw w t X j 74 j = cgu t w j := (jaw_n (by omega) j).trans (hg j (by omega))
    rw [jaw, gdj, gin, hG]
    by_cases hc : gcondb t w j = true
    · obtain ⟨c1, c2, c3⟩ := cgu_y h2 ht hw (by omega) hc
      have hb := gin_le (t := t) (w := w) (j := j + 1) ht hw (by omega)
      rw [gin, if_pos hc] at hb
      rw [if_neg c2, if_neg c3, if_pos hc, if_pos hc, i1, jput_nI (by omega) (by decide), jput_nI (by omega) (by decide), jput_nI (by omega) (by decide)]
      refine ⟨by rw [jm_s, nI_1]; rfl, fun m hm => ?_⟩
      by_cases e : m = gbase t w + gin t w j
      · subst e
        refine ⟨?_, ?_, ?_⟩
        · rw [jm_n (by omega), jm_n (by omega), jm_n (by omega), jm_s, gadd_0]
        · rw [jm_n (by omega), jm_n (by omega), jm_s, gadd_1, c1]
        · rw [jm_n (by omega), jm_s, gadd_2]
      · rw [jm_n (by omega), jm_n (by omega), jm_n (by omega), jm_n (by omega), jm_n (by omega), jm_n (by omega), jm_n (by omega), jm_n (by omega), jm_n (by omega), jm_n (by omega), jm_n (by omega), jm_n (by omega), gadd_of (by omega) e, gadd_of (by omega) e, gadd_of (by omega) e]
        exact i2 m (by omega)
    · rw [if_neg hc, if_neg hc]
      rcases cgu_n h2 ht hw (by omega) hc with k | k
      · rw [if_pos k]; exact ⟨i1, i2⟩
      · rw [if_pos k]
        split <;> exact ⟨i1, i2⟩
theorem jly_rel {t : Nat} {X Y : MM} (h2 : 2 ≤ t) (ht : t ≤ 8) : ∀ w, w ≤ wT t → jly t (gP t - 1) X w 69 1 = nI (gbase t w) ∧ rFx (jly t (gP t - 1) X w) (gdw Y t w) (gbase t w)
  | 0, _ => ⟨by rw [jly, jm_s]; rfl, fun m hm => absurd hm (Nat.not_lt_zero m)⟩
  | w + 1, hw => by
    obtain ⟨i1, i2⟩ := jly_rel (X := X) (Y := Y) h2 ht w (by omega)
    rw [jly, gdw]
    refine jaw_rel h2 ht (by omega) (fun j hj => ?_) ?_ (fun m hm => ?_) t (Nat.le_refl _)
    · rw [m_put (by omega)]
      refine jpl_c ?_ _
      show (if 74 = 74 ∧ j < 8 then _ else _) = _
      rw [if_pos ⟨rfl, by omega⟩]
    · rw [m_put (by omega), jpl_n (by omega), jfill_n (by omega)]; exact i1
    · rw [m_put (by omega), m_put (by omega), m_put (by omega), jpl_n (by omega), jpl_n (by omega), jpl_n (by omega), jfill_n (by omega), jfill_n (by omega), jfill_n (by omega)]
      exact i2 m hm
/-- the bye of a week -/
def bye (t w : Nat) : Int32 := if gP t - 1 = t then nI (jrd (gP t - 1) w) else -1
theorem jly_bye {t : Nat} {X : MM} (ht : t ≤ 8) : ∀ w, w ≤ wT t → ∀ i, i < w → jly t (gP t - 1) X w 73 i = bye t i
  | 0, _, i, h => absurd h (Nat.not_lt_zero i)
  | w + 1, hw, i, h => by
    have h14 := wT_le ht
    rw [jly, jaw_n (by omega), jput_nI (by omega) (by decide)]
    by_cases e : i = w
    · subst e; rw [jm_s]; rfl
    · rw [jm_n (by omega), jpl_n (by omega), jfill_n (by omega)]
      exact jly_bye ht w (by omega) i (by omega)
/-- the class's fixtures are those of t teams -/
def rFix (t : Nat) (A : MM) : Prop := A 69 0 = nI (wT t) ∧ A 69 1 = nI (nT t) ∧ (∀ m, m < nT t → A 70 m = TB t m 0 ∧ A 71 m = TB t m 1 ∧ A 72 m = TB t m 3) ∧ ∀ w, w < wT t → A 73 w = bye t w
theorem TB_23 {t m : Nat} (ht : t ≤ 8) (hm : m < nT t) : TB t m 2 = TB t m 3 := by
  obtain ⟨h, a, w, -, -, -, -, -, -, h2, h3, -⟩ := TB_ok ht hm
  rw [h2, h3]
theorem jly_fix {t : Nat} {X : MM} (h2 : 2 ≤ t) (ht : t ≤ 8) : rFix t (jly t (gP t - 1) X (wT t)) := by
  obtain ⟨i1, i2⟩ := jly_rel (X := X) (Y := fun _ _ => 0) h2 ht (wT t) (Nat.le_refl _)
  refine ⟨jly_w _, i1, fun m hm => ?_, fun w hw => jly_bye ht _ (Nat.le_refl _) w hw⟩
  obtain ⟨k1, k2, k3⟩ := i2 m hm
  exact ⟨k1, k2, k3.trans (TB_23 ht hm)⟩
theorem gP_q {t q : Nat} (hl : (t % 2 = 0 ∧ q + 1 = t) ∨ (t % 2 = 1 ∧ q = t)) : q = gP t - 1 := by unfold gP; omega
end

section
/-! ===== class and reference: what holds between them (A: the class's cells, B: the reference's) ===== -/
def lgC (A : MM) (a : Nat) : Nat → Nat → Int32 := fun i => A (a + i)
def rwR (B : MM) (r f : Nat) : Nat → Int32 := fun k => B r (f + k)
def zz (t : Nat) (dr : Bool) : Nat := if dr = true then wT t else 0
def nn (t : Nat) (dr : Bool) : Nat := if dr = true then nT t else 0
abbrev r04 (r : Int32) : Prop := r = 0 ∨ r = 1 ∨ r = 2 ∨ r = 3 ∨ r = 4
def mtR (t : Nat) (C : Nat → Nat → Int32) (R : Nat → Int32) (m : Nat) : Prop :=
  R (18 + 8 * m + 0) = TB t m 0 ∧ R (18 + 8 * m + 1) = TB t m 1 ∧ R (18 + 8 * m + 3) = TB t m 3 ∧ C 3 m = R (18 + 8 * m + 2) ∧
  (∃ w0 w1 : Nat, TB t m 3 = nI w0 ∧ R (18 + 8 * m + 2) = nI w1 ∧ w0 ≤ w1 ∧ w1 < wT t ∧ R (18 + 8 * m + 5) = if w0 = w1 then 0 else 1) ∧
  ((R (18 + 8 * m + 4) = 1 ∧ ∃ g h : Nat, g ≤ 20 ∧ h ≤ 20 ∧ C 4 m = nI g ∧ R (18 + 8 * m + 6) = nI g ∧ C 5 m = nI h ∧ R (18 + 8 * m + 7) = nI h) ∨ (R (18 + 8 * m + 4) = 0 ∧ C 4 m = -1 ∧ C 5 m = -1))
def rL (t : Nat) (dr : Bool) (C : Nat → Nat → Int32) (R : Nat → Int32) : Prop :=
  t ≤ 8 ∧ C 0 0 = nI t ∧ R 0 = nI t ∧ (∀ i, i < 8 → C 1 i = R (10 + i)) ∧ (dr = true → 2 ≤ t) ∧ C 0 2 = (if dr = true then 1 else 0) ∧ R 1 = nI (zz t dr) ∧ R 9 = nI (nn t dr) ∧
  (∃ w : Nat, (dr = false → w = 0) ∧ C 0 3 = nI w ∧ R 2 = nI w ∧ (dr = true → w < wT t)) ∧ (∃ q : Nat, q ≤ 5 ∧ C 0 4 = nI q ∧ R 3 = nI q) ∧ (∃ q : Nat, q ≤ 3 ∧ C 0 5 = nI q ∧ R 4 = nI q) ∧
  (∃ c : Nat, c ≤ 3 ∧ C 0 6 = nI c ∧ R 5 = nI c ∧ ∀ i, i < c → C 2 i = R (6 + i) ∧ r04 (C 2 i)) ∧ ∀ m, m < nn t dr → mtR t C R m
theorem nn_le {t : Nat} {dr : Bool} (ht : t ≤ 8) : nn t dr ≤ 56 := by
  unfold nn
  split
  · exact nT_le ht
  · omega
theorem zz_le {t : Nat} {dr : Bool} (ht : t ≤ 8) : zz t dr ≤ 14 := by
  unfold zz
  split
  · exact wT_le ht
  · omega
theorem rL_c {t : Nat} {dr : Bool} {C C2 : Nat → Nat → Int32} {R R2 : Nat → Int32} (h : rL t dr C R) (h0 : ∀ k, k = 0 ∨ k = 2 ∨ k = 3 ∨ k = 4 ∨ k = 5 ∨ k = 6 → C2 0 k = C 0 k) (h1 : ∀ i, i < 8 → C2 1 i = C 1 i) (h2 : ∀ i, i < 3 → C2 2 i = C 2 i) (h3 : ∀ i, i = 3 ∨ i = 4 ∨ i = 5 → ∀ m, m < 56 → C2 i m = C i m) (hR : ∀ k, k < 466 → R2 k = R k) : rL t dr C2 R2 := by
  obtain ⟨a1, a2, a3, a4, a5, a6, a7, a8, ⟨w, b1, b2, b3, b4⟩, ⟨q, c1, c2, c3⟩, ⟨q2, d1, d2, d3⟩, ⟨c, e1, e2, e3, e4⟩, f⟩ := h
  have hn := nn_le (dr := dr) a1
  refine ⟨a1, by rw [h0 0 (by omega)]; exact a2, by rw [hR 0 (by omega)]; exact a3, fun i hi => by rw [h1 i hi, hR (10 + i) (by omega)]; exact a4 i hi, a5, by rw [h0 2 (by omega)]; exact a6, by rw [hR 1 (by omega)]; exact a7, by rw [hR 9 (by omega)]; exact a8,
    ⟨w, b1, by rw [h0 3 (by omega)]; exact b2, by rw [hR 2 (by omega)]; exact b3, b4⟩, ⟨q, c1, by rw [h0 4 (by omega)]; exact c2, by rw [hR 3 (by omega)]; exact c3⟩, ⟨q2, d1, by rw [h0 5 (by omega)]; exact d2, by rw [hR 4 (by omega)]; exact d3⟩,
    ⟨c, e1, by rw [h0 6 (by omega)]; exact e2, by rw [hR 5 (by omega)]; exact e3, fun i hi => by rw [h2 i (by omega), hR (6 + i) (by omega)]; exact e4 i hi⟩, fun m hm => ?_⟩
  have hm := f m hm
  unfold mtR at hm ⊢
  rw [h3 3 (by omega) m (by omega), h3 4 (by omega) m (by omega), h3 5 (by omega) m (by omega), hR _ (show 18 + 8 * m + 0 < 466 by omega), hR _ (show 18 + 8 * m + 1 < 466 by omega), hR _ (show 18 + 8 * m + 2 < 466 by omega), hR _ (show 18 + 8 * m + 3 < 466 by omega), hR _ (show 18 + 8 * m + 4 < 466 by omega), hR _ (show 18 + 8 * m + 5 < 466 by omega), hR _ (show 18 + 8 * m + 6 < 466 by omega), hR _ (show 18 + 8 * m + 7 < 466 by omega)]
  exact hm
/-- the same league in other cells -/
theorem rL_cells {t : Nat} {dr : Bool} {A A2 : MM} {a : Nat} {R R2 : Nat → Int32} (h : rL t dr (lgC A a) R) (hA : ∀ i k, a ≤ i → i ≤ a + 5 → A2 i k = A i k) (hR : ∀ k, k < 466 → R2 k = R k) : rL t dr (lgC A2 a) R2 :=
  rL_c h (fun k _ => hA (a + 0) k (by omega) (by omega)) (fun i _ => hA (a + 1) i (by omega) (by omega)) (fun i _ => hA (a + 2) i (by omega) (by omega)) (fun i hi m _ => hA (a + i) m (by omega) (by omega)) hR
theorem jlg_at {M : MM} {a g : Nat} {k : Nat} : (∀ k, k = 0 ∨ k = 2 ∨ k = 3 ∨ k = 4 ∨ k = 5 ∨ k = 6 → jlg M a g g k = M a k) ∧ (k < 8 → jlg M a g (g + 1) k = M (a + 1) k) ∧ (k < 3 → jlg M a g (g + 2) k = M (a + 2) k) ∧ (k < 56 → jlg M a g (g + 3) k = M (a + 3) k ∧ jlg M a g (g + 4) k = M (a + 4) k ∧ jlg M a g (g + 5) k = M (a + 5) k) := by
  refine ⟨fun k h => ?_, fun h => ?_, fun h => ?_, fun h => ⟨?_, ?_, ?_⟩⟩
  · unfold jlg; rw [if_pos ⟨rfl, by omega⟩]
  · unfold jlg; rw [if_neg (by omega), if_pos ⟨rfl, h⟩]
  · unfold jlg; rw [if_neg (by omega), if_neg (by omega), if_pos ⟨rfl, h⟩]
  · unfold jlg; rw [if_neg (by omega), if_neg (by omega), if_neg (by omega), if_pos ⟨rfl, h⟩]
  · unfold jlg; rw [if_neg (by omega), if_neg (by omega), if_neg (by omega), if_neg (by omega), if_pos ⟨rfl, h⟩]
  · unfold jlg; rw [if_neg (by omega), if_neg (by omega), if_neg (by omega), if_neg (by omega), if_neg (by omega), if_pos ⟨rfl, h⟩]
/-- a league copied from a to g -/
theorem rL_copy {t : Nat} {dr : Bool} {A A2 : MM} {a g : Nat} {R R2 : Nat → Int32} (h : rL t dr (lgC A a) R) (hA : ∀ i k, g ≤ i → i ≤ g + 5 → A2 i k = jlg A a g i k) (hR : ∀ k, k < 466 → R2 k = R k) : rL t dr (lgC A2 g) R2 := by
  refine rL_c h (fun k hk => ?_) (fun i hi => ?_) (fun i hi => ?_) (fun i hi m hm => ?_) hR
  · exact (hA g k (by omega) (by omega)).trans ((jlg_at (k := 0)).1 k hk)
  · exact (hA (g + 1) i (by omega) (by omega)).trans (jlg_at.2.1 hi)
  · exact (hA (g + 2) i (by omega) (by omega)).trans (jlg_at.2.2.1 hi)
  · have := (jlg_at (M := A) (a := a) (g := g) (k := m)).2.2.2 hm
    rcases hi with rfl | rfl | rfl
    · exact (hA (g + 3) m (by omega) (by omega)).trans this.1
    · exact (hA (g + 4) m (by omega) (by omega)).trans this.2.1
    · exact (hA (g + 5) m (by omega) (by omega)).trans this.2.2
/-! history -/
def rH (τ : Nat → Nat × Bool) (k j : Nat) (A B : MM) : Prop := ∀ i, i < k → rL (τ i).1 (τ i).2 (lgC A (15 + 6 * ((j + 9 - k + i) % 9))) (rwR B 97 (466 * i))
def rCh (τ : Nat → Nat × Bool) (k : Nat) : Prop := ∀ i, i < k → (τ i).2 = true → τ (i + 1) = τ i
def rSv (A B : MM) : Prop := (A 0 2 = 0 ∧ B 94 5 = 0) ∨ (A 0 2 = 1 ∧ B 94 5 = 1 ∧ ∃ t dr, rL t dr (lgC A 7) (B 98))
def rTx (A B : MM) : Prop := ∃ n : Nat, n ≤ 60 ∧ A 86 0 = nI n ∧ B 94 9 = nI n ∧ ∀ i, i < n → A 87 i = B 100 i ∧ ∃ q : Nat, q < 65536 ∧ B 100 i = nI q
def rRs (A B : MM) : Prop := A 0 9 = B 94 14 ∧ A 0 10 = B 94 15 ∧ A 0 11 = B 94 17 ∧ A 0 8 = B 94 13 ∧ A 0 12 = 0 ∧ ∃ q : Nat, q ≤ 36 ∧ B 94 7 = nI q
def Rel (A B : MM) : Prop := ∃ (τ : Nat → Nat × Bool) (k j : Nat), j < 9 ∧ k ≤ 8 ∧ A 13 1 = nI j ∧ A 13 2 = nI k ∧ B 94 3 = nI k ∧ rL (τ k).1 (τ k).2 (lgC A 1) (B 95) ∧ rH τ k j A B ∧ rCh τ k ∧ ((τ k).2 = true → rFix (τ k).1 A) ∧ rSv A B ∧ rTx A B ∧ rRs A B
theorem rFix_c {t : Nat} {A A2 : MM} (h : rFix t A) (hA : ∀ i k, 69 ≤ i → i ≤ 73 → A2 i k = A i k) : rFix t A2 := by
  obtain ⟨h1, h2, h3, h4⟩ := h
  exact ⟨(hA 69 0 (by omega) (by omega)).trans h1, (hA 69 1 (by omega) (by omega)).trans h2, fun m hm => by rw [hA 70 m (by omega) (by omega), hA 71 m (by omega) (by omega), hA 72 m (by omega) (by omega)]; exact h3 m hm, fun w hw => (hA 73 w (by omega) (by omega)).trans (h4 w hw)⟩
/-- other cells don't matter -/
theorem Rel_c {A A2 B B2 : MM} (h : Rel A B) (hA : ∀ i k, i < 75 ∨ i = 86 ∨ i = 87 → ¬ (i = 86 ∧ (k = 1 ∨ k = 2)) → A2 i k = A i k) (hB : ∀ i k, (i = 94 ∧ k ≠ 10 ∧ k ≠ 11 ∧ k ≠ 16 ∧ k ≠ 18 ∧ k ≠ 19) ∨ i = 95 ∨ i = 97 ∨ i = 98 ∨ i = 100 → B2 i k = B i k) : Rel A2 B2 := by
  obtain ⟨τ, k, j, a1, a2, a3, a4, a5, a6, a7, a8, a9, a10, ⟨n, t1, t2, t3, t4⟩, ⟨r1, r2, r3, r4, r5, q, r6, r7⟩⟩ := h
  refine ⟨τ, k, j, a1, a2, (hA 13 1 (by omega) (by omega)).trans a3, (hA 13 2 (by omega) (by omega)).trans a4, (hB 94 3 (by omega)).trans a5, rL_cells a6 (fun i k _ _ => hA i k (by omega) (by omega)) (fun k _ => hB 95 k (by omega)), fun i hi => rL_cells (a7 i hi) (fun i2 k _ _ => hA i2 k (by omega) (by omega)) (fun k _ => hB 97 _ (by omega)), a8, fun hd => rFix_c (a9 hd) (fun i k _ _ => hA i k (by omega) (by omega)), ?_, ⟨n, t1, (hA 86 0 (by omega) (by omega)).trans t2, (hB 94 9 (by omega)).trans t3, fun i hi => by rw [hA 87 i (by omega) (by omega), hB 100 i (by omega)]; exact t4 i hi⟩, ⟨?_, ?_, ?_, ?_, ?_, q, r6, (hB 94 7 (by omega)).trans r7⟩⟩
  · rcases a10 with ⟨s1, s2⟩ | ⟨s1, s2, t, dr, s3⟩
    · exact Or.inl ⟨(hA 0 2 (by omega) (by omega)).trans s1, (hB 94 5 (by omega)).trans s2⟩
    · exact Or.inr ⟨(hA 0 2 (by omega) (by omega)).trans s1, (hB 94 5 (by omega)).trans s2, t, dr, rL_cells s3 (fun i k _ _ => hA i k (by omega) (by omega)) (fun k _ => hB 98 k (by omega))⟩
  · rw [hA 0 9 (by omega) (by omega), hB 94 14 (by omega)]; exact r1
  · rw [hA 0 10 (by omega) (by omega), hB 94 15 (by omega)]; exact r2
  · rw [hA 0 11 (by omega) (by omega), hB 94 17 (by omega)]; exact r3
  · rw [hA 0 8 (by omega) (by omega), hB 94 13 (by omega)]; exact r4
  · rw [hA 0 12 (by omega) (by omega)]; exact r5
theorem jkeep_slot {M : MM} {j k i c : Nat} (hj : j < 9) (h : 15 + 6 * j ≤ i) (h2 : i ≤ 15 + 6 * j + 5) : jkeep M j k i c = jlg M 1 (15 + 6 * j) i c := by
  unfold jkeep jkh
  rw [jm_n (by omega), jm_n (by omega)]
theorem jkeep_old {M : MM} {j k i c : Nat} (h : i < 15 + 6 * j ∨ 15 + 6 * j + 5 < i) (h2 : i ≠ 13) : jkeep M j k i c = M i c := by
  unfold jkeep jkh
  rw [jm_n (by omega), jm_n (by omega), jlg_n (by omega)]
theorem jkeep_13 {M : MM} {j k : Nat} : jkeep M j k 13 1 = nI ((j + 1) % 9) ∧ jkeep M j k 13 2 = nI (min (k + 1) 8) := by
  unfold jkeep jkh
  exact ⟨by rw [jm_n (by omega), jm_s], by rw [jm_s]⟩
theorem jkpg_97 {N : MM} {k i c : Nat} (hk : k ≤ 8) (hi : i < min (k + 1) 8) (hc : c < 466) : jkpg N k 97 (466 * i + c) = if i = min k 7 then N 96 c else if k = 8 then N 97 (466 * (i + 1) + c) else N 97 (466 * i + c) := by
  unfold jkpg
  by_cases h8 : k < 8
  · rw [if_pos h8, if_neg (show ¬ k = 8 by omega)]
    unfold jkp
    rw [jm_n (by omega)]
    by_cases e : i = min k 7
    · rw [if_pos e, show i = k by omega, jcp_at hc, Nat.zero_add]
    · rw [if_neg e, jcp_out (by omega)]
  · rw [if_neg h8, if_pos (show k = 8 by omega)]
    unfold jkp8 jkp
    rw [jm_n (by omega)]
    by_cases e : i = min k 7
    · rw [if_pos e, show i = 7 by omega, jcp_at hc, Nat.zero_add, jm_n (by omega), jcp_n (by omega)]
    · rw [if_neg e, jcp_out (by omega), jm_n (by omega), show 466 * i + c = 0 + (466 * i + c) by omega, jcp_at (by omega)]
      congr 1
      omega
theorem jkpg_n {N : MM} {k i c : Nat} (hi : i ≠ 97) (h : ¬ (i = 94 ∧ c = 3)) : jkpg N k i c = N i c := by
  unfold jkpg
  split
  · unfold jkp; rw [jm_n h, jcp_n hi]
  · unfold jkp8 jkp; rw [jm_n h, jcp_n hi, jm_n h, jcp_n hi]
theorem jkpg_3 {N : MM} {k : Nat} (hk : k ≤ 8) : jkpg N k 94 3 = nI (min (k + 1) 8) := by
  unfold jkpg
  split
  · unfold jkp; rw [jm_s]; congr 1; omega
  · unfold jkp8 jkp; rw [jm_s]; congr 1; omega
/-- a change that is kept: the history behind it -/
theorem push_H {τ : Nat → Nat × Bool} {k j : Nat} {A A2 B B2 N : MM} {x : Nat × Bool} (hj : j < 9) (hk : k ≤ 8) (h0 : rL (τ k).1 (τ k).2 (lgC A 1) (B 95)) (h : rH τ k j A B) (hc : rCh τ k) (hx : (τ k).2 = true → x = τ k)
    (hA : ∀ i c, 15 ≤ i → i < 69 → A2 i c = jkeep A j k i c) (hB : ∀ c, B2 97 c = jkpg N k 97 c) (h96 : ∀ c, c < 466 → N 96 c = B 95 c) (h97 : ∀ c, N 97 c = B 97 c) :
    ∃ τ2 : Nat → Nat × Bool, rH τ2 (min (k + 1) 8) ((j + 1) % 9) A2 B2 ∧ rCh τ2 (min (k + 1) 8) ∧ τ2 (min (k + 1) 8) = x := by
  -- the entry that is pushed
  have hnew : ∀ R : Nat → Int32, (∀ c, c < 466 → R c = B 95 c) → rL (τ k).1 (τ k).2 (lgC A2 (15 + 6 * j)) R := fun R hR =>
    rL_copy h0 (fun i c h1 h2 => (hA i c (by omega) (by omega)).trans (jkeep_slot hj h1 h2)) hR
  have hold : ∀ (i s : Nat) (R : Nat → Int32), i < k → s = (j + 9 - k + i) % 9 → s ≠ j → (∀ c, c < 466 → R c = B 97 (466 * i + c)) → rL (τ i).1 (τ i).2 (lgC A2 (15 + 6 * s)) R := fun i s R hi hs hsj hR => by
    have h1 := h i hi
    rw [← hs] at h1
    have hs9 : s < 9 := by omega
    exact rL_cells h1 (fun i2 c q1 q2 => (hA i2 c (by omega) (by omega)).trans (jkeep_old (by omega) (by omega))) hR
  by_cases h8 : k < 8
  · have em : min (k + 1) 8 = k + 1 := by omega
    refine ⟨fun i => if i ≤ k then τ i else x, ?_, ?_, ?_⟩
    · rw [em]
      intro i hi
      have hR : ∀ c, c < 466 → rwR B2 97 (466 * i) c = if i = k then B 95 c else B 97 (466 * i + c) := fun c hc1 => by
        show B2 97 (466 * i + c) = _
        rw [hB, jkpg_97 hk (by omega) hc1]
        by_cases e : i = k
        · rw [if_pos (by omega), if_pos e]; exact h96 c hc1
        · rw [if_neg (by omega), if_neg (by omega), if_neg e]; exact h97 _
      show rL (if i ≤ k then τ i else x).1 (if i ≤ k then τ i else x).2 _ _
      rw [if_pos (by omega)]
      by_cases e : i = k
      · subst e
        rw [show ((j + 1) % 9 + 9 - (i + 1) + i) % 9 = j by omega]
        exact hnew _ (fun c hc1 => by rw [hR c hc1, if_pos rfl])
      · exact hold i _ _ (by omega) (by omega) (by omega) (fun c hc1 => by rw [hR c hc1, if_neg e])
    · rw [em]
      intro i hi hd
      have hd2 : (τ i).2 = true := by
        have : (if i ≤ k then τ i else x).2 = true := hd
        rwa [if_pos (by omega)] at this
      show (if i + 1 ≤ k then τ (i + 1) else x) = (if i ≤ k then τ i else x)
      rw [if_pos (show i ≤ k by omega)]
      by_cases e : i = k
      · subst e; rw [if_neg (by omega)]; exact hx hd2
      · rw [if_pos (by omega)]; exact hc i (by omega) hd2
    · rw [em]; exact if_neg (by omega)
  · have hk8 : k = 8 := by omega
    subst hk8
    refine ⟨fun i => if i < 8 then τ (i + 1) else x, ?_, ?_, ?_⟩
    · show rH _ 8 _ _ _
      intro i hi
      have hR : ∀ c, c < 466 → rwR B2 97 (466 * i) c = if i = 7 then B 95 c else B 97 (466 * (i + 1) + c) := fun c hc1 => by
        show B2 97 (466 * i + c) = _
        rw [hB, jkpg_97 hk (by omega) hc1]
        by_cases e : i = 7
        · rw [if_pos (by omega), if_pos e]; exact h96 c hc1
        · rw [if_neg (by omega), if_pos rfl, if_neg e]; exact h97 _
      show rL (if i < 8 then τ (i + 1) else x).1 (if i < 8 then τ (i + 1) else x).2 _ _
      rw [if_pos hi]
      by_cases e : i = 7
      · subst e
        rw [show ((j + 1) % 9 + 9 - 8 + 7) % 9 = j by omega]
        exact hnew _ (fun c hc1 => by rw [hR c hc1, if_pos rfl])
      · exact hold (i + 1) _ _ (by omega) (by omega) (by omega) (fun c hc1 => by rw [hR c hc1, if_neg e])
    · show rCh _ 8
      intro i hi hd
      have hd : (τ (i + 1)).2 = true := by
        have : (if i < 8 then τ (i + 1) else x).2 = true := hd
        rwa [if_pos hi] at this
      show (if i + 1 < 8 then τ (i + 1 + 1) else x) = (if i < 8 then τ (i + 1) else x)
      rw [if_pos hi]
      by_cases e : i = 7
      · subst e; rw [if_neg (by omega)]; exact hx hd
      · rw [if_pos (by omega)]; exact hc (i + 1) (by omega) hd
    · show (if 8 < 8 then _ else x) = x
      exact if_neg (by omega)
end

section
/-! ===== changes of the league that stands: class and reference alike ===== -/
theorem rL_up {t : Nat} {dr : Bool} {C C2 : Nat → Nat → Int32} {R R2 : Nat → Int32} (h : rL t dr C R) (h0 : ∀ k, k = 0 ∨ k = 2 ∨ k = 3 ∨ k = 4 ∨ k = 5 ∨ k = 6 → C2 0 k = C 0 k) (h1 : ∀ i, i < 8 → C2 1 i = C 1 i) (h2 : ∀ i, i < 3 → C2 2 i = C 2 i) (hR : ∀ k, k < 18 → R2 k = R k) (hm : ∀ m, m < nn t dr → mtR t C R m → mtR t C2 R2 m) : rL t dr C2 R2 := by
  obtain ⟨a1, a2, a3, a4, a5, a6, a7, a8, ⟨w, b1, b2, b3, b4⟩, ⟨q, c1, c2, c3⟩, ⟨q2, d1, d2, d3⟩, ⟨c, e1, e2, e3, e4⟩, f⟩ := h
  exact ⟨a1, by rw [h0 0 (by omega)]; exact a2, by rw [hR 0 (by omega)]; exact a3, fun i hi => by rw [h1 i hi, hR (10 + i) (by omega)]; exact a4 i hi, a5, by rw [h0 2 (by omega)]; exact a6, by rw [hR 1 (by omega)]; exact a7, by rw [hR 9 (by omega)]; exact a8,
    ⟨w, b1, by rw [h0 3 (by omega)]; exact b2, by rw [hR 2 (by omega)]; exact b3, b4⟩, ⟨q, c1, by rw [h0 4 (by omega)]; exact c2, by rw [hR 3 (by omega)]; exact c3⟩, ⟨q2, d1, by rw [h0 5 (by omega)]; exact d2, by rw [hR 4 (by omega)]; exact d3⟩,
    ⟨c, e1, by rw [h0 6 (by omega)]; exact e2, by rw [hR 5 (by omega)]; exact e3, fun i hi => by rw [h2 i (by omega), hR (6 + i) (by omega)]; exact e4 i hi⟩, fun m hmn => hm m hmn (f m hmn)⟩
theorem jof_R {N : MM} {m w : Nat} : N 95 (18 + 8 * m + w) = jof N m w := rfl
/-- a meeting as cells 4, 5, 6 of the class and the reference's now have it -/
theorem mt_of {t : Nat} {X N : MM} {m : Nat} : mtR t (lgC X 1) (N 95) m ↔ (jof N m 0 = TB t m 0 ∧ jof N m 1 = TB t m 1 ∧ jof N m 3 = TB t m 3 ∧ X 4 m = jof N m 2 ∧
  (∃ w0 w1 : Nat, TB t m 3 = nI w0 ∧ jof N m 2 = nI w1 ∧ w0 ≤ w1 ∧ w1 < wT t ∧ jof N m 5 = if w0 = w1 then 0 else 1) ∧
  ((jof N m 4 = 1 ∧ ∃ g h : Nat, g ≤ 20 ∧ h ≤ 20 ∧ X 5 m = nI g ∧ jof N m 6 = nI g ∧ X 6 m = nI h ∧ jof N m 7 = nI h) ∨ (jof N m 4 = 0 ∧ X 5 m = -1 ∧ X 6 m = -1))) := Iff.rfl
theorem jsetg_nI {X : MM} {q : Nat} {u v : Int32} (hq : q < 56) : jsetg X 1 (nI q) u v = jm (jm X 5 q u) 6 q v := by
  unfold jsetg
  rw [jput_nI hq (by decide), jput_nI hq (by decide)]
theorem now_res {t q gu gv : Nat} {X N : MM} (h : rL t true (lgC X 1) (N 95)) (hq : q < nT t) (hu : gu ≤ 20) (hv : gv ≤ 20) : rL t true (lgC (jsetg X 1 (nI q) (nI gu) (nI gv)) 1) (gResS N q (nI gu) (nI gv) 95) := by
  have hn := nT_le h.1
  rw [jsetg_nI (by omega)]
  refine rL_up h (fun k _ => ?_) (fun i _ => ?_) (fun i _ => ?_) (fun k hk => ?_) (fun m hm hh => ?_)
  · show jm (jm X 5 q _) 6 q _ 1 k = X 1 k; rw [jm_n (by omega), jm_n (by omega)]
  · show jm (jm X 5 q _) 6 q _ 2 i = X 2 i; rw [jm_n (by omega), jm_n (by omega)]
  · show jm (jm X 5 q _) 6 q _ 3 i = X 3 i; rw [jm_n (by omega), jm_n (by omega)]
  · unfold gResS; rw [jsets_n (by omega), jsets_n (by omega), jsets_n (by omega)]
  · rw [mt_of] at hh ⊢
    obtain ⟨h1, h2, h3, h4, h5, h6⟩ := hh
    unfold gResS
    rw [jsets_of (w2 := 0) (by omega) (by omega) (by omega), jsets_of (w2 := 0) (by omega) (by omega) (by omega), jsets_of (w2 := 0) (by omega) (by omega) (by omega), jsets_of (w2 := 1) (by omega) (by omega) (by omega), jsets_of (w2 := 1) (by omega) (by omega) (by omega), jsets_of (w2 := 1) (by omega) (by omega) (by omega),
      jsets_of (w2 := 2) (by omega) (by omega) (by omega), jsets_of (w2 := 2) (by omega) (by omega) (by omega), jsets_of (w2 := 2) (by omega) (by omega) (by omega), jsets_of (w2 := 3) (by omega) (by omega) (by omega), jsets_of (w2 := 3) (by omega) (by omega) (by omega), jsets_of (w2 := 3) (by omega) (by omega) (by omega),
      jsets_of (w2 := 5) (by omega) (by omega) (by omega), jsets_of (w2 := 5) (by omega) (by omega) (by omega), jsets_of (w2 := 5) (by omega) (by omega) (by omega)]
    refine ⟨h1, h2, h3, by rw [jm_n (by omega), jm_n (by omega)]; exact h4, h5, ?_⟩
    by_cases e : m = q
    · subst e
      exact Or.inl ⟨by rw [jsets_of (by omega) (by omega) (by omega), jsets_of (by omega) (by omega) (by omega), jsets_s], gu, gv, hu, hv, by rw [jm_n (by omega), jm_s], by rw [jsets_of (by omega) (by omega) (by omega), jsets_s], by rw [jm_s], by rw [jsets_s]⟩
    · rw [jsets_of (w2 := 4) (by omega) (by omega) (by omega), jsets_of (w2 := 4) (by omega) (by omega) (by omega), jsets_of (w2 := 4) (by omega) (by omega) (by omega), jsets_of (w2 := 6) (by omega) (by omega) (by omega), jsets_of (w2 := 6) (by omega) (by omega) (by omega), jsets_of (w2 := 6) (by omega) (by omega) (by omega), jsets_of (w2 := 7) (by omega) (by omega) (by omega), jsets_of (w2 := 7) (by omega) (by omega) (by omega), jsets_of (w2 := 7) (by omega) (by omega) (by omega),
        jm_n (show ¬ (5 = 6 ∧ m = q) by omega), jm_n (show ¬ (5 = 5 ∧ m = q) by omega), jm_n (show ¬ (6 = 6 ∧ m = q) by omega), jm_n (show ¬ (6 = 5 ∧ m = q) by omega)]
      exact h6
theorem now_back {t q : Nat} {X N : MM} (h : rL t true (lgC X 1) (N 95)) (hq : q < nT t) : rL t true (lgC (jsetg X 1 (nI q) (-1) (-1)) 1) (gBackS N q 95) := by
  have hn := nT_le h.1
  rw [jsetg_nI (by omega)]
  refine rL_up h (fun k _ => ?_) (fun i _ => ?_) (fun i _ => ?_) (fun k hk => ?_) (fun m hm hh => ?_)
  · show jm (jm X 5 q _) 6 q _ 1 k = X 1 k; rw [jm_n (by omega), jm_n (by omega)]
  · show jm (jm X 5 q _) 6 q _ 2 i = X 2 i; rw [jm_n (by omega), jm_n (by omega)]
  · show jm (jm X 5 q _) 6 q _ 3 i = X 3 i; rw [jm_n (by omega), jm_n (by omega)]
  · unfold gBackS; rw [jsets_n (by omega), jsets_n (by omega), jsets_n (by omega)]
  · rw [mt_of] at hh ⊢
    obtain ⟨h1, h2, h3, h4, h5, h6⟩ := hh
    unfold gBackS
    rw [jsets_of (w2 := 0) (by omega) (by omega) (by omega), jsets_of (w2 := 0) (by omega) (by omega) (by omega), jsets_of (w2 := 0) (by omega) (by omega) (by omega), jsets_of (w2 := 1) (by omega) (by omega) (by omega), jsets_of (w2 := 1) (by omega) (by omega) (by omega), jsets_of (w2 := 1) (by omega) (by omega) (by omega),
      jsets_of (w2 := 2) (by omega) (by omega) (by omega), jsets_of (w2 := 2) (by omega) (by omega) (by omega), jsets_of (w2 := 2) (by omega) (by omega) (by omega), jsets_of (w2 := 3) (by omega) (by omega) (by omega), jsets_of (w2 := 3) (by omega) (by omega) (by omega), jsets_of (w2 := 3) (by omega) (by omega) (by omega),
      jsets_of (w2 := 5) (by omega) (by omega) (by omega), jsets_of (w2 := 5) (by omega) (by omega) (by omega), jsets_of (w2 := 5) (by omega) (by omega) (by omega)]
    refine ⟨h1, h2, h3, by rw [jm_n (by omega), jm_n (by omega)]; exact h4, h5, ?_⟩
    by_cases e : m = q
    · subst e
      exact Or.inr ⟨by rw [jsets_of (by omega) (by omega) (by omega), jsets_of (by omega) (by omega) (by omega), jsets_s], by rw [jm_n (by omega), jm_s], by rw [jm_s]⟩
    · rw [jsets_of (w2 := 4) (by omega) (by omega) (by omega), jsets_of (w2 := 4) (by omega) (by omega) (by omega), jsets_of (w2 := 4) (by omega) (by omega) (by omega), jsets_of (w2 := 6) (by omega) (by omega) (by omega), jsets_of (w2 := 6) (by omega) (by omega) (by omega), jsets_of (w2 := 6) (by omega) (by omega) (by omega), jsets_of (w2 := 7) (by omega) (by omega) (by omega), jsets_of (w2 := 7) (by omega) (by omega) (by omega), jsets_of (w2 := 7) (by omega) (by omega) (by omega),
        jm_n (show ¬ (5 = 6 ∧ m = q) by omega), jm_n (show ¬ (5 = 5 ∧ m = q) by omega), jm_n (show ¬ (6 = 6 ∧ m = q) by omega), jm_n (show ¬ (6 = 5 ∧ m = q) by omega)]
      exact h6
theorem now_put {t q w e : Nat} {X N : MM} (h : rL t true (lgC X 1) (N 95)) (hq : q < nT t) (hw : X 1 3 = nI w) (hw2 : N 95 2 = nI w) (he : 1 ≤ e) (hz : w + e < wT t) (h2 : jof N q 2 = nI w) : rL t true (lgC (jput 56 X 4 (nI q) (X 1 3 + nI e)) 1) (gPutS N q (nI e) 95) := by
  have hn := nT_le h.1
  have hw14 := wT_le h.1
  rw [jput_nI (by omega) (by decide), hw]
  unfold gPutS
  rw [hw2, nI_add]
  refine rL_up h (fun k _ => ?_) (fun i _ => ?_) (fun i _ => ?_) (fun k hk => ?_) (fun m hm hh => ?_)
  · show jm X 4 q _ 1 k = X 1 k; rw [jm_n (by omega)]
  · show jm X 4 q _ 2 i = X 2 i; rw [jm_n (by omega)]
  · show jm X 4 q _ 3 i = X 3 i; rw [jm_n (by omega)]
  · rw [jsets_n (by omega), jsets_n (by omega)]
  · rw [mt_of] at hh ⊢
    obtain ⟨h1, h3, h4, h5, ⟨w0, w1, k1, k2, k3, k4, k5⟩, h6⟩ := hh
    rw [jsets_of (w2 := 0) (by omega) (by omega) (by omega), jsets_of (w2 := 0) (by omega) (by omega) (by omega), jsets_of (w2 := 1) (by omega) (by omega) (by omega), jsets_of (w2 := 1) (by omega) (by omega) (by omega), jsets_of (w2 := 3) (by omega) (by omega) (by omega), jsets_of (w2 := 3) (by omega) (by omega) (by omega), jsets_of (w2 := 4) (by omega) (by omega) (by omega), jsets_of (w2 := 4) (by omega) (by omega) (by omega),
      jsets_of (w2 := 6) (by omega) (by omega) (by omega), jsets_of (w2 := 6) (by omega) (by omega) (by omega), jsets_of (w2 := 7) (by omega) (by omega) (by omega), jsets_of (w2 := 7) (by omega) (by omega) (by omega), jm_n (show ¬ (5 = 4 ∧ m = q) by omega), jm_n (show ¬ (6 = 4 ∧ m = q) by omega)]
    refine ⟨h1, h3, h4, ?_, ?_, h6⟩
    · by_cases e1 : m = q
      · subst e1; rw [jm_s, jsets_of (by omega) (by omega) (by omega), jsets_s]
      · rw [jm_n (by omega), jsets_of (by omega) (by omega) (by omega), jsets_of (by omega) (by omega) (by omega)]; exact h5
    · by_cases e1 : m = q
      · subst e1
        have e2 : w1 = w := (nI_eq (by omega) (by omega)).mp (k2.symm.trans h2)
        subst e2
        exact ⟨w0, w1 + e, k1, by rw [jsets_of (by omega) (by omega) (by omega), jsets_s], by omega, hz, by rw [jsets_s, if_neg (by omega)]⟩
      · rw [jsets_of (w2 := 2) (by omega) (by omega) (by omega), jsets_of (w2 := 2) (by omega) (by omega) (by omega), jsets_of (w2 := 5) (by omega) (by omega) (by omega), jsets_of (w2 := 5) (by omega) (by omega) (by omega)]
        exact ⟨w0, w1, k1, k2, k3, k4, k5⟩
theorem now_next {t w : Nat} {X N : MM} (h : rL t true (lgC X 1) (N 95)) (hw : X 1 3 = nI w) (hw2 : N 95 2 = nI w) (hz : w + 1 < wT t) : rL t true (lgC (jm X 1 3 (X 1 3 + 1)) 1) (jm N 95 2 (N 95 2 + 1) 95) := by
  obtain ⟨a1, a2, a3, a4, a5, a6, a7, a8, -, ⟨q, c1, c2, c3⟩, ⟨q2, d1, d2, d3⟩, ⟨c, e1, e2, e3, e4⟩, f⟩ := h
  have hA : ∀ i k, ¬ (i = 1 ∧ k = 3) → jm X 1 3 (X 1 3 + 1) i k = X i k := fun i k hh => jm_n hh
  have hB : ∀ k, k ≠ 2 → jm N 95 2 (N 95 2 + 1) 95 k = N 95 k := fun k hh => jm_n (by omega)
  refine ⟨a1, (hA 1 0 (by omega)).trans a2, (hB 0 (by omega)).trans a3, fun i hi => ?_, a5, (hA 1 2 (by omega)).trans a6, (hB 1 (by omega)).trans a7, (hB 9 (by omega)).trans a8, ⟨w + 1, ?_, ?_, ?_, fun _ => hz⟩, ⟨q, c1, (hA 1 4 (by omega)).trans c2, (hB 3 (by omega)).trans c3⟩, ⟨q2, d1, (hA 1 5 (by omega)).trans d2, (hB 4 (by omega)).trans d3⟩, ⟨c, e1, (hA 1 6 (by omega)).trans e2, (hB 5 (by omega)).trans e3, fun i hi => ?_⟩, fun m hm => ?_⟩
  · rw [hB (10 + i) (by omega)]; exact (hA 2 i (by omega)).trans (a4 i hi)
  · intro z; cases z
  · show jm X 1 3 (X 1 3 + 1) 1 3 = _; rw [jm_s, hw, nI_1]
  · show jm N 95 2 (N 95 2 + 1) 95 2 = _; rw [jm_s, hw2, nI_1]
  · show jm X 1 3 (X 1 3 + 1) 3 i = _ ∧ r04 (jm X 1 3 (X 1 3 + 1) 3 i)
    rw [hA 3 i (by omega), hB (6 + i) (by omega)]; exact e4 i hi
  · have hm := f m hm
    unfold mtR at hm ⊢
    rw [hB _ (by omega), hB _ (by omega), hB _ (by omega), hB _ (by omega), hB _ (by omega), hB _ (by omega), hB _ (by omega), hB _ (by omega)]
    show _ ∧ _ ∧ _ ∧ jm X 1 3 _ 4 m = _ ∧ _ ∧ ((_ ∧ ∃ g h : Nat, g ≤ 20 ∧ h ≤ 20 ∧ jm X 1 3 _ 5 m = nI g ∧ _ ∧ jm X 1 3 _ 6 m = nI h ∧ _) ∨ (_ ∧ jm X 1 3 _ 5 m = -1 ∧ jm X 1 3 _ 6 m = -1))
    rw [hA 4 m (by omega), hA 5 m (by omega), hA 6 m (by omega)]
    exact hm
/-- rules: what one more does on both sides -/
def rRu (X N : MM) (c : Nat) : Prop := X 1 6 = nI c ∧ N 95 5 = nI c ∧ ∀ i, i < c → X 3 i = N 95 (6 + i) ∧ r04 (X 3 i)
theorem r04_of {t : Int32} (h : ¬ t < -1 ∧ ¬ 4 < t) (h2 : ¬ t = -1) : r04 t ∧ ¬ t < 0 := by
  have h0 : ¬ t < 0 := by
    intro q
    rw [Int32.lt_iff_toInt_lt] at q
    have h1 := h.1
    rw [Int32.lt_iff_toInt_lt, show (-1 : Int32).toInt = -1 from rfl] at h1
    rw [Int32.toInt_zero] at q
    exact h2 (Int32.toInt_inj.mp (by rw [show (-1 : Int32).toInt = -1 from rfl]; omega))
  obtain ⟨j, hj, rfl⟩ := nI_of2 (M := 4) (n := 4) rfl h0 (Int32.not_lt.mp h.2)
  refine ⟨?_, h0⟩
  rcases (show j = 0 ∨ j = 1 ∨ j = 2 ∨ j = 3 ∨ j = 4 by omega) with rfl | rfl | rfl | rfl | rfl
  · exact Or.inl rfl
  · exact Or.inr (Or.inl rfl)
  · exact Or.inr (Or.inr (Or.inl rfl))
  · exact Or.inr (Or.inr (Or.inr (Or.inl rfl)))
  · exact Or.inr (Or.inr (Or.inr (Or.inr rfl)))
theorem rRu_s {X N : MM} {c i : Nat} {t : Int32} (h : rRu X N c) (hc : c ≤ i) (hi : i ≤ 2) (ht : ¬ t < -1 ∧ ¬ 4 < t) : ∃ c2, c2 ≤ i + 1 ∧ rRu (jaddr X 1 t) (jxr N t) c2 := by
  obtain ⟨h1, h2, h3⟩ := h
  by_cases e : t = -1
  · refine ⟨c, by omega, ?_⟩
    rw [jaddr, if_pos e, jxr, if_pos (by rw [e]; decide)]
    exact ⟨h1, h2, h3⟩
  · obtain ⟨hr, h0⟩ := r04_of ht e
    refine ⟨c + 1, by omega, ?_⟩
    rw [jaddr, if_neg e, jxr, if_neg h0, h1, h2, jput_nI (by omega) (by decide), nI_clamp (by omega)]
    refine ⟨by rw [jm_s, nI_1], by rw [jm_n (by omega), jm_s, nI_1], fun k hk => ?_⟩
    rw [jm_n (by omega)]
    by_cases ek : k = c
    · subst ek; rw [jm_s, jm_s]; exact ⟨rfl, hr⟩
    · rw [jm_n (by omega), jm_n (by omega), jm_n (by omega)]; exact h3 k (by omega)
theorem now_rules {T : Nat} {dr : Bool} {X N : MM} {t u v : Int32} (h : rL T dr (lgC X 1) (N 95)) (hr : rRules t u v = none) : rL T dr (lgC (jsetr X 1 t u v) 1) (jxR N t u v 95) ∧ jsetr X 1 t u v 1 6 = jxR N t u v 95 5 := by
  have hok : (¬ t < -1 ∧ ¬ 4 < t) ∧ (¬ u < -1 ∧ ¬ 4 < u) ∧ (¬ v < -1 ∧ ¬ 4 < v) := by
    unfold rRules at hr
    by_cases q : ¬ ((¬ t < -1 ∧ ¬ 4 < t) ∧ (¬ u < -1 ∧ ¬ 4 < u) ∧ (¬ v < -1 ∧ ¬ 4 < v))
    · rw [if_pos q] at hr; cases hr
    · exact Decidable.not_not.mp q
  have s0 : rRu (jm X 1 6 0) (jm N 95 5 0) 0 := ⟨jm_s, jm_s, fun i hi => absurd hi (Nat.not_lt_zero i)⟩
  obtain ⟨c1, k1, s1⟩ := rRu_s s0 (Nat.le_refl 0) (by omega) hok.1
  obtain ⟨c2, k2, s2⟩ := rRu_s s1 k1 (by omega) hok.2.1
  obtain ⟨c3, k3, s3⟩ := rRu_s s2 k2 (by omega) hok.2.2
  obtain ⟨e2, e3, e4⟩ := s3
  obtain ⟨a1, a2, a3, a4, a5, a6, a7, a8, ⟨w, b1, b2, b3, b4⟩, ⟨q, f1, f2, f3⟩, ⟨q2, d1, d2, d3⟩, -, f⟩ := h
  have hA1 : ∀ (Z : MM) (t : Int32) (i k : Nat), ¬ (i = 1 ∧ k = 6) → i ≠ 3 → jaddr Z 1 t i k = Z i k := fun Z t i k p1 p2 => by
    unfold jaddr
    split
    · rfl
    · rw [jm_n p1, m_put (by omega)]
  have hA : ∀ i k, ¬ (i = 1 ∧ k = 6) → i ≠ 3 → jsetr X 1 t u v i k = X i k := fun i k p1 p2 => by
    unfold jsetr
    rw [hA1 _ _ _ _ p1 p2, hA1 _ _ _ _ p1 p2, hA1 _ _ _ _ p1 p2, jm_n p1]
  have hB : ∀ k, k < 5 ∨ 8 < k → jxR N t u v 95 k = N 95 k := fun k p => jxR_n (by omega)
  refine ⟨⟨a1, (hA 1 0 (by omega) (by omega)).trans a2, (hB 0 (by omega)).trans a3, fun i hi => ?_, a5, (hA 1 2 (by omega) (by omega)).trans a6, (hB 1 (by omega)).trans a7, (hB 9 (by omega)).trans a8, ⟨w, b1, (hA 1 3 (by omega) (by omega)).trans b2, (hB 2 (by omega)).trans b3, b4⟩, ⟨q, f1, (hA 1 4 (by omega) (by omega)).trans f2, (hB 3 (by omega)).trans f3⟩, ⟨q2, d1, (hA 1 5 (by omega) (by omega)).trans d2, (hB 4 (by omega)).trans d3⟩, ⟨c3, by omega, e2, e3, e4⟩, fun m hm => ?_⟩, ?_⟩
  · rw [hB (10 + i) (by omega)]; exact (hA 2 i (by omega) (by omega)).trans (a4 i hi)
  · have hm := f m hm
    unfold mtR at hm ⊢
    rw [hB _ (by omega), hB _ (by omega), hB _ (by omega), hB _ (by omega), hB _ (by omega), hB _ (by omega), hB _ (by omega), hB _ (by omega)]
    show _ ∧ _ ∧ _ ∧ jsetr X 1 t u v 4 m = _ ∧ _ ∧ ((_ ∧ ∃ g h : Nat, g ≤ 20 ∧ h ≤ 20 ∧ jsetr X 1 t u v 5 m = nI g ∧ _ ∧ jsetr X 1 t u v 6 m = nI h ∧ _) ∨ (_ ∧ jsetr X 1 t u v 5 m = -1 ∧ jsetr X 1 t u v 6 m = -1))
    rw [hA 4 m (by omega) (by omega), hA 5 m (by omega) (by omega), hA 6 m (by omega) (by omega)]
    exact hm
  · exact e2.trans e3.symm
end

section
/-! ===== refusals and counts: class and reference alike ===== -/
theorem in_q1 {x : Int32} {n : Nat} (hn : n < 2 ^ 31) : (¬ x < 0 ∧ ¬ nI n ≤ x) ↔ ∃ q, q < n ∧ x = nI q := by
  constructor
  · intro h
    rcases pk_ix x hn with k | k | ⟨j, hj, rfl⟩
    · exact absurd k h.1
    · exact absurd k h.2
    · exact ⟨j, hj, rfl⟩
  · rintro ⟨q, h1, rfl⟩
    exact ⟨nI_pos (by omega), nI_ge h1 hn⟩
theorem in_q2 {x : Int32} {n : Nat} (hn : n ≤ 56) : (¬ x < 0 ∧ ¬ nI n - 1 < x) ↔ ∃ q, q < n ∧ x = nI q := by
  constructor
  · exact nI_q hn
  · rintro ⟨q, h1, rfl⟩
    refine ⟨nI_pos (by omega), ?_⟩
    obtain ⟨k, rfl⟩ : ∃ k, n = k + 1 := ⟨n - 1, by omega⟩
    rw [nI_pred]
    exact nI_nlt (by omega) (by omega)
section SAME
variable {t : Nat} {dr : Bool} {A B : MM}
theorem jmc_r (h : rL t dr (lgC A 1) (B 95)) (hf : dr = true → rFix t A) : jmc A = nI (nn t dr) := by
  obtain ⟨a1, a2, a3, a4, a5, a6, -⟩ := h
  have a6 : A 1 2 = (if dr = true then 1 else 0) := a6
  cases dr with
  | false => unfold jmc; rw [show A 1 2 = 0 from a6, if_pos rfl]; rfl
  | true => unfold jmc; rw [a6, if_neg (by decide)]; exact (hf rfl).2.1
theorem jwc_r (h : rL t dr (lgC A 1) (B 95)) (hf : dr = true → rFix t A) : jwc A = nI (zz t dr) := by
  obtain ⟨a1, a2, a3, a4, a5, a6, -⟩ := h
  have a6 : A 1 2 = (if dr = true then 1 else 0) := a6
  cases dr with
  | false => unfold jwc; rw [show A 1 2 = 0 from a6, if_pos rfl]; rfl
  | true => unfold jwc; rw [a6, if_neg (by decide)]; exact (hf rfl).1
theorem wT_pos (h : 2 ≤ t) : 2 ≤ wT t := by unfold wT gP; omega
theorem zz_0 (ht : t ≤ 8) (h2 : dr = true → 2 ≤ t) : (nI (zz t dr) = 0 ↔ dr = false) ∧ (¬ nI (zz t dr) ≤ 0 ↔ dr = true) := by
  have h14 := zz_le (dr := dr) ht
  cases dr with
  | false => exact ⟨⟨fun _ => rfl, fun _ => rfl⟩, ⟨fun h => absurd (show nI 0 ≤ 0 by decide) h, fun h => by cases h⟩⟩
  | true =>
    have := wT_pos (h2 rfl)
    have e : zz t true = wT t := rfl
    rw [e] at h14 ⊢
    exact ⟨⟨fun h => absurd h (nI_ne0 (by omega) (by omega)), fun h => by cases h⟩, ⟨fun _ => rfl, fun _ => nI_nle (by omega) (by omega)⟩⟩
theorem mt_q (h : rL t true (lgC A 1) (B 95)) {q : Nat} (hq : q < nT t) : ((¬ A 5 q = -1) ↔ jof B q 4 = 1) ∧ A 4 q = jof B q 2 := by
  have hm := mt_of.mp (h.2.2.2.2.2.2.2.2.2.2.2.2 q hq)
  obtain ⟨h1, h2, h3, h4, h5, h6⟩ := hm
  refine ⟨?_, h4⟩
  rcases h6 with ⟨k, g, h, g1, g2, g3, -⟩ | ⟨k, g3, -⟩
  · exact ⟨fun _ => k, fun _ => by rw [g3]; exact nI_nm1 (by omega)⟩
  · exact ⟨fun z => absurd g3 z, fun z => by rw [k] at z; exact absurd z (by decide)⟩
theorem wk_r (h : rL t dr (lgC A 1) (B 95)) : A 1 3 = B 95 2 := by
  obtain ⟨w, -, h1, h2, -⟩ := h.2.2.2.2.2.2.2.2.1
  exact (show A 1 3 = nI w from h1).trans h2.symm
theorem noM_r (h : rL t dr (lgC A 1) (B 95)) (hf : dr = true → rFix t A) {x : Int32} : (dr = false ∧ rNoM A x = some (5, 0) ∧ ∀ q, gNo B x q = some (5, 0)) ∨ (dr = true ∧ (¬ ∃ q, q < nT t ∧ x = nI q) ∧ rNoM A x = some (3, x) ∧ ∀ q, gNo B x q = some (3, x)) ∨ (dr = true ∧ ∃ q, q < nT t ∧ x = nI q ∧ rNoM A x = none ∧ ∀ z, gNo B x z = z) := by
  have hj := jmc_r h hf
  have hz := zz_0 h.1 h.2.2.2.2.1
  have b1 : B 95 1 = nI (zz t dr) := h.2.2.2.2.2.2.1
  have b9 : B 95 9 = nI (nn t dr) := h.2.2.2.2.2.2.2.1
  have a6 : A 1 2 = (if dr = true then 1 else 0) := h.2.2.2.2.2.1
  have hn := nn_le (dr := dr) h.1
  cases dr with
  | false =>
    refine Or.inl ⟨rfl, ?_, fun q => ?_⟩
    · unfold rNoM; rw [show A 1 2 = 0 from a6, if_pos rfl]
    · unfold gNo; rw [b1, if_pos (hz.1.mpr rfl)]
  | true =>
    have e : nn t true = nT t := rfl
    rw [e] at hj b9 hn
    have hA : ¬ A 1 2 = 0 := by rw [a6]; decide
    have hB : ¬ B 95 1 = 0 := by rw [b1]; exact fun q => by cases hz.1.mp q
    by_cases hx : ∃ q, q < nT t ∧ x = nI q
    · obtain ⟨q, h1, h2⟩ := hx
      refine Or.inr (Or.inr ⟨rfl, q, h1, h2, ?_, fun z => ?_⟩)
      · unfold rNoM; rw [if_neg hA, hj, if_neg (fun z => z ((in_q1 (by omega)).mpr ⟨q, h1, h2⟩))]
      · unfold gNo; rw [if_neg hB, b9, if_neg (fun z => z ((in_q2 hn).mpr ⟨q, h1, h2⟩))]
    · refine Or.inr (Or.inl ⟨rfl, hx, ?_, fun z => ?_⟩)
      · unfold rNoM; rw [if_neg hA, hj, if_pos (fun z => hx ((in_q1 (by omega)).mp z))]
      · unfold gNo; rw [if_neg hB, b9, if_pos (fun z => hx ((in_q2 hn).mp z))]
theorem res_r (h : rL t dr (lgC A 1) (B 95)) (hf : dr = true → rFix t A) {x u v : Int32} : rRes A x u v = gNo B x (gRes B x.toNatClampNeg u v) := by
  unfold rRes
  rcases noM_r h hf (x := x) with ⟨h1, h2, h3⟩ | ⟨h1, -, h2, h3⟩ | ⟨h1, q, hq, hx, h2, h3⟩
  · rw [h2, h3]
  · rw [h2, h3]
  · subst h1
    subst hx
    have hn := nT_le h.1
    obtain ⟨m1, m2⟩ := mt_q h hq
    rw [h2, h3, nI_clamp (by omega)]
    show (if _ then _ else if ¬ jat 56 (A 5) (nI q) = -1 then _ else rOth A (nI q)) = _
    unfold gRes rOth
    rw [jat_nI (by omega) (by decide), jat_nI (by omega) (by decide), m2, wk_r h]
    by_cases c1 : ¬ ((¬ u < 0 ∧ ¬ 20 < u) ∧ (¬ v < 0 ∧ ¬ 20 < v))
    · rw [if_pos c1, if_pos c1]
    · rw [if_neg c1, if_neg c1]
      by_cases c2 : ¬ A 5 q = -1
      · rw [if_pos c2, if_pos (m1.mp c2)]
      · rw [if_neg c2, if_neg (fun z => c2 (m1.mpr z))]
        by_cases c3 : jof B q 2 = B 95 2
        · rw [if_pos c3, if_neg (fun z => z c3)]
        · rw [if_neg c3, if_pos c3]
theorem kind_r (h : rL t true (lgC A 1) (B 95)) (hf : rFix t A) {q : Nat} (hq : q < nT t) : jkind A (nI q) = jhow B q := by
  have hn := nT_le h.1
  have hw := wT_le h.1
  obtain ⟨m1, m2⟩ := mt_q h hq
  have hm := mt_of.mp (h.2.2.2.2.2.2.2.2.2.2.2.2 q hq)
  obtain ⟨h1, h2, h3, h4, ⟨w0, w1, k1, k2, k3, k4, k5⟩, h6⟩ := hm
  unfold jkind jhow
  rw [jat_nI (by omega) (by decide), jat_nI (by omega) (by decide), jat_nI (by omega) (by decide)]
  by_cases c2 : ¬ A 5 q = -1
  · rw [if_pos c2, if_pos (m1.mp c2)]
  · rw [if_neg c2, if_neg (fun z => c2 (m1.mpr z)), k5, m2, k2, (hf.2.2.1 q hq).2.2, k1]
    by_cases e : w0 = w1
    · rw [if_pos (by rw [e]), if_pos e]; rfl
    · rw [if_neg (fun z => e ((nI_eq (by omega) (by omega)).mp z).symm), if_neg e]; rfl
theorem back_r (h : rL t dr (lgC A 1) (B 95)) (hf : dr = true → rFix t A) {x : Int32} : rBack A x = gNo B x (gBack B x.toNatClampNeg) := by
  unfold rBack
  rcases noM_r h hf (x := x) with ⟨h1, h2, h3⟩ | ⟨h1, -, h2, h3⟩ | ⟨h1, q, hq, hx, h2, h3⟩
  · rw [h2, h3]
  · rw [h2, h3]
  · subst h1
    subst hx
    have hn := nT_le h.1
    obtain ⟨m1, m2⟩ := mt_q h hq
    rw [h2, h3, nI_clamp (by omega)]
    show (if jat 56 (A 5) (nI q) = -1 then some (9, jkind A (nI q)) else rOth A (nI q)) = _
    unfold gBack rOth
    rw [jat_nI (by omega) (by decide), jat_nI (by omega) (by decide), m2, wk_r h, kind_r h (hf rfl) hq]
    by_cases c2 : A 5 q = -1
    · rw [if_pos c2, if_pos (show ¬ jof B q 4 = 1 from fun z => m1.mpr z c2)]
    · rw [if_neg c2, if_neg (show ¬ ¬ jof B q 4 = 1 from fun z => z (m1.mp c2))]
      by_cases c3 : jof B q 2 = B 95 2
      · rw [if_pos c3, if_neg (fun z => z c3)]
      · rw [if_neg c3, if_pos c3]
theorem isW_r (h : rL t dr (lgC A 1) (B 95)) (hf : dr = true → rFix t A) {x : Int32} : (¬ x < 0 ∧ ¬ jwc A ≤ x) ↔ (¬ x < 0 ∧ ¬ B 95 1 - 1 < x) := by
  have h14 := zz_le (dr := dr) h.1
  rw [jwc_r h hf, show B 95 1 = nI (zz t dr) from h.2.2.2.2.2.2.1, in_q1 (by omega), in_q2 (by omega)]
theorem le_9 {u : Int32} : (u < 1 ∨ ¬ u ≤ 9) ↔ ¬ (¬ u < 1 ∧ ¬ 9 < u) := by
  rw [Int32.not_le]
  constructor
  · rintro (h | h) ⟨h1, h2⟩
    · exact h1 h
    · exact h2 h
  · intro h
    by_cases c : u < 1
    · exact Or.inl c
    · exact Or.inr (Decidable.byContradiction fun z => h ⟨c, z⟩)
theorem put_r (h : rL t dr (lgC A 1) (B 95)) (hf : dr = true → rFix t A) {x u : Int32} : rPut A x u = gNo B x (gPut B x.toNatClampNeg u) := by
  unfold rPut
  rcases noM_r h hf (x := x) with ⟨h1, h2, h3⟩ | ⟨h1, -, h2, h3⟩ | ⟨h1, q, hq, hx, h2, h3⟩
  · rw [h2, h3]
  · rw [h2, h3]
  · subst h1
    subst hx
    have hn := nT_le h.1
    obtain ⟨m1, m2⟩ := mt_q h hq
    rw [h2, h3, nI_clamp (by omega)]
    show (if u < 1 ∨ ¬ u ≤ 9 then some (1, 0) else if ¬ jat 56 (A 5) (nI q) = -1 then some (8, 0) else match rOth A (nI q) with
    | some z => some z
    | none => if ¬ (¬ A 1 3 + u < 0 ∧ ¬ jwc A ≤ A 1 3 + u) then some (10, A 1 3 + u) else none) = _
    unfold gPut rOth
    rw [jat_nI (by omega) (by decide), jat_nI (by omega) (by decide), m2, wk_r h]
    have hw := isW_r h hf (x := B 95 2 + u)
    by_cases c1 : u < 1 ∨ ¬ u ≤ 9
    · rw [if_pos c1, if_pos (le_9.mp c1)]
    · rw [if_neg c1, if_neg (fun z => c1 (le_9.mpr z))]
      by_cases c2 : ¬ A 5 q = -1
      · rw [if_pos c2, if_pos (m1.mp c2)]
      · rw [if_neg c2, if_neg (fun z => c2 (m1.mpr z))]
        by_cases c3 : jof B q 2 = B 95 2
        · rw [if_pos c3, if_neg (show ¬ ¬ jof B q 2 = B 95 2 from fun z => z c3)]
          by_cases c4 : ¬ B 95 2 + u < 0 ∧ ¬ jwc A ≤ B 95 2 + u
          · rw [if_neg (show ¬ ¬ (¬ B 95 2 + u < 0 ∧ ¬ B 95 1 - 1 < B 95 2 + u) from fun z => z (hw.mp c4))]
            exact if_neg (show ¬ ¬ (¬ B 95 2 + u < 0 ∧ ¬ jwc A ≤ B 95 2 + u) from fun z => z c4)
          · rw [if_pos (show ¬ (¬ B 95 2 + u < 0 ∧ ¬ B 95 1 - 1 < B 95 2 + u) from fun z => c4 (hw.mpr z))]
            exact if_pos c4
        · rw [if_neg c3, if_pos c3]
theorem now_c (h : rL t dr (lgC A 1) (B 95)) {m : Nat} (hm : m < nn t dr) : fNow A m = gLeft B m := by
  unfold fNow gLeft
  cases dr with
  | false => exact absurd hm (Nat.not_lt_zero m)
  | true =>
    obtain ⟨m1, m2⟩ := mt_q h hm
    rw [m2, wk_r h]
    by_cases c : jof B m 2 = B 95 2 ∧ A 5 m = -1
    · rw [jb_t c, jb_t ⟨c.1, fun z => m1.mpr z c.2⟩]
    · rw [jb_f c, jb_f (fun z => c ⟨z.1, Decidable.byContradiction fun y => z.2 (m1.mp y)⟩)]
theorem left_r (h : rL t dr (lgC A 1) (B 95)) : jsum (fNow A) (nn t dr) = jsum (gLeft B) (nn t dr) := jsum_c fun m hm => now_c h hm
theorem next_r (h : rL t dr (lgC A 1) (B 95)) (hf : dr = true → rFix t A) : rNext A (nn t dr) = (if B 95 1 = 0 then some (5, 0) else gNext B (nn t dr)) := by
  have hz := zz_0 h.1 h.2.2.2.2.1
  have b1 : B 95 1 = nI (zz t dr) := h.2.2.2.2.2.2.1
  have a6 : A 1 2 = (if dr = true then 1 else 0) := h.2.2.2.2.2.1
  unfold rNext gNext
  cases dr with
  | false => rw [show A 1 2 = 0 from a6, if_pos rfl, b1, if_pos (hz.1.mpr rfl)]
  | true =>
    have h14 := wT_le h.1
    have h2 := wT_pos (h.2.2.2.2.1 rfl)
    obtain ⟨w, -, w1, w2, w3⟩ := h.2.2.2.2.2.2.2.2.1
    have w1 : A 1 3 = nI w := w1
    have w3 := w3 rfl
    have e : jfst (fNow A) (nn t true) = jfst (gLeft B) (nn t true) := jfst_c fun m hm => now_c h hm
    rw [if_neg (show ¬ A 1 2 = 0 by rw [a6]; decide), if_neg (show ¬ B 95 1 = 0 by rw [b1]; exact fun q => by cases hz.1.mp q), e, jwc_r h hf, b1, w1, w2, nI_1, show zz t true = wT t from rfl]
    have hnx : (¬ nI (w + 1) < 0 ∧ ¬ nI (wT t) ≤ nI (w + 1)) ↔ ¬ nI w = nI (wT t) - 1 := by
      obtain ⟨k, hk⟩ : ∃ k, wT t = k + 1 := ⟨wT t - 1, by omega⟩
      rw [hk, nI_pred, in_q1 (by omega), nI_eq (by omega) (by omega)]
      constructor
      · rintro ⟨q, q1, q2⟩
        have := (nI_eq (by omega) (by omega)).mp q2
        omega
      · intro hh
        exact ⟨w + 1, by omega, rfl⟩
    by_cases c1 : ¬ jfst (gLeft B) (nn t true) = -1
    · rw [if_pos c1, if_pos c1]
    · rw [if_neg c1, if_neg c1]
      by_cases c2 : nI w = nI (wT t) - 1
      · rw [if_pos c2]
        exact if_pos (fun z => hnx.mp z c2)
      · rw [if_neg c2]
        exact if_neg (fun z => z (hnx.mpr c2))
theorem home_r (h : rL t true (lgC A 1) (B 95)) {q : Nat} (hq : q < nT t) : ∃ i a : Nat, i < t ∧ a < t ∧ i ≠ a ∧ TB t q 0 = nI i ∧ TB t q 1 = nI a ∧ jof B q 0 = nI i ∧ jof B q 1 = nI a := by
  obtain ⟨i, a, w, h1, h2, h3, h4, h5, h6, -⟩ := TB_ok h.1 hq
  have hm := mt_of.mp (h.2.2.2.2.2.2.2.2.2.2.2.2 q hq)
  exact ⟨i, a, h1, h2, h3, h5, h6, hm.1.trans h5, hm.2.1.trans h6⟩
theorem hho_r (h : rL t dr (lgC A 1) (B 95)) : ∀ i, i < nn t dr → ∃ k, k < 8 ∧ jof B i 0 = nI k := fun i hi => by
  have ht := h.1
  cases dr with
  | false => exact absurd hi (Nat.not_lt_zero i)
  | true =>
    obtain ⟨k, a, h1, -, -, -, -, h2, -⟩ := home_r h hi
    exact ⟨k, by omega, h2⟩
theorem gr_r (h : rL t true (lgC A 1) (B 95)) (hf : rFix t A) {q : Nat} (hq : q < nT t) : jgr A (nI q) = gGr B q := by
  have hn := nT_le h.1
  have ht := h.1
  obtain ⟨k, a, h1, -, -, h2, -, h3, -⟩ := home_r h hq
  unfold jgr gGr
  rw [jat_nI (by omega) (by decide), (hf.2.2.1 q hq).1, h2, h3, jat_nI (by omega) (by decide), nI_clamp (by omega)]
  exact h.2.2.2.1 k (by omega)
theorem cl_r (h : rL t dr (lgC A 1) (B 95)) (hf : dr = true → rFix t A) {q : Nat} (hq : q < nn t dr) {w : Int32} : jsum (fCl A (nI q) w) (nn t dr) = jsum (gCl B q w) (nn t dr) := by
  refine jsum_c fun m hm => ?_
  have hn := nn_le (dr := dr) h.1
  unfold fCl gCl
  cases dr with
  | false => exact absurd hm (Nat.not_lt_zero m)
  | true =>
    rw [(mt_q h hm).2, gr_r h (hf rfl) hm, gr_r h (hf rfl) hq]
    by_cases c : ¬ m = q ∧ jof B m 2 = w ∧ gGr B m = gGr B q
    · rw [jb_t c, jb_t ⟨fun z => c.1 ((nI_eq (by omega) (by omega)).mp z), c.2⟩]
    · rw [jb_f c, jb_f (fun z => c ⟨fun y => z.1 (by rw [y]), z.2⟩)]
/-- how many are played -/
def fPl (A : MM) (m : Nat) : Int32 := if A 5 m = -1 then 0 else 1
theorem jt1_pl {M : MM} : ∀ n, jt1 M n 75 0 = jsum (fPl M) n
  | 0 => jclear_0
  | n + 1 => by
    rw [jt1, jsum, fPl]
    split
    · rw [jraise_n (by omega), jraise_n (by omega), jt1_pl n, Int32.add_zero]
    · rw [jpts_n (by omega)]
      unfold jap
      rw [jraise_n (by omega), jag_n (by omega), jag_n (by omega), jm_n (by omega), jm_n (by omega), jm_s, jt1_pl n]
theorem jcount_pl {M : MM} {n : Nat} : jcount M n 75 0 = jsum (fPl M) n := by
  unfold jcount
  rw [jt2_n (by omega), jt1_pl]
theorem pl_r (h : rL t dr (lgC A 1) (B 95)) : jsum (fPl A) (nn t dr) = jsum (fun m => jof B m 4) (nn t dr) := by
  refine jsum_c fun m hm => ?_
  cases dr with
  | false => exact absurd hm (Nat.not_lt_zero m)
  | true =>
    have hm1 := (mt_of.mp (h.2.2.2.2.2.2.2.2.2.2.2.2 m hm)).2.2.2.2.2
    unfold fPl
    rcases hm1 with ⟨k, g, i, g1, g2, g3, -⟩ | ⟨k, g3, -⟩
    · show _ = jof B m 4; rw [k, g3, if_neg (nI_nm1 (by omega))]
    · show _ = jof B m 4; rw [k, g3, if_pos rfl]
end SAME
end

section
/-! ===== a step of both sides: what holds before and after every call ===== -/
def RelP (τ : Nat → Nat × Bool) (k j : Nat) (A B : MM) : Prop := j < 9 ∧ k ≤ 8 ∧ A 13 1 = nI j ∧ A 13 2 = nI k ∧ B 94 3 = nI k ∧ rL (τ k).1 (τ k).2 (lgC A 1) (B 95) ∧ rH τ k j A B ∧ rCh τ k ∧ ((τ k).2 = true → rFix (τ k).1 A) ∧ rSv A B ∧ rTx A B ∧ rRs A B
theorem Rel_P {A B : MM} : Rel A B ↔ ∃ τ k j, RelP τ k j A B := Iff.rfl
/-- the class writes nothing from 92 on -/
def hiE (M N : MM) : Prop := ∀ i k, 92 ≤ i → N i k = M i k
/-- the reference writes its own cells alone -/
def loE (M N : MM) : Prop := ∀ i k, i < 94 ∨ 104 ≤ i → N i k = M i k
theorem hiE_0 {M : MM} : hiE M M := fun _ _ _ => rfl
theorem loE_0 {M : MM} : loE M M := fun _ _ _ => rfl
theorem Rel_hi {A B B2 : MM} (h : Rel A B) (hB : hiE B B2) : Rel A B2 := Rel_c h (fun _ _ _ _ => rfl) (fun i k q => hB i k (by omega))
theorem Rel_lo {A A2 B : MM} (h : Rel A B) (hA : loE A A2) : Rel A2 B := Rel_c h (fun i k q _ => hA i k (by omega)) (fun _ _ _ => rfl)
def SBp (b : SBt) (M : MM) : Prop := ∃ n c, sbI b M n ∧ n ≤ 202 ∧ M 92 3 = nI c ∧ c ≤ 100 ∧ c ≤ n
def Inv (b : SBt) (M : MM) : Prop := Rel M M ∧ SBp b M
theorem Inv.hb {b : SBt} {M : MM} (I : Inv b M) : 104 ≤ b.2.1 := by
  obtain ⟨-, n, c, h, -⟩ := I
  exact h.2.2.1
theorem SBp_c {b : SBt} {M N : MM} (h : SBp b M) (hN : ∀ i k, ¬ (i < 92 ∨ (93 < i ∧ i < 104)) → N i k = M i k) : SBp b N := by
  obtain ⟨n, c, h1, h2, h3, h4, h5⟩ := h
  exact ⟨n, c, sbI_c h1 hN, h2, by rw [hN 92 3 (by omega)]; exact h3, h4, h5⟩
/-- both sides have gone on -/
theorem Inv_go {b : SBt} {M N K : MM} (I : Inv b M) (h1 : hiE M N) (h2 : loE N K) (h3 : Rel N K) : Inv b K :=
  ⟨Rel_lo h3 h2, SBp_c I.2 fun i k q => (h2 i k (by omega)).trans (h1 i k (by omega))⟩
/-- an answer's kind -/
def vK (r : Option FieldType) (v : Value) : Prop := (r = some .float ∧ ∃ w, v = .float w) ∨ (r = some .double ∧ ∃ w, v = .double w) ∨ ((r = some .int ∨ r = some .boolean ∨ r = some .char) ∧ ∃ w : Int32, v = .int w)
theorem vK_i {w : Int32} : vK (some .int) (.int w) := Or.inr (Or.inr ⟨Or.inl rfl, w, rfl⟩)
theorem vK_b {w : Int32} : vK (some .boolean) (.int w) := Or.inr (Or.inr ⟨Or.inr (Or.inl rfl), w, rfl⟩)
theorem vK_c {w : Int32} : vK (some .char) (.int w) := Or.inr (Or.inr ⟨Or.inr (Or.inr rfl), w, rfl⟩)
theorem vK_f {w : UInt32} : vK (some .float) (.float w) := Or.inl ⟨rfl, w, rfl⟩
theorem vK_d {w : UInt64} : vK (some .double) (.double w) := Or.inr (Or.inl ⟨rfl, w, rfl⟩)
theorem vK_int {r : Option FieldType} {v : Value} (h : vK r v) (h1 : r ≠ some .float) (h2 : r ≠ some .double) : ∃ w : Int32, v = .int w := by
  rcases h with ⟨h, -⟩ | ⟨h, -⟩ | ⟨-, h⟩
  · exact absurd h h1
  · exact absurd h h2
  · exact h
theorem vK_fl {v : Value} (h : vK (some .float) v) : ∃ w, v = .float w := by
  rcases h with ⟨-, h⟩ | ⟨h, -⟩ | ⟨h, -⟩
  · exact h
  · cases h
  · rcases h with h | h | h <;> cases h
theorem vK_db {v : Value} (h : vK (some .double) v) : ∃ w, v = .double w := by
  rcases h with ⟨h, -⟩ | ⟨-, h⟩ | ⟨h, -⟩
  · cases h
  · exact h
  · rcases h with h | h | h <;> cases h
/-- a call of the law's: the helper over the class, then the reference -/
def Step (b : SBt) (Y : OUt) (M : MM) (yL : MethodName) (cL : ByteArray) (mL : Nat) (hh : List (Nat × Nat × Nat × Nat)) (asL : List Value) (y6 : MethodName) (c6 : ByteArray) (m6 : Nat) (r6 : Option FieldType) (as6 : List Value) (cmp : Int32 → Value → OUt → MM → Prop) : Prop :=
  ∃ mc ms, mc ≤ 40 ∧ ms ≤ 9000 ∧ ConH 20 mc ms yL cL mL (some .int) hh asL (HH b Y M) (fun o s => ∃ k b1 Y1 M1, o = .inl (some (.int k)) ∧ s = HH b1 Y1 M1 ∧ 104 ≤ b1.2.1 ∧
    Con 20 0 0 y6 c6 m6 r6 as6 (HH b1 Y1 M1) (fun o2 s2 => ∃ v M2, o2 = .inl (some v) ∧ s2 = HH b1 Y1 M2 ∧ Inv b1 M2 ∧ vK r6 v ∧ cmp k v Y1 M2))
theorem ConH.mono {d mc ms : Nat} {y : MethodName} {cc : ByteArray} {maxL : Nat} {ret : Option FieldType} {hh : List (Nat × Nat × Nat × Nat)} {as : List Value} {h : MH} {Q Q2 : MO → MH → Prop} (C : ConH d mc ms y cc maxL ret hh as h Q) (hQ : ∀ o k, Q o k → Q2 o k) : ConH d mc ms y cc maxL ret hh as h Q2 := by
  intro l D tyc ad sz hl hh0 ha p e hA hB hC s m args below hf happ hP hT
  obtain ⟨k, o, h1, h2, h3, h4⟩ := C l D tyc ad sz hl hh0 ha p e hA hB hC s m args below hf happ hP hT
  refine ⟨k, o, h1, h2, h3, ?_⟩
  rcases h4 with ⟨⟨v, k1, ad1, e1, e2, e3⟩, e4⟩ | ⟨q, e0, E, ce, Lc, ⟨k1, ad1, e2, e3⟩, e4⟩
  · exact Or.inl ⟨⟨v, k1, ad1, e1, hQ _ _ e2, e3⟩, e4⟩
  · exact Or.inr ⟨q, e0, E, ce, Lc, ⟨k1, ad1, hQ _ _ e2, e3⟩, e4⟩
/-- a step out of two contracts -/
theorem Step_of {b : SBt} {Y Y1 : OUt} {M M1 M2 : MM} {yL : MethodName} {cL : ByteArray} {mL : Nat} {hh : List (Nat × Nat × Nat × Nat)} {asL : List Value} {y6 : MethodName} {c6 : ByteArray} {m6 : Nat} {r6 : Option FieldType} {as6 : List Value} {cmp : Int32 → Value → OUt → MM → Prop} {mc ms : Nat} {k : Int32} {v : Value}
    (I : Inv b M) (H : CMH 20 mc ms yL cL mL (some .int) hh asL b Y M k Y1 M1) (C : CM 20 0 0 y6 c6 m6 r6 as6 b Y1 M1 (.inl (some v)) M2) (hmc : mc ≤ 40) (hms : ms ≤ 9000) (h1 : hiE M M1) (h2 : loE M1 M2) (h3 : Rel M1 M2) (hc : cmp k v Y1 M2) (hk : vK r6 v := by first | exact vK_i | exact vK_b | exact vK_c | exact vK_f | exact vK_d) : Step b Y M yL cL mL hh asL y6 c6 m6 r6 as6 cmp :=
  ⟨mc, ms, hmc, hms, ConH.mono H fun o s q => ⟨k, b, Y1, M1, q.1, q.2, I.hb, Con.mono C fun o2 s2 q2 => ⟨v, M2, q2.1, q2.2, Inv_go I h1 h2 h3, hk, hc⟩⟩⟩
/-! ===== relations kept ===== -/
theorem rSv_c {A A2 B B2 : MM} (h : rSv A B) (hA : ∀ i k, (i = 0 ∧ k = 2) ∨ (7 ≤ i ∧ i ≤ 12) → A2 i k = A i k) (hB : ∀ i k, (i = 94 ∧ k = 5) ∨ i = 98 → B2 i k = B i k) : rSv A2 B2 := by
  rcases h with ⟨s1, s2⟩ | ⟨s1, s2, t, dr, s3⟩
  · exact Or.inl ⟨(hA 0 2 (by omega)).trans s1, (hB 94 5 (by omega)).trans s2⟩
  · exact Or.inr ⟨(hA 0 2 (by omega)).trans s1, (hB 94 5 (by omega)).trans s2, t, dr, rL_cells s3 (fun i k _ _ => hA i k (by omega)) (fun k _ => hB 98 k (by omega))⟩
theorem rTx_c {A A2 B B2 : MM} (h : rTx A B) (hA : ∀ i k, (i = 86 ∧ k = 0) ∨ i = 87 → A2 i k = A i k) (hB : ∀ i k, (i = 94 ∧ k = 9) ∨ i = 100 → B2 i k = B i k) : rTx A2 B2 := by
  obtain ⟨n, t1, t2, t3, t4⟩ := h
  exact ⟨n, t1, (hA 86 0 (by omega)).trans t2, (hB 94 9 (by omega)).trans t3, fun i hi => by rw [hA 87 i (by omega), hB 100 i (by omega)]; exact t4 i hi⟩
theorem rRs_c {A A2 B B2 : MM} (h : rRs A B) (hA : ∀ k, k = 8 ∨ k = 9 ∨ k = 10 ∨ k = 11 ∨ k = 12 → A2 0 k = A 0 k) (hB : ∀ k, k = 7 ∨ k = 13 ∨ k = 14 ∨ k = 15 ∨ k = 17 → B2 94 k = B 94 k) : rRs A2 B2 := by
  obtain ⟨r1, r2, r3, r4, r5, q, r6, r7⟩ := h
  refine ⟨?_, ?_, ?_, ?_, ?_, q, r6, (hB 7 (by omega)).trans r7⟩
  · rw [hA 9 (by omega), hB 14 (by omega)]; exact r1
  · rw [hA 10 (by omega), hB 15 (by omega)]; exact r2
  · rw [hA 11 (by omega), hB 17 (by omega)]; exact r3
  · rw [hA 8 (by omega), hB 13 (by omega)]; exact r4
  · rw [hA 12 (by omega)]; exact r5
theorem Rel_x {A A2 B B2 : MM} (h : Rel A B) (hA : ∀ i k, i < 75 ∨ i = 86 ∨ i = 87 → ¬ (i = 86 ∧ (k = 1 ∨ k = 2)) → ¬ (i = 0 ∧ 8 ≤ k) → A2 i k = A i k) (hB : ∀ i k, (i = 94 ∧ (k = 3 ∨ k = 5 ∨ k = 9)) ∨ i = 95 ∨ i = 97 ∨ i = 98 ∨ i = 100 → B2 i k = B i k) (hr : rRs A2 B2) : Rel A2 B2 := by
  obtain ⟨τ, k, j, a1, a2, a3, a4, a5, a6, a7, a8, a9, a10, a11, -⟩ := h
  exact ⟨τ, k, j, a1, a2, (hA 13 1 (by omega) (by omega) (by omega)).trans a3, (hA 13 2 (by omega) (by omega) (by omega)).trans a4, (hB 94 3 (by omega)).trans a5, rL_cells a6 (fun i k _ _ => hA i k (by omega) (by omega) (by omega)) (fun k _ => hB 95 k (by omega)), fun i hi => rL_cells (a7 i hi) (fun i2 k _ _ => hA i2 k (by omega) (by omega) (by omega)) (fun k _ => hB 97 _ (by omega)), a8,
    fun hd => rFix_c (a9 hd) (fun i k _ _ => hA i k (by omega) (by omega) (by omega)), rSv_c a10 (fun i k q => hA i k (by omega) (by omega) (by omega)) (fun i k q => hB i k (by omega)), rTx_c a11 (fun i k q => hA i k (by omega) (by omega) (by omega)) (fun i k q => hB i k (by omega)), hr⟩
/-- a change that is kept -/
theorem rel_push {τ : Nat → Nat × Bool} {k j : Nat} {A B A2 N : MM} {x : Nat × Bool} (h : RelP τ k j A B) (hx : (τ k).2 = true → x = τ k) (hnow : rL x.1 x.2 (lgC A2 1) (N 95)) (hf : x.2 = true → rFix x.1 A2) (hA : ∀ i c, i = 0 ∨ (7 ≤ i ∧ i < 69) ∨ (i = 86 ∧ c = 0) ∨ i = 87 → A2 i c = jkeep A j k i c)
    (hN : ∀ i c, (i = 94 ∧ c ≠ 10 ∧ c ≠ 11 ∧ c ≠ 16 ∧ c ≠ 18 ∧ c ≠ 19) ∨ i = 97 ∨ i = 98 ∨ i = 100 → N i c = B i c) (h96 : ∀ c, c < 466 → N 96 c = B 95 c) : Rel A2 (jkpg N k) := by
  obtain ⟨a1, a2, a3, a4, a5, a6, a7, a8, a9, a10, a11, a12⟩ := h
  obtain ⟨τ2, q1, q2, q3⟩ := push_H (A2 := A2) (B2 := jkpg N k) (N := N) (x := x) a1 a2 a6 a7 a8 hx (fun i c h1 h2 => hA i c (by omega)) (fun c => rfl) h96 (fun c => hN 97 c (by omega))
  have hlow : ∀ i c, i = 0 ∨ (7 ≤ i ∧ i < 13) ∨ (i = 86 ∧ c = 0) ∨ i = 87 → A2 i c = A i c := fun i c hh => (hA i c (by omega)).trans (jkeep_old (by omega) (by omega))
  have hup : ∀ i c, (i = 94 ∧ c ≠ 3 ∧ c ≠ 10 ∧ c ≠ 11 ∧ c ≠ 16 ∧ c ≠ 18 ∧ c ≠ 19) ∨ i = 98 ∨ i = 100 → jkpg N k i c = B i c := fun i c hh => (jkpg_n (by omega) (by omega)).trans (hN i c (by omega))
  have e95 : jkpg N k 95 = N 95 := funext fun c => jkpg_n (by omega) (by omega)
  refine ⟨τ2, min (k + 1) 8, (j + 1) % 9, by omega, by omega, (hA 13 1 (by omega)).trans jkeep_13.1, (hA 13 2 (by omega)).trans jkeep_13.2, jkpg_3 a2, ?_, q1, q2, ?_, rSv_c a10 (fun i c q => hlow i c (by omega)) (fun i c q => hup i c (by omega)), rTx_c a11 (fun i c q => hlow i c (by omega)) (fun i c q => hup i c (by omega)), rRs_c a12 (fun c q => hlow 0 c (by omega)) (fun c q => hup 94 c (by omega))⟩
  · rw [q3, e95]; exact hnow
  · rw [q3]; exact hf
/-- a refusal -/
theorem jtr_at {N : MM} {i c : Nat} (h : i ≠ 96) (h2 : ¬ (i = 94 ∧ (c = 16 ∨ c = 19))) : jtr N i c = N i c := by
  unfold jtr
  rw [jcp_n h, jm_n (by omega), jm_n (by omega)]
theorem jtr_95 {N : MM} : jtr N 95 = N 95 := funext fun c => jtr_at (by omega) (by omega)
theorem jtr_96 {N : MM} {c : Nat} (h : c < 466) : jtr N 96 c = N 95 c := by
  unfold jtr
  rw [show c = 0 + c by omega, jcp_at h, Nat.zero_add, jm_n (by omega), jm_n (by omega)]
theorem jtr_16 {N : MM} : jtr N 94 16 = 0 := by
  unfold jtr
  rw [jcp_n (by omega), jm_s]
theorem rel_ref {A B : MM} {r z : Int32} (h : Rel A B) : Rel (jref A r z) (jrai (jrefu (jtr B) r z) 1) := by
  have hr : rRs A B := by
    obtain ⟨τ, k, j, -, -, -, -, -, -, -, -, -, -, -, hr⟩ := h
    exact hr
  refine Rel_x h (fun i k q _ q2 => ?_) (fun i k q => ?_) ?_
  · unfold jref; rw [jm_n (by omega), jm_n (by omega), jm_n (by omega)]
  · unfold jrai jrefu; rw [jm_n (by omega), jm_n (by omega), jm_n (by omega), jm_n (by omega), jtr_at (by omega) (by omega)]
  · obtain ⟨r1, r2, r3, r4, r5, q, r6, r7⟩ := hr
    unfold jref jrai jrefu
    refine ⟨?_, ?_, ?_, ?_, ?_, q, r6, ?_⟩
    · rw [jm_n (by omega), jm_n (by omega), jm_s, jm_n (by omega), jm_n (by omega), jm_n (by omega), jm_s]
    · rw [jm_n (by omega), jm_s, jm_n (by omega), jm_n (by omega), jm_s]
    · rw [jm_s, jm_n (by omega), jm_s, r5, jtr_16]
    · rw [jm_n (by omega), jm_n (by omega), jm_n (by omega), jm_n (by omega), jm_n (by omega), jm_n (by omega), jm_n (by omega), jtr_at (by omega) (by omega)]; exact r4
    · rw [jm_n (by omega), jm_n (by omega), jm_n (by omega)]; exact r5
    · rw [jm_n (by omega), jm_n (by omega), jm_n (by omega), jm_n (by omega), jtr_at (by omega) (by omega)]; exact r7
theorem hi_ref {M : MM} {r z : Int32} : hiE M (jref M r z) := fun i k q => by
  unfold jref; rw [jm_n (by omega), jm_n (by omega), jm_n (by omega)]
theorem lo_tr {N : MM} : loE N (jtr N) := fun i k q => jtr_at (by omega) (by omega)
theorem lo_jm {N N2 : MM} {k : Nat} {v : Int32} {a : Nat} (h : loE N N2) (ha : 94 ≤ a) (hb : a < 104) : loE N (jm N2 a k v) := fun i c q => by
  rw [jm_n (by omega)]; exact h i c q
theorem lo_kp {N N2 : MM} {k : Nat} (h : loE N N2) : loE N (jkpg N2 k) := fun i c q => (jkpg_n (by omega) (by omega)).trans (h i c q)
theorem lo_refu {N : MM} {r z : Int32} : loE N (jrai (jrefu (jtr N) r z) 1) := by
  unfold jrai jrefu
  exact lo_jm (lo_jm (lo_jm (lo_jm lo_tr (by omega) (by omega)) (by omega) (by omega)) (by omega) (by omega)) (by omega) (by omega)
theorem lo_jcp {N N2 : MM} {a o g go n : Nat} (h : loE N N2) (ha : 94 ≤ g) (hb : g < 104) : loE N (jcp N2 a o g go n) := fun i c q => by
  rw [jcp_n (by omega)]; exact h i c q
/-- the reference says that it threw, and nothing else -/
theorem rel_19 {A B : MM} {v : Int32} (h : Rel A B) : Rel A (jm B 94 19 v) := Rel_c h (fun _ _ _ _ => rfl) (fun i k q => jm_n (by omega))
theorem rel_19t {A B : MM} {v w : Int32} (h : Rel A B) : Rel A (jrai (jm B 94 19 v) w) := by
  unfold jrai
  exact rel_19 (rel_19 h)
theorem lo_19 {N : MM} {v : Int32} : loE N (jm N 94 19 v) := lo_jm loE_0 (by omega) (by omega)
theorem lo_19t {N : MM} {v w : Int32} : loE N (jrai (jm N 94 19 v) w) := by
  unfold jrai
  exact lo_jm lo_19 (by omega) (by omega)
/-- counting changes the tally alone -/
theorem rel_count {A B : MM} {n : Nat} (h : Rel A B) : Rel (jcount A n) B := Rel_c h (fun i k q _ => jcount_n (by omega)) (fun _ _ _ => rfl)
theorem hi_count {M : MM} {n : Nat} : hiE M (jcount M n) := fun i k q => jcount_n (by omega)
theorem hi_keep {M : MM} {j k : Nat} (hj : j < 9) : hiE M (jkeep M j k) := fun i c q => jkeep_old (by omega) (by omega)
theorem hi_jm {M N : MM} {a k : Nat} {v : Int32} (h : hiE M N) (ha : a < 92) : hiE M (jm N a k v) := fun i c q => by
  rw [jm_n (by omega)]; exact h i c q
theorem hi_put {M N : MM} {n a : Nat} {t v : Int32} (h : hiE M N) (ha : a < 92) : hiE M (jput n N a t v) := fun i c q => by
  rw [m_put (by omega)]; exact h i c q
theorem hi_t {M N K : MM} (h : hiE M N) (h2 : hiE N K) : hiE M K := fun i c q => (h2 i c q).trans (h i c q)
theorem hi_lg {M N : MM} {a g : Nat} (h : hiE M N) (hg : g + 5 < 92) : hiE M (jlg N a g) := fun i c q => by
  rw [jlg_n (by omega)]; exact h i c q
/-- what the old league gives -/
theorem RelP.now {τ : Nat → Nat × Bool} {k j : Nat} {A B : MM} (h : RelP τ k j A B) : rL (τ k).1 (τ k).2 (lgC A 1) (B 95) := h.2.2.2.2.2.1
theorem RelP.fix {τ : Nat → Nat × Bool} {k j : Nat} {A B : MM} (h : RelP τ k j A B) : (τ k).2 = true → rFix (τ k).1 A := h.2.2.2.2.2.2.2.2.1
theorem RelP.hi {τ : Nat → Nat × Bool} {k j : Nat} {A B B2 : MM} (h : RelP τ k j A B) (hB : hiE B B2) : RelP τ k j A B2 := by
  obtain ⟨a1, a2, a3, a4, a5, a6, a7, a8, a9, a10, a11, a12⟩ := h
  exact ⟨a1, a2, a3, a4, (hB 94 3 (by omega)).trans a5, rL_cells a6 (fun _ _ _ _ => rfl) (fun k _ => hB 95 k (by omega)), fun i hi => rL_cells (a7 i hi) (fun _ _ _ _ => rfl) (fun k _ => hB 97 _ (by omega)), a8, a9, rSv_c a10 (fun _ _ _ => rfl) (fun i c q => hB i c (by omega)), rTx_c a11 (fun _ _ _ => rfl) (fun i c q => hB i c (by omega)), rRs_c a12 (fun _ _ => rfl) (fun c q => hB 94 c (by omega))⟩
theorem rL_z {t : Nat} {dr : Bool} {A : MM} {a : Nat} {R : Nat → Int32} (h : rL t dr (lgC A a) R) : A a 2 = 0 ∨ A a 2 = 1 := by
  have h2 : A a 2 = if dr = true then 1 else 0 := h.2.2.2.2.2.1
  cases dr with
  | false => exact Or.inl h2
  | true => exact Or.inr h2
end

section
/-! ===== steps: changes before the draw ===== -/
def cmpI (k : Int32) (v : Value) (Y : OUt) (M : MM) : Prop := M 94 19 = k ∧ (k = 0 → ∃ w : Int32, v = .int w ∧ Y.1 0 = w.toInt64)
theorem cmp_eq {M : MM} {Y : OUt} {v w : Int32} (h : M 94 19 = 0) (e : v = w) : cmpI 0 (.int w) (ju Y.1 0 v.toInt64, Y.2) M := by
  subst e
  exact ⟨h, fun _ => ⟨v, rfl, show ju Y.1 0 v.toInt64 0 = v.toInt64 from ju_s⟩⟩
theorem cmp_no {M : MM} {Y : OUt} {k : Int32} {v : Value} (h : M 94 19 = k) (hk : ¬ k = 0) : cmpI k v Y M := ⟨h, fun q => absurd q hk⟩
theorem jtr_19 {N : MM} : jtr N 94 19 = 0 := by
  unfold jtr
  rw [jcp_n (by omega), jm_n (by omega), jm_s]
theorem kp_19 {N : MM} {k : Nat} : jkpg N k 94 19 = N 94 19 := jkpg_n (by omega) (by omega)
theorem cmp_ref {N : MM} {r z v : Int32} {Y : OUt} : cmpI 1 (.int v) Y (jrai (jrefu (jtr N) r z) 1) := cmp_no jm_s (by decide)
theorem hiR {M N : MM} (h : hiE M N) {i : Nat} (hi : 92 ≤ i) : N i = M i := funext fun c => h i c hi
/-- a refusal on both sides -/
theorem Step_ref {b : SBt} {Y : OUt} {M : MM} {yL : MethodName} {cL : ByteArray} {mL : Nat} {hh : List (Nat × Nat × Nat × Nat)} {asL : List Value} {y6 : MethodName} {c6 : ByteArray} {m6 : Nat} {r6 : Option FieldType} {as6 : List Value} {r z v : Int32} {mc ms : Nat} (I : Inv b M) (hmc : mc ≤ 40) (hms : ms ≤ 9000)
    (H : CMH 20 mc ms yL cL mL (some .int) hh asL b Y M 1 Y (jref M r z)) (C : CM 20 0 0 y6 c6 m6 r6 as6 b Y (jref M r z) (.inl (some (.int v))) (jrai (jrefu (jtr (jref M r z)) r z) 1)) (hk : vK r6 (.int v) := by first | exact vK_i | exact vK_b | exact vK_c) : Step b Y M yL cL mL hh asL y6 c6 m6 r6 as6 cmpI :=
  Step_of I H C hmc hms hi_ref lo_refu (rel_ref (Rel_hi I.1 hi_ref)) cmp_ref hk
theorem ref_95 {M : MM} {r z : Int32} {c : Nat} : jref M r z 95 c = M 95 c := hi_ref 95 c (by omega)
theorem ref_94 {M : MM} {r z : Int32} {c : Nat} : jref M r z 94 c = M 94 c := hi_ref 94 c (by omega)
/-! team -/
theorem now_team {t : Nat} {u : Int32} {X N : MM} (h : rL t false (lgC X 1) (N 95)) (ht : t < 8) : rL (t + 1) false (lgC (jm (jm X 2 t u) 1 0 (nI (t + 1))) 1) (jm (jm N 95 0 (nI (t + 1))) 95 (10 + t) u 95) := by
  obtain ⟨a1, a2, a3, a4, a5, a6, a7, a8, ⟨w, b1, b2, b3, b4⟩, ⟨q, c1, c2, c3⟩, ⟨q2, d1, d2, d3⟩, ⟨c, e1, e2, e3, e4⟩, f⟩ := h
  have hA : ∀ i k, ¬ (i = 1 ∧ k = 0) → ¬ (i = 2 ∧ k = t) → jm (jm X 2 t u) 1 0 (nI (t + 1)) i k = X i k := fun i k h1 h2 => by rw [jm_n h1, jm_n h2]
  have hB : ∀ k, k ≠ 0 → k ≠ 10 + t → jm (jm N 95 0 (nI (t + 1))) 95 (10 + t) u 95 k = N 95 k := fun k h1 h2 => by rw [jm_n (by omega), jm_n (by omega)]
  refine ⟨by omega, (show jm (jm X 2 t u) 1 0 (nI (t + 1)) 1 0 = _ from jm_s), ?_, fun i hi => ?_, (fun z => by cases z), (hA 1 2 (by omega) (by omega)).trans a6, (hB 1 (by omega) (by omega)).trans a7, (hB 9 (by omega) (by omega)).trans a8, ⟨w, b1, (hA 1 3 (by omega) (by omega)).trans b2, (hB 2 (by omega) (by omega)).trans b3, fun z => by cases z⟩, ⟨q, c1, (hA 1 4 (by omega) (by omega)).trans c2, (hB 3 (by omega) (by omega)).trans c3⟩, ⟨q2, d1, (hA 1 5 (by omega) (by omega)).trans d2, (hB 4 (by omega) (by omega)).trans d3⟩, ⟨c, e1, (hA 1 6 (by omega) (by omega)).trans e2, (hB 5 (by omega) (by omega)).trans e3, fun i hi => ?_⟩, fun m hm => absurd hm (Nat.not_lt_zero m)⟩
  · show jm (jm N 95 0 (nI (t + 1))) 95 (10 + t) u 95 0 = _
    rw [jm_n (by omega), jm_s]
  · show jm (jm X 2 t u) 1 0 (nI (t + 1)) 2 i = jm (jm N 95 0 (nI (t + 1))) 95 (10 + t) u 95 (10 + i)
    by_cases e : i = t
    · subst e; rw [jm_n (by omega), jm_s, jm_s]
    · rw [hA 2 i (by omega) (by omega), hB (10 + i) (by omega) (by omega)]; exact a4 i hi
  · show jm (jm X 2 t u) 1 0 (nI (t + 1)) 3 i = _ ∧ r04 (jm (jm X 2 t u) 1 0 (nI (t + 1)) 3 i)
    rw [hA 3 i (by omega) (by omega), hB (6 + i) (by omega) (by omega)]; exact e4 i hi
theorem keep_now {t : Nat} {dr : Bool} {A : MM} {R R2 : Nat → Int32} {j k : Nat} (hj : j < 9) (h : rL t dr (lgC A 1) R) (hR : ∀ k, k < 466 → R2 k = R k) : rL t dr (lgC (jkeep A j k) 1) R2 := rL_cells h (fun i c q1 q2 => jkeep_old (by omega) (by omega)) hR
theorem keep_lo {A : MM} {j k i c : Nat} (hi : i < 13 ∨ 69 ≤ i) (hj : j < 9) : jkeep A j k i c = A i c := jkeep_old (by omega) (by omega)
theorem S_team {b : SBt} {Y : OUt} {M : MM} (I : Inv b M) (u : Int32) : Step b Y M yL_team cL_team 4 [(0, 9, 12, 13)] [.ref 0, .int u, .ref 102] yX6_team cX6_team 3 (some .int) [.ref 94, .int u] cmpI := by
  have hb := I.hb
  obtain ⟨τ, k, j, hP⟩ := Rel_P.mp I.1
  have hL := hP.now
  have hF := hP.fix
  obtain ⟨t, et⟩ : ∃ t, (τ k).1 = t := ⟨_, rfl⟩
  obtain ⟨dr, ed⟩ : ∃ dr, (τ k).2 = dr := ⟨_, rfl⟩
  rw [et, ed] at hL
  have ht := hL.1
  have h10 : M 1 0 = nI t := hL.2.1
  have h950 : M 95 0 = nI t := hL.2.2.1
  have hz := zz_0 hL.1 hL.2.2.2.2.1
  have h951 : M 95 1 = nI (zz t dr) := hL.2.2.2.2.2.2.1
  have h12 : M 1 2 = if dr = true then 1 else 0 := hL.2.2.2.2.2.1
  by_cases hx : ¬ u < 0 ∧ ¬ 9 < u
  · cases dr with
    | true =>
      exact Step_ref I (by decide) (by decide) (H_team_t1 (d := 19) hb (c_team_no (d := 17) hb (show rTeam M u = some (4, 0) by unfold rTeam; rw [if_neg (fun q => q hx), if_pos (by rw [h12]; decide)]))) (cx_team_dr (d := 18) hb hx (by rw [ref_95, h951]; exact hz.2.mpr rfl))
    | false =>
      have h1 : M 95 1 ≤ 0 := by rw [h951]; exact Int32.le_refl 0
      by_cases h8 : t = 8
      · subst h8
        exact Step_ref I (by decide) (by decide) (H_team_t1 (d := 19) hb (c_team_no (d := 17) hb (show rTeam M u = some (2, 8) by unfold rTeam; rw [if_neg (fun q => q hx), if_neg (by rw [h12]; decide), if_pos (by rw [h10]; decide)]))) (cx_team_full (d := 18) hb hx (by rw [ref_95]; exact h1) (by rw [ref_95]; exact h950))
      · have h8 : t < 8 := by omega
        have hj := hP.1
        have hk := hP.2.1
        have hr : rTeam M u = none := by
          unfold rTeam
          rw [if_neg (fun q => q hx), if_neg (by rw [h12]; decide), if_neg (fun q => q (by rw [h10]; exact (nI_lt h8 (by decide) : nI t < nI 8)))]
        have hm : jteam M j k u = jm (jm (jkeep M j k) 2 t u) 1 0 (nI (t + 1)) := by
          unfold jteam
          rw [keep_lo (by omega) hj, h10, jput_nI h8 (by decide), jm_n (by omega), keep_lo (by omega) hj, h10, nI_1]
        have hhi : hiE M (jteam M j k u) := by rw [hm]; exact hi_jm (hi_jm (hi_keep hj) (by omega)) (by omega)
        have hP2 := hP.hi hhi
        have hc := c_team_ok (d := 15) (Y := Y) hb hr hj hk hP.2.2.1 hP.2.2.2.1 (rL_z hL)
        have hg := cx_team_G (d := 18) (M := jteam M j k u) (Y := (ju Y.1 0 (jteam M j k u 1 0 - 1).toInt64, Y.2)) hb hx (by rw [hhi 95 1 (by omega)]; exact h1) (by rw [hhi 95 0 (by omega)]; exact h950) h8 hk (by rw [hhi 94 3 (by omega)]; exact hP.2.2.2.2.1)
        refine Step_of I (H_team_r hb hc) hg (by decide) (by decide) hhi (lo_kp (lo_jm (lo_jm lo_tr (by omega) (by omega)) (by omega) (by omega))) ?_ (cmp_eq ?_ ?_)
        · refine rel_push (x := (t + 1, false)) hP2 (fun q => by rw [ed] at q; cases q) ?_ (fun q => by cases q) (fun i c q => ?_) (fun i c q => ?_) (fun c q => ?_)
          · rw [hm]
            exact now_team (keep_now hj hL (fun c _ => by rw [jtr_95, ← hm]; exact hhi 95 c (by omega))) h8
          · rw [hm, jm_n (by omega), jm_n (by omega)]
          · unfold gTeam; rw [jm_n (by omega), jm_n (by omega)]; exact jtr_at (by omega) (by omega)
          · unfold gTeam; rw [jm_n (by omega), jm_n (by omega)]; exact jtr_96 q
        · unfold gTeam; rw [kp_19, jm_n (by omega), jm_n (by omega)]; exact jtr_19
        · rw [hm, jm_s]; exact nI_pred t
  · exact Step_ref I (by decide) (by decide) (H_team_t1 (d := 19) hb (c_team_no (d := 17) hb (show rTeam M u = some (1, 0) by unfold rTeam; rw [if_pos hx]))) (cx_team_no (d := 18) hb hx)
end

section
/-! ===== steps: ground, rules, points given, the draw ===== -/
theorem RelP.cnt {τ : Nat → Nat × Bool} {k j n : Nat} {A B : MM} (h : RelP τ k j A B) : RelP τ k j (jcount A n) B := by
  obtain ⟨a1, a2, a3, a4, a5, a6, a7, a8, a9, a10, a11, a12⟩ := h
  exact ⟨a1, a2, (jcount_n (by omega)).trans a3, (jcount_n (by omega)).trans a4, a5, rL_cells a6 (fun i c _ _ => jcount_n (by omega)) (fun _ _ => rfl), fun i hi => rL_cells (a7 i hi) (fun i c _ _ => jcount_n (by omega)) (fun _ _ => rfl), a8, fun hd => rFix_c (a9 hd) (fun i c _ _ => jcount_n (by omega)), rSv_c a10 (fun i c q => jcount_n (by omega)) (fun _ _ _ => rfl), rTx_c a11 (fun i c q => jcount_n (by omega)) (fun _ _ _ => rfl), rRs_c a12 (fun c q => jcount_n (by omega)) (fun _ _ => rfl)⟩
theorem now_ground {t q : Nat} {dr : Bool} {u : Int32} {X N : MM} (h : rL t dr (lgC X 1) (N 95)) (hq : q < 8) : rL t dr (lgC (jm X 2 q u) 1) (jm N 95 (10 + q) u 95) := by
  obtain ⟨a1, a2, a3, a4, a5, a6, a7, a8, ⟨w, b1, b2, b3, b4⟩, ⟨q1, c1, c2, c3⟩, ⟨q2, d1, d2, d3⟩, ⟨c, e1, e2, e3, e4⟩, f⟩ := h
  have hA : ∀ i k, ¬ (i = 2 ∧ k = q) → jm X 2 q u i k = X i k := fun i k h1 => jm_n h1
  have hB : ∀ k, k ≠ 10 + q → jm N 95 (10 + q) u 95 k = N 95 k := fun k h1 => jm_n (by omega)
  refine ⟨a1, (hA 1 0 (by omega)).trans a2, (hB 0 (by omega)).trans a3, fun i hi => ?_, a5, (hA 1 2 (by omega)).trans a6, (hB 1 (by omega)).trans a7, (hB 9 (by omega)).trans a8, ⟨w, b1, (hA 1 3 (by omega)).trans b2, (hB 2 (by omega)).trans b3, b4⟩, ⟨q1, c1, (hA 1 4 (by omega)).trans c2, (hB 3 (by omega)).trans c3⟩, ⟨q2, d1, (hA 1 5 (by omega)).trans d2, (hB 4 (by omega)).trans d3⟩, ⟨c, e1, (hA 1 6 (by omega)).trans e2, (hB 5 (by omega)).trans e3, fun i hi => ?_⟩, fun m hm => ?_⟩
  · show jm X 2 q u 2 i = jm N 95 (10 + q) u 95 (10 + i)
    by_cases e : i = q
    · subst e; rw [jm_s, jm_s]
    · rw [hA 2 i (by omega), hB (10 + i) (by omega)]; exact a4 i hi
  · show jm X 2 q u 3 i = _ ∧ r04 (jm X 2 q u 3 i)
    rw [hA 3 i (by omega), hB (6 + i) (by omega)]; exact e4 i hi
  · have hm := f m hm
    unfold mtR at hm ⊢
    rw [hB _ (by omega), hB _ (by omega), hB _ (by omega), hB _ (by omega), hB _ (by omega), hB _ (by omega), hB _ (by omega), hB _ (by omega)]
    show _ ∧ _ ∧ _ ∧ jm X 2 q u 4 m = _ ∧ _ ∧ ((_ ∧ ∃ g h : Nat, g ≤ 20 ∧ h ≤ 20 ∧ jm X 2 q u 5 m = nI g ∧ _ ∧ jm X 2 q u 6 m = nI h ∧ _) ∨ (_ ∧ jm X 2 q u 5 m = -1 ∧ jm X 2 q u 6 m = -1))
    rw [hA 4 m (by omega), hA 5 m (by omega), hA 6 m (by omega)]
    exact hm
theorem S_ground {b : SBt} {Y : OUt} {M : MM} (I : Inv b M) (u v : Int32) : Step b Y M yL_ground cL_ground 5 [(0, 10, 13, 13)] [.ref 0, .int u, .int v, .ref 102] yX6_ground cX6_ground 4 (some .int) [.ref 94, .int u, .int v] cmpI := by
  have hb := I.hb
  obtain ⟨τ, k, j, hP⟩ := Rel_P.mp I.1
  have hL := hP.now
  have hF := hP.fix
  obtain ⟨t, et⟩ : ∃ t, (τ k).1 = t := ⟨_, rfl⟩
  obtain ⟨dr, ed⟩ : ∃ dr, (τ k).2 = dr := ⟨_, rfl⟩
  have hX : (τ k).2 = true → (t, dr) = τ k := fun _ => by rw [← et, ← ed]
  rw [et, ed] at hL hF
  have ht := hL.1
  have h10 : M 1 0 = nI t := hL.2.1
  have h950 : M 95 0 = nI t := hL.2.2.1
  by_cases hT : ∃ q, q < t ∧ u = nI q
  · have hT1 := (in_q1 (x := u) (n := t) (by omega)).mpr hT
    obtain ⟨q, hq, rfl⟩ := hT
    rw [← h10] at hT1
    by_cases hx : ¬ v < 0 ∧ ¬ 9 < v
    · have hj := hP.1
      have hk := hP.2.1
      have hr : rGround M (nI q) v = none := by unfold rGround; rw [if_neg (fun z => z hT1), if_neg (fun z => z hx)]
      have hm : jground M j k (nI q) v = jm (jkeep M j k) 2 q v := by unfold jground; rw [jput_nI (by omega) (by decide)]
      have hhi : hiE M (jground M j k (nI q) v) := by rw [hm]; exact hi_jm (hi_keep hj) (by omega)
      have hP2 := hP.hi hhi
      have hc := c_ground_ok (d := 13) (Y := Y) hb hr hj hk hP.2.2.1 hP.2.2.2.1 (rL_z hL)
      have hg := cx_ground_G (d := 18) (M := jground M j k (nI q) v) (u := v) (Y := (ju Y.1 0 (jat 8 (jkeep M j k 2) (nI q)).toInt64, Y.2)) hb ht (by rw [hhi 95 0 (by omega)]; exact h950) hq hx hk (by rw [hhi 94 3 (by omega)]; exact hP.2.2.2.2.1)
      refine Step_of I (H_ground_r hb hc) hg (by decide) (by decide) hhi (lo_kp (lo_jm lo_tr (by omega) (by omega))) ?_ (cmp_eq ?_ ?_)
      · refine rel_push (x := (t, dr)) hP2 hX ?_ (fun q => rFix_c (hF q) (fun i c q1 q2 => ?_)) (fun i c q => ?_) (fun i c q => ?_) (fun c q => ?_)
        · rw [hm]
          exact now_ground (keep_now hj hL (fun c _ => by rw [jtr_95, ← hm]; exact hhi 95 c (by omega))) (by omega)
        · rw [hm, jm_n (by omega)]; exact keep_lo (by omega) hj
        · rw [hm, jm_n (by omega)]
        · unfold gGround; rw [jm_n (by omega)]; exact jtr_at (by omega) (by omega)
        · unfold gGround; rw [jm_n (by omega)]; exact jtr_96 q
      · unfold gGround; rw [kp_19, jm_n (by omega)]; exact jtr_19
      · rw [hhi 95 _ (by omega), jat_nI (by omega) (by decide), keep_lo (by omega) hj]; exact hL.2.2.2.1 q (by omega)
    · exact Step_ref I (by decide) (by decide) (H_ground_t1 (d := 19) hb (c_ground_no (d := 17) hb (show rGround M (nI q) v = some (1, 0) by unfold rGround; rw [if_neg (fun z => z hT1), if_pos hx]))) (cx_ground_bad (d := 18) hb ht (by rw [ref_95]; exact h950) hq hx)
  · have hT1 : ¬ (¬ u < 0 ∧ ¬ M 1 0 ≤ u) := by rw [h10]; exact fun z => hT ((in_q1 (by omega)).mp z)
    exact Step_ref I (by decide) (by decide) (H_ground_t1 (d := 19) hb (c_ground_no (d := 17) hb (show rGround M u v = some (3, u) by unfold rGround; rw [if_pos hT1]))) (cx_ground_nt (d := 18) hb (by rw [ref_95, h950]; exact fun z => hT ((in_q2 (by omega)).mp z)))
/-! rules -/
theorem hi_addr {M N : MM} {g : Nat} {t : Int32} (h : hiE M N) (hg : g + 2 < 92) : hiE M (jaddr N g t) := by
  unfold jaddr
  split
  · exact h
  · exact hi_jm (hi_put h hg) (by omega)
theorem setr_n {X : MM} {t u v : Int32} {i c : Nat} (h1 : i ≠ 1) (h3 : i ≠ 3) : jsetr X 1 t u v i c = X i c := by
  have h : ∀ (Z : MM) (t : Int32), jaddr Z 1 t i c = Z i c := fun Z t => by
    unfold jaddr
    split
    · rfl
    · rw [jm_n (by omega), m_put (by omega)]
  unfold jsetr
  rw [h, h, h, jm_n (by omega)]
theorem lo_xr {M N : MM} {t : Int32} (h : loE M N) : loE M (jxr N t) := by
  unfold jxr
  split
  · exact h
  · exact lo_jm (lo_jm h (by omega) (by omega)) (by omega) (by omega)
theorem lo_xR {M N : MM} {t u v : Int32} (h : loE M N) : loE M (jxR N t u v) := lo_xr (lo_xr (lo_xr (lo_jm h (by omega) (by omega))))
theorem S_rules {b : SBt} {Y : OUt} {M : MM} (I : Inv b M) (u v w : Int32) : Step b Y M yL_rules cL_rules 6 [(0, 12, 15, 13)] [.ref 0, .int u, .int v, .int w, .ref 102] yX6_rules cX6_rules 4 (some .int) [.ref 94, .int u, .int v, .int w] cmpI := by
  have hb := I.hb
  obtain ⟨τ, k, j, hP⟩ := Rel_P.mp I.1
  have hL := hP.now
  have hF := hP.fix
  obtain ⟨t, et⟩ : ∃ t, (τ k).1 = t := ⟨_, rfl⟩
  obtain ⟨dr, ed⟩ : ∃ dr, (τ k).2 = dr := ⟨_, rfl⟩
  have hX : (τ k).2 = true → (t, dr) = τ k := fun _ => by rw [← et, ← ed]
  rw [et, ed] at hL hF
  cases hr : rRules u v w with
  | some q =>
    obtain ⟨r, z⟩ := q
    exact Step_ref I (by decide) (by decide) (H_rules_t1 (d := 19) hb (c_rules_no (d := 17) hb hr)) (cx_rules_no (d := 18) hb hr)
  | none =>
    have hj := hP.1
    have hk := hP.2.1
    have hhi : hiE M (jrules M j k u v w) := hi_addr (hi_addr (hi_addr (hi_jm (hi_keep hj) (by omega)) (by omega)) (by omega)) (by omega)
    have hP2 := hP.hi hhi
    have hc := c_rules_ok (d := 15) (Y := Y) hb hr hj hk hP.2.2.1 hP.2.2.2.1 (rL_z hL)
    have hg := cx_rules_G (d := 18) (M := jrules M j k u v w) (Y := (ju Y.1 0 (jrules M j k u v w 1 6).toInt64, Y.2)) hb hr hk (by rw [hhi 94 3 (by omega)]; exact hP.2.2.2.2.1)
    obtain ⟨n1, n2⟩ := now_rules (X := jkeep M j k) (N := jtr (jrules M j k u v w)) (keep_now hj hL (fun c _ => by rw [jtr_95]; exact hhi 95 c (by omega))) hr
    refine Step_of I (H_rules_r hb hc) hg (by decide) (by decide) hhi (lo_kp (lo_jm (lo_xR lo_tr) (by omega) (by omega))) ?_ (cmp_eq ?_ n2)
    · refine rel_push (x := (t, dr)) hP2 hX (rL_cells n1 (fun _ _ _ _ => rfl) (fun c _ => jm_n (by omega))) (fun q => rFix_c (hF q) (fun i c q1 q2 => ?_)) (fun i c q => setr_n (by omega) (by omega)) (fun i c q => ?_) (fun c q => ?_)
      · exact (setr_n (by omega) (by omega)).trans (keep_lo (by omega) hj)
      · rw [jm_n (by omega), jxR_n (by omega)]; exact jtr_at (by omega) (by omega)
      · rw [jm_n (by omega), jxR_n (by omega)]; exact jtr_96 q
    · rw [kp_19, jm_n (by omega), jxR_n (by omega)]; exact jtr_19
end

section
/-! ===== steps: points given; what a drawn league takes ===== -/
theorem int_rng {u : Int32} {n : Nat} (hn : n < 100) (h0 : ¬ u < 0) (h1 : ¬ nI n < u) : ∃ q, q ≤ n ∧ u = nI q := by
  obtain ⟨j, hj, rfl⟩ := nI_of2 (M := nI n) (n := n) (nI_toInt (by omega)) h0 (Int32.not_lt.mp h1)
  exact ⟨j, hj, rfl⟩
theorem now_give {t q1 q2 : Nat} {dr : Bool} {X N : MM} (h : rL t dr (lgC X 1) (N 95)) (h1 : q1 ≤ 5) (h2 : q2 ≤ 3) : rL t dr (lgC (jm (jm X 1 4 (nI q1)) 1 5 (nI q2)) 1) (jm (jm N 95 3 (nI q1)) 95 4 (nI q2) 95) := by
  obtain ⟨a1, a2, a3, a4, a5, a6, a7, a8, ⟨w, b1, b2, b3, b4⟩, -, -, ⟨c, e1, e2, e3, e4⟩, f⟩ := h
  have hA : ∀ i k, ¬ (i = 1 ∧ (k = 4 ∨ k = 5)) → jm (jm X 1 4 (nI q1)) 1 5 (nI q2) i k = X i k := fun i k h1 => by rw [jm_n (by omega), jm_n (by omega)]
  have hB : ∀ k, k ≠ 3 → k ≠ 4 → jm (jm N 95 3 (nI q1)) 95 4 (nI q2) 95 k = N 95 k := fun k h1 h2 => by rw [jm_n (by omega), jm_n (by omega)]
  refine ⟨a1, (hA 1 0 (by omega)).trans a2, (hB 0 (by omega) (by omega)).trans a3, fun i hi => ?_, a5, (hA 1 2 (by omega)).trans a6, (hB 1 (by omega) (by omega)).trans a7, (hB 9 (by omega) (by omega)).trans a8, ⟨w, b1, (hA 1 3 (by omega)).trans b2, (hB 2 (by omega) (by omega)).trans b3, b4⟩, ⟨q1, h1, ?_, ?_⟩, ⟨q2, h2, ?_, ?_⟩, ⟨c, e1, (hA 1 6 (by omega)).trans e2, (hB 5 (by omega) (by omega)).trans e3, fun i hi => ?_⟩, fun m hm => ?_⟩
  · rw [hB (10 + i) (by omega) (by omega)]; exact (hA 2 i (by omega)).trans (a4 i hi)
  · show jm (jm X 1 4 (nI q1)) 1 5 (nI q2) 1 4 = _; rw [jm_n (by omega), jm_s]
  · show jm (jm N 95 3 (nI q1)) 95 4 (nI q2) 95 3 = _; rw [jm_n (by omega), jm_s]
  · show jm (jm X 1 4 (nI q1)) 1 5 (nI q2) 1 5 = _; rw [jm_s]
  · show jm (jm N 95 3 (nI q1)) 95 4 (nI q2) 95 4 = _; rw [jm_s]
  · show jm (jm X 1 4 (nI q1)) 1 5 (nI q2) 3 i = _ ∧ r04 (jm (jm X 1 4 (nI q1)) 1 5 (nI q2) 3 i)
    rw [hA 3 i (by omega), hB (6 + i) (by omega) (by omega)]; exact e4 i hi
  · have hm := f m hm
    unfold mtR at hm ⊢
    rw [hB _ (by omega) (by omega), hB _ (by omega) (by omega), hB _ (by omega) (by omega), hB _ (by omega) (by omega), hB _ (by omega) (by omega), hB _ (by omega) (by omega), hB _ (by omega) (by omega), hB _ (by omega) (by omega)]
    show _ ∧ _ ∧ _ ∧ jm (jm X 1 4 _) 1 5 _ 4 m = _ ∧ _ ∧ ((_ ∧ ∃ g h : Nat, g ≤ 20 ∧ h ≤ 20 ∧ jm (jm X 1 4 _) 1 5 _ 5 m = nI g ∧ _ ∧ jm (jm X 1 4 _) 1 5 _ 6 m = nI h ∧ _) ∨ (_ ∧ jm (jm X 1 4 _) 1 5 _ 5 m = -1 ∧ jm (jm X 1 4 _) 1 5 _ 6 m = -1))
    rw [hA 4 m (by omega), hA 5 m (by omega), hA 6 m (by omega)]
    exact hm
theorem S_give {b : SBt} {Y : OUt} {M : MM} (I : Inv b M) (u v : Int32) : Step b Y M yL_give cL_give 5 [(0, 10, 13, 13)] [.ref 0, .int u, .int v, .ref 102] yX6_give cX6_give 4 (some .int) [.ref 94, .int u, .int v] cmpI := by
  have hb := I.hb
  obtain ⟨τ, k, j, hP⟩ := Rel_P.mp I.1
  have hL := hP.now
  have hF := hP.fix
  obtain ⟨t, et⟩ : ∃ t, (τ k).1 = t := ⟨_, rfl⟩
  obtain ⟨dr, ed⟩ : ∃ dr, (τ k).2 = dr := ⟨_, rfl⟩
  have hX : (τ k).2 = true → (t, dr) = τ k := fun _ => by rw [← et, ← ed]
  rw [et, ed] at hL hF
  have ht := hL.1
  have hn := nn_le (dr := dr) ht
  have hm := jmc_r hL hF
  have hz := zz_0 hL.1 hL.2.2.2.2.1
  have h951 : M 95 1 = nI (zz t dr) := hL.2.2.2.2.2.2.1
  have h959 : M 95 9 = nI (nn t dr) := hL.2.2.2.2.2.2.2.1
  have h12 : M 1 2 = if dr = true then 1 else 0 := hL.2.2.2.2.2.1
  have hj := hP.1
  have hk := hP.2.1
  by_cases hx : (¬ u < 1 ∧ ¬ 5 < u) ∧ (¬ v < 0 ∧ ¬ 3 < v)
  · have hx2 : ¬ (u < 1 ∨ 5 < u ∨ v < 0 ∨ ¬ v ≤ 3) := fun q => by
      rcases q with q | q | q | q
      · exact hx.1.1 q
      · exact hx.1.2 q
      · exact hx.2.1 q
      · exact hx.2.2 (Int32.not_le.mp q)
    have hct : jcount M (nn t dr) 75 0 = jsum (fun m => jof M m 4) (nn t dr) := jcount_pl.trans (pl_r hL)
    have hsum : ∀ N : MM, N 95 = M 95 → jsum (fun m => jof (jtr N) m 4) (nn t dr) = jsum (fun m => jof M m 4) (nn t dr) := fun N hN => by unfold jof; rw [jtr_95, hN]
    by_cases h3 : jcount M (nn t dr) 75 0 ≤ 0
    · obtain ⟨q1, g1, rfl⟩ := int_rng (u := u) (n := 5) (by decide) (fun z => hx.1.1 (Int32.lt_trans z (by decide))) hx.1.2
      obtain ⟨q2, g2, rfl⟩ := int_rng (u := v) (n := 3) (by decide) hx.2.1 hx.2.2
      have hhi : hiE M (jgiven M j k (nn t dr) (nI q1) (nI q2)) := hi_jm (hi_jm (hi_t hi_count (hi_keep hj)) (by omega)) (by omega)
      have hP2 := (hP.hi hhi).cnt (n := nn t dr)
      have hc := c_give_ok (d := 13) (Y := Y) hb hn hm hx2 h3 hj hk hP.2.2.1 hP.2.2.2.1 (rL_z hL)
      have hg := cx_give_G (d := 18) (M := jgiven M j k (nn t dr) (nI q1) (nI q2)) (Y := (ju Y.1 0 (10 * jkeep (jcount M (nn t dr)) j k 1 4 + jkeep (jcount M (nn t dr)) j k 1 5).toInt64, Y.2)) hb hx hn (by rw [hhi 95 9 (by omega)]; exact h959) (by rw [hsum _ (hiR hhi (by omega)), ← hct]; exact h3) hk (by rw [hhi 94 3 (by omega)]; exact hP.2.2.2.2.1)
      have hL2 : rL t dr (lgC (jcount M (nn t dr)) 1) (M 95) := rL_cells hL (fun i c _ _ => jcount_n (by omega)) (fun _ _ => rfl)
      refine Step_of I (H_give_r hb hc) hg (by decide) (by decide) hhi (lo_kp (lo_jm (lo_jm lo_tr (by omega) (by omega)) (by omega) (by omega))) ?_ (cmp_eq ?_ ?_)
      · refine rel_push (x := (t, dr)) hP2 hX (now_give (keep_now hj hL2 (fun c _ => by rw [jtr_95]; exact hhi 95 c (by omega))) g1 g2) (fun q => rFix_c (hF q) (fun i c q1 q2 => ?_)) (fun i c q => ?_) (fun i c q => ?_) (fun c q => ?_)
        · unfold jgiven; rw [jm_n (by omega), jm_n (by omega), keep_lo (by omega) hj]; exact jcount_n (by omega)
        · unfold jgiven; rw [jm_n (by omega), jm_n (by omega)]
        · unfold gGive; rw [jm_n (by omega), jm_n (by omega)]; exact jtr_at (by omega) (by omega)
        · unfold gGive; rw [jm_n (by omega), jm_n (by omega)]; exact jtr_96 q
      · unfold gGive; rw [kp_19, jm_n (by omega), jm_n (by omega)]; exact jtr_19
      · rw [keep_lo (by omega) hj, keep_lo (by omega) hj, jcount_n (by omega), jcount_n (by omega), hhi 95 3 (by omega), hhi 95 4 (by omega)]
        obtain ⟨a1, a2, a3, a4, a5, a6, a7, a8, -, ⟨q, c1, c2, c3⟩, ⟨q2, d1, d2, d3⟩, -⟩ := hL
        rw [show M 1 4 = nI q from c2, show M 1 5 = nI q2 from d2, c3, d3]
    · have hc := c_give_no (d := 13) (Y := Y) hb hn hm hx2 h3
      have hhi : hiE M (jref (jcount M (nn t dr)) 12 (jcount M (nn t dr) 75 0)) := hi_t hi_count hi_ref
      have hg := cx_give_pl (d := 18) (M := jref (jcount M (nn t dr)) 12 (jcount M (nn t dr) 75 0)) (Y := Y) hb hx hn (by rw [hhi 95 9 (by omega)]; exact h959) (by rw [hsum _ (hiR hhi (by omega)), ← hct]; exact h3)
      rw [hsum _ (hiR hhi (by omega)), ← hct] at hg
      exact Step_of I (H_give_t1 (d := 19) hb hc) hg (by decide) (by decide) hhi lo_refu (rel_ref (rel_count (Rel_hi I.1 hhi))) cmp_ref
  · refine Step_ref I (by decide) (by decide) (H_give_t1 (d := 19) hb (c_give_bad (d := 14) hb ?_)) (cx_give_no (d := 18) hb ?_)
    · by_cases q1 : u < 1
      · exact Or.inl q1
      · by_cases q2 : 5 < u
        · exact Or.inr (Or.inl q2)
        · by_cases q3 : v < 0
          · exact Or.inr (Or.inr (Or.inl q3))
          · exact Or.inr (Or.inr (Or.inr fun q4 => hx ⟨⟨q1, q2⟩, q3, Int32.not_lt.mpr q4⟩))
    · by_cases q1 : ¬ u < 1 ∧ ¬ 5 < u
      · exact Or.inr fun q2 => hx ⟨q1, q2⟩
      · exact Or.inl q1
theorem gRes_95 {N N2 : MM} {q : Nat} {u v : Int32} (h : N 95 = N2 95) : gRes N q u v = gRes N2 q u v := by unfold gRes jof; rw [h]
theorem gBack_95 {N N2 : MM} {q : Nat} (h : N 95 = N2 95) : gBack N q = gBack N2 q := by unfold gBack jhow jof; rw [h]
theorem gPut_95 {N N2 : MM} {q : Nat} {u : Int32} (h : N 95 = N2 95) : gPut N q u = gPut N2 q u := by unfold gPut jof; rw [h]
theorem gNext_95 {N N2 : MM} {n : Nat} (h : N 95 = N2 95) : gNext N n = gNext N2 n := by
  have e : gLeft N = gLeft N2 := by funext m; unfold gLeft jof; rw [h]
  unfold gNext; rw [h, e]
theorem hi_setg {M N : MM} {q : Nat} {u v : Int32} (h : hiE M N) (hq : q < 56) : hiE M (jsetg N 1 (nI q) u v) := by
  rw [jsetg_nI hq]; exact hi_jm (hi_jm h (by omega)) (by omega)
theorem setg_n {N : MM} {q i c : Nat} {u v : Int32} (hq : q < 56) (h : i ≠ 5 ∧ i ≠ 6) : jsetg N 1 (nI q) u v i c = N i c := by
  rw [jsetg_nI hq, jm_n (by omega), jm_n (by omega)]
theorem lo_sets {M N : MM} {m w : Nat} {v : Int32} (h : loE M N) : loE M (jsets N m w v) := lo_jm h (by omega) (by omega)
theorem S_result {b : SBt} {Y : OUt} {M : MM} (I : Inv b M) (x u v : Int32) : Step b Y M yL_result cL_result 6 [(0, 12, 15, 13)] [.ref 0, .int x, .int u, .int v, .ref 102] yX6_result cX6_result 4 (some .int) [.ref 94, .int x, .int u, .int v] cmpI := by
  have hb := I.hb
  obtain ⟨τ, k, j, hP⟩ := Rel_P.mp I.1
  have hL := hP.now
  have hF := hP.fix
  obtain ⟨t, et⟩ : ∃ t, (τ k).1 = t := ⟨_, rfl⟩
  obtain ⟨dr, ed⟩ : ∃ dr, (τ k).2 = dr := ⟨_, rfl⟩
  have hX : (τ k).2 = true → (t, dr) = τ k := fun _ => by rw [← et, ← ed]
  rw [et, ed] at hL hF
  have ht := hL.1
  have hn := nn_le (dr := dr) ht
  have hm := jmc_r hL hF
  have hz := zz_0 hL.1 hL.2.2.2.2.1
  have h951 : M 95 1 = nI (zz t dr) := hL.2.2.2.2.2.2.1
  have h959 : M 95 9 = nI (nn t dr) := hL.2.2.2.2.2.2.2.1
  have h12 : M 1 2 = if dr = true then 1 else 0 := hL.2.2.2.2.2.1
  have hj := hP.1
  have hk := hP.2.1
  have hRR : rRes M x u v = gNo M x (gRes M x.toNatClampNeg u v) := res_r hL hF
  rcases noM_r hL hF (x := x) with ⟨h1, h2, h3⟩ | ⟨h1, h4, h2, h3⟩ | ⟨h1, q, hq, hx, h2, h3⟩
  · subst h1
    rw [h3] at hRR
    exact Step_ref I (by decide) (by decide) (H_result_t1 (d := 19) hb (c_result_no (d := 15) hb hRR)) (cx_result_0 (d := 18) hb (by rw [ref_95, h951]; rfl))
  · subst h1
    rw [h3] at hRR
    exact Step_ref I (by decide) (by decide) (H_result_t1 (d := 19) hb (c_result_no (d := 15) hb hRR)) (cx_result_nm (d := 17) hb (by rw [ref_95, h959]; exact fun z => h4 ((in_q2 hn).mp z)) (by rw [ref_95, h951]; exact hz.2.mpr rfl))
  · subst h1
    subst hx
    have hq56 : q < 56 := Nat.lt_of_lt_of_le hq hn
    rw [h3, nI_clamp (by omega)] at hRR
    have hdd : ∀ N : MM, hiE M N → ¬ N 95 1 ≤ 0 := fun N hN => by rw [hN 95 1 (by omega), h951]; exact hz.2.mpr rfl
    cases hr : gRes M q u v with
    | some w =>
      obtain ⟨r, z⟩ := w
      rw [hr] at hRR
      exact Step_ref I (by decide) (by decide) (H_result_t1 (d := 19) hb (c_result_no (d := 15) hb hRR)) (cx_result_no (d := 16) hb (hdd _ hi_ref) hn (by rw [ref_95]; exact h959) hq ((gRes_95 (jtr_95.trans (hiR hi_ref (by omega)))).trans hr))
    | none =>
      rw [hr] at hRR
      have huv : (¬ u < 0 ∧ ¬ 20 < u) ∧ (¬ v < 0 ∧ ¬ 20 < v) := by
        apply Decidable.byContradiction
        intro z
        unfold gRes at hr
        rw [if_pos z] at hr
        cases hr
      obtain ⟨g1, k1, rfl⟩ := int_rng (u := u) (n := 20) (by decide) huv.1.1 huv.1.2
      obtain ⟨g2, k2, rfl⟩ := int_rng (u := v) (n := 20) (by decide) huv.2.1 huv.2.2
      have hhi : hiE M (jresult M j k (nI q) (nI g1) (nI g2)) := hi_setg (hi_keep hj) hq56
      have hP2 := hP.hi hhi
      have hc := c_result_ok (d := 13) (Y := Y) hb hRR hn hm hj hk hP.2.2.1 hP.2.2.2.1 (rL_z hL)
      have hg := cx_result_G (d := 16) (M := jresult M j k (nI q) (nI g1) (nI g2)) (Y := (ju Y.1 0 (jsum (fNow (jresult M j k (nI q) (nI g1) (nI g2))) (nn t true)).toInt64, Y.2)) hb (hdd _ hhi) hn (by rw [hhi 95 9 (by omega)]; exact h959) hq ((gRes_95 (jtr_95.trans (hiR hhi (by omega)))).trans hr) hk (by rw [hhi 94 3 (by omega)]; exact hP.2.2.2.2.1)
      have hnow := now_res (X := jkeep M j k) (N := jtr (jresult M j k (nI q) (nI g1) (nI g2))) (keep_now hj hL (fun c _ => by rw [jtr_95]; exact hhi 95 c (by omega))) hq k1 k2
      refine Step_of I (H_result_r hb hc) hg (by decide) (by decide) hhi (lo_kp (lo_jm (lo_sets (lo_sets (lo_sets lo_tr))) (by omega) (by omega))) ?_ (cmp_eq ?_ (left_r (A := jresult M j k (nI q) (nI g1) (nI g2)) hnow))
      · refine rel_push (x := (t, true)) hP2 hX (rL_cells hnow (fun _ _ _ _ => rfl) (fun c _ => jm_n (by omega))) (fun z => rFix_c (hF rfl) (fun i c z1 z2 => ?_)) (fun i c z => setg_n hq56 (by omega)) (fun i c z => ?_) (fun c z => ?_)
        · exact (setg_n hq56 (by omega)).trans (keep_lo (by omega) hj)
        · unfold gResS; rw [jm_n (by omega), jsets_n (by omega), jsets_n (by omega), jsets_n (by omega)]; exact jtr_at (by omega) (by omega)
        · unfold gResS; rw [jm_n (by omega), jsets_n (by omega), jsets_n (by omega), jsets_n (by omega)]; exact jtr_96 z
      · unfold gResS; rw [kp_19, jm_n (by omega), jsets_n (by omega), jsets_n (by omega), jsets_n (by omega)]; exact jtr_19
theorem S_back {b : SBt} {Y : OUt} {M : MM} (I : Inv b M) (x : Int32) : Step b Y M yL_back cL_back 4 [(0, 9, 12, 13)] [.ref 0, .int x, .ref 102] yX6_back cX6_back 2 (some .int) [.ref 94, .int x] cmpI := by
  have hb := I.hb
  obtain ⟨τ, k, j, hP⟩ := Rel_P.mp I.1
  have hL := hP.now
  have hF := hP.fix
  obtain ⟨t, et⟩ : ∃ t, (τ k).1 = t := ⟨_, rfl⟩
  obtain ⟨dr, ed⟩ : ∃ dr, (τ k).2 = dr := ⟨_, rfl⟩
  have hX : (τ k).2 = true → (t, dr) = τ k := fun _ => by rw [← et, ← ed]
  rw [et, ed] at hL hF
  have ht := hL.1
  have hn := nn_le (dr := dr) ht
  have hm := jmc_r hL hF
  have hz := zz_0 hL.1 hL.2.2.2.2.1
  have h951 : M 95 1 = nI (zz t dr) := hL.2.2.2.2.2.2.1
  have h959 : M 95 9 = nI (nn t dr) := hL.2.2.2.2.2.2.2.1
  have h12 : M 1 2 = if dr = true then 1 else 0 := hL.2.2.2.2.2.1
  have hj := hP.1
  have hk := hP.2.1
  have hRR : rBack M x = gNo M x (gBack M x.toNatClampNeg) := back_r hL hF
  rcases noM_r hL hF (x := x) with ⟨h1, h2, h3⟩ | ⟨h1, h4, h2, h3⟩ | ⟨h1, q, hq, hx, h2, h3⟩
  · subst h1
    rw [h3] at hRR
    exact Step_ref I (by decide) (by decide) (H_back_t1 (d := 19) hb (c_back_no (d := 15) hb hRR)) (cx_back_0 (d := 18) hb (by rw [ref_95, h951]; rfl))
  · subst h1
    rw [h3] at hRR
    exact Step_ref I (by decide) (by decide) (H_back_t1 (d := 19) hb (c_back_no (d := 15) hb hRR)) (cx_back_nm (d := 17) hb (by rw [ref_95, h959]; exact fun z => h4 ((in_q2 hn).mp z)) (by rw [ref_95, h951]; exact hz.2.mpr rfl))
  · subst h1
    subst hx
    have hq56 : q < 56 := Nat.lt_of_lt_of_le hq hn
    rw [h3, nI_clamp (by omega)] at hRR
    have hdd : ∀ N : MM, hiE M N → ¬ N 95 1 ≤ 0 := fun N hN => by rw [hN 95 1 (by omega), h951]; exact hz.2.mpr rfl
    cases hr : gBack M q with
    | some w =>
      obtain ⟨r, z⟩ := w
      rw [hr] at hRR
      exact Step_ref I (by decide) (by decide) (H_back_t1 (d := 19) hb (c_back_no (d := 15) hb hRR)) (cx_back_no (d := 16) hb (hdd _ hi_ref) hn (by rw [ref_95]; exact h959) hq ((gBack_95 (jtr_95.trans (hiR hi_ref (by omega)))).trans hr))
    | none =>
      rw [hr] at hRR
      have hhi : hiE M (jresult M j k (nI q) (-1) (-1)) := hi_setg (hi_keep hj) hq56
      have hP2 := hP.hi hhi
      have hc := c_back_ok (d := 13) (Y := Y) hb hRR hn hm hj hk hP.2.2.1 hP.2.2.2.1 (rL_z hL)
      have hg := cx_back_G (d := 16) (M := jresult M j k (nI q) (-1) (-1)) (Y := (ju Y.1 0 (jsum (fNow (jresult M j k (nI q) (-1) (-1))) (nn t true)).toInt64, Y.2)) hb (hdd _ hhi) hn (by rw [hhi 95 9 (by omega)]; exact h959) hq ((gBack_95 (jtr_95.trans (hiR hhi (by omega)))).trans hr) hk (by rw [hhi 94 3 (by omega)]; exact hP.2.2.2.2.1)
      have hnow := now_back (X := jkeep M j k) (N := jtr (jresult M j k (nI q) (-1) (-1))) (keep_now hj hL (fun c _ => by rw [jtr_95]; exact hhi 95 c (by omega))) hq
      refine Step_of I (H_back_r hb hc) hg (by decide) (by decide) hhi (lo_kp (lo_jm (lo_sets (lo_sets (lo_sets lo_tr))) (by omega) (by omega))) ?_ (cmp_eq ?_ (left_r (A := jresult M j k (nI q) (-1) (-1)) hnow))
      · refine rel_push (x := (t, true)) hP2 hX (rL_cells hnow (fun _ _ _ _ => rfl) (fun c _ => jm_n (by omega))) (fun z => rFix_c (hF rfl) (fun i c z1 z2 => ?_)) (fun i c z => setg_n hq56 (by omega)) (fun i c z => ?_) (fun c z => ?_)
        · exact (setg_n hq56 (by omega)).trans (keep_lo (by omega) hj)
        · unfold gBackS; rw [jm_n (by omega), jsets_n (by omega), jsets_n (by omega), jsets_n (by omega)]; exact jtr_at (by omega) (by omega)
        · unfold gBackS; rw [jm_n (by omega), jsets_n (by omega), jsets_n (by omega), jsets_n (by omega)]; exact jtr_96 z
      · unfold gBackS; rw [kp_19, jm_n (by omega), jsets_n (by omega), jsets_n (by omega), jsets_n (by omega)]; exact jtr_19
theorem S_putOff {b : SBt} {Y : OUt} {M : MM} (I : Inv b M) (x u : Int32) : Step b Y M yL_putOff cL_putOff 5 [(0, 10, 13, 13)] [.ref 0, .int x, .int u, .ref 102] yX6_putOff cX6_putOff 3 (some .int) [.ref 94, .int x, .int u] cmpI := by
  have hb := I.hb
  obtain ⟨τ, k, j, hP⟩ := Rel_P.mp I.1
  have hL := hP.now
  have hF := hP.fix
  obtain ⟨t, et⟩ : ∃ t, (τ k).1 = t := ⟨_, rfl⟩
  obtain ⟨dr, ed⟩ : ∃ dr, (τ k).2 = dr := ⟨_, rfl⟩
  have hX : (τ k).2 = true → (t, dr) = τ k := fun _ => by rw [← et, ← ed]
  rw [et, ed] at hL hF
  have ht := hL.1
  have hn := nn_le (dr := dr) ht
  have hm := jmc_r hL hF
  have hz := zz_0 hL.1 hL.2.2.2.2.1
  have h951 : M 95 1 = nI (zz t dr) := hL.2.2.2.2.2.2.1
  have h959 : M 95 9 = nI (nn t dr) := hL.2.2.2.2.2.2.2.1
  have h12 : M 1 2 = if dr = true then 1 else 0 := hL.2.2.2.2.2.1
  have hj := hP.1
  have hk := hP.2.1
  have hRR : rPut M x u = gNo M x (gPut M x.toNatClampNeg u) := put_r hL hF
  rcases noM_r hL hF (x := x) with ⟨h1, h2, h3⟩ | ⟨h1, h4, h2, h3⟩ | ⟨h1, q, hq, hx, h2, h3⟩
  · subst h1
    rw [h3] at hRR
    exact Step_ref I (by decide) (by decide) (H_putOff_t1 (d := 19) hb (c_putOff_no (d := 15) hb hRR)) (cx_putOff_0 (d := 18) hb (by rw [ref_95, h951]; rfl))
  · subst h1
    rw [h3] at hRR
    exact Step_ref I (by decide) (by decide) (H_putOff_t1 (d := 19) hb (c_putOff_no (d := 15) hb hRR)) (cx_putOff_nm (d := 17) hb (by rw [ref_95, h959]; exact fun z => h4 ((in_q2 hn).mp z)) (by rw [ref_95, h951]; exact hz.2.mpr rfl))
  · subst h1
    subst hx
    have hq56 : q < 56 := Nat.lt_of_lt_of_le hq hn
    rw [h3, nI_clamp (by omega)] at hRR
    have hdd : ∀ N : MM, hiE M N → ¬ N 95 1 ≤ 0 := fun N hN => by rw [hN 95 1 (by omega), h951]; exact hz.2.mpr rfl
    cases hr : gPut M q u with
    | some w =>
      obtain ⟨r, z⟩ := w
      rw [hr] at hRR
      exact Step_ref I (by decide) (by decide) (H_putOff_t1 (d := 19) hb (c_putOff_no (d := 15) hb hRR)) (cx_putOff_no (d := 16) hb (hdd _ hi_ref) hn (by rw [ref_95]; exact h959) hq (fun i hi => by unfold jof; rw [ref_95]; exact hho_r hL i hi) ((gPut_95 (jtr_95.trans (hiR hi_ref (by omega)))).trans hr))
    | none =>
      rw [hr] at hRR
      obtain ⟨h1, h2, h3⟩ : (¬ u < 1 ∧ ¬ 9 < u) ∧ jof M q 2 = M 95 2 ∧ (¬ M 95 2 + u < 0 ∧ ¬ M 95 1 - 1 < M 95 2 + u) := by
        unfold gPut at hr
        by_cases z1 : ¬ (¬ u < 1 ∧ ¬ 9 < u)
        · rw [if_pos z1] at hr; cases hr
        · rw [if_neg z1] at hr
          by_cases z2 : jof M q 4 = 1
          · rw [if_pos z2] at hr; cases hr
          · rw [if_neg z2] at hr
            by_cases z3 : ¬ jof M q 2 = M 95 2
            · rw [if_pos z3] at hr; cases hr
            · rw [if_neg z3] at hr
              by_cases z4 : ¬ (¬ M 95 2 + u < 0 ∧ ¬ M 95 1 - 1 < M 95 2 + u)
              · rw [if_pos z4] at hr; cases hr
              · exact ⟨Decidable.not_not.mp z1, Decidable.not_not.mp z3, Decidable.not_not.mp z4⟩
      obtain ⟨e, k1, rfl⟩ := int_rng (u := u) (n := 9) (by decide) (fun z => h1.1 (Int32.lt_trans z (by decide))) h1.2
      have he : 1 ≤ e := by
        rcases Nat.eq_zero_or_pos e with z | z
        · subst z; exact absurd (by decide) h1.1
        · exact z
      obtain ⟨w, -, w1, w2, w3⟩ := id hL.2.2.2.2.2.2.2.2.1
      have w1 : M 1 3 = nI w := w1
      have hw3 := w3 rfl
      have hw14 := wT_le ht
      have hwe : w + e < wT t := by
        rw [w2, h951, nI_add, in_q2 (show zz t true ≤ 56 by show wT t ≤ 56; omega)] at h3
        obtain ⟨q', y1, y2⟩ := h3
        have := (nI_eq (by omega) (by have : q' < wT t := y1; omega)).mp y2
        have : q' < wT t := y1
        omega
      have hput : ∀ X : MM, jput 56 X 4 (nI q) (X 1 3 + nI e) = jm X 4 q (X 1 3 + nI e) := fun X => jput_nI hq56 (by decide)
      have hhi : hiE M (jputoff M j k (nI q) (nI e)) := hi_put (hi_keep hj) (by omega)
      have hP2 := hP.hi hhi
      have hc := c_putOff_ok (d := 13) (Y := Y) hb hRR hn hm hj hk hP.2.2.1 hP.2.2.2.1 (rL_z hL)
      have hg := cx_putOff_G (d := 16) (M := jputoff M j k (nI q) (nI e)) (Y := (ju Y.1 0 (jsum (fCl (jputoff M j k (nI q) (nI e)) (nI q) (jkeep M j k 1 3 + nI e)) (nn t true)).toInt64, Y.2)) hb (hdd _ hhi) hn (by rw [hhi 95 9 (by omega)]; exact h959) hq (fun i hi => by unfold jof; rw [hhi 95 _ (by omega)]; exact hho_r hL i hi) ((gPut_95 (jtr_95.trans (hiR hhi (by omega)))).trans hr) hk (by rw [hhi 94 3 (by omega)]; exact hP.2.2.2.2.1)
      have e95 : jtr (jputoff M j k (nI q) (nI e)) 95 = M 95 := jtr_95.trans (hiR hhi (by omega))
      have hnow := now_put (X := jkeep M j k) (N := jtr (jputoff M j k (nI q) (nI e))) (keep_now hj hL (fun c _ => by rw [e95])) hq (by rw [keep_lo (by omega) hj]; exact w1) (by rw [e95]; exact w2) he hwe (by unfold jof; rw [e95]; exact h2.trans w2)
      have hfix : rFix t (jputoff M j k (nI q) (nI e)) := rFix_c (hF rfl) (fun i c z1 z2 => (m_put (by omega)).trans (keep_lo (by omega) hj))
      refine Step_of I (H_putOff_r hb hc) hg (by decide) (by decide) hhi (lo_kp (lo_jm (lo_sets (lo_sets lo_tr)) (by omega) (by omega))) ?_ (cmp_eq ?_ ?_)
      · refine rel_push (x := (t, true)) hP2 hX (rL_cells hnow (fun _ _ _ _ => rfl) (fun c _ => jm_n (by omega))) (fun _ => hfix) (fun i c z => m_put (by omega)) (fun i c z => ?_) (fun c z => ?_)
        · unfold gPutS; rw [jm_n (by omega), jsets_n (by omega), jsets_n (by omega)]; exact jtr_at (by omega) (by omega)
        · unfold gPutS; rw [jm_n (by omega), jsets_n (by omega), jsets_n (by omega)]; exact jtr_96 z
      · unfold gPutS; rw [kp_19, jm_n (by omega), jsets_n (by omega), jsets_n (by omega)]; exact jtr_19
      · rw [cl_r (A := jputoff M j k (nI q) (nI e)) hnow (fun _ => hfix) hq, keep_lo (by omega) hj, e95, wk_r hL]
theorem S_next {b : SBt} {Y : OUt} {M : MM} (I : Inv b M) : Step b Y M yL_next cL_next 3 [(0, 8, 11, 13)] [.ref 0, .ref 102] yX6_next cX6_next 1 (some .int) [.ref 94] cmpI := by
  have hb := I.hb
  obtain ⟨τ, k, j, hP⟩ := Rel_P.mp I.1
  have hL := hP.now
  have hF := hP.fix
  obtain ⟨t, et⟩ : ∃ t, (τ k).1 = t := ⟨_, rfl⟩
  obtain ⟨dr, ed⟩ : ∃ dr, (τ k).2 = dr := ⟨_, rfl⟩
  have hX : (τ k).2 = true → (t, dr) = τ k := fun _ => by rw [← et, ← ed]
  rw [et, ed] at hL hF
  have ht := hL.1
  have hn := nn_le (dr := dr) ht
  have hm := jmc_r hL hF
  have hz := zz_0 hL.1 hL.2.2.2.2.1
  have h951 : M 95 1 = nI (zz t dr) := hL.2.2.2.2.2.2.1
  have h959 : M 95 9 = nI (nn t dr) := hL.2.2.2.2.2.2.2.1
  have h12 : M 1 2 = if dr = true then 1 else 0 := hL.2.2.2.2.2.1
  have hj := hP.1
  have hk := hP.2.1
  have hRR := next_r hL hF
  cases dr with
  | false =>
    rw [if_pos (by rw [h951]; rfl)] at hRR
    exact Step_ref I (by decide) (by decide) (H_next_t1 (d := 19) hb (c_next_no (d := 15) hb hn hm hRR)) (cx_next_0 (d := 18) hb (by rw [ref_95, h951]; rfl))
  | true =>
    have hdd : ∀ N : MM, hiE M N → ¬ N 95 1 ≤ 0 := fun N hN => by rw [hN 95 1 (by omega), h951]; exact hz.2.mpr rfl
    rw [if_neg (fun z => hdd M hiE_0 (by rw [z]; exact Int32.le_refl 0))] at hRR
    cases hr : gNext M (nn t true) with
    | some w =>
      obtain ⟨r, z⟩ := w
      rw [hr] at hRR
      exact Step_ref I (by decide) (by decide) (H_next_t1 (d := 19) hb (c_next_no (d := 15) hb hn hm hRR)) (cx_next_no (d := 16) hb (hdd _ hi_ref) hn (by rw [ref_95]; exact h959) ((gNext_95 (jtr_95.trans (hiR hi_ref (by omega)))).trans hr))
    | none =>
      rw [hr] at hRR
      obtain ⟨w, -, w1, w2, w3⟩ := id hL.2.2.2.2.2.2.2.2.1
      have w1 : M 1 3 = nI w := w1
      have hw3 := w3 rfl
      have hw14 := wT_le ht
      have hw1 : w + 1 < wT t := by
        have hne : ¬ M 95 2 = M 95 1 - 1 := by
          intro z
          unfold gNext at hr
          by_cases y : ¬ jfst (gLeft M) (nn t true) = -1
          · rw [if_pos y] at hr; cases hr
          · rw [if_neg y, if_pos z] at hr; cases hr
        rw [w2, h951, show zz t true = wT t from rfl] at hne
        obtain ⟨k1, hk1⟩ : ∃ k1, wT t = k1 + 1 := ⟨wT t - 1, by omega⟩
        rw [hk1, nI_pred, nI_eq (by omega) (by omega)] at hne
        omega
      have hhi : hiE M (jnext M j k) := hi_jm (hi_keep hj) (by omega)
      have hP2 := hP.hi hhi
      have hc := c_next_ok (d := 13) (Y := Y) hb hn hm hRR hj hk hP.2.2.1 hP.2.2.2.1 (rL_z hL)
      have e95 : jtr (jnext M j k) 95 = M 95 := jtr_95.trans (hiR hhi (by omega))
      have hg := cx_next_G (d := 16) (M := jnext M j k) (Y := (ju Y.1 0 (jnext M j k 1 3).toInt64, Y.2)) hb (hdd _ hhi) hn (by rw [hhi 95 9 (by omega)]; exact h959) ((gNext_95 e95).trans hr) hk (by rw [hhi 94 3 (by omega)]; exact hP.2.2.2.2.1)
      have hnow := now_next (X := jkeep M j k) (N := jtr (jnext M j k)) (keep_now hj hL (fun c _ => by rw [e95])) (by rw [keep_lo (by omega) hj]; exact w1) (by rw [e95]; exact w2) hw1
      refine Step_of I (H_next_r hb hc) hg (by decide) (by decide) hhi (lo_kp (lo_jm (lo_jm lo_tr (by omega) (by omega)) (by omega) (by omega))) ?_ (cmp_eq ?_ ?_)
      · refine rel_push (x := (t, true)) hP2 hX (rL_cells hnow (fun _ _ _ _ => rfl) (fun c _ => jm_n (by omega))) (fun _ => rFix_c (hF rfl) (fun i c z1 z2 => (jm_n (by omega)).trans (keep_lo (by omega) hj))) (fun i c z => jm_n (by omega)) (fun i c z => ?_) (fun c z => ?_)
        · rw [jm_n (by omega), jm_n (by omega)]; exact jtr_at (by omega) (by omega)
        · rw [jm_n (by omega), jm_n (by omega)]; exact jtr_96 z
      · rw [kp_19, jm_n (by omega), jm_n (by omega)]; exact jtr_19
      · rw [e95, ← wk_r hL]
        unfold jnext
        rw [jm_s, keep_lo (by omega) hj]
end

section
/-! ===== steps: the draw, undo, save, restore, append ===== -/
theorem c_append_full {d : Nat} {b : SBt} {Y : OUt} {M : MM} (hb : 104 ≤ b.2.1) {v : Int32} (h0 : M 86 0 = 60) : CM (d + 1) 1 6 yX5_append cX5_append 2 (some .int) [.ref 0, .int v] b Y M (.inr "java/lang/IllegalStateException") (M) := by
  refine Con.of (by decide +kernel) (Nat.le_of_ble_eq_true rfl) rfl fun p l e s m args below meth c D tyc A ad0 x hr htab hname => ?_
  change JJ _ _ _ _ _ _ _ _ _ _ _ _ _ _ _ _ _ 0 [some (.ref 0), some (.int v)] [] _ 0 0
  refine j_aload_n x dX5_append_0 rfl ?_
  refine j2_getr (k := 7) (r := 86) x hb dX5_append_1 jc_9 wfX5_47 (by decide) rfl ?_
  refine j2_callVi x hb dX5_append_4 m_X4_isFull (CM_v (c_isFull (d := d) hb) (jb_t (show ¬ M 86 0 < 60 by rw [h0]; decide))) wmX5_302 jc_8 rfl rfl rfl (Nat.le_of_ble_eq_true rfl) (j_fit_rm (by omega) (by omega) (by omega)) rfl ?_
  refine j_if_eq (tgt := 21) x dX5_append_7 (by decide) (fun hc => absurd hc (by decide)) (fun hc => ?_)
  exact j_throwSW x exX5_305 wsX5_307 dX5_append_10 dX5_append_13 dX5_append_14 dX5_append_17 dX5_append_20 htab (by omega) (by omega) ⟨rfl, rfl⟩
theorem now_draw {t : Nat} {X N : MM} (h : rL t false (lgC X 1) (N 95)) (h2 : 2 ≤ t) (ht : t ≤ 8) : rL t true (lgC (jstart (jly t (gP t - 1) X (wT t)) 1) 1) (gdw N t (wT t) 95) := by
  obtain ⟨a1, a2, a3, a4, a5, a6, a7, a8, ⟨w, b1, b2, b3, b4⟩, ⟨q1, c1, c2, c3⟩, ⟨q2, d1, d2, d3⟩, ⟨c, e1, e2, e3, e4⟩, f⟩ := h
  have hw0 : w = 0 := b1 rfl
  subst hw0
  have hw2 := wT_pos h2
  have hw14 := wT_le ht
  have hnT := nT_le ht
  have hfx := jly_fix (X := X) h2 ht
  have hA : ∀ i k, i < 4 → ¬ (i = 1 ∧ (k = 2 ∨ k = 3)) → i ≠ 0 → jstart (jly t (gP t - 1) X (wT t)) 1 i k = X i k := fun i k h1 h2 h3 => by rw [jstart_n (by omega), jly_n (by omega)]
  have hB : ∀ k, k < 18 → k ≠ 9 → k ≠ 1 → gdw N t (wT t) 95 k = N 95 k := fun k h1 h2 h3 => gdw_n (by omega) _
  have h9 : N 95 9 = 0 := a8
  refine ⟨ht, (hA 1 0 (by omega) (by omega) (by omega)).trans a2, (hB 0 (by omega) (by omega) (by omega)).trans a3, fun i hi => ?_, fun _ => h2, ?_, gdw_1 _, gdw_9 h9 _, ⟨0, fun _ => rfl, ?_, (hB 2 (by omega) (by omega) (by omega)).trans b3, fun _ => by omega⟩, ⟨q1, c1, (hA 1 4 (by omega) (by omega) (by omega)).trans c2, (hB 3 (by omega) (by omega) (by omega)).trans c3⟩, ⟨q2, d1, (hA 1 5 (by omega) (by omega) (by omega)).trans d2, (hB 4 (by omega) (by omega) (by omega)).trans d3⟩, ⟨c, e1, (hA 1 6 (by omega) (by omega) (by omega)).trans e2, (hB 5 (by omega) (by omega) (by omega)).trans e3, fun i hi => ?_⟩, fun m hm => ?_⟩
  · rw [hB (10 + i) (by omega) (by omega) (by omega)]; exact (hA 2 i (by omega) (by omega) (by omega)).trans (a4 i hi)
  · show jstart (jly t (gP t - 1) X (wT t)) 1 1 2 = 1
    unfold jstart
    rw [jfill_n (by omega), jfill_n (by omega)]
    unfold jrow
    rw [if_neg (by omega), jm_n (by omega), jm_s]
  · show jstart (jly t (gP t - 1) X (wT t)) 1 1 3 = nI 0
    unfold jstart
    rw [jfill_n (by omega), jfill_n (by omega)]
    unfold jrow
    rw [if_neg (by omega), jm_s]
    rfl
  · rw [hB (6 + i) (by omega) (by omega) (by omega)]
    show jstart (jly t (gP t - 1) X (wT t)) 1 3 i = _ ∧ r04 (jstart (jly t (gP t - 1) X (wT t)) 1 3 i)
    rw [hA 3 i (by omega) (by omega) (by omega)]
    exact e4 i hi
  · have hm : m < nT t := hm
    obtain ⟨x1, x2, x3⟩ := hfx.2.2.1 m hm
    rw [mt_of, gdw_TB (by omega) hm, gdw_TB (by omega) hm, gdw_TB (by omega) hm, gdw_TB (by omega) hm, gdw_TB (by omega) hm, gdw_TB (by omega) hm, TB_23 ht hm]
    obtain ⟨z1, z2, z, y1, y2, y3, y4, y5, y6, y7, y8, y9, y10, -⟩ := TB_ok ht hm
    have h4 : jstart (jly t (gP t - 1) X (wT t)) 1 4 m = TB t m 3 := by
      unfold jstart
      rw [jfill_n (by omega), jfill_n (by omega)]
      unfold jrow
      rw [if_pos ⟨rfl, by omega⟩, jm_n (by omega), jm_n (by omega)]
      exact x3
    have h5 : jstart (jly t (gP t - 1) X (wT t)) 1 5 m = -1 := by
      unfold jstart
      rw [jfill_n (by omega)]
      unfold jfill
      rw [if_pos ⟨rfl, by omega⟩]
    have h6 : jstart (jly t (gP t - 1) X (wT t)) 1 6 m = -1 := by
      unfold jstart jfill
      rw [if_pos ⟨rfl, by omega⟩]
    exact ⟨rfl, rfl, rfl, h4, ⟨z, z, y8, y8, Nat.le_refl _, y4, by rw [y10, if_pos rfl]⟩, Or.inr ⟨y9, h5, h6⟩⟩
theorem hi_ly {M N : MM} {t q n : Nat} (h : hiE M N) : hiE M (jly t q N n) := fun i c z => by
  rw [jly_n (by omega)]; exact h i c z
theorem hi_start {M N : MM} (h : hiE M N) : hiE M (jstart N 1) := fun i c z => by
  rw [jstart_n (by omega)]; exact h i c z
theorem lo_dw {M N : MM} {t n : Nat} (h : loE M N) : loE M (gdw N t n) := fun i c z => by
  rw [gdw_n (by omega)]; exact h i c z
theorem S_draw {b : SBt} {Y : OUt} {M : MM} (I : Inv b M) : Step b Y M yL_draw cL_draw 3 [(0, 8, 11, 13)] [.ref 0, .ref 102] yX6_draw cX6_draw 9 (some .int) [.ref 94] cmpI := by
  have hb := I.hb
  obtain ⟨τ, k, j, hP⟩ := Rel_P.mp I.1
  have hL := hP.now
  have hF := hP.fix
  obtain ⟨t, et⟩ : ∃ t, (τ k).1 = t := ⟨_, rfl⟩
  obtain ⟨dr, ed⟩ : ∃ dr, (τ k).2 = dr := ⟨_, rfl⟩
  rw [et, ed] at hL hF
  have ht := hL.1
  have h10 : M 1 0 = nI t := hL.2.1
  have h950 : M 95 0 = nI t := hL.2.2.1
  have hz := zz_0 hL.1 hL.2.2.2.2.1
  have h951 : M 95 1 = nI (zz t dr) := hL.2.2.2.2.2.2.1
  have h959 : M 95 9 = nI (nn t dr) := hL.2.2.2.2.2.2.2.1
  have h12 : M 1 2 = if dr = true then 1 else 0 := hL.2.2.2.2.2.1
  have hj := hP.1
  have hk := hP.2.1
  cases dr with
  | true =>
    exact Step_ref I (by decide) (by decide) (H_draw_t1 (d := 19) hb (c_draw_no (d := 17) hb (show rDraw M = some (4, 0) by unfold rDraw; rw [if_pos (by rw [h12]; decide)]))) (cx_draw_dr (d := 18) hb (by rw [ref_95, h951]; exact hz.2.mpr rfl))
  | false =>
    by_cases h2 : 2 ≤ t
    · have hr : rDraw M = none := by
        unfold rDraw
        rw [if_neg (by rw [h12]; decide), if_neg (fun z => z (by rw [h10]; exact (nI_le h2 (by omega) : nI 2 ≤ nI t)))]
      have hl : (t % 2 = 0 ∧ gP t - 1 + 1 = t) ∨ (t % 2 = 1 ∧ gP t - 1 = t) := by unfold gP; omega
      have hhi : hiE M (jdraw M j k t (gP t - 1)) := hi_start (hi_ly (hi_keep hj))
      have hP2 := hP.hi hhi
      have hc := c_draw_ok (d := 13) (Y := Y) hb hr h10 hl (by unfold gP; omega) ht hj hk hP.2.2.1 hP.2.2.2.1 (rL_z hL)
      have hg := cx_draw_G (d := 18) (M := jdraw M j k t (gP t - 1)) (Y := (ju Y.1 0 (nI (2 * (gP t - 1))).toInt64, Y.2)) hb (by rw [hhi 95 1 (by omega), h951]; exact Int32.le_refl 0) (by rw [hhi 95 0 (by omega)]; exact h950) (by rw [hhi 95 9 (by omega)]; exact h959) h2 ht hk (by rw [hhi 94 3 (by omega)]; exact hP.2.2.2.2.1)
      have hnow := now_draw (X := jkeep M j k) (N := jtr (jdraw M j k t (gP t - 1))) (keep_now hj hL (fun c _ => by rw [jtr_95]; exact hhi 95 c (by omega))) h2 ht
      refine Step_of I (H_draw_r hb hc) hg (by decide) (by decide) hhi (lo_kp (lo_dw lo_tr)) ?_ (cmp_eq ?_ rfl)
      · refine rel_push (x := (t, true)) hP2 (fun q => by rw [ed] at q; cases q) hnow (fun _ => rFix_c (jly_fix (X := jkeep M j k) h2 ht) (fun i c z1 z2 => jstart_n (by omega))) (fun i c z => ?_) (fun i c z => ?_) (fun c z => ?_)
        · unfold jdraw; rw [jstart_n (by omega), jly_n (by omega)]
        · rw [gdw_n (by omega)]; exact jtr_at (by omega) (by omega)
        · rw [gdw_n (by omega)]; exact jtr_96 z
      · rw [kp_19, gdw_n (by omega)]; exact jtr_19
    · have hg := cx_draw_few (d := 18) (M := jref M 6 (M 1 0)) (Y := Y) hb (by rw [ref_95, h951]; rfl) (by rw [ref_95, h950]; exact (nI_lt (by omega) (by decide) : nI t < nI 2))
      rw [jtr_95, ref_95, h950, ← h10] at hg
      exact Step_ref I (by decide) (by decide) (H_draw_t1 (d := 19) hb (c_draw_no (d := 17) hb (show rDraw M = some (6, M 1 0) by unfold rDraw; rw [if_neg (by rw [h12]; decide), if_pos (fun z => by
        rw [h10] at z
        exact absurd (nI_lt (a := t) (b := 2) (by omega) (by decide)) (Int32.not_lt.mpr z))]))) hg
/-! undo, save, restore -/
theorem cmp_19 {M : MM} {Y : OUt} {v w : Int32} (h : M 94 19 = 0) (e : v = w) : cmpI 0 (.int w) (ju Y.1 0 v.toInt64, Y.2) M := cmp_eq h e
theorem gUndo_at {N : MM} {k i c : Nat} (h : i ≠ 95) (h2 : ¬ (i = 94 ∧ (c = 3 ∨ c = 19))) : gUndo N k i c = N i c := by
  unfold gUndo
  rw [jcp_n h, jm_n (by omega), jm_n (by omega)]
theorem gUndo_95 {N : MM} {k c : Nat} (hc : c < 466) : gUndo N k 95 c = N 97 (466 * k + c) := by
  unfold gUndo
  rw [show (95 : Nat) = 95 from rfl, show jcp (jm (jm N 94 19 0) 94 3 (nI k)) 97 (466 * k) 95 0 466 95 c = jcp (jm (jm N 94 19 0) 94 3 (nI k)) 97 (466 * k) 95 0 466 95 (0 + c) by rw [Nat.zero_add], jcp_at hc, jm_n (by omega), jm_n (by omega)]
theorem rel_undo {τ : Nat → Nat × Bool} {k j : Nat} {A B : MM} (h : RelP τ (k + 1) j A B) : Rel (jgl A j (k + 1)) (gUndo B k) := by
  obtain ⟨a1, a2, a3, a4, a5, a6, a7, a8, a9, a10, a11, a12⟩ := h
  have hA : ∀ i c, i < 1 ∨ 6 < i → i ≠ 13 → jgl A j (k + 1) i c = A i c := fun i c h1 h2 => by
    unfold jgl
    rw [jlg_n (by omega), jm_n (by omega), jm_n (by omega)]
  have hB : ∀ i c, i ≠ 95 → ¬ (i = 94 ∧ (c = 3 ∨ c = 19)) → gUndo B k i c = B i c := fun i c h1 h2 => gUndo_at h1 h2
  have hk1 := a7 k (Nat.lt_succ_self k)
  rw [show (j + 9 - (k + 1) + k) % 9 = (j + 8) % 9 by omega] at hk1
  have hj8 : (j + 8) % 9 < 9 := Nat.mod_lt _ (by decide)
  refine ⟨τ, k, (j + 8) % 9, hj8, by omega, ?_, ?_, ?_, ?_, fun i hi => ?_, fun i hi => a8 i (by omega), fun hd => ?_, rSv_c a10 (fun i c q => hA i c (by omega) (by omega)) (fun i c q => hB i c (by omega) (by omega)), rTx_c a11 (fun i c q => hA i c (by omega) (by omega)) (fun i c q => hB i c (by omega) (by omega)), rRs_c a12 (fun c q => hA 0 c (by omega) (by omega)) (fun c q => hB 94 c (by omega) (by omega))⟩
  · unfold jgl; rw [jlg_n (by omega), jm_n (by omega), jm_s]
  · unfold jgl; rw [jlg_n (by omega), jm_s]; rfl
  · unfold gUndo; rw [jcp_n (by omega), jm_s]
  · refine rL_copy (A := jm (jm A 13 1 (nI ((j + 8) % 9))) 13 2 (nI (k + 1 - 1))) (a := 15 + 6 * ((j + 8) % 9)) (g := 1) (rL_cells hk1 (fun i c q1 q2 => ?_) (fun _ _ => rfl)) (fun i c _ _ => rfl) (fun c hc => gUndo_95 hc)
    rw [jm_n (by omega), jm_n (by omega)]
  · have h1 := a7 i (by omega)
    rw [show (j + 9 - (k + 1) + i) % 9 = ((j + 8) % 9 + 9 - k + i) % 9 by omega] at h1
    exact rL_cells h1 (fun i2 c q1 q2 => hA i2 c (by omega) (by omega)) (fun c _ => hB 97 _ (by omega) (by omega))
  · have e1 := a8 k (Nat.lt_succ_self k) hd
    rw [← e1] at hd ⊢
    exact rFix_c (a9 hd) (fun i c q1 q2 => hA i c (by omega) (by omega))
theorem S_undo {b : SBt} {Y : OUt} {M : MM} (I : Inv b M) : Step b Y M yL_undo cL_undo 3 [(0, 8, 11, 101)] [.ref 0, .ref 102] yX6_undo cX6_undo 2 (some .int) [.ref 94] cmpI := by
  have hb := I.hb
  obtain ⟨τ, k, j, hP⟩ := Rel_P.mp I.1
  have hj := hP.1
  have hk := hP.2.1
  cases k with
  | zero =>
    exact Step_of I (H_undo_t1 (d := 19) hb (c_undo_no (d := 19) (Y := Y) hb hP.2.2.2.1)) (cx_undo_0 (d := 19) hb hP.2.2.2.2.1) (by decide) (by decide) hiE_0 lo_19t (rel_19t I.1) (cmp_no jm_s (by decide))
  | succ k =>
    have hs := hP.2.2.2.2.2.2.1 k (Nat.lt_succ_self k)
    rw [show (j + 9 - (k + 1) + k) % 9 = (j + 8) % 9 by omega] at hs
    have hhi : hiE M (jgl M j (k + 1)) := hi_lg (hi_jm (hi_jm hiE_0 (by omega)) (by omega)) (by omega)
    have hc := c_undo_ok (d := 15) (Y := Y) hb hj (Nat.succ_pos k) hk hP.2.2.1 hP.2.2.2.1 (rL_z hs)
    have hg := cx_undo_ok (d := 19) (M := jgl M j (k + 1)) (Y := (ju Y.1 0 (nI (k + 1 - 1)).toInt64, Y.2)) hb (show k < 8 by omega) (by rw [hhi 94 3 (by omega)]; exact hP.2.2.2.2.1)
    refine Step_of I (H_undo_r hb hc) hg (by decide) (by decide) hhi (lo_jcp (lo_jm (lo_jm loE_0 (by omega) (by omega)) (by omega) (by omega)) (by omega) (by omega)) (rel_undo (hP.hi hhi)) (cmp_eq ?_ rfl)
    unfold gUndo
    rw [jcp_n (by omega), jm_n (by omega), jm_s]
theorem rel_save {A B : MM} (h : Rel A B) : Rel (jm (jlg A 1 7) 0 2 1) (jcp (jm (jm B 94 19 0) 94 5 1) 95 0 98 0 466) := by
  obtain ⟨τ, k, j, a1, a2, a3, a4, a5, a6, a7, a8, a9, a10, a11, a12⟩ := h
  have hA : ∀ i c, i < 7 ∨ 12 < i → ¬ (i = 0 ∧ c = 2) → jm (jlg A 1 7) 0 2 1 i c = A i c := fun i c h1 h2 => by rw [jm_n (by omega), jlg_n (by omega)]
  have hB : ∀ i c, i ≠ 98 → ¬ (i = 94 ∧ (c = 5 ∨ c = 19)) → jcp (jm (jm B 94 19 0) 94 5 1) 95 0 98 0 466 i c = B i c := fun i c h1 h2 => by rw [jcp_n h1, jm_n (by omega), jm_n (by omega)]
  refine ⟨τ, k, j, a1, a2, (hA 13 1 (by omega) (by omega)).trans a3, (hA 13 2 (by omega) (by omega)).trans a4, (hB 94 3 (by omega) (by omega)).trans a5, rL_cells a6 (fun i c _ _ => hA i c (by omega) (by omega)) (fun c _ => hB 95 c (by omega) (by omega)), fun i hi => rL_cells (a7 i hi) (fun i2 c _ _ => hA i2 c (by omega) (by omega)) (fun c _ => hB 97 _ (by omega) (by omega)), a8, fun hd => rFix_c (a9 hd) (fun i c _ _ => hA i c (by omega) (by omega)), Or.inr ⟨jm_s, ?_, (τ k).1, (τ k).2, ?_⟩, rTx_c a11 (fun i c q => hA i c (by omega) (by omega)) (fun i c q => hB i c (by omega) (by omega)), rRs_c a12 (fun c q => hA 0 c (by omega) (by omega)) (fun c q => hB 94 c (by omega) (by omega))⟩
  · rw [jcp_n (by omega), jm_s]
  · refine rL_copy (A := A) (a := 1) (g := 7) a6 (fun i c q1 q2 => by rw [jm_n (by omega)]) (fun c hc => ?_)
    rw [show jcp (jm (jm B 94 19 0) 94 5 1) 95 0 98 0 466 98 c = jcp (jm (jm B 94 19 0) 94 5 1) 95 0 98 0 466 98 (0 + c) by rw [Nat.zero_add], jcp_at hc, Nat.zero_add, jm_n (by omega), jm_n (by omega)]
theorem gRest_at {N : MM} {i c : Nat} (h : i ≠ 95) (h2 : ¬ (i = 94 ∧ (c = 3 ∨ c = 19))) : gRest N i c = N i c := by
  unfold gRest
  rw [jm_n (by omega), jcp_n h, jm_n (by omega)]
theorem gRest_95 {N : MM} {c : Nat} (hc : c < 466) : gRest N 95 c = N 98 c := by
  unfold gRest
  rw [jm_n (by omega), show jcp (jm N 94 19 0) 98 0 95 0 466 95 c = jcp (jm N 94 19 0) 98 0 95 0 466 95 (0 + c) by rw [Nat.zero_add], jcp_at hc, Nat.zero_add, jm_n (by omega)]
/-- a league put back: whatever the class's fixtures then are -/
theorem rel_rest {A B A2 : MM} {t : Nat} {dr : Bool} (h : Rel A B) (hs : rL t dr (lgC A 7) (B 98)) (hA : ∀ i c, i < 69 → A2 i c = jres1 A i c) (hA8 : ∀ i c, i = 86 ∨ i = 87 → A2 i c = A i c) (hf : dr = true → rFix t A2) : Rel A2 (gRest B) := by
  obtain ⟨τ, k, j, a1, a2, a3, a4, a5, a6, a7, a8, a9, a10, a11, a12⟩ := h
  have hlow : ∀ i c, i < 1 ∨ 6 < i → i < 69 → ¬ (i = 13 ∧ c = 2) → A2 i c = A i c := fun i c h1 h2 h3 => by
    rw [hA i c h2]
    unfold jres1
    rw [jm_n h3, jlg_n (by omega)]
  have hB : ∀ i c, i ≠ 95 → ¬ (i = 94 ∧ (c = 3 ∨ c = 19)) → gRest B i c = B i c := fun i c h1 h2 => gRest_at h1 h2
  refine ⟨fun _ => (t, dr), 0, j, a1, by omega, (hlow 13 1 (by omega) (by omega) (by omega)).trans a3, ?_, ?_, ?_, fun i hi => absurd hi (Nat.not_lt_zero i), fun i hi => absurd hi (Nat.not_lt_zero i), hf, rSv_c a10 (fun i c q => hlow i c (by omega) (by omega) (by omega)) (fun i c q => hB i c (by omega) (by omega)), rTx_c a11 (fun i c q => hA8 i c (by omega)) (fun i c q => hB i c (by omega) (by omega)), rRs_c a12 (fun c q => hlow 0 c (by omega) (by omega) (by omega)) (fun c q => hB 94 c (by omega) (by omega))⟩
  · rw [hA 13 2 (by omega)]; unfold jres1; exact jm_s
  · unfold gRest; exact jm_s
  · exact rL_copy (A := A) (a := 7) (g := 1) hs (fun i c q1 q2 => by rw [hA i c (by omega)]; unfold jres1; rw [jm_n (by omega)]) (fun c hc => gRest_95 hc)
theorem S_restore {b : SBt} {Y : OUt} {M : MM} (I : Inv b M) : Step b Y M yL_restore cL_restore 3 [(0, 8, 11, 101)] [.ref 0, .ref 102] yX6_restore cX6_restore 2 (some .int) [.ref 94] cmpI := by
  have hb := I.hb
  have hsv : rSv M M := by
    obtain ⟨τ, k, j, -, -, -, -, -, -, -, -, -, h, -⟩ := I.1
    exact h
  rcases hsv with ⟨s1, s2⟩ | ⟨s1, s2, t, dr, hs⟩
  · exact Step_of I (H_restore_t1 (d := 19) hb (c_restore_no (d := 19) (Y := Y) hb s1)) (cx_restore_0 (d := 19) hb s2) (by decide) (by decide) hiE_0 lo_19t (rel_19t I.1) (cmp_no jm_s (by decide))
  · have ht := hs.1
    have h70 : M 7 0 = nI t := hs.2.1
    have h72 : M 7 2 = if dr = true then 1 else 0 := hs.2.2.2.2.2.1
    have hr1 : hiE M (jres1 M) := hi_jm (hi_lg hiE_0 (by omega)) (by omega)
    have hs0 : ¬ M 0 2 = 0 := by rw [s1]; decide
    have hv : ∀ N : MM, hiE M N → nI t = gRest N 95 0 := fun N hN => by rw [gRest_95 (by omega), hN 98 0 (by omega)]; exact hs.2.2.1.symm
    have lo : ∀ N : MM, loE N (gRest N) := fun N => lo_jm (lo_jcp (lo_jm loE_0 (by omega) (by omega)) (by omega) (by omega)) (by omega) (by omega)
    have h19 : ∀ N : MM, gRest N 94 19 = 0 := fun N => by unfold gRest; rw [jm_n (by omega), jcp_n (by omega), jm_s]
    cases dr with
    | false =>
      have hc := c_restore_un (d := 15) (Y := Y) hb hs0 (rL_z hs) h72
      rw [h70] at hc
      exact Step_of I (H_restore_r hb hc) (cx_restore_ok (d := 19) hb (by rw [hr1 94 5 (by omega), s2]; decide)) (by decide) (by decide) hr1 (lo _) (rel_rest (Rel_hi I.1 hr1) (rL_cells hs (fun _ _ _ _ => rfl) (fun c _ => hr1 98 c (by omega))) (fun _ _ _ => rfl) (fun i c q => by unfold jres1; rw [jm_n (by omega), jlg_n (by omega)]) (fun z => by cases z)) (cmp_eq (h19 _) (hv _ hr1))
    | true =>
      have h2 : 2 ≤ t := hs.2.2.2.2.1 rfl
      have hl : (t % 2 = 0 ∧ gP t - 1 + 1 = t) ∨ (t % 2 = 1 ∧ gP t - 1 = t) := by unfold gP; omega
      have hc := c_restore_dr (d := 15) (Y := Y) hb hs0 (rL_z hs) (by rw [h72]; decide) h70 hl (by unfold gP; omega) ht
      have hhi : hiE M (jly t (gP t - 1) (jres1 M) (2 * (gP t - 1))) := hi_ly hr1
      exact Step_of I (H_restore_r hb hc) (cx_restore_ok (d := 19) hb (by rw [hhi 94 5 (by omega), s2]; decide)) (by decide) (by decide) hhi (lo _) (rel_rest (Rel_hi I.1 hhi) (rL_cells hs (fun _ _ _ _ => rfl) (fun c _ => hhi 98 c (by omega))) (fun i c q => jly_n (by omega) _) (fun i c q => by rw [jly_n (by omega)]; unfold jres1; rw [jm_n (by omega), jlg_n (by omega)]) (fun _ => jly_fix h2 ht)) (cmp_eq (h19 _) (hv _ hhi))
/-! append -/
theorem rel_app {A B : MM} {n q : Nat} (h : Rel A B) (hn : n < 60) (hA0 : A 86 0 = nI n) (hB0 : B 94 9 = nI n) (hq : q < 65536) : Rel (jm (jm A 87 n (nI q)) 86 0 (nI (n + 1))) (jm (jm (jm B 94 19 0) 94 9 (nI (n + 1))) 100 n (nI q)) := by
  obtain ⟨τ, k, j, a1, a2, a3, a4, a5, a6, a7, a8, a9, a10, ⟨n2, t1, t2, t3, t4⟩, a12⟩ := h
  have e : n2 = n := (nI_eq (by omega) (by omega)).mp (t2.symm.trans hA0)
  subst e
  have hA : ∀ i c, i ≠ 87 → ¬ (i = 86 ∧ c = 0) → jm (jm A 87 n2 (nI q)) 86 0 (nI (n2 + 1)) i c = A i c := fun i c h1 h2 => by rw [jm_n (by omega), jm_n (by omega)]
  have hB : ∀ i c, i ≠ 100 → ¬ (i = 94 ∧ (c = 9 ∨ c = 19)) → jm (jm (jm B 94 19 0) 94 9 (nI (n2 + 1))) 100 n2 (nI q) i c = B i c := fun i c h1 h2 => by rw [jm_n (by omega), jm_n (by omega), jm_n (by omega)]
  refine ⟨τ, k, j, a1, a2, (hA 13 1 (by omega) (by omega)).trans a3, (hA 13 2 (by omega) (by omega)).trans a4, (hB 94 3 (by omega) (by omega)).trans a5, rL_cells a6 (fun i c _ _ => hA i c (by omega) (by omega)) (fun c _ => hB 95 c (by omega) (by omega)), fun i hi => rL_cells (a7 i hi) (fun i2 c _ _ => hA i2 c (by omega) (by omega)) (fun c _ => hB 97 _ (by omega) (by omega)), a8, fun hd => rFix_c (a9 hd) (fun i c _ _ => hA i c (by omega) (by omega)), rSv_c a10 (fun i c q => hA i c (by omega) (by omega)) (fun i c q => hB i c (by omega) (by omega)), ⟨n2 + 1, by omega, jm_s, ?_, fun i hi => ?_⟩, rRs_c a12 (fun c q => hA 0 c (by omega) (by omega)) (fun c q => hB 94 c (by omega) (by omega))⟩
  · rw [jm_n (by omega), jm_s]
  · rw [jm_n (show ¬ (87 = 86 ∧ i = 0) by omega)]
    by_cases e : i = n2
    · subst e
      rw [jm_s, jm_s]
      exact ⟨rfl, q, hq, rfl⟩
    · rw [jm_n (by omega), jm_n (by omega), jm_n (by omega), jm_n (by omega)]
      exact t4 i (by omega)
theorem S_append {b : SBt} {Y : OUt} {M : MM} (I : Inv b M) {q : Nat} (hq : q < 65536) : Step b Y M yL_append cL_append 4 [(0, 9, 12, 101)] [.ref 0, .int (nI q), .ref 102] yX6_append cX6_append 2 (some .int) [.ref 94, .int (nI q)] cmpI := by
  have hb := I.hb
  obtain ⟨n, t1, t2, t3, -⟩ : rTx M M := by
    obtain ⟨τ, k, j, -, -, -, -, -, -, -, -, -, -, h, -⟩ := I.1
    exact h
  by_cases hn : n < 60
  · have hv : vp_nar .char (nI q) = nI q := by
      unfold vp_nar
      rw [(pk_charN hq).1]
    have hhi : hiE M (jm (jm M 87 n (nI q)) 86 0 (nI (n + 1))) := hi_jm (hi_jm hiE_0 (by omega)) (by omega)
    have hc := c_append_ok (d := 18) (Y := Y) hb hn t2 hv
    have hg := cx_append_ok (d := 19) (M := jm (jm M 87 n (nI q)) 86 0 (nI (n + 1))) (Y := (ju Y.1 0 (nI (n + 1)).toInt64, Y.2)) hb hn (by rw [hhi 94 9 (by omega)]; exact t3) hv
    refine Step_of I (H_append_r hb hc) hg (by decide) (by decide) hhi (lo_jm (lo_jm (lo_jm loE_0 (by omega) (by omega)) (by omega) (by omega)) (by omega) (by omega)) (rel_app (Rel_hi I.1 hhi) hn t2 (by rw [hhi 94 9 (by omega)]; exact t3) hq) (cmp_eq ?_ rfl)
    rw [jm_n (by omega), jm_n (by omega), jm_s]
  · have e : n = 60 := by omega
    subst e
    exact Step_of I (H_append_t1 (d := 19) hb (c_append_full (d := 18) (Y := Y) hb t2)) (cx_append_full (d := 19) hb t3) (by decide) (by decide) hiE_0 lo_19t (rel_19t I.1) (cmp_no jm_s (by decide))
end

section
/-! ===== steps: questions (their answers are not compared here) ===== -/
def cmpT (_ : Int32) (_ : Value) (_ : OUt) (_ : MM) : Prop := True
def qE (M M1 : MM) : Prop := ∀ i k, i < 75 ∨ 85 < i → M1 i k = M i k
theorem qE_0 {M : MM} : qE M M := fun _ _ _ => rfl
theorem qE_c {M : MM} {n : Nat} : qE M (jcount M n) := fun i k q => jcount_n (by omega)
def tE (N N2 : MM) : Prop := ∀ i k, ¬ (i = 94 ∧ k = 19) → N2 i k = N i k
theorem tE_0 {N : MM} : tE N N := fun _ _ _ => rfl
theorem tE_1 {N : MM} {v : Int32} : tE N (jm N 94 19 v) := fun i k q => jm_n q
theorem tE_2 {N : MM} {v w : Int32} : tE N (jrai (jm N 94 19 v) w) := fun i k q => by
  unfold jrai; rw [jm_n q, jm_n q]
theorem Step_q {b : SBt} {Y Y1 : OUt} {M M1 M2 : MM} {yL : MethodName} {cL : ByteArray} {mL : Nat} {hh : List (Nat × Nat × Nat × Nat)} {asL : List Value} {y6 : MethodName} {c6 : ByteArray} {m6 : Nat} {r6 : Option FieldType} {as6 : List Value} {cmp : Int32 → Value → OUt → MM → Prop} {mc ms : Nat} {k : Int32} {v : Value}
    (I : Inv b M) (H : CMH 20 mc ms yL cL mL (some .int) hh asL b Y M k Y1 M1) (C : CM 20 0 0 y6 c6 m6 r6 as6 b Y1 M1 (.inl (some v)) M2) (hmc : mc ≤ 40) (hms : ms ≤ 9000) (h1 : qE M M1) (h2 : tE M1 M2) (hc : cmp k v Y1 M2) (hk : vK r6 v := by first | exact vK_i | exact vK_b | exact vK_c | exact vK_f | exact vK_d) : Step b Y M yL cL mL hh asL y6 c6 m6 r6 as6 cmp :=
  Step_of I H C hmc hms (fun i c q => h1 i c (by omega)) (fun i c q => h2 i c (by omega)) (Rel_c I.1 (fun i c q q2 => h1 i c (by omega)) (fun i c q => (h2 i c (by omega)).trans (h1 i c (by omega)))) hc hk
theorem Inv_now {b : SBt} {M : MM} (I : Inv b M) : ∃ t dr, rL t dr (lgC M 1) (M 95) ∧ (dr = true → rFix t M) := by
  obtain ⟨τ, k, j, hP⟩ := Rel_P.mp I.1
  exact ⟨(τ k).1, (τ k).2, hP.now, hP.fix⟩
theorem rL_rules {t : Nat} {dr : Bool} {M : MM} (h : rL t dr (lgC M 1) (M 95)) : ∃ c : Nat, c ≤ 3 ∧ M 1 6 = nI c ∧ M 95 5 = nI c ∧ (∀ i, i < c → r04 (M 3 i)) ∧ ∀ i, i < c → r04 (M 95 (6 + i)) := by
  obtain ⟨c, e1, e2, e3, e4⟩ := h.2.2.2.2.2.2.2.2.2.2.2.1
  exact ⟨c, e1, e2, e3, fun i hi => (e4 i hi).2, fun i hi => by
    have := e4 i hi
    rw [← this.1]
    exact this.2⟩
theorem S_pointsAgain {b : SBt} {Y : OUt} {M : MM} (I : Inv b M) (u : Int32) : Step b Y M yL_pointsAgain cL_pointsAgain 4 [(0, 9, 12, 45)] [.ref 0, .int u, .ref 102] yX6_pointsAgain cX6_pointsAgain 2 (some .int) [.ref 94, .int u] cmpT := by
  have hb := I.hb
  obtain ⟨t, dr, hL, hF⟩ := Inv_now I
  have ht := hL.1
  have hn := nn_le (dr := dr) ht
  have hm := jmc_r hL hF
  have hw := jwc_r hL hF
  have hz14 := zz_le (dr := dr) ht
  have h10 : M 1 0 = nI t := hL.2.1
  have h950 : M 95 0 = nI t := hL.2.2.1
  have h951 : M 95 1 = nI (zz t dr) := hL.2.2.2.2.2.2.1
  have h959 : M 95 9 = nI (nn t dr) := hL.2.2.2.2.2.2.2.1
  by_cases hT : ∃ q, q < t ∧ u = nI q
  · have hT1 := (in_q1 (x := u) (n := t) (by omega)).mpr hT
    obtain ⟨q, hq, rfl⟩ := hT
    rw [← h10] at hT1
    exact Step_q I (H_pointsAgain_r hb (c_pointsAgain (d := 14) (Y := Y) hb hT1 hn hm)) (cx_pointsAgain (d := 16) hb (by rw [jcount_n (by omega), h950]; exact (in_q2 (by omega)).mpr ⟨q, hq, rfl⟩) hn (by rw [jcount_n (by omega)]; exact h959)) (by decide) (by decide) qE_c tE_1 trivial
  · have hT1 : ¬ (¬ u < 0 ∧ ¬ M 1 0 ≤ u) := by rw [h10]; exact fun z => hT ((in_q1 (by omega)).mp z)
    exact Step_q I (H_pointsAgain_t1 (d := 19) hb (c_pointsAgain_nt (d := 18) (Y := Y) hb hT1)) (cx_pointsAgain_nt (d := 18) hb (by rw [h950]; exact fun z => hT ((in_q2 (by omega)).mp z))) (by decide) (by decide) qE_0 tE_2 trivial
theorem S_placeOf {b : SBt} {Y : OUt} {M : MM} (I : Inv b M) (u : Int32) : Step b Y M yL_placeOf cL_placeOf 4 [(0, 9, 12, 45)] [.ref 0, .int u, .ref 102] yX6_placeOf cX6_placeOf 2 (some .int) [.ref 94, .int u] cmpT := by
  have hb := I.hb
  obtain ⟨t, dr, hL, hF⟩ := Inv_now I
  have ht := hL.1
  have hn := nn_le (dr := dr) ht
  have hm := jmc_r hL hF
  have hw := jwc_r hL hF
  have hz14 := zz_le (dr := dr) ht
  have h10 : M 1 0 = nI t := hL.2.1
  have h950 : M 95 0 = nI t := hL.2.2.1
  have h951 : M 95 1 = nI (zz t dr) := hL.2.2.2.2.2.2.1
  have h959 : M 95 9 = nI (nn t dr) := hL.2.2.2.2.2.2.2.1
  obtain ⟨r, hr3, h6, h5, hru1, hru2⟩ := rL_rules hL
  by_cases hT : ∃ q, q < t ∧ u = nI q
  · have hT1 := (in_q1 (x := u) (n := t) (by omega)).mpr hT
    obtain ⟨q, hq, rfl⟩ := hT
    rw [← h10] at hT1
    exact Step_q I (H_placeOf_r hb (c_placeOf (d := 14) (Y := Y) hb hT1 hn hm ht h10 hr3 h6 hru1)) (cx_placeOf (d := 12) hb (by rw [jcount_n (by omega), h950]; exact (in_q2 (by omega)).mpr ⟨q, hq, rfl⟩) hn (by rw [jcount_n (by omega)]; exact h959) ht (by rw [jcount_n (by omega)]; exact h950) hr3 (by rw [jcount_n (by omega)]; exact h5) (fun i hi => by rw [jcount_n (by omega)]; exact hru2 i hi)) (by decide) (by decide) qE_c tE_1 trivial
  · have hT1 : ¬ (¬ u < 0 ∧ ¬ M 1 0 ≤ u) := by rw [h10]; exact fun z => hT ((in_q1 (by omega)).mp z)
    exact Step_q I (H_placeOf_t1 (d := 19) hb (c_placeOf_nt (d := 18) (Y := Y) hb hT1)) (cx_placeOf_nt (d := 18) hb (by rw [h950]; exact fun z => hT ((in_q2 (by omega)).mp z))) (by decide) (by decide) qE_0 tE_2 trivial
theorem S_tied {b : SBt} {Y : OUt} {M : MM} (I : Inv b M) (u : Int32) : Step b Y M yL_tied cL_tied 4 [(0, 9, 12, 45)] [.ref 0, .int u, .ref 102] yX6_tied cX6_tied 2 (some .int) [.ref 94, .int u] cmpT := by
  have hb := I.hb
  obtain ⟨t, dr, hL, hF⟩ := Inv_now I
  have ht := hL.1
  have hn := nn_le (dr := dr) ht
  have hm := jmc_r hL hF
  have hw := jwc_r hL hF
  have hz14 := zz_le (dr := dr) ht
  have h10 : M 1 0 = nI t := hL.2.1
  have h950 : M 95 0 = nI t := hL.2.2.1
  have h951 : M 95 1 = nI (zz t dr) := hL.2.2.2.2.2.2.1
  have h959 : M 95 9 = nI (nn t dr) := hL.2.2.2.2.2.2.2.1
  by_cases hT : ∃ q, q < t ∧ u = nI q
  · have hT1 := (in_q1 (x := u) (n := t) (by omega)).mpr hT
    obtain ⟨q, hq, rfl⟩ := hT
    rw [← h10] at hT1
    exact Step_q I (H_tied_r hb (c_tied (d := 14) (Y := Y) hb hT1 hn hm ht h10)) (cx_tied (d := 15) hb (by rw [jcount_n (by omega), h950]; exact (in_q2 (by omega)).mpr ⟨q, hq, rfl⟩) hn (by rw [jcount_n (by omega)]; exact h959) ht (by rw [jcount_n (by omega)]; exact h950)) (by decide) (by decide) qE_c tE_1 trivial
  · have hT1 : ¬ (¬ u < 0 ∧ ¬ M 1 0 ≤ u) := by rw [h10]; exact fun z => hT ((in_q1 (by omega)).mp z)
    exact Step_q I (H_tied_t1 (d := 19) hb (c_tied_nt (d := 18) (Y := Y) hb hT1)) (cx_tied_nt (d := 18) hb (by rw [h950]; exact fun z => hT ((in_q2 (by omega)).mp z))) (by decide) (by decide) qE_0 tE_2 trivial
theorem S_most {b : SBt} {Y : OUt} {M : MM} (I : Inv b M) (u : Int32) : Step b Y M yL_most cL_most 4 [(0, 9, 12, 45)] [.ref 0, .int u, .ref 102] yX6_most cX6_most 2 (some .int) [.ref 94, .int u] cmpT := by
  have hb := I.hb
  obtain ⟨t, dr, hL, hF⟩ := Inv_now I
  have ht := hL.1
  have hn := nn_le (dr := dr) ht
  have hm := jmc_r hL hF
  have hw := jwc_r hL hF
  have hz14 := zz_le (dr := dr) ht
  have h10 : M 1 0 = nI t := hL.2.1
  have h950 : M 95 0 = nI t := hL.2.2.1
  have h951 : M 95 1 = nI (zz t dr) := hL.2.2.2.2.2.2.1
  have h959 : M 95 9 = nI (nn t dr) := hL.2.2.2.2.2.2.2.1
  by_cases hT : ∃ q, q < t ∧ u = nI q
  · have hT1 := (in_q1 (x := u) (n := t) (by omega)).mpr hT
    obtain ⟨q, hq, rfl⟩ := hT
    rw [← h10] at hT1
    exact Step_q I (H_most_r hb (c_most (d := 14) (Y := Y) hb hT1 hn hm)) (cx_most (d := 15) hb (by rw [jcount_n (by omega), h950]; exact (in_q2 (by omega)).mpr ⟨q, hq, rfl⟩) hn (by rw [jcount_n (by omega)]; exact h959)) (by decide) (by decide) qE_c tE_1 trivial
  · have hT1 : ¬ (¬ u < 0 ∧ ¬ M 1 0 ≤ u) := by rw [h10]; exact fun z => hT ((in_q1 (by omega)).mp z)
    exact Step_q I (H_most_t1 (d := 19) hb (c_most_nt (d := 18) (Y := Y) hb hT1)) (cx_most_nt (d := 18) hb (by rw [h950]; exact fun z => hT ((in_q2 (by omega)).mp z))) (by decide) (by decide) qE_0 tE_2 trivial
theorem S_isSafe {b : SBt} {Y : OUt} {M : MM} (I : Inv b M) (u : Int32) : Step b Y M yL_isSafe cL_isSafe 4 [(0, 16, 19, 45)] [.ref 0, .int u, .ref 102] yX6_isSafe cX6_isSafe 2 (some .boolean) [.ref 94, .int u] cmpT := by
  have hb := I.hb
  obtain ⟨t, dr, hL, hF⟩ := Inv_now I
  have ht := hL.1
  have hn := nn_le (dr := dr) ht
  have hm := jmc_r hL hF
  have hw := jwc_r hL hF
  have hz14 := zz_le (dr := dr) ht
  have h10 : M 1 0 = nI t := hL.2.1
  have h950 : M 95 0 = nI t := hL.2.2.1
  have h951 : M 95 1 = nI (zz t dr) := hL.2.2.2.2.2.2.1
  have h959 : M 95 9 = nI (nn t dr) := hL.2.2.2.2.2.2.2.1
  by_cases hT : ∃ q, q < t ∧ u = nI q
  · have hT1 := (in_q1 (x := u) (n := t) (by omega)).mpr hT
    obtain ⟨q, hq, rfl⟩ := hT
    rw [← h10] at hT1
    exact Step_q I (H_isSafe_r hb (c_isSafe (d := 14) (Y := Y) hb hT1 hn hm ht h10)) (cx_isSafe (d := 14) hb (by rw [jcount_n (by omega), h950]; exact (in_q2 (by omega)).mpr ⟨q, hq, rfl⟩) hn (by rw [jcount_n (by omega)]; exact h959) ht (by rw [jcount_n (by omega)]; exact h950)) (by decide) (by decide) qE_c tE_1 trivial
  · have hT1 : ¬ (¬ u < 0 ∧ ¬ M 1 0 ≤ u) := by rw [h10]; exact fun z => hT ((in_q1 (by omega)).mp z)
    exact Step_q I (H_isSafe_t1 (d := 19) hb (c_isSafe_nt (d := 18) (Y := Y) hb hT1)) (cx_isSafe_nt (d := 18) hb (by rw [h950]; exact fun z => hT ((in_q2 (by omega)).mp z))) (by decide) (by decide) qE_0 tE_1 trivial
theorem S_isOut {b : SBt} {Y : OUt} {M : MM} (I : Inv b M) (u : Int32) : Step b Y M yL_isOut cL_isOut 4 [(0, 16, 19, 45)] [.ref 0, .int u, .ref 102] yX6_isOut cX6_isOut 2 (some .boolean) [.ref 94, .int u] cmpT := by
  have hb := I.hb
  obtain ⟨t, dr, hL, hF⟩ := Inv_now I
  have ht := hL.1
  have hn := nn_le (dr := dr) ht
  have hm := jmc_r hL hF
  have hw := jwc_r hL hF
  have hz14 := zz_le (dr := dr) ht
  have h10 : M 1 0 = nI t := hL.2.1
  have h950 : M 95 0 = nI t := hL.2.2.1
  have h951 : M 95 1 = nI (zz t dr) := hL.2.2.2.2.2.2.1
  have h959 : M 95 9 = nI (nn t dr) := hL.2.2.2.2.2.2.2.1
  by_cases hT : ∃ q, q < t ∧ u = nI q
  · have hT1 := (in_q1 (x := u) (n := t) (by omega)).mpr hT
    obtain ⟨q, hq, rfl⟩ := hT
    rw [← h10] at hT1
    exact Step_q I (H_isOut_r hb (c_isOut (d := 14) (Y := Y) hb hT1 hn hm ht h10)) (cx_isOut (d := 14) hb (by rw [jcount_n (by omega), h950]; exact (in_q2 (by omega)).mpr ⟨q, hq, rfl⟩) hn (by rw [jcount_n (by omega)]; exact h959) ht (by rw [jcount_n (by omega)]; exact h950)) (by decide) (by decide) qE_c tE_1 trivial
  · have hT1 : ¬ (¬ u < 0 ∧ ¬ M 1 0 ≤ u) := by rw [h10]; exact fun z => hT ((in_q1 (by omega)).mp z)
    exact Step_q I (H_isOut_t1 (d := 19) hb (c_isOut_nt (d := 18) (Y := Y) hb hT1)) (cx_isOut_nt (d := 18) hb (by rw [h950]; exact fun z => hT ((in_q2 (by omega)).mp z))) (by decide) (by decide) qE_0 tE_1 trivial
theorem S_run {b : SBt} {Y : OUt} {M : MM} (I : Inv b M) (u : Int32) : Step b Y M yL_run cL_run 4 [(0, 9, 12, 45)] [.ref 0, .int u, .ref 102] yX6_run cX6_run 8 (some .int) [.ref 94, .int u] cmpT := by
  have hb := I.hb
  obtain ⟨t, dr, hL, hF⟩ := Inv_now I
  have ht := hL.1
  have hn := nn_le (dr := dr) ht
  have hm := jmc_r hL hF
  have hw := jwc_r hL hF
  have hz14 := zz_le (dr := dr) ht
  have h10 : M 1 0 = nI t := hL.2.1
  have h950 : M 95 0 = nI t := hL.2.2.1
  have h951 : M 95 1 = nI (zz t dr) := hL.2.2.2.2.2.2.1
  have h959 : M 95 9 = nI (nn t dr) := hL.2.2.2.2.2.2.2.1
  by_cases hT : ∃ q, q < t ∧ u = nI q
  · have hT1 := (in_q1 (x := u) (n := t) (by omega)).mpr hT
    obtain ⟨q, hq, rfl⟩ := hT
    rw [← h10] at hT1
    exact Step_q I (H_run_r hb (c_run (d := 16) (Y := Y) hb hT1 hn hm)) (cx_run (d := 17) hb (by rw [h950]; exact (in_q2 (by omega)).mpr ⟨q, hq, rfl⟩) hn h959) (by decide) (by decide) qE_0 tE_1 trivial
  · have hT1 : ¬ (¬ u < 0 ∧ ¬ M 1 0 ≤ u) := by rw [h10]; exact fun z => hT ((in_q1 (by omega)).mp z)
    exact Step_q I (H_run_t1 (d := 19) hb (c_run_nt (d := 18) (Y := Y) hb hT1)) (cx_run_nt (d := 18) hb (by rw [h950]; exact fun z => hT ((in_q2 (by omega)).mp z))) (by decide) (by decide) qE_0 tE_2 trivial
theorem le_n {v : Int32} {n : Int32} : (v < 0 ∨ ¬ v ≤ n) ↔ ¬ (¬ v < 0 ∧ ¬ n < v) := by
  rw [Int32.not_le]
  constructor
  · rintro (h | h) ⟨h1, h2⟩
    · exact h1 h
    · exact h2 h
  · intro h
    by_cases c : v < 0
    · exact Or.inl c
    · exact Or.inr (Decidable.byContradiction fun z => h ⟨c, z⟩)
theorem S_valueOf {b : SBt} {Y : OUt} {M : MM} (I : Inv b M) (u v : Int32) : Step b Y M yL_valueOf cL_valueOf 5 [(0, 10, 13, 45), (0, 10, 17, 47)] [.ref 0, .int u, .int v, .ref 102] yX6_valueOf cX6_valueOf 3 (some .int) [.ref 94, .int u, .int v] cmpT := by
  have hb := I.hb
  obtain ⟨t, dr, hL, hF⟩ := Inv_now I
  have ht := hL.1
  have hn := nn_le (dr := dr) ht
  have hm := jmc_r hL hF
  have hw := jwc_r hL hF
  have hz14 := zz_le (dr := dr) ht
  have h10 : M 1 0 = nI t := hL.2.1
  have h950 : M 95 0 = nI t := hL.2.2.1
  have h951 : M 95 1 = nI (zz t dr) := hL.2.2.2.2.2.2.1
  have h959 : M 95 9 = nI (nn t dr) := hL.2.2.2.2.2.2.2.1
  by_cases hT : ∃ q, q < t ∧ u = nI q
  · have hT1 := (in_q1 (x := u) (n := t) (by omega)).mpr hT
    obtain ⟨q, hq, rfl⟩ := hT
    rw [← h10] at hT1
    by_cases hx : ¬ v < 0 ∧ ¬ 4 < v
    · have hv := r04_of (t := v) ⟨fun z => hx.1 (Int32.lt_trans z (by decide)), hx.2⟩ (fun z => hx.1 (by rw [z]; decide))
      exact Step_q I (H_valueOf_r hb (c_valueOf (d := 14) (Y := Y) hb hT1 (fun z => le_n.mp z hx) hv.1 hn hm)) (cx_valueOf (d := 14) hb (by rw [jcount_n (by omega), h950]; exact (in_q2 (by omega)).mpr ⟨q, hq, rfl⟩) hn (by rw [jcount_n (by omega)]; exact h959) ht (by rw [jcount_n (by omega)]; exact h950) hx hv.1) (by decide) (by decide) qE_c tE_1 trivial
    · exact Step_q I (H_valueOf_t2 (d := 19) hb (c_valueOf_bad (d := 18) (Y := Y) hb hT1 (le_n.mpr hx))) (cx_valueOf_bad (d := 18) hb (by rw [h950]; exact (in_q2 (by omega)).mpr ⟨q, hq, rfl⟩) hx) (by decide) (by decide) qE_0 tE_2 trivial
  · have hT1 : ¬ (¬ u < 0 ∧ ¬ M 1 0 ≤ u) := by rw [h10]; exact fun z => hT ((in_q1 (by omega)).mp z)
    exact Step_q I (H_valueOf_t1 (d := 19) hb (c_valueOf_nt (d := 18) (Y := Y) hb hT1)) (cx_valueOf_nt (d := 18) hb (by rw [h950]; exact fun z => hT ((in_q2 (by omega)).mp z))) (by decide) (by decide) qE_0 tE_2 trivial
theorem S_teamOf {b : SBt} {Y : OUt} {M : MM} (I : Inv b M) (u v : Int32) : Step b Y M yL_teamOf cL_teamOf 5 [(0, 10, 13, 45), (0, 10, 17, 47)] [.ref 0, .int u, .int v, .ref 102] yX6_teamOf cX6_teamOf 3 (some .int) [.ref 94, .int u, .int v] cmpT := by
  have hb := I.hb
  obtain ⟨t, dr, hL, hF⟩ := Inv_now I
  have ht := hL.1
  have hn := nn_le (dr := dr) ht
  have hm := jmc_r hL hF
  have hw := jwc_r hL hF
  have hz14 := zz_le (dr := dr) ht
  have h10 : M 1 0 = nI t := hL.2.1
  have h950 : M 95 0 = nI t := hL.2.2.1
  have h951 : M 95 1 = nI (zz t dr) := hL.2.2.2.2.2.2.1
  have h959 : M 95 9 = nI (nn t dr) := hL.2.2.2.2.2.2.2.1
  by_cases hT : ∃ q, q < t ∧ u = nI q
  · have hT1 := (in_q1 (x := u) (n := t) (by omega)).mpr hT
    obtain ⟨q, hq, rfl⟩ := hT
    rw [← h10] at hT1
    by_cases hx : ¬ v < 0 ∧ ¬ 8 < v
    · obtain ⟨z, hz, rfl⟩ := int_rng (u := v) (n := 8) (by decide) hx.1 hx.2
      rcases (show z = 0 ∨ z = 1 ∨ z = 2 ∨ z = 3 ∨ z = 4 ∨ z = 5 ∨ z = 6 ∨ z = 7 ∨ z = 8 by omega) with rfl | rfl | rfl | rfl | rfl | rfl | rfl | rfl | rfl
      · exact Step_q I (H_teamOf_r hb (c_teamOf_k0 (d := 14) (Y := Y) hb hT1 hn hm)) (cx_teamOf_k0 (d := 16) hb ht (by rw [jcount_n (by omega)]; exact h950) hq) (by decide) (by decide) qE_c tE_1 trivial
      · exact Step_q I (H_teamOf_r hb (c_teamOf_k1 (d := 14) (Y := Y) hb hT1 hn hm)) (cx_teamOf_k1 (d := 16) hb (by rw [jcount_n (by omega), h950]; exact (in_q2 (by omega)).mpr ⟨q, hq, rfl⟩) hn (by rw [jcount_n (by omega)]; exact h959)) (by decide) (by decide) qE_c tE_1 trivial
      · exact Step_q I (H_teamOf_r hb (c_teamOf_k2 (d := 14) (Y := Y) hb hT1 hn hm)) (cx_teamOf_k2 (d := 16) hb (by rw [jcount_n (by omega), h950]; exact (in_q2 (by omega)).mpr ⟨q, hq, rfl⟩) hn (by rw [jcount_n (by omega)]; exact h959)) (by decide) (by decide) qE_c tE_1 trivial
      · exact Step_q I (H_teamOf_r hb (c_teamOf_k3 (d := 14) (Y := Y) hb hT1 hn hm)) (cx_teamOf_k3 (d := 16) hb (by rw [jcount_n (by omega), h950]; exact (in_q2 (by omega)).mpr ⟨q, hq, rfl⟩) hn (by rw [jcount_n (by omega)]; exact h959)) (by decide) (by decide) qE_c tE_1 trivial
      · exact Step_q I (H_teamOf_r hb (c_teamOf_k4 (d := 14) (Y := Y) hb hT1 hn hm)) (cx_teamOf_k4 (d := 16) hb (by rw [jcount_n (by omega), h950]; exact (in_q2 (by omega)).mpr ⟨q, hq, rfl⟩) hn (by rw [jcount_n (by omega)]; exact h959)) (by decide) (by decide) qE_c tE_1 trivial
      · exact Step_q I (H_teamOf_r hb (c_teamOf_k5 (d := 14) (Y := Y) hb hT1 hn hm)) (cx_teamOf_k5 (d := 16) hb (by rw [jcount_n (by omega), h950]; exact (in_q2 (by omega)).mpr ⟨q, hq, rfl⟩) hn (by rw [jcount_n (by omega)]; exact h959)) (by decide) (by decide) qE_c tE_1 trivial
      · exact Step_q I (H_teamOf_r hb (c_teamOf_k6 (d := 14) (Y := Y) hb hT1 hn hm)) (cx_teamOf_k6 (d := 16) hb (by rw [jcount_n (by omega), h950]; exact (in_q2 (by omega)).mpr ⟨q, hq, rfl⟩) hn (by rw [jcount_n (by omega)]; exact h959)) (by decide) (by decide) qE_c tE_1 trivial
      · exact Step_q I (H_teamOf_r hb (c_teamOf_k7 (d := 14) (Y := Y) hb hT1 hn hm)) (cx_teamOf_k7 (d := 16) hb (by rw [jcount_n (by omega), h950]; exact (in_q2 (by omega)).mpr ⟨q, hq, rfl⟩) hn (by rw [jcount_n (by omega)]; exact h959)) (by decide) (by decide) qE_c tE_1 trivial
      · exact Step_q I (H_teamOf_r hb (c_teamOf_k8 (d := 14) (Y := Y) hb hT1 hn hm)) (cx_teamOf_k8 (d := 16) hb (by rw [jcount_n (by omega), h950]; exact (in_q2 (by omega)).mpr ⟨q, hq, rfl⟩) hn (by rw [jcount_n (by omega)]; exact h959)) (by decide) (by decide) qE_c tE_1 trivial
    · exact Step_q I (H_teamOf_t2 (d := 19) hb (c_teamOf_bad (d := 18) (Y := Y) hb hT1 (le_n.mpr hx))) (cx_teamOf_bad (d := 18) hb (by rw [h950]; exact (in_q2 (by omega)).mpr ⟨q, hq, rfl⟩) hx) (by decide) (by decide) qE_0 tE_2 trivial
  · have hT1 : ¬ (¬ u < 0 ∧ ¬ M 1 0 ≤ u) := by rw [h10]; exact fun z => hT ((in_q1 (by omega)).mp z)
    exact Step_q I (H_teamOf_t1 (d := 19) hb (c_teamOf_nt (d := 18) (Y := Y) hb hT1)) (cx_teamOf_nt (d := 18) hb (by rw [h950]; exact fun z => hT ((in_q2 (by omega)).mp z))) (by decide) (by decide) qE_0 tE_2 trivial
theorem S_find {b : SBt} {Y : OUt} {M : MM} (I : Inv b M) (u v : Int32) : Step b Y M yL_find cL_find 5 [(0, 10, 13, 45), (0, 10, 17, 58)] [.ref 0, .int u, .int v, .ref 102] yX6_find cX6_find 4 (some .int) [.ref 94, .int u, .int v] cmpT := by
  have hb := I.hb
  obtain ⟨t, dr, hL, hF⟩ := Inv_now I
  have ht := hL.1
  have hn := nn_le (dr := dr) ht
  have hm := jmc_r hL hF
  have hw := jwc_r hL hF
  have hz14 := zz_le (dr := dr) ht
  have h10 : M 1 0 = nI t := hL.2.1
  have h950 : M 95 0 = nI t := hL.2.2.1
  have h951 : M 95 1 = nI (zz t dr) := hL.2.2.2.2.2.2.1
  have h959 : M 95 9 = nI (nn t dr) := hL.2.2.2.2.2.2.2.1
  have e2 : ∀ x : Int32, (¬ x < 0 ∧ ¬ M 1 0 ≤ x) ↔ (¬ x < 0 ∧ ¬ M 95 0 - 1 < x) := fun x => by rw [h10, h950, in_q1 (by omega), in_q2 (by omega)]
  by_cases hT : (¬ u < 0 ∧ ¬ M 1 0 ≤ u) ∧ (¬ v < 0 ∧ ¬ M 1 0 ≤ v)
  · have hU := (e2 u).mp hT.1
    have hV := (e2 v).mp hT.2
    have hC : ∀ {Y1 : OUt}, ∃ (w : Int32) (M2 : MM), CM 20 0 0 yX6_find cX6_find 4 (some .int) [.ref 94, .int u, .int v] b Y1 M (.inl (some (.int w))) M2 ∧ tE M M2 := fun {Y1} => by
      by_cases h : jfst (gBet (jm M 94 19 0) u v) (nn t dr) = -1
      · exact ⟨_, _, cx_find_no (d := 18) hb hU hV hn h959 h, tE_2⟩
      · exact ⟨_, _, cx_find_ok (d := 18) hb hU hV hn h959 h, tE_1⟩
    by_cases h : jfst (fBet M u v) (nn t dr) = -1
    · obtain ⟨w, M2, C, hE⟩ := hC (Y1 := Y)
      exact Step_q I (H_find_t2 (d := 19) hb (c_find_no (d := 17) (Y := Y) hb hT.1 hT.2 hn hm h)) C (by decide) (by decide) qE_0 hE trivial
    · obtain ⟨w, M2, C, hE⟩ := hC (Y1 := (ju Y.1 0 (jfst (fBet M u v) (nn t dr)).toInt64, Y.2))
      exact Step_q I (H_find_r hb (c_find_ok (d := 17) (Y := Y) hb hT.1 hT.2 hn hm h)) C (by decide) (by decide) qE_0 hE trivial
  · exact Step_q I (H_find_t1 (d := 19) hb (c_find_nt (d := 18) (Y := Y) hb hT)) (cx_find_nt (d := 18) hb (fun z => hT ⟨(e2 u).mpr z.1, (e2 v).mpr z.2⟩)) (by decide) (by decide) qE_0 tE_2 trivial
theorem S_meetingOf {b : SBt} {Y : OUt} {M : MM} (I : Inv b M) (x v : Int32) : Step b Y M yL_meetingOf cL_meetingOf 5 [(0, 10, 13, 45), (0, 10, 17, 47)] [.ref 0, .int x, .int v, .ref 102] yX6_meetingOf cX6_meetingOf 3 (some .int) [.ref 94, .int x, .int v] cmpT := by
  have hb := I.hb
  obtain ⟨t, dr, hL, hF⟩ := Inv_now I
  have ht := hL.1
  have hn := nn_le (dr := dr) ht
  have hm := jmc_r hL hF
  have hw := jwc_r hL hF
  have hz14 := zz_le (dr := dr) ht
  have h10 : M 1 0 = nI t := hL.2.1
  have h950 : M 95 0 = nI t := hL.2.2.1
  have h951 : M 95 1 = nI (zz t dr) := hL.2.2.2.2.2.2.1
  have h959 : M 95 9 = nI (nn t dr) := hL.2.2.2.2.2.2.2.1
  by_cases hT : ∃ q, q < nn t dr ∧ x = nI q
  · have hT1 := (in_q1 (x := x) (n := nn t dr) (by omega)).mpr hT
    obtain ⟨q, hq, rfl⟩ := hT
    rw [← hm] at hT1
    by_cases hx : ¬ v < 0 ∧ ¬ 6 < v
    · obtain ⟨z, hz, rfl⟩ := int_rng (u := v) (n := 6) (by decide) hx.1 hx.2
      rcases (show z = 0 ∨ z = 1 ∨ z = 2 ∨ z = 3 ∨ z = 4 ∨ z = 5 ∨ z = 6 by omega) with rfl | rfl | rfl | rfl | rfl | rfl | rfl
      · exact Step_q I (H_meetingOf_r hb (c_meetingOf_k0 (d := 16) (Y := Y) hb hT1)) (cx_meetingOf_k0 (d := 16) hb hn h959 hq) (by decide) (by decide) qE_0 tE_1 trivial
      · exact Step_q I (H_meetingOf_r hb (c_meetingOf_k1 (d := 16) (Y := Y) hb hT1)) (cx_meetingOf_k1 (d := 16) hb hn h959 hq) (by decide) (by decide) qE_0 tE_1 trivial
      · exact Step_q I (H_meetingOf_r hb (c_meetingOf_k2 (d := 16) (Y := Y) hb hT1)) (cx_meetingOf_k2 (d := 16) hb hn h959 hq) (by decide) (by decide) qE_0 tE_1 trivial
      · exact Step_q I (H_meetingOf_r hb (c_meetingOf_k3 (d := 16) (Y := Y) hb hT1)) (cx_meetingOf_k3 (d := 16) hb hn h959 hq) (by decide) (by decide) qE_0 tE_1 trivial
      · exact Step_q I (H_meetingOf_r hb (c_meetingOf_k4 (d := 16) (Y := Y) hb hT1)) (cx_meetingOf_k4 (d := 16) hb hn h959 hq) (by decide) (by decide) qE_0 tE_1 trivial
      · exact Step_q I (H_meetingOf_r hb (c_meetingOf_k5 (d := 16) (Y := Y) hb hT1)) (cx_meetingOf_k5 (d := 16) hb hn h959 hq) (by decide) (by decide) qE_0 tE_1 trivial
      · exact Step_q I (H_meetingOf_r hb (c_meetingOf_k6 (d := 16) (Y := Y) hb hT1)) (cx_meetingOf_k6 (d := 16) hb hn h959 hq) (by decide) (by decide) qE_0 tE_1 trivial
    · refine Step_q I (H_meetingOf_t2 (d := 19) hb (c_meetingOf_bad (d := 17) (Y := Y) hb hT1 (le_n.mpr hx))) (cx_meetingOf_bad (d := 16) hb hn h959 hq ?_) (by decide) (by decide) qE_0 tE_2 trivial
      by_cases c : v < 0
      · exact Or.inl (by rw [Int32.lt_iff_toInt_lt] at c; exact c)
      · exact Or.inr (by
          have c2 : (6 : Int32) < v := Decidable.byContradiction fun z => hx ⟨c, z⟩
          rw [Int32.lt_iff_toInt_lt] at c2
          exact c2)
  · have hT1 : ¬ (¬ x < 0 ∧ ¬ jmc M ≤ x) := by rw [hm]; exact fun z => hT ((in_q1 (by omega)).mp z)
    exact Step_q I (H_meetingOf_t1 (d := 19) hb (c_meetingOf_nt (d := 17) (Y := Y) hb hT1)) (cx_meetingOf_nt (d := 18) hb (by rw [h959]; exact fun z => hT ((in_q2 hn).mp z))) (by decide) (by decide) qE_0 tE_2 trivial
theorem S_freeWeek {b : SBt} {Y : OUt} {M : MM} (I : Inv b M) (x : Int32) : Step b Y M yL_freeWeek cL_freeWeek 4 [(0, 9, 12, 45), (0, 9, 15, 58)] [.ref 0, .int x, .ref 102] yX6_freeWeek cX6_freeWeek 3 (some .int) [.ref 94, .int x] cmpT := by
  have hb := I.hb
  obtain ⟨t, dr, hL, hF⟩ := Inv_now I
  have ht := hL.1
  have hn := nn_le (dr := dr) ht
  have hm := jmc_r hL hF
  have hw := jwc_r hL hF
  have hz14 := zz_le (dr := dr) ht
  have h10 : M 1 0 = nI t := hL.2.1
  have h950 : M 95 0 = nI t := hL.2.2.1
  have h951 : M 95 1 = nI (zz t dr) := hL.2.2.2.2.2.2.1
  have h959 : M 95 9 = nI (nn t dr) := hL.2.2.2.2.2.2.2.1
  by_cases hT : ∃ q, q < nn t dr ∧ x = nI q
  · have hT1 := (in_q1 (x := x) (n := nn t dr) (by omega)).mpr hT
    obtain ⟨q, hq, rfl⟩ := hT
    rw [← hm] at hT1
    have hd : dr = true := by
      cases dr with
      | true => rfl
      | false => exact absurd hq (Nat.not_lt_zero q)
    subst hd
    obtain ⟨w0, w1, -, y2, -, y4, -⟩ := (mt_of.mp (hL.2.2.2.2.2.2.2.2.2.2.2.2 q hq)).2.2.2.2.1
    have y1 := (mt_q hL hq).2
    have hq56 : q < 56 := Nat.lt_of_lt_of_le hq hn
    have hat : jat 56 (M 4) (nI q) = nI w1 := by rw [jat_nI hq56 (by decide), y1]; exact y2
    have hC : ∀ {Y1 : OUt}, ∃ (w : Int32) (M2 : MM), CM 20 0 0 yX6_freeWeek cX6_freeWeek 3 (some .int) [.ref 94, .int (nI q)] b Y1 M (.inl (some (.int w))) M2 ∧ tE M M2 := fun {Y1} => by
      by_cases h : gfree M (nn t true) (zz t true) w1 q = -1
      · exact ⟨_, _, cx_freeWeek_no (d := 17) hb hn h959 hq (hho_r hL) hz14 h951 y2 y4 h, tE_2⟩
      · exact ⟨_, _, cx_freeWeek_ok (d := 17) hb hn h959 hq (hho_r hL) hz14 h951 y2 y4 h, tE_1⟩
    by_cases h : jfree M (nn t true) (zz t true) w1 (nI q) = -1
    · obtain ⟨w, M2, C, hE⟩ := hC (Y1 := Y)
      exact Step_q I (H_freeWeek_t2 (d := 19) hb (c_freeWeek_no (d := 15) (Y := Y) hb hT1 hn hm hz14 hw hat y4 h)) C (by decide) (by decide) qE_0 hE trivial
    · obtain ⟨w, M2, C, hE⟩ := hC (Y1 := (ju Y.1 0 (jfree M (nn t true) (zz t true) w1 (nI q)).toInt64, Y.2))
      exact Step_q I (H_freeWeek_r hb (c_freeWeek_ok (d := 15) (Y := Y) hb hT1 hn hm hz14 hw hat y4 h)) C (by decide) (by decide) qE_0 hE trivial
  · have hT1 : ¬ (¬ x < 0 ∧ ¬ jmc M ≤ x) := by rw [hm]; exact fun z => hT ((in_q1 (by omega)).mp z)
    exact Step_q I (H_freeWeek_t1 (d := 19) hb (c_freeWeek_nt (d := 17) (Y := Y) hb hT1)) (cx_freeWeek_nt (d := 18) hb (by rw [h959]; exact fun z => hT ((in_q2 hn).mp z))) (by decide) (by decide) qE_0 tE_2 trivial
theorem S_byeIn {b : SBt} {Y : OUt} {M : MM} (I : Inv b M) (x : Int32) : Step b Y M yL_byeIn cL_byeIn 4 [(0, 9, 12, 45), (0, 9, 15, 58)] [.ref 0, .int x, .ref 102] yX6_byeIn cX6_byeIn 2 (some .int) [.ref 94, .int x] cmpT := by
  have hb := I.hb
  obtain ⟨t, dr, hL, hF⟩ := Inv_now I
  have ht := hL.1
  have hn := nn_le (dr := dr) ht
  have hm := jmc_r hL hF
  have hw := jwc_r hL hF
  have hz14 := zz_le (dr := dr) ht
  have h10 : M 1 0 = nI t := hL.2.1
  have h950 : M 95 0 = nI t := hL.2.2.1
  have h951 : M 95 1 = nI (zz t dr) := hL.2.2.2.2.2.2.1
  have h959 : M 95 9 = nI (nn t dr) := hL.2.2.2.2.2.2.2.1
  have e2 : (¬ x < 0 ∧ ¬ jwc M ≤ x) ↔ (¬ x < 0 ∧ ¬ M 95 1 - 1 < x) := isW_r hL hF
  by_cases hT : ¬ x < 0 ∧ ¬ jwc M ≤ x
  · have hX := e2.mp hT
    have hd : dr = true := by
      cases dr with
      | true => rfl
      | false =>
        rw [hw] at hT
        obtain ⟨q, q1, -⟩ := (in_q1 (by omega)).mp hT
        exact absurd q1 (Nat.not_lt_zero q)
    have h2 := hL.2.2.2.2.1 hd
    have hp : ¬ gpl (nI t) - 1 = 0 := by
      have := gP_le h2 ht
      rw [gpl_nI ht]
      obtain ⟨p, hp⟩ : ∃ p, gP t = p + 1 := ⟨gP t - 1, by omega⟩
      rw [hp, nI_pred]
      exact nI_ne0 (by omega) (by omega)
    have hC : ∀ {Y1 : OUt}, ∃ (w : Int32) (M2 : MM), CM 20 0 0 yX6_byeIn cX6_byeIn 2 (some .int) [.ref 94, .int x] b Y1 M (.inl (some (.int w))) M2 ∧ tE M M2 := fun {Y1} => by
      by_cases h : nI t - nI t / 2 * 2 = 0
      · exact ⟨_, _, cx_byeIn_no (d := 18) hb hX h950 h, tE_2⟩
      · exact ⟨_, _, cx_byeIn_ok (d := 18) hb hX h950 h hp, tE_1⟩
    by_cases h : jat 14 (M 73) x = -1
    · obtain ⟨w, M2, C, hE⟩ := hC (Y1 := Y)
      exact Step_q I (H_byeIn_t2 (d := 19) hb (c_byeIn_no (d := 17) (Y := Y) hb hT h)) C (by decide) (by decide) qE_0 hE trivial
    · obtain ⟨w, M2, C, hE⟩ := hC (Y1 := (ju Y.1 0 (jat 14 (M 73) x).toInt64, Y.2))
      exact Step_q I (H_byeIn_r hb (c_byeIn_ok (d := 17) (Y := Y) hb hT h)) C (by decide) (by decide) qE_0 hE trivial
  · exact Step_q I (H_byeIn_t1 (d := 19) hb (c_byeIn_nt (d := 17) (Y := Y) hb hT)) (cx_byeIn_nt (d := 18) hb (fun z => hT (e2.mpr z))) (by decide) (by decide) qE_0 tE_2 trivial
theorem S_meetingsIn {b : SBt} {Y : OUt} {M : MM} (I : Inv b M) (x : Int32) : Step b Y M yL_meetingsIn cL_meetingsIn 4 [(0, 9, 12, 45)] [.ref 0, .int x, .ref 102] yX6_meetingsIn cX6_meetingsIn 4 (some .int) [.ref 94, .int x] cmpT := by
  have hb := I.hb
  obtain ⟨t, dr, hL, hF⟩ := Inv_now I
  have ht := hL.1
  have hn := nn_le (dr := dr) ht
  have hm := jmc_r hL hF
  have hw := jwc_r hL hF
  have hz14 := zz_le (dr := dr) ht
  have h10 : M 1 0 = nI t := hL.2.1
  have h950 : M 95 0 = nI t := hL.2.2.1
  have h951 : M 95 1 = nI (zz t dr) := hL.2.2.2.2.2.2.1
  have h959 : M 95 9 = nI (nn t dr) := hL.2.2.2.2.2.2.2.1
  have e2 : (¬ x < 0 ∧ ¬ jwc M ≤ x) ↔ (¬ x < 0 ∧ ¬ M 95 1 - 1 < x) := isW_r hL hF
  by_cases hT : ¬ x < 0 ∧ ¬ jwc M ≤ x
  · have hX := e2.mp hT
    exact Step_q I (H_meetingsIn_r hb (c_meetingsIn (d := 17) (Y := Y) hb hT hn hm)) (cx_meetingsIn (d := 18) hb hX hn h959) (by decide) (by decide) qE_0 tE_1 trivial
  · exact Step_q I (H_meetingsIn_t1 (d := 19) hb (c_meetingsIn_nt (d := 17) (Y := Y) hb hT)) (cx_meetingsIn_nt (d := 18) hb (fun z => hT (e2.mpr z))) (by decide) (by decide) qE_0 tE_2 trivial
theorem S_clashes {b : SBt} {Y : OUt} {M : MM} (I : Inv b M) (x : Int32) : Step b Y M yL_clashes cL_clashes 4 [(0, 9, 12, 45)] [.ref 0, .int x, .ref 102] yX6_clashes_ cX6_clashes_ 2 (some .int) [.ref 94, .int x] cmpT := by
  have hb := I.hb
  obtain ⟨t, dr, hL, hF⟩ := Inv_now I
  have ht := hL.1
  have hn := nn_le (dr := dr) ht
  have hm := jmc_r hL hF
  have hw := jwc_r hL hF
  have hz14 := zz_le (dr := dr) ht
  have h10 : M 1 0 = nI t := hL.2.1
  have h950 : M 95 0 = nI t := hL.2.2.1
  have h951 : M 95 1 = nI (zz t dr) := hL.2.2.2.2.2.2.1
  have h959 : M 95 9 = nI (nn t dr) := hL.2.2.2.2.2.2.2.1
  have e2 : (¬ x < 0 ∧ ¬ jwc M ≤ x) ↔ (¬ x < 0 ∧ ¬ M 95 1 - 1 < x) := isW_r hL hF
  by_cases hT : ¬ x < 0 ∧ ¬ jwc M ≤ x
  · have hX := e2.mp hT
    exact Step_q I (H_clashes_r hb (c_clashes (d := 15) (Y := Y) hb hT hn hm)) (cx_clashesW (d := 16) hb hX hn h959 (hho_r hL)) (by decide) (by decide) qE_0 tE_1 trivial
  · exact Step_q I (H_clashes_t1 (d := 19) hb (c_clashes_nt (d := 17) (Y := Y) hb hT)) (cx_clashes_nt (d := 18) hb (fun z => hT (e2.mpr z))) (by decide) (by decide) qE_0 tE_2 trivial
theorem S_ranked {b : SBt} {Y : OUt} {M : MM} (I : Inv b M) (x : Int32) : Step b Y M yL_ranked cL_ranked 4 [(0, 9, 12, 58)] [.ref 0, .int x, .ref 102] yX6_ranked cX6_ranked 3 (some .int) [.ref 94, .int x] cmpT := by
  have hb := I.hb
  obtain ⟨t, dr, hL, hF⟩ := Inv_now I
  have ht := hL.1
  have hn := nn_le (dr := dr) ht
  have hm := jmc_r hL hF
  have hw := jwc_r hL hF
  have hz14 := zz_le (dr := dr) ht
  have h10 : M 1 0 = nI t := hL.2.1
  have h950 : M 95 0 = nI t := hL.2.2.1
  have h951 : M 95 1 = nI (zz t dr) := hL.2.2.2.2.2.2.1
  have h959 : M 95 9 = nI (nn t dr) := hL.2.2.2.2.2.2.2.1
  obtain ⟨r, hr3, h6, h5, hru1, hru2⟩ := rL_rules hL
  have hC : ∀ {Y1 : OUt} {M1 : MM}, qE M M1 → ∃ (w : Int32) (M2 : MM), CM 20 0 0 yX6_ranked cX6_ranked 3 (some .int) [.ref 94, .int x] b Y1 M1 (.inl (some (.int w))) M2 ∧ tE M1 M2 := fun {Y1 M1} hE => by
    have g9 : M1 95 9 = nI (nn t dr) := (hE 95 9 (by omega)).trans h959
    have g0 : M1 95 0 = nI t := (hE 95 0 (by omega)).trans h950
    have g5 : M1 95 5 = nI r := (hE 95 5 (by omega)).trans h5
    have gr : ∀ i, i < r → r04 (M1 95 (6 + i)) := fun i hi => by rw [hE 95 _ (by omega)]; exact hru2 i hi
    by_cases h : jfst (fRank (jm M1 94 19 0) (nn t dr) t r x) t = -1
    · exact ⟨_, _, cx_ranked_no (d := 11) hb hn g9 ht g0 hr3 g5 gr h, tE_2⟩
    · exact ⟨_, _, cx_ranked_ok (d := 11) hb hn g9 ht g0 hr3 g5 gr h, tE_1⟩
  by_cases hT : ¬ x < 0 ∧ x < M 1 0
  · have hq : qE M (jso (jcount M (nn t dr)) r t) := fun i c q => (jso_n (by omega) _).trans (jcount_n (by omega))
    obtain ⟨w, M2, C, hE⟩ := hC (Y1 := (ju Y.1 0 (jat 8 (jso (jcount M (nn t dr)) r t 85) x).toInt64, Y.2)) hq
    exact Step_q I (H_ranked_r hb (c_ranked_ok (d := 14) (Y := Y) hb hT hn hm ht h10 hr3 h6 hru1)) C (by decide) (by decide) hq hE trivial
  · obtain ⟨w, M2, C, hE⟩ := hC (Y1 := Y) qE_0
    exact Step_q I (H_ranked_t1 (d := 19) hb (c_ranked_no (d := 18) (Y := Y) hb hT)) C (by decide) (by decide) qE_0 hE trivial
theorem S_reason {b : SBt} {Y : OUt} {M : MM} (I : Inv b M) (x : Int32) : Step b Y M yL_reason cL_reason 4 [(0, 9, 12, 47), (0, 9, 15, 58)] [.ref 0, .int x, .ref 102] yX6_reason cX6_reason 2 (some .int) [.ref 94, .int x] cmpI := by
  have hb := I.hb
  obtain ⟨r1, r2, r3, r4, r5, -⟩ : rRs M M := by
    obtain ⟨τ, k, j, -, -, -, -, -, -, -, -, -, -, -, h⟩ := I.1
    exact h
  by_cases hx : ¬ x < 0 ∧ ¬ 2 < x
  · by_cases h0 : M 0 9 = 0
    · exact Step_q I (H_reason_t2 (d := 19) hb (c_reason_no (d := 19) (Y := Y) hb (fun z => le_n.mp z hx) h0)) (cx_reason_0 (d := 19) hb hx (r1.symm.trans h0)) (by decide) (by decide) qE_0 tE_2 (cmp_no jm_s (by decide))
    · have h1 : ¬ M 94 14 = 0 := fun z => h0 (r1.trans z)
      obtain ⟨z, hz, rfl⟩ := int_rng (u := x) (n := 2) (by decide) hx.1 hx.2
      rcases (show z = 0 ∨ z = 1 ∨ z = 2 by omega) with rfl | rfl | rfl
      · exact Step_q I (H_reason_r hb (c_reason_0 (d := 19) (Y := Y) hb h0)) (cx_reason_k0 (d := 19) hb h1) (by decide) (by decide) qE_0 tE_1 (cmp_eq jm_s (by rw [jm_n (by omega)]; exact r1))
      · exact Step_q I (H_reason_r hb (c_reason_1 (d := 19) (Y := Y) hb h0)) (cx_reason_k1 (d := 19) hb h1) (by decide) (by decide) qE_0 tE_1 (cmp_eq jm_s (by rw [jm_n (by omega)]; exact r2))
      · exact Step_q I (H_reason_r hb (c_reason_2 (d := 19) (Y := Y) hb h0)) (cx_reason_k2 (d := 19) hb h1) (by decide) (by decide) qE_0 tE_1 (cmp_eq jm_s (by rw [jm_n (by omega)]; exact r3))
  · exact Step_q I (H_reason_t1 (d := 19) hb (c_reason_bad (d := 19) (Y := Y) hb (le_n.mpr hx))) (cx_reason_bad (d := 19) hb hx) (by decide) (by decide) qE_0 tE_2 (cmp_no jm_s (by decide))
theorem S_account {b : SBt} {Y : OUt} {M : MM} (I : Inv b M) (x : Int32) : Step b Y M yL_account cL_account 4 [(0, 9, 12, 47)] [.ref 0, .int x, .ref 102] yX6_account cX6_account 4 (some .int) [.ref 94, .int x] cmpT := by
  have hb := I.hb
  obtain ⟨t, dr, hL, hF⟩ := Inv_now I
  have ht := hL.1
  have hn := nn_le (dr := dr) ht
  have hm := jmc_r hL hF
  have hw := jwc_r hL hF
  have hz14 := zz_le (dr := dr) ht
  have h10 : M 1 0 = nI t := hL.2.1
  have h950 : M 95 0 = nI t := hL.2.2.1
  have h951 : M 95 1 = nI (zz t dr) := hL.2.2.2.2.2.2.1
  have h959 : M 95 9 = nI (nn t dr) := hL.2.2.2.2.2.2.2.1
  by_cases hx : ¬ x < 0 ∧ ¬ 14 < x
  · obtain ⟨z, hz, rfl⟩ := int_rng (u := x) (n := 14) (by decide) hx.1 hx.2
    rcases (show z = 0 ∨ z = 1 ∨ z = 2 ∨ z = 3 ∨ z = 4 ∨ z = 5 ∨ z = 6 ∨ z = 7 ∨ z = 8 ∨ z = 9 ∨ z = 10 ∨ z = 11 ∨ z = 12 ∨ z = 13 ∨ z = 14 by omega) with rfl | rfl | rfl | rfl | rfl | rfl | rfl | rfl | rfl | rfl | rfl | rfl | rfl | rfl | rfl
    · exact Step_q I (H_account_r hb (c_account_k0 (d := 14) (Y := Y) hb hn hm)) (cx_account_q0 (d := 17) hb ) (by decide) (by decide) qE_c tE_1 trivial
    · exact Step_q I (H_account_r hb (c_account_k1 (d := 14) (Y := Y) hb hn hm)) (cx_account_q1 (d := 17) hb ) (by decide) (by decide) qE_c tE_1 trivial
    · exact Step_q I (H_account_r hb (c_account_k2 (d := 14) (Y := Y) hb hn hm)) (cx_account_q2 (d := 17) hb ) (by decide) (by decide) qE_c tE_1 trivial
    · exact Step_q I (H_account_r hb (c_account_k3 (d := 14) (Y := Y) hb hn hm)) (cx_account_q3 (d := 17) hb ) (by decide) (by decide) qE_c tE_1 trivial
    · exact Step_q I (H_account_r hb (c_account_k4 (d := 14) (Y := Y) hb hn hm)) (cx_account_q4 (d := 17) hb ) (by decide) (by decide) qE_c tE_1 trivial
    · exact Step_q I (H_account_r hb (c_account_k5 (d := 14) (Y := Y) hb hn hm)) (cx_account_q5 (d := 17) hb hn (by rw [jcount_n (by omega)]; exact h959)) (by decide) (by decide) qE_c tE_1 trivial
    · exact Step_q I (H_account_r hb (c_account_k6 (d := 14) (Y := Y) hb hn hm)) (cx_account_q6 (d := 17) hb hn (by rw [jcount_n (by omega)]; exact h959)) (by decide) (by decide) qE_c tE_1 trivial
    · exact Step_q I (H_account_r hb (c_account_k7 (d := 14) (Y := Y) hb hn hm)) (cx_account_q7 (d := 17) hb ) (by decide) (by decide) qE_c tE_1 trivial
    · exact Step_q I (H_account_r hb (c_account_k8 (d := 14) (Y := Y) hb hn hm)) (cx_account_q8 (d := 17) hb ) (by decide) (by decide) qE_c tE_1 trivial
    · exact Step_q I (H_account_r hb (c_account_k9 (d := 14) (Y := Y) hb hn hm)) (cx_account_q9 (d := 17) hb ) (by decide) (by decide) qE_c tE_1 trivial
    · exact Step_q I (H_account_r hb (c_account_k10 (d := 14) (Y := Y) hb hn hm)) (cx_account_q10 (d := 17) hb hn (by rw [jcount_n (by omega)]; exact h959)) (by decide) (by decide) qE_c tE_1 trivial
    · exact Step_q I (H_account_r hb (c_account_k11 (d := 14) (Y := Y) hb hn hm ht h10)) (cx_account_q11 (d := 16) hb hn (by rw [jcount_n (by omega)]; exact h959) ht (by rw [jcount_n (by omega)]; exact h950)) (by decide) (by decide) qE_c tE_1 trivial
    · exact Step_q I (H_account_r hb (c_account_k12 (d := 14) (Y := Y) hb hn hm hz14 hw)) (cx_account_q12 (d := 16) hb hn (by rw [jcount_n (by omega)]; exact h959) (fun i hi => by unfold jof; rw [jcount_n (by omega)]; exact hho_r hL i hi) hz14 (by rw [jcount_n (by omega)]; exact h951)) (by decide) (by decide) qE_c tE_1 trivial
    · exact Step_q I (H_account_r hb (c_account_k13 (d := 14) (Y := Y) hb hn hm)) (cx_account_q13 (d := 17) hb ) (by decide) (by decide) qE_c tE_1 trivial
    · exact Step_q I (H_account_r hb (c_account_k14 (d := 14) (Y := Y) hb hn hm)) (cx_account_q14 (d := 17) hb ) (by decide) (by decide) qE_c tE_1 trivial
  · refine Step_q I (H_account_t1 (d := 19) hb (c_account_bad (d := 19) (Y := Y) hb (le_n.mpr hx))) (cx_account_bad (d := 18) hb ?_) (by decide) (by decide) qE_0 tE_2 trivial
    by_cases c : x < 0
    · exact Or.inl (by rw [Int32.lt_iff_toInt_lt] at c; exact c)
    · exact Or.inr (by
        have c2 : (14 : Int32) < x := Decidable.byContradiction fun z => hx ⟨c, z⟩
        rw [Int32.lt_iff_toInt_lt] at c2
        exact c2)
theorem S_character {b : SBt} {Y : OUt} {M : MM} (I : Inv b M) (x : Int32) : Step b Y M yL_character cL_character 4 [(0, 9, 12, 45)] [.ref 0, .int x, .ref 102] yX6_character cX6_character 2 (some .char) [.ref 94, .int x] cmpT := by
  have hb := I.hb
  obtain ⟨-, -, -, -, -, q, hq, h7⟩ : rRs M M := by
    obtain ⟨τ, k, j, -, -, -, -, -, -, -, -, -, -, -, h⟩ := I.1
    exact h
  have hC : ∀ {Y1 : OUt}, ∃ (w : Int32) (M2 : MM), CM 20 0 0 yX6_character cX6_character 2 (some .char) [.ref 94, .int x] b Y1 M (.inl (some (.int w))) M2 ∧ tE M M2 := fun {Y1} => by
    by_cases h : ¬ x < 0 ∧ ¬ M 94 7 - 1 < x
    · obtain ⟨i, h1, rfl⟩ := (in_q2 (x := x) (n := q) (by omega)).mp (by rw [← h7]; exact h)
      exact ⟨_, _, cx_character_ok (d := 19) hb (by omega) h rfl (i2c_nar _), tE_1⟩
    · exact ⟨_, _, cx_character_bad (d := 19) hb h, tE_1⟩
  obtain ⟨n, c, h1, h2, h3, h4, h5⟩ := I.2
  by_cases h : ¬ x < 0 ∧ ¬ nI c ≤ x
  · obtain ⟨i, g1, rfl⟩ := (in_q1 (by omega)).mp h
    obtain ⟨w, M2, C, hE⟩ := hC
    exact Step_q I (H_character_r hb (c_character (d := 15) (Y := Y) hb h1 h2 h3 g1 h5)) C (by decide) (by decide) qE_0 hE trivial
  · obtain ⟨w, M2, C, hE⟩ := hC
    exact Step_q I (H_character_t1 (d := 19) hb (c_character_bad (d := 17) (Y := Y) hb h3 (by omega) h)) C (by decide) (by decide) qE_0 hE trivial
end

section
/-! ===== the tally is the reference's sums ===== -/
def fV (w z : Int32) (k : Nat) (x y e : Int32) : Int32 := if k = 1 then (if ¬ x ≤ y then w else if x = y then z else 0) else if k = 2 then jb (¬ x ≤ y) else if k = 3 then jb (x = y) else if k = 4 then jb (¬ y ≤ x) else if k = 5 then x else if k = 6 then y else if k = 7 then e else 0
theorem m1_bit : ∀ a : Nat, a < 8 → ¬ ((-1 : Int32) >>> (nI a &&& 31)) &&& 1 = 0 := by decide +kernel
theorem has_h {B : MM} {m h a k : Nat} (h0 : jof B m 0 = nI h) (h1 : jof B m 1 = nI a) (ha : a < 8) : fHas B (nI h) k (-1) m = if ¬ jof B m 4 = 1 then (if k = 8 then 1 else 0) else fV (B 95 3) (B 95 4) k (jof B m 6) (jof B m 7) 0 := by
  unfold fHas fV
  rw [if_neg (fun z => z.1 h0)]
  simp only [if_pos h0]
  rw [h1, if_neg (m1_bit a ha)]
theorem has_a {B : MM} {m h a k : Nat} (h0 : jof B m 0 = nI h) (h1 : jof B m 1 = nI a) (hh : h < 8) (ha : a < 8) (hne : h ≠ a) : fHas B (nI a) k (-1) m = if ¬ jof B m 4 = 1 then (if k = 8 then 1 else 0) else fV (B 95 3) (B 95 4) k (jof B m 7) (jof B m 6) (jof B m 7) := by
  have hn : ¬ jof B m 0 = nI a := by rw [h0]; exact fun z => hne ((nI_eq (by omega) (by omega)).mp z)
  unfold fHas fV
  rw [if_neg (fun z => z.2 h1)]
  simp only [if_neg hn]
  rw [h0, if_neg (m1_bit h hh)]
theorem has_0 {B : MM} {m h a k q : Nat} (h0 : jof B m 0 = nI h) (h1 : jof B m 1 = nI a) (hh : h < 8) (ha : a < 8) (hq : q < 8) (n1 : q ≠ h) (n2 : q ≠ a) : fHas B (nI q) k (-1) m = 0 := by
  unfold fHas
  rw [if_pos ⟨by rw [h0]; exact fun z => n1 ((nI_eq (by omega) (by omega)).mp z).symm, by rw [h1]; exact fun z => n2 ((nI_eq (by omega) (by omega)).mp z).symm⟩]
theorem raise_at {X : MM} {i h q : Nat} {v : Int32} (hh : h < 8) : jraise X i (nI h) v i q = if q = h then X i q + v else X i q := by
  unfold jraise
  rw [jput_nI hh (by decide), nI_clamp (by omega)]
  by_cases e : q = h
  · subst e; rw [jm_s, if_pos rfl]
  · rw [jm_n (by omega), if_neg e]
theorem ag_77 {X : MM} {h q : Nat} {u v : Int32} (hh : h < 8) : jag X (nI h) u v 77 q = if q = h then X 77 q + jb (¬ u ≤ v) else X 77 q := by
  unfold jag; rw [jraise_n (by omega), jraise_n (by omega), raise_at hh, jraise_n (by omega), jraise_n (by omega)]
theorem ag_78 {X : MM} {h q : Nat} {u v : Int32} (hh : h < 8) : jag X (nI h) u v 78 q = if q = h then X 78 q + jb (u = v) else X 78 q := by
  unfold jag; rw [jraise_n (by omega), raise_at hh, jraise_n (by omega), jraise_n (by omega), jraise_n (by omega)]
theorem ag_79 {X : MM} {h q : Nat} {u v : Int32} (hh : h < 8) : jag X (nI h) u v 79 q = if q = h then X 79 q + jb (¬ v ≤ u) else X 79 q := by
  unfold jag; rw [raise_at hh, jraise_n (by omega), jraise_n (by omega), jraise_n (by omega), jraise_n (by omega)]
theorem ag_80 {X : MM} {h q : Nat} {u v : Int32} (hh : h < 8) : jag X (nI h) u v 80 q = if q = h then X 80 q + u else X 80 q := by
  unfold jag; rw [jraise_n (by omega), jraise_n (by omega), jraise_n (by omega), jraise_n (by omega), raise_at hh]
theorem ag_81 {X : MM} {h q : Nat} {u v : Int32} (hh : h < 8) : jag X (nI h) u v 81 q = if q = h then X 81 q + v else X 81 q := by
  unfold jag; rw [jraise_n (by omega), jraise_n (by omega), jraise_n (by omega), raise_at hh, jraise_n (by omega)]
theorem if_ha {h a q : Nat} {S x y : Int32} (hne : h ≠ a) : (if q = a then (if q = h then S + x else S) + y else if q = h then S + x else S) = S + (if q = h then x else if q = a then y else 0) := by
  by_cases e : q = h
  · subst e; rw [if_neg hne, if_pos rfl, if_pos rfl]
  · by_cases e2 : q = a
    · subst e2; rw [if_pos rfl, if_neg e, if_neg e, if_pos rfl]
    · rw [if_neg e2, if_neg e, if_neg e, if_neg e2, Int32.add_zero]
theorem nI_sub0 {g g2 : Nat} (h : g ≤ 20) (h2 : g2 ≤ 20) : (nI g - nI g2 = 0 ↔ g = g2) ∧ (nI g - nI g2 ≤ 0 ↔ g ≤ g2) := by
  have key : ∀ g, g < 21 → ∀ g2, g2 < 21 → (nI g - nI g2 = 0 ↔ g = g2) ∧ (nI g - nI g2 ≤ 0 ↔ g ≤ g2) := by decide +kernel
  exact key g (by omega) g2 (by omega)
theorem tl_y {M : MM} {m h a g g2 k q : Nat} (hh : h < 8) (ha : a < 8) (hne : h ≠ a) (h70 : M 70 m = nI h) (h71 : M 71 m = nI a) (h5 : M 5 m = nI g) (h6 : M 6 m = nI g2) (hg : g ≤ 20) (hg2 : g2 ≤ 20) (hk : 1 ≤ k) (hk8 : k ≤ 8) :
    jt1 M (m + 1) (75 + k) q = jt1 M m (75 + k) q + (if q = h then fV (M 1 4) (M 1 5) k (nI g) (nI g2) 0 else if q = a then fV (M 1 4) (M 1 5) k (nI g2) (nI g) (nI g2) else 0) := by
  rw [jt1, if_neg (by rw [h5]; exact nI_nm1 (by omega)), h70, h71, h5, h6]
  have le1 : nI g ≤ nI g2 ↔ g ≤ g2 := by rw [Int32.le_iff_toInt_le, nI_toInt (by omega), nI_toInt (by omega)]; omega
  have le2 : nI g2 ≤ nI g ↔ g2 ≤ g := by rw [Int32.le_iff_toInt_le, nI_toInt (by omega), nI_toInt (by omega)]; omega
  have eq1 : nI g = nI g2 ↔ g = g2 := nI_eq (by omega) (by omega)
  have eq2 : nI g2 = nI g ↔ g2 = g := nI_eq (by omega) (by omega)
  rcases (show k = 1 ∨ k = 2 ∨ k = 3 ∨ k = 4 ∨ k = 5 ∨ k = 6 ∨ k = 7 ∨ k = 8 by omega) with rfl | rfl | rfl | rfl | rfl | rfl | rfl | rfl
  · show jpts _ 76 _ _ _ _ _ _ 76 q = jt1 M m 76 q + _
    unfold jpts fV
    rw [if_pos rfl, if_pos rfl]
    by_cases e : g = g2
    · have e1 : (if ¬ nI g ≤ nI g2 then M 1 4 else if nI g = nI g2 then M 1 5 else 0) = M 1 5 := by rw [if_neg (fun z => z (le1.mpr (by omega))), if_pos (eq1.mpr e)]
      have e2 : (if ¬ nI g2 ≤ nI g then M 1 4 else if nI g2 = nI g then M 1 5 else 0) = M 1 5 := by rw [if_neg (fun z => z (le2.mpr (by omega))), if_pos (eq2.mpr e.symm)]
      rw [e1, e2, if_pos ((nI_sub0 hg hg2).1.mpr e), raise_at ha, raise_at hh, jap_n (by omega), if_ha hne]
    · rw [if_neg (fun z => e ((nI_sub0 hg hg2).1.mp z))]
      by_cases c : g ≤ g2
      · have e1 : (if ¬ nI g ≤ nI g2 then M 1 4 else if nI g = nI g2 then M 1 5 else 0) = 0 := by rw [if_neg (fun z => z (le1.mpr c)), if_neg (fun z => e (eq1.mp z))]
        have e2 : (if ¬ nI g2 ≤ nI g then M 1 4 else if nI g2 = nI g then M 1 5 else 0) = M 1 4 := if_pos (fun z => by have := le2.mp z; omega)
        rw [e1, e2, if_pos ((nI_sub0 hg hg2).2.mpr c), raise_at ha, jap_n (by omega)]
        by_cases c1 : q = h
        · subst c1; rw [if_neg hne, if_pos rfl, Int32.add_zero]
        · rw [if_neg c1]
          by_cases c2 : q = a
          · rw [if_pos c2, if_pos c2]
          · rw [if_neg c2, if_neg c2, Int32.add_zero]
      · have e1 : (if ¬ nI g ≤ nI g2 then M 1 4 else if nI g = nI g2 then M 1 5 else 0) = M 1 4 := if_pos (fun z => c (le1.mp z))
        have e2 : (if ¬ nI g2 ≤ nI g then M 1 4 else if nI g2 = nI g then M 1 5 else 0) = 0 := by rw [if_neg (fun z => z (le2.mpr (by omega))), if_neg (fun z => e (eq2.mp z).symm)]
        rw [e1, e2, if_neg (fun z => c ((nI_sub0 hg hg2).2.mp z)), raise_at hh, jap_n (by omega)]
        by_cases c1 : q = h
        · rw [if_pos c1, if_pos c1]
        · rw [if_neg c1, if_neg c1]
          by_cases c2 : q = a
          · rw [if_pos c2, Int32.add_zero]
          · rw [if_neg c2, Int32.add_zero]
  · show jpts _ 76 _ _ _ _ _ _ 77 q = jt1 M m 77 q + _
    rw [jpts_n (by omega)]; unfold jap; rw [jraise_n (by omega), ag_77 ha, ag_77 hh, jm_n (by omega), jm_n (by omega), jm_n (by omega), if_ha hne]; rfl
  · show jpts _ 76 _ _ _ _ _ _ 78 q = jt1 M m 78 q + _
    rw [jpts_n (by omega)]; unfold jap; rw [jraise_n (by omega), ag_78 ha, ag_78 hh, jm_n (by omega), jm_n (by omega), jm_n (by omega), if_ha hne]; rfl
  · show jpts _ 76 _ _ _ _ _ _ 79 q = jt1 M m 79 q + _
    rw [jpts_n (by omega)]; unfold jap; rw [jraise_n (by omega), ag_79 ha, ag_79 hh, jm_n (by omega), jm_n (by omega), jm_n (by omega), if_ha hne]; rfl
  · show jpts _ 76 _ _ _ _ _ _ 80 q = jt1 M m 80 q + _
    rw [jpts_n (by omega)]; unfold jap; rw [jraise_n (by omega), ag_80 ha, ag_80 hh, jm_n (by omega), jm_n (by omega), jm_n (by omega), if_ha hne]; rfl
  · show jpts _ 76 _ _ _ _ _ _ 81 q = jt1 M m 81 q + _
    rw [jpts_n (by omega)]; unfold jap; rw [jraise_n (by omega), ag_81 ha, ag_81 hh, jm_n (by omega), jm_n (by omega), jm_n (by omega), if_ha hne]; rfl
  · show jpts _ 76 _ _ _ _ _ _ 82 q = jt1 M m 82 q + _
    rw [jpts_n (by omega)]; unfold jap; rw [raise_at ha, jag_n (by omega), jag_n (by omega), jm_n (by omega), jm_n (by omega), jm_n (by omega)]
    show _ = jt1 M m 82 q + (if q = h then 0 else if q = a then nI g2 else 0)
    by_cases c1 : q = h
    · subst c1; rw [if_neg hne, if_pos rfl, Int32.add_zero]
    · rw [if_neg c1]
      by_cases c2 : q = a
      · rw [if_pos c2, if_pos c2]
      · rw [if_neg c2, if_neg c2, Int32.add_zero]
  · show jpts _ 76 _ _ _ _ _ _ 83 q = jt1 M m 83 q + (if q = h then 0 else if q = a then 0 else 0)
    rw [jpts_n (by omega), jap_n (by omega)]
    by_cases c1 : q = h
    · rw [if_pos c1, Int32.add_zero]
    · by_cases c2 : q = a
      · rw [if_neg c1, if_pos c2, Int32.add_zero]
      · rw [if_neg c1, if_neg c2, Int32.add_zero]
theorem tl_n {M : MM} {m h a k q : Nat} (hh : h < 8) (ha : a < 8) (hne : h ≠ a) (h70 : M 70 m = nI h) (h71 : M 71 m = nI a) (h5 : M 5 m = -1) (hk : 1 ≤ k) (hk8 : k ≤ 8) :
    jt1 M (m + 1) (75 + k) q = jt1 M m (75 + k) q + (if q = h then (if k = 8 then 1 else 0) else if q = a then (if k = 8 then 1 else 0) else 0) := by
  rw [jt1, if_pos h5, h70, h71]
  by_cases e : k = 8
  · subst e
    show jraise (jraise (jt1 M m) 83 (nI h) 1) 83 (nI a) 1 83 q = jt1 M m 83 q + _
    rw [raise_at ha, raise_at hh, if_ha hne]; rfl
  · rw [jraise_n (by omega), jraise_n (by omega), if_neg e]
    by_cases c1 : q = h
    · rw [if_pos c1, Int32.add_zero]
    · by_cases c2 : q = a
      · rw [if_neg c1, if_pos c2, Int32.add_zero]
      · rw [if_neg c1, if_neg c2, Int32.add_zero]
theorem jclear_r {M : MM} {i q : Nat} (hi : 76 ≤ i ∧ i ≤ 84) (hq : q < 8) : jclear M i q = 0 := by
  rcases (show i = 76 ∨ i = 77 ∨ i = 78 ∨ i = 79 ∨ i = 80 ∨ i = 81 ∨ i = 82 ∨ i = 83 ∨ i = 84 by omega) with rfl | rfl | rfl | rfl | rfl | rfl | rfl | rfl | rfl <;> simp [jclear, jfill, hq]
theorem tl_sum {t : Nat} {A B : MM} (hL : rL t true (lgC A 1) (B 95)) (hF : rFix t A) {k q : Nat} (hk : 1 ≤ k) (hk8 : k ≤ 8) (hq : q < 8) : ∀ m, m ≤ nT t → jt1 A m (75 + k) q = jsum (fHas B (nI q) k (-1)) m
  | 0, _ => jclear_r (by omega) hq
  | m + 1, hm => by
    have ih := tl_sum hL hF hk hk8 hq m (by omega)
    obtain ⟨h, a, h1, h2, h3, h4, h5, h6, h7⟩ := home_r hL (show m < nT t by omega)
    obtain ⟨f1, f2, -⟩ := hF.2.2.1 m (by omega)
    have ht := hL.1
    have g4 : A 1 4 = B 95 3 := by
      obtain ⟨z, -, z1, z2⟩ := hL.2.2.2.2.2.2.2.2.2.1
      exact (show A 1 4 = nI z from z1).trans z2.symm
    have g5 : A 1 5 = B 95 4 := by
      obtain ⟨z, -, z1, z2⟩ := hL.2.2.2.2.2.2.2.2.2.2.1
      exact (show A 1 5 = nI z from z1).trans z2.symm
    rw [jsum, ← ih]
    rcases (mt_of.mp (hL.2.2.2.2.2.2.2.2.2.2.2.2 m (show m < nn t true from hm))).2.2.2.2.2 with ⟨p, g, g2, p1, p2, p3, p4, p5, p6⟩ | ⟨p, p3, p4⟩
    · rw [tl_y (by omega) (by omega) h3 (f1.trans h4) (f2.trans h5) p3 p5 p1 p2 hk hk8]
      congr 1
      by_cases e : q = h
      · subst e; rw [if_pos rfl, has_h h6 h7 (by omega), if_neg (fun z => z p), g4, g5, p4, p6]
      · by_cases e2 : q = a
        · subst e2; rw [if_neg e, if_pos rfl, has_a h6 h7 (by omega) (by omega) h3, if_neg (fun z => z p), g4, g5, p4, p6]
        · rw [if_neg e, if_neg e2, has_0 h6 h7 (by omega) (by omega) hq e e2]
    · have p' : ¬ jof B m 4 = 1 := by rw [p]; decide
      rw [tl_n (by omega) (by omega) h3 (f1.trans h4) (f2.trans h5) p3 hk hk8]
      congr 1
      by_cases e : q = h
      · subst e; rw [if_pos rfl, has_h h6 h7 (by omega), if_pos p']
      · by_cases e2 : q = a
        · subst e2; rw [if_neg e, if_pos rfl, has_a h6 h7 (by omega) (by omega) h3, if_pos p']
        · rw [if_neg e, if_neg e2, has_0 h6 h7 (by omega) (by omega) hq e e2]
/-- the tally after a count, whether drawn or not -/
theorem tally_r {t : Nat} {dr : Bool} {A B : MM} (hL : rL t dr (lgC A 1) (B 95)) (hF : dr = true → rFix t A) {k q : Nat} (hk : 1 ≤ k) (hk8 : k ≤ 8) (hq : q < 8) : jcount A (nn t dr) (75 + k) q = gH B (nn t dr) (nI q) k := by
  unfold jcount gH
  rw [jt2_n (by omega)]
  cases dr with
  | false => exact jclear_r (by omega) hq
  | true => exact tl_sum hL (hF rfl) hk hk8 hq _ (Nat.le_refl _)
theorem fV_le {w z : Nat} {g g2 k : Nat} (hw : w ≤ 20) (hz : z ≤ 20) (hg : g ≤ 20) (hg2 : g2 ≤ 20) {e : Int32} (he : e = 0 ∨ e = nI g) : ∃ v, v ≤ 20 ∧ fV (nI w) (nI z) k (nI g) (nI g2) e = nI v := by
  have hj : ∀ (p : Prop) [Decidable p], ∃ v, v ≤ 20 ∧ jb p = nI v := fun p _ => by
    by_cases c : p
    · exact ⟨1, by omega, jb_t c⟩
    · exact ⟨0, by omega, jb_f c⟩
  unfold fV
  split
  · split
    · exact ⟨w, hw, rfl⟩
    · split
      · exact ⟨z, hz, rfl⟩
      · exact ⟨0, by omega, rfl⟩
  · split
    · exact hj _
    · split
      · exact hj _
      · split
        · exact hj _
        · split
          · exact ⟨g, hg, rfl⟩
          · split
            · exact ⟨g2, hg2, rfl⟩
            · split
              · rcases he with rfl | rfl
                · exact ⟨0, by omega, rfl⟩
                · exact ⟨g, hg, rfl⟩
              · exact ⟨0, by omega, rfl⟩
theorem has_le {t : Nat} {A B : MM} (hL : rL t true (lgC A 1) (B 95)) {k q m : Nat} (hq : q < 8) (hm : m < nT t) : ∃ v, v ≤ 20 ∧ fHas B (nI q) k (-1) m = nI v := by
  have ht := hL.1
  obtain ⟨h, a, h1, h2, h3, h4, h5, h6, h7⟩ := home_r hL hm
  obtain ⟨w, w1, -, w2⟩ := hL.2.2.2.2.2.2.2.2.2.1
  obtain ⟨z, z1, -, z2⟩ := hL.2.2.2.2.2.2.2.2.2.2.1
  have h8 : ∃ v, v ≤ 20 ∧ (if k = 8 then (1 : Int32) else 0) = nI v := by
    split
    · exact ⟨1, by omega, rfl⟩
    · exact ⟨0, by omega, rfl⟩
  rcases (mt_of.mp (hL.2.2.2.2.2.2.2.2.2.2.2.2 m (show m < nn t true from hm))).2.2.2.2.2 with ⟨p, g, g2, p1, p2, p3, p4, p5, p6⟩ | ⟨p, p3, p4⟩
  · by_cases e : q = h
    · subst e; rw [has_h h6 h7 (by omega), if_neg (fun z => z p), w2, z2, p4, p6]; exact fV_le (by omega) (by omega) p1 p2 (Or.inl rfl)
    · by_cases e2 : q = a
      · subst e2; rw [has_a h6 h7 (by omega) (by omega) h3, if_neg (fun z => z p), w2, z2, p4, p6]; exact fV_le (by omega) (by omega) p2 p1 (Or.inr rfl)
      · rw [has_0 h6 h7 (by omega) (by omega) hq e e2]; exact ⟨0, by omega, rfl⟩
  · have p' : ¬ jof B m 4 = 1 := by rw [p]; decide
    by_cases e : q = h
    · subst e; rw [has_h h6 h7 (by omega), if_pos p']; exact h8
    · by_cases e2 : q = a
      · subst e2; rw [has_a h6 h7 (by omega) (by omega) h3, if_pos p']; exact h8
      · rw [has_0 h6 h7 (by omega) (by omega) hq e e2]; exact ⟨0, by omega, rfl⟩
theorem jsum_le {f : Nat → Int32} : ∀ n, (∀ m, m < n → ∃ v, v ≤ 20 ∧ f m = nI v) → ∃ v, v ≤ 20 * n ∧ jsum f n = nI v
  | 0, _ => ⟨0, by omega, rfl⟩
  | n + 1, h => by
    obtain ⟨v, h1, h2⟩ := jsum_le n (fun m hm => h m (by omega))
    obtain ⟨w, h3, h4⟩ := h n (by omega)
    exact ⟨v + w, by omega, by rw [jsum, h2, h4, nI_add]⟩
theorem gH_le {t : Nat} {dr : Bool} {A B : MM} (hL : rL t dr (lgC A 1) (B 95)) {k q : Nat} (hq : q < 8) : ∃ v, v < 10000 ∧ gH B (nn t dr) (nI q) k = nI v := by
  have hn := nn_le (dr := dr) hL.1
  unfold gH
  obtain ⟨v, h1, h2⟩ := jsum_le (f := fHas B (nI q) k (-1)) (nn t dr) (fun m hm => by
    cases dr with
    | false => exact absurd hm (Nat.not_lt_zero m)
    | true => exact has_le hL hq hm)
  exact ⟨v, by omega, h2⟩
end

section
/-! ===== quotients that are numbers ===== -/
theorem n32_of {r : UInt32} (h : Jvm.FP.Core.fIsNaN r = false) : vf_n32 r := by
  have h1 : ¬ Jvm.FP.Core.fIsNaN r = true := by rw [h]; decide
  rw [Jvm.FP.Core.isNaN_bits32] at h1
  unfold vf_n32
  rw [UInt32.le_iff_toNat_le, UInt32.toNat_and, show (0x7fffffff : UInt32).toNat = 2 ^ 31 - 1 from rfl, Nat.and_two_pow_sub_one_eq_mod, show (0x7f800000 : UInt32).toNat = 2139095040 from rfl]
  omega
theorem n64_of {r : UInt64} (h : Jvm.FP.Core.dIsNaN r = false) : vf_n64 r := by
  have h1 : ¬ Jvm.FP.Core.dIsNaN r = true := by rw [h]; decide
  rw [Jvm.FP.Core.isNaN_bits] at h1
  unfold vf_n64
  rw [UInt64.le_iff_toNat_le, UInt64.toNat_and, show (0x7fffffffffffffff : UInt64).toNat = 2 ^ 63 - 1 from rfl, Nat.and_two_pow_sub_one_eq_mod, show (0x7ff0000000000000 : UInt64).toNat = 9218868437227405312 from rfl]
  omega
theorem i2f_ok {v : Int32} : Jvm.FP.Core.fIsNaN (FP.i2f v) = false := (Jvm.FP.Core.notNaN_iff32 _).mpr (Jvm.FP.Core.i2f_fin v).ne_nan
theorem i2d_ok {v : Int32} : Jvm.FP.Core.dIsNaN (FP.i2d v) = false := by
  have h := Jvm.FP.Core.i2d_mag v
  cases e : Jvm.FP.Core.dIsNaN (FP.i2d v) with
  | false => rfl
  | true =>
    have h2 := (Jvm.FP.Core.isNaN_bits (FP.i2d v)).mp e
    have h3 : (FP.i2d v).toNat % 2 ^ 63 < 1056 * 2 ^ 52 := h
    omega
theorem toInt_ne {w : Int32} (h : ¬ w = 0) : w.toInt ≠ 0 := fun z => h (Int32.toInt_inj.mp (by rw [z]; rfl))
theorem fdiv_ok {v w : Int32} (hw : ¬ w = 0) : Jvm.FP.Core.fIsNaN (FP.fdiv (FP.i2f v) (FP.i2f w)) = false := by
  refine Jvm.FP.Core.fdiv_out i2f_ok (Jvm.FP.Core.i2f_fin w) fun z => ?_
  have h1 := (Jvm.FP.Core.zero_bits232 _).mp z
  have h2 := (Jvm.FP.Core.i2f_big (toInt_ne hw)).1
  have h3 : (Jvm.FP.Core.i2f w).toNat % 2 ^ 31 = 0 := h1
  omega
theorem ddiv_ok {v w : Int32} (hw : ¬ w = 0) : Jvm.FP.Core.dIsNaN (FP.ddiv (FP.i2d v) (FP.i2d w)) = false := by
  have h2 := Jvm.FP.Core.i2d_big (toInt_ne hw)
  refine Jvm.FP.Core.ddiv_out i2d_ok ((Jvm.FP.Core.fin_bits _).mpr ?_) fun z => ?_
  · show (Jvm.FP.Core.i2d w).toNat % 2 ^ 63 < _
    omega
  · have h1 := (Jvm.FP.Core.zero_bits2 _).mp z
    have h3 : (Jvm.FP.Core.i2d w).toNat % 2 ^ 63 = 0 := h1
    omega
theorem f2d_ok {v : UInt32} (h : Jvm.FP.Core.fIsNaN v = false) : vf_n64 (FP.f2d v) := by
  refine n64_of ?_
  unfold FP.f2d
  rw [h]
  exact Jvm.FP.Core.f2d_out h
section JFLT
variable {p : Program} {l : Launch} {e : Env} {R : Room} {s : State} {m : MethodId} {args : Array Value} {below : List Frame} {meth : Method} {c : Code} {D : va_G} {tyc : Nat → ClassId} {A : Nat → Prop} {n0 : Nat} {ad0 : Nat → Nat} {nL : Nat} {Qs : State → Prop}
variable {own : String} {cc : ByteArray} {pc : Nat} {L : List (Option Value)} {st : List Value} {h : MH} {cells slots : Nat} {b : SBt} {Y : OUt} {M : MM}
theorem j_f2d (x : j_X p l s m args meth c D tyc A own cc nL) {v : UInt32} (hd : decode cc pc = .ok (.f2d, 1)) (hne : vf_n64 (FP.f2d v)) (kk : JJ p l e R s m args below meth c D tyc A n0 ad0 nL Qs (pc + 1) L (.double (FP.f2d v) :: st) h cells slots) : JJ p l e R s m args below meth c D tyc A n0 ad0 nL Qs pc L (.float v :: st) h cells slots := by
  intro ad ls H locs I
  exact lv_f2d x.1 x.2.1 hd hne (kk ad ls H locs (I.st fun hs => j_ok_cons j_ok_double (j_ok_tl hs)))
theorem j_dastore (x : j_X p l s m args meth c D tyc A own cc nL) {i : Nat} {k : Int32} {v : UInt64} (hd : decode cc pc = .ok (.dastore, 1)) (hi : i < h.1) (ht : (h.2 i).1 = 105) (hk : vp_in k (h.2 i).2.1) (kk : JJ p l e R s m args below meth c D tyc A n0 ad0 nL Qs (pc + 1) L st (j_fld h i k.toNatClampNeg (.double v)) cells slots) : JJ p l e R s m args below meth c D tyc A n0 ad0 nL Qs pc L (.double v :: .int k :: .ref i :: st) h cells slots := by
  intro ad ls H locs I
  have he : (j_w tyc ad h)[i]? = some (ad i, .inl (tyc 105, (h.2 i).2.1, .inr (.inr (.inr (.inl fun j => j_dbl ((h.2 i).2.2 j)))))) := by rw [j_w_get hi, j_e_arr ht (by decide)]; rfl
  refine va_dast x.1 x.2.1 x.2.2.2.2.2.1 I.2.1 I.2.2.1 I.2.2.2.1 i 5 he rfl hk hd (fun H1 locs1 hP hD hS => ?_)
  have e1 : vf_upd (fun j => j_dbl ((h.2 i).2.2 j)) k.toNatClampNeg v = fun j => j_dbl (ju (h.2 i).2.2 k.toNatClampNeg (.double v) j) := funext fun j => by
    by_cases e : j = k.toNatClampNeg <;> simp [vf_upd, ju, e, j_dbl]
  have e2 : j_e tyc ad ((h.2 i).1, (h.2 i).2.1, ju (h.2 i).2.2 k.toNatClampNeg (.double v)) = .inl (tyc 105, (h.2 i).2.1, .inr (.inr (.inr (.inl fun j => j_dbl (ju (h.2 i).2.2 k.toNatClampNeg (.double v) j))))) := Eq.trans (j_e_arr (ad := ad) (tyc := tyc) (c := (_, _, _)) (t := 105) ht (by decide)) rfl
  rw [e1, ← e2] at hP hD
  exact kk ad ls H1 locs1 (I.wr (fun hs => j_ok_tl (j_ok_tl (j_ok_tl hs))) hi (fun j => by
    show j_ok h.1 (ju (h.2 i).2.2 k.toNatClampNeg (.double v) j)
    by_cases e : j = k.toNatClampNeg
    · subst e; rw [ju_s]; exact j_ok_double
    · rw [ju_n e]; exact I.2.2.2.2.2.1 i hi j) hP hD hS)
theorem j2_dast (x : j_X p l s m args meth c D tyc A own cc nL) (hb : 104 ≤ b.2.1) {v : UInt64} (hd : decode cc pc = .ok (.dastore, 1)) (kk : JJ p l e R s m args below meth c D tyc A n0 ad0 nL Qs (pc + 1) L st (HH b (Y.1, ju Y.2 0 v) M) cells slots) : JJ p l e R s m args below meth c D tyc A n0 ad0 nL Qs pc L (.double v :: .int 0 :: .ref 103 :: st) (HH b Y M) cells slots := by
  refine j_dastore x hd (show 103 < b.2.1 by omega) rfl (by show vp_in 0 (hLen b 103); rw [hLen_lo (by omega)]; exact vp_c (by decide)) ?_
  have e : j_fld (HH b Y M) 103 (0 : Int32).toNatClampNeg (.double v) = HH b (Y.1, ju Y.2 0 v) M := by
    refine Prod.ext rfl (funext fun z => ?_)
    show ju (fun i => (hT i, hLen b i, hF b Y M i)) 103 (hT 103, hLen b 103, ju (hF b Y M 103) 0 (.double v)) z = (hT z, hLen b z, hF b (Y.1, ju Y.2 0 v) M z)
    by_cases hz : z = 103
    · subst hz
      rw [ju_s]
      congr 2
      funext k
      by_cases hk : k = 0
      · subst hk; rw [ju_s]; show _ = Value.double (ju Y.2 0 v 0); rw [ju_s]
      · rw [ju_n hk]; show Value.double (Y.2 k) = Value.double (ju Y.2 0 v k); rw [ju_n hk]
    · rw [ju_n hz]
      congr 2
      funext k
      unfold hF
      rw [if_neg hz, if_neg hz]
  rw [e]
  exact kk
end JFLT
theorem H_meanGoals_r {d mc ms : Nat} {b : SBt} {Y : OUt} {M M1 : MM} (hb : 104 ≤ b.2.1) {v : UInt32} (hv : Jvm.FP.Core.fIsNaN v = false) (hcon : CM d mc ms yX5_meanGoals cX5_meanGoals 1 (some .float) [.ref 0] b Y M (.inl (some (.float v))) M1) : CMH (d + 1) mc ms yL_meanGoals cL_meanGoals 3 (some .int) [(0, 8, 11, 120)] [.ref 0, .ref 103] b Y M 0 (Y.1, ju Y.2 0 (FP.f2d v)) M1 := by
  refine ConH.of (by decide +kernel) (Nat.le_of_ble_eq_true rfl) rfl fun p l e s m args below meth c D tyc A ad0 x hr htab hname => ?_
  change JJ _ _ _ _ _ _ _ _ _ _ _ _ _ _ _ _ _ 0 [some (.ref 0), some (.ref 103), none] [] _ 0 0
  refine j_aload_n x dL_meanGoals_0 rfl ?_
  refine j_iconst (v := 0) x dL_meanGoals_1 (by decide) ?_
  refine j_aload_n x dL_meanGoals_2 rfl ?_
  refine j2_callVw x hb dL_meanGoals_3 m_X5_meanGoals hcon wmL_116 jc_9 rfl rfl rfl (Nat.le_of_ble_eq_true rfl) (j_fit_rm (by omega) (by omega) (by omega)) rfl ?_
  refine j_f2d x dL_meanGoals_6 (f2d_ok hv) ?_
  refine j2_dast x hb dL_meanGoals_7 ?_
  refine j_goto (tgt := 14) x dL_meanGoals_8 (by decide) ?_
  refine j_iconst (v := 0) x dL_meanGoals_14 (by decide) ?_
  exact j_ireturn x hr dL_meanGoals_15 (by omega) (by omega) ⟨rfl, rfl⟩
theorem H_homeShare_r {d mc ms : Nat} {b : SBt} {Y : OUt} {M M1 : MM} (hb : 104 ≤ b.2.1) {v : UInt64} (hcon : CM d mc ms yX5_homeShare cX5_homeShare 1 (some .double) [.ref 0] b Y M (.inl (some (.double v))) M1) : CMH (d + 1) mc ms yL_homeShare cL_homeShare 3 (some .int) [(0, 7, 10, 120)] [.ref 0, .ref 103] b Y M 0 (Y.1, ju Y.2 0 v) M1 := by
  refine ConH.of (by decide +kernel) (Nat.le_of_ble_eq_true rfl) rfl fun p l e s m args below meth c D tyc A ad0 x hr htab hname => ?_
  change JJ _ _ _ _ _ _ _ _ _ _ _ _ _ _ _ _ _ 0 [some (.ref 0), some (.ref 103), none] [] _ 0 0
  refine j_aload_n x dL_homeShare_0 rfl ?_
  refine j_iconst (v := 0) x dL_homeShare_1 (by decide) ?_
  refine j_aload_n x dL_homeShare_2 rfl ?_
  refine j2_callVw x hb dL_homeShare_3 m_X5_homeShare hcon wmL_122 jc_9 rfl rfl rfl (Nat.le_of_ble_eq_true rfl) (j_fit_rm (by omega) (by omega) (by omega)) rfl ?_
  refine j2_dast x hb dL_homeShare_6 ?_
  refine j_goto (tgt := 13) x dL_homeShare_7 (by decide) ?_
  refine j_iconst (v := 0) x dL_homeShare_13 (by decide) ?_
  exact j_ireturn x hr dL_homeShare_14 (by omega) (by omega) ⟨rfl, rfl⟩
theorem H_line_x {d mc ms : Nat} {b : SBt} {Y : OUt} {M : MM} (hb : 104 ≤ b.2.1) {u0 : Int32} {P : Int32 → SBt → MM → Prop} (hcon : Con d mc ms yX5_line cX5_line 2 (some .int) [.ref 0, .int u0] (HH b Y M) (fun o k => ∃ v b2 N, P v b2 N ∧ o = .inl (some (.int v)) ∧ k = HH b2 Y N)) (hP : ∀ v b2 N, P v b2 N → 104 ≤ b2.2.1) :
    ConH (d + 1) mc ms yL_line cL_line 4 (some .int) [(0, 9, 12, 45)] [.ref 0, .int u0, .ref 102] (HH b Y M) (fun o k => ∃ v b2 N, P v b2 N ∧ o = .inl (some (.int 0)) ∧ k = HH b2 (ju Y.1 0 v.toInt64, Y.2) N) := by
  refine ConH.of (by decide +kernel) (Nat.le_of_ble_eq_true rfl) rfl fun p l e s m args below meth c D tyc A ad0 x hr htab hname => ?_
  change JJ _ _ _ _ _ _ _ _ _ _ _ _ _ _ _ _ _ 0 [some (.ref 0), some (.int u0), some (.ref 102), none] [] _ 0 0
  refine j_aload_n x dL_line_0 rfl ?_
  refine j_iconst (v := 0) x dL_line_1 (by decide) ?_
  refine j_aload_n x dL_line_2 rfl ?_
  refine j_iload_n x dL_line_3 rfl ?_
  refine j_callV x dL_line_4 hcon m_X5_line wmL_109 jc_9 rfl (show 0 < b.2.1 by omega) rfl rfl (Nat.le_of_ble_eq_true rfl) (j_fit_rm (by omega) (by omega) (by omega)) rfl (fun E k z => by obtain ⟨v, b2, N, -, h, -⟩ := z; cases h) (fun v1 h1 hq => ?_)
  obtain ⟨v, b2, N, hq, e1, rfl⟩ := hq
  have hb2 := hP _ _ _ hq
  cases e1
  change JJ _ _ _ _ _ _ _ _ _ _ _ _ _ _ _ _ _ _ _ [.int v, .int 0, .ref 102] (HH b2 Y N) _ _
  refine j_i2l x dL_line_7 ?_
  refine j2_last x hb2 dL_line_8 ?_
  refine j_goto (tgt := 15) x dL_line_9 (by decide) ?_
  refine j_iconst (v := 0) x dL_line_15 (by decide) ?_
  exact j_ireturn x hr dL_line_16 (by omega) (by omega) ⟨v, b2, N, hq, rfl, rfl⟩
/-! ===== steps: the line, means ===== -/
theorem S_meanGoals {b : SBt} {Y : OUt} {M : MM} (I : Inv b M) : Step b Y M yL_meanGoals cL_meanGoals 3 [(0, 8, 11, 120)] [.ref 0, .ref 103] yX6_meanGoals cX6_meanGoals 1 (some .float) [.ref 94] cmpT := by
  have hb := I.hb
  obtain ⟨t, dr, hL, hF⟩ := Inv_now I
  have hn := nn_le (dr := dr) hL.1
  have hm := jmc_r hL hF
  have h959 : M 95 9 = nI (nn t dr) := hL.2.2.2.2.2.2.2.1
  have hC : ∀ {Y1 : OUt} {M1 : MM}, qE M M1 → ∃ (w : UInt32) (M2 : MM), CM 20 0 0 yX6_meanGoals cX6_meanGoals 1 (some .float) [.ref 94] b Y1 M1 (.inl (some (.float w))) M2 ∧ tE M1 M2 := fun {Y1 M1} hE => by
    have g9 : M1 95 9 = nI (nn t dr) := (hE 95 9 (by omega)).trans h959
    by_cases h : jsum (fun m => jof (jm M1 94 19 0) m 4) (nn t dr) = 0
    · exact ⟨_, _, cx_meanGoals_no (d := 18) hb hn g9 h, tE_2⟩
    · exact ⟨_, _, cx_meanGoals_ok (d := 17) hb hn g9 h (n32_of (fdiv_ok h)), tE_1⟩
  by_cases h : jcount M (nn t dr) 75 0 = 0
  · obtain ⟨w, M2, C, hE⟩ := hC (Y1 := Y) qE_c
    exact Step_q I (H_meanGoals_t1 (d := 19) hb (c_meanGoals_no (d := 14) (Y := Y) hb hn hm h)) C (by decide) (by decide) qE_c hE trivial
  · obtain ⟨w, M2, C, hE⟩ := hC (Y1 := (Y.1, ju Y.2 0 (FP.f2d (FP.fdiv (FP.i2f (jcount M (nn t dr) 75 1)) (FP.i2f (jcount M (nn t dr) 75 0)))))) qE_c
    exact Step_q I (H_meanGoals_r (d := 19) hb (fdiv_ok h) (c_meanGoals_ok (d := 14) (Y := Y) hb hn hm h (n32_of (fdiv_ok h)))) C (by decide) (by decide) qE_c hE trivial
theorem S_homeShare {b : SBt} {Y : OUt} {M : MM} (I : Inv b M) : Step b Y M yL_homeShare cL_homeShare 3 [(0, 7, 10, 120)] [.ref 0, .ref 103] yX6_homeShare cX6_homeShare 3 (some .double) [.ref 94] cmpT := by
  have hb := I.hb
  obtain ⟨t, dr, hL, hF⟩ := Inv_now I
  have hn := nn_le (dr := dr) hL.1
  have hm := jmc_r hL hF
  have h959 : M 95 9 = nI (nn t dr) := hL.2.2.2.2.2.2.2.1
  have hC : ∀ {Y1 : OUt} {M1 : MM}, qE M M1 → ∃ (w : UInt64) (M2 : MM), CM 20 0 0 yX6_homeShare cX6_homeShare 3 (some .double) [.ref 94] b Y1 M1 (.inl (some (.double w))) M2 ∧ tE M1 M2 := fun {Y1 M1} hE => by
    have g9 : M1 95 9 = nI (nn t dr) := (hE 95 9 (by omega)).trans h959
    by_cases h : jsum (fun m => jof (jm M1 94 19 0) m 4) (nn t dr) = 0
    · exact ⟨_, _, cx_homeShare_no (d := 18) hb hn g9 h, tE_2⟩
    · exact ⟨_, _, cx_homeShare_ok (d := 17) hb hn g9 h (n64_of (ddiv_ok h)), tE_1⟩
  by_cases h : jcount M (nn t dr) 75 0 = 0
  · obtain ⟨w, M2, C, hE⟩ := hC (Y1 := Y) qE_c
    exact Step_q I (H_homeShare_t1 (d := 19) hb (c_homeShare_no (d := 14) (Y := Y) hb hn hm h)) C (by decide) (by decide) qE_c hE trivial
  · obtain ⟨w, M2, C, hE⟩ := hC (Y1 := (Y.1, ju Y.2 0 (FP.ddiv (FP.i2d (jcount M (nn t dr) 75 2)) (FP.i2d (jcount M (nn t dr) 75 0))))) qE_c
    exact Step_q I (H_homeShare_r (d := 19) hb (c_homeShare_ok (d := 14) (Y := Y) hb hn hm h (n64_of (ddiv_ok h)))) C (by decide) (by decide) qE_c hE trivial
theorem S_line {b : SBt} {Y : OUt} {M : MM} (I : Inv b M) (u : Int32) : Step b Y M yL_line cL_line 4 [(0, 9, 12, 45)] [.ref 0, .int u, .ref 102] yX6_line cX6_line 3 (some .int) [.ref 94, .int u] cmpT := by
  have hb := I.hb
  obtain ⟨t, dr, hL, hF⟩ := Inv_now I
  have ht := hL.1
  have hn := nn_le (dr := dr) ht
  have hm := jmc_r hL hF
  have h10 : M 1 0 = nI t := hL.2.1
  have h950 : M 95 0 = nI t := hL.2.2.1
  have h959 : M 95 9 = nI (nn t dr) := hL.2.2.2.2.2.2.2.1
  by_cases hT : ∃ q, q < t ∧ u = nI q
  · have hT1 := (in_q1 (x := u) (n := t) (by omega)).mpr hT
    obtain ⟨q, hq, rfl⟩ := hT
    rw [← h10] at hT1
    obtain ⟨z0, c0, hs1, hs2, hs3, hs4, hs5⟩ := I.2
    have hv : ∀ i, 76 ≤ i → i ≤ 81 → ∃ v, v < 10000 ∧ jat 8 (jcount M (nn t dr) i) (nI q) = nI v := fun i h1 h2 => by
      obtain ⟨k, rfl⟩ : ∃ k, i = 75 + k := ⟨i - 75, by omega⟩
      rw [jat_nI (by omega) (by decide), tally_r hL hF (by omega) (by omega) (by omega)]
      exact gH_le hL (by omega)
    have hc := c_line (d := 13) (Y := Y) hb (show q < 8 by omega) hT1 hn hm ht h10 hs1 hs2 hs3 (show c0 < 2 ^ 31 by omega) hv
    have hc2 := Con.mono hc (Q2 := fun o k => ∃ v b2 N, (∃ c1 n2, c1 ≤ 100 ∧ v = nI c1 ∧ sbI b2 N n2 ∧ n2 ≤ 202 ∧ c1 ≤ n2 ∧ sbG (jcount M (nn t dr)) N ∧ N 92 3 = nI c1) ∧ o = .inl (some (.int v)) ∧ k = HH b2 Y N) (fun o k hQ => by
      obtain ⟨c1, b2, N, n2, q1, q2, q3, q4, q5, q6, q7, q8⟩ := hQ
      exact ⟨nI c1, b2, N, ⟨c1, n2, q1, rfl, q4, q5, q6, q7, q8⟩, q2, q3⟩)
    refine ⟨14, 2828, by decide, by decide, ConH.mono (H_line_x (d := 19) hb hc2 (fun v b2 N h => by obtain ⟨c1, n2, -, -, h, -⟩ := h; exact h.2.2.1)) (fun o k hQ => ?_)⟩
    obtain ⟨v, b2, N, ⟨c1, n2, q1, q2, q4, q5, q6, q7, q8⟩, rfl, rfl⟩ := hQ
    have hN : ∀ i k, i < 75 ∨ (85 < i ∧ i < 92) ∨ (93 < i ∧ i < 104) → N i k = M i k := fun i k z => (q7 i k (by omega)).trans (jcount_n (by omega))
    have hL2 : rL t dr (lgC M 1) (jm N 94 19 0 95) := rL_cells hL (fun _ _ _ _ => rfl) (fun c _ => by rw [jm_n (by omega)]; exact hN 95 c (by omega))
    refine ⟨0, b2, _, N, rfl, rfl, q4.2.2.1, Con.mono (cx_line_ok (d := 14) q4.2.2.1 rfl (show q < 8 by omega) hn ((hN 95 9 (by omega)).trans h959) ht ((hN 95 0 (by omega)).trans h950) (by rw [hN 95 0 (by omega), h950]; exact (in_q2 (by omega)).mpr ⟨q, hq, rfl⟩) (fun j hj => gH_le (k := j + 1) hL2 (by omega))) (fun o2 s2 hQ2 => ?_)⟩
    obtain ⟨N2, v2, e1, e2, e3, q9, e4, e5⟩ := hQ2
    have hM2 : ∀ i k, i ≠ 99 → ¬ (i = 94 ∧ (k = 7 ∨ k = 19)) → N2 i k = N i k := fun i k z1 z2 => (e3 i k z1 (by omega)).trans (jm_n (by omega))
    have hM : ∀ i k, (i < 75 ∨ (85 < i ∧ i < 92) ∨ (93 < i ∧ i < 104)) → i ≠ 99 → ¬ (i = 94 ∧ (k = 7 ∨ k = 19)) → N2 i k = M i k := fun i k z1 z2 z3 => (hM2 i k z2 z3).trans (hN i k z1)
    refine ⟨.int v2, N2, e1, e2, ⟨Rel_x I.1 (fun i k z1 _ _ => hM i k (by omega) (by omega) (by omega)) (fun i k z1 => hM i k (by omega) (by omega) (by omega)) ?_, n2, c1, sbI_c q4 (fun i k z => hM2 i k (by omega) (by omega)), q5, (hM2 92 3 (by omega) (by omega)).trans q8, q1, q6⟩, vK_i, trivial⟩
    obtain ⟨r1, r2, r3, r4, r5, -⟩ : rRs M M := by
      obtain ⟨τ, k, j, -, -, -, -, -, -, -, -, -, -, -, h⟩ := I.1
      exact h
    refine ⟨?_, ?_, ?_, ?_, ?_, q9, e4, e5⟩
    · rw [hM 0 9 (by omega) (by omega) (by omega), hM 94 14 (by omega) (by omega) (by omega)]; exact r1
    · rw [hM 0 10 (by omega) (by omega) (by omega), hM 94 15 (by omega) (by omega) (by omega)]; exact r2
    · rw [hM 0 11 (by omega) (by omega) (by omega), hM 94 17 (by omega) (by omega) (by omega)]; exact r3
    · rw [hM 0 8 (by omega) (by omega) (by omega), hM 94 13 (by omega) (by omega) (by omega)]; exact r4
    · rw [hM 0 12 (by omega) (by omega) (by omega)]; exact r5
  · have hT1 : ¬ (¬ u < 0 ∧ ¬ M 1 0 ≤ u) := by rw [h10]; exact fun z => hT ((in_q1 (by omega)).mp z)
    exact Step_q I (H_line_t1 (d := 19) hb (c_line_nt (d := 18) (Y := Y) hb hT1)) (cx_line_nt (d := 18) hb (by rw [h950]; exact fun z => hT ((in_q2 (by omega)).mp z))) (by decide) (by decide) qE_0 tE_2 trivial
end

section
/-! ===== one command on both sides ===== -/
section ONE
variable {t : Nat} {dr : Bool} {X N : MM}
theorem one_res {x u v : Int32} (h : rL t dr (lgC X 1) (N 95)) (hf : dr = true → rFix t X) (hr : rRes X x u v = none) : rL t dr (lgC (jsetg X 1 x u v) 1) (gResS N x.toNatClampNeg u v 95) := by
  have hRR := res_r h hf (x := x) (u := u) (v := v)
  rw [hr] at hRR
  rcases noM_r h hf (x := x) with ⟨h1, h2, h3⟩ | ⟨h1, h4, h2, h3⟩ | ⟨h1, q, hq, hx, h2, h3⟩
  · rw [h3] at hRR; cases hRR
  · rw [h3] at hRR; cases hRR
  · subst h1
    subst hx
    have hn := nT_le h.1
    rw [h3, nI_clamp (by omega)] at hRR
    have hr := hRR.symm
    have huv : (¬ u < 0 ∧ ¬ 20 < u) ∧ (¬ v < 0 ∧ ¬ 20 < v) := by
      apply Decidable.byContradiction
      intro z
      unfold gRes at hr
      rw [if_pos z] at hr
      cases hr
    obtain ⟨g1, k1, rfl⟩ := int_rng (u := u) (n := 20) (by decide) huv.1.1 huv.1.2
    obtain ⟨g2, k2, rfl⟩ := int_rng (u := v) (n := 20) (by decide) huv.2.1 huv.2.2
    rw [nI_clamp (by omega)]
    exact now_res h hq k1 k2
theorem one_back {x : Int32} (h : rL t dr (lgC X 1) (N 95)) (hf : dr = true → rFix t X) (hr : rBack X x = none) : rL t dr (lgC (jsetg X 1 x (-1) (-1)) 1) (gBackS N x.toNatClampNeg 95) := by
  have hRR := back_r h hf (x := x)
  rw [hr] at hRR
  rcases noM_r h hf (x := x) with ⟨h1, h2, h3⟩ | ⟨h1, h4, h2, h3⟩ | ⟨h1, q, hq, hx, h2, h3⟩
  · rw [h3] at hRR; cases hRR
  · rw [h3] at hRR; cases hRR
  · subst h1
    subst hx
    have hn := nT_le h.1
    rw [nI_clamp (by omega)]
    exact now_back h hq
theorem one_put {x u : Int32} (h : rL t dr (lgC X 1) (N 95)) (hf : dr = true → rFix t X) (hr : rPut X x u = none) : rL t dr (lgC (jput 56 X 4 x (X 1 3 + u)) 1) (gPutS N x.toNatClampNeg u 95) := by
  have hRR := put_r h hf (x := x) (u := u)
  rw [hr] at hRR
  rcases noM_r h hf (x := x) with ⟨h1, h2, h3⟩ | ⟨h1, h4, h2, h3⟩ | ⟨h1, q, hq, hx, h2, h3⟩
  · rw [h3] at hRR; cases hRR
  · rw [h3] at hRR; cases hRR
  · subst h1
    subst hx
    have hn := nT_le h.1
    rw [h3, nI_clamp (by omega)] at hRR
    have hr := hRR.symm
    obtain ⟨h1, h2, h3⟩ : (¬ u < 1 ∧ ¬ 9 < u) ∧ jof N q 2 = N 95 2 ∧ (¬ N 95 2 + u < 0 ∧ ¬ N 95 1 - 1 < N 95 2 + u) := by
      unfold gPut at hr
      by_cases z1 : ¬ (¬ u < 1 ∧ ¬ 9 < u)
      · rw [if_pos z1] at hr; cases hr
      · rw [if_neg z1] at hr
        by_cases z2 : jof N q 4 = 1
        · rw [if_pos z2] at hr; cases hr
        · rw [if_neg z2] at hr
          by_cases z3 : ¬ jof N q 2 = N 95 2
          · rw [if_pos z3] at hr; cases hr
          · rw [if_neg z3] at hr
            by_cases z4 : ¬ (¬ N 95 2 + u < 0 ∧ ¬ N 95 1 - 1 < N 95 2 + u)
            · rw [if_pos z4] at hr; cases hr
            · exact ⟨Decidable.not_not.mp z1, Decidable.not_not.mp z3, Decidable.not_not.mp z4⟩
    obtain ⟨e, k1, rfl⟩ := int_rng (u := u) (n := 9) (by decide) (fun z => h1.1 (Int32.lt_trans z (by decide))) h1.2
    have he : 1 ≤ e := by
      rcases Nat.eq_zero_or_pos e with z | z
      · subst z; exact absurd (by decide) h1.1
      · exact z
    obtain ⟨w, -, w1, w2, w3⟩ := id h.2.2.2.2.2.2.2.2.1
    have w1 : X 1 3 = nI w := w1
    have hw3 := w3 rfl
    have hw14 := wT_le h.1
    have h951 : N 95 1 = nI (zz t true) := h.2.2.2.2.2.2.1
    have hwe : w + e < wT t := by
      rw [w2, h951, nI_add, in_q2 (show zz t true ≤ 56 by show wT t ≤ 56; omega)] at h3
      obtain ⟨q', y1, y2⟩ := h3
      have y1 : q' < wT t := y1
      have := (nI_eq (by omega) (by omega)).mp y2
      omega
    rw [nI_clamp (by omega)]
    exact now_put h hq w1 w2 he hwe (h2.trans w2)
theorem one_next (h : rL t dr (lgC X 1) (N 95)) (hf : dr = true → rFix t X) (hr : rNext X (nn t dr) = none) : rL t dr (lgC (jm X 1 3 (X 1 3 + 1)) 1) (jm N 95 2 (N 95 2 + 1) 95) := by
  have hRR := next_r h hf
  rw [hr] at hRR
  have h951 : N 95 1 = nI (zz t dr) := h.2.2.2.2.2.2.1
  have hz := zz_0 h.1 h.2.2.2.2.1
  cases dr with
  | false => rw [if_pos (by rw [h951]; rfl)] at hRR; cases hRR
  | true =>
    rw [if_neg (fun z => hz.2.mpr rfl (by rw [← h951, z]; exact Int32.le_refl 0))] at hRR
    have hr := hRR.symm
    obtain ⟨w, -, w1, w2, w3⟩ := id h.2.2.2.2.2.2.2.2.1
    have w1 : X 1 3 = nI w := w1
    have hw3 := w3 rfl
    have hw14 := wT_le h.1
    have hw1 : w + 1 < wT t := by
      have hne : ¬ N 95 2 = N 95 1 - 1 := by
        intro z
        unfold gNext at hr
        by_cases y : ¬ jfst (gLeft N) (nn t true) = -1
        · rw [if_pos y] at hr; cases hr
        · rw [if_neg y, if_pos z] at hr; cases hr
      rw [w2, h951, show zz t true = wT t from rfl] at hne
      obtain ⟨k1, hk1⟩ : ∃ k1, wT t = k1 + 1 := ⟨wT t - 1, by omega⟩
      rw [hk1, nI_pred, nI_eq (by omega) (by omega)] at hne
      omega
    exact now_next h w1 w2 hw1
theorem carry_ref {u v w z v2 w2 z2 : Int32} (h : rL t dr (lgC X 1) (N 95)) (hf : dr = true → rFix t X) (e1 : ¬ u = 110 → v2 = v) (e2 : u = 109 ∨ u = 111 ∨ u = 116 → w2 = w) (e3 : u = 109 ∨ u = 116 → z2 = z) (hl : isLet u) : cref X (nn t dr) u v w z = gcref N (nn t dr) u v2 w2 z2 := by
  unfold cref gcref
  rcases hl with rfl | rfl | rfl | rfl | rfl
  · rw [if_pos rfl, if_pos rfl, e1 (by decide), e2 (Or.inl rfl), e3 (Or.inl rfl)]; exact res_r h hf
  · rw [if_neg (by decide), if_pos rfl, if_neg (by decide), if_pos rfl, e1 (by decide)]; exact back_r h hf
  · rw [if_neg (by decide), if_neg (by decide), if_pos rfl, if_neg (by decide), if_neg (by decide), if_pos rfl, e1 (by decide), e2 (Or.inr (Or.inl rfl))]; exact put_r h hf
  · rw [if_neg (by decide), if_neg (by decide), if_neg (by decide), if_pos rfl, if_neg (by decide), if_neg (by decide), if_neg (by decide), if_pos rfl]; exact next_r h hf
  · rw [if_neg (by decide), if_neg (by decide), if_neg (by decide), if_neg (by decide), if_neg (by decide), if_neg (by decide), if_neg (by decide), if_neg (by decide), e1 (by decide), e2 (Or.inr (Or.inr rfl)), e3 (Or.inr rfl)]
theorem carry_app {u v w z v2 w2 z2 : Int32} (h : rL t dr (lgC X 1) (N 95)) (hf : dr = true → rFix t X) (e1 : ¬ u = 110 → v2 = v) (e2 : u = 109 ∨ u = 111 ∨ u = 116 → w2 = w) (e3 : u = 109 ∨ u = 116 → z2 = z) (hl : isLet u) (hr : cref X (nn t dr) u v w z = none) : rL t dr (lgC (capp X u v w z) 1) (gcapp N (nn t dr) u v2 w2 z2 95) := by
  have up : ∀ {K : MM} {y : Int32} {C : Nat → Nat → Int32}, rL t dr C (K 95) → rL t dr C (jm K 94 18 y 95) := fun {K y C} hh => by rw [show jm K 94 18 y 95 = K 95 from jm_row (by decide)]; exact hh
  unfold cref at hr
  unfold capp gcapp
  rcases hl with rfl | rfl | rfl | rfl | rfl
  · rw [if_pos rfl] at hr
    rw [if_pos rfl, if_pos rfl, e1 (by decide), e2 (Or.inl rfl), e3 (Or.inl rfl)]
    exact up (one_res h hf hr)
  · rw [if_neg (by decide), if_pos rfl] at hr
    rw [if_neg (by decide), if_pos rfl, if_neg (by decide), if_pos rfl, e1 (by decide)]
    exact up (one_back h hf hr)
  · rw [if_neg (by decide), if_neg (by decide), if_pos rfl] at hr
    rw [if_neg (by decide), if_neg (by decide), if_pos rfl, if_neg (by decide), if_neg (by decide), if_pos rfl, e1 (by decide), e2 (Or.inr (Or.inl rfl))]
    exact up (one_put h hf hr)
  · rw [if_neg (by decide), if_neg (by decide), if_neg (by decide), if_pos rfl] at hr
    rw [if_neg (by decide), if_neg (by decide), if_neg (by decide), if_pos rfl, if_neg (by decide), if_neg (by decide), if_neg (by decide), if_pos rfl]
    exact up (one_next h hf hr)
  · rw [if_neg (by decide), if_neg (by decide), if_neg (by decide), if_neg (by decide)] at hr
    rw [if_neg (by decide), if_neg (by decide), if_neg (by decide), if_neg (by decide), if_neg (by decide), if_neg (by decide), if_neg (by decide), if_neg (by decide), e1 (by decide), e2 (Or.inr (Or.inr rfl)), e3 (Or.inr rfl)]
    exact up (now_rules h hr).1
end ONE
/-! the text: the same on both sides below its length -/
section TEQ
variable {T T2 : Nat → Int32} {n : Nat}
theorem tsg_e (h : ∀ i, i < n → T i = T2 i) : tsg T n = tsg T2 n := funext fun a => by
  unfold tsg
  by_cases c : a < n
  · rw [if_pos c, if_pos c]; exact h a c
  · rw [if_neg c, if_neg c]
theorem tdg_e (h : tsg T n = tsg T2 n) : tdg T n = tdg T2 n := funext fun a => funext fun u => by simp only [tdg, tdc, h]
theorem tda_e (h : tsg T n = tsg T2 n) : tda T n = tda T2 n := funext fun a => funext fun u => by simp only [tda, tdc, h]
theorem tnv_e (h : tsg T n = tsg T2 n) : tnv T n = tnv T2 n := funext fun a => by simp only [tnv, tdg_e h]
theorem tna_e (h : tsg T n = tsg T2 n) : tna T n = tna T2 n := funext fun a => by simp only [tna, tdg_e h]
theorem pF_e (h : tsg T n = tsg T2 n) : pF T n = pF T2 n := funext fun a => by simp only [pF, rFm, rFb, rFo, h, tnv_e h, tna_e h]
theorem pN_e (h : tsg T n = tsg T2 n) : pN T n = pN T2 n := funext fun a => by simp only [pN, h, tda_e h, tna_e h]
theorem p1_e (h : tsg T n = tsg T2 n) : p1 T n = p1 T2 n := funext fun a => by simp only [p1, h, tdg_e h, tnv_e h]
theorem p2_e (h : tsg T n = tsg T2 n) : p2 T n = p2 T2 n := funext fun a => by simp only [p2, h, tdg_e h, tda_e h, tnv_e h, tna_e h]
theorem p3_e (h : tsg T n = tsg T2 n) : p3 T n = p3 T2 n := funext fun a => by simp only [p3, h, tdg_e h, tda_e h, tnv_e h, tna_e h]
theorem ppo_e (h : tsg T n = tsg T2 n) : ∀ i, ppo T n i = ppo T2 n i
  | 0 => rfl
  | i + 1 => by rw [ppo, ppo, ppo_e h i, pN_e h]
theorem pgo_e (h : tsg T n = tsg T2 n) {i : Nat} : pgo T n i ↔ pgo T2 n i := by
  unfold pgo
  rw [ppo_e h, pF_e h, pN_e h, h]
end TEQ
end

section
/-! ===== steps: the text's commands ===== -/
theorem first_stop (T : Nat → Int32) (n : Nat) : ∀ m, (∀ j, j < m → pgo T n j) ∨ ∃ i, i < m ∧ (∀ j, j < i → pgo T n j) ∧ ¬ pgo T n i
  | 0 => Or.inl fun j hj => absurd hj (Nat.not_lt_zero j)
  | m + 1 => by
    rcases first_stop T n m with h | ⟨i, h1, h2, h3⟩
    · by_cases c : pgo T n m
      · refine Or.inl fun j hj => ?_
        by_cases e : j = m
        · subst e; exact c
        · exact h j (by omega)
      · exact Or.inr ⟨m, by omega, h, c⟩
    · exact Or.inr ⟨i, by omega, h2, h3⟩
theorem RelP.txt {τ : Nat → Nat × Bool} {k j : Nat} {A A2 B B2 : MM} (h : RelP τ k j A B) (hA : ∀ i c, i < 75 → ¬ (i = 0 ∧ c = 8) → A2 i c = A i c) (hB : ∀ i c, (i = 94 ∧ c ≠ 9 ∧ c ≠ 10 ∧ c ≠ 11 ∧ c ≠ 13 ∧ c ≠ 16 ∧ c ≠ 18 ∧ c ≠ 19) ∨ i = 95 ∨ i = 97 ∨ i = 98 → B2 i c = B i c) (h1 : A2 86 0 = 0) (h2 : B2 94 9 = 0) (h3 : A2 0 8 = B2 94 13) : RelP τ k j A2 B2 := by
  obtain ⟨a1, a2, a3, a4, a5, a6, a7, a8, a9, a10, -, ⟨r1, r2, r3, r4, r5, q, r6, r7⟩⟩ := h
  refine ⟨a1, a2, (hA 13 1 (by omega) (by omega)).trans a3, (hA 13 2 (by omega) (by omega)).trans a4, (hB 94 3 (by omega)).trans a5, rL_cells a6 (fun i c _ _ => hA i c (by omega) (by omega)) (fun c _ => hB 95 c (by omega)), fun i hi => rL_cells (a7 i hi) (fun i2 c _ _ => hA i2 c (by omega) (by omega)) (fun c _ => hB 97 _ (by omega)), a8, fun hd => rFix_c (a9 hd) (fun i c _ _ => hA i c (by omega) (by omega)), rSv_c a10 (fun i c q => hA i c (by omega) (by omega)) (fun i c q => hB i c (by omega)), ⟨0, by omega, h1, h2, fun i hi => absurd hi (Nat.not_lt_zero i)⟩, ⟨?_, ?_, ?_, h3, ?_, q, r6, (hB 94 7 (by omega)).trans r7⟩⟩
  · rw [hA 0 9 (by omega) (by omega), hB 94 14 (by omega)]; exact r1
  · rw [hA 0 10 (by omega) (by omega), hB 94 15 (by omega)]; exact r2
  · rw [hA 0 11 (by omega) (by omega), hB 94 17 (by omega)]; exact r3
  · rw [hA 0 12 (by omega) (by omega)]; exact r5
def cmF (N : MM) (q : Nat) : MM := jm (jm N 86 0 0) 0 8 (nI q)
theorem fault_step {b : SBt} {Y : OUt} {M N : MM} {q : Nat} (I : Inv b M) (hN : ∀ i k, i < 86 ∨ i = 87 ∨ 91 < i → N i k = M i k) (hq : N 86 1 = nI q) (C : CM 18 0 0 yX4_isParsed cX4_isParsed 2 (some .boolean) [.ref 86] b Y M (.inl (some (.int 0))) N)
    (hr : ∃ N2, gLike (jtr (cmF N q)) N2 ∧ CM 20 0 0 yX6_commands cX6_commands 4 (some .int) [.ref 94] b Y (cmF N q) (.inl (some (.int 0))) (jrai (jm (jm N2 94 13 (nI q)) 94 9 0) 1)) : Step b Y M yL_commands cL_commands 3 [(0, 8, 11, 47), (0, 8, 14, 13)] [.ref 0, .ref 102] yX6_commands cX6_commands 4 (some .int) [.ref 94] cmpI := by
  have hb := I.hb
  obtain ⟨τ, k, j, hP⟩ := Rel_P.mp I.1
  have hc := c_commands_fault (d := 13) hb C
  rw [hq] at hc
  have hhi : hiE M (cmF N q) := fun i c z => by unfold cmF; rw [jm_n (by omega), jm_n (by omega)]; exact hN i c (by omega)
  obtain ⟨N2, g1, g2⟩ := hr
  have hN2 : ∀ i c, ¬ (i = 94 ∧ (c = 9 ∨ c = 10 ∨ c = 11 ∨ c = 13 ∨ c = 16 ∨ c = 19)) → i ≠ 96 → i ≠ 101 → jrai (jm (jm N2 94 13 (nI q)) 94 9 0) 1 i c = cmF N q i c := fun i c z1 z2 z3 => by
    unfold jrai
    rw [jm_n (by omega), jm_n (by omega), jm_n (by omega), g1 i c (by omega) z3]
    exact jtr_at z2 (by omega)
  refine Step_of I (H_commands_t1 (d := 19) hb hc) g2 (by decide) (by decide) hhi (fun i c z => hN2 i c (by omega) (by omega) (by omega)) ⟨τ, k, j, hP.txt (fun i c z1 z2 => ?_) (fun i c z => ?_) ?_ ?_ ?_⟩ (cmp_no jm_s (by decide))
  · rw [jm_n (by omega), jm_n (by omega)]; exact hN i c (by omega)
  · exact (hN2 i c (by omega) (by omega) (by omega)).trans (hhi i c (by omega))
  · rw [jm_n (by omega), jm_s]
  · unfold jrai; rw [jm_n (by omega), jm_s]
  · unfold jrai; rw [jm_s, jm_n (by omega), jm_n (by omega), jm_s]
def cm0 (M : MM) (n i j : Nat) : MM := jlg (jm (jm (jcm M n i) 86 0 0) 0 8 (-1)) 1 (15 + 6 * j)
theorem cm0_n {M : MM} {n i j a c : Nat} (hj : j < 9) (h : a < 15 ∨ 69 ≤ a) (h0 : ¬ (a = 0 ∧ c = 8)) (h2 : a < 86 ∨ a = 87 ∨ 91 < a) : cm0 M n i j a c = M a c := by
  unfold cm0
  rw [jlg_n (by omega), jm_n (by omega), jm_n (by omega), jcm_n (by omega)]
theorem cm0_2 {M : MM} {n i j : Nat} (hj : j < 9) : cm0 M n i j 86 2 = nI (i + 1) := by
  unfold cm0
  rw [jlg_n (by omega), jm_n (by omega), jm_n (by omega), jcm_c]
theorem cm0_rows {M : MM} {n i j c : Nat} (hj : j < 9) (hc : c < i + 1) : jrows (cm0 M n i j) (M 87) n c := by
  have h := jcm_rows (M := M) (n := n) (i := i) hc
  have e : ∀ a, 88 ≤ a → a ≤ 91 → cm0 M n i j a c = jcm M n i a c := fun a h1 h2 => by unfold cm0; rw [jlg_n (by omega), jm_n (by omega), jm_n (by omega)]
  unfold jrows at h ⊢
  rw [e 88 (by omega) (by omega), e 89 (by omega) (by omega), e 90 (by omega) (by omega), e 91 (by omega) (by omega)]
  exact h
theorem gqp_95 {B0 : MM} {n ct c : Nat} : gqp B0 n ct c 95 = gse B0 n ct c 95 := funext fun k => by
  unfold gqp
  rw [jm_n (by omega)]
  exact gcm_like 95 k (by omega) (by omega)
theorem gqp_101 {B0 : MM} {n ct c k : Nat} : gqp B0 n ct c 101 k = gcm (gse B0 n ct c) n (ppo (B0 100) n c) 101 k := jm_n (by omega)
/-- class and reference carry out the same -/
theorem carry_inv {t : Nat} {dr : Bool} {M M1 : MM} {n i j : Nat} (hL : rL t dr (lgC M 1) (M 95)) (hF : dr = true → rFix t M) (h1 : hiE M M1) (hj : j < 9) (hT : tsg (M 87) n = tsg (M 100) n) (hlet : ∀ c, c < i + 1 → pF (M 87) n (ppo (M 87) n c) = none) : ∀ c, c ≤ i + 1 →
    (∀ e, e < c → cref (jat12 (cm0 M n i j) e) (nn t dr) (cm0 M n i j 88 e) (cm0 M n i j 89 e) (cm0 M n i j 90 e) (cm0 M n i j 91 e) = none) →
    rL t dr (lgC (jac (cm0 M n i j) c) 1) (gse (gB0 M1 n i) n (nn t dr) c 95) ∧
    (c < i + 1 → cref (jat12 (cm0 M n i j) c) (nn t dr) (cm0 M n i j 88 c) (cm0 M n i j 89 c) (cm0 M n i j 90 c) (cm0 M n i j 91 c) = gcR (gB0 M1 n i) n (nn t dr) c ∧
      (cref (jat12 (cm0 M n i j) c) (nn t dr) (cm0 M n i j 88 c) (cm0 M n i j 89 c) (cm0 M n i j 90 c) (cm0 M n i j 91 c) = none → rL t dr (lgC (jac (cm0 M n i j) (c + 1)) 1) (gcS (gB0 M1 n i) n (nn t dr) c 95))) := by
  have e100 : gB0 M1 n i 100 = M 100 := by rw [gB0_t]; funext k; exact (jtr_at (by omega) (by omega)).trans (h1 100 k (by omega))
  -- what one command gives, once the leagues agree before it
  have one : ∀ c, c < i + 1 → rL t dr (lgC (jac (cm0 M n i j) c) 1) (gse (gB0 M1 n i) n (nn t dr) c 95) → cref (jat12 (cm0 M n i j) c) (nn t dr) (cm0 M n i j 88 c) (cm0 M n i j 89 c) (cm0 M n i j 90 c) (cm0 M n i j 91 c) = gcR (gB0 M1 n i) n (nn t dr) c ∧
      (cref (jat12 (cm0 M n i j) c) (nn t dr) (cm0 M n i j 88 c) (cm0 M n i j 89 c) (cm0 M n i j 90 c) (cm0 M n i j 91 c) = none → rL t dr (lgC (jac (cm0 M n i j) (c + 1)) 1) (gcS (gB0 M1 n i) n (nn t dr) c 95)) := fun c hc hR => by
    have hX : rL t dr (lgC (jat12 (cm0 M n i j) c) 1) (gqp (gB0 M1 n i) n (nn t dr) c 95) := rL_cells hR (fun a k _ _ => jm_n (by omega)) (fun k _ => by rw [gqp_95])
    have hfX : dr = true → rFix t (jat12 (cm0 M n i j) c) := fun hd => rFix_c (hF hd) (fun a k z1 z2 => (jat12_n (by omega)).trans (cm0_n hj (by omega) (by omega) (by omega)))
    obtain ⟨r1, r2, r3, r4⟩ := cm0_rows (M := M) (n := n) (i := i) hj hc
    have hl := pF_let (hlet c hc)
    have eT : tsg (gB0 M1 n i 100) n = tsg (M 87) n := by rw [e100]; exact hT.symm
    have ep : ppo (gB0 M1 n i 100) n c = ppo (M 87) n c := ppo_e eT c
    have ou : gqp (gB0 M1 n i) n (nn t dr) c 94 11 = tsg (M 87) n (ppo (M 87) n c) := by rw [gqp_o, ep, eT]
    have eS : tsg (gse (gB0 M1 n i) n (nn t dr) c 100) n = tsg (M 87) n := by rw [gse_t]; exact eT
    have o1 : ¬ tsg (M 87) n (ppo (M 87) n c) = 110 → gqp (gB0 M1 n i) n (nn t dr) c 101 0 = p1 (M 87) n (ppo (M 87) n c) := fun z => by
      rw [gqp_101, gcm_0, ep, eS, if_neg z, p1_e eS]
    have o2 : tsg (M 87) n (ppo (M 87) n c) = 109 ∨ tsg (M 87) n (ppo (M 87) n c) = 111 ∨ tsg (M 87) n (ppo (M 87) n c) = 116 → gqp (gB0 M1 n i) n (nn t dr) c 101 1 = p2 (M 87) n (ppo (M 87) n c) := fun z => by
      rw [gqp_101, gcm_1, ep, eS, if_neg (fun y => by rcases z with z | z | z <;> rcases y with y | y <;> (rw [z] at y; exact absurd y (by decide))), p2_e eS]
    have o3 : tsg (M 87) n (ppo (M 87) n c) = 109 ∨ tsg (M 87) n (ppo (M 87) n c) = 116 → gqp (gB0 M1 n i) n (nn t dr) c 101 2 = p3 (M 87) n (ppo (M 87) n c) := fun z => by
      rw [gqp_101, gcm_2, ep, eS, if_pos z, p3_e eS]
    rw [r1, r2, r3, r4]
    refine ⟨?_, fun hn => ?_⟩
    · unfold gcR
      rw [ou]
      exact carry_ref hX hfX o1 o2 o3 hl
    · have hA := carry_app hX hfX o1 o2 o3 hl hn
      unfold gcS
      rw [ou]
      refine rL_cells hA (fun a k _ _ => ?_) (fun _ _ => rfl)
      rw [jac_step, jat12_n (by omega), jat12_n (by omega), jat12_n (by omega), jat12_n (by omega), r1, r2, r3, r4]
  have all : ∀ c, c ≤ i + 1 → (∀ e, e < c → cref (jat12 (cm0 M n i j) e) (nn t dr) (cm0 M n i j 88 e) (cm0 M n i j 89 e) (cm0 M n i j 90 e) (cm0 M n i j 91 e) = none) → rL t dr (lgC (jac (cm0 M n i j) c) 1) (gse (gB0 M1 n i) n (nn t dr) c 95) := by
    intro c
    induction c with
    | zero =>
      intro _ _
      refine rL_cells hL (fun a k z1 z2 => cm0_n hj (by omega) (by omega) (by omega)) (fun k _ => ?_)
      show gB0 M1 n i 95 k = M 95 k
      rw [gB0_n (by omega) (by omega), jtr_at (by omega) (by omega)]
      exact h1 95 k (by omega)
    | succ c ih =>
      intro hc he
      have h := (one c (by omega) (ih (by omega) (fun e z => he e (by omega)))).2 (he c (by omega))
      refine rL_cells h (fun _ _ _ _ => rfl) (fun k _ => ?_)
      rw [gse_s, jm_n (by omega)]
  exact fun c hc he => ⟨all c hc he, fun hc2 => one c hc2 (all c hc he)⟩
theorem first_no (f : Nat → Option (Int32 × Int32)) : ∀ m, (∀ e, e < m → f e = none) ∨ ∃ e r z, e < m ∧ (∀ e2, e2 < e → f e2 = none) ∧ f e = some (r, z)
  | 0 => Or.inl fun e h => absurd h (Nat.not_lt_zero e)
  | m + 1 => by
    rcases first_no f m with h | ⟨e, r, z, h1, h2, h3⟩
    · cases c : f m with
      | none =>
        refine Or.inl fun e he => ?_
        by_cases q : e = m
        · subst q; exact c
        · exact h e (by omega)
      | some w => exact Or.inr ⟨m, w.1, w.2, by omega, h, c⟩
    · exact Or.inr ⟨e, r, z, by omega, h2, h3⟩
theorem jlg_row {Z W : MM} {a g i c : Nat} (h : ∀ q k, a ≤ q → q ≤ a + 5 → Z q k = W q k) (hi : Z i c = W i c) : jlg Z a g i c = jlg W a g i c := by
  unfold jlg
  rw [h a c (by omega) (by omega), h (a + 1) c (by omega) (by omega), h (a + 2) c (by omega) (by omega), h (a + 3) c (by omega) (by omega), h (a + 4) c (by omega) (by omega), h (a + 5) c (by omega) (by omega), hi]
theorem S_commands {b : SBt} {Y : OUt} {M : MM} (I : Inv b M) : Step b Y M yL_commands cL_commands 3 [(0, 8, 11, 47), (0, 8, 14, 13)] [.ref 0, .ref 102] yX6_commands cX6_commands 4 (some .int) [.ref 94] cmpI := by
  have hb := I.hb
  obtain ⟨τ, k, j, hP⟩ := Rel_P.mp I.1
  have hL := hP.now
  have hF := hP.fix
  obtain ⟨t, et⟩ : ∃ t, (τ k).1 = t := ⟨_, rfl⟩
  obtain ⟨dr, ed⟩ : ∃ dr, (τ k).2 = dr := ⟨_, rfl⟩
  have hX : (t, dr) = τ k := by rw [← et, ← ed]
  rw [et, ed] at hL hF
  have hj := hP.1
  have hk := hP.2.1
  obtain ⟨n, t1, t2, t3, t4⟩ : rTx M M := hP.2.2.2.2.2.2.2.2.2.2.1
  have hT : tsg (M 87) n = tsg (M 100) n := tsg_e (fun i hi => (t4 i hi).1)
  have e100 : ∀ N : MM, hiE M N → jtr N 100 = M 100 := fun N hN => funext fun c => (jtr_at (by omega) (by omega)).trans (hN 100 c (by omega))
  have hi9 : ∀ N : MM, hiE M N → jtr N 94 9 = nI n := fun N hN => (jtr_at (by omega) (by omega)).trans ((hN 94 9 (by omega)).trans t3)
  have hch : ∀ i, i < n → ∃ q, q < 65536 ∧ M 100 i = nI q := fun i hi => (t4 i hi).2
  have hp0 := ppo_e hT
  -- a fault where a command can't be read: the reference's part
  have faultA : ∀ (i q : Nat) (N : MM), hiE M N → (∀ j, j < i → pgo (M 87) n j) → pF (M 87) n (ppo (M 87) n i) = some q → ∃ N2, gLike (jtr N) N2 ∧ CM 20 0 0 yX6_commands cX6_commands 4 (some .int) [.ref 94] b Y N (.inl (some (.int 0))) (jrai (jm (jm N2 94 13 (nI q)) 94 9 0) 1) := fun i q N hN hg hFq => by
    have hg2 : ∀ j, j < i → pgo (jtr N 100) n j := fun j hj => by rw [e100 N hN]; exact (pgo_e hT).mp (hg j hj)
    have hple : ppo (jtr N 100) n i ≤ n := ppo_le hg2
    obtain ⟨N2, k1, k2, k3⟩ := cx_first_no (d := 17) (Y := Y) (M := jtr N) (i := i) (q := q) hb t1 (hi9 N hN) hple (by rw [e100 N hN]; exact hch) (by rw [e100 N hN, ← hp0, ← pF_e hT]; exact hFq)
    refine ⟨N2, k1, ?_⟩
    cases i with
    | zero =>
      have hg := cx_commands_A0 (d := 15) (M := N) (N := N2) (Y := Y) hb t1 ((hN 94 9 (by omega)).trans t3) k3
      rw [k2] at hg
      exact hg
    | succ i =>
      have hg := cx_commands_A (d := 15) (M := N) (N := N2) (Y := Y) hb t1 ((hN 94 9 (by omega)).trans t3) hg2 (fun j hj => (hg2 j hj).1) k3
      rw [k2] at hg
      exact hg
  have hcm : ∀ (N : MM) (q : Nat), (∀ i k, i < 86 ∨ i = 87 ∨ 91 < i → N i k = M i k) → hiE M (cmF N q) := fun N q hN i c z => by
    unfold cmF; rw [jm_n (by omega), jm_n (by omega)]; exact hN i c (by omega)
  rcases first_stop (M 87) n 30 with hg | ⟨i, hi, hg, hng⟩
  · -- thirty commands, and the text goes on
    have hle := ppo_le hg
    have hge := ppo_ge (T := M 87) (n := n) (i := 30)
    have hn60 : n = 60 ∧ ppo (M 87) n 30 = n := by omega
    have hF30 : pF (M 87) n (ppo (M 87) n 30) = some (ppo (M 87) n 30) := by
      have e : tsg (M 87) n (ppo (M 87) n 30) = -1 := by unfold tsg; rw [if_neg (by omega)]
      unfold pF
      rw [e, if_neg (by decide), if_neg (by decide), if_neg (by decide), if_neg (by decide), if_neg (by decide)]
    have hN : ∀ i k, i < 86 ∨ i = 87 ∨ 91 < i → jpa M n 30 i k = M i k := fun i k z => jpa_n (by omega) 30
    exact fault_step I hN (jpa_p 30) (c_isParsed_D (d := 13) hb t1 t2 hg) (faultA 30 _ _ (hcm _ _ hN) hg hF30)
  · cases hFi : pF (M 87) n (ppo (M 87) n i) with
    | some q =>
      have hN : ∀ a c, a < 86 ∨ a = 87 ∨ 91 < a → jpos (jpa M n i) q a c = M a c := fun a c z => (jpos_n (by omega)).trans (jpa_n (by omega) i)
      exact fault_step I hN jpos_s (c_isParsed_A (d := 13) hb t1 t2 hi hg hFi) (faultA i q _ (hcm _ _ hN) hg hFi)
    | none =>
      have hE59 : ¬ tsg (M 87) n (pN (M 87) n (ppo (M 87) n i)) = 59 := fun z => hng ⟨hFi, z⟩
      have hN : ∀ a c, a < 86 ∨ a = 87 ∨ 91 < a → jcm M n i a c = M a c := fun a c z => jcm_n (by omega)
      have hok : ∀ c, c < i + 1 → pF (M 87) n (ppo (M 87) n c) = none := fun c hc => by
        by_cases e : c = i
        · subst e; exact hFi
        · exact (hg c (by omega)).1
      by_cases hE : tsg (M 87) n (pN (M 87) n (ppo (M 87) n i)) = -1
      · -- all are read: they are carried out
        have hn := nn_le (dr := dr) hL.1
        have hmc := jmc_r hL hF
        have hz := zz_0 hL.1 hL.2.2.2.2.1
        have h951 : M 95 1 = nI (zz t dr) := hL.2.2.2.2.2.2.1
        have h959 : M 95 9 = nI (nn t dr) := hL.2.2.2.2.2.2.2.1
        have hpN : ∀ N : MM, hiE M N → n ≤ pN (jtr N 100) n (ppo (jtr N 100) n i) := fun N hN => by
          rw [e100 N hN, ← hp0, ← pN_e hT]
          apply Nat.le_of_not_lt
          intro z
          obtain ⟨e1, q, e2, e3⟩ := t4 _ z
          unfold tsg at hE
          rw [if_pos z, e1, e3] at hE
          exact nI_nm1 (by omega) hE
        have hg2 : ∀ N : MM, hiE M N → ∀ c, c < i → pgo (jtr N 100) n c := fun N hN c hc => by rw [e100 N hN]; exact (pgo_e hT).mp (hg c hc)
        have hok2 : ∀ N : MM, hiE M N → ∀ c, c < i + 1 → pF (jtr N 100) n (ppo (jtr N 100) n c) = none := fun N hN c hc => by rw [e100 N hN, ← hp0, ← pF_e hT]; exact hok c hc
        have hzz : ∀ N : MM, hiE M N → N 95 1 = 0 ∨ ¬ N 95 1 ≤ 0 := fun N hN => by
          rw [hN 95 1 (by omega), h951]
          cases dr with
          | false => exact Or.inl rfl
          | true => exact Or.inr (hz.2.mpr rfl)
        have hho : ∀ N : MM, hiE M N → ∀ c, c < nn t dr → ∃ h, h < 8 ∧ jof N c 0 = nI h := fun N hN c hc => by
          unfold jof; rw [hN 95 _ (by omega)]; exact hho_r hL c hc
        have hC := c_isParsed_B (d := 13) (Y := Y) hb t1 t2 hi hg hFi hE
        have hjc : jmc (cm0 M n i j) = nI (nn t dr) := by
          rw [← hmc]; unfold jmc; rw [cm0_n hj (by omega) (by omega) (by omega), cm0_n hj (by omega) (by omega) (by omega)]
        have hlet : ∀ c, c < i + 1 → isLet (cm0 M n i j 88 c) := fun c hc => by
          rw [(cm0_rows (M := M) (n := n) (i := i) hj hc).1]; exact pF_let (hok c hc)
        have h13 : ∀ c, cm0 M n i j 13 c = M 13 c := fun c => cm0_n hj (by omega) (by omega) (by omega)
        have hZ : ∀ q c, q < 75 → ¬ (q = 0 ∧ c = 8) → jm (jm (jcm M n i) 86 0 0) 0 8 (-1) q c = M q c := fun q c z1 z2 => by rw [jm_n (by omega), jm_n (by omega)]; exact hN q c (by omega)
        have r5 : M 0 12 = 0 := hP.2.2.2.2.2.2.2.2.2.2.2.2.2.2.2.1
        rcases first_no (fun c => cref (jat12 (cm0 M n i j) c) (nn t dr) (cm0 M n i j 88 c) (cm0 M n i j 89 c) (cm0 M n i j 90 c) (cm0 M n i j 91 c)) (i + 1) with hall | ⟨i0, r, z, hi0, hbef, hat⟩
        · -- all are carried out
          have C2 := c_areCarriedOut_ok (d := 13) (b := b) (Y := Y) (M := cm0 M n i j) hb hn hjc (show i + 1 ≤ 30 by omega) (cm0_2 hj) hlet hall
          have hc := c_commands_ok (d := 13) (Y := Y) (k := k) hb hC hj hk ((hN 13 1 (by omega)).trans hP.2.2.1) (by rw [hN 1 2 (by omega)]; exact rL_z hL) C2 (by rw [jm_n (by omega), jac_n (by omega), h13]; exact hP.2.2.1) (by rw [jm_n (by omega), jac_n (by omega), h13]; exact hP.2.2.2.1)
          obtain ⟨A2, eA⟩ : ∃ A2, jkh (jm (jac (cm0 M n i j) (i + 1)) 0 12 0) j k = A2 := ⟨_, rfl⟩
          have hval : A2 86 2 = nI (i + 1) := by
            rw [← eA]; unfold jkh; rw [jm_n (by omega), jm_n (by omega), jm_n (by omega), jac_n (by omega)]; exact cm0_2 hj
          have hlow : ∀ a c, a ≠ 13 → ¬ (a = 0 ∧ c = 12) → A2 a c = jac (cm0 M n i j) (i + 1) a c := fun a c z1 z2 => by
            rw [← eA]; unfold jkh; rw [jm_n (by omega), jm_n (by omega), jm_n (by omega)]
          have hhi : hiE M A2 := fun a c q => by
            rw [hlow a c (by omega) (by omega), jac_n (by omega)]
            exact cm0_n hj (by omega) (by omega) (by omega)
          rw [eA, hval] at hc
          have hinv := carry_inv (M1 := A2) (i := i) hL hF hhi hj hT hok
          have hgR : ∀ c, c < i + 1 → gcR (gB0 A2 n i) n (nn t dr) c = none := fun c hc => by
            rw [← ((hinv c (by omega) (fun e he => hall e (by omega))).2 hc).1]; exact hall c hc
          have hlast := ((hinv i (by omega) (fun e he => hall e (by omega))).2 (by omega)).2 (hall i (by omega))
          have hg := cx_commands_ok (d := 14) (Y := (ju Y.1 0 (nI (i + 1)).toInt64, Y.2)) (M := A2) (i := i) hb t1 ((hhi 94 9 (by omega)).trans t3) (hg2 A2 hhi) (hok2 A2 hhi) (hpN A2 hhi) hn ((hhi 95 9 (by omega)).trans h959) (hzz A2 hhi) (hho A2 hhi) hk ((hhi 94 3 (by omega)).trans hP.2.2.2.2.1) hgR
          have hB0 : ∀ a c, gKeep a c → ¬ (a = 94 ∧ (c = 10 ∨ c = 11 ∨ c = 13)) → a ≠ 101 → gcS (gB0 A2 n i) n (nn t dr) i a c = jtr A2 a c := fun a c z1 z2 z3 => (gcS_n z1).trans (gB0_n z2 z3)
          have hP3 : RelP τ k j (jm (jm M 86 0 0) 0 8 (-1)) (jm (jm A2 94 9 0) 94 13 (-1)) := hP.txt (fun a c z1 z2 => by rw [jm_n (by omega), jm_n (by omega)]) (fun a c z1 => by rw [jm_n (by omega), jm_n (by omega)]; exact hhi a c (by omega)) (by rw [jm_n (by omega), jm_s]) (by rw [jm_n (by omega), jm_s]) (by rw [jm_s, jm_s])
          refine Step_of I (H_commands_r hb hc) hg (by decide) (by decide) hhi (lo_kp (lo_jm (fun a c q => ?_) (by omega) (by omega))) ?_ (cmp_eq ?_ rfl)
          · rw [hB0 a c (Or.inl (by omega)) (by omega) (by omega)]; exact jtr_at (by omega) (by omega)
          · refine rel_push (x := (t, dr)) hP3 (fun _ => hX) (rL_cells hlast (fun a c z1 z2 => hlow _ _ (by omega) (by omega)) (fun c _ => jm_n (by omega))) (fun q => rFix_c (hF q) (fun a c z1 z2 => (hlow a c (by omega) (by omega)).trans ((jac_n (by omega) _).trans (cm0_n hj (by omega) (by omega) (by omega))))) (fun a c q => ?_) (fun a c q => ?_) (fun c q => ?_)
            · unfold jkeep
              rw [← eA]
              unfold jkh
              by_cases c1 : a = 13 ∧ c = 2
              · obtain ⟨rfl, rfl⟩ := c1; rw [jm_s, jm_s]
              · rw [jm_n c1, jm_n c1]
                by_cases c2 : a = 13 ∧ c = 1
                · obtain ⟨rfl, rfl⟩ := c2; rw [jm_s, jm_s]
                · rw [jm_n c2, jm_n c2]
                  by_cases c3 : a = 0 ∧ c = 12
                  · obtain ⟨rfl, rfl⟩ := c3
                    rw [jm_s, jlg_n (by omega), jm_n (by omega), jm_n (by omega)]; exact r5.symm
                  · rw [jm_n c3, jac_n (by omega)]
                    unfold cm0
                    refine jlg_row (fun q2 c2 z1 z2 => ?_) ?_
                    · rw [hZ q2 c2 (by omega) (by omega), jm_n (by omega), jm_n (by omega)]
                    · by_cases c4 : a = 0 ∧ c = 8
                      · obtain ⟨rfl, rfl⟩ := c4; rw [jm_s, jm_s]
                      · rw [jm_n c4, jm_n c4]
                        by_cases c5 : a = 86 ∧ c = 0
                        · obtain ⟨rfl, rfl⟩ := c5; rw [jm_s, jm_s]
                        · rw [jm_n c5, jm_n c5]; exact hN a c (by omega)
            · by_cases c1 : a = 94 ∧ c = 9
              · obtain ⟨rfl, rfl⟩ := c1; rw [jm_s, jm_n (by omega), jm_s]
              · rw [jm_n c1]
                by_cases c2 : a = 94 ∧ c = 13
                · obtain ⟨rfl, rfl⟩ := c2
                  rw [jm_s, gcS_n (Or.inr (Or.inl (by omega)))]
                  unfold gB0
                  rw [jm_n (by omega), jm_s]
                · rw [jm_n c2, jm_n (by omega), hB0 a c (by unfold gKeep; omega) (by omega) (by omega)]
                  exact jtr_at (by omega) (by omega)
            · rw [jm_n (by omega), hB0 96 c (Or.inl (by omega)) (by omega) (by omega), jtr_96 q, jm_n (by omega), jm_n (by omega)]
          · rw [kp_19, jm_n (by omega), hB0 94 19 (Or.inr (Or.inl (by omega))) (by omega) (by omega)]; exact jtr_19
        · -- one is refused
          have C2 := c_areCarriedOut_no (d := 13) (b := b) (Y := Y) (M := cm0 M n i j) hb hn hjc (show i + 1 ≤ 30 by omega) (cm0_2 hj) hlet hi0 hbef hat
          have hN2 : ∀ a c, ¬ (a = 0 ∧ (c = 9 ∨ c = 10 ∨ c = 11 ∨ c = 12)) → 6 < a ∨ a = 0 → jm (jref (jat12 (cm0 M n i j) i0) r z) 0 12 0 a c = cm0 M n i j a c := fun a c z1 z2 => by
            unfold jref
            rw [jm_n (by omega), jm_n (by omega), jm_n (by omega), jm_n (by omega)]
            exact jat12_n (by omega)
          have hslot : ∀ {R : Nat → Int32}, (∀ c, c < 466 → R c = M 95 c) → rL t dr (lgC (jm (jref (jat12 (cm0 M n i j) i0) r z) 0 12 0) (15 + 6 * j)) R := fun {R} hR => by
            refine rL_copy (A := jm (jm (jcm M n i) 86 0 0) 0 8 (-1)) (a := 1) (g := 15 + 6 * j) (R := M 95) (rL_cells hL (fun a c z1 z2 => hZ a c (by omega) (by omega)) (fun _ _ => rfl)) (fun a c z1 z2 => hN2 a c (by omega) (by omega)) hR
          have hc := c_commands_no (d := 13) (Y := Y) hb hC hj hk ((hN 13 1 (by omega)).trans hP.2.2.1) (by rw [hN 1 2 (by omega)]; exact rL_z hL) C2 ((hN2 13 1 (by omega) (by omega)).trans ((h13 1).trans hP.2.2.1)) (rL_z (hslot fun _ _ => rfl))
          obtain ⟨A2, eA⟩ : ∃ A2, jlg (jm (jref (jat12 (cm0 M n i j) i0) r z) 0 12 0) (15 + 6 * j) 1 = A2 := ⟨_, rfl⟩
          have hA2 : ∀ a c, (a < 1 ∨ 6 < a) → A2 a c = jm (jref (jat12 (cm0 M n i j) i0) r z) 0 12 0 a c := fun a c q => by rw [← eA]; exact jlg_n (by omega)
          have hlow : ∀ a c, (a = 0 ∨ (6 < a ∧ a < 15) ∨ (69 ≤ a ∧ a < 86) ∨ 91 < a) → ¬ (a = 0 ∧ (c = 8 ∨ c = 9 ∨ c = 10 ∨ c = 11 ∨ c = 12)) → A2 a c = M a c := fun a c z1 z2 => by
            rw [hA2 a c (by omega), hN2 a c (by omega) (by omega)]
            exact cm0_n hj (by omega) (by omega) (by omega)
          have hhi : hiE M A2 := fun a c q => hlow a c (by omega) (by omega)
          rw [eA] at hc
          have hinv := carry_inv (M1 := A2) (i := i) hL hF hhi hj hT hok
          have hgR : ∀ c, c < i0 → gcR (gB0 A2 n i) n (nn t dr) c = none := fun c hc => by
            rw [← ((hinv c (by omega) (fun e he => hbef e (by omega))).2 (by omega)).1]; exact hbef c hc
          have hgN : gcR (gB0 A2 n i) n (nn t dr) i0 = some (r, z) := by
            rw [← ((hinv i0 (by omega) hbef).2 hi0).1]; exact hat
          have hg := cx_commands_no (d := 14) (Y := Y) (M := A2) (i := i) hb t1 ((hhi 94 9 (by omega)).trans t3) (hg2 A2 hhi) (hok2 A2 hhi) (hpN A2 hhi) hn ((hhi 95 9 (by omega)).trans h959) (hzz A2 hhi) (hho A2 hhi) hi0 hgR hgN
          have hB0 : ∀ a c, gKeep a c → ¬ (a = 94 ∧ (c = 10 ∨ c = 11 ∨ c = 13)) → a ≠ 101 → gqp (gB0 A2 n i) n (nn t dr) i0 a c = jtr A2 a c := fun a c z1 z2 z3 => (gqp_n z1).trans (gB0_n z2 z3)
          have hK : ∀ a c, a ≠ 95 → ¬ (a = 94 ∧ (c = 9 ∨ c = 14 ∨ c = 15 ∨ c = 17 ∨ c = 19)) → jrai (jcp (jm (jrefu (gqp (gB0 A2 n i) n (nn t dr) i0) r z) 94 9 0) 96 0 95 0 466) 2 a c = gqp (gB0 A2 n i) n (nn t dr) i0 a c := fun a c z1 z2 => by
            unfold jrai jrefu
            rw [jm_n (by omega), jcp_n z1, jm_n (by omega), jm_n (by omega), jm_n (by omega), jm_n (by omega)]
          have hK2 : ∀ a c, (a = 94 ∧ (c = 3 ∨ c = 5 ∨ c = 7)) ∨ a = 97 ∨ a = 98 → jrai (jcp (jm (jrefu (gqp (gB0 A2 n i) n (nn t dr) i0) r z) 94 9 0) 96 0 95 0 466) 2 a c = M a c := fun a c q => by
            rw [hK a c (by omega) (by omega), hB0 a c (by unfold gKeep; omega) (by omega) (by omega), jtr_at (by omega) (by omega)]
            exact hhi a c (by omega)
          have hP2 := hP
          obtain ⟨a1, a2, a3, a4, a5, a6, a7, a8, a9, a10, -, ⟨-, -, -, -, -, q7, q8, q9⟩⟩ := hP2
          refine Step_of I (H_commands_t2 (d := 19) hb hc) hg (by decide) (by decide) hhi (fun a c q => ?_) ⟨τ, k, j, a1, a2, (hlow 13 1 (by omega) (by omega)).trans a3, (hlow 13 2 (by omega) (by omega)).trans a4, (hK2 94 3 (by omega)).trans a5, ?_, fun c hc => ?_, a8, fun hd => rFix_c (a9 hd) (fun a c _ _ => hlow a c (by omega) (by omega)), rSv_c a10 (fun a c q => hlow a c (by omega) (by omega)) (fun a c q => hK2 a c (by omega)), ⟨0, by omega, ?_, ?_, fun c hc => absurd hc (Nat.not_lt_zero c)⟩, ⟨?_, ?_, ?_, ?_, ?_, q7, q8, (hK2 94 7 (by omega)).trans q9⟩⟩ (cmp_no jm_s (by decide))
          · rw [hK a c (by omega) (by omega), hB0 a c (Or.inl (by omega)) (by omega) (by omega)]; exact jtr_at (by omega) (by omega)
          · rw [et, ed]
            refine rL_copy (hslot fun _ _ => rfl) (fun a c z1 z2 => by rw [← eA]) (fun c hc => ?_)
            unfold jrai
            rw [jm_n (by omega), show jcp (jm (jrefu (gqp (gB0 A2 n i) n (nn t dr) i0) r z) 94 9 0) 96 0 95 0 466 95 c = jcp (jm (jrefu (gqp (gB0 A2 n i) n (nn t dr) i0) r z) 94 9 0) 96 0 95 0 466 95 (0 + c) by rw [Nat.zero_add], jcp_at hc, Nat.zero_add]
            unfold jrefu
            rw [jm_n (by omega), jm_n (by omega), jm_n (by omega), jm_n (by omega), hB0 96 c (Or.inl (by omega)) (by omega) (by omega), jtr_96 hc]
            exact hhi 95 c (by omega)
          · refine rL_cells (a7 c hc) (fun a q z1 z2 => ?_) (fun q _ => hK2 97 _ (by omega))
            rw [hA2 a q (by omega), hN2 a q (by omega) (by omega)]
            unfold cm0
            rw [jlg_n (by omega)]
            exact hZ a q (by omega) (by omega)
          · rw [hA2 86 0 (by omega), hN2 86 0 (by omega) (by omega)]
            unfold cm0
            rw [jlg_n (by omega), jm_n (by omega), jm_s]
            rfl
          · unfold jrai; rw [jm_n (by omega), jcp_n (by omega), jm_s]; rfl
          · rw [hA2 0 9 (by omega)]
            unfold jref jrai jrefu
            rw [jm_n (by omega), jm_n (by omega), jm_n (by omega), jm_s, jm_n (by omega), jcp_n (by omega), jm_n (by omega), jm_n (by omega), jm_n (by omega), jm_s]
          · rw [hA2 0 10 (by omega)]
            unfold jref jrai jrefu
            rw [jm_n (by omega), jm_n (by omega), jm_s, jm_n (by omega), jcp_n (by omega), jm_n (by omega), jm_n (by omega), jm_s]
          · rw [hA2 0 11 (by omega)]
            unfold jref jrai jrefu
            rw [jm_n (by omega), jm_s, jm_n (by omega), jcp_n (by omega), jm_n (by omega), jm_s]
            unfold gqp
            rw [jm_s]
            exact jm_s
          · rw [hA2 0 8 (by omega), hN2 0 8 (by omega) (by omega), hK 94 13 (by omega) (by omega), gqp_n (Or.inr (Or.inl (by omega)))]
            unfold cm0 gB0
            rw [jlg_n (by omega), jm_s, jm_n (by omega), jm_s]
          · rw [hA2 0 12 (by omega), jm_s]
      · exact fault_step I hN jcm_p (c_isParsed_C (d := 13) hb t1 t2 hi hg hFi hE hE59) ⟨gce (jtr (cmF (jcm M n i) _)) n i, gce_like, by
          have hh := hcm _ (pN (M 87) n (ppo (M 87) n i)) hN
          have hg := cx_commands_C (d := 15) (M := cmF (jcm M n i) (pN (M 87) n (ppo (M 87) n i))) (Y := Y) (i := i) hb t1 ((hh 94 9 (by omega)).trans t3) (fun j hj => by rw [e100 _ hh]; exact (pgo_e hT).mp (hg j hj)) (fun j hj => by rw [e100 _ hh, ← hp0, ← pF_e hT]; exact hok j hj) (by rw [e100 _ hh, ← hp0, ← pN_e hT, ← hT]; exact hE) (by rw [e100 _ hh, ← hp0, ← pN_e hT, ← hT]; exact hE59)
          rw [e100 _ hh, ← hp0, ← pN_e hT] at hg
          exact hg⟩
end
