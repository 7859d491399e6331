section
/-! ===== the meetings of a number of teams: both sides draw the same ===== -/
def wT (t : Nat) : Nat := 2 * (gP t - 1)
def nT (t : Nat) : Nat := gbase t (wT t)
/-- home, away, week of the m-th meeting of t teams: as the reference lays them -/
def TB (t m k : Nat) : Int32 := jof (gdw (fun _ _ => 0) t (wT t)) m k
theorem nT_le {t : Nat} (ht : t ≤ 8) : nT t ≤ 56 := by
  unfold nT
  cases h : wT t with
  | zero => exact Nat.zero_le _
  | succ w =>
    have h1 := gin_le (t := t) (w := w) (j := t) ht (by unfold wT at h; omega) ht
    rw [gbase]
    exact h1
theorem wT_le {t : Nat} (ht : t ≤ 8) : wT t ≤ 14 := by unfold wT gP; omega
theorem gbase_mono {t : Nat} : ∀ {w w2 : Nat}, w ≤ w2 → gbase t w ≤ gbase t w2
  | w, 0, h => by rw [show w = 0 by omega]; exact Nat.le_refl _
  | w, w2 + 1, h => by
    by_cases e : w = w2 + 1
    · rw [e]; exact Nat.le_refl _
    · exact Nat.le_trans (gbase_mono (w2 := w2) (by omega)) (Nat.le_add_right _ _)
theorem gz_of {N : MM} {c m k : Nat} (hk : k < 8) (h : m ≠ c) : ∀ i, i ≤ 8 → jof (gz N c i) m k = jof N m k
  | 0, _ => rfl
  | i + 1, hi => by rw [gz, jsets_of (by omega) (by omega) hk]; exact gz_of hk h i (by omega)
theorem gz_at {N : MM} {c k : Nat} : ∀ i, i ≤ 8 → k < i → jof (gz N c i) c k = 0
  | 0, _, h => absurd h (Nat.not_lt_zero k)
  | i + 1, hi, h => by
    rw [gz]
    by_cases e : k = i
    · subst e; exact jsets_s
    · rw [jsets_of (by omega) (by omega) (by omega)]; exact gz_at i (by omega) (by omega)
theorem gadd_of {N : MM} {c t w j m k : Nat} (hk : k < 8) (h : m ≠ c) : jof (gadd N c t w j) m k = jof N m k := by
  unfold gadd
  rw [jsets_of (by omega) (by omega) hk, jsets_of (by omega) (by omega) hk, jsets_of (by omega) (by omega) hk, jsets_of (by omega) (by omega) hk, gz_of hk h 8 (Nat.le_refl _)]
  unfold jof
  rw [jm_n (by omega)]
theorem gadd_0 {N : MM} {c t w j : Nat} : jof (gadd N c t w j) c 0 = nI j := by
  unfold gadd
  rw [jsets_of (by omega) (by omega) (by omega), jsets_of (by omega) (by omega) (by omega), jsets_of (by omega) (by omega) (by omega), jsets_s]
theorem gadd_1 {N : MM} {c t w j : Nat} : jof (gadd N c t w j) c 1 = gother t w j := by
  unfold gadd
  rw [jsets_of (by omega) (by omega) (by omega), jsets_of (by omega) (by omega) (by omega), jsets_s]
theorem gadd_2 {N : MM} {c t w j : Nat} : jof (gadd N c t w j) c 2 = nI w := by
  unfold gadd
  rw [jsets_of (by omega) (by omega) (by omega), jsets_s]
theorem gadd_3 {N : MM} {c t w j : Nat} : jof (gadd N c t w j) c 3 = nI w := by unfold gadd; rw [jsets_s]
theorem gadd_4 {N : MM} {c t w j k : Nat} (h : 4 ≤ k) (hk : k < 8) : jof (gadd N c t w j) c k = 0 := by
  unfold gadd
  rw [jsets_of (by omega) (by omega) hk, jsets_of (by omega) (by omega) hk, jsets_of (by omega) (by omega) hk, jsets_of (by omega) (by omega) hk]
  exact gz_at 8 (Nat.le_refl _) hk
theorem gadd_c {N N2 : MM} {c t w j m k : Nat} (hk : k < 8) (h : m ≠ c → jof N m k = jof N2 m k) : jof (gadd N c t w j) m k = jof (gadd N2 c t w j) m k := by
  by_cases e : m = c
  · subst e
    rcases (show k = 0 ∨ k = 1 ∨ k = 2 ∨ k = 3 ∨ 4 ≤ k by omega) with rfl | rfl | rfl | rfl | h4
    · rw [gadd_0, gadd_0]
    · rw [gadd_1, gadd_1]
    · rw [gadd_2, gadd_2]
    · rw [gadd_3, gadd_3]
    · rw [gadd_4 h4 hk, gadd_4 h4 hk]
  · rw [gadd_of hk e, gadd_of hk e]; exact h e
theorem gdj_c {N N2 : MM} {t w k : Nat} (hk : k < 8) (h : ∀ m, m < gbase t w → jof N m k = jof N2 m k) : ∀ j m, m < gbase t w + gin t w j → jof (gdj N t w j) m k = jof (gdj N2 t w j) m k
  | 0, m, hm => h m hm
  | j + 1, m, hm => by
    rw [gdj, gdj]
    rw [gin] at hm
    split
    · rw [if_pos (by assumption)] at hm
      exact gadd_c hk (fun e => gdj_c hk h j m (by omega))
    · rw [if_neg (by assumption)] at hm
      exact gdj_c hk h j m hm
theorem gdw_c {N N2 : MM} {t k : Nat} (hk : k < 8) : ∀ w m, m < gbase t w → jof (gdw N t w) m k = jof (gdw N2 t w) m k
  | 0, m, h => absurd h (Nat.not_lt_zero m)
  | w + 1, m, h => gdj_c hk (gdw_c hk w) t m h
theorem gdw_TB {N : MM} {t m k : Nat} (hk : k < 8) (hm : m < nT t) : jof (gdw N t (wT t)) m k = TB t m k := gdw_c hk (wT t) m hm
/-- what holds of each meeting as it is laid -/
def okM (t : Nat) (f : Nat → Int32) : Prop := ∃ h a w : Nat, h < t ∧ a < t ∧ h ≠ a ∧ w < wT t ∧ f 0 = nI h ∧ f 1 = nI a ∧ f 2 = nI w ∧ f 3 = nI w ∧ f 4 = 0 ∧ f 5 = 0 ∧ f 6 = 0 ∧ f 7 = 0
theorem gcond_all : ((List.range 9).all fun t => (List.range (wT t)).all fun w => (List.range t).all fun j => !gcondb t w j || (List.range t).any fun a => decide (gother t w j = nI a) && !(a == j)) = true := by decide +kernel
theorem gcond_ok {t w j : Nat} (ht : t ≤ 8) (hw : w < wT t) (hj : j < t) (h : gcondb t w j = true) : ∃ a, a < t ∧ a ≠ j ∧ gother t w j = nI a := by
  have h1 := List.all_eq_true.mp (List.all_eq_true.mp (List.all_eq_true.mp gcond_all t (List.mem_range.mpr (by omega))) w (List.mem_range.mpr hw)) j (List.mem_range.mpr hj)
  rw [h, Bool.not_true, Bool.false_or] at h1
  obtain ⟨a, h2, h3⟩ := List.any_eq_true.mp h1
  rw [Bool.and_eq_true, decide_eq_true_eq, Bool.not_eq_true', beq_eq_false_iff_ne] at h3
  exact ⟨a, List.mem_range.mp h2, h3.2, h3.1⟩
theorem gdj_ok {N : MM} {t w : Nat} (ht : t ≤ 8) (hw : w < wT t) (h : ∀ m, m < gbase t w → okM t (jof N m)) : ∀ j, j ≤ t → ∀ m, m < gbase t w + gin t w j → okM t (jof (gdj N t w j) m)
  | 0, _, m, hm => h m hm
  | j + 1, hj, m, hm => by
    rw [gdj]
    rw [gin] at hm
    split
    · rename_i hc
      rw [if_pos hc] at hm
      by_cases e : m = gbase t w + gin t w j
      · subst e
        obtain ⟨a, h1, h2, h3⟩ := gcond_ok ht hw (by omega) hc
        exact ⟨j, a, w, by omega, h1, fun q => h2 q.symm, hw, gadd_0, gadd_1.trans h3, gadd_2, gadd_3, gadd_4 (by omega) (by omega), gadd_4 (by omega) (by omega), gadd_4 (by omega) (by omega), gadd_4 (by omega) (by omega)⟩
      · obtain ⟨h1, a, w1, q⟩ := gdj_ok ht hw h j (by omega) m (by omega)
        refine ⟨h1, a, w1, ?_⟩
        simp only [gadd_of (show 0 < 8 by omega) e, gadd_of (show 1 < 8 by omega) e, gadd_of (show 2 < 8 by omega) e, gadd_of (show 3 < 8 by omega) e, gadd_of (show 4 < 8 by omega) e, gadd_of (show 5 < 8 by omega) e, gadd_of (show 6 < 8 by omega) e, gadd_of (show 7 < 8 by omega) e]
        exact q
    · rename_i hc
      rw [if_neg hc] at hm
      exact gdj_ok ht hw h j (by omega) m hm
theorem gdw_ok {N : MM} {t : Nat} (ht : t ≤ 8) : ∀ w, w ≤ wT t → ∀ m, m < gbase t w → okM t (jof (gdw N t w) m)
  | 0, _, m, h => absurd h (Nat.not_lt_zero m)
  | w + 1, hw, m, h => gdj_ok ht (by omega) (gdw_ok ht w (by omega)) t (Nat.le_refl _) m h
theorem TB_ok {t m : Nat} (ht : t ≤ 8) (hm : m < nT t) : okM t (TB t m) := gdw_ok ht (wT t) (Nat.le_refl _) m hm
/-! the class -/
theorem jput_c {n i k : Nat} {X X2 : MM} {u v : Int32} (h : X i k = X2 i k) : jput n X i u v i k = jput n X2 i u v i k := by
  unfold jput
  split
  · exact h
  · by_cases e : k = u.toNatClampNeg
    · subst e; rw [jm_s, jm_s]
    · rw [jm_n (by omega), jm_n (by omega)]; exact h
theorem jhost_c {X X2 : MM} {u v z : Int32} {k : Nat} (h : X 74 k = X2 74 k) : jhost X u v z 74 k = jhost X2 u v z 74 k := by
  unfold jhost
  split <;> exact jput_c h
theorem jpl_c {r q : Nat} {z : Int32} {X X2 : MM} {k : Nat} (h : X 74 k = X2 74 k) : ∀ n, jpl r q z X n 74 k = jpl r q z X2 n 74 k
  | 0 => jhost_c h
  | n + 1 => jhost_c (jpl_c h n)
/-- the guest of a team in a week, as the class pairs them -/
def cgu (t w j : Nat) : Int32 := jpl (jrd (gP t - 1) w) (gP t - 1) (if w < gP t - 1 then 0 else 1) (fun _ _ => -1) ((gP t - 1) / 2) 74 j
theorem cgu_all : ((List.range 9).all fun t => decide (t < 2) || (List.range (wT t)).all fun w => (List.range t).all fun j => (gcondb t w j && decide (cgu t w j = gother t w j)) || (!gcondb t w j && (decide (cgu t w j = -1) || decide (nI t ≤ cgu t w j)))) = true := by decide +kernel
theorem cgu_y {t w j : Nat} (h2 : 2 ≤ t) (ht : t ≤ 8) (hw : w < wT t) (hj : j < t) (h : gcondb t w j = true) : cgu t w j = gother t w j ∧ ¬ cgu t w j = -1 ∧ ¬ nI t ≤ cgu t w j := by
  have h0 := List.all_eq_true.mp cgu_all t (List.mem_range.mpr (by omega))
  rw [decide_eq_false (by omega), Bool.false_or] at h0
  have h1 := List.all_eq_true.mp (List.all_eq_true.mp h0 w (List.mem_range.mpr hw)) j (List.mem_range.mpr hj)
  rw [h, Bool.true_and, Bool.not_true, Bool.false_and, Bool.or_false, decide_eq_true_eq] at h1
  obtain ⟨a, k1, k2, k3⟩ := gcond_ok ht hw hj h
  refine ⟨h1, ?_, ?_⟩
  · rw [h1, k3]; exact nI_nm1 (by omega)
  · rw [h1, k3]; exact nI_ge k1 (by omega)
theorem cgu_n {t w j : Nat} (h2 : 2 ≤ t) (ht : t ≤ 8) (hw : w < wT t) (hj : j < t) (h : ¬ gcondb t w j = true) : cgu t w j = -1 ∨ nI t ≤ cgu t w j := by
  have h0 := List.all_eq_true.mp cgu_all t (List.mem_range.mpr (by omega))
  rw [decide_eq_false (by omega), Bool.false_or] at h0
  have h1 := List.all_eq_true.mp (List.all_eq_true.mp h0 w (List.mem_range.mpr hw)) j (List.mem_range.mpr hj)
  rw [Bool.not_eq_true] at h
  rw [h, Bool.false_and, Bool.false_or, Bool.not_false, Bool.true_and, Bool.or_eq_true, decide_eq_true_eq, decide_eq_true_eq] at h1
  exact h1
/-- the class's rows and the reference's: the same below c -/
def rFx (X Y : MM) (c : Nat) : Prop := ∀ m, m < c → X 70 m = jof Y m 0 ∧ X 71 m = jof Y m 1 ∧ X 72 m = jof Y m 2
theorem jaw_rel {t w : Nat} {X Y : MM} (h2 : 2 ≤ t) (ht : t ≤ 8) (hw : w < wT t) (hg : ∀ j, j < t → X 74 j = cgu t w j) (h9 : X 69 1 = nI (gbase t w)) (hr : rFx X Y (gbase t w)) : ∀ j, j ≤ t → jaw w t X j 69 1 = nI (gbase t w + gin t w j) ∧ rFx (jaw w t X j) (gdj Y t w j) (gbase t w + gin t w j)
  | 0, _ => ⟨h9, hr⟩
  | j + 1, hj => by
    obtain ⟨i1, i2⟩ := jaw_rel h2 ht hw hg h9 hr j (by omega)
    have hG : jaw w t X j 74 j = cgu t w j := (jaw_n (by omega) j).trans (hg j (by omega))
    rw [jaw, gdj, gin, hG]
    by_cases hc : gcondb t w j = true
    · obtain ⟨c1, c2, c3⟩ := cgu_y h2 ht hw (by omega) hc
      have hb := gin_le (t := t) (w := w) (j := j + 1) ht hw (by omega)
      rw [gin, if_pos hc] at hb
      rw [if_neg c2, if_neg c3, if_pos hc, if_pos hc, i1, jput_nI (by omega) (by decide), jput_nI (by omega) (by decide), jput_nI (by omega) (by decide)]
      refine ⟨by rw [jm_s, nI_1]; rfl, fun m hm => ?_⟩
      by_cases e : m = gbase t w + gin t w j
      · subst e
        refine ⟨?_, ?_, ?_⟩
        · rw [jm_n (by omega), jm_n (by omega), jm_n (by omega), jm_s, gadd_0]
        · rw [jm_n (by omega), jm_n (by omega), jm_s, gadd_1, c1]
        · rw [jm_n (by omega), jm_s, gadd_2]
      · rw [jm_n (by omega), jm_n (by omega), jm_n (by omega), jm_n (by omega), jm_n (by omega), jm_n (by omega), jm_n (by omega), jm_n (by omega), jm_n (by omega), jm_n (by omega), jm_n (by omega), jm_n (by omega), gadd_of (by omega) e, gadd_of (by omega) e, gadd_of (by omega) e]
        exact i2 m (by omega)
    · rw [if_neg hc, if_neg hc]
      rcases cgu_n h2 ht hw (by omega) hc with k | k
      · rw [if_pos k]; exact ⟨i1, i2⟩
      · rw [if_pos k]
        split <;> exact ⟨i1, i2⟩
theorem jly_rel {t : Nat} {X Y : MM} (h2 : 2 ≤ t) (ht : t ≤ 8) : ∀ w, w ≤ wT t → jly t (gP t - 1) X w 69 1 = nI (gbase t w) ∧ rFx (jly t (gP t - 1) X w) (gdw Y t w) (gbase t w)
  | 0, _ => ⟨by rw [jly, jm_s]; rfl, fun m hm => absurd hm (Nat.not_lt_zero m)⟩
  | w + 1, hw => by
    obtain ⟨i1, i2⟩ := jly_rel (X := X) (Y := Y) h2 ht w (by omega)
    rw [jly, gdw]
    refine jaw_rel h2 ht (by omega) (fun j hj => ?_) ?_ (fun m hm => ?_) t (Nat.le_refl _)
    · rw [m_put (by omega)]
      refine jpl_c ?_ _
      show (if 74 = 74 ∧ j < 8 then _ else _) = _
      rw [if_pos ⟨rfl, by omega⟩]
    · rw [m_put (by omega), jpl_n (by omega), jfill_n (by omega)]; exact i1
    · rw [m_put (by omega), m_put (by omega), m_put (by omega), jpl_n (by omega), jpl_n (by omega), jpl_n (by omega), jfill_n (by omega), jfill_n (by omega), jfill_n (by omega)]
      exact i2 m hm
/-- the bye of a week -/
def bye (t w : Nat) : Int32 := if gP t - 1 = t then nI (jrd (gP t - 1) w) else -1
theorem jly_bye {t : Nat} {X : MM} (ht : t ≤ 8) : ∀ w, w ≤ wT t → ∀ i, i < w → jly t (gP t - 1) X w 73 i = bye t i
  | 0, _, i, h => absurd h (Nat.not_lt_zero i)
  | w + 1, hw, i, h => by
    have h14 := wT_le ht
    rw [jly, jaw_n (by omega), jput_nI (by omega) (by decide)]
    by_cases e : i = w
    · subst e; rw [jm_s]; rfl
    · rw [jm_n (by omega), jpl_n (by omega), jfill_n (by omega)]
      exact jly_bye ht w (by omega) i (by omega)
/-- the class's fixtures are those of t teams -/
def rFix (t : Nat) (A : MM) : Prop := A 69 0 = nI (wT t) ∧ A 69 1 = nI (nT t) ∧ (∀ m, m < nT t → A 70 m = TB t m 0 ∧ A 71 m = TB t m 1 ∧ A 72 m = TB t m 3) ∧ ∀ w, w < wT t → A 73 w = bye t w
theorem TB_23 {t m : Nat} (ht : t ≤ 8) (hm : m < nT t) : TB t m 2 = TB t m 3 := by
  obtain ⟨h, a, w, -, -, -, -, -, -, h2, h3, -⟩ := TB_ok ht hm
  rw [h2, h3]
theorem jly_fix {t : Nat} {X : MM} (h2 : 2 ≤ t) (ht : t ≤ 8) : rFix t (jly t (gP t - 1) X (wT t)) := by
  obtain ⟨i1, i2⟩ := jly_rel (X := X) (Y := fun _ _ => 0) h2 ht (wT t) (Nat.le_refl _)
  refine ⟨jly_w _, i1, fun m hm => ?_, fun w hw => jly_bye ht _ (Nat.le_refl _) w hw⟩
  obtain ⟨k1, k2, k3⟩ := i2 m hm
  exact ⟨k1, k2, k3.trans (TB_23 ht hm)⟩
theorem gP_q {t q : Nat} (hl : (t % 2 = 0 ∧ q + 1 = t) ∨ (t % 2 = 1 ∧ q = t)) : q = gP t - 1 := by unfold gP; omega
end

section
/-! ===== class and reference: what holds between them (A: the class's cells, B: the reference's) ===== -/
def lgC (A : MM) (a : Nat) : Nat → Nat → Int32 := fun i => A (a + i)
def rwR (B : MM) (r f : Nat) : Nat → Int32 := fun k => B r (f + k)
def zz (t : Nat) (dr : Bool) : Nat := if dr = true then wT t else 0
def nn (t : Nat) (dr : Bool) : Nat := if dr = true then nT t else 0
abbrev r04 (r : Int32) : Prop := r = 0 ∨ r = 1 ∨ r = 2 ∨ r = 3 ∨ r = 4
def mtR (t : Nat) (C : Nat → Nat → Int32) (R : Nat → Int32) (m : Nat) : Prop :=
  R (18 + 8 * m + 0) = TB t m 0 ∧ R (18 + 8 * m + 1) = TB t m 1 ∧ R (18 + 8 * m + 3) = TB t m 3 ∧ C 3 m = R (18 + 8 * m + 2) ∧
  (∃ w0 w1 : Nat, TB t m 3 = nI w0 ∧ R (18 + 8 * m + 2) = nI w1 ∧ w0 ≤ w1 ∧ w1 < wT t ∧ R (18 + 8 * m + 5) = if w0 = w1 then 0 else 1) ∧
  ((R (18 + 8 * m + 4) = 1 ∧ ∃ g h : Nat, g ≤ 20 ∧ h ≤ 20 ∧ C 4 m = nI g ∧ R (18 + 8 * m + 6) = nI g ∧ C 5 m = nI h ∧ R (18 + 8 * m + 7) = nI h) ∨ (R (18 + 8 * m + 4) = 0 ∧ C 4 m = -1 ∧ C 5 m = -1))
def rL (t : Nat) (dr : Bool) (C : Nat → Nat → Int32) (R : Nat → Int32) : Prop :=
  t ≤ 8 ∧ C 0 0 = nI t ∧ R 0 = nI t ∧ (∀ i, i < 8 → C 1 i = R (10 + i)) ∧ (dr = true → 2 ≤ t) ∧ C 0 2 = (if dr = true then 1 else 0) ∧ R 1 = nI (zz t dr) ∧ R 9 = nI (nn t dr) ∧
  (∃ w : Nat, (dr = false → w = 0) ∧ C 0 3 = nI w ∧ R 2 = nI w ∧ (dr = true → w < wT t)) ∧ (∃ q : Nat, q ≤ 5 ∧ C 0 4 = nI q ∧ R 3 = nI q) ∧ (∃ q : Nat, q ≤ 3 ∧ C 0 5 = nI q ∧ R 4 = nI q) ∧
  (∃ c : Nat, c ≤ 3 ∧ C 0 6 = nI c ∧ R 5 = nI c ∧ ∀ i, i < c → C 2 i = R (6 + i) ∧ r04 (C 2 i)) ∧ ∀ m, m < nn t dr → mtR t C R m
theorem nn_le {t : Nat} {dr : Bool} (ht : t ≤ 8) : nn t dr ≤ 56 := by
  unfold nn
  split
  · exact nT_le ht
  · omega
theorem zz_le {t : Nat} {dr : Bool} (ht : t ≤ 8) : zz t dr ≤ 14 := by
  unfold zz
  split
  · exact wT_le ht
  · omega
theorem rL_c {t : Nat} {dr : Bool} {C C2 : Nat → Nat → Int32} {R R2 : Nat → Int32} (h : rL t dr C R) (h0 : ∀ k, k = 0 ∨ k = 2 ∨ k = 3 ∨ k = 4 ∨ k = 5 ∨ k = 6 → C2 0 k = C 0 k) (h1 : ∀ i, i < 8 → C2 1 i = C 1 i) (h2 : ∀ i, i < 3 → C2 2 i = C 2 i) (h3 : ∀ i, i = 3 ∨ i = 4 ∨ i = 5 → ∀ m, m < 56 → C2 i m = C i m) (hR : ∀ k, k < 466 → R2 k = R k) : rL t dr C2 R2 := by
  obtain ⟨a1, a2, a3, a4, a5, a6, a7, a8, ⟨w, b1, b2, b3, b4⟩, ⟨q, c1, c2, c3⟩, ⟨q2, d1, d2, d3⟩, ⟨c, e1, e2, e3, e4⟩, f⟩ := h
  have hn := nn_le (dr := dr) a1
  refine ⟨a1, by rw [h0 0 (by omega)]; exact a2, by rw [hR 0 (by omega)]; exact a3, fun i hi => by rw [h1 i hi, hR (10 + i) (by omega)]; exact a4 i hi, a5, by rw [h0 2 (by omega)]; exact a6, by rw [hR 1 (by omega)]; exact a7, by rw [hR 9 (by omega)]; exact a8,
    ⟨w, b1, by rw [h0 3 (by omega)]; exact b2, by rw [hR 2 (by omega)]; exact b3, b4⟩, ⟨q, c1, by rw [h0 4 (by omega)]; exact c2, by rw [hR 3 (by omega)]; exact c3⟩, ⟨q2, d1, by rw [h0 5 (by omega)]; exact d2, by rw [hR 4 (by omega)]; exact d3⟩,
    ⟨c, e1, by rw [h0 6 (by omega)]; exact e2, by rw [hR 5 (by omega)]; exact e3, fun i hi => by rw [h2 i (by omega), hR (6 + i) (by omega)]; exact e4 i hi⟩, fun m hm => ?_⟩
  have hm := f m hm
  unfold mtR at hm ⊢
  rw [h3 3 (by omega) m (by omega), h3 4 (by omega) m (by omega), h3 5 (by omega) m (by omega), hR _ (show 18 + 8 * m + 0 < 466 by omega), hR _ (show 18 + 8 * m + 1 < 466 by omega), hR _ (show 18 + 8 * m + 2 < 466 by omega), hR _ (show 18 + 8 * m + 3 < 466 by omega), hR _ (show 18 + 8 * m + 4 < 466 by omega), hR _ (show 18 + 8 * m + 5 < 466 by omega), hR _ (show 18 + 8 * m + 6 < 466 by omega), hR _ (show 18 + 8 * m + 7 < 466 by omega)]
  exact hm
/-- the same league in other cells -/
theorem rL_cells {t : Nat} {dr : Bool} {A A2 : MM} {a : Nat} {R R2 : Nat → Int32} (h : rL t dr (lgC A a) R) (hA : ∀ i k, a ≤ i → i ≤ a + 5 → A2 i k = A i k) (hR : ∀ k, k < 466 → R2 k = R k) : rL t dr (lgC A2 a) R2 :=
  rL_c h (fun k _ => hA (a + 0) k (by omega) (by omega)) (fun i _ => hA (a + 1) i (by omega) (by omega)) (fun i _ => hA (a + 2) i (by omega) (by omega)) (fun i hi m _ => hA (a + i) m (by omega) (by omega)) hR
theorem jlg_at {M : MM} {a g : Nat} {k : Nat} : (∀ k, k = 0 ∨ k = 2 ∨ k = 3 ∨ k = 4 ∨ k = 5 ∨ k = 6 → jlg M a g g k = M a k) ∧ (k < 8 → jlg M a g (g + 1) k = M (a + 1) k) ∧ (k < 3 → jlg M a g (g + 2) k = M (a + 2) k) ∧ (k < 56 → jlg M a g (g + 3) k = M (a + 3) k ∧ jlg M a g (g + 4) k = M (a + 4) k ∧ jlg M a g (g + 5) k = M (a + 5) k) := by
  refine ⟨fun k h => ?_, fun h => ?_, fun h => ?_, fun h => ⟨?_, ?_, ?_⟩⟩
  · unfold jlg; rw [if_pos ⟨rfl, by omega⟩]
  · unfold jlg; rw [if_neg (by omega), if_pos ⟨rfl, h⟩]
  · unfold jlg; rw [if_neg (by omega), if_neg (by omega), if_pos ⟨rfl, h⟩]
  · unfold jlg; rw [if_neg (by omega), if_neg (by omega), if_neg (by omega), if_pos ⟨rfl, h⟩]
  · unfold jlg; rw [if_neg (by omega), if_neg (by omega), if_neg (by omega), if_neg (by omega), if_pos ⟨rfl, h⟩]
  · unfold jlg; rw [if_neg (by omega), if_neg (by omega), if_neg (by omega), if_neg (by omega), if_neg (by omega), if_pos ⟨rfl, h⟩]
/-- a league copied from a to g -/
theorem rL_copy {t : Nat} {dr : Bool} {A A2 : MM} {a g : Nat} {R R2 : Nat → Int32} (h : rL t dr (lgC A a) R) (hA : ∀ i k, g ≤ i → i ≤ g + 5 → A2 i k = jlg A a g i k) (hR : ∀ k, k < 466 → R2 k = R k) : rL t dr (lgC A2 g) R2 := by
  refine rL_c h (fun k hk => ?_) (fun i hi => ?_) (fun i hi => ?_) (fun i hi m hm => ?_) hR
  · exact (hA g k (by omega) (by omega)).trans ((jlg_at (k := 0)).1 k hk)
  · exact (hA (g + 1) i (by omega) (by omega)).trans (jlg_at.2.1 hi)
  · exact (hA (g + 2) i (by omega) (by omega)).trans (jlg_at.2.2.1 hi)
  · have := (jlg_at (M := A) (a := a) (g := g) (k := m)).2.2.2 hm
    rcases hi with rfl | rfl | rfl
    · exact (hA (g + 3) m (by omega) (by omega)).trans this.1
    · exact (hA (g + 4) m (by omega) (by omega)).trans this.2.1
    · exact (hA (g + 5) m (by omega) (by omega)).trans this.2.2
/-! history -/
def rH (τ : Nat → Nat × Bool) (k j : Nat) (A B : MM) : Prop := ∀ i, i < k → rL (τ i).1 (τ i).2 (lgC A (15 + 6 * ((j + 9 - k + i) % 9))) (rwR B 97 (466 * i))
def rCh (τ : Nat → Nat × Bool) (k : Nat) : Prop := ∀ i, i < k → (τ i).2 = true → τ (i + 1) = τ i
def rSv (A B : MM) : Prop := (A 0 2 = 0 ∧ B 94 5 = 0) ∨ (A 0 2 = 1 ∧ B 94 5 = 1 ∧ ∃ t dr, rL t dr (lgC A 7) (B 98))
def rTx (A B : MM) : Prop := ∃ n : Nat, n ≤ 60 ∧ A 86 0 = nI n ∧ B 94 9 = nI n ∧ ∀ i, i < n → A 87 i = B 100 i ∧ ∃ q : Nat, q < 65536 ∧ B 100 i = nI q
def rRs (A B : MM) : Prop := A 0 9 = B 94 14 ∧ A 0 10 = B 94 15 ∧ A 0 11 = B 94 17 ∧ A 0 8 = B 94 13 ∧ A 0 12 = 0 ∧ ∃ q : Nat, q ≤ 36 ∧ B 94 7 = nI q
def Rel (A B : MM) : Prop := ∃ (τ : Nat → Nat × Bool) (k j : Nat), j < 9 ∧ k ≤ 8 ∧ A 13 1 = nI j ∧ A 13 2 = nI k ∧ B 94 3 = nI k ∧ rL (τ k).1 (τ k).2 (lgC A 1) (B 95) ∧ rH τ k j A B ∧ rCh τ k ∧ ((τ k).2 = true → rFix (τ k).1 A) ∧ rSv A B ∧ rTx A B ∧ rRs A B
theorem rFix_c {t : Nat} {A A2 : MM} (h : rFix t A) (hA : ∀ i k, 69 ≤ i → i ≤ 73 → A2 i k = A i k) : rFix t A2 := by
  obtain ⟨h1, h2, h3, h4⟩ := h
  exact ⟨(hA 69 0 (by omega) (by omega)).trans h1, (hA 69 1 (by omega) (by omega)).trans h2, fun m hm => by rw [hA 70 m (by omega) (by omega), hA 71 m (by omega) (by omega), hA 72 m (by omega) (by omega)]; exact h3 m hm, fun w hw => (hA 73 w (by omega) (by omega)).trans (h4 w hw)⟩
/-- other cells don't matter -/
theorem Rel_c {A A2 B B2 : MM} (h : Rel A B) (hA : ∀ i k, i < 75 ∨ i = 86 ∨ i = 87 → ¬ (i = 86 ∧ (k = 1 ∨ k = 2)) → A2 i k = A i k) (hB : ∀ i k, (i = 94 ∧ k ≠ 10 ∧ k ≠ 11 ∧ k ≠ 16 ∧ k ≠ 18 ∧ k ≠ 19) ∨ i = 95 ∨ i = 97 ∨ i = 98 ∨ i = 100 → B2 i k = B i k) : Rel A2 B2 := by
  obtain ⟨τ, k, j, a1, a2, a3, a4, a5, a6, a7, a8, a9, a10, ⟨n, t1, t2, t3, t4⟩, ⟨r1, r2, r3, r4, r5, q, r6, r7⟩⟩ := h
  refine ⟨τ, k, j, a1, a2, (hA 13 1 (by omega) (by omega)).trans a3, (hA 13 2 (by omega) (by omega)).trans a4, (hB 94 3 (by omega)).trans a5, rL_cells a6 (fun i k _ _ => hA i k (by omega) (by omega)) (fun k _ => hB 95 k (by omega)), fun i hi => rL_cells (a7 i hi) (fun i2 k _ _ => hA i2 k (by omega) (by omega)) (fun k _ => hB 97 _ (by omega)), a8, fun hd => rFix_c (a9 hd) (fun i k _ _ => hA i k (by omega) (by omega)), ?_, ⟨n, t1, (hA 86 0 (by omega) (by omega)).trans t2, (hB 94 9 (by omega)).trans t3, fun i hi => by rw [hA 87 i (by omega) (by omega), hB 100 i (by omega)]; exact t4 i hi⟩, ⟨?_, ?_, ?_, ?_, ?_, q, r6, (hB 94 7 (by omega)).trans r7⟩⟩
  · rcases a10 with ⟨s1, s2⟩ | ⟨s1, s2, t, dr, s3⟩
    · exact Or.inl ⟨(hA 0 2 (by omega) (by omega)).trans s1, (hB 94 5 (by omega)).trans s2⟩
    · exact Or.inr ⟨(hA 0 2 (by omega) (by omega)).trans s1, (hB 94 5 (by omega)).trans s2, t, dr, rL_cells s3 (fun i k _ _ => hA i k (by omega) (by omega)) (fun k _ => hB 98 k (by omega))⟩
  · rw [hA 0 9 (by omega) (by omega), hB 94 14 (by omega)]; exact r1
  · rw [hA 0 10 (by omega) (by omega), hB 94 15 (by omega)]; exact r2
  · rw [hA 0 11 (by omega) (by omega), hB 94 17 (by omega)]; exact r3
  · rw [hA 0 8 (by omega) (by omega), hB 94 13 (by omega)]; exact r4
  · rw [hA 0 12 (by omega) (by omega)]; exact r5
theorem jkeep_slot {M : MM} {j k i c : Nat} (hj : j < 9) (h : 15 + 6 * j ≤ i) (h2 : i ≤ 15 + 6 * j + 5) : jkeep M j k i c = jlg M 1 (15 + 6 * j) i c := by
  unfold jkeep jkh
  rw [jm_n (by omega), jm_n (by omega)]
theorem jkeep_old {M : MM} {j k i c : Nat} (h : i < 15 + 6 * j ∨ 15 + 6 * j + 5 < i) (h2 : i ≠ 13) : jkeep M j k i c = M i c := by
  unfold jkeep jkh
  rw [jm_n (by omega), jm_n (by omega), jlg_n (by omega)]
theorem jkeep_13 {M : MM} {j k : Nat} : jkeep M j k 13 1 = nI ((j + 1) % 9) ∧ jkeep M j k 13 2 = nI (min (k + 1) 8) := by
  unfold jkeep jkh
  exact ⟨by rw [jm_n (by omega), jm_s], by rw [jm_s]⟩
theorem jkpg_97 {N : MM} {k i c : Nat} (hk : k ≤ 8) (hi : i < min (k + 1) 8) (hc : c < 466) : jkpg N k 97 (466 * i + c) = if i = min k 7 then N 96 c else if k = 8 then N 97 (466 * (i + 1) + c) else N 97 (466 * i + c) := by
  unfold jkpg
  by_cases h8 : k < 8
  · rw [if_pos h8, if_neg (show ¬ k = 8 by omega)]
    unfold jkp
    rw [jm_n (by omega)]
    by_cases e : i = min k 7
    · rw [if_pos e, show i = k by omega, jcp_at hc, Nat.zero_add]
    · rw [if_neg e, jcp_out (by omega)]
  · rw [if_neg h8, if_pos (show k = 8 by omega)]
    unfold jkp8 jkp
    rw [jm_n (by omega)]
    by_cases e : i = min k 7
    · rw [if_pos e, show i = 7 by omega, jcp_at hc, Nat.zero_add, jm_n (by omega), jcp_n (by omega)]
    · rw [if_neg e, jcp_out (by omega), jm_n (by omega), show 466 * i + c = 0 + (466 * i + c) by omega, jcp_at (by omega)]
      congr 1
      omega
theorem jkpg_n {N : MM} {k i c : Nat} (hi : i ≠ 97) (h : ¬ (i = 94 ∧ c = 3)) : jkpg N k i c = N i c := by
  unfold jkpg
  split
  · unfold jkp; rw [jm_n h, jcp_n hi]
  · unfold jkp8 jkp; rw [jm_n h, jcp_n hi, jm_n h, jcp_n hi]
theorem jkpg_3 {N : MM} {k : Nat} (hk : k ≤ 8) : jkpg N k 94 3 = nI (min (k + 1) 8) := by
  unfold jkpg
  split
  · unfold jkp; rw [jm_s]; congr 1; omega
  · unfold jkp8 jkp; rw [jm_s]; congr 1; omega
/-- a change that is kept: the history behind it -/
theorem push_H {τ : Nat → Nat × Bool} {k j : Nat} {A A2 B B2 N : MM} {x : Nat × Bool} (hj : j < 9) (hk : k ≤ 8) (h0 : rL (τ k).1 (τ k).2 (lgC A 1) (B 95)) (h : rH τ k j A B) (hc : rCh τ k) (hx : (τ k).2 = true → x = τ k)
    (hA : ∀ i c, 15 ≤ i → i < 69 → A2 i c = jkeep A j k i c) (hB : ∀ c, B2 97 c = jkpg N k 97 c) (h96 : ∀ c, c < 466 → N 96 c = B 95 c) (h97 : ∀ c, N 97 c = B 97 c) :
    ∃ τ2 : Nat → Nat × Bool, rH τ2 (min (k + 1) 8) ((j + 1) % 9) A2 B2 ∧ rCh τ2 (min (k + 1) 8) ∧ τ2 (min (k + 1) 8) = x := by
  -- the entry that is pushed
  have hnew : ∀ R : Nat → Int32, (∀ c, c < 466 → R c = B 95 c) → rL (τ k).1 (τ k).2 (lgC A2 (15 + 6 * j)) R := fun R hR =>
    rL_copy h0 (fun i c h1 h2 => (hA i c (by omega) (by omega)).trans (jkeep_slot hj h1 h2)) hR
  have hold : ∀ (i s : Nat) (R : Nat → Int32), i < k → s = (j + 9 - k + i) % 9 → s ≠ j → (∀ c, c < 466 → R c = B 97 (466 * i + c)) → rL (τ i).1 (τ i).2 (lgC A2 (15 + 6 * s)) R := fun i s R hi hs hsj hR => by
    have h1 := h i hi
    rw [← hs] at h1
    have hs9 : s < 9 := by omega
    exact rL_cells h1 (fun i2 c q1 q2 => (hA i2 c (by omega) (by omega)).trans (jkeep_old (by omega) (by omega))) hR
  by_cases h8 : k < 8
  · have em : min (k + 1) 8 = k + 1 := by omega
    refine ⟨fun i => if i ≤ k then τ i else x, ?_, ?_, ?_⟩
    · rw [em]
      intro i hi
      have hR : ∀ c, c < 466 → rwR B2 97 (466 * i) c = if i = k then B 95 c else B 97 (466 * i + c) := fun c hc1 => by
        show B2 97 (466 * i + c) = _
        rw [hB, jkpg_97 hk (by omega) hc1]
        by_cases e : i = k
        · rw [if_pos (by omega), if_pos e]; exact h96 c hc1
        · rw [if_neg (by omega), if_neg (by omega), if_neg e]; exact h97 _
      show rL (if i ≤ k then τ i else x).1 (if i ≤ k then τ i else x).2 _ _
      rw [if_pos (by omega)]
      by_cases e : i = k
      · subst e
        rw [show ((j + 1) % 9 + 9 - (i + 1) + i) % 9 = j by omega]
        exact hnew _ (fun c hc1 => by rw [hR c hc1, if_pos rfl])
      · exact hold i _ _ (by omega) (by omega) (by omega) (fun c hc1 => by rw [hR c hc1, if_neg e])
    · rw [em]
      intro i hi hd
      have hd2 : (τ i).2 = true := by
        have : (if i ≤ k then τ i else x).2 = true := hd
        rwa [if_pos (by omega)] at this
      show (if i + 1 ≤ k then τ (i + 1) else x) = (if i ≤ k then τ i else x)
      rw [if_pos (show i ≤ k by omega)]
      by_cases e : i = k
      · subst e; rw [if_neg (by omega)]; exact hx hd2
      · rw [if_pos (by omega)]; exact hc i (by omega) hd2
    · rw [em]; exact if_neg (by omega)
  · have hk8 : k = 8 := by omega
    subst hk8
    refine ⟨fun i => if i < 8 then τ (i + 1) else x, ?_, ?_, ?_⟩
    · show rH _ 8 _ _ _
      intro i hi
      have hR : ∀ c, c < 466 → rwR B2 97 (466 * i) c = if i = 7 then B 95 c else B 97 (466 * (i + 1) + c) := fun c hc1 => by
        show B2 97 (466 * i + c) = _
        rw [hB, jkpg_97 hk (by omega) hc1]
        by_cases e : i = 7
        · rw [if_pos (by omega), if_pos e]; exact h96 c hc1
        · rw [if_neg (by omega), if_pos rfl, if_neg e]; exact h97 _
      show rL (if i < 8 then τ (i + 1) else x).1 (if i < 8 then τ (i + 1) else x).2 _ _
      rw [if_pos hi]
      by_cases e : i = 7
      · subst e
        rw [show ((j + 1) % 9 + 9 - 8 + 7) % 9 = j by omega]
        exact hnew _ (fun c hc1 => by rw [hR c hc1, if_pos rfl])
      · exact hold (i + 1) _ _ (by omega) (by omega) (by omega) (fun c hc1 => by rw [hR c hc1, if_neg e])
    · show rCh _ 8
      intro i hi hd
      have hd : (τ (i + 1)).2 = true := by
        have : (if i < 8 then τ (i + 1) else x).2 = true := hd
        rwa [if_pos hi] at this
      show (if i + 1 < 8 then τ (i + 1 + 1) else x) = (if i < 8 then τ (i + 1) else x)
      rw [if_pos hi]
      by_cases e : i = 7
      · subst e; rw [if_neg (by omega)]; exact hx hd
      · rw [if_pos (by omega)]; exact hc (i + 1) (by omega) hd
    · show (if 8 < 8 then _ else x) = x
      exact if_neg (by omega)
end

section
/-! ===== changes of the league that stands: class and reference alike ===== -/
theorem rL_up {t : Nat} {dr : Bool} {C C2 : Nat → Nat → Int32} {R R2 : Nat → Int32} (h : rL t dr C R) (h0 : ∀ k, k = 0 ∨ k = 2 ∨ k = 3 ∨ k = 4 ∨ k = 5 ∨ k = 6 → C2 0 k = C 0 k) (h1 : ∀ i, i < 8 → C2 1 i = C 1 i) (h2 : ∀ i, i < 3 → C2 2 i = C 2 i) (hR : ∀ k, k < 18 → R2 k = R k) (hm : ∀ m, m < nn t dr → mtR t C R m → mtR t C2 R2 m) : rL t dr C2 R2 := by
  obtain ⟨a1, a2, a3, a4, a5, a6, a7, a8, ⟨w, b1, b2, b3, b4⟩, ⟨q, c1, c2, c3⟩, ⟨q2, d1, d2, d3⟩, ⟨c, e1, e2, e3, e4⟩, f⟩ := h
  exact ⟨a1, by rw [h0 0 (by omega)]; exact a2, by rw [hR 0 (by omega)]; exact a3, fun i hi => by rw [h1 i hi, hR (10 + i) (by omega)]; exact a4 i hi, a5, by rw [h0 2 (by omega)]; exact a6, by rw [hR 1 (by omega)]; exact a7, by rw [hR 9 (by omega)]; exact a8,
    ⟨w, b1, by rw [h0 3 (by omega)]; exact b2, by rw [hR 2 (by omega)]; exact b3, b4⟩, ⟨q, c1, by rw [h0 4 (by omega)]; exact c2, by rw [hR 3 (by omega)]; exact c3⟩, ⟨q2, d1, by rw [h0 5 (by omega)]; exact d2, by rw [hR 4 (by omega)]; exact d3⟩,
    ⟨c, e1, by rw [h0 6 (by omega)]; exact e2, by rw [hR 5 (by omega)]; exact e3, fun i hi => by rw [h2 i (by omega), hR (6 + i) (by omega)]; exact e4 i hi⟩, fun m hmn => hm m hmn (f m hmn)⟩
theorem jof_R {N : MM} {m w : Nat} : N 95 (18 + 8 * m + w) = jof N m w := rfl
/-- a meeting as cells 4, 5, 6 of the class and the reference's now have it -/
theorem mt_of {t : Nat} {X N : MM} {m : Nat} : mtR t (lgC X 1) (N 95) m ↔ (jof N m 0 = TB t m 0 ∧ jof N m 1 = TB t m 1 ∧ jof N m 3 = TB t m 3 ∧ X 4 m = jof N m 2 ∧
  (∃ w0 w1 : Nat, TB t m 3 = nI w0 ∧ jof N m 2 = nI w1 ∧ w0 ≤ w1 ∧ w1 < wT t ∧ jof N m 5 = if w0 = w1 then 0 else 1) ∧
  ((jof N m 4 = 1 ∧ ∃ g h : Nat, g ≤ 20 ∧ h ≤ 20 ∧ X 5 m = nI g ∧ jof N m 6 = nI g ∧ X 6 m = nI h ∧ jof N m 7 = nI h) ∨ (jof N m 4 = 0 ∧ X 5 m = -1 ∧ X 6 m = -1))) := Iff.rfl
theorem jsetg_nI {X : MM} {q : Nat} {u v : Int32} (hq : q < 56) : jsetg X 1 (nI q) u v = jm (jm X 5 q u) 6 q v := by
  unfold jsetg
  rw [jput_nI hq (by decide), jput_nI hq (by decide)]
theorem now_res {t q gu gv : Nat} {X N : MM} (h : rL t true (lgC X 1) (N 95)) (hq : q < nT t) (hu : gu ≤ 20) (hv : gv ≤ 20) : rL t true (lgC (jsetg X 1 (nI q) (nI gu) (nI gv)) 1) (gResS N q (nI gu) (nI gv) 95) := by
  have hn := nT_le h.1
  rw [jsetg_nI (by omega)]
  refine rL_up h (fun k _ => ?_) (fun i _ => ?_) (fun i _ => ?_) (fun k hk => ?_) (fun m hm hh => ?_)
  · show jm (jm X 5 q _) 6 q _ 1 k = X 1 k; rw [jm_n (by omega), jm_n (by omega)]
  · show jm (jm X 5 q _) 6 q _ 2 i = X 2 i; rw [jm_n (by omega), jm_n (by omega)]
  · show jm (jm X 5 q _) 6 q _ 3 i = X 3 i; rw [jm_n (by omega), jm_n (by omega)]
  · unfold gResS; rw [jsets_n (by omega), jsets_n (by omega), jsets_n (by omega)]
  · rw [mt_of] at hh ⊢
    obtain ⟨h1, h2, h3, h4, h5, h6⟩ := hh
    unfold gResS
    rw [jsets_of (w2 := 0) (by omega) (by omega) (by omega), jsets_of (w2 := 0) (by omega) (by omega) (by omega), jsets_of (w2 := 0) (by omega) (by omega) (by omega), jsets_of (w2 := 1) (by omega) (by omega) (by omega), jsets_of (w2 := 1) (by omega) (by omega) (by omega), jsets_of (w2 := 1) (by omega) (by omega) (by omega),
      jsets_of (w2 := 2) (by omega) (by omega) (by omega), jsets_of (w2 := 2) (by omega) (by omega) (by omega), jsets_of (w2 := 2) (by omega) (by omega) (by omega), jsets_of (w2 := 3) (by omega) (by omega) (by omega), jsets_of (w2 := 3) (by omega) (by omega) (by omega), jsets_of (w2 := 3) (by omega) (by omega) (by omega),
      jsets_of (w2 := 5) (by omega) (by omega) (by omega), jsets_of (w2 := 5) (by omega) (by omega) (by omega), jsets_of (w2 := 5) (by omega) (by omega) (by omega)]
    refine ⟨h1, h2, h3, by rw [jm_n (by omega), jm_n (by omega)]; exact h4, h5, ?_⟩
    by_cases e : m = q
    · subst e
      exact Or.inl ⟨by rw [jsets_of (by omega) (by omega) (by omega), jsets_of (by omega) (by omega) (by omega), jsets_s], gu, gv, hu, hv, by rw [jm_n (by omega), jm_s], by rw [jsets_of (by omega) (by omega) (by omega), jsets_s], by rw [jm_s], by rw [jsets_s]⟩
    · rw [jsets_of (w2 := 4) (by omega) (by omega) (by omega), jsets_of (w2 := 4) (by omega) (by omega) (by omega), jsets_of (w2 := 4) (by omega) (by omega) (by omega), jsets_of (w2 := 6) (by omega) (by omega) (by omega), jsets_of (w2 := 6) (by omega) (by omega) (by omega), jsets_of (w2 := 6) (by omega) (by omega) (by omega), jsets_of (w2 := 7) (by omega) (by omega) (by omega), jsets_of (w2 := 7) (by omega) (by omega) (by omega), jsets_of (w2 := 7) (by omega) (by omega) (by omega),
        jm_n (show ¬ (5 = 6 ∧ m = q) by omega), jm_n (show ¬ (5 = 5 ∧ m = q) by omega), jm_n (show ¬ (6 = 6 ∧ m = q) by omega), jm_n (show ¬ (6 = 5 ∧ m = q) by omega)]
      exact h6
theorem now_back {t q : Nat} {X N : MM} (h : rL t true (lgC X 1) (N 95)) (hq : q < nT t) : rL t true (lgC (jsetg X 1 (nI q) (-1) (-1)) 1) (gBackS N q 95) := by
  have hn := nT_le h.1
  rw [jsetg_nI (by omega)]
  refine rL_up h (fun k _ => ?_) (fun i _ => ?_) (fun i _ => ?_) (fun k hk => ?_) (fun m hm hh => ?_)
  · show jm (jm X 5 q _) 6 q _ 1 k = X 1 k; rw [jm_n (by omega), jm_n (by omega)]
  · show jm (jm X 5 q _) 6 q _ 2 i = X 2 i; rw [jm_n (by omega), jm_n (by omega)]
  · show jm (jm X 5 q _) 6 q _ 3 i = X 3 i; rw [jm_n (by omega), jm_n (by omega)]
  · unfold gBackS; rw [jsets_n (by omega), jsets_n (by omega), jsets_n (by omega)]
  · rw [mt_of] at hh ⊢
    obtain ⟨h1, h2, h3, h4, h5, h6⟩ := hh
    unfold gBackS
    rw [jsets_of (w2 := 0) (by omega) (by omega) (by omega), jsets_of (w2 := 0) (by omega) (by omega) (by omega), jsets_of (w2 := 0) (by omega) (by omega) (by omega), jsets_of (w2 := 1) (by omega) (by omega) (by omega), jsets_of (w2 := 1) (by omega) (by omega) (by omega), jsets_of (w2 := 1) (by omega) (by omega) (by omega),
      jsets_of (w2 := 2) (by omega) (by omega) (by omega), jsets_of (w2 := 2) (by omega) (by omega) (by omega), jsets_of (w2 := 2) (by omega) (by omega) (by omega), jsets_of (w2 := 3) (by omega) (by omega) (by omega), jsets_of (w2 := 3) (by omega) (by omega) (by omega), jsets_of (w2 := 3) (by omega) (by omega) (by omega),
      jsets_of (w2 := 5) (by omega) (by omega) (by omega), jsets_of (w2 := 5) (by omega) (by omega) (by omega), jsets_of (w2 := 5) (by omega) (by omega) (by omega)]
    refine ⟨h1, h2, h3, by rw [jm_n (by omega), jm_n (by omega)]; exact h4, h5, ?_⟩
    by_cases e : m = q
    · subst e
      exact Or.inr ⟨by rw [jsets_of (by omega) (by omega) (by omega), jsets_of (by omega) (by omega) (by omega), jsets_s], by rw [jm_n (by omega), jm_s], by rw [jm_s]⟩
    · rw [jsets_of (w2 := 4) (by omega) (by omega) (by omega), jsets_of (w2 := 4) (by omega) (by omega) (by omega), jsets_of (w2 := 4) (by omega) (by omega) (by omega), jsets_of (w2 := 6) (by omega) (by omega) (by omega), jsets_of (w2 := 6) (by omega) (by omega) (by omega), jsets_of (w2 := 6) (by omega) (by omega) (by omega), jsets_of (w2 := 7) (by omega) (by omega) (by omega), jsets_of (w2 := 7) (by omega) (by omega) (by omega), jsets_of (w2 := 7) (by omega) (by omega) (by omega),
        jm_n (show ¬ (5 = 6 ∧ m = q) by omega), jm_n (show ¬ (5 = 5 ∧ m = q) by omega), jm_n (show ¬ (6 = 6 ∧ m = q) by omega), jm_n (show ¬ (6 = 5 ∧ m = q) by omega)]
      exact h6
theorem now_put {t q w e : Nat} {X N : MM} (h : rL t true (lgC X 1) (N 95)) (hq : q < nT t) (hw : X 1 3 = nI w) (hw2 : N 95 2 = nI w) (he : 1 ≤ e) (hz : w + e < wT t) (h2 : jof N q 2 = nI w) : rL t true (lgC (jput 56 X 4 (nI q) (X 1 3 + nI e)) 1) (gPutS N q (nI e) 95) := by
  have hn := nT_le h.1
  have hw14 := wT_le h.1
  rw [jput_nI (by omega) (by decide), hw]
  unfold gPutS
  rw [hw2, nI_add]
  refine rL_up h (fun k _ => ?_) (fun i _ => ?_) (fun i _ => ?_) (fun k hk => ?_) (fun m hm hh => ?_)
  · show jm X 4 q _ 1 k = X 1 k; rw [jm_n (by omega)]
  · show jm X 4 q _ 2 i = X 2 i; rw [jm_n (by omega)]
  · show jm X 4 q _ 3 i = X 3 i; rw [jm_n (by omega)]
  · rw [jsets_n (by omega), jsets_n (by omega)]
  · rw [mt_of] at hh ⊢
    obtain ⟨h1, h3, h4, h5, ⟨w0, w1, k1, k2, k3, k4, k5⟩, h6⟩ := hh
    rw [jsets_of (w2 := 0) (by omega) (by omega) (by omega), jsets_of (w2 := 0) (by omega) (by omega) (by omega), jsets_of (w2 := 1) (by omega) (by omega) (by omega), jsets_of (w2 := 1) (by omega) (by omega) (by omega), jsets_of (w2 := 3) (by omega) (by omega) (by omega), jsets_of (w2 := 3) (by omega) (by omega) (by omega), jsets_of (w2 := 4) (by omega) (by omega) (by omega), jsets_of (w2 := 4) (by omega) (by omega) (by omega),
      jsets_of (w2 := 6) (by omega) (by omega) (by omega), jsets_of (w2 := 6) (by omega) (by omega) (by omega), jsets_of (w2 := 7) (by omega) (by omega) (by omega), jsets_of (w2 := 7) (by omega) (by omega) (by omega), jm_n (show ¬ (5 = 4 ∧ m = q) by omega), jm_n (show ¬ (6 = 4 ∧ m = q) by omega)]
    refine ⟨h1, h3, h4, ?_, ?_, h6⟩
    · by_cases e1 : m = q
      · subst e1; rw [jm_s, jsets_of (by omega) (by omega) (by omega), jsets_s]
      · rw [jm_n (by omega), jsets_of (by omega) (by omega) (by omega), jsets_of (by omega) (by omega) (by omega)]; exact h5
    · by_cases e1 : m = q
      · subst e1
        have e2 : w1 = w := (nI_eq (by omega) (by omega)).mp (k2.symm.trans h2)
        subst e2
        exact ⟨w0, w1 + e, k1, by rw [jsets_of (by omega) (by omega) (by omega), jsets_s], by omega, hz, by rw [jsets_s, if_neg (by omega)]⟩
      · rw [jsets_of (w2 := 2) (by omega) (by omega) (by omega), jsets_of (w2 := 2) (by omega) (by omega) (by omega), jsets_of (w2 := 5) (by omega) (by omega) (by omega), jsets_of (w2 := 5) (by omega) (by omega) (by omega)]
        exact ⟨w0, w1, k1, k2, k3, k4, k5⟩
theorem now_next {t w : Nat} {X N : MM} (h : rL t true (lgC X 1) (N 95)) (hw : X 1 3 = nI w) (hw2 : N 95 2 = nI w) (hz : w + 1 < wT t) : rL t true (lgC (jm X 1 3 (X 1 3 + 1)) 1) (jm N 95 2 (N 95 2 + 1) 95) := by
  obtain ⟨a1, a2, a3, a4, a5, a6, a7, a8, -, ⟨q, c1, c2, c3⟩, ⟨q2, d1, d2, d3⟩, ⟨c, e1, e2, e3, e4⟩, f⟩ := h
  have hA : ∀ i k, ¬ (i = 1 ∧ k = 3) → jm X 1 3 (X 1 3 + 1) i k = X i k := fun i k hh => jm_n hh
  have hB : ∀ k, k ≠ 2 → jm N 95 2 (N 95 2 + 1) 95 k = N 95 k := fun k hh => jm_n (by omega)
  refine ⟨a1, (hA 1 0 (by omega)).trans a2, (hB 0 (by omega)).trans a3, fun i hi => ?_, a5, (hA 1 2 (by omega)).trans a6, (hB 1 (by omega)).trans a7, (hB 9 (by omega)).trans a8, ⟨w + 1, ?_, ?_, ?_, fun _ => hz⟩, ⟨q, c1, (hA 1 4 (by omega)).trans c2, (hB 3 (by omega)).trans c3⟩, ⟨q2, d1, (hA 1 5 (by omega)).trans d2, (hB 4 (by omega)).trans d3⟩, ⟨c, e1, (hA 1 6 (by omega)).trans e2, (hB 5 (by omega)).trans e3, fun i hi => ?_⟩, fun m hm => ?_⟩
  · rw [hB (10 + i) (by omega)]; exact (hA 2 i (by omega)).trans (a4 i hi)
  · intro z; cases z
  · show jm X 1 3 (X 1 3 + 1) 1 3 = _; rw [jm_s, hw, nI_1]
  · show jm N 95 2 (N 95 2 + 1) 95 2 = _; rw [jm_s, hw2, nI_1]
  · show jm X 1 3 (X 1 3 + 1) 3 i = _ ∧ r04 (jm X 1 3 (X 1 3 + 1) 3 i)
    rw [hA 3 i (by omega), hB (6 + i) (by omega)]; exact e4 i hi
  · have hm := f m hm
    unfold mtR at hm ⊢
    rw [hB _ (by omega), hB _ (by omega), hB _ (by omega), hB _ (by omega), hB _ (by omega), hB _ (by omega), hB _ (by omega), hB _ (by omega)]
    show _ ∧ _ ∧ _ ∧ jm X 1 3 _ 4 m = _ ∧ _ ∧ ((_ ∧ ∃ g h : Nat, g ≤ 20 ∧ h ≤ 20 ∧ jm X 1 3 _ 5 m = nI g ∧ _ ∧ jm X 1 3 _ 6 m = nI h ∧ _) ∨ (_ ∧ jm X 1 3 _ 5 m = -1 ∧ jm X 1 3 _ 6 m = -1))
    rw [hA 4 m (by omega), hA 5 m (by omega), hA 6 m (by omega)]
    exact hm
/-- rules: what one more does on both sides -/
def rRu (X N : MM) (c : Nat) : Prop := X 1 6 = nI c ∧ N 95 5 = nI c ∧ ∀ i, i < c → X 3 i = N 95 (6 + i) ∧ r04 (X 3 i)
theorem r04_of {t : Int32} (h : ¬ t < -1 ∧ ¬ 4 < t) (h2 : ¬ t = -1) : r04 t ∧ ¬ t < 0 := by
  have h0 : ¬ t < 0 := by
    intro q
    rw [Int32.lt_iff_toInt_lt] at q
    have h1 := h.1
    rw [Int32.lt_iff_toInt_lt, show (-1 : Int32).toInt = -1 from rfl] at h1
    rw [Int32.toInt_zero] at q
    exact h2 (Int32.toInt_inj.mp (by rw [show (-1 : Int32).toInt = -1 from rfl]; omega))
  obtain ⟨j, hj, rfl⟩ := nI_of2 (M := 4) (n := 4) rfl h0 (Int32.not_lt.mp h.2)
  refine ⟨?_, h0⟩
  rcases (show j = 0 ∨ j = 1 ∨ j = 2 ∨ j = 3 ∨ j = 4 by omega) with rfl | rfl | rfl | rfl | rfl
  · exact Or.inl rfl
  · exact Or.inr (Or.inl rfl)
  · exact Or.inr (Or.inr (Or.inl rfl))
  · exact Or.inr (Or.inr (Or.inr (Or.inl rfl)))
  · exact Or.inr (Or.inr (Or.inr (Or.inr rfl)))
theorem rRu_s {X N : MM} {c i : Nat} {t : Int32} (h : rRu X N c) (hc : c ≤ i) (hi : i ≤ 2) (ht : ¬ t < -1 ∧ ¬ 4 < t) : ∃ c2, c2 ≤ i + 1 ∧ rRu (jaddr X 1 t) (jxr N t) c2 := by
  obtain ⟨h1, h2, h3⟩ := h
  by_cases e : t = -1
  · refine ⟨c, by omega, ?_⟩
    rw [jaddr, if_pos e, jxr, if_pos (by rw [e]; decide)]
    exact ⟨h1, h2, h3⟩
  · obtain ⟨hr, h0⟩ := r04_of ht e
    refine ⟨c + 1, by omega, ?_⟩
    rw [jaddr, if_neg e, jxr, if_neg h0, h1, h2, jput_nI (by omega) (by decide), nI_clamp (by omega)]
    refine ⟨by rw [jm_s, nI_1], by rw [jm_n (by omega), jm_s, nI_1], fun k hk => ?_⟩
    rw [jm_n (by omega)]
    by_cases ek : k = c
    · subst ek; rw [jm_s, jm_s]; exact ⟨rfl, hr⟩
    · rw [jm_n (by omega), jm_n (by omega), jm_n (by omega)]; exact h3 k (by omega)
theorem now_rules {T : Nat} {dr : Bool} {X N : MM} {t u v : Int32} (h : rL T dr (lgC X 1) (N 95)) (hr : rRules t u v = none) : rL T dr (lgC (jsetr X 1 t u v) 1) (jxR N t u v 95) ∧ jsetr X 1 t u v 1 6 = jxR N t u v 95 5 := by
  have hok : (¬ t < -1 ∧ ¬ 4 < t) ∧ (¬ u < -1 ∧ ¬ 4 < u) ∧ (¬ v < -1 ∧ ¬ 4 < v) := by
    unfold rRules at hr
    by_cases q : ¬ ((¬ t < -1 ∧ ¬ 4 < t) ∧ (¬ u < -1 ∧ ¬ 4 < u) ∧ (¬ v < -1 ∧ ¬ 4 < v))
    · rw [if_pos q] at hr; cases hr
    · exact Decidable.not_not.mp q
  have s0 : rRu (jm X 1 6 0) (jm N 95 5 0) 0 := ⟨jm_s, jm_s, fun i hi => absurd hi (Nat.not_lt_zero i)⟩
  obtain ⟨c1, k1, s1⟩ := rRu_s s0 (Nat.le_refl 0) (by omega) hok.1
  obtain ⟨c2, k2, s2⟩ := rRu_s s1 k1 (by omega) hok.2.1
  obtain ⟨c3, k3, s3⟩ := rRu_s s2 k2 (by omega) hok.2.2
  obtain ⟨e2, e3, e4⟩ := s3
  obtain ⟨a1, a2, a3, a4, a5, a6, a7, a8, ⟨w, b1, b2, b3, b4⟩, ⟨q, f1, f2, f3⟩, ⟨q2, d1, d2, d3⟩, -, f⟩ := h
  have hA1 : ∀ (Z : MM) (t : Int32) (i k : Nat), ¬ (i = 1 ∧ k = 6) → i ≠ 3 → jaddr Z 1 t i k = Z i k := fun Z t i k p1 p2 => by
    unfold jaddr
    split
    · rfl
    · rw [jm_n p1, m_put (by omega)]
  have hA : ∀ i k, ¬ (i = 1 ∧ k = 6) → i ≠ 3 → jsetr X 1 t u v i k = X i k := fun i k p1 p2 => by
    unfold jsetr
    rw [hA1 _ _ _ _ p1 p2, hA1 _ _ _ _ p1 p2, hA1 _ _ _ _ p1 p2, jm_n p1]
  have hB : ∀ k, k < 5 ∨ 8 < k → jxR N t u v 95 k = N 95 k := fun k p => jxR_n (by omega)
  refine ⟨⟨a1, (hA 1 0 (by omega) (by omega)).trans a2, (hB 0 (by omega)).trans a3, fun i hi => ?_, a5, (hA 1 2 (by omega) (by omega)).trans a6, (hB 1 (by omega)).trans a7, (hB 9 (by omega)).trans a8, ⟨w, b1, (hA 1 3 (by omega) (by omega)).trans b2, (hB 2 (by omega)).trans b3, b4⟩, ⟨q, f1, (hA 1 4 (by omega) (by omega)).trans f2, (hB 3 (by omega)).trans f3⟩, ⟨q2, d1, (hA 1 5 (by omega) (by omega)).trans d2, (hB 4 (by omega)).trans d3⟩, ⟨c3, by omega, e2, e3, e4⟩, fun m hm => ?_⟩, ?_⟩
  · rw [hB (10 + i) (by omega)]; exact (hA 2 i (by omega) (by omega)).trans (a4 i hi)
  · have hm := f m hm
    unfold mtR at hm ⊢
    rw [hB _ (by omega), hB _ (by omega), hB _ (by omega), hB _ (by omega), hB _ (by omega), hB _ (by omega), hB _ (by omega), hB _ (by omega)]
    show _ ∧ _ ∧ _ ∧ jsetr X 1 t u v 4 m = _ ∧ _ ∧ ((_ ∧ ∃ g h : Nat, g ≤ 20 ∧ h ≤ 20 ∧ jsetr X 1 t u v 5 m = nI g ∧ _ ∧ jsetr X 1 t u v 6 m = nI h ∧ _) ∨ (_ ∧ jsetr X 1 t u v 5 m = -1 ∧ jsetr X 1 t u v 6 m = -1))
    rw [hA 4 m (by omega) (by omega), hA 5 m (by omega) (by omega), hA 6 m (by omega) (by omega)]
    exact hm
  · exact e2.trans e3.symm
end

section
/-! ===== refusals and counts: class and reference alike ===== -/
theorem in_q1 {x : Int32} {n : Nat} (hn : n < 2 ^ 31) : (¬ x < 0 ∧ ¬ nI n ≤ x) ↔ ∃ q, q < n ∧ x = nI q := by
  constructor
  · intro h
    rcases pk_ix x hn with k | k | ⟨j, hj, rfl⟩
    · exact absurd k h.1
    · exact absurd k h.2
    · exact ⟨j, hj, rfl⟩
  · rintro ⟨q, h1, rfl⟩
    exact ⟨nI_pos (by omega), nI_ge h1 hn⟩
theorem in_q2 {x : Int32} {n : Nat} (hn : n ≤ 56) : (¬ x < 0 ∧ ¬ nI n - 1 < x) ↔ ∃ q, q < n ∧ x = nI q := by
  constructor
  · exact nI_q hn
  · rintro ⟨q, h1, rfl⟩
    refine ⟨nI_pos (by omega), ?_⟩
    obtain ⟨k, rfl⟩ : ∃ k, n = k + 1 := ⟨n - 1, by omega⟩
    rw [nI_pred]
    exact nI_nlt (by omega) (by omega)
section SAME
variable {t : Nat} {dr : Bool} {A B : MM}
theorem jmc_r (h : rL t dr (lgC A 1) (B 95)) (hf : dr = true → rFix t A) : jmc A = nI (nn t dr) := by
  obtain ⟨a1, a2, a3, a4, a5, a6, -⟩ := h
  have a6 : A 1 2 = (if dr = true then 1 else 0) := a6
  cases dr with
  | false => unfold jmc; rw [show A 1 2 = 0 from a6, if_pos rfl]; rfl
  | true => unfold jmc; rw [a6, if_neg (by decide)]; exact (hf rfl).2.1
theorem jwc_r (h : rL t dr (lgC A 1) (B 95)) (hf : dr = true → rFix t A) : jwc A = nI (zz t dr) := by
  obtain ⟨a1, a2, a3, a4, a5, a6, -⟩ := h
  have a6 : A 1 2 = (if dr = true then 1 else 0) := a6
  cases dr with
  | false => unfold jwc; rw [show A 1 2 = 0 from a6, if_pos rfl]; rfl
  | true => unfold jwc; rw [a6, if_neg (by decide)]; exact (hf rfl).1
theorem wT_pos (h : 2 ≤ t) : 2 ≤ wT t := by unfold wT gP; omega
theorem zz_0 (ht : t ≤ 8) (h2 : dr = true → 2 ≤ t) : (nI (zz t dr) = 0 ↔ dr = false) ∧ (¬ nI (zz t dr) ≤ 0 ↔ dr = true) := by
  have h14 := zz_le (dr := dr) ht
  cases dr with
  | false => exact ⟨⟨fun _ => rfl, fun _ => rfl⟩, ⟨fun h => absurd (show nI 0 ≤ 0 by decide) h, fun h => by cases h⟩⟩
  | true =>
    have := wT_pos (h2 rfl)
    have e : zz t true = wT t := rfl
    rw [e] at h14 ⊢
    exact ⟨⟨fun h => absurd h (nI_ne0 (by omega) (by omega)), fun h => by cases h⟩, ⟨fun _ => rfl, fun _ => nI_nle (by omega) (by omega)⟩⟩
theorem mt_q (h : rL t true (lgC A 1) (B 95)) {q : Nat} (hq : q < nT t) : ((¬ A 5 q = -1) ↔ jof B q 4 = 1) ∧ A 4 q = jof B q 2 := by
  have hm := mt_of.mp (h.2.2.2.2.2.2.2.2.2.2.2.2 q hq)
  obtain ⟨h1, h2, h3, h4, h5, h6⟩ := hm
  refine ⟨?_, h4⟩
  rcases h6 with ⟨k, g, h, g1, g2, g3, -⟩ | ⟨k, g3, -⟩
  · exact ⟨fun _ => k, fun _ => by rw [g3]; exact nI_nm1 (by omega)⟩
  · exact ⟨fun z => absurd g3 z, fun z => by rw [k] at z; exact absurd z (by decide)⟩
theorem wk_r (h : rL t dr (lgC A 1) (B 95)) : A 1 3 = B 95 2 := by
  obtain ⟨w, -, h1, h2, -⟩ := h.2.2.2.2.2.2.2.2.1
  exact (show A 1 3 = nI w from h1).trans h2.symm
theorem noM_r (h : rL t dr (lgC A 1) (B 95)) (hf : dr = true → rFix t A) {x : Int32} : (dr = false ∧ rNoM A x = some (5, 0) ∧ ∀ q, gNo B x q = some (5, 0)) ∨ (dr = true ∧ (¬ ∃ q, q < nT t ∧ x = nI q) ∧ rNoM A x = some (3, x) ∧ ∀ q, gNo B x q = some (3, x)) ∨ (dr = true ∧ ∃ q, q < nT t ∧ x = nI q ∧ rNoM A x = none ∧ ∀ z, gNo B x z = z) := by
  have hj := jmc_r h hf
  have hz := zz_0 h.1 h.2.2.2.2.1
  have b1 : B 95 1 = nI (zz t dr) := h.2.2.2.2.2.2.1
  have b9 : B 95 9 = nI (nn t dr) := h.2.2.2.2.2.2.2.1
  have a6 : A 1 2 = (if dr = true then 1 else 0) := h.2.2.2.2.2.1
  have hn := nn_le (dr := dr) h.1
  cases dr with
  | false =>
    refine Or.inl ⟨rfl, ?_, fun q => ?_⟩
    · unfold rNoM; rw [show A 1 2 = 0 from a6, if_pos rfl]
    · unfold gNo; rw [b1, if_pos (hz.1.mpr rfl)]
  | true =>
    have e : nn t true = nT t := rfl
    rw [e] at hj b9 hn
    have hA : ¬ A 1 2 = 0 := by rw [a6]; decide
    have hB : ¬ B 95 1 = 0 := by rw [b1]; exact fun q => by cases hz.1.mp q
    by_cases hx : ∃ q, q < nT t ∧ x = nI q
    · obtain ⟨q, h1, h2⟩ := hx
      refine Or.inr (Or.inr ⟨rfl, q, h1, h2, ?_, fun z => ?_⟩)
      · unfold rNoM; rw [if_neg hA, hj, if_neg (fun z => z ((in_q1 (by omega)).mpr ⟨q, h1, h2⟩))]
      · unfold gNo; rw [if_neg hB, b9, if_neg (fun z => z ((in_q2 hn).mpr ⟨q, h1, h2⟩))]
    · refine Or.inr (Or.inl ⟨rfl, hx, ?_, fun z => ?_⟩)
      · unfold rNoM; rw [if_neg hA, hj, if_pos (fun z => hx ((in_q1 (by omega)).mp z))]
      · unfold gNo; rw [if_neg hB, b9, if_pos (fun z => hx ((in_q2 hn).mp z))]
theorem res_r (h : rL t dr (lgC A 1) (B 95)) (hf : dr = true → rFix t A) {x u v : Int32} : rRes A x u v = gNo B x (gRes B x.toNatClampNeg u v) := by
  unfold rRes
  rcases noM_r h hf (x := x) with ⟨h1, h2, h3⟩ | ⟨h1, -, h2, h3⟩ | ⟨h1, q, hq, hx, h2, h3⟩
  · rw [h2, h3]
  · rw [h2, h3]
  · subst h1
    subst hx
    have hn := nT_le h.1
    obtain ⟨m1, m2⟩ := mt_q h hq
    rw [h2, h3, nI_clamp (by omega)]
    show (if _ then _ else if ¬ jat 56 (A 5) (nI q) = -1 then _ else rOth A (nI q)) = _
    unfold gRes rOth
    rw [jat_nI (by omega) (by decide), jat_nI (by omega) (by decide), m2, wk_r h]
    by_cases c1 : ¬ ((¬ u < 0 ∧ ¬ 20 < u) ∧ (¬ v < 0 ∧ ¬ 20 < v))
    · rw [if_pos c1, if_pos c1]
    · rw [if_neg c1, if_neg c1]
      by_cases c2 : ¬ A 5 q = -1
      · rw [if_pos c2, if_pos (m1.mp c2)]
      · rw [if_neg c2, if_neg (fun z => c2 (m1.mpr z))]
        by_cases c3 : jof B q 2 = B 95 2
        · rw [if_pos c3, if_neg (fun z => z c3)]
        · rw [if_neg c3, if_pos c3]
theorem kind_r (h : rL t true (lgC A 1) (B 95)) (hf : rFix t A) {q : Nat} (hq : q < nT t) : jkind A (nI q) = jhow B q := by
  have hn := nT_le h.1
  have hw := wT_le h.1
  obtain ⟨m1, m2⟩ := mt_q h hq
  have hm := mt_of.mp (h.2.2.2.2.2.2.2.2.2.2.2.2 q hq)
  obtain ⟨h1, h2, h3, h4, ⟨w0, w1, k1, k2, k3, k4, k5⟩, h6⟩ := hm
  unfold jkind jhow
  rw [jat_nI (by omega) (by decide), jat_nI (by omega) (by decide), jat_nI (by omega) (by decide)]
  by_cases c2 : ¬ A 5 q = -1
  · rw [if_pos c2, if_pos (m1.mp c2)]
  · rw [if_neg c2, if_neg (fun z => c2 (m1.mpr z)), k5, m2, k2, (hf.2.2.1 q hq).2.2, k1]
    by_cases e : w0 = w1
    · rw [if_pos (by rw [e]), if_pos e]; rfl
    · rw [if_neg (fun z => e ((nI_eq (by omega) (by omega)).mp z).symm), if_neg e]; rfl
theorem back_r (h : rL t dr (lgC A 1) (B 95)) (hf : dr = true → rFix t A) {x : Int32} : rBack A x = gNo B x (gBack B x.toNatClampNeg) := by
  unfold rBack
  rcases noM_r h hf (x := x) with ⟨h1, h2, h3⟩ | ⟨h1, -, h2, h3⟩ | ⟨h1, q, hq, hx, h2, h3⟩
  · rw [h2, h3]
  · rw [h2, h3]
  · subst h1
    subst hx
    have hn := nT_le h.1
    obtain ⟨m1, m2⟩ := mt_q h hq
    rw [h2, h3, nI_clamp (by omega)]
    show (if jat 56 (A 5) (nI q) = -1 then some (9, jkind A (nI q)) else rOth A (nI q)) = _
    unfold gBack rOth
    rw [jat_nI (by omega) (by decide), jat_nI (by omega) (by decide), m2, wk_r h, kind_r h (hf rfl) hq]
    by_cases c2 : A 5 q = -1
    · rw [if_pos c2, if_pos (show ¬ jof B q 4 = 1 from fun z => m1.mpr z c2)]
    · rw [if_neg c2, if_neg (show ¬ ¬ jof B q 4 = 1 from fun z => z (m1.mp c2))]
      by_cases c3 : jof B q 2 = B 95 2
      · rw [if_pos c3, if_neg (fun z => z c3)]
      · rw [if_neg c3, if_pos c3]
theorem isW_r (h : rL t dr (lgC A 1) (B 95)) (hf : dr = true → rFix t A) {x : Int32} : (¬ x < 0 ∧ ¬ jwc A ≤ x) ↔ (¬ x < 0 ∧ ¬ B 95 1 - 1 < x) := by
  have h14 := zz_le (dr := dr) h.1
  rw [jwc_r h hf, show B 95 1 = nI (zz t dr) from h.2.2.2.2.2.2.1, in_q1 (by omega), in_q2 (by omega)]
theorem le_9 {u : Int32} : (u < 1 ∨ ¬ u ≤ 9) ↔ ¬ (¬ u < 1 ∧ ¬ 9 < u) := by
  rw [Int32.not_le]
  constructor
  · rintro (h | h) ⟨h1, h2⟩
    · exact h1 h
    · exact h2 h
  · intro h
    by_cases c : u < 1
    · exact Or.inl c
    · exact Or.inr (Decidable.byContradiction fun z => h ⟨c, z⟩)
theorem put_r (h : rL t dr (lgC A 1) (B 95)) (hf : dr = true → rFix t A) {x u : Int32} : rPut A x u = gNo B x (gPut B x.toNatClampNeg u) := by
  unfold rPut
  rcases noM_r h hf (x := x) with ⟨h1, h2, h3⟩ | ⟨h1, -, h2, h3⟩ | ⟨h1, q, hq, hx, h2, h3⟩
  · rw [h2, h3]
  · rw [h2, h3]
  · subst h1
    subst hx
    have hn := nT_le h.1
    obtain ⟨m1, m2⟩ := mt_q h hq
    rw [h2, h3, nI_clamp (by omega)]
    show (if u < 1 ∨ ¬ u ≤ 9 then some (1, 0) else if ¬ jat 56 (A 5) (nI q) = -1 then some (8, 0) else match rOth A (nI q) with
    | some z => some z
    | none => if ¬ (¬ A 1 3 + u < 0 ∧ ¬ jwc A ≤ A 1 3 + u) then some (10, A 1 3 + u) else none) = _
    unfold gPut rOth
    rw [jat_nI (by omega) (by decide), jat_nI (by omega) (by decide), m2, wk_r h]
    have hw := isW_r h hf (x := B 95 2 + u)
    by_cases c1 : u < 1 ∨ ¬ u ≤ 9
    · rw [if_pos c1, if_pos (le_9.mp c1)]
    · rw [if_neg c1, if_neg (fun z => c1 (le_9.mpr z))]
      by_cases c2 : ¬ A 5 q = -1
      · rw [if_pos c2, if_pos (m1.mp c2)]
      · rw [if_neg c2, if_neg (fun z => c2 (m1.mpr z))]
        by_cases c3 : jof B q 2 = B 95 2
        · rw [if_pos c3, if_neg (show ¬ ¬ jof B q 2 = B 95 2 from fun z => z c3)]
          by_cases c4 : ¬ B 95 2 + u < 0 ∧ ¬ jwc A ≤ B 95 2 + u
          · rw [if_neg (show ¬ ¬ (¬ B 95 2 + u < 0 ∧ ¬ B 95 1 - 1 < B 95 2 + u) from fun z => z (hw.mp c4))]
            exact if_neg (show ¬ ¬ (¬ B 95 2 + u < 0 ∧ ¬ jwc A ≤ B 95 2 + u) from fun z => z c4)
          · rw [if_pos (show ¬ (¬ B 95 2 + u < 0 ∧ ¬ B 95 1 - 1 < B 95 2 + u) from fun z => c4 (hw.mpr z))]
            exact if_pos c4
        · rw [if_neg c3, if_pos c3]
theorem now_c (h : rL t dr (lgC A 1) (B 95)) {m : Nat} (hm : m < nn t dr) : fNow A m = gLeft B m := by
  unfold fNow gLeft
  cases dr with
  | false => exact absurd hm (Nat.not_lt_zero m)
  | true =>
    obtain ⟨m1, m2⟩ := mt_q h hm
    rw [m2, wk_r h]
    by_cases c : jof B m 2 = B 95 2 ∧ A 5 m = -1
    · rw [jb_t c, jb_t ⟨c.1, fun z => m1.mpr z c.2⟩]
    · rw [jb_f c, jb_f (fun z => c ⟨z.1, Decidable.byContradiction fun y => z.2 (m1.mp y)⟩)]
theorem left_r (h : rL t dr (lgC A 1) (B 95)) : jsum (fNow A) (nn t dr) = jsum (gLeft B) (nn t dr) := jsum_c fun m hm => now_c h hm
theorem next_r (h : rL t dr (lgC A 1) (B 95)) (hf : dr = true → rFix t A) : rNext A (nn t dr) = (if B 95 1 = 0 then some (5, 0) else gNext B (nn t dr)) := by
  have hz := zz_0 h.1 h.2.2.2.2.1
  have b1 : B 95 1 = nI (zz t dr) := h.2.2.2.2.2.2.1
  have a6 : A 1 2 = (if dr = true then 1 else 0) := h.2.2.2.2.2.1
  unfold rNext gNext
  cases dr with
  | false => rw [show A 1 2 = 0 from a6, if_pos rfl, b1, if_pos (hz.1.mpr rfl)]
  | true =>
    have h14 := wT_le h.1
    have h2 := wT_pos (h.2.2.2.2.1 rfl)
    obtain ⟨w, -, w1, w2, w3⟩ := h.2.2.2.2.2.2.2.2.1
    have w1 : A 1 3 = nI w := w1
    have w3 := w3 rfl
    have e : jfst (fNow A) (nn t true) = jfst (gLeft B) (nn t true) := jfst_c fun m hm => now_c h hm
    rw [if_neg (show ¬ A 1 2 = 0 by rw [a6]; decide), if_neg (show ¬ B 95 1 = 0 by rw [b1]; exact fun q => by cases hz.1.mp q), e, jwc_r h hf, b1, w1, w2, nI_1, show zz t true = wT t from rfl]
    have hnx : (¬ nI (w + 1) < 0 ∧ ¬ nI (wT t) ≤ nI (w + 1)) ↔ ¬ nI w = nI (wT t) - 1 := by
      obtain ⟨k, hk⟩ : ∃ k, wT t = k + 1 := ⟨wT t - 1, by omega⟩
      rw [hk, nI_pred, in_q1 (by omega), nI_eq (by omega) (by omega)]
      constructor
      · rintro ⟨q, q1, q2⟩
        have := (nI_eq (by omega) (by omega)).mp q2
        omega
      · intro hh
        exact ⟨w + 1, by omega, rfl⟩
    by_cases c1 : ¬ jfst (gLeft B) (nn t true) = -1
    · rw [if_pos c1, if_pos c1]
    · rw [if_neg c1, if_neg c1]
      by_cases c2 : nI w = nI (wT t) - 1
      · rw [if_pos c2]
        exact if_pos (fun z => hnx.mp z c2)
      · rw [if_neg c2]
        exact if_neg (fun z => z (hnx.mpr c2))
theorem home_r (h : rL t true (lgC A 1) (B 95)) {q : Nat} (hq : q < nT t) : ∃ i a : Nat, i < t ∧ a < t ∧ i ≠ a ∧ TB t q 0 = nI i ∧ TB t q 1 = nI a ∧ jof B q 0 = nI i ∧ jof B q 1 = nI a := by
  obtain ⟨i, a, w, h1, h2, h3, h4, h5, h6, -⟩ := TB_ok h.1 hq
  have hm := mt_of.mp (h.2.2.2.2.2.2.2.2.2.2.2.2 q hq)
  exact ⟨i, a, h1, h2, h3, h5, h6, hm.1.trans h5, hm.2.1.trans h6⟩
theorem hho_r (h : rL t dr (lgC A 1) (B 95)) : ∀ i, i < nn t dr → ∃ k, k < 8 ∧ jof B i 0 = nI k := fun i hi => by
  have ht := h.1
  cases dr with
  | false => exact absurd hi (Nat.not_lt_zero i)
  | true =>
    obtain ⟨k, a, h1, -, -, -, -, h2, -⟩ := home_r h hi
    exact ⟨k, by omega, h2⟩
theorem gr_r (h : rL t true (lgC A 1) (B 95)) (hf : rFix t A) {q : Nat} (hq : q < nT t) : jgr A (nI q) = gGr B q := by
  have hn := nT_le h.1
  have ht := h.1
  obtain ⟨k, a, h1, -, -, h2, -, h3, -⟩ := home_r h hq
  unfold jgr gGr
  rw [jat_nI (by omega) (by decide), (hf.2.2.1 q hq).1, h2, h3, jat_nI (by omega) (by decide), nI_clamp (by omega)]
  exact h.2.2.2.1 k (by omega)
theorem cl_r (h : rL t dr (lgC A 1) (B 95)) (hf : dr = true → rFix t A) {q : Nat} (hq : q < nn t dr) {w : Int32} : jsum (fCl A (nI q) w) (nn t dr) = jsum (gCl B q w) (nn t dr) := by
  refine jsum_c fun m hm => ?_
  have hn := nn_le (dr := dr) h.1
  unfold fCl gCl
  cases dr with
  | false => exact absurd hm (Nat.not_lt_zero m)
  | true =>
    rw [(mt_q h hm).2, gr_r h (hf rfl) hm, gr_r h (hf rfl) hq]
    by_cases c : ¬ m = q ∧ jof B m 2 = w ∧ gGr B m = gGr B q
    · rw [jb_t c, jb_t ⟨fun z => c.1 ((nI_eq (by omega) (by omega)).mp z), c.2⟩]
    · rw [jb_f c, jb_f (fun z => c ⟨fun y => z.1 (by rw [y]), z.2⟩)]
/-- how many are played -/
def fPl (A : MM) (m : Nat) : Int32 := if A 5 m = -1 then 0 else 1
theorem jt1_pl {M : MM} : ∀ n, jt1 M n 75 0 = jsum (fPl M) n
  | 0 => jclear_0
  | n + 1 => by
    rw [jt1, jsum, fPl]
    split
    · rw [jraise_n (by omega), jraise_n (by omega), jt1_pl n, Int32.add_zero]
    · rw [jpts_n (by omega)]
      unfold jap
      rw [jraise_n (by omega), jag_n (by omega), jag_n (by omega), jm_n (by omega), jm_n (by omega), jm_s, jt1_pl n]
theorem jcount_pl {M : MM} {n : Nat} : jcount M n 75 0 = jsum (fPl M) n := by
  unfold jcount
  rw [jt2_n (by omega), jt1_pl]
theorem pl_r (h : rL t dr (lgC A 1) (B 95)) : jsum (fPl A) (nn t dr) = jsum (fun m => jof B m 4) (nn t dr) := by
  refine jsum_c fun m hm => ?_
  cases dr with
  | false => exact absurd hm (Nat.not_lt_zero m)
  | true =>
    have hm1 := (mt_of.mp (h.2.2.2.2.2.2.2.2.2.2.2.2 m hm)).2.2.2.2.2
    unfold fPl
    rcases hm1 with ⟨k, g, i, g1, g2, g3, -⟩ | ⟨k, g3, -⟩
    · show _ = jof B m 4; rw [k, g3, if_neg (nI_nm1 (by omega))]
    · show _ = jof B m 4; rw [k, g3, if_pos rfl]
end SAME
end

section
/-! ===== what holds before and after every call ===== -/
def RelP (τ : Nat → Nat × Bool) (k j : Nat) (A B : MM) : Prop := j < 9 ∧ k ≤ 8 ∧ A 13 1 = nI j ∧ A 13 2 = nI k ∧ B 94 3 = nI k ∧ rL (τ k).1 (τ k).2 (lgC A 1) (B 95) ∧ rH τ k j A B ∧ rCh τ k ∧ ((τ k).2 = true → rFix (τ k).1 A) ∧ rSv A B ∧ rTx A B ∧ rRs A B
theorem Rel_P {A B : MM} : Rel A B ↔ ∃ τ k j, RelP τ k j A B := Iff.rfl
def hiE (M N : MM) : Prop := ∀ i k, 92 ≤ i → N i k = M i k
theorem hiE_0 {M : MM} : hiE M M := fun _ _ _ => rfl
theorem Rel_hi {A B B2 : MM} (h : Rel A B) (hB : hiE B B2) : Rel A B2 := Rel_c h (fun _ _ _ _ => rfl) (fun i k q => hB i k (by omega))
def SBp (b : SBt) (M : MM) : Prop := ∃ n c, sbI b M n ∧ n ≤ 202 ∧ M 92 3 = nI c ∧ c ≤ 40 ∧ c ≤ n
theorem SBp_c {b : SBt} {M N : MM} (h : SBp b M) (hN : ∀ i k, ¬ (i < 92 ∨ (93 < i ∧ i < 94)) → N i k = M i k) : SBp b N := by
  obtain ⟨n, c, h1, h2, h3, h4, h5⟩ := h
  exact ⟨n, c, sbI_c h1 hN, h2, by rw [hN 92 3 (by omega)]; exact h3, h4, h5⟩
def vK (r : Option FieldType) (v : Value) : Prop := (r = some .float ∧ ∃ w, v = .float w) ∨ (r = some .double ∧ ∃ w, v = .double w) ∨ ((r = some .int ∨ r = some .boolean ∨ r = some .char) ∧ ∃ w : Int32, v = .int w)
theorem vK_i {w : Int32} : vK (some .int) (.int w) := Or.inr (Or.inr ⟨Or.inl rfl, w, rfl⟩)
theorem vK_b {w : Int32} : vK (some .boolean) (.int w) := Or.inr (Or.inr ⟨Or.inr (Or.inl rfl), w, rfl⟩)
theorem vK_c {w : Int32} : vK (some .char) (.int w) := Or.inr (Or.inr ⟨Or.inr (Or.inr rfl), w, rfl⟩)
theorem vK_f {w : UInt32} : vK (some .float) (.float w) := Or.inl ⟨rfl, w, rfl⟩
theorem vK_d {w : UInt64} : vK (some .double) (.double w) := Or.inr (Or.inl ⟨rfl, w, rfl⟩)
theorem vK_int {r : Option FieldType} {v : Value} (h : vK r v) (h1 : r ≠ some .float) (h2 : r ≠ some .double) : ∃ w : Int32, v = .int w := by
  rcases h with ⟨h, -⟩ | ⟨h, -⟩ | ⟨-, h⟩
  · exact absurd h h1
  · exact absurd h h2
  · exact h
theorem vK_fl {v : Value} (h : vK (some .float) v) : ∃ w, v = .float w := by
  rcases h with ⟨-, h⟩ | ⟨h, -⟩ | ⟨h, -⟩
  · exact h
  · cases h
  · rcases h with h | h | h <;> cases h
theorem vK_db {v : Value} (h : vK (some .double) v) : ∃ w, v = .double w := by
  rcases h with ⟨h, -⟩ | ⟨-, h⟩ | ⟨h, -⟩
  · cases h
  · exact h
  · rcases h with h | h | h <;> cases h
theorem ConH.mono {d mc ms : Nat} {y : MethodName} {cc : ByteArray} {maxL : Nat} {ret : Option FieldType} {hh : List (Nat × Nat × Nat × Nat)} {as : List Value} {h : MH} {Q Q2 : MO → MH → Prop} (C : ConH d mc ms y cc maxL ret hh as h Q) (hQ : ∀ o k, Q o k → Q2 o k) : ConH d mc ms y cc maxL ret hh as h Q2 := by
  intro l D tyc ad sz hl hh0 ha p e hA hB hC s m args below hf happ hP hT
  obtain ⟨k, o, h1, h2, h3, h4⟩ := C l D tyc ad sz hl hh0 ha p e hA hB hC s m args below hf happ hP hT
  refine ⟨k, o, h1, h2, h3, ?_⟩
  rcases h4 with ⟨⟨v, k1, ad1, e1, e2, e3⟩, e4⟩ | ⟨q, e0, E, ce, Lc, ⟨k1, ad1, e2, e3⟩, e4⟩
  · exact Or.inl ⟨⟨v, k1, ad1, e1, hQ _ _ e2, e3⟩, e4⟩
  · exact Or.inr ⟨q, e0, E, ce, Lc, ⟨k1, ad1, hQ _ _ e2, e3⟩, e4⟩
theorem rSv_c {A A2 B B2 : MM} (h : rSv A B) (hA : ∀ i k, (i = 0 ∧ k = 2) ∨ (7 ≤ i ∧ i ≤ 12) → A2 i k = A i k) (hB : ∀ i k, (i = 94 ∧ k = 5) ∨ i = 98 → B2 i k = B i k) : rSv A2 B2 := by
  rcases h with ⟨s1, s2⟩ | ⟨s1, s2, t, dr, s3⟩
  · exact Or.inl ⟨(hA 0 2 (by omega)).trans s1, (hB 94 5 (by omega)).trans s2⟩
  · exact Or.inr ⟨(hA 0 2 (by omega)).trans s1, (hB 94 5 (by omega)).trans s2, t, dr, rL_cells s3 (fun i k _ _ => hA i k (by omega)) (fun k _ => hB 98 k (by omega))⟩
theorem rTx_c {A A2 B B2 : MM} (h : rTx A B) (hA : ∀ i k, (i = 86 ∧ k = 0) ∨ i = 87 → A2 i k = A i k) (hB : ∀ i k, (i = 94 ∧ k = 9) ∨ i = 100 → B2 i k = B i k) : rTx A2 B2 := by
  obtain ⟨n, t1, t2, t3, t4⟩ := h
  exact ⟨n, t1, (hA 86 0 (by omega)).trans t2, (hB 94 9 (by omega)).trans t3, fun i hi => by rw [hA 87 i (by omega), hB 100 i (by omega)]; exact t4 i hi⟩
theorem rRs_c {A A2 B B2 : MM} (h : rRs A B) (hA : ∀ k, k = 8 ∨ k = 9 ∨ k = 10 ∨ k = 11 ∨ k = 12 → A2 0 k = A 0 k) (hB : ∀ k, k = 7 ∨ k = 13 ∨ k = 14 ∨ k = 15 ∨ k = 17 → B2 94 k = B 94 k) : rRs A2 B2 := by
  obtain ⟨r1, r2, r3, r4, r5, q, r6, r7⟩ := h
  refine ⟨?_, ?_, ?_, ?_, ?_, q, r6, (hB 7 (by omega)).trans r7⟩
  · rw [hA 9 (by omega), hB 14 (by omega)]; exact r1
  · rw [hA 10 (by omega), hB 15 (by omega)]; exact r2
  · rw [hA 11 (by omega), hB 17 (by omega)]; exact r3
  · rw [hA 8 (by omega), hB 13 (by omega)]; exact r4
  · rw [hA 12 (by omega)]; exact r5
theorem Rel_x {A A2 B B2 : MM} (h : Rel A B) (hA : ∀ i k, i < 75 ∨ i = 86 ∨ i = 87 → ¬ (i = 86 ∧ (k = 1 ∨ k = 2)) → ¬ (i = 0 ∧ 8 ≤ k) → A2 i k = A i k) (hB : ∀ i k, (i = 94 ∧ (k = 3 ∨ k = 5 ∨ k = 9)) ∨ i = 95 ∨ i = 97 ∨ i = 98 ∨ i = 100 → B2 i k = B i k) (hr : rRs A2 B2) : Rel A2 B2 := by
  obtain ⟨τ, k, j, a1, a2, a3, a4, a5, a6, a7, a8, a9, a10, a11, -⟩ := h
  exact ⟨τ, k, j, a1, a2, (hA 13 1 (by omega) (by omega) (by omega)).trans a3, (hA 13 2 (by omega) (by omega) (by omega)).trans a4, (hB 94 3 (by omega)).trans a5, rL_cells a6 (fun i k _ _ => hA i k (by omega) (by omega) (by omega)) (fun k _ => hB 95 k (by omega)), fun i hi => rL_cells (a7 i hi) (fun i2 k _ _ => hA i2 k (by omega) (by omega) (by omega)) (fun k _ => hB 97 _ (by omega)), a8,
    fun hd => rFix_c (a9 hd) (fun i k _ _ => hA i k (by omega) (by omega) (by omega)), rSv_c a10 (fun i k q => hA i k (by omega) (by omega) (by omega)) (fun i k q => hB i k (by omega)), rTx_c a11 (fun i k q => hA i k (by omega) (by omega) (by omega)) (fun i k q => hB i k (by omega)), hr⟩
theorem rel_push {τ : Nat → Nat × Bool} {k j : Nat} {A B A2 N : MM} {x : Nat × Bool} (h : RelP τ k j A B) (hx : (τ k).2 = true → x = τ k) (hnow : rL x.1 x.2 (lgC A2 1) (N 95)) (hf : x.2 = true → rFix x.1 A2) (hA : ∀ i c, i = 0 ∨ (7 ≤ i ∧ i < 69) ∨ (i = 86 ∧ c = 0) ∨ i = 87 → A2 i c = jkeep A j k i c)
    (hN : ∀ i c, (i = 94 ∧ c ≠ 10 ∧ c ≠ 11 ∧ c ≠ 16 ∧ c ≠ 18 ∧ c ≠ 19) ∨ i = 97 ∨ i = 98 ∨ i = 100 → N i c = B i c) (h96 : ∀ c, c < 466 → N 96 c = B 95 c) : Rel A2 (jkpg N k) := by
  obtain ⟨a1, a2, a3, a4, a5, a6, a7, a8, a9, a10, a11, a12⟩ := h
  obtain ⟨τ2, q1, q2, q3⟩ := push_H (A2 := A2) (B2 := jkpg N k) (N := N) (x := x) a1 a2 a6 a7 a8 hx (fun i c h1 h2 => hA i c (by omega)) (fun c => rfl) h96 (fun c => hN 97 c (by omega))
  have hlow : ∀ i c, i = 0 ∨ (7 ≤ i ∧ i < 13) ∨ (i = 86 ∧ c = 0) ∨ i = 87 → A2 i c = A i c := fun i c hh => (hA i c (by omega)).trans (jkeep_old (by omega) (by omega))
  have hup : ∀ i c, (i = 94 ∧ c ≠ 3 ∧ c ≠ 10 ∧ c ≠ 11 ∧ c ≠ 16 ∧ c ≠ 18 ∧ c ≠ 19) ∨ i = 98 ∨ i = 100 → jkpg N k i c = B i c := fun i c hh => (jkpg_n (by omega) (by omega)).trans (hN i c (by omega))
  have e95 : jkpg N k 95 = N 95 := funext fun c => jkpg_n (by omega) (by omega)
  refine ⟨τ2, min (k + 1) 8, (j + 1) % 9, by omega, by omega, (hA 13 1 (by omega)).trans jkeep_13.1, (hA 13 2 (by omega)).trans jkeep_13.2, jkpg_3 a2, ?_, q1, q2, ?_, rSv_c a10 (fun i c q => hlow i c (by omega)) (fun i c q => hup i c (by omega)), rTx_c a11 (fun i c q => hlow i c (by omega)) (fun i c q => hup i c (by omega)), rRs_c a12 (fun c q => hlow 0 c (by omega)) (fun c q => hup 94 c (by omega))⟩
  · rw [q3, e95]; exact hnow
  · rw [q3]; exact hf
theorem jtr_at {N : MM} {i c : Nat} (h : i ≠ 96) (h2 : ¬ (i = 94 ∧ (c = 16 ∨ c = 19))) : jtr N i c = N i c := by
  unfold jtr
  rw [jcp_n h, jm_n (by omega), jm_n (by omega)]
theorem jtr_95 {N : MM} : jtr N 95 = N 95 := funext fun c => jtr_at (by omega) (by omega)
theorem jtr_96 {N : MM} {c : Nat} (h : c < 466) : jtr N 96 c = N 95 c := by
  unfold jtr
  rw [show c = 0 + c by omega, jcp_at h, Nat.zero_add, jm_n (by omega), jm_n (by omega)]
theorem jtr_16 {N : MM} : jtr N 94 16 = 0 := by
  unfold jtr
  rw [jcp_n (by omega), jm_s]
theorem rel_ref {A B : MM} {r z : Int32} (h : Rel A B) : Rel (jref A r z) (jrai (jrefu (jtr B) r z) 1) := by
  have hr : rRs A B := by
    obtain ⟨τ, k, j, -, -, -, -, -, -, -, -, -, -, -, hr⟩ := h
    exact hr
  refine Rel_x h (fun i k q _ q2 => ?_) (fun i k q => ?_) ?_
  · unfold jref; rw [jm_n (by omega), jm_n (by omega), jm_n (by omega)]
  · unfold jrai jrefu; rw [jm_n (by omega), jm_n (by omega), jm_n (by omega), jm_n (by omega), jtr_at (by omega) (by omega)]
  · obtain ⟨r1, r2, r3, r4, r5, q, r6, r7⟩ := hr
    unfold jref jrai jrefu
    refine ⟨?_, ?_, ?_, ?_, ?_, q, r6, ?_⟩
    · rw [jm_n (by omega), jm_n (by omega), jm_s, jm_n (by omega), jm_n (by omega), jm_n (by omega), jm_s]
    · rw [jm_n (by omega), jm_s, jm_n (by omega), jm_n (by omega), jm_s]
    · rw [jm_s, jm_n (by omega), jm_s, r5, jtr_16]
    · rw [jm_n (by omega), jm_n (by omega), jm_n (by omega), jm_n (by omega), jm_n (by omega), jm_n (by omega), jm_n (by omega), jtr_at (by omega) (by omega)]; exact r4
    · rw [jm_n (by omega), jm_n (by omega), jm_n (by omega)]; exact r5
    · rw [jm_n (by omega), jm_n (by omega), jm_n (by omega), jm_n (by omega), jtr_at (by omega) (by omega)]; exact r7
theorem hi_ref {M : MM} {r z : Int32} : hiE M (jref M r z) := fun i k q => by
  unfold jref; rw [jm_n (by omega), jm_n (by omega), jm_n (by omega)]
theorem rel_19 {A B : MM} {v : Int32} (h : Rel A B) : Rel A (jm B 94 19 v) := Rel_c h (fun _ _ _ _ => rfl) (fun i k q => jm_n (by omega))
theorem rel_19t {A B : MM} {v w : Int32} (h : Rel A B) : Rel A (jrai (jm B 94 19 v) w) := by
  unfold jrai
  exact rel_19 (rel_19 h)
theorem rel_count {A B : MM} {n : Nat} (h : Rel A B) : Rel (jcount A n) B := Rel_c h (fun i k q _ => jcount_n (by omega)) (fun _ _ _ => rfl)
theorem hi_count {M : MM} {n : Nat} : hiE M (jcount M n) := fun i k q => jcount_n (by omega)
theorem hi_keep {M : MM} {j k : Nat} (hj : j < 9) : hiE M (jkeep M j k) := fun i c q => jkeep_old (by omega) (by omega)
theorem hi_jm {M N : MM} {a k : Nat} {v : Int32} (h : hiE M N) (ha : a < 92) : hiE M (jm N a k v) := fun i c q => by
  rw [jm_n (by omega)]; exact h i c q
theorem hi_put {M N : MM} {n a : Nat} {t v : Int32} (h : hiE M N) (ha : a < 92) : hiE M (jput n N a t v) := fun i c q => by
  rw [m_put (by omega)]; exact h i c q
theorem hi_t {M N K : MM} (h : hiE M N) (h2 : hiE N K) : hiE M K := fun i c q => (h2 i c q).trans (h i c q)
theorem hi_lg {M N : MM} {a g : Nat} (h : hiE M N) (hg : g + 5 < 92) : hiE M (jlg N a g) := fun i c q => by
  rw [jlg_n (by omega)]; exact h i c q
theorem RelP.now {τ : Nat → Nat × Bool} {k j : Nat} {A B : MM} (h : RelP τ k j A B) : rL (τ k).1 (τ k).2 (lgC A 1) (B 95) := h.2.2.2.2.2.1
theorem RelP.fix {τ : Nat → Nat × Bool} {k j : Nat} {A B : MM} (h : RelP τ k j A B) : (τ k).2 = true → rFix (τ k).1 A := h.2.2.2.2.2.2.2.2.1
theorem RelP.hi {τ : Nat → Nat × Bool} {k j : Nat} {A B B2 : MM} (h : RelP τ k j A B) (hB : hiE B B2) : RelP τ k j A B2 := by
  obtain ⟨a1, a2, a3, a4, a5, a6, a7, a8, a9, a10, a11, a12⟩ := h
  exact ⟨a1, a2, a3, a4, (hB 94 3 (by omega)).trans a5, rL_cells a6 (fun _ _ _ _ => rfl) (fun k _ => hB 95 k (by omega)), fun i hi => rL_cells (a7 i hi) (fun _ _ _ _ => rfl) (fun k _ => hB 97 _ (by omega)), a8, a9, rSv_c a10 (fun _ _ _ => rfl) (fun i c q => hB i c (by omega)), rTx_c a11 (fun _ _ _ => rfl) (fun i c q => hB i c (by omega)), rRs_c a12 (fun _ _ => rfl) (fun c q => hB 94 c (by omega))⟩
theorem rL_z {t : Nat} {dr : Bool} {A : MM} {a : Nat} {R : Nat → Int32} (h : rL t dr (lgC A a) R) : A a 2 = 0 ∨ A a 2 = 1 := by
  have h2 : A a 2 = if dr = true then 1 else 0 := h.2.2.2.2.2.1
  cases dr with
  | false => exact Or.inl h2
  | true => exact Or.inr h2
end

section
/-! ===== the tally is the reference's sums ===== -/
def fV (w z : Int32) (k : Nat) (x y e : Int32) : Int32 := if k = 1 then (if ¬ x ≤ y then w else if x = y then z else 0) else if k = 2 then jb (¬ x ≤ y) else if k = 3 then jb (x = y) else if k = 4 then jb (¬ y ≤ x) else if k = 5 then x else if k = 6 then y else if k = 7 then e else 0
theorem m1_bit : ∀ a : Nat, a < 8 → ¬ ((-1 : Int32) >>> (nI a &&& 31)) &&& 1 = 0 := by decide +kernel
theorem has_h {B : MM} {m h a k : Nat} (h0 : jof B m 0 = nI h) (h1 : jof B m 1 = nI a) (ha : a < 8) : fHas B (nI h) k (-1) m = if ¬ jof B m 4 = 1 then (if k = 8 then 1 else 0) else fV (B 95 3) (B 95 4) k (jof B m 6) (jof B m 7) 0 := by
  unfold fHas fV
  rw [if_neg (fun z => z.1 h0)]
  simp only [if_pos h0]
  rw [h1, if_neg (m1_bit a ha)]
theorem has_a {B : MM} {m h a k : Nat} (h0 : jof B m 0 = nI h) (h1 : jof B m 1 = nI a) (hh : h < 8) (ha : a < 8) (hne : h ≠ a) : fHas B (nI a) k (-1) m = if ¬ jof B m 4 = 1 then (if k = 8 then 1 else 0) else fV (B 95 3) (B 95 4) k (jof B m 7) (jof B m 6) (jof B m 7) := by
  have hn : ¬ jof B m 0 = nI a := by rw [h0]; exact fun z => hne ((nI_eq (by omega) (by omega)).mp z)
  unfold fHas fV
  rw [if_neg (fun z => z.2 h1)]
  simp only [if_neg hn]
  rw [h0, if_neg (m1_bit h hh)]
theorem has_0 {B : MM} {m h a k q : Nat} (h0 : jof B m 0 = nI h) (h1 : jof B m 1 = nI a) (hh : h < 8) (ha : a < 8) (hq : q < 8) (n1 : q ≠ h) (n2 : q ≠ a) : fHas B (nI q) k (-1) m = 0 := by
  unfold fHas
  rw [if_pos ⟨by rw [h0]; exact fun z => n1 ((nI_eq (by omega) (by omega)).mp z).symm, by rw [h1]; exact fun z => n2 ((nI_eq (by omega) (by omega)).mp z).symm⟩]
theorem raise_at {X : MM} {i h q : Nat} {v : Int32} (hh : h < 8) : jraise X i (nI h) v i q = if q = h then X i q + v else X i q := by
  unfold jraise
  rw [jput_nI hh (by decide), nI_clamp (by omega)]
  by_cases e : q = h
  · subst e; rw [jm_s, if_pos rfl]
  · rw [jm_n (by omega), if_neg e]
theorem ag_77 {X : MM} {h q : Nat} {u v : Int32} (hh : h < 8) : jag X (nI h) u v 77 q = if q = h then X 77 q + jb (¬ u ≤ v) else X 77 q := by
  unfold jag; rw [jraise_n (by omega), jraise_n (by omega), raise_at hh, jraise_n (by omega), jraise_n (by omega)]
theorem ag_78 {X : MM} {h q : Nat} {u v : Int32} (hh : h < 8) : jag X (nI h) u v 78 q = if q = h then X 78 q + jb (u = v) else X 78 q := by
  unfold jag; rw [jraise_n (by omega), raise_at hh, jraise_n (by omega), jraise_n (by omega), jraise_n (by omega)]
theorem ag_79 {X : MM} {h q : Nat} {u v : Int32} (hh : h < 8) : jag X (nI h) u v 79 q = if q = h then X 79 q + jb (¬ v ≤ u) else X 79 q := by
  unfold jag; rw [raise_at hh, jraise_n (by omega), jraise_n (by omega), jraise_n (by omega), jraise_n (by omega)]
theorem ag_80 {X : MM} {h q : Nat} {u v : Int32} (hh : h < 8) : jag X (nI h) u v 80 q = if q = h then X 80 q + u else X 80 q := by
  unfold jag; rw [jraise_n (by omega), jraise_n (by omega), jraise_n (by omega), jraise_n (by omega), raise_at hh]
theorem ag_81 {X : MM} {h q : Nat} {u v : Int32} (hh : h < 8) : jag X (nI h) u v 81 q = if q = h then X 81 q + v else X 81 q := by
  unfold jag; rw [jraise_n (by omega), jraise_n (by omega), jraise_n (by omega), raise_at hh, jraise_n (by omega)]
theorem if_ha {h a q : Nat} {S x y : Int32} (hne : h ≠ a) : (if q = a then (if q = h then S + x else S) + y else if q = h then S + x else S) = S + (if q = h then x else if q = a then y else 0) := by
  by_cases e : q = h
  · subst e; rw [if_neg hne, if_pos rfl, if_pos rfl]
  · by_cases e2 : q = a
    · subst e2; rw [if_pos rfl, if_neg e, if_neg e, if_pos rfl]
    · rw [if_neg e2, if_neg e, if_neg e, if_neg e2, Int32.add_zero]
theorem nI_sub0 {g g2 : Nat} (h : g ≤ 20) (h2 : g2 ≤ 20) : (nI g - nI g2 = 0 ↔ g = g2) ∧ (nI g - nI g2 ≤ 0 ↔ g ≤ g2) := by
  have key : ∀ g, g < 21 → ∀ g2, g2 < 21 → (nI g - nI g2 = 0 ↔ g = g2) ∧ (nI g - nI g2 ≤ 0 ↔ g ≤ g2) := by decide +kernel
  exact key g (by omega) g2 (by omega)
theorem tl_y {M : MM} {m h a g g2 k q : Nat} (hh : h < 8) (ha : a < 8) (hne : h ≠ a) (h70 : M 70 m = nI h) (h71 : M 71 m = nI a) (h5 : M 5 m = nI g) (h6 : M 6 m = nI g2) (hg : g ≤ 20) (hg2 : g2 ≤ 20) (hk : 1 ≤ k) (hk8 : k ≤ 8) :
    jt1 M (m + 1) (75 + k) q = jt1 M m (75 + k) q + (if q = h then fV (M 1 4) (M 1 5) k (nI g) (nI g2) 0 else if q = a then fV (M 1 4) (M 1 5) k (nI g2) (nI g) (nI g2) else 0) := by
  rw [jt1, if_neg (by rw [h5]; exact nI_nm1 (by omega)), h70, h71, h5, h6]
  have le1 : nI g ≤ nI g2 ↔ g ≤ g2 := by rw [Int32.le_iff_toInt_le, nI_toInt (by omega), nI_toInt (by omega)]; omega
  have le2 : nI g2 ≤ nI g ↔ g2 ≤ g := by rw [Int32.le_iff_toInt_le, nI_toInt (by omega), nI_toInt (by omega)]; omega
  have eq1 : nI g = nI g2 ↔ g = g2 := nI_eq (by omega) (by omega)
  have eq2 : nI g2 = nI g ↔ g2 = g := nI_eq (by omega) (by omega)
  rcases (show k = 1 ∨ k = 2 ∨ k = 3 ∨ k = 4 ∨ k = 5 ∨ k = 6 ∨ k = 7 ∨ k = 8 by omega) with rfl | rfl | rfl | rfl | rfl | rfl | rfl | rfl
  · show jpts _ 76 _ _ _ _ _ _ 76 q = jt1 M m 76 q + _
    unfold jpts fV
    rw [if_pos rfl, if_pos rfl]
    by_cases e : g = g2
    · have e1 : (if ¬ nI g ≤ nI g2 then M 1 4 else if nI g = nI g2 then M 1 5 else 0) = M 1 5 := by rw [if_neg (fun z => z (le1.mpr (by omega))), if_pos (eq1.mpr e)]
      have e2 : (if ¬ nI g2 ≤ nI g then M 1 4 else if nI g2 = nI g then M 1 5 else 0) = M 1 5 := by rw [if_neg (fun z => z (le2.mpr (by omega))), if_pos (eq2.mpr e.symm)]
      rw [e1, e2, if_pos ((nI_sub0 hg hg2).1.mpr e), raise_at ha, raise_at hh, jap_n (by omega), if_ha hne]
    · rw [if_neg (fun z => e ((nI_sub0 hg hg2).1.mp z))]
      by_cases c : g ≤ g2
      · have e1 : (if ¬ nI g ≤ nI g2 then M 1 4 else if nI g = nI g2 then M 1 5 else 0) = 0 := by rw [if_neg (fun z => z (le1.mpr c)), if_neg (fun z => e (eq1.mp z))]
        have e2 : (if ¬ nI g2 ≤ nI g then M 1 4 else if nI g2 = nI g then M 1 5 else 0) = M 1 4 := if_pos (fun z => by have := le2.mp z; omega)
        rw [e1, e2, if_pos ((nI_sub0 hg hg2).2.mpr c), raise_at ha, jap_n (by omega)]
        by_cases c1 : q = h
        · subst c1; rw [if_neg hne, if_pos rfl, Int32.add_zero]
        · rw [if_neg c1]
          by_cases c2 : q = a
          · rw [if_pos c2, if_pos c2]
          · rw [if_neg c2, if_neg c2, Int32.add_zero]
      · have e1 : (if ¬ nI g ≤ nI g2 then M 1 4 else if nI g = nI g2 then M 1 5 else 0) = M 1 4 := if_pos (fun z => c (le1.mp z))
        have e2 : (if ¬ nI g2 ≤ nI g then M 1 4 else if nI g2 = nI g then M 1 5 else 0) = 0 := by rw [if_neg (fun z => z (le2.mpr (by omega))), if_neg (fun z => e (eq2.mp z).symm)]
        rw [e1, e2, if_neg (fun z => c ((nI_sub0 hg hg2).2.mp z)), raise_at hh, jap_n (by omega)]
        by_cases c1 : q = h
        · rw [if_pos c1, if_pos c1]
        · rw [if_neg c1, if_neg c1]
          by_cases c2 : q = a
          · rw [if_pos c2, Int32.add_zero]
          · rw [if_neg c2, Int32.add_zero]
  · show jpts _ 76 _ _ _ _ _ _ 77 q = jt1 M m 77 q + _
    rw [jpts_n (by omega)]; unfold jap; rw [jraise_n (by omega), ag_77 ha, ag_77 hh, jm_n (by omega), jm_n (by omega), jm_n (by omega), if_ha hne]; rfl
  · show jpts _ 76 _ _ _ _ _ _ 78 q = jt1 M m 78 q + _
    rw [jpts_n (by omega)]; unfold jap; rw [jraise_n (by omega), ag_78 ha, ag_78 hh, jm_n (by omega), jm_n (by omega), jm_n (by omega), if_ha hne]; rfl
  · show jpts _ 76 _ _ _ _ _ _ 79 q = jt1 M m 79 q + _
    rw [jpts_n (by omega)]; unfold jap; rw [jraise_n (by omega), ag_79 ha, ag_79 hh, jm_n (by omega), jm_n (by omega), jm_n (by omega), if_ha hne]; rfl
  · show jpts _ 76 _ _ _ _ _ _ 80 q = jt1 M m 80 q + _
    rw [jpts_n (by omega)]; unfold jap; rw [jraise_n (by omega), ag_80 ha, ag_80 hh, jm_n (by omega), jm_n (by omega), jm_n (by omega), if_ha hne]; rfl
  · show jpts _ 76 _ _ _ _ _ _ 81 q = jt1 M m 81 q + _
    rw [jpts_n (by omega)]; unfold jap; rw [jraise_n (by omega), ag_81 ha, ag_81 hh, jm_n (by omega), jm_n (by omega), jm_n (by omega), if_ha hne]; rfl
  · show jpts _ 76 _ _ _ _ _ _ 82 q = jt1 M m 82 q + _
    rw [jpts_n (by omega)]; unfold jap; rw [raise_at ha, jag_n (by omega), jag_n (by omega), jm_n (by omega), jm_n (by omega), jm_n (by omega)]
    show _ = jt1 M m 82 q + (if q = h then 0 else if q = a then nI g2 else 0)
    by_cases c1 : q = h
    · subst c1; rw [if_neg hne, if_pos rfl, Int32.add_zero]
    · rw [if_neg c1]
      by_cases c2 : q = a
      · rw [if_pos c2, if_pos c2]
      · rw [if_neg c2, if_neg c2, Int32.add_zero]
  · show jpts _ 76 _ _ _ _ _ _ 83 q = jt1 M m 83 q + (if q = h then 0 else if q = a then 0 else 0)
    rw [jpts_n (by omega), jap_n (by omega)]
    by_cases c1 : q = h
    · rw [if_pos c1, Int32.add_zero]
    · by_cases c2 : q = a
      · rw [if_neg c1, if_pos c2, Int32.add_zero]
      · rw [if_neg c1, if_neg c2, Int32.add_zero]
theorem tl_n {M : MM} {m h a k q : Nat} (hh : h < 8) (ha : a < 8) (hne : h ≠ a) (h70 : M 70 m = nI h) (h71 : M 71 m = nI a) (h5 : M 5 m = -1) (hk : 1 ≤ k) (hk8 : k ≤ 8) :
    jt1 M (m + 1) (75 + k) q = jt1 M m (75 + k) q + (if q = h then (if k = 8 then 1 else 0) else if q = a then (if k = 8 then 1 else 0) else 0) := by
  rw [jt1, if_pos h5, h70, h71]
  by_cases e : k = 8
  · subst e
    show jraise (jraise (jt1 M m) 83 (nI h) 1) 83 (nI a) 1 83 q = jt1 M m 83 q + _
    rw [raise_at ha, raise_at hh, if_ha hne]; rfl
  · rw [jraise_n (by omega), jraise_n (by omega), if_neg e]
    by_cases c1 : q = h
    · rw [if_pos c1, Int32.add_zero]
    · by_cases c2 : q = a
      · rw [if_neg c1, if_pos c2, Int32.add_zero]
      · rw [if_neg c1, if_neg c2, Int32.add_zero]
theorem jclear_r {M : MM} {i q : Nat} (hi : 76 ≤ i ∧ i ≤ 84) (hq : q < 8) : jclear M i q = 0 := by
  rcases (show i = 76 ∨ i = 77 ∨ i = 78 ∨ i = 79 ∨ i = 80 ∨ i = 81 ∨ i = 82 ∨ i = 83 ∨ i = 84 by omega) with rfl | rfl | rfl | rfl | rfl | rfl | rfl | rfl | rfl <;> simp [jclear, jfill, hq]
theorem tl_sum {t : Nat} {A B : MM} (hL : rL t true (lgC A 1) (B 95)) (hF : rFix t A) {k q : Nat} (hk : 1 ≤ k) (hk8 : k ≤ 8) (hq : q < 8) : ∀ m, m ≤ nT t → jt1 A m (75 + k) q = jsum (fHas B (nI q) k (-1)) m
  | 0, _ => jclear_r (by omega) hq
  | m + 1, hm => by
    have ih := tl_sum hL hF hk hk8 hq m (by omega)
    obtain ⟨h, a, h1, h2, h3, h4, h5, h6, h7⟩ := home_r hL (show m < nT t by omega)
    obtain ⟨f1, f2, -⟩ := hF.2.2.1 m (by omega)
    have ht := hL.1
    have g4 : A 1 4 = B 95 3 := by
      obtain ⟨z, -, z1, z2⟩ := hL.2.2.2.2.2.2.2.2.2.1
      exact (show A 1 4 = nI z from z1).trans z2.symm
    have g5 : A 1 5 = B 95 4 := by
      obtain ⟨z, -, z1, z2⟩ := hL.2.2.2.2.2.2.2.2.2.2.1
      exact (show A 1 5 = nI z from z1).trans z2.symm
    rw [jsum, ← ih]
    rcases (mt_of.mp (hL.2.2.2.2.2.2.2.2.2.2.2.2 m (show m < nn t true from hm))).2.2.2.2.2 with ⟨p, g, g2, p1, p2, p3, p4, p5, p6⟩ | ⟨p, p3, p4⟩
    · rw [tl_y (by omega) (by omega) h3 (f1.trans h4) (f2.trans h5) p3 p5 p1 p2 hk hk8]
      congr 1
      by_cases e : q = h
      · subst e; rw [if_pos rfl, has_h h6 h7 (by omega), if_neg (fun z => z p), g4, g5, p4, p6]
      · by_cases e2 : q = a
        · subst e2; rw [if_neg e, if_pos rfl, has_a h6 h7 (by omega) (by omega) h3, if_neg (fun z => z p), g4, g5, p4, p6]
        · rw [if_neg e, if_neg e2, has_0 h6 h7 (by omega) (by omega) hq e e2]
    · have p' : ¬ jof B m 4 = 1 := by rw [p]; decide
      rw [tl_n (by omega) (by omega) h3 (f1.trans h4) (f2.trans h5) p3 hk hk8]
      congr 1
      by_cases e : q = h
      · subst e; rw [if_pos rfl, has_h h6 h7 (by omega), if_pos p']
      · by_cases e2 : q = a
        · subst e2; rw [if_neg e, if_pos rfl, has_a h6 h7 (by omega) (by omega) h3, if_pos p']
        · rw [if_neg e, if_neg e2, has_0 h6 h7 (by omega) (by omega) hq e e2]
/-- the tally after a count, whether drawn or not -/
theorem tally_r {t : Nat} {dr : Bool} {A B : MM} (hL : rL t dr (lgC A 1) (B 95)) (hF : dr = true → rFix t A) {k q : Nat} (hk : 1 ≤ k) (hk8 : k ≤ 8) (hq : q < 8) : jcount A (nn t dr) (75 + k) q = gH B (nn t dr) (nI q) k := by
  unfold jcount gH
  rw [jt2_n (by omega)]
  cases dr with
  | false => exact jclear_r (by omega) hq
  | true => exact tl_sum hL (hF rfl) hk hk8 hq _ (Nat.le_refl _)
theorem fV_le {w z : Nat} {g g2 k : Nat} (hw : w ≤ 20) (hz : z ≤ 20) (hg : g ≤ 20) (hg2 : g2 ≤ 20) {e : Int32} (he : e = 0 ∨ e = nI g) : ∃ v, v ≤ 20 ∧ fV (nI w) (nI z) k (nI g) (nI g2) e = nI v := by
  have hj : ∀ (p : Prop) [Decidable p], ∃ v, v ≤ 20 ∧ jb p = nI v := fun p _ => by
    by_cases c : p
    · exact ⟨1, by omega, jb_t c⟩
    · exact ⟨0, by omega, jb_f c⟩
  unfold fV
  split
  · split
    · exact ⟨w, hw, rfl⟩
    · split
      · exact ⟨z, hz, rfl⟩
      · exact ⟨0, by omega, rfl⟩
  · split
    · exact hj _
    · split
      · exact hj _
      · split
        · exact hj _
        · split
          · exact ⟨g, hg, rfl⟩
          · split
            · exact ⟨g2, hg2, rfl⟩
            · split
              · rcases he with rfl | rfl
                · exact ⟨0, by omega, rfl⟩
                · exact ⟨g, hg, rfl⟩
              · exact ⟨0, by omega, rfl⟩
theorem has_le {t : Nat} {A B : MM} (hL : rL t true (lgC A 1) (B 95)) {k q m : Nat} (hq : q < 8) (hm : m < nT t) : ∃ v, v ≤ 20 ∧ fHas B (nI q) k (-1) m = nI v := by
  have ht := hL.1
  obtain ⟨h, a, h1, h2, h3, h4, h5, h6, h7⟩ := home_r hL hm
  obtain ⟨w, w1, -, w2⟩ := hL.2.2.2.2.2.2.2.2.2.1
  obtain ⟨z, z1, -, z2⟩ := hL.2.2.2.2.2.2.2.2.2.2.1
  have h8 : ∃ v, v ≤ 20 ∧ (if k = 8 then (1 : Int32) else 0) = nI v := by
    split
    · exact ⟨1, by omega, rfl⟩
    · exact ⟨0, by omega, rfl⟩
  rcases (mt_of.mp (hL.2.2.2.2.2.2.2.2.2.2.2.2 m (show m < nn t true from hm))).2.2.2.2.2 with ⟨p, g, g2, p1, p2, p3, p4, p5, p6⟩ | ⟨p, p3, p4⟩
  · by_cases e : q = h
    · subst e; rw [has_h h6 h7 (by omega), if_neg (fun z => z p), w2, z2, p4, p6]; exact fV_le (by omega) (by omega) p1 p2 (Or.inl rfl)
    · by_cases e2 : q = a
      · subst e2; rw [has_a h6 h7 (by omega) (by omega) h3, if_neg (fun z => z p), w2, z2, p4, p6]; exact fV_le (by omega) (by omega) p2 p1 (Or.inr rfl)
      · rw [has_0 h6 h7 (by omega) (by omega) hq e e2]; exact ⟨0, by omega, rfl⟩
  · have p' : ¬ jof B m 4 = 1 := by rw [p]; decide
    by_cases e : q = h
    · subst e; rw [has_h h6 h7 (by omega), if_pos p']; exact h8
    · by_cases e2 : q = a
      · subst e2; rw [has_a h6 h7 (by omega) (by omega) h3, if_pos p']; exact h8
      · rw [has_0 h6 h7 (by omega) (by omega) hq e e2]; exact ⟨0, by omega, rfl⟩
theorem jsum_le {f : Nat → Int32} : ∀ n, (∀ m, m < n → ∃ v, v ≤ 20 ∧ f m = nI v) → ∃ v, v ≤ 20 * n ∧ jsum f n = nI v
  | 0, _ => ⟨0, by omega, rfl⟩
  | n + 1, h => by
    obtain ⟨v, h1, h2⟩ := jsum_le n (fun m hm => h m (by omega))
    obtain ⟨w, h3, h4⟩ := h n (by omega)
    exact ⟨v + w, by omega, by rw [jsum, h2, h4, nI_add]⟩
theorem gH_le {t : Nat} {dr : Bool} {A B : MM} (hL : rL t dr (lgC A 1) (B 95)) {k q : Nat} (hq : q < 8) : ∃ v, v < 10000 ∧ gH B (nn t dr) (nI q) k = nI v := by
  have hn := nn_le (dr := dr) hL.1
  unfold gH
  obtain ⟨v, h1, h2⟩ := jsum_le (f := fHas B (nI q) k (-1)) (nn t dr) (fun m hm => by
    cases dr with
    | false => exact absurd hm (Nat.not_lt_zero m)
    | true => exact has_le hL hq hm)
  exact ⟨v, by omega, h2⟩
end
