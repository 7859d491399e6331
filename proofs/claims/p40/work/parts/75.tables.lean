/-! ===== the meetings of a number of teams: both sides draw the same ===== -/
def wT (t : Nat) : Nat := 2 * (gP t - 1)
def nT (t : Nat) : Nat := gbase t (wT t)
/-- home, away, week of the m-th meeting of t teams: as the reference lays them -/
def TB (t m k : Nat) : Int32 := jof (gdw (fun _ _ => 0) t (wT t)) m k
theorem nT_le {t : Nat} (ht : t ≤ 8) : nT t ≤ 56 := by
  unfold nT
  cases h : wT t with
  | zero => exact Nat.zero_le _
  | succ w =>
    have h1 := gin_le (t := t) (w := w) (j := t) ht (by unfold wT at h; omega) ht
    rw [gbase]
    exact h1
theorem wT_le {t : Nat} (ht : t ≤ 8) : wT t ≤ 14 := by unfold wT gP; omega
theorem gbase_mono {t : Nat} : ∀ {w w2 : Nat}, w ≤ w2 → gbase t w ≤ gbase t w2
  | w, 0, h => by rw [show w = 0 by omega]; exact Nat.le_refl _
  | w, w2 + 1, h => by
    by_cases e : w = w2 + 1
    · rw [e]; exact Nat.le_refl _
    · exact Nat.le_trans (gbase_mono (w2 := w2) (by omega)) (Nat.le_add_right _ _)
theorem gz_of {N : MM} {c m k : Nat} (hk : k < 8) (h : m ≠ c) : ∀ i, i ≤ 8 → jof (gz N c i) m k = jof N m k
  | 0, _ => rfl
  | i + 1, hi => by rw [gz, jsets_of (by omega) (by omega) hk]; exact gz_of hk h i (by omega)
theorem gz_at {N : MM} {c k : Nat} : ∀ i, i ≤ 8 → k < i → jof (gz N c i) c k = 0
  | 0, _, h => absurd h (Nat.not_lt_zero k)
  | i + 1, hi, h => by
    rw [gz]
    by_cases e : k = i
    · subst e; exact jsets_s
    · rw [jsets_of (by omega) (by omega) (by omega)]; exact gz_at i (by omega) (by omega)
theorem gadd_of {N : MM} {c t w j m k : Nat} (hk : k < 8) (h : m ≠ c) : jof (gadd N c t w j) m k = jof N m k := by
  unfold gadd
  rw [jsets_of (by omega) (by omega) hk, jsets_of (by omega) (by omega) hk, jsets_of (by omega) (by omega) hk, jsets_of (by omega) (by omega) hk, gz_of hk h 8 (Nat.le_refl _)]
  unfold jof
  rw [jm_n (by omega)]
theorem gadd_0 {N : MM} {c t w j : Nat} : jof (gadd N c t w j) c 0 = nI j := by
  unfold gadd
  rw [jsets_of (by omega) (by omega) (by omega), jsets_of (by omega) (by omega) (by omega), jsets_of (by omega) (by omega) (by omega), jsets_s]
theorem gadd_1 {N : MM} {c t w j : Nat} : jof (gadd N c t w j) c 1 = gother t w j := by
  unfold gadd
  rw [jsets_of (by omega) (by omega) (by omega), jsets_of (by omega) (by omega) (by omega), jsets_s]
theorem gadd_2 {N : MM} {c t w j : Nat} : jof (gadd N c t w j) c 2 = nI w := by
  unfold gadd
  rw [jsets_of (by omega) (by omega) (by omega), jsets_s]
theorem gadd_3 {N : MM} {c t w j : Nat} : jof (gadd N c t w j) c 3 = nI w := by unfold gadd; rw [jsets_s]
theorem gadd_4 {N : MM} {c t w j k : Nat} (h : 4 ≤ k) (hk : k < 8) : jof (gadd N c t w j) c k = 0 := by
  unfold gadd
  rw [jsets_of (by omega) (by omega) hk, jsets_of (by omega) (by omega) hk, jsets_of (by omega) (by omega) hk, jsets_of (by omega) (by omega) hk]
  exact gz_at 8 (Nat.le_refl _) hk
theorem gadd_c {N N2 : MM} {c t w j m k : Nat} (hk : k < 8) (h : m ≠ c → jof N m k = jof N2 m k) : jof (gadd N c t w j) m k = jof (gadd N2 c t w j) m k := by
  by_cases e : m = c
  · subst e
    rcases (show k = 0 ∨ k = 1 ∨ k = 2 ∨ k = 3 ∨ 4 ≤ k by omega) with rfl | rfl | rfl | rfl | h4
    · rw [gadd_0, gadd_0]
    · rw [gadd_1, gadd_1]
    · rw [gadd_2, gadd_2]
    · rw [gadd_3, gadd_3]
    · rw [gadd_4 h4 hk, gadd_4 h4 hk]
  · rw [gadd_of hk e, gadd_of hk e]; exact h e
theorem gdj_c {N N2 : MM} {t w k : Nat} (hk : k < 8) (h : ∀ m, m < gbase t w → jof N m k = jof N2 m k) : ∀ j m, m < gbase t w + gin t w j → jof (gdj N t w j) m k = jof (gdj N2 t w j) m k
  | 0, m, hm => h m hm
  | j + 1, m, hm => by
    rw [gdj, gdj]
    rw [gin] at hm
    split
    · rw [if_pos (by assumption)] at hm
      exact gadd_c hk (fun e => gdj_c hk h j m (by omega))
    · rw [if_neg (by assumption)] at hm
      exact gdj_c hk h j m hm
theorem gdw_c {N N2 : MM} {t k : Nat} (hk : k < 8) : ∀ w m, m < gbase t w → jof (gdw N t w) m k = jof (gdw N2 t w) m k
  | 0, m, h => absurd h (Nat.not_lt_zero m)
  | w + 1, m, h => gdj_c hk (gdw_c hk w) t m h
theorem gdw_TB {N : MM} {t m k : Nat} (hk : k < 8) (hm : m < nT t) : jof (gdw N t (wT t)) m k = TB t m k := gdw_c hk (wT t) m hm
/-- what holds of each meeting as it is laid -/
def okM (t : Nat) (f : Nat → Int32) : Prop := ∃ h a w : Nat, h < t ∧ a < t ∧ h ≠ a ∧ w < wT t ∧ f 0 = nI h ∧ f 1 = nI a ∧ f 2 = nI w ∧ f 3 = nI w ∧ f 4 = 0 ∧ f 5 = 0 ∧ f 6 = 0 ∧ f 7 = 0
theorem gcond_all : ((List.range 9).all fun t => (List.range (wT t)).all fun w => (List.range t).all fun j => !gcondb t w j || (List.range t).any fun a => decide (gother t w j = nI a) && !(a == j)) = true := by decide +kernel
theorem gcond_ok {t w j : Nat} (ht : t ≤ 8) (hw : w < wT t) (hj : j < t) (h : gcondb t w j = true) : ∃ a, a < t ∧ a ≠ j ∧ gother t w j = nI a := by
  have h1 := List.all_eq_true.mp (List.all_eq_true.mp (List.all_eq_true.mp gcond_all t (List.mem_range.mpr (by omega))) w (List.mem_range.mpr hw)) j (List.mem_range.mpr hj)
  rw [h, Bool.not_true, Bool.false_or] at h1
  obtain ⟨a, h2, h3⟩ := List.any_eq_true.mp h1
  rw [Bool.and_eq_true, decide_eq_true_eq, Bool.not_eq_true', beq_eq_false_iff_ne] at h3
  exact ⟨a, List.mem_range.mp h2, h3.2, h3.1⟩
theorem gdj_ok {N : MM} {t w : Nat} (ht : t ≤ 8) (hw : w < wT t) (h : ∀ m, m < gbase t w → okM t (jof N m)) : ∀ j, j ≤ t → ∀ m, m < gbase t w + gin t w j → okM t (jof (gdj N t w j) m)
  | 0, _, m, hm => h m hm
  | j + 1, hj, m, hm => by
    rw [gdj]
    rw [gin] at hm
    split
    · rename_i hc
      rw [if_pos hc] at hm
      by_cases e : m = gbase t w + gin t w j
      · subst e
        obtain ⟨a, h1, h2, h3⟩ := gcond_ok ht hw (by omega) hc
        exact ⟨j, a, w, by omega, h1, fun q => h2 q.symm, hw, gadd_0, gadd_1.trans h3, gadd_2, gadd_3, gadd_4 (by omega) (by omega), gadd_4 (by omega) (by omega), gadd_4 (by omega) (by omega), gadd_4 (by omega) (by omega)⟩
      · obtain ⟨h1, a, w1, q⟩ := gdj_ok ht hw h j (by omega) m (by omega)
        refine ⟨h1, a, w1, ?_⟩
        simp only [gadd_of (show 0 < 8 by omega) e, gadd_of (show 1 < 8 by omega) e, gadd_of (show 2 < 8 by omega) e, gadd_of (show 3 < 8 by omega) e, gadd_of (show 4 < 8 by omega) e, gadd_of (show 5 < 8 by omega) e, gadd_of (show 6 < 8 by omega) e, gadd_of (show 7 < 8 by omega) e]
        exact q
    · rename_i hc
      rw [if_neg hc] at hm
      exact gdj_ok ht hw h j (by omega) m hm
theorem gdw_ok {N : MM} {t : Nat} (ht : t ≤ 8) : ∀ w, w ≤ wT t → ∀ m, m < gbase t w → okM t (jof (gdw N t w) m)
  | 0, _, m, h => absurd h (Nat.not_lt_zero m)
  | w + 1, hw, m, h => gdj_ok ht (by omega) (gdw_ok ht w (by omega)) t (Nat.le_refl _) m h
theorem TB_ok {t m : Nat} (ht : t ≤ 8) (hm : m < nT t) : okM t (TB t m) := gdw_ok ht (wT t) (Nat.le_refl _) m hm
/-! the class -/
theorem jput_c {n i k : Nat} {X X2 : MM} {u v : Int32} (h : X i k = X2 i k) : jput n X i u v i k = jput n X2 i u v i k := by
  unfold jput
  split
  · exact h
  · by_cases e : k = u.toNatClampNeg
    · subst e; rw [jm_s, jm_s]
    · rw [jm_n (by omega), jm_n (by omega)]; exact h
theorem jhost_c {X X2 : MM} {u v z : Int32} {k : Nat} (h : X 74 k = X2 74 k) : jhost X u v z 74 k = jhost X2 u v z 74 k := by
  unfold jhost
  split <;> exact jput_c h
theorem jpl_c {r q : Nat} {z : Int32} {X X2 : MM} {k : Nat} (h : X 74 k = X2 74 k) : ∀ n, jpl r q z X n 74 k = jpl r q z X2 n 74 k
  | 0 => jhost_c h
  | n + 1 => jhost_c (jpl_c h n)
/-- the guest of a team in a week, as the class pairs them -/
def cgu (t w j : Nat) : Int32 := jpl (jrd (gP t - 1) w) (gP t - 1) (if w < gP t - 1 then 0 else 1) (fun _ _ => -1) ((gP t - 1) / 2) 74 j
theorem cgu_all : ((List.range 9).all fun t => decide (t < 2) || (List.range (wT t)).all fun w => (List.range t).all fun j => (gcondb t w j && decide (cgu t w j = gother t w j)) || (!gcondb t w j && (decide (cgu t w j = -1) || decide (nI t ≤ cgu t w j)))) = true := by decide +kernel
theorem cgu_y {t w j : Nat} (h2 : 2 ≤ t) (ht : t ≤ 8) (hw : w < wT t) (hj : j < t) (h : gcondb t w j = true) : cgu t w j = gother t w j ∧ ¬ cgu t w j = -1 ∧ ¬ nI t ≤ cgu t w j := by
  have h0 := List.all_eq_true.mp cgu_all t (List.mem_range.mpr (by omega))
  rw [decide_eq_false (by omega), Bool.false_or] at h0
  have h1 := List.all_eq_true.mp (List.all_eq_true.mp h0 w (List.mem_range.mpr hw)) j (List.mem_range.mpr hj)
  rw [h, Bool.true_and, Bool.not_true, Bool.false_and, Bool.or_false, decide_eq_true_eq] at h1
  obtain ⟨a, k1, k2, k3⟩ := gcond_ok ht hw hj h
  refine ⟨h1, ?_, ?_⟩
  · rw [h1, k3]; exact nI_nm1 (by omega)
  · rw [h1, k3]; exact nI_ge k1 (by omega)
theorem cgu_n {t w j : Nat} (h2 : 2 ≤ t) (ht : t ≤ 8) (hw : w < wT t) (hj : j < t) (h : ¬ gcondb t w j = true) : cgu t w j = -1 ∨ nI t ≤ cgu t w j := by
  have h0 := List.all_eq_true.mp cgu_all t (List.mem_range.mpr (by omega))
  rw [decide_eq_false (by omega), Bool.false_or] at h0
  have h1 := List.all_eq_true.mp (List.all_eq_true.mp h0 w (List.mem_range.mpr hw)) j (List.mem_range.mpr hj)
  rw [Bool.not_eq_true] at h
  rw [h, Bool.false_and, Bool.false_or, Bool.not_false, Bool.true_and, Bool.or_eq_true, decide_eq_true_eq, decide_eq_true_eq] at h1
  exact h1
/-- the class's rows and the reference's: the same below c -/
def rFx (X Y : MM) (c : Nat) : Prop := ∀ m, m < c → X 70 m = jof Y m 0 ∧ X 71 m = jof Y m 1 ∧ X 72 m = jof Y m 2
theorem jaw_rel {t w : Nat} {X Y : MM} (h2 : 2 ≤ t) (ht : t ≤ 8) (hw : w < wT t) (hg : ∀ j, j < t → X 74 j = cgu t w j) (h9 : X 69 1 = nI (gbase t w)) (hr : rFx X Y (gbase t w)) : ∀ j, j ≤ t → jaw w t X j 69 1 = nI (gbase t w + gin t w j) ∧ rFx (jaw w t X j) (gdj Y t w j) (gbase t w + gin t w j)
  | 0, _ => ⟨h9, hr⟩
  | j + 1, hj => by
    obtain ⟨i1, i2⟩ := jaw_rel h2 ht hw hg h9 hr j (by omega)
    have hG : jaw w t X j 74 j = cgu t w j := (jaw_n (by omega) j).trans (hg j (by omega))
    rw [jaw, gdj, gin, hG]
    by_cases hc : gcondb t w j = true
    · obtain ⟨c1, c2, c3⟩ := cgu_y h2 ht hw (by omega) hc
      have hb := gin_le (t := t) (w := w) (j := j + 1) ht hw (by omega)
      rw [gin, if_pos hc] at hb
      rw [if_neg c2, if_neg c3, if_pos hc, if_pos hc, i1, jput_nI (by omega) (by decide), jput_nI (by omega) (by decide), jput_nI (by omega) (by decide)]
      refine ⟨by rw [jm_s, nI_1]; rfl, fun m hm => ?_⟩
      by_cases e : m = gbase t w + gin t w j
      · subst e
        refine ⟨?_, ?_, ?_⟩
        · rw [jm_n (by omega), jm_n (by omega), jm_n (by omega), jm_s, gadd_0]
        · rw [jm_n (by omega), jm_n (by omega), jm_s, gadd_1, c1]
        · rw [jm_n (by omega), jm_s, gadd_2]
      · rw [jm_n (by omega), jm_n (by omega), jm_n (by omega), jm_n (by omega), jm_n (by omega), jm_n (by omega), jm_n (by omega), jm_n (by omega), jm_n (by omega), jm_n (by omega), jm_n (by omega), jm_n (by omega), gadd_of (by omega) e, gadd_of (by omega) e, gadd_of (by omega) e]
        exact i2 m (by omega)
    · rw [if_neg hc, if_neg hc]
      rcases cgu_n h2 ht hw (by omega) hc with k | k
      · rw [if_pos k]; exact ⟨i1, i2⟩
      · rw [if_pos k]
        split <;> exact ⟨i1, i2⟩
theorem jly_rel {t : Nat} {X Y : MM} (h2 : 2 ≤ t) (ht : t ≤ 8) : ∀ w, w ≤ wT t → jly t (gP t - 1) X w 69 1 = nI (gbase t w) ∧ rFx (jly t (gP t - 1) X w) (gdw Y t w) (gbase t w)
  | 0, _ => ⟨by rw [jly, jm_s]; rfl, fun m hm => absurd hm (Nat.not_lt_zero m)⟩
  | w + 1, hw => by
    obtain ⟨i1, i2⟩ := jly_rel (X := X) (Y := Y) h2 ht w (by omega)
    rw [jly, gdw]
    refine jaw_rel h2 ht (by omega) (fun j hj => ?_) ?_ (fun m hm => ?_) t (Nat.le_refl _)
    · rw [m_put (by omega)]
      refine jpl_c ?_ _
      show (if 74 = 74 ∧ j < 8 then _ else _) = _
      rw [if_pos ⟨rfl, by omega⟩]
    · rw [m_put (by omega), jpl_n (by omega), jfill_n (by omega)]; exact i1
    · rw [m_put (by omega), m_put (by omega), m_put (by omega), jpl_n (by omega), jpl_n (by omega), jpl_n (by omega), jfill_n (by omega), jfill_n (by omega), jfill_n (by omega)]
      exact i2 m hm
/-- the bye of a week -/
def bye (t w : Nat) : Int32 := if gP t - 1 = t then nI (jrd (gP t - 1) w) else -1
theorem jly_bye {t : Nat} {X : MM} (ht : t ≤ 8) : ∀ w, w ≤ wT t → ∀ i, i < w → jly t (gP t - 1) X w 73 i = bye t i
  | 0, _, i, h => absurd h (Nat.not_lt_zero i)
  | w + 1, hw, i, h => by
    have h14 := wT_le ht
    rw [jly, jaw_n (by omega), jput_nI (by omega) (by decide)]
    by_cases e : i = w
    · subst e; rw [jm_s]; rfl
    · rw [jm_n (by omega), jpl_n (by omega), jfill_n (by omega)]
      exact jly_bye ht w (by omega) i (by omega)
/-- the class's fixtures are those of t teams -/
def rFix (t : Nat) (A : MM) : Prop := A 69 0 = nI (wT t) ∧ A 69 1 = nI (nT t) ∧ (∀ m, m < nT t → A 70 m = TB t m 0 ∧ A 71 m = TB t m 1 ∧ A 72 m = TB t m 3) ∧ ∀ w, w < wT t → A 73 w = bye t w
theorem TB_23 {t m : Nat} (ht : t ≤ 8) (hm : m < nT t) : TB t m 2 = TB t m 3 := by
  obtain ⟨h, a, w, -, -, -, -, -, -, h2, h3, -⟩ := TB_ok ht hm
  rw [h2, h3]
theorem jly_fix {t : Nat} {X : MM} (h2 : 2 ≤ t) (ht : t ≤ 8) : rFix t (jly t (gP t - 1) X (wT t)) := by
  obtain ⟨i1, i2⟩ := jly_rel (X := X) (Y := fun _ _ => 0) h2 ht (wT t) (Nat.le_refl _)
  refine ⟨jly_w _, i1, fun m hm => ?_, fun w hw => jly_bye ht _ (Nat.le_refl _) w hw⟩
  obtain ⟨k1, k2, k3⟩ := i2 m hm
  exact ⟨k1, k2, k3.trans (TB_23 ht hm)⟩
theorem gP_q {t q : Nat} (hl : (t % 2 = 0 ∧ q + 1 = t) ∨ (t % 2 = 1 ∧ q = t)) : q = gP t - 1 := by unfold gP; omega
