/-! ===== what the changes leave as it was ===== -/
theorem m_ref {M : MM} {r t : Int32} {i k : Nat} (h : 94 ≤ i) : jref M r t i k = M i k := by
  unfold jref
  rw [jm_n (by omega), jm_n (by omega), jm_n (by omega)]
theorem m_lg {M : MM} {a g i k : Nat} (h : g + 5 < i) : jlg M a g i k = M i k := by
  unfold jlg
  rw [if_neg (by omega), if_neg (by omega), if_neg (by omega), if_neg (by omega), if_neg (by omega), if_neg (by omega)]
theorem m_keep {M : MM} {j q i k : Nat} (hj : j < 9) (h : 94 ≤ i) : jkeep M j q i k = M i k := by
  unfold jkeep jkh
  rw [jm_n (by omega), jm_n (by omega), m_lg (by omega)]
theorem m_put {M : MM} {n a : Nat} {t v : Int32} {i k : Nat} (h : i ≠ a) : jput n M a t v i k = M i k := by
  unfold jput
  split
  · rfl
  · rw [jm_n (fun q => h q.1)]
theorem m_addr {M : MM} {g i k : Nat} {t : Int32} (h : g + 2 < i) : jaddr M g t i k = M i k := by
  unfold jaddr
  split
  · rfl
  · rw [jm_n (by omega), m_put (by omega)]
theorem m_setr {M : MM} {g i k : Nat} {t u v : Int32} (h : g + 2 < i) : jsetr M g t u v i k = M i k := by
  unfold jsetr
  rw [m_addr h, m_addr h, m_addr h, jm_n (by omega)]
theorem m_team {M : MM} {j q i k : Nat} {u : Int32} (hj : j < 9) (h : 94 ≤ i) : jteam M j q u i k = M i k := by
  unfold jteam
  rw [jm_n (by omega), m_put (by omega), m_keep hj h]
theorem m_rules {M : MM} {j q i k : Nat} {t u v : Int32} (hj : j < 9) (h : 94 ≤ i) : jrules M j q t u v i k = M i k := by
  unfold jrules
  rw [m_setr (by omega), m_keep hj h]
theorem m_clear {M : MM} {i k : Nat} (h : 94 ≤ i) : jclear M i k = M i k := jclear_n (by omega)
theorem m_give {M : MM} {j q i k : Nat} {t u : Int32} (hj : j < 9) (h : 94 ≤ i) : jgive M j q t u i k = M i k := by
  unfold jgive
  rw [jm_n (by omega), jm_n (by omega), m_keep hj h, m_clear h]
theorem m_nocmd {M : MM} {i k : Nat} (h : 94 ≤ i) : jnocmd M i k = M i k := by
  unfold jnocmd
  rw [jm_n (by omega), jm_n (by omega), jm_n (by omega), jm_n (by omega)]
theorem x_addr {M : MM} {g : Nat} {t : Int32} : jaddr M g t g 6 = if t = -1 then M g 6 else M g 6 + 1 := by
  unfold jaddr
  split
  · rfl
  · rw [jm_s]
theorem x_xr {M : MM} {t : Int32} : jxr M t 95 5 = if t < 0 then M 95 5 else (if 6 + (M 95 5).toNatClampNeg = 5 then t else M 95 5 + 1) := by
  unfold jxr
  split
  · rfl
  · rw [jm]
    by_cases h : 6 + (M 95 5).toNatClampNeg = 5
    · omega
    · rw [if_neg (fun q => h q.2.symm), jm_s, if_neg h]
theorem x_rule {M N : MM} {g : Nat} {t : Int32} (h : M g 6 = N 95 5) (h1 : ¬ t < -1) : jaddr M g t g 6 = jxr N t 95 5 := by
  rw [x_addr, x_xr, h]
  by_cases ht : t < 0
  · rw [if_pos (i_neg1 h1 ht), if_pos ht]
  · rw [if_neg (fun q => ht (by rw [q]; decide)), if_neg ht, if_neg (by omega)]
theorem x_rules {M N : MM} {g : Nat} {t u v : Int32} (h : rRules t u v = none) : jsetr M g t u v g 6 = jxR N t u v 95 5 := by
  have hk : (¬ t < (-1) ∧ ¬ 4 < t) ∧ (¬ u < (-1) ∧ ¬ 4 < u) ∧ (¬ v < (-1) ∧ ¬ 4 < v) := by
    apply Decidable.byContradiction
    intro q
    rw [rRules, if_pos q] at h
    cases h
  unfold jsetr jxR
  exact x_rule (x_rule (x_rule (by rw [jm_s, jm_s]) hk.1.1) hk.2.1.1) hk.2.2.1
theorem x_R {t u v : Int32} : ∀ N : MM, jxR N t u v 94 3 = N 94 3 := by
  intro N
  have h : ∀ (M : MM) (t : Int32), jxr M t 94 3 = M 94 3 := fun M t => by
    unfold jxr
    split
    · rfl
    · rw [jm_n (by omega), jm_n (by omega)]
  unfold jxR
  rw [h, h, h, jm_n (by omega)]
