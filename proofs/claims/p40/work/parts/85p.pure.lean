/-! ===== changes and answers: the numbers' side ===== -/
theorem jtr_19 {N : MM} : jtr N 94 19 = 0 := by
  unfold jtr
  rw [jcp_n (by omega), jm_n (by omega), jm_s]
theorem kp_19 {N : MM} {k : Nat} : jkpg N k 94 19 = N 94 19 := jkpg_n (by omega) (by omega)
theorem hiR {M N : MM} (h : hiE M N) {i : Nat} (hi : 92 ≤ i) : N i = M i := funext fun c => h i c hi
theorem ref_95 {M : MM} {r z : Int32} {c : Nat} : jref M r z 95 c = M 95 c := hi_ref 95 c (by omega)
theorem ref_94 {M : MM} {r z : Int32} {c : Nat} : jref M r z 94 c = M 94 c := hi_ref 94 c (by omega)
theorem now_team {t : Nat} {u : Int32} {X N : MM} (h : rL t false (lgC X 1) (N 95)) (ht : t < 8) : rL (t + 1) false (lgC (jm (jm X 2 t u) 1 0 (nI (t + 1))) 1) (jm (jm N 95 0 (nI (t + 1))) 95 (10 + t) u 95) := by
  obtain ⟨a1, a2, a3, a4, a5, a6, a7, a8, ⟨w, b1, b2, b3, b4⟩, ⟨q, c1, c2, c3⟩, ⟨q2, d1, d2, d3⟩, ⟨c, e1, e2, e3, e4⟩, f⟩ := h
  have hA : ∀ i k, ¬ (i = 1 ∧ k = 0) → ¬ (i = 2 ∧ k = t) → jm (jm X 2 t u) 1 0 (nI (t + 1)) i k = X i k := fun i k h1 h2 => by rw [jm_n h1, jm_n h2]
  have hB : ∀ k, k ≠ 0 → k ≠ 10 + t → jm (jm N 95 0 (nI (t + 1))) 95 (10 + t) u 95 k = N 95 k := fun k h1 h2 => by rw [jm_n (by omega), jm_n (by omega)]
  refine ⟨by omega, (show jm (jm X 2 t u) 1 0 (nI (t + 1)) 1 0 = _ from jm_s), ?_, fun i hi => ?_, (fun z => by cases z), (hA 1 2 (by omega) (by omega)).trans a6, (hB 1 (by omega) (by omega)).trans a7, (hB 9 (by omega) (by omega)).trans a8, ⟨w, b1, (hA 1 3 (by omega) (by omega)).trans b2, (hB 2 (by omega) (by omega)).trans b3, fun z => by cases z⟩, ⟨q, c1, (hA 1 4 (by omega) (by omega)).trans c2, (hB 3 (by omega) (by omega)).trans c3⟩, ⟨q2, d1, (hA 1 5 (by omega) (by omega)).trans d2, (hB 4 (by omega) (by omega)).trans d3⟩, ⟨c, e1, (hA 1 6 (by omega) (by omega)).trans e2, (hB 5 (by omega) (by omega)).trans e3, fun i hi => ?_⟩, fun m hm => absurd hm (Nat.not_lt_zero m)⟩
  · show jm (jm N 95 0 (nI (t + 1))) 95 (10 + t) u 95 0 = _
    rw [jm_n (by omega), jm_s]
  · show jm (jm X 2 t u) 1 0 (nI (t + 1)) 2 i = jm (jm N 95 0 (nI (t + 1))) 95 (10 + t) u 95 (10 + i)
    by_cases e : i = t
    · subst e; rw [jm_n (by omega), jm_s, jm_s]
    · rw [hA 2 i (by omega) (by omega), hB (10 + i) (by omega) (by omega)]; exact a4 i hi
  · show jm (jm X 2 t u) 1 0 (nI (t + 1)) 3 i = _ ∧ r04 (jm (jm X 2 t u) 1 0 (nI (t + 1)) 3 i)
    rw [hA 3 i (by omega) (by omega), hB (6 + i) (by omega) (by omega)]; exact e4 i hi
theorem keep_now {t : Nat} {dr : Bool} {A : MM} {R R2 : Nat → Int32} {j k : Nat} (hj : j < 9) (h : rL t dr (lgC A 1) R) (hR : ∀ k, k < 466 → R2 k = R k) : rL t dr (lgC (jkeep A j k) 1) R2 := rL_cells h (fun i c q1 q2 => jkeep_old (by omega) (by omega)) hR
theorem keep_lo {A : MM} {j k i c : Nat} (hi : i < 13 ∨ 69 ≤ i) (hj : j < 9) : jkeep A j k i c = A i c := jkeep_old (by omega) (by omega)
theorem RelP.cnt {τ : Nat → Nat × Bool} {k j n : Nat} {A B : MM} (h : RelP τ k j A B) : RelP τ k j (jcount A n) B := by
  obtain ⟨a1, a2, a3, a4, a5, a6, a7, a8, a9, a10, a11, a12⟩ := h
  exact ⟨a1, a2, (jcount_n (by omega)).trans a3, (jcount_n (by omega)).trans a4, a5, rL_cells a6 (fun i c _ _ => jcount_n (by omega)) (fun _ _ => rfl), fun i hi => rL_cells (a7 i hi) (fun i c _ _ => jcount_n (by omega)) (fun _ _ => rfl), a8, fun hd => rFix_c (a9 hd) (fun i c _ _ => jcount_n (by omega)), rSv_c a10 (fun i c q => jcount_n (by omega)) (fun _ _ _ => rfl), rTx_c a11 (fun i c q => jcount_n (by omega)) (fun _ _ _ => rfl), rRs_c a12 (fun c q => jcount_n (by omega)) (fun _ _ => rfl)⟩
theorem now_ground {t q : Nat} {dr : Bool} {u : Int32} {X N : MM} (h : rL t dr (lgC X 1) (N 95)) (hq : q < 8) : rL t dr (lgC (jm X 2 q u) 1) (jm N 95 (10 + q) u 95) := by
  obtain ⟨a1, a2, a3, a4, a5, a6, a7, a8, ⟨w, b1, b2, b3, b4⟩, ⟨q1, c1, c2, c3⟩, ⟨q2, d1, d2, d3⟩, ⟨c, e1, e2, e3, e4⟩, f⟩ := h
  have hA : ∀ i k, ¬ (i = 2 ∧ k = q) → jm X 2 q u i k = X i k := fun i k h1 => jm_n h1
  have hB : ∀ k, k ≠ 10 + q → jm N 95 (10 + q) u 95 k = N 95 k := fun k h1 => jm_n (by omega)
  refine ⟨a1, (hA 1 0 (by omega)).trans a2, (hB 0 (by omega)).trans a3, fun i hi => ?_, a5, (hA 1 2 (by omega)).trans a6, (hB 1 (by omega)).trans a7, (hB 9 (by omega)).trans a8, ⟨w, b1, (hA 1 3 (by omega)).trans b2, (hB 2 (by omega)).trans b3, b4⟩, ⟨q1, c1, (hA 1 4 (by omega)).trans c2, (hB 3 (by omega)).trans c3⟩, ⟨q2, d1, (hA 1 5 (by omega)).trans d2, (hB 4 (by omega)).trans d3⟩, ⟨c, e1, (hA 1 6 (by omega)).trans e2, (hB 5 (by omega)).trans e3, fun i hi => ?_⟩, fun m hm => ?_⟩
  · show jm X 2 q u 2 i = jm N 95 (10 + q) u 95 (10 + i)
    by_cases e : i = q
    · subst e; rw [jm_s, jm_s]
    · rw [hA 2 i (by omega), hB (10 + i) (by omega)]; exact a4 i hi
  · show jm X 2 q u 3 i = _ ∧ r04 (jm X 2 q u 3 i)
    rw [hA 3 i (by omega), hB (6 + i) (by omega)]; exact e4 i hi
  · have hm := f m hm
    unfold mtR at hm ⊢
    rw [hB _ (by omega), hB _ (by omega), hB _ (by omega), hB _ (by omega), hB _ (by omega), hB _ (by omega), hB _ (by omega), hB _ (by omega)]
    show _ ∧ _ ∧ _ ∧ jm X 2 q u 4 m = _ ∧ _ ∧ ((_ ∧ ∃ g h : Nat, g ≤ 20 ∧ h ≤ 20 ∧ jm X 2 q u 5 m = nI g ∧ _ ∧ jm X 2 q u 6 m = nI h ∧ _) ∨ (_ ∧ jm X 2 q u 5 m = -1 ∧ jm X 2 q u 6 m = -1))
    rw [hA 4 m (by omega), hA 5 m (by omega), hA 6 m (by omega)]
    exact hm
theorem hi_addr {M N : MM} {g : Nat} {t : Int32} (h : hiE M N) (hg : g + 2 < 92) : hiE M (jaddr N g t) := by
  unfold jaddr
  split
  · exact h
  · exact hi_jm (hi_put h hg) (by omega)
theorem setr_n {X : MM} {t u v : Int32} {i c : Nat} (h1 : i ≠ 1) (h3 : i ≠ 3) : jsetr X 1 t u v i c = X i c := by
  have h : ∀ (Z : MM) (t : Int32), jaddr Z 1 t i c = Z i c := fun Z t => by
    unfold jaddr
    split
    · rfl
    · rw [jm_n (by omega), m_put (by omega)]
  unfold jsetr
  rw [h, h, h, jm_n (by omega)]
theorem int_rng {u : Int32} {n : Nat} (hn : n < 100) (h0 : ¬ u < 0) (h1 : ¬ nI n < u) : ∃ q, q ≤ n ∧ u = nI q := by
  obtain ⟨j, hj, rfl⟩ := nI_of2 (M := nI n) (n := n) (nI_toInt (by omega)) h0 (Int32.not_lt.mp h1)
  exact ⟨j, hj, rfl⟩
theorem now_give {t q1 q2 : Nat} {dr : Bool} {X N : MM} (h : rL t dr (lgC X 1) (N 95)) (h1 : q1 ≤ 5) (h2 : q2 ≤ 3) : rL t dr (lgC (jm (jm X 1 4 (nI q1)) 1 5 (nI q2)) 1) (jm (jm N 95 3 (nI q1)) 95 4 (nI q2) 95) := by
  obtain ⟨a1, a2, a3, a4, a5, a6, a7, a8, ⟨w, b1, b2, b3, b4⟩, -, -, ⟨c, e1, e2, e3, e4⟩, f⟩ := h
  have hA : ∀ i k, ¬ (i = 1 ∧ (k = 4 ∨ k = 5)) → jm (jm X 1 4 (nI q1)) 1 5 (nI q2) i k = X i k := fun i k h1 => by rw [jm_n (by omega), jm_n (by omega)]
  have hB : ∀ k, k ≠ 3 → k ≠ 4 → jm (jm N 95 3 (nI q1)) 95 4 (nI q2) 95 k = N 95 k := fun k h1 h2 => by rw [jm_n (by omega), jm_n (by omega)]
  refine ⟨a1, (hA 1 0 (by omega)).trans a2, (hB 0 (by omega) (by omega)).trans a3, fun i hi => ?_, a5, (hA 1 2 (by omega)).trans a6, (hB 1 (by omega) (by omega)).trans a7, (hB 9 (by omega) (by omega)).trans a8, ⟨w, b1, (hA 1 3 (by omega)).trans b2, (hB 2 (by omega) (by omega)).trans b3, b4⟩, ⟨q1, h1, ?_, ?_⟩, ⟨q2, h2, ?_, ?_⟩, ⟨c, e1, (hA 1 6 (by omega)).trans e2, (hB 5 (by omega) (by omega)).trans e3, fun i hi => ?_⟩, fun m hm => ?_⟩
  · rw [hB (10 + i) (by omega) (by omega)]; exact (hA 2 i (by omega)).trans (a4 i hi)
  · show jm (jm X 1 4 (nI q1)) 1 5 (nI q2) 1 4 = _; rw [jm_n (by omega), jm_s]
  · show jm (jm N 95 3 (nI q1)) 95 4 (nI q2) 95 3 = _; rw [jm_n (by omega), jm_s]
  · show jm (jm X 1 4 (nI q1)) 1 5 (nI q2) 1 5 = _; rw [jm_s]
  · show jm (jm N 95 3 (nI q1)) 95 4 (nI q2) 95 4 = _; rw [jm_s]
  · show jm (jm X 1 4 (nI q1)) 1 5 (nI q2) 3 i = _ ∧ r04 (jm (jm X 1 4 (nI q1)) 1 5 (nI q2) 3 i)
    rw [hA 3 i (by omega), hB (6 + i) (by omega) (by omega)]; exact e4 i hi
  · have hm := f m hm
    unfold mtR at hm ⊢
    rw [hB _ (by omega) (by omega), hB _ (by omega) (by omega), hB _ (by omega) (by omega), hB _ (by omega) (by omega), hB _ (by omega) (by omega), hB _ (by omega) (by omega), hB _ (by omega) (by omega), hB _ (by omega) (by omega)]
    show _ ∧ _ ∧ _ ∧ jm (jm X 1 4 _) 1 5 _ 4 m = _ ∧ _ ∧ ((_ ∧ ∃ g h : Nat, g ≤ 20 ∧ h ≤ 20 ∧ jm (jm X 1 4 _) 1 5 _ 5 m = nI g ∧ _ ∧ jm (jm X 1 4 _) 1 5 _ 6 m = nI h ∧ _) ∨ (_ ∧ jm (jm X 1 4 _) 1 5 _ 5 m = -1 ∧ jm (jm X 1 4 _) 1 5 _ 6 m = -1))
    rw [hA 4 m (by omega), hA 5 m (by omega), hA 6 m (by omega)]
    exact hm
theorem gRes_95 {N N2 : MM} {q : Nat} {u v : Int32} (h : N 95 = N2 95) : gRes N q u v = gRes N2 q u v := by unfold gRes jof; rw [h]
theorem gBack_95 {N N2 : MM} {q : Nat} (h : N 95 = N2 95) : gBack N q = gBack N2 q := by unfold gBack jhow jof; rw [h]
theorem gPut_95 {N N2 : MM} {q : Nat} {u : Int32} (h : N 95 = N2 95) : gPut N q u = gPut N2 q u := by unfold gPut jof; rw [h]
theorem gNext_95 {N N2 : MM} {n : Nat} (h : N 95 = N2 95) : gNext N n = gNext N2 n := by
  have e : gLeft N = gLeft N2 := by funext m; unfold gLeft jof; rw [h]
  unfold gNext; rw [h, e]
theorem hi_setg {M N : MM} {q : Nat} {u v : Int32} (h : hiE M N) (hq : q < 56) : hiE M (jsetg N 1 (nI q) u v) := by
  rw [jsetg_nI hq]; exact hi_jm (hi_jm h (by omega)) (by omega)
theorem setg_n {N : MM} {q i c : Nat} {u v : Int32} (hq : q < 56) (h : i ≠ 5 ∧ i ≠ 6) : jsetg N 1 (nI q) u v i c = N i c := by
  rw [jsetg_nI hq, jm_n (by omega), jm_n (by omega)]
theorem now_draw {t : Nat} {X N : MM} (h : rL t false (lgC X 1) (N 95)) (h2 : 2 ≤ t) (ht : t ≤ 8) : rL t true (lgC (jstart (jly t (gP t - 1) X (wT t)) 1) 1) (gdw N t (wT t) 95) := by
  obtain ⟨a1, a2, a3, a4, a5, a6, a7, a8, ⟨w, b1, b2, b3, b4⟩, ⟨q1, c1, c2, c3⟩, ⟨q2, d1, d2, d3⟩, ⟨c, e1, e2, e3, e4⟩, f⟩ := h
  have hw0 : w = 0 := b1 rfl
  subst hw0
  have hw2 := wT_pos h2
  have hw14 := wT_le ht
  have hnT := nT_le ht
  have hfx := jly_fix (X := X) h2 ht
  have hA : ∀ i k, i < 4 → ¬ (i = 1 ∧ (k = 2 ∨ k = 3)) → i ≠ 0 → jstart (jly t (gP t - 1) X (wT t)) 1 i k = X i k := fun i k h1 h2 h3 => by rw [jstart_n (by omega), jly_n (by omega)]
  have hB : ∀ k, k < 18 → k ≠ 9 → k ≠ 1 → gdw N t (wT t) 95 k = N 95 k := fun k h1 h2 h3 => gdw_n (by omega) _
  have h9 : N 95 9 = 0 := a8
  refine ⟨ht, (hA 1 0 (by omega) (by omega) (by omega)).trans a2, (hB 0 (by omega) (by omega) (by omega)).trans a3, fun i hi => ?_, fun _ => h2, ?_, gdw_1 _, gdw_9 h9 _, ⟨0, fun _ => rfl, ?_, (hB 2 (by omega) (by omega) (by omega)).trans b3, fun _ => by omega⟩, ⟨q1, c1, (hA 1 4 (by omega) (by omega) (by omega)).trans c2, (hB 3 (by omega) (by omega) (by omega)).trans c3⟩, ⟨q2, d1, (hA 1 5 (by omega) (by omega) (by omega)).trans d2, (hB 4 (by omega) (by omega) (by omega)).trans d3⟩, ⟨c, e1, (hA 1 6 (by omega) (by omega) (by omega)).trans e2, (hB 5 (by omega) (by omega) (by omega)).trans e3, fun i hi => ?_⟩, fun m hm => ?_⟩
  · rw [hB (10 + i) (by omega) (by omega) (by omega)]; exact (hA 2 i (by omega) (by omega) (by omega)).trans (a4 i hi)
  · show jstart (jly t (gP t - 1) X (wT t)) 1 1 2 = 1
    unfold jstart
    rw [jfill_n (by omega), jfill_n (by omega)]
    unfold jrow
    rw [if_neg (by omega), jm_n (by omega), jm_s]
  · show jstart (jly t (gP t - 1) X (wT t)) 1 1 3 = nI 0
    unfold jstart
    rw [jfill_n (by omega), jfill_n (by omega)]
    unfold jrow
    rw [if_neg (by omega), jm_s]
    rfl
  · rw [hB (6 + i) (by omega) (by omega) (by omega)]
    show jstart (jly t (gP t - 1) X (wT t)) 1 3 i = _ ∧ r04 (jstart (jly t (gP t - 1) X (wT t)) 1 3 i)
    rw [hA 3 i (by omega) (by omega) (by omega)]
    exact e4 i hi
  · have hm : m < nT t := hm
    obtain ⟨x1, x2, x3⟩ := hfx.2.2.1 m hm
    rw [mt_of, gdw_TB (by omega) hm, gdw_TB (by omega) hm, gdw_TB (by omega) hm, gdw_TB (by omega) hm, gdw_TB (by omega) hm, gdw_TB (by omega) hm, TB_23 ht hm]
    obtain ⟨z1, z2, z, y1, y2, y3, y4, y5, y6, y7, y8, y9, y10, -⟩ := TB_ok ht hm
    have h4 : jstart (jly t (gP t - 1) X (wT t)) 1 4 m = TB t m 3 := by
      unfold jstart
      rw [jfill_n (by omega), jfill_n (by omega)]
      unfold jrow
      rw [if_pos ⟨rfl, by omega⟩, jm_n (by omega), jm_n (by omega)]
      exact x3
    have h5 : jstart (jly t (gP t - 1) X (wT t)) 1 5 m = -1 := by
      unfold jstart
      rw [jfill_n (by omega)]
      unfold jfill
      rw [if_pos ⟨rfl, by omega⟩]
    have h6 : jstart (jly t (gP t - 1) X (wT t)) 1 6 m = -1 := by
      unfold jstart jfill
      rw [if_pos ⟨rfl, by omega⟩]
    exact ⟨rfl, rfl, rfl, h4, ⟨z, z, y8, y8, Nat.le_refl _, y4, by rw [y10, if_pos rfl]⟩, Or.inr ⟨y9, h5, h6⟩⟩
theorem hi_ly {M N : MM} {t q n : Nat} (h : hiE M N) : hiE M (jly t q N n) := fun i c z => by
  rw [jly_n (by omega)]; exact h i c z
theorem hi_start {M N : MM} (h : hiE M N) : hiE M (jstart N 1) := fun i c z => by
  rw [jstart_n (by omega)]; exact h i c z
theorem gUndo_at {N : MM} {k i c : Nat} (h : i ≠ 95) (h2 : ¬ (i = 94 ∧ (c = 3 ∨ c = 19))) : gUndo N k i c = N i c := by
  unfold gUndo
  rw [jcp_n h, jm_n (by omega), jm_n (by omega)]
theorem gUndo_95 {N : MM} {k c : Nat} (hc : c < 466) : gUndo N k 95 c = N 97 (466 * k + c) := by
  unfold gUndo
  rw [show (95 : Nat) = 95 from rfl, show jcp (jm (jm N 94 19 0) 94 3 (nI k)) 97 (466 * k) 95 0 466 95 c = jcp (jm (jm N 94 19 0) 94 3 (nI k)) 97 (466 * k) 95 0 466 95 (0 + c) by rw [Nat.zero_add], jcp_at hc, jm_n (by omega), jm_n (by omega)]
theorem rel_undo {τ : Nat → Nat × Bool} {k j : Nat} {A B : MM} (h : RelP τ (k + 1) j A B) : Rel (jgl A j (k + 1)) (gUndo B k) := by
  obtain ⟨a1, a2, a3, a4, a5, a6, a7, a8, a9, a10, a11, a12⟩ := h
  have hA : ∀ i c, i < 1 ∨ 6 < i → i ≠ 13 → jgl A j (k + 1) i c = A i c := fun i c h1 h2 => by
    unfold jgl
    rw [jlg_n (by omega), jm_n (by omega), jm_n (by omega)]
  have hB : ∀ i c, i ≠ 95 → ¬ (i = 94 ∧ (c = 3 ∨ c = 19)) → gUndo B k i c = B i c := fun i c h1 h2 => gUndo_at h1 h2
  have hk1 := a7 k (Nat.lt_succ_self k)
  rw [show (j + 9 - (k + 1) + k) % 9 = (j + 8) % 9 by omega] at hk1
  have hj8 : (j + 8) % 9 < 9 := Nat.mod_lt _ (by decide)
  refine ⟨τ, k, (j + 8) % 9, hj8, by omega, ?_, ?_, ?_, ?_, fun i hi => ?_, fun i hi => a8 i (by omega), fun hd => ?_, rSv_c a10 (fun i c q => hA i c (by omega) (by omega)) (fun i c q => hB i c (by omega) (by omega)), rTx_c a11 (fun i c q => hA i c (by omega) (by omega)) (fun i c q => hB i c (by omega) (by omega)), rRs_c a12 (fun c q => hA 0 c (by omega) (by omega)) (fun c q => hB 94 c (by omega) (by omega))⟩
  · unfold jgl; rw [jlg_n (by omega), jm_n (by omega), jm_s]
  · unfold jgl; rw [jlg_n (by omega), jm_s]; rfl
  · unfold gUndo; rw [jcp_n (by omega), jm_s]
  · refine rL_copy (A := jm (jm A 13 1 (nI ((j + 8) % 9))) 13 2 (nI (k + 1 - 1))) (a := 15 + 6 * ((j + 8) % 9)) (g := 1) (rL_cells hk1 (fun i c q1 q2 => ?_) (fun _ _ => rfl)) (fun i c _ _ => rfl) (fun c hc => gUndo_95 hc)
    rw [jm_n (by omega), jm_n (by omega)]
  · have h1 := a7 i (by omega)
    rw [show (j + 9 - (k + 1) + i) % 9 = ((j + 8) % 9 + 9 - k + i) % 9 by omega] at h1
    exact rL_cells h1 (fun i2 c q1 q2 => hA i2 c (by omega) (by omega)) (fun c _ => hB 97 _ (by omega) (by omega))
  · have e1 := a8 k (Nat.lt_succ_self k) hd
    rw [← e1] at hd ⊢
    exact rFix_c (a9 hd) (fun i c q1 q2 => hA i c (by omega) (by omega))
theorem rel_save {A B : MM} (h : Rel A B) : Rel (jm (jlg A 1 7) 0 2 1) (jcp (jm (jm B 94 19 0) 94 5 1) 95 0 98 0 466) := by
  obtain ⟨τ, k, j, a1, a2, a3, a4, a5, a6, a7, a8, a9, a10, a11, a12⟩ := h
  have hA : ∀ i c, i < 7 ∨ 12 < i → ¬ (i = 0 ∧ c = 2) → jm (jlg A 1 7) 0 2 1 i c = A i c := fun i c h1 h2 => by rw [jm_n (by omega), jlg_n (by omega)]
  have hB : ∀ i c, i ≠ 98 → ¬ (i = 94 ∧ (c = 5 ∨ c = 19)) → jcp (jm (jm B 94 19 0) 94 5 1) 95 0 98 0 466 i c = B i c := fun i c h1 h2 => by rw [jcp_n h1, jm_n (by omega), jm_n (by omega)]
  refine ⟨τ, k, j, a1, a2, (hA 13 1 (by omega) (by omega)).trans a3, (hA 13 2 (by omega) (by omega)).trans a4, (hB 94 3 (by omega) (by omega)).trans a5, rL_cells a6 (fun i c _ _ => hA i c (by omega) (by omega)) (fun c _ => hB 95 c (by omega) (by omega)), fun i hi => rL_cells (a7 i hi) (fun i2 c _ _ => hA i2 c (by omega) (by omega)) (fun c _ => hB 97 _ (by omega) (by omega)), a8, fun hd => rFix_c (a9 hd) (fun i c _ _ => hA i c (by omega) (by omega)), Or.inr ⟨jm_s, ?_, (τ k).1, (τ k).2, ?_⟩, rTx_c a11 (fun i c q => hA i c (by omega) (by omega)) (fun i c q => hB i c (by omega) (by omega)), rRs_c a12 (fun c q => hA 0 c (by omega) (by omega)) (fun c q => hB 94 c (by omega) (by omega))⟩
  · rw [jcp_n (by omega), jm_s]
  · refine rL_copy (A := A) (a := 1) (g := 7) a6 (fun i c q1 q2 => by rw [jm_n (by omega)]) (fun c hc => ?_)
    rw [show jcp (jm (jm B 94 19 0) 94 5 1) 95 0 98 0 466 98 c = jcp (jm (jm B 94 19 0) 94 5 1) 95 0 98 0 466 98 (0 + c) by rw [Nat.zero_add], jcp_at hc, Nat.zero_add, jm_n (by omega), jm_n (by omega)]
theorem gRest_at {N : MM} {i c : Nat} (h : i ≠ 95) (h2 : ¬ (i = 94 ∧ (c = 3 ∨ c = 19))) : gRest N i c = N i c := by
  unfold gRest
  rw [jm_n (by omega), jcp_n h, jm_n (by omega)]
theorem gRest_95 {N : MM} {c : Nat} (hc : c < 466) : gRest N 95 c = N 98 c := by
  unfold gRest
  rw [jm_n (by omega), show jcp (jm N 94 19 0) 98 0 95 0 466 95 c = jcp (jm N 94 19 0) 98 0 95 0 466 95 (0 + c) by rw [Nat.zero_add], jcp_at hc, Nat.zero_add, jm_n (by omega)]
theorem rel_rest {A B A2 : MM} {t : Nat} {dr : Bool} (h : Rel A B) (hs : rL t dr (lgC A 7) (B 98)) (hA : ∀ i c, i < 69 → A2 i c = jres1 A i c) (hA8 : ∀ i c, i = 86 ∨ i = 87 → A2 i c = A i c) (hf : dr = true → rFix t A2) : Rel A2 (gRest B) := by
  obtain ⟨τ, k, j, a1, a2, a3, a4, a5, a6, a7, a8, a9, a10, a11, a12⟩ := h
  have hlow : ∀ i c, i < 1 ∨ 6 < i → i < 69 → ¬ (i = 13 ∧ c = 2) → A2 i c = A i c := fun i c h1 h2 h3 => by
    rw [hA i c h2]
    unfold jres1
    rw [jm_n h3, jlg_n (by omega)]
  have hB : ∀ i c, i ≠ 95 → ¬ (i = 94 ∧ (c = 3 ∨ c = 19)) → gRest B i c = B i c := fun i c h1 h2 => gRest_at h1 h2
  refine ⟨fun _ => (t, dr), 0, j, a1, by omega, (hlow 13 1 (by omega) (by omega) (by omega)).trans a3, ?_, ?_, ?_, fun i hi => absurd hi (Nat.not_lt_zero i), fun i hi => absurd hi (Nat.not_lt_zero i), hf, rSv_c a10 (fun i c q => hlow i c (by omega) (by omega) (by omega)) (fun i c q => hB i c (by omega) (by omega)), rTx_c a11 (fun i c q => hA8 i c (by omega)) (fun i c q => hB i c (by omega) (by omega)), rRs_c a12 (fun c q => hlow 0 c (by omega) (by omega) (by omega)) (fun c q => hB 94 c (by omega) (by omega))⟩
  · rw [hA 13 2 (by omega)]; unfold jres1; exact jm_s
  · unfold gRest; exact jm_s
  · exact rL_copy (A := A) (a := 7) (g := 1) hs (fun i c q1 q2 => by rw [hA i c (by omega)]; unfold jres1; rw [jm_n (by omega)]) (fun c hc => gRest_95 hc)
theorem rel_app {A B : MM} {n q : Nat} (h : Rel A B) (hn : n < 60) (hA0 : A 86 0 = nI n) (hB0 : B 94 9 = nI n) (hq : q < 65536) : Rel (jm (jm A 87 n (nI q)) 86 0 (nI (n + 1))) (jm (jm (jm B 94 19 0) 94 9 (nI (n + 1))) 100 n (nI q)) := by
  obtain ⟨τ, k, j, a1, a2, a3, a4, a5, a6, a7, a8, a9, a10, ⟨n2, t1, t2, t3, t4⟩, a12⟩ := h
  have e : n2 = n := (nI_eq (by omega) (by omega)).mp (t2.symm.trans hA0)
  subst e
  have hA : ∀ i c, i ≠ 87 → ¬ (i = 86 ∧ c = 0) → jm (jm A 87 n2 (nI q)) 86 0 (nI (n2 + 1)) i c = A i c := fun i c h1 h2 => by rw [jm_n (by omega), jm_n (by omega)]
  have hB : ∀ i c, i ≠ 100 → ¬ (i = 94 ∧ (c = 9 ∨ c = 19)) → jm (jm (jm B 94 19 0) 94 9 (nI (n2 + 1))) 100 n2 (nI q) i c = B i c := fun i c h1 h2 => by rw [jm_n (by omega), jm_n (by omega), jm_n (by omega)]
  refine ⟨τ, k, j, a1, a2, (hA 13 1 (by omega) (by omega)).trans a3, (hA 13 2 (by omega) (by omega)).trans a4, (hB 94 3 (by omega) (by omega)).trans a5, rL_cells a6 (fun i c _ _ => hA i c (by omega) (by omega)) (fun c _ => hB 95 c (by omega) (by omega)), fun i hi => rL_cells (a7 i hi) (fun i2 c _ _ => hA i2 c (by omega) (by omega)) (fun c _ => hB 97 _ (by omega) (by omega)), a8, fun hd => rFix_c (a9 hd) (fun i c _ _ => hA i c (by omega) (by omega)), rSv_c a10 (fun i c q => hA i c (by omega) (by omega)) (fun i c q => hB i c (by omega) (by omega)), ⟨n2 + 1, by omega, jm_s, ?_, fun i hi => ?_⟩, rRs_c a12 (fun c q => hA 0 c (by omega) (by omega)) (fun c q => hB 94 c (by omega) (by omega))⟩
  · rw [jm_n (by omega), jm_s]
  · rw [jm_n (show ¬ (87 = 86 ∧ i = 0) by omega)]
    by_cases e : i = n2
    · subst e
      rw [jm_s, jm_s]
      exact ⟨rfl, q, hq, rfl⟩
    · rw [jm_n (by omega), jm_n (by omega), jm_n (by omega), jm_n (by omega)]
      exact t4 i (by omega)
def qE (M M1 : MM) : Prop := ∀ i k, i < 75 ∨ 85 < i → M1 i k = M i k
theorem qE_0 {M : MM} : qE M M := fun _ _ _ => rfl
theorem qE_c {M : MM} {n : Nat} : qE M (jcount M n) := fun i k q => jcount_n (by omega)
def tE (N N2 : MM) : Prop := ∀ i k, ¬ (i = 94 ∧ k = 19) → N2 i k = N i k
theorem tE_0 {N : MM} : tE N N := fun _ _ _ => rfl
theorem tE_1 {N : MM} {v : Int32} : tE N (jm N 94 19 v) := fun i k q => jm_n q
theorem tE_2 {N : MM} {v w : Int32} : tE N (jrai (jm N 94 19 v) w) := fun i k q => by
  unfold jrai; rw [jm_n q, jm_n q]
theorem rL_rules {t : Nat} {dr : Bool} {M : MM} (h : rL t dr (lgC M 1) (M 95)) : ∃ c : Nat, c ≤ 3 ∧ M 1 6 = nI c ∧ M 95 5 = nI c ∧ (∀ i, i < c → r04 (M 3 i)) ∧ ∀ i, i < c → r04 (M 95 (6 + i)) := by
  obtain ⟨c, e1, e2, e3, e4⟩ := h.2.2.2.2.2.2.2.2.2.2.2.1
  exact ⟨c, e1, e2, e3, fun i hi => (e4 i hi).2, fun i hi => by
    have := e4 i hi
    rw [← this.1]
    exact this.2⟩
theorem le_n {v : Int32} {n : Int32} : (v < 0 ∨ ¬ v ≤ n) ↔ ¬ (¬ v < 0 ∧ ¬ n < v) := by
  rw [Int32.not_le]
  constructor
  · rintro (h | h) ⟨h1, h2⟩
    · exact h1 h
    · exact h2 h
  · intro h
    by_cases c : v < 0
    · exact Or.inl c
    · exact Or.inr (Decidable.byContradiction fun z => h ⟨c, z⟩)
theorem n32_of {r : UInt32} (h : Jvm.FP.Core.fIsNaN r = false) : vf_n32 r := by
  have h1 : ¬ Jvm.FP.Core.fIsNaN r = true := by rw [h]; decide
  rw [Jvm.FP.Core.isNaN_bits32] at h1
  unfold vf_n32
  rw [UInt32.le_iff_toNat_le, UInt32.toNat_and, show (0x7fffffff : UInt32).toNat = 2 ^ 31 - 1 from rfl, Nat.and_two_pow_sub_one_eq_mod, show (0x7f800000 : UInt32).toNat = 2139095040 from rfl]
  omega
theorem n64_of {r : UInt64} (h : Jvm.FP.Core.dIsNaN r = false) : vf_n64 r := by
  have h1 : ¬ Jvm.FP.Core.dIsNaN r = true := by rw [h]; decide
  rw [Jvm.FP.Core.isNaN_bits] at h1
  unfold vf_n64
  rw [UInt64.le_iff_toNat_le, UInt64.toNat_and, show (0x7fffffffffffffff : UInt64).toNat = 2 ^ 63 - 1 from rfl, Nat.and_two_pow_sub_one_eq_mod, show (0x7ff0000000000000 : UInt64).toNat = 9218868437227405312 from rfl]
  omega
theorem i2f_ok {v : Int32} : Jvm.FP.Core.fIsNaN (FP.i2f v) = false := (Jvm.FP.Core.notNaN_iff32 _).mpr (Jvm.FP.Core.i2f_fin v).ne_nan
theorem i2d_ok {v : Int32} : Jvm.FP.Core.dIsNaN (FP.i2d v) = false := by
  have h := Jvm.FP.Core.i2d_mag v
  cases e : Jvm.FP.Core.dIsNaN (FP.i2d v) with
  | false => rfl
  | true =>
    have h2 := (Jvm.FP.Core.isNaN_bits (FP.i2d v)).mp e
    have h3 : (FP.i2d v).toNat % 2 ^ 63 < 1056 * 2 ^ 52 := h
    omega
theorem toInt_ne {w : Int32} (h : ¬ w = 0) : w.toInt ≠ 0 := fun z => h (Int32.toInt_inj.mp (by rw [z]; rfl))
theorem fdiv_ok {v w : Int32} (hw : ¬ w = 0) : Jvm.FP.Core.fIsNaN (FP.fdiv (FP.i2f v) (FP.i2f w)) = false := by
  refine Jvm.FP.Core.fdiv_out i2f_ok (Jvm.FP.Core.i2f_fin w) fun z => ?_
  have h1 := (Jvm.FP.Core.zero_bits232 _).mp z
  have h2 := (Jvm.FP.Core.i2f_big (toInt_ne hw)).1
  have h3 : (Jvm.FP.Core.i2f w).toNat % 2 ^ 31 = 0 := h1
  omega
theorem ddiv_ok {v w : Int32} (hw : ¬ w = 0) : Jvm.FP.Core.dIsNaN (FP.ddiv (FP.i2d v) (FP.i2d w)) = false := by
  have h2 := Jvm.FP.Core.i2d_big (toInt_ne hw)
  refine Jvm.FP.Core.ddiv_out i2d_ok ((Jvm.FP.Core.fin_bits _).mpr ?_) fun z => ?_
  · show (Jvm.FP.Core.i2d w).toNat % 2 ^ 63 < _
    omega
  · have h1 := (Jvm.FP.Core.zero_bits2 _).mp z
    have h3 : (Jvm.FP.Core.i2d w).toNat % 2 ^ 63 = 0 := h1
    omega
theorem f2d_ok {v : UInt32} (h : Jvm.FP.Core.fIsNaN v = false) : vf_n64 (FP.f2d v) := by
  refine n64_of ?_
  unfold FP.f2d
  rw [h]
  exact Jvm.FP.Core.f2d_out h
section ONE
variable {t : Nat} {dr : Bool} {X N : MM}
theorem one_res {x u v : Int32} (h : rL t dr (lgC X 1) (N 95)) (hf : dr = true → rFix t X) (hr : rRes X x u v = none) : rL t dr (lgC (jsetg X 1 x u v) 1) (gResS N x.toNatClampNeg u v 95) := by
  have hRR := res_r h hf (x := x) (u := u) (v := v)
  rw [hr] at hRR
  rcases noM_r h hf (x := x) with ⟨h1, h2, h3⟩ | ⟨h1, h4, h2, h3⟩ | ⟨h1, q, hq, hx, h2, h3⟩
  · rw [h3] at hRR; cases hRR
  · rw [h3] at hRR; cases hRR
  · subst h1
    subst hx
    have hn := nT_le h.1
    rw [h3, nI_clamp (by omega)] at hRR
    have hr := hRR.symm
    have huv : (¬ u < 0 ∧ ¬ 20 < u) ∧ (¬ v < 0 ∧ ¬ 20 < v) := by
      apply Decidable.byContradiction
      intro z
      unfold gRes at hr
      rw [if_pos z] at hr
      cases hr
    obtain ⟨g1, k1, rfl⟩ := int_rng (u := u) (n := 20) (by decide) huv.1.1 huv.1.2
    obtain ⟨g2, k2, rfl⟩ := int_rng (u := v) (n := 20) (by decide) huv.2.1 huv.2.2
    rw [nI_clamp (by omega)]
    exact now_res h hq k1 k2
theorem one_back {x : Int32} (h : rL t dr (lgC X 1) (N 95)) (hf : dr = true → rFix t X) (hr : rBack X x = none) : rL t dr (lgC (jsetg X 1 x (-1) (-1)) 1) (gBackS N x.toNatClampNeg 95) := by
  have hRR := back_r h hf (x := x)
  rw [hr] at hRR
  rcases noM_r h hf (x := x) with ⟨h1, h2, h3⟩ | ⟨h1, h4, h2, h3⟩ | ⟨h1, q, hq, hx, h2, h3⟩
  · rw [h3] at hRR; cases hRR
  · rw [h3] at hRR; cases hRR
  · subst h1
    subst hx
    have hn := nT_le h.1
    rw [nI_clamp (by omega)]
    exact now_back h hq
theorem one_put {x u : Int32} (h : rL t dr (lgC X 1) (N 95)) (hf : dr = true → rFix t X) (hr : rPut X x u = none) : rL t dr (lgC (jput 56 X 4 x (X 1 3 + u)) 1) (gPutS N x.toNatClampNeg u 95) := by
  have hRR := put_r h hf (x := x) (u := u)
  rw [hr] at hRR
  rcases noM_r h hf (x := x) with ⟨h1, h2, h3⟩ | ⟨h1, h4, h2, h3⟩ | ⟨h1, q, hq, hx, h2, h3⟩
  · rw [h3] at hRR; cases hRR
  · rw [h3] at hRR; cases hRR
  · subst h1
    subst hx
    have hn := nT_le h.1
    rw [h3, nI_clamp (by omega)] at hRR
    have hr := hRR.symm
    obtain ⟨h1, h2, h3⟩ : (¬ u < 1 ∧ ¬ 9 < u) ∧ jof N q 2 = N 95 2 ∧ (¬ N 95 2 + u < 0 ∧ ¬ N 95 1 - 1 < N 95 2 + u) := by
      unfold gPut at hr
      by_cases z1 : ¬ (¬ u < 1 ∧ ¬ 9 < u)
      · rw [if_pos z1] at hr; cases hr
      · rw [if_neg z1] at hr
        by_cases z2 : jof N q 4 = 1
        · rw [if_pos z2] at hr; cases hr
        · rw [if_neg z2] at hr
          by_cases z3 : ¬ jof N q 2 = N 95 2
          · rw [if_pos z3] at hr; cases hr
          · rw [if_neg z3] at hr
            by_cases z4 : ¬ (¬ N 95 2 + u < 0 ∧ ¬ N 95 1 - 1 < N 95 2 + u)
            · rw [if_pos z4] at hr; cases hr
            · exact ⟨Decidable.not_not.mp z1, Decidable.not_not.mp z3, Decidable.not_not.mp z4⟩
    obtain ⟨e, k1, rfl⟩ := int_rng (u := u) (n := 9) (by decide) (fun z => h1.1 (Int32.lt_trans z (by decide))) h1.2
    have he : 1 ≤ e := by
      rcases Nat.eq_zero_or_pos e with z | z
      · subst z; exact absurd (by decide) h1.1
      · exact z
    obtain ⟨w, -, w1, w2, w3⟩ := id h.2.2.2.2.2.2.2.2.1
    have w1 : X 1 3 = nI w := w1
    have hw3 := w3 rfl
    have hw14 := wT_le h.1
    have h951 : N 95 1 = nI (zz t true) := h.2.2.2.2.2.2.1
    have hwe : w + e < wT t := by
      rw [w2, h951, nI_add, in_q2 (show zz t true ≤ 56 by show wT t ≤ 56; omega)] at h3
      obtain ⟨q', y1, y2⟩ := h3
      have y1 : q' < wT t := y1
      have := (nI_eq (by omega) (by omega)).mp y2
      omega
    rw [nI_clamp (by omega)]
    exact now_put h hq w1 w2 he hwe (h2.trans w2)
theorem one_next (h : rL t dr (lgC X 1) (N 95)) (hf : dr = true → rFix t X) (hr : rNext X (nn t dr) = none) : rL t dr (lgC (jm X 1 3 (X 1 3 + 1)) 1) (jm N 95 2 (N 95 2 + 1) 95) := by
  have hRR := next_r h hf
  rw [hr] at hRR
  have h951 : N 95 1 = nI (zz t dr) := h.2.2.2.2.2.2.1
  have hz := zz_0 h.1 h.2.2.2.2.1
  cases dr with
  | false => rw [if_pos (by rw [h951]; rfl)] at hRR; cases hRR
  | true =>
    rw [if_neg (fun z => hz.2.mpr rfl (by rw [← h951, z]; exact Int32.le_refl 0))] at hRR
    have hr := hRR.symm
    obtain ⟨w, -, w1, w2, w3⟩ := id h.2.2.2.2.2.2.2.2.1
    have w1 : X 1 3 = nI w := w1
    have hw3 := w3 rfl
    have hw14 := wT_le h.1
    have hw1 : w + 1 < wT t := by
      have hne : ¬ N 95 2 = N 95 1 - 1 := by
        intro z
        unfold gNext at hr
        by_cases y : ¬ jfst (gLeft N) (nn t true) = -1
        · rw [if_pos y] at hr; cases hr
        · rw [if_neg y, if_pos z] at hr; cases hr
      rw [w2, h951, show zz t true = wT t from rfl] at hne
      obtain ⟨k1, hk1⟩ : ∃ k1, wT t = k1 + 1 := ⟨wT t - 1, by omega⟩
      rw [hk1, nI_pred, nI_eq (by omega) (by omega)] at hne
      omega
    exact now_next h w1 w2 hw1
theorem carry_ref {u v w z v2 w2 z2 : Int32} (h : rL t dr (lgC X 1) (N 95)) (hf : dr = true → rFix t X) (e1 : ¬ u = 110 → v2 = v) (e2 : u = 109 ∨ u = 111 ∨ u = 116 → w2 = w) (e3 : u = 109 ∨ u = 116 → z2 = z) (hl : isLet u) : cref X (nn t dr) u v w z = gcref N (nn t dr) u v2 w2 z2 := by
  unfold cref gcref
  rcases hl with rfl | rfl | rfl | rfl | rfl
  · rw [if_pos rfl, if_pos rfl, e1 (by decide), e2 (Or.inl rfl), e3 (Or.inl rfl)]; exact res_r h hf
  · rw [if_neg (by decide), if_pos rfl, if_neg (by decide), if_pos rfl, e1 (by decide)]; exact back_r h hf
  · rw [if_neg (by decide), if_neg (by decide), if_pos rfl, if_neg (by decide), if_neg (by decide), if_pos rfl, e1 (by decide), e2 (Or.inr (Or.inl rfl))]; exact put_r h hf
  · rw [if_neg (by decide), if_neg (by decide), if_neg (by decide), if_pos rfl, if_neg (by decide), if_neg (by decide), if_neg (by decide), if_pos rfl]; exact next_r h hf
  · rw [if_neg (by decide), if_neg (by decide), if_neg (by decide), if_neg (by decide), if_neg (by decide), if_neg (by decide), if_neg (by decide), if_neg (by decide), e1 (by decide), e2 (Or.inr (Or.inr rfl)), e3 (Or.inr rfl)]
theorem carry_app {u v w z v2 w2 z2 : Int32} (h : rL t dr (lgC X 1) (N 95)) (hf : dr = true → rFix t X) (e1 : ¬ u = 110 → v2 = v) (e2 : u = 109 ∨ u = 111 ∨ u = 116 → w2 = w) (e3 : u = 109 ∨ u = 116 → z2 = z) (hl : isLet u) (hr : cref X (nn t dr) u v w z = none) : rL t dr (lgC (capp X u v w z) 1) (gcapp N (nn t dr) u v2 w2 z2 95) := by
  have up : ∀ {K : MM} {y : Int32} {C : Nat → Nat → Int32}, rL t dr C (K 95) → rL t dr C (jm K 94 18 y 95) := fun {K y C} hh => by rw [show jm K 94 18 y 95 = K 95 from jm_row (by decide)]; exact hh
  unfold cref at hr
  unfold capp gcapp
  rcases hl with rfl | rfl | rfl | rfl | rfl
  · rw [if_pos rfl] at hr
    rw [if_pos rfl, if_pos rfl, e1 (by decide), e2 (Or.inl rfl), e3 (Or.inl rfl)]
    exact up (one_res h hf hr)
  · rw [if_neg (by decide), if_pos rfl] at hr
    rw [if_neg (by decide), if_pos rfl, if_neg (by decide), if_pos rfl, e1 (by decide)]
    exact up (one_back h hf hr)
  · rw [if_neg (by decide), if_neg (by decide), if_pos rfl] at hr
    rw [if_neg (by decide), if_neg (by decide), if_pos rfl, if_neg (by decide), if_neg (by decide), if_pos rfl, e1 (by decide), e2 (Or.inr (Or.inl rfl))]
    exact up (one_put h hf hr)
  · rw [if_neg (by decide), if_neg (by decide), if_neg (by decide), if_pos rfl] at hr
    rw [if_neg (by decide), if_neg (by decide), if_neg (by decide), if_pos rfl, if_neg (by decide), if_neg (by decide), if_neg (by decide), if_pos rfl]
    exact up (one_next h hf hr)
  · rw [if_neg (by decide), if_neg (by decide), if_neg (by decide), if_neg (by decide)] at hr
    rw [if_neg (by decide), if_neg (by decide), if_neg (by decide), if_neg (by decide), if_neg (by decide), if_neg (by decide), if_neg (by decide), if_neg (by decide), e1 (by decide), e2 (Or.inr (Or.inr rfl)), e3 (Or.inr rfl)]
    exact up (now_rules h hr).1
end ONE
section TEQ
variable {T T2 : Nat → Int32} {n : Nat}
theorem tsg_e (h : ∀ i, i < n → T i = T2 i) : tsg T n = tsg T2 n := funext fun a => by
  unfold tsg
  by_cases c : a < n
  · rw [if_pos c, if_pos c]; exact h a c
  · rw [if_neg c, if_neg c]
theorem tdg_e (h : tsg T n = tsg T2 n) : tdg T n = tdg T2 n := funext fun a => funext fun u => by simp only [tdg, tdc, h]
theorem tda_e (h : tsg T n = tsg T2 n) : tda T n = tda T2 n := funext fun a => funext fun u => by simp only [tda, tdc, h]
theorem tnv_e (h : tsg T n = tsg T2 n) : tnv T n = tnv T2 n := funext fun a => by simp only [tnv, tdg_e h]
theorem tna_e (h : tsg T n = tsg T2 n) : tna T n = tna T2 n := funext fun a => by simp only [tna, tdg_e h]
theorem pF_e (h : tsg T n = tsg T2 n) : pF T n = pF T2 n := funext fun a => by simp only [pF, rFm, rFb, rFo, h, tnv_e h, tna_e h]
theorem pN_e (h : tsg T n = tsg T2 n) : pN T n = pN T2 n := funext fun a => by simp only [pN, h, tda_e h, tna_e h]
theorem p1_e (h : tsg T n = tsg T2 n) : p1 T n = p1 T2 n := funext fun a => by simp only [p1, h, tdg_e h, tnv_e h]
theorem p2_e (h : tsg T n = tsg T2 n) : p2 T n = p2 T2 n := funext fun a => by simp only [p2, h, tdg_e h, tda_e h, tnv_e h, tna_e h]
theorem p3_e (h : tsg T n = tsg T2 n) : p3 T n = p3 T2 n := funext fun a => by simp only [p3, h, tdg_e h, tda_e h, tnv_e h, tna_e h]
theorem ppo_e (h : tsg T n = tsg T2 n) : ∀ i, ppo T n i = ppo T2 n i
  | 0 => rfl
  | i + 1 => by rw [ppo, ppo, ppo_e h i, pN_e h]
theorem pgo_e (h : tsg T n = tsg T2 n) {i : Nat} : pgo T n i ↔ pgo T2 n i := by
  unfold pgo
  rw [ppo_e h, pF_e h, pN_e h, h]
end TEQ

theorem first_stop (T : Nat → Int32) (n : Nat) : ∀ m, (∀ j, j < m → pgo T n j) ∨ ∃ i, i < m ∧ (∀ j, j < i → pgo T n j) ∧ ¬ pgo T n i
  | 0 => Or.inl fun j hj => absurd hj (Nat.not_lt_zero j)
  | m + 1 => by
    rcases first_stop T n m with h | ⟨i, h1, h2, h3⟩
    · by_cases c : pgo T n m
      · refine Or.inl fun j hj => ?_
        by_cases e : j = m
        · subst e; exact c
        · exact h j (by omega)
      · exact Or.inr ⟨m, by omega, h, c⟩
    · exact Or.inr ⟨i, by omega, h2, h3⟩
theorem RelP.txt {τ : Nat → Nat × Bool} {k j : Nat} {A A2 B B2 : MM} (h : RelP τ k j A B) (hA : ∀ i c, i < 75 → ¬ (i = 0 ∧ c = 8) → A2 i c = A i c) (hB : ∀ i c, (i = 94 ∧ c ≠ 9 ∧ c ≠ 10 ∧ c ≠ 11 ∧ c ≠ 13 ∧ c ≠ 16 ∧ c ≠ 18 ∧ c ≠ 19) ∨ i = 95 ∨ i = 97 ∨ i = 98 → B2 i c = B i c) (h1 : A2 86 0 = 0) (h2 : B2 94 9 = 0) (h3 : A2 0 8 = B2 94 13) : RelP τ k j A2 B2 := by
  obtain ⟨a1, a2, a3, a4, a5, a6, a7, a8, a9, a10, -, ⟨r1, r2, r3, r4, r5, q, r6, r7⟩⟩ := h
  refine ⟨a1, a2, (hA 13 1 (by omega) (by omega)).trans a3, (hA 13 2 (by omega) (by omega)).trans a4, (hB 94 3 (by omega)).trans a5, rL_cells a6 (fun i c _ _ => hA i c (by omega) (by omega)) (fun c _ => hB 95 c (by omega)), fun i hi => rL_cells (a7 i hi) (fun i2 c _ _ => hA i2 c (by omega) (by omega)) (fun c _ => hB 97 _ (by omega)), a8, fun hd => rFix_c (a9 hd) (fun i c _ _ => hA i c (by omega) (by omega)), rSv_c a10 (fun i c q => hA i c (by omega) (by omega)) (fun i c q => hB i c (by omega)), ⟨0, by omega, h1, h2, fun i hi => absurd hi (Nat.not_lt_zero i)⟩, ⟨?_, ?_, ?_, h3, ?_, q, r6, (hB 94 7 (by omega)).trans r7⟩⟩
  · rw [hA 0 9 (by omega) (by omega), hB 94 14 (by omega)]; exact r1
  · rw [hA 0 10 (by omega) (by omega), hB 94 15 (by omega)]; exact r2
  · rw [hA 0 11 (by omega) (by omega), hB 94 17 (by omega)]; exact r3
  · rw [hA 0 12 (by omega) (by omega)]; exact r5
def cmF (N : MM) (q : Nat) : MM := jm (jm N 86 0 0) 0 8 (nI q)
def cm0 (M : MM) (n i j : Nat) : MM := jlg (jm (jm (jcm M n i) 86 0 0) 0 8 (-1)) 1 (15 + 6 * j)
theorem cm0_n {M : MM} {n i j a c : Nat} (hj : j < 9) (h : a < 15 ∨ 69 ≤ a) (h0 : ¬ (a = 0 ∧ c = 8)) (h2 : a < 86 ∨ a = 87 ∨ 91 < a) : cm0 M n i j a c = M a c := by
  unfold cm0
  rw [jlg_n (by omega), jm_n (by omega), jm_n (by omega), jcm_n (by omega)]
theorem cm0_2 {M : MM} {n i j : Nat} (hj : j < 9) : cm0 M n i j 86 2 = nI (i + 1) := by
  unfold cm0
  rw [jlg_n (by omega), jm_n (by omega), jm_n (by omega), jcm_c]
theorem cm0_rows {M : MM} {n i j c : Nat} (hj : j < 9) (hc : c < i + 1) : jrows (cm0 M n i j) (M 87) n c := by
  have h := jcm_rows (M := M) (n := n) (i := i) hc
  have e : ∀ a, 88 ≤ a → a ≤ 91 → cm0 M n i j a c = jcm M n i a c := fun a h1 h2 => by unfold cm0; rw [jlg_n (by omega), jm_n (by omega), jm_n (by omega)]
  unfold jrows at h ⊢
  rw [e 88 (by omega) (by omega), e 89 (by omega) (by omega), e 90 (by omega) (by omega), e 91 (by omega) (by omega)]
  exact h
theorem gqp_95 {B0 : MM} {n ct c : Nat} : gqp B0 n ct c 95 = gse B0 n ct c 95 := funext fun k => by
  unfold gqp
  rw [jm_n (by omega)]
  exact gcm_like 95 k (by omega) (by omega)
theorem gqp_101 {B0 : MM} {n ct c k : Nat} : gqp B0 n ct c 101 k = gcm (gse B0 n ct c) n (ppo (B0 100) n c) 101 k := jm_n (by omega)
theorem carry_inv {t : Nat} {dr : Bool} {M M1 : MM} {n i j : Nat} (hL : rL t dr (lgC M 1) (M 95)) (hF : dr = true → rFix t M) (h1 : hiE M M1) (hj : j < 9) (hT : tsg (M 87) n = tsg (M 100) n) (hlet : ∀ c, c < i + 1 → pF (M 87) n (ppo (M 87) n c) = none) : ∀ c, c ≤ i + 1 →
    (∀ e, e < c → cref (jat12 (cm0 M n i j) e) (nn t dr) (cm0 M n i j 88 e) (cm0 M n i j 89 e) (cm0 M n i j 90 e) (cm0 M n i j 91 e) = none) →
    rL t dr (lgC (jac (cm0 M n i j) c) 1) (gse (gB0 M1 n i) n (nn t dr) c 95) ∧
    (c < i + 1 → cref (jat12 (cm0 M n i j) c) (nn t dr) (cm0 M n i j 88 c) (cm0 M n i j 89 c) (cm0 M n i j 90 c) (cm0 M n i j 91 c) = gcR (gB0 M1 n i) n (nn t dr) c ∧
      (cref (jat12 (cm0 M n i j) c) (nn t dr) (cm0 M n i j 88 c) (cm0 M n i j 89 c) (cm0 M n i j 90 c) (cm0 M n i j 91 c) = none → rL t dr (lgC (jac (cm0 M n i j) (c + 1)) 1) (gcS (gB0 M1 n i) n (nn t dr) c 95))) := by
  have e100 : gB0 M1 n i 100 = M 100 := by rw [gB0_t]; funext k; exact (jtr_at (by omega) (by omega)).trans (h1 100 k (by omega))
  -- what one command gives, once the leagues agree before it
  have one : ∀ c, c < i + 1 → rL t dr (lgC (jac (cm0 M n i j) c) 1) (gse (gB0 M1 n i) n (nn t dr) c 95) → cref (jat12 (cm0 M n i j) c) (nn t dr) (cm0 M n i j 88 c) (cm0 M n i j 89 c) (cm0 M n i j 90 c) (cm0 M n i j 91 c) = gcR (gB0 M1 n i) n (nn t dr) c ∧
      (cref (jat12 (cm0 M n i j) c) (nn t dr) (cm0 M n i j 88 c) (cm0 M n i j 89 c) (cm0 M n i j 90 c) (cm0 M n i j 91 c) = none → rL t dr (lgC (jac (cm0 M n i j) (c + 1)) 1) (gcS (gB0 M1 n i) n (nn t dr) c 95)) := fun c hc hR => by
    have hX : rL t dr (lgC (jat12 (cm0 M n i j) c) 1) (gqp (gB0 M1 n i) n (nn t dr) c 95) := rL_cells hR (fun a k _ _ => jm_n (by omega)) (fun k _ => by rw [gqp_95])
    have hfX : dr = true → rFix t (jat12 (cm0 M n i j) c) := fun hd => rFix_c (hF hd) (fun a k z1 z2 => (jat12_n (by omega)).trans (cm0_n hj (by omega) (by omega) (by omega)))
    obtain ⟨r1, r2, r3, r4⟩ := cm0_rows (M := M) (n := n) (i := i) hj hc
    have hl := pF_let (hlet c hc)
    have eT : tsg (gB0 M1 n i 100) n = tsg (M 87) n := by rw [e100]; exact hT.symm
    have ep : ppo (gB0 M1 n i 100) n c = ppo (M 87) n c := ppo_e eT c
    have ou : gqp (gB0 M1 n i) n (nn t dr) c 94 11 = tsg (M 87) n (ppo (M 87) n c) := by rw [gqp_o, ep, eT]
    have eS : tsg (gse (gB0 M1 n i) n (nn t dr) c 100) n = tsg (M 87) n := by rw [gse_t]; exact eT
    have o1 : ¬ tsg (M 87) n (ppo (M 87) n c) = 110 → gqp (gB0 M1 n i) n (nn t dr) c 101 0 = p1 (M 87) n (ppo (M 87) n c) := fun z => by
      rw [gqp_101, gcm_0, ep, eS, if_neg z, p1_e eS]
    have o2 : tsg (M 87) n (ppo (M 87) n c) = 109 ∨ tsg (M 87) n (ppo (M 87) n c) = 111 ∨ tsg (M 87) n (ppo (M 87) n c) = 116 → gqp (gB0 M1 n i) n (nn t dr) c 101 1 = p2 (M 87) n (ppo (M 87) n c) := fun z => by
      rw [gqp_101, gcm_1, ep, eS, if_neg (fun y => by rcases z with z | z | z <;> rcases y with y | y <;> (rw [z] at y; exact absurd y (by decide))), p2_e eS]
    have o3 : tsg (M 87) n (ppo (M 87) n c) = 109 ∨ tsg (M 87) n (ppo (M 87) n c) = 116 → gqp (gB0 M1 n i) n (nn t dr) c 101 2 = p3 (M 87) n (ppo (M 87) n c) := fun z => by
      rw [gqp_101, gcm_2, ep, eS, if_pos z, p3_e eS]
    rw [r1, r2, r3, r4]
    refine ⟨?_, fun hn => ?_⟩
    · unfold gcR
      rw [ou]
      exact carry_ref hX hfX o1 o2 o3 hl
    · have hA := carry_app hX hfX o1 o2 o3 hl hn
      unfold gcS
      rw [ou]
      refine rL_cells hA (fun a k _ _ => ?_) (fun _ _ => rfl)
      rw [jac_step, jat12_n (by omega), jat12_n (by omega), jat12_n (by omega), jat12_n (by omega), r1, r2, r3, r4]
  have all : ∀ c, c ≤ i + 1 → (∀ e, e < c → cref (jat12 (cm0 M n i j) e) (nn t dr) (cm0 M n i j 88 e) (cm0 M n i j 89 e) (cm0 M n i j 90 e) (cm0 M n i j 91 e) = none) → rL t dr (lgC (jac (cm0 M n i j) c) 1) (gse (gB0 M1 n i) n (nn t dr) c 95) := by
    intro c
    induction c with
    | zero =>
      intro _ _
      refine rL_cells hL (fun a k z1 z2 => cm0_n hj (by omega) (by omega) (by omega)) (fun k _ => ?_)
      show gB0 M1 n i 95 k = M 95 k
      rw [gB0_n (by omega) (by omega), jtr_at (by omega) (by omega)]
      exact h1 95 k (by omega)
    | succ c ih =>
      intro hc he
      have h := (one c (by omega) (ih (by omega) (fun e z => he e (by omega)))).2 (he c (by omega))
      refine rL_cells h (fun _ _ _ _ => rfl) (fun k _ => ?_)
      rw [gse_s, jm_n (by omega)]
  exact fun c hc he => ⟨all c hc he, fun hc2 => one c hc2 (all c hc he)⟩
theorem first_no (f : Nat → Option (Int32 × Int32)) : ∀ m, (∀ e, e < m → f e = none) ∨ ∃ e r z, e < m ∧ (∀ e2, e2 < e → f e2 = none) ∧ f e = some (r, z)
  | 0 => Or.inl fun e h => absurd h (Nat.not_lt_zero e)
  | m + 1 => by
    rcases first_no f m with h | ⟨e, r, z, h1, h2, h3⟩
    · cases c : f m with
      | none =>
        refine Or.inl fun e he => ?_
        by_cases q : e = m
        · subst q; exact c
        · exact h e (by omega)
      | some w => exact Or.inr ⟨m, w.1, w.2, by omega, h, c⟩
    · exact Or.inr ⟨e, r, z, by omega, h2, h3⟩
theorem jlg_row {Z W : MM} {a g i c : Nat} (h : ∀ q k, a ≤ q → q ≤ a + 5 → Z q k = W q k) (hi : Z i c = W i c) : jlg Z a g i c = jlg W a g i c := by
  unfold jlg
  rw [h a c (by omega) (by omega), h (a + 1) c (by omega) (by omega), h (a + 2) c (by omega) (by omega), h (a + 3) c (by omega) (by omega), h (a + 4) c (by omega) (by omega), h (a + 5) c (by omega) (by omega), hi]
theorem add4 {F a G b : Int32} : (F + a) + (G + b) = (F + G) + (a + b) := by rw [Int32.add_assoc, Int32.add_assoc, ← Int32.add_assoc a, Int32.add_comm a G, Int32.add_assoc G]
theorem jsum_lin {f g h : Nat → Int32} {w z : Int32} : ∀ n, (∀ m, m < n → f m * w + g m * z = h m) → jsum f n * w + jsum g n * z = jsum h n
  | 0, _ => by rw [jsum, jsum, jsum, Int32.zero_mul, Int32.zero_mul, Int32.add_zero]
  | n + 1, hh => by
    rw [jsum, jsum, jsum, ← jsum_lin n (fun m hm => hh m (by omega)), ← hh n (by omega), Int32.add_mul, Int32.add_mul]
    exact add4
theorem fV_lin {w z x y e : Int32} : fV w z 2 x y e * w + fV w z 3 x y e * z = fV w z 1 x y e := by
  show jb (¬ x ≤ y) * w + jb (x = y) * z = if ¬ x ≤ y then w else if x = y then z else 0
  by_cases c : ¬ x ≤ y
  · have c2 : ¬ x = y := fun q => c (by rw [q]; exact Int32.le_refl y)
    rw [if_pos c, jb_t c, jb_f c2, Int32.one_mul, Int32.zero_mul, Int32.add_zero]
  · by_cases c2 : x = y
    · rw [if_neg c, if_pos c2, jb_f c, jb_t c2, Int32.zero_mul, Int32.one_mul, Int32.zero_add]
    · rw [if_neg c, if_neg c2, jb_f c, jb_f c2, Int32.zero_mul, Int32.zero_mul, Int32.add_zero]
theorem pa_sum {t : Nat} {dr : Bool} {A B : MM} (hL : rL t dr (lgC A 1) (B 95)) {q : Nat} (hq : q < 8) : gH B (nn t dr) (nI q) 2 * A 1 4 + gH B (nn t dr) (nI q) 3 * A 1 5 = gH B (nn t dr) (nI q) 1 := by
  have g4 : A 1 4 = B 95 3 := by
    obtain ⟨z, -, z1, z2⟩ := hL.2.2.2.2.2.2.2.2.2.1
    exact (show A 1 4 = nI z from z1).trans z2.symm
  have g5 : A 1 5 = B 95 4 := by
    obtain ⟨z, -, z1, z2⟩ := hL.2.2.2.2.2.2.2.2.2.2.1
    exact (show A 1 5 = nI z from z1).trans z2.symm
  rw [g4, g5]
  refine jsum_lin _ (fun m hm => ?_)
  cases dr with
  | false => exact absurd hm (Nat.not_lt_zero m)
  | true =>
    have ht := hL.1
    obtain ⟨h, a, h1, h2, h3, -, -, h6, h7⟩ := home_r hL hm
    have z0 : ∀ w z : Int32, (0 : Int32) * w + 0 * z = 0 := fun w z => by rw [Int32.zero_mul, Int32.zero_mul, Int32.add_zero]
    by_cases e : q = h
    · subst e
      rw [has_h h6 h7 (by omega), has_h h6 h7 (by omega), has_h h6 h7 (by omega)]
      by_cases p : ¬ jof B m 4 = 1
      · rw [if_pos p, if_pos p, if_pos p]; exact z0 _ _
      · rw [if_neg p, if_neg p, if_neg p]; exact fV_lin
    · by_cases e2 : q = a
      · subst e2
        rw [has_a h6 h7 (by omega) (by omega) h3, has_a h6 h7 (by omega) (by omega) h3, has_a h6 h7 (by omega) (by omega) h3]
        by_cases p : ¬ jof B m 4 = 1
        · rw [if_pos p, if_pos p, if_pos p]; exact z0 _ _
        · rw [if_neg p, if_neg p, if_neg p]; exact fV_lin
      · rw [has_0 h6 h7 (by omega) (by omega) hq e e2, has_0 h6 h7 (by omega) (by omega) hq e e2, has_0 h6 h7 (by omega) (by omega) hq e e2]; exact z0 _ _
theorem pw_r {t : Nat} {dr : Bool} {A B : MM} (hL : rL t dr (lgC A 1) (B 95)) : A 1 4 = B 95 3 := by
  obtain ⟨z, -, z1, z2⟩ := hL.2.2.2.2.2.2.2.2.2.1
  exact (show A 1 4 = nI z from z1).trans z2.symm
theorem tied_r {t n : Nat} {M B : MM} {q : Nat} (ht : t ≤ 8) (hq : q < 8) (h : ∀ i, i < 8 → jat 8 (jcount M n 76) (nI i) = gH B n (nI i) 1) : ∀ w, w ≤ t → jtied (jcount M n) (nI q) w = gTied B n (nI q) w
  | 0, _ => rfl
  | w + 1, hw => by
    rw [jtied, gTied, tied_r ht hq h w (by omega), h w (by omega), h q hq]
theorem run_r {t : Nat} {M B : MM} (hL : rL t true (lgC M 1) (B 95)) (hF : rFix t M) (u : Int32) : ∀ m, m ≤ nT t → jrun M u m = gRun B u m
  | 0, _ => rfl
  | m + 1, hm => by
    obtain ⟨m1, m2⟩ := mt_q hL (show m < nT t by omega)
    obtain ⟨f1, f2, -⟩ := hF.2.2.1 m (by omega)
    have hh := mt_of.mp (hL.2.2.2.2.2.2.2.2.2.2.2.2 m (show m < nn t true from hm))
    rw [jrun, gRun, run_r hL hF u m (by omega)]
    by_cases c : M 5 m = -1
    · rw [if_pos c, if_pos (fun z => m1.mpr z c)]
    · rw [if_neg c, if_neg (show ¬ ¬ jof B m 4 = 1 from fun z => z (m1.mp c)), show M 70 m = jof B m 0 from f1.trans hh.1.symm, show M 71 m = jof B m 1 from f2.trans hh.2.1.symm]
      rcases hh.2.2.2.2.2 with ⟨p, g, g2, p1, p2, p3, p4, p5, p6⟩ | ⟨p, p3, p4⟩
      · rw [show M 5 m = jof B m 6 from p3.trans p4.symm, show M 6 m = jof B m 7 from p5.trans p6.symm]
      · exact absurd p3 c
theorem pairs_r {t : Nat} {dr : Bool} {A B : MM} (h : rL t dr (lgC A 1) (B 95)) (hf : dr = true → rFix t A) (w : Int32) : jpairs A (nn t dr) w = gpairs B (nn t dr) w := by
  unfold jpairs gpairs
  rw [show jsum (fPair A (nn t dr) w) (nn t dr) = jsum (gPair B (nn t dr) w) (nn t dr) from jsum_c fun m hm => by
    unfold fPair gPair
    cases dr with
    | false => exact absurd hm (Nat.not_lt_zero m)
    | true => rw [(mt_q h hm).2, cl_r h hf hm]]
theorem bye_all : ((List.range 9).all fun t => (List.range (wT t)).all fun w => decide (t < 2) || ((decide (nI t - nI t / 2 * 2 = 0) == decide (bye t w = -1)) && (decide (nI t - nI t / 2 * 2 = 0) || decide (bye t w = nI w - nI w / (gpl (nI t) - 1) * (gpl (nI t) - 1))))) = true := by decide +kernel
theorem bye_r {t w : Nat} (h2 : 2 ≤ t) (ht : t ≤ 8) (hw : w < wT t) : (nI t - nI t / 2 * 2 = 0 ↔ bye t w = -1) ∧ (¬ nI t - nI t / 2 * 2 = 0 → bye t w = nI w - nI w / (gpl (nI t) - 1) * (gpl (nI t) - 1)) := by
  have h := List.all_eq_true.mp (List.all_eq_true.mp bye_all t (List.mem_range.mpr (by omega))) w (List.mem_range.mpr hw)
  rw [decide_eq_false (by omega), Bool.false_or, Bool.and_eq_true, Bool.or_eq_true, beq_iff_eq, decide_eq_true_eq, decide_eq_true_eq, decide_eq_decide] at h
  exact ⟨h.1, fun q => h.2.resolve_left q⟩
theorem jt1_go {t : Nat} {M B : MM} (hL : rL t true (lgC M 1) (B 95)) : ∀ m, m ≤ nT t → jt1 M m 75 1 = jsum (gGoals B) m
  | 0, _ => by simp [jt1, jclear, jfill, jm, jsum]
  | m + 1, hm => by
    have ih := jt1_go hL m (by omega)
    rw [jt1, jsum, ← ih]
    unfold gGoals
    rcases (mt_of.mp (hL.2.2.2.2.2.2.2.2.2.2.2.2 m (show m < nn t true from hm))).2.2.2.2.2 with ⟨p, g, g2, p1, p2, p3, p4, p5, p6⟩ | ⟨p, p3, p4⟩
    · rw [if_neg (by rw [p3]; exact nI_nm1 (by omega)), if_pos p, jpts_n (by omega), p3, p5, p4, p6]
      unfold jap
      rw [jraise_n (by omega), jag_n (by omega), jag_n (by omega), jm_n (by omega), jm_s]
    · rw [if_pos p3, if_neg (by rw [p]; decide), jraise_n (by omega), jraise_n (by omega), Int32.add_zero]
theorem jt1_hw {t : Nat} {M B : MM} (hL : rL t true (lgC M 1) (B 95)) : ∀ m, m ≤ nT t → jt1 M m 75 2 = jsum (gHw B) m
  | 0, _ => by simp [jt1, jclear, jfill, jm, jsum]
  | m + 1, hm => by
    have ih := jt1_hw hL m (by omega)
    rw [jt1, jsum, ← ih]
    unfold gHw
    rcases (mt_of.mp (hL.2.2.2.2.2.2.2.2.2.2.2.2 m (show m < nn t true from hm))).2.2.2.2.2 with ⟨p, g, g2, p1, p2, p3, p4, p5, p6⟩ | ⟨p, p3, p4⟩
    · rw [if_neg (by rw [p3]; exact nI_nm1 (by omega)), jpts_n (by omega), p3, p5, p4, p6]
      unfold jap
      rw [jraise_n (by omega), jag_n (by omega), jag_n (by omega), jm_s]
      congr 1
      by_cases c : ¬ nI g ≤ nI g2
      · rw [jb_t c, jb_t ⟨p, c⟩]
      · rw [jb_f c, jb_f (fun z => c z.2)]
    · rw [if_pos p3, jb_f (fun z => by rw [p] at z; exact absurd z.1 (by decide)), jraise_n (by omega), jraise_n (by omega), Int32.add_zero]
theorem go_r {t : Nat} {dr : Bool} {M B : MM} (hL : rL t dr (lgC M 1) (B 95)) : jcount M (nn t dr) 75 1 = jsum (gGoals B) (nn t dr) := by
  unfold jcount
  rw [jt2_n (by omega)]
  cases dr with
  | false => simp [nn, jt1, jclear, jfill, jm, jsum]
  | true => exact jt1_go hL _ (Nat.le_refl _)
theorem hw_r {t : Nat} {dr : Bool} {M B : MM} (hL : rL t dr (lgC M 1) (B 95)) : jcount M (nn t dr) 75 2 = jsum (gHw B) (nn t dr) := by
  unfold jcount
  rw [jt2_n (by omega)]
  cases dr with
  | false => simp [nn, jt1, jclear, jfill, jm, jsum]
  | true => exact jt1_hw hL _ (Nat.le_refl _)
theorem put_c {t : Nat} {dr : Bool} {A B : MM} (hL : rL t dr (lgC A 1) (B 95)) (hF : dr = true → rFix t A) : jsum (fPut A) (nn t dr) = jsum (gPutC B) (nn t dr) := jsum_c fun m hm => by
  cases dr with
  | false => exact absurd hm (Nat.not_lt_zero m)
  | true =>
    have hw := wT_le hL.1
    obtain ⟨h1, h2, h3, h4, ⟨w0, w1, k1, k2, k3, k4, k5⟩, h6⟩ := mt_of.mp (hL.2.2.2.2.2.2.2.2.2.2.2.2 m hm)
    have f3 := ((hF rfl).2.2.1 m hm).2.2
    unfold fPut gPutC jhow
    rcases h6 with ⟨p, g, g2, p1, p2, p3, p4, p5, p6⟩ | ⟨p, p3, p4⟩
    · rw [if_pos p, jb_f (fun z => by rw [p3] at z; exact nI_nm1 (by omega) z.1), jb_f (by decide)]
    · rw [if_neg (by rw [p]; decide), k5, f3, h4, k1, k2]
      by_cases c : w0 = w1
      · subst c; rw [if_pos rfl, jb_f (fun z => z.2 rfl), jb_f (by decide)]
      · rw [if_neg c, jb_t ⟨p3, fun z => c ((nI_eq (by omega) (by omega)).mp z).symm⟩, jb_t (by decide)]
theorem pd_r {t : Nat} {dr : Bool} {A B : MM} (hL : rL t dr (lgC A 1) (B 95)) : A 1 5 = B 95 4 := by
  obtain ⟨z, -, z1, z2⟩ := hL.2.2.2.2.2.2.2.2.2.2.1
  exact (show A 1 5 = nI z from z1).trans z2.symm
theorem bt_or : ∀ w, w < 8 → ∀ S, S < 2 ^ w → nI S ||| ((1 : Int32) <<< (nI w &&& 31)) = nI (S + 2 ^ w) := by decide +kernel
theorem bt_get : ∀ a, a < 8 → ∀ S, S < 256 → ((nI S >>> (nI a &&& 31)) &&& 1 = 0 ↔ S / 2 ^ a % 2 = 0) := by decide +kernel
theorem bt_add : ∀ w, w < 8 → ∀ S, S < 2 ^ w → ∀ a, a < 8 → ((S + 2 ^ w) / 2 ^ a % 2 = 0 ↔ (¬ a = w ∧ S / 2 ^ a % 2 = 0)) := by decide +kernel
theorem bt_lt : ∀ w, w < 9 → 2 ^ w ≤ 256 := by decide
theorem tied_S {B : MM} {n : Nat} {u : Int32} : ∀ w, w ≤ 8 → ∃ S, S < 2 ^ w ∧ gTied B n u w = nI S ∧ ∀ a, a < 8 → (S / 2 ^ a % 2 = 0 ↔ ¬ (a < w ∧ gH B n (nI a) 1 = gH B n u 1))
  | 0, _ => ⟨0, by decide, rfl, fun a _ => ⟨fun _ z => Nat.not_lt_zero a z.1, fun _ => by rw [Nat.zero_div]⟩⟩
  | w + 1, hw => by
    obtain ⟨S, h1, h2, h3⟩ := tied_S w (by omega)
    rw [gTied]
    by_cases c : gH B n (nI w) 1 = gH B n u 1
    · refine ⟨S + 2 ^ w, by rw [Nat.pow_succ]; omega, by rw [if_pos c, h2]; exact bt_or w (by omega) S h1, fun a ha => ?_⟩
      rw [bt_add w (by omega) S h1 a ha, h3 a ha]
      constructor
      · rintro ⟨q1, q2⟩ ⟨q3, q4⟩
        exact q2 ⟨by omega, q4⟩
      · intro q
        exact ⟨fun z => q ⟨by omega, by rw [z]; exact c⟩, fun z => q ⟨by omega, z.2⟩⟩
    · refine ⟨S, by rw [Nat.pow_succ]; omega, by rw [if_neg c]; exact h2, fun a ha => ?_⟩
      rw [h3 a ha]
      constructor
      · rintro q1 ⟨q3, q4⟩
        by_cases e : a = w
        · subst e; exact c q4
        · exact q1 ⟨by omega, q4⟩
      · intro q z
        exact q ⟨by omega, z.2⟩
theorem tied_bit {B : MM} {n : Nat} {u : Int32} {a w : Nat} (hw : w ≤ 8) (ha : a < 8) : (gTied B n u w >>> (nI a &&& 31)) &&& 1 = 0 ↔ ¬ (a < w ∧ gH B n (nI a) 1 = gH B n u 1) := by
  obtain ⟨S, h1, h2, h3⟩ := tied_S (B := B) (n := n) (u := u) w hw
  rw [h2, bt_get a ha S (Nat.lt_of_lt_of_le h1 (bt_lt w (by omega)))]
  exact h3 a ha
theorem has_hs {B : MM} {m h a k : Nat} {s : Int32} (h0 : jof B m 0 = nI h) (h1 : jof B m 1 = nI a) (hb : ¬ (s >>> (nI a &&& 31)) &&& 1 = 0) : fHas B (nI h) k s m = if ¬ jof B m 4 = 1 then (if k = 8 then 1 else 0) else fV (B 95 3) (B 95 4) k (jof B m 6) (jof B m 7) 0 := by
  unfold fHas fV
  rw [if_neg (fun z => z.1 h0)]
  simp only [if_pos h0]
  rw [h1, if_neg hb]
theorem has_hz {B : MM} {m h a k : Nat} {s : Int32} (h0 : jof B m 0 = nI h) (h1 : jof B m 1 = nI a) (hb : (s >>> (nI a &&& 31)) &&& 1 = 0) : fHas B (nI h) k s m = 0 := by
  unfold fHas
  rw [if_neg (fun z => z.1 h0)]
  simp only [if_pos h0]
  rw [h1, if_pos hb]
theorem has_as {B : MM} {m h a k : Nat} {s : Int32} (h0 : jof B m 0 = nI h) (h1 : jof B m 1 = nI a) (hh : h < 8) (ha : a < 8) (hne : h ≠ a) (hb : ¬ (s >>> (nI h &&& 31)) &&& 1 = 0) : fHas B (nI a) k s m = if ¬ jof B m 4 = 1 then (if k = 8 then 1 else 0) else fV (B 95 3) (B 95 4) k (jof B m 7) (jof B m 6) (jof B m 7) := by
  have hn : ¬ jof B m 0 = nI a := by rw [h0]; exact fun z => hne ((nI_eq (by omega) (by omega)).mp z)
  unfold fHas fV
  rw [if_neg (fun z => z.2 h1)]
  simp only [if_neg hn]
  rw [h0, if_neg hb]
theorem has_az {B : MM} {m h a k : Nat} {s : Int32} (h0 : jof B m 0 = nI h) (h1 : jof B m 1 = nI a) (hh : h < 8) (ha : a < 8) (hne : h ≠ a) (hb : (s >>> (nI h &&& 31)) &&& 1 = 0) : fHas B (nI a) k s m = 0 := by
  have hn : ¬ jof B m 0 = nI a := by rw [h0]; exact fun z => hne ((nI_eq (by omega) (by omega)).mp z)
  unfold fHas
  rw [if_neg (fun z => z.2 h1)]
  simp only [if_neg hn]
  rw [h0, if_pos hb]
theorem has_0s {B : MM} {m h a k q : Nat} {s : Int32} (h0 : jof B m 0 = nI h) (h1 : jof B m 1 = nI a) (hh : h < 8) (ha : a < 8) (hq : q < 8) (n1 : q ≠ h) (n2 : q ≠ a) : fHas B (nI q) k s m = 0 := by
  unfold fHas
  rw [if_pos ⟨by rw [h0]; exact fun z => n1 ((nI_eq (by omega) (by omega)).mp z).symm, by rw [h1]; exact fun z => n2 ((nI_eq (by omega) (by omega)).mp z).symm⟩]
theorem has_s_or {t : Nat} {A B : MM} (hL : rL t true (lgC A 1) (B 95)) {q m k : Nat} {s : Int32} (hq : q < 8) (hm : m < nT t) : fHas B (nI q) k s m = 0 ∨ fHas B (nI q) k s m = fHas B (nI q) k (-1) m := by
  have ht := hL.1
  obtain ⟨h, a, h1, h2, h3, h4, h5, h6, h7⟩ := home_r hL hm
  by_cases e : q = h
  · subst e
    by_cases c : (s >>> (nI a &&& 31)) &&& 1 = 0
    · exact Or.inl (has_hz h6 h7 c)
    · exact Or.inr ((has_hs h6 h7 c).trans (has_h h6 h7 (by omega)).symm)
  · by_cases e2 : q = a
    · subst e2
      by_cases c : (s >>> (nI h &&& 31)) &&& 1 = 0
      · exact Or.inl (has_az h6 h7 (by omega) (by omega) h3 c)
      · exact Or.inr ((has_as h6 h7 (by omega) (by omega) h3 c).trans (has_a h6 h7 (by omega) (by omega) h3).symm)
    · exact Or.inl (has_0s h6 h7 (by omega) (by omega) hq e e2)
theorem has_np {B : MM} {m : Nat} {u s : Int32} (h : ¬ jof B m 4 = 1) : fHas B u 1 s m = 0 := by
  unfold fHas
  by_cases c : ¬ jof B m 0 = u ∧ ¬ jof B m 1 = u
  · rw [if_pos c]
  · rw [if_neg c, if_pos h, if_neg (show ¬ (1 : Nat) = 8 by decide), ite_self]
theorem pts_at {X : MM} {i h a g g2 q : Nat} {w z : Int32} (hh : h < 8) (ha : a < 8) (hne : h ≠ a) (hg : g ≤ 20) (hg2 : g2 ≤ 20) : jpts X i (nI h) (nI a) (nI g) (nI g2) w z i q = X i q + (if q = h then fV w z 1 (nI g) (nI g2) 0 else if q = a then fV w z 1 (nI g2) (nI g) (nI g2) else 0) := by
  have le1 : nI g ≤ nI g2 ↔ g ≤ g2 := by rw [Int32.le_iff_toInt_le, nI_toInt (by omega), nI_toInt (by omega)]; omega
  have le2 : nI g2 ≤ nI g ↔ g2 ≤ g := by rw [Int32.le_iff_toInt_le, nI_toInt (by omega), nI_toInt (by omega)]; omega
  have eq1 : nI g = nI g2 ↔ g = g2 := nI_eq (by omega) (by omega)
  have eq2 : nI g2 = nI g ↔ g2 = g := nI_eq (by omega) (by omega)
  unfold jpts fV
  rw [if_pos rfl, if_pos rfl]
  by_cases e : g = g2
  · have e1 : (if ¬ nI g ≤ nI g2 then w else if nI g = nI g2 then z else 0) = z := by rw [if_neg (fun y => y (le1.mpr (by omega))), if_pos (eq1.mpr e)]
    have e2 : (if ¬ nI g2 ≤ nI g then w else if nI g2 = nI g then z else 0) = z := by rw [if_neg (fun y => y (le2.mpr (by omega))), if_pos (eq2.mpr e.symm)]
    rw [e1, e2, if_pos ((nI_sub0 hg hg2).1.mpr e), raise_at ha, raise_at hh, if_ha hne]
  · rw [if_neg (fun y => e ((nI_sub0 hg hg2).1.mp y))]
    by_cases c : g ≤ g2
    · have e1 : (if ¬ nI g ≤ nI g2 then w else if nI g = nI g2 then z else 0) = 0 := by rw [if_neg (fun y => y (le1.mpr c)), if_neg (fun y => e (eq1.mp y))]
      have e2 : (if ¬ nI g2 ≤ nI g then w else if nI g2 = nI g then z else 0) = w := if_pos (fun y => by have := le2.mp y; omega)
      rw [e1, e2, if_pos ((nI_sub0 hg hg2).2.mpr c), raise_at ha]
      by_cases c1 : q = h
      · subst c1; rw [if_neg hne, if_pos rfl, Int32.add_zero]
      · rw [if_neg c1]
        by_cases c2 : q = a
        · rw [if_pos c2, if_pos c2]
        · rw [if_neg c2, if_neg c2, Int32.add_zero]
    · have e1 : (if ¬ nI g ≤ nI g2 then w else if nI g = nI g2 then z else 0) = w := if_pos (fun y => c (le1.mp y))
      have e2 : (if ¬ nI g2 ≤ nI g then w else if nI g2 = nI g then z else 0) = 0 := by rw [if_neg (fun y => y (le2.mpr (by omega))), if_neg (fun y => e (eq2.mp y).symm)]
      rw [e1, e2, if_neg (fun y => c ((nI_sub0 hg hg2).2.mp y)), raise_at hh]
      by_cases c1 : q = h
      · rw [if_pos c1, if_pos c1]
      · rw [if_neg c1, if_neg c1]
        by_cases c2 : q = a
        · rw [if_pos c2, Int32.add_zero]
        · rw [if_neg c2, Int32.add_zero]
theorem jt1_84 {A : MM} {q : Nat} (hq : q < 8) : ∀ m, jt1 A m 84 q = 0
  | 0 => jclear_r (by omega) hq
  | m + 1 => by
    rw [jt1]
    split
    · rw [jraise_n (by omega), jraise_n (by omega)]; exact jt1_84 hq m
    · rw [jpts_n (by omega), jap_n (by omega)]; exact jt1_84 hq m
theorem dir_sum {t : Nat} {A B : MM} (hL : rL t true (lgC A 1) (B 95)) (hF : rFix t A) {q : Nat} (hq : q < 8) : ∀ m, m ≤ nT t → jt2 A (nT t) m 84 q = jsum (fHas B (nI q) 1 (gTied B (nT t) (nI q) t)) m
  | 0, _ => jt1_84 hq _
  | m + 1, hm => by
    have ih := dir_sum hL hF hq m (by omega)
    obtain ⟨h, a, h1, h2, h3, h4, h5, h6, h7⟩ := home_r hL (show m < nT t by omega)
    obtain ⟨f1, f2, -⟩ := hF.2.2.1 m (by omega)
    have ht := hL.1
    have g4 : A 1 4 = B 95 3 := by
      obtain ⟨z, -, z1, z2⟩ := hL.2.2.2.2.2.2.2.2.2.1
      exact (show A 1 4 = nI z from z1).trans z2.symm
    have g5 : A 1 5 = B 95 4 := by
      obtain ⟨z, -, z1, z2⟩ := hL.2.2.2.2.2.2.2.2.2.2.1
      exact (show A 1 5 = nI z from z1).trans z2.symm
    have hP : ∀ i, i < 8 → jat 8 (jt1 A (nT t) 76) (nI i) = gH B (nT t) (nI i) 1 := fun i hi => by
      rw [jat_nI hi (by decide)]
      exact tl_sum hL hF (k := 1) (by omega) (by omega) hi _ (Nat.le_refl _)
    have hb : ∀ x, x < 8 → ((gTied B (nT t) (nI q) t >>> (nI x &&& 31)) &&& 1 = 0 ↔ ¬ (x < t ∧ gH B (nT t) (nI x) 1 = gH B (nT t) (nI q) 1)) := fun x hx => tied_bit ht hx
    rw [jsum, ← ih]
    rcases (mt_of.mp (hL.2.2.2.2.2.2.2.2.2.2.2.2 m (show m < nn t true from hm))).2.2.2.2.2 with ⟨p, g, g2, p1, p2, p3, p4, p5, p6⟩ | ⟨p, p3, p4⟩
    · rw [jt2, if_neg (by rw [p3]; exact nI_nm1 (by omega)), f1.trans h4, f2.trans h5, hP h (by omega), hP a (by omega), p3, p5]
      by_cases e : gH B (nT t) (nI h) 1 = gH B (nT t) (nI a) 1
      · rw [if_pos e, pts_at (by omega) (by omega) h3 p1 p2]
        congr 1
        by_cases c : q = h
        · subst c; rw [if_pos rfl, has_hs h6 h7 (fun z => (hb a (by omega)).mp z ⟨by omega, e.symm⟩), if_neg (fun z => z p), g4, g5, p4, p6]
        · by_cases c2 : q = a
          · subst c2; rw [if_neg c, if_pos rfl, has_as h6 h7 (by omega) (by omega) h3 (fun z => (hb h (by omega)).mp z ⟨by omega, e⟩), if_neg (fun z => z p), g4, g5, p4, p6]
          · rw [if_neg c, if_neg c2, has_0s h6 h7 (by omega) (by omega) hq c c2]
      · rw [if_neg e]
        have h0 : fHas B (nI q) 1 (gTied B (nT t) (nI q) t) m = 0 := by
          by_cases c : q = h
          · subst c; exact has_hz h6 h7 ((hb a (by omega)).mpr (fun z => e z.2.symm))
          · by_cases c2 : q = a
            · subst c2; exact has_az h6 h7 (by omega) (by omega) h3 ((hb h (by omega)).mpr (fun z => e z.2))
            · exact has_0s h6 h7 (by omega) (by omega) hq c c2
        rw [h0, Int32.add_zero]
    · have p' : ¬ jof B m 4 = 1 := by rw [p]; decide
      rw [jt2, if_pos p3, has_np p', Int32.add_zero]
theorem dir_r {t : Nat} {dr : Bool} {A B : MM} (hL : rL t dr (lgC A 1) (B 95)) (hF : dr = true → rFix t A) {q : Nat} (hq : q < 8) : jcount A (nn t dr) 84 q = jsum (fHas B (nI q) 1 (gTied B (nn t dr) (nI q) t)) (nn t dr) := by
  unfold jcount
  cases dr with
  | false => exact jt1_84 hq 0
  | true => exact dir_sum hL (hF rfl) hq _ (Nat.le_refl _)
theorem wo_r {t : Nat} {dr : Bool} {A B : MM} (hL : rL t dr (lgC A 1) (B 95)) (hF : dr = true → rFix t A) {q : Nat} (hq : q < 8) {v : Int32} (hv : r04 v) : jwo (jcount A (nn t dr)) (nI q) v = gRule B (nn t dr) t (nI q) v := by
  have hta : ∀ k, 1 ≤ k → k ≤ 8 → jat 8 (jcount A (nn t dr) (75 + k)) (nI q) = gH B (nn t dr) (nI q) k := fun k k1 k2 => by rw [jat_nI hq (by decide)]; exact tally_r hL hF k1 k2 hq
  have h77 : jat 8 (jcount A (nn t dr) 77) (nI q) = gH B (nn t dr) (nI q) 2 := hta 2 (by omega) (by omega)
  have h80 : jat 8 (jcount A (nn t dr) 80) (nI q) = gH B (nn t dr) (nI q) 5 := hta 5 (by omega) (by omega)
  have h81 : jat 8 (jcount A (nn t dr) 81) (nI q) = gH B (nn t dr) (nI q) 6 := hta 6 (by omega) (by omega)
  have h82 : jat 8 (jcount A (nn t dr) 82) (nI q) = gH B (nn t dr) (nI q) 7 := hta 7 (by omega) (by omega)
  have h84 : jat 8 (jcount A (nn t dr) 84) (nI q) = jsum (fHas B (nI q) 1 (gTied B (nn t dr) (nI q) t)) (nn t dr) := by rw [jat_nI hq (by decide)]; exact dir_r hL hF hq
  unfold jwo gRule
  rw [h77, h80, h81, h82, h84]
theorem sub_toInt {x y : Int32} (hx : -10000 < x.toInt ∧ x.toInt < 10000) (hy : -10000 < y.toInt ∧ y.toInt < 10000) : (x - y).toInt = x.toInt - y.toInt := by
  rw [Int32.toInt_sub]
  exact Int.bmod_eq_of_le (by omega) (by omega)
theorem gH_bd {t : Nat} {dr : Bool} {A B : MM} (hL : rL t dr (lgC A 1) (B 95)) {k q : Nat} (hq : q < 8) : -1 < (gH B (nn t dr) (nI q) k).toInt ∧ (gH B (nn t dr) (nI q) k).toInt < 10000 := by
  obtain ⟨v, h1, h2⟩ := gH_le hL (k := k) hq
  rw [h2, nI_toInt (by omega)]
  omega
theorem dir_bd {t : Nat} {dr : Bool} {A B : MM} (hL : rL t dr (lgC A 1) (B 95)) {q : Nat} {s : Int32} (hq : q < 8) : -1 < (jsum (fHas B (nI q) 1 s) (nn t dr)).toInt ∧ (jsum (fHas B (nI q) 1 s) (nn t dr)).toInt < 10000 := by
  have hn := nn_le (dr := dr) hL.1
  obtain ⟨v, h1, h2⟩ := jsum_le (f := fHas B (nI q) 1 s) (nn t dr) (fun m hm => by
    cases dr with
    | false => exact absurd hm (Nat.not_lt_zero m)
    | true =>
      rcases has_s_or (k := 1) (s := s) hL hq hm with e | e
      · exact ⟨0, by omega, e⟩
      · rw [e]; exact has_le hL hq hm)
  rw [h2, nI_toInt (by omega)]
  omega
theorem rule_bd {t : Nat} {dr : Bool} {A B : MM} (hL : rL t dr (lgC A 1) (B 95)) {q : Nat} (hq : q < 8) {v : Int32} (hv : r04 v) : -10000 < (gRule B (nn t dr) t (nI q) v).toInt ∧ (gRule B (nn t dr) t (nI q) v).toInt < 10000 := by
  have h2 := gH_bd (k := 2) hL hq
  have h5 := gH_bd (k := 5) hL hq
  have h6 := gH_bd (k := 6) hL hq
  have h7 := gH_bd (k := 7) hL hq
  have h8 := dir_bd (s := gTied B (nn t dr) (nI q) t) hL hq
  unfold gRule
  rcases hv with rfl | rfl | rfl | rfl | rfl
  · rw [if_pos rfl, sub_toInt (by omega) (by omega)]; omega
  · rw [if_neg (by decide), if_pos rfl]; omega
  · rw [if_neg (by decide), if_neg (by decide), if_pos rfl]; omega
  · rw [if_neg (by decide), if_neg (by decide), if_neg (by decide), if_pos rfl]; omega
  · rw [if_neg (by decide), if_neg (by decide), if_neg (by decide), if_neg (by decide)]; omega
theorem rL_ru {t : Nat} {dr : Bool} {M B : MM} (h : rL t dr (lgC M 1) (B 95)) {r : Nat} (hr : r ≤ 3) (h6 : M 1 6 = nI r) : ∀ i, i < r → M 3 i = B 95 (6 + i) ∧ r04 (M 3 i) := by
  obtain ⟨c, e1, e2, e3, e4⟩ := h.2.2.2.2.2.2.2.2.2.2.2.1
  have e5 : M 1 6 = nI c := e2
  have e : c = r := (nI_eq (by omega) (by omega)).mp (e5.symm.trans h6)
  subst e
  exact e4
theorem ah_r {t : Nat} {dr : Bool} {M B : MM} (hL : rL t dr (lgC M 1) (B 95)) (hF : dr = true → rFix t M) {r : Nat} (hru : ∀ i, i < r → M 3 i = B 95 (6 + i) ∧ r04 (M 3 i)) {u v : Nat} (hu : u < 8) (hv : v < 8) : jah (jcount M (nn t dr)) r (nI u) (nI v) = gAh B (nn t dr) t r (nI u) (nI v) := by
  have h76 : ∀ q, q < 8 → jat 8 (jcount M (nn t dr) 76) (nI q) = gH B (nn t dr) (nI q) 1 := fun q hq => by rw [jat_nI hq (by decide)]; exact tally_r (k := 1) hL hF (by omega) (by omega) hq
  have h : ∀ i, i ≤ r → jlead (jcount M (nn t dr)) (nI u) (nI v) i = gLead B (nn t dr) t (nI u) (nI v) i := by
    intro i
    induction i with
    | zero => intro _; rw [jlead, gLead, h76 u hu, h76 v hv]
    | succ i ih => intro hi; rw [jlead, gLead, ih (by omega), jcount_n (i := 3) (by omega), wo_r hL hF hu (hru i (by omega)).2, wo_r hL hF hv (hru i (by omega)).2, (hru i (by omega)).1]
  unfold jah gAh
  rw [h r (Nat.le_refl _)]
def gKey (M : MM) (n w u : Nat) : Nat → Int
  | 0 => (gH M n (nI u) 1).toInt
  | i + 1 => gKey M n w u i * 100000 + (gRule M n w (nI u) (M 95 (6 + i))).toInt
def gK (M : MM) (n w r u : Nat) : Int := gKey M n w u r * 10 + (7 - (u : Int))
theorem lead_key {M : MM} {n w u v r : Nat} (h0 : -10000 < (gH M n (nI u) 1).toInt ∧ (gH M n (nI u) 1).toInt < 10000) (h1 : -10000 < (gH M n (nI v) 1).toInt ∧ (gH M n (nI v) 1).toInt < 10000)
    (hr : ∀ i, i < r → (-10000 < (gRule M n w (nI u) (M 95 (6 + i))).toInt ∧ (gRule M n w (nI u) (M 95 (6 + i))).toInt < 10000) ∧ (-10000 < (gRule M n w (nI v) (M 95 (6 + i))).toInt ∧ (gRule M n w (nI v) (M 95 (6 + i))).toInt < 10000)) :
    ∀ i, i ≤ r → (gLead M n w (nI u) (nI v) i = 0 ↔ gKey M n w u i = gKey M n w v i) ∧ (gLead M n w (nI u) (nI v) i ≤ 0 ↔ gKey M n w u i ≤ gKey M n w v i) := by
  have z0 : (0 : Int32).toInt = 0 := by decide
  intro i
  induction i with
  | zero =>
    intro _
    rw [gLead, gKey, gKey]
    refine ⟨?_, ?_⟩
    · rw [← Int32.toInt_inj, sub_toInt h0 h1, z0]; omega
    · rw [Int32.le_iff_toInt_le, sub_toInt h0 h1, z0]; omega
  | succ i ih =>
    intro hi
    obtain ⟨e1, e2⟩ := ih (by omega)
    obtain ⟨b1, b2⟩ := hr i (by omega)
    have s := sub_toInt b1 b2
    rw [gLead, gKey, gKey]
    by_cases c : gLead M n w (nI u) (nI v) i = 0
    · have k := e1.mp c
      rw [if_pos c, k]
      refine ⟨?_, ?_⟩
      · rw [← Int32.toInt_inj, s, z0]; omega
      · rw [Int32.le_iff_toInt_le, s, z0]; omega
    · have k : ¬ gKey M n w u i = gKey M n w v i := fun z => c (e1.mpr z)
      rw [if_neg c]
      refine ⟨⟨fun z => absurd z c, fun z => ?_⟩, ⟨fun z => ?_, fun z => ?_⟩⟩
      · exfalso; omega
      · have := e2.mp z; omega
      · exact e2.mpr (by omega)
theorem ah_K {t : Nat} {dr : Bool} {M B : MM} (hL : rL t dr (lgC M 1) (B 95)) {r : Nat} (hru : ∀ i, i < r → M 3 i = B 95 (6 + i) ∧ r04 (M 3 i)) {u v : Nat} (hu : u < 8) (hv : v < 8) : gAh B (nn t dr) t r (nI u) (nI v) = 0 ↔ gK B (nn t dr) t r u ≤ gK B (nn t dr) t r v := by
  have hbd : ∀ q, q < 8 → -10000 < (gH B (nn t dr) (nI q) 1).toInt ∧ (gH B (nn t dr) (nI q) 1).toInt < 10000 := fun q hq => by have := gH_bd (k := 1) hL hq; omega
  have h04 : ∀ i, i < r → r04 (B 95 (6 + i)) := fun i hi => by rw [← (hru i hi).1]; exact (hru i hi).2
  obtain ⟨e1, e2⟩ := lead_key (w := t) (r := r) (hbd u hu) (hbd v hv) (fun i hi => ⟨rule_bd hL hu (h04 i hi), rule_bd hL hv (h04 i hi)⟩) r (Nat.le_refl _)
  unfold gAh gK
  by_cases c : gLead B (nn t dr) t (nI u) (nI v) r = 0
  · have k := e1.mp c
    rw [if_pos c]
    by_cases d : nI v ≤ nI u
    · rw [jb_f (fun z => z d)]
      rw [Int32.le_iff_toInt_le, nI_toInt (by omega), nI_toInt (by omega)] at d
      exact ⟨fun _ => by omega, fun _ => rfl⟩
    · rw [jb_t d]
      rw [Int32.le_iff_toInt_le, nI_toInt (by omega), nI_toInt (by omega)] at d
      exact ⟨fun z => absurd z (by decide), fun z => by exfalso; omega⟩
  · have k : ¬ gKey B (nn t dr) t u r = gKey B (nn t dr) t v r := fun z => c (e1.mpr z)
    rw [if_neg c]
    by_cases d : gLead B (nn t dr) t (nI u) (nI v) r ≤ 0
    · rw [jb_f (fun z => z d)]
      have d2 := e2.mp d
      exact ⟨fun _ => by omega, fun _ => rfl⟩
    · rw [jb_t d]
      have d2 : ¬ gKey B (nn t dr) t u r ≤ gKey B (nn t dr) t v r := fun z => d (e2.mpr z)
      exact ⟨fun z => absurd z (by decide), fun z => by exfalso; omega⟩
theorem gK_inj {B : MM} {n t r u v : Nat} (hu : u < 8) (hv : v < 8) (h : gK B n t r u = gK B n t r v) : u = v := by
  unfold gK at h
  omega
theorem place_r {t : Nat} {dr : Bool} {M B : MM} (hL : rL t dr (lgC M 1) (B 95)) (hF : dr = true → rFix t M) {r : Nat} (hru : ∀ i, i < r → M 3 i = B 95 (6 + i) ∧ r04 (M 3 i)) {q : Nat} (hq : q < 8) : jsum (fPlace (jcount M (nn t dr)) r (nI q)) t = jsum (fgPl B (nn t dr) t r (nI q)) t := jsum_c fun i hi => by
  have ht := hL.1
  unfold fPlace fgPl
  rw [ah_r hL hF hru (by omega) hq]
  by_cases e : nI i = nI q
  · rw [e, if_pos ((ah_K hL hru hq hq).mpr (Int.le_refl _)), if_pos rfl]
  · rw [if_neg e]
def cnB (f : Nat → Bool) : Nat → Nat
  | 0 => 0
  | n + 1 => cnB f n + (if f n = true then 1 else 0)
theorem cn_le {f g : Nat → Bool} : ∀ n, (∀ k, k < n → f k = true → g k = true) → cnB f n ≤ cnB g n
  | 0, _ => Nat.le_refl _
  | n + 1, h => by
    have ih := cn_le n (fun k hk => h k (by omega))
    rw [cnB, cnB]
    by_cases c : f n = true
    · rw [if_pos c, if_pos (h n (by omega) c)]; omega
    · rw [if_neg c]; omega
theorem cn_lt {f g : Nat → Bool} : ∀ n, (∀ k, k < n → f k = true → g k = true) → ∀ i, i < n → ¬ f i = true → g i = true → cnB f n < cnB g n
  | 0, _, i, hi, _, _ => absurd hi (Nat.not_lt_zero i)
  | n + 1, h, i, hi, h1, h2 => by
    rw [cnB, cnB]
    by_cases e : i = n
    · subst e
      have ih := cn_le i (fun k hk => h k (by omega))
      rw [if_neg h1, if_pos h2]; omega
    · have ih := cn_lt n (fun k hk => h k (by omega)) i (by omega) h1 h2
      by_cases c : f n = true
      · rw [if_pos c, if_pos (h n (by omega) c)]; omega
      · rw [if_neg c]; omega
theorem cn_n {f : Nat → Bool} : ∀ n, cnB f n ≤ n
  | 0 => Nat.le_refl _
  | n + 1 => by
    have := cn_n (f := f) n
    rw [cnB]
    split <;> omega
def pos (K : Nat → Int) (j i : Nat) : Nat := cnB (fun k => decide (K i < K k)) j
theorem pos_s {K : Nat → Int} {j i : Nat} : pos K (j + 1) i = pos K j i + (if K i < K j then 1 else 0) := by
  unfold pos
  rw [cnB]
  by_cases c : K i < K j
  · rw [if_pos c, if_pos (decide_eq_true c)]
  · rw [if_neg c, if_neg (by rw [decide_eq_true_eq]; exact c)]
theorem pos_lt {K : Nat → Int} {j i i2 : Nat} (hi : i < j) (h : K i2 < K i) : pos K j i < pos K j i2 :=
  cn_lt j (fun k _ z => by rw [decide_eq_true_eq] at z ⊢; omega) i hi (by rw [decide_eq_true_eq]; omega) (by rw [decide_eq_true_eq]; exact h)
theorem pos_le {K : Nat → Int} {j i i2 : Nat} (h : K i2 ≤ K i) : pos K j i ≤ pos K j i2 :=
  cn_le j (fun k _ z => by rw [decide_eq_true_eq] at z ⊢; omega)
theorem pos_j {K : Nat → Int} {j i : Nat} : pos K j i ≤ j := cn_n j
theorem cn_all : ∀ n, cnB (fun _ => true) n = n
  | 0 => rfl
  | n + 1 => by rw [cnB, cn_all n, if_pos rfl]
theorem pos_ltj {K : Nat → Int} {j i : Nat} (hi : i < j) : pos K j i < j := by
  have h := cn_lt (f := fun k => decide (K i < K k)) (g := fun _ => true) j (fun _ _ _ => rfl) i hi (by rw [decide_eq_true_eq]; omega) rfl
  rw [cn_all] at h
  exact h
theorem jah_e {M N : MM} (h : ∀ i k, i ≠ 85 → N i k = M i k) {r : Nat} {u v : Int32} : jah N r u v = jah M r u v := by
  have e : ∀ i, i ≠ 85 → N i = M i := fun i hi => funext fun k => h i k hi
  have hl : ∀ i, jlead N u v i = jlead M u v i := by
    intro i
    induction i with
    | zero => rw [jlead, jlead, e 76 (by decide)]
    | succ i ih =>
      rw [jlead, jlead, ih]
      unfold jwo
      rw [e 3 (by decide), e 80 (by decide), e 81 (by decide), e 77 (by decide), e 84 (by decide), e 82 (by decide)]
  unfold jah
  rw [hl]
theorem jins_ok {K : Nat → Int} {r j : Nat} (hj : j < 8) (hI : ∀ u v, u < 8 → v < 8 → K u = K v → u = v) (hs : ∀ x, x < j → ∃ i, i < j ∧ pos K j i = x) : ∀ (q : Nat) (M : MM), (∀ u v, u < 8 → v < 8 → (jah M r (nI u) (nI v) = 0 ↔ K u ≤ K v)) → q ≤ j → pos K j j ≤ q →
    (∀ i, i < j → pos K j i < q → M 85 (pos K j i) = nI i) → (∀ i, i < j → q ≤ pos K j i → M 85 (pos K j i + 1) = nI i) →
    (∀ i, i < j → pos K j i < pos K j j → jins r j q M 85 (pos K j i) = nI i) ∧ (∀ i, i < j → pos K j j ≤ pos K j i → jins r j q M 85 (pos K j i + 1) = nI i) ∧ jins r j q M 85 (pos K j j) = nI j
  | 0, M, hK, hq, hp, h4, h5 => by
    rw [jins]
    refine ⟨fun i hi z => ?_, fun i hi z => ?_, ?_⟩
    · exact absurd z (by omega)
    · rw [jm_n (by omega)]; exact h5 i hi (by omega)
    · rw [show pos K j j = 0 by omega, jm_s]
  | q + 1, M, hK, hq, hp, h4, h5 => by
    rw [jins]
    obtain ⟨i, hi, e⟩ := hs q (by omega)
    have hM : M 85 q = nI i := by rw [← e]; exact h4 i hi (by omega)
    by_cases c : jah M r (nI j) (M 85 q) = 0
    · rw [if_pos c]
      rw [hM] at c
      have k1 := (hK j i hj (by omega)).mp c
      have k2 : K j < K i := by
        have := fun z => hI j i hj (by omega) z
        omega
      have k3 := pos_lt (j := j) hi k2
      refine ⟨fun i2 hi2 z => ?_, fun i2 hi2 z => ?_, ?_⟩
      · rw [jm_n (by omega)]; exact h4 i2 hi2 (by omega)
      · rw [jm_n (by omega)]; exact h5 i2 hi2 (by omega)
      · rw [show pos K j j = q + 1 by omega, jm_s]
    · rw [if_neg c]
      rw [hM] at c
      have k1 : ¬ K j ≤ K i := fun z => c ((hK j i hj (by omega)).mpr z)
      have k3 := pos_le (K := K) (j := j) (i := j) (i2 := i) (by omega)
      refine jins_ok hj hI hs q _ (fun u v hu hv => by rw [jah_e (M := M) (fun i k z => jm_n (by omega))]; exact hK u v hu hv) (by omega) (by omega) (fun i2 hi2 z => ?_) (fun i2 hi2 z => ?_)
      · rw [jm_n (by omega)]; exact h4 i2 hi2 (by omega)
      · by_cases e2 : pos K j i2 = q
        · have := h4 i2 hi2 (by omega)
          rw [e2] at this ⊢
          rw [jm_s]; exact this
        · rw [jm_n (by omega)]; exact h5 i2 hi2 (by omega)
theorem jso_ok {K : Nat → Int} {r : Nat} {M : MM} (hI : ∀ u v, u < 8 → v < 8 → K u = K v → u = v) (hK : ∀ u v, u < 8 → v < 8 → (jah M r (nI u) (nI v) = 0 ↔ K u ≤ K v)) : ∀ j, j ≤ 8 → (∀ i, i < j → jso M r j 85 (pos K j i) = nI i) ∧ ∀ x, x < j → ∃ i, i < j ∧ pos K j i = x
  | 0, _ => ⟨fun i hi => absurd hi (Nat.not_lt_zero i), fun i hi => absurd hi (Nat.not_lt_zero i)⟩
  | j + 1, hj => by
    obtain ⟨s1, s2⟩ := jso_ok hI hK j (by omega)
    obtain ⟨r1, r2, r3⟩ := jins_ok (K := K) (r := r) (by omega) hI s2 j (jso M r j) (fun u v hu hv => by rw [jah_e (M := M) (fun i k z => jso_n z j)]; exact hK u v hu hv) (Nat.le_refl _) pos_j (fun i hi _ => s1 i hi) (fun i hi z => absurd (pos_ltj (K := K) hi) (by omega))
    have hlt : ∀ i, i < j → (K i < K j ∨ K j < K i) := fun i hi => by
      have := fun z => hI i j (by omega) (by omega) z
      omega
    have pj : pos K (j + 1) j = pos K j j := by rw [pos_s, if_neg (by omega)]; rfl
    refine ⟨fun i hi => ?_, fun x hx => ?_⟩
    · rw [jso]
      by_cases e : i = j
      · subst e; rw [pj]; exact r3
      · rcases hlt i (by omega) with c | c
        · rw [pos_s, if_pos c]; exact r2 i (by omega) (pos_le (by omega))
        · rw [pos_s, if_neg (by omega)]; exact r1 i (by omega) (pos_lt (by omega) c)
    · rcases Nat.lt_trichotomy x (pos K j j) with c | c | c
      · obtain ⟨i, hi, e⟩ := s2 x (by have := pos_j (K := K) (j := j) (i := j); omega)
        refine ⟨i, by omega, ?_⟩
        rcases hlt i hi with d | d
        · have := pos_le (K := K) (j := j) (i := j) (i2 := i) (by omega); omega
        · rw [pos_s, if_neg (by omega)]; exact e
      · exact ⟨j, by omega, by rw [pj]; exact c.symm⟩
      · obtain ⟨i, hi, e⟩ := s2 (x - 1) (by omega)
        refine ⟨i, by omega, ?_⟩
        rcases hlt i hi with d | d
        · rw [pos_s, if_pos d, e]; omega
        · have := pos_lt (K := K) hi d; omega
theorem place_c {t : Nat} {dr : Bool} {M B : MM} (hL : rL t dr (lgC M 1) (B 95)) {r : Nat} (hru : ∀ i, i < r → M 3 i = B 95 (6 + i) ∧ r04 (M 3 i)) {i : Nat} (hi : i < t) : ∀ w, w ≤ t → jsum (fgPl B (nn t dr) t r (nI i)) w = nI (pos (gK B (nn t dr) t r) w i)
  | 0, _ => rfl
  | w + 1, hw => by
    have ht := hL.1
    rw [jsum, place_c hL hru hi w (by omega), pos_s]
    unfold fgPl
    by_cases c : gK B (nn t dr) t r i < gK B (nn t dr) t r w
    · have ne : ¬ nI w = nI i := fun z => by
        rw [(nI_eq (by omega) (by omega)).mp z] at c
        omega
      rw [if_pos c, if_neg ne, if_neg (fun z => by have := (ah_K hL hru (show w < 8 by omega) (show i < 8 by omega)).mp z; omega), nI_1]
    · rw [if_neg c, if_pos ((ah_K hL hru (show w < 8 by omega) (show i < 8 by omega)).mpr (by omega)), ite_self, Int32.add_zero, Nat.add_zero]
theorem jfst_none {f : Nat → Int32} : ∀ {n : Nat}, (∀ i, i < n → ¬ f i = 1) → jfst f n = -1
  | 0, _ => rfl
  | n + 1, h => jfst_no (jfst_none (n := n) fun i hi => h i (by omega)) (h n (by omega))
theorem jb_p1 {p : Prop} [Decidable p] (h : jb p = 1) : p := Decidable.byContradiction fun z => by
  rw [jb_f z] at h
  exact absurd h (by decide)
theorem ranked_no {t : Nat} {dr : Bool} {M B : MM} (hL : rL t dr (lgC M 1) (B 95)) {r : Nat} (hru : ∀ i, i < r → M 3 i = B 95 (6 + i) ∧ r04 (M 3 i)) {x : Int32} (hx : ∀ q, q < t → ¬ x = nI q) : jfst (fRank B (nn t dr) t r x) t = -1 := jfst_none fun i hi z => by
  unfold fRank at z
  have h := jb_p1 z
  rw [place_c hL hru hi t (Nat.le_refl _)] at h
  exact hx _ (pos_ltj hi) h.symm
theorem ranked_r {t : Nat} {dr : Bool} {M B : MM} (hL : rL t dr (lgC M 1) (B 95)) (hF : dr = true → rFix t M) {r : Nat} (hru : ∀ i, i < r → M 3 i = B 95 (6 + i) ∧ r04 (M 3 i)) {q : Nat} (hq : q < t) : ∃ i, i < t ∧ jfst (fRank B (nn t dr) t r (nI q)) t = nI i ∧ jso (jcount M (nn t dr)) r t 85 q = nI i := by
  have ht := hL.1
  have hI : ∀ u v, u < 8 → v < 8 → gK B (nn t dr) t r u = gK B (nn t dr) t r v → u = v := fun u v hu hv h => gK_inj hu hv h
  obtain ⟨s1, s2⟩ := jso_ok (M := jcount M (nn t dr)) hI (fun u v hu hv => by rw [ah_r hL hF hru hu hv]; exact ah_K hL hru hu hv) t ht
  obtain ⟨i, hi, e⟩ := s2 q hq
  refine ⟨i, hi, ?_, ?_⟩
  · refine jfst_at (jfst_none fun k hk z => ?_) ?_ (by omega) hi
    · unfold fRank at z
      have h := jb_p1 z
      rw [place_c hL hru (show k < t by omega) t (Nat.le_refl _)] at h
      have l1 := pos_ltj (K := gK B (nn t dr) t r) (show k < t by omega)
      have h2 := (nI_eq (by omega) (by omega)).mp h
      rcases Int.lt_trichotomy (gK B (nn t dr) t r k) (gK B (nn t dr) t r i) with d | d | d
      · have := pos_lt hi d; omega
      · have := hI k i (by omega) (by omega) d; omega
      · have := pos_lt (show k < t by omega) d; omega
    · unfold fRank
      rw [place_c hL hru hi t (Nat.le_refl _), e]
      exact jb_t rfl
  · rw [← e]; exact s1 i hi
theorem f2d_nn {v : UInt32} (h : Jvm.FP.Core.fIsNaN v = false) : Jvm.FP.Core.dIsNaN (FP.f2d v) = false := by
  unfold FP.f2d
  rw [h]
  exact Jvm.FP.Core.f2d_out h
theorem yd {Y : OUt} {v w : UInt64} (h : v = w) : (Y.1, ju Y.2 0 v).2 0 = w := by
  subst h
  show ju Y.2 0 v 0 = v
  exact ju_s
