/-! ===== steps: ground, rules, points given, the draw ===== -/
theorem RelP.cnt {τ : Nat → Nat × Bool} {k j n : Nat} {A B : MM} (h : RelP τ k j A B) : RelP τ k j (jcount A n) B := by
  obtain ⟨a1, a2, a3, a4, a5, a6, a7, a8, a9, a10, a11, a12⟩ := h
  exact ⟨a1, a2, (jcount_n (by omega)).trans a3, (jcount_n (by omega)).trans a4, a5, rL_cells a6 (fun i c _ _ => jcount_n (by omega)) (fun _ _ => rfl), fun i hi => rL_cells (a7 i hi) (fun i c _ _ => jcount_n (by omega)) (fun _ _ => rfl), a8, fun hd => rFix_c (a9 hd) (fun i c _ _ => jcount_n (by omega)), rSv_c a10 (fun i c q => jcount_n (by omega)) (fun _ _ _ => rfl), rTx_c a11 (fun i c q => jcount_n (by omega)) (fun _ _ _ => rfl), rRs_c a12 (fun c q => jcount_n (by omega)) (fun _ _ => rfl)⟩
theorem now_ground {t q : Nat} {dr : Bool} {u : Int32} {X N : MM} (h : rL t dr (lgC X 1) (N 95)) (hq : q < 8) : rL t dr (lgC (jm X 2 q u) 1) (jm N 95 (10 + q) u 95) := by
  obtain ⟨a1, a2, a3, a4, a5, a6, a7, a8, ⟨w, b1, b2, b3, b4⟩, ⟨q1, c1, c2, c3⟩, ⟨q2, d1, d2, d3⟩, ⟨c, e1, e2, e3, e4⟩, f⟩ := h
  have hA : ∀ i k, ¬ (i = 2 ∧ k = q) → jm X 2 q u i k = X i k := fun i k h1 => jm_n h1
  have hB : ∀ k, k ≠ 10 + q → jm N 95 (10 + q) u 95 k = N 95 k := fun k h1 => jm_n (by omega)
  refine ⟨a1, (hA 1 0 (by omega)).trans a2, (hB 0 (by omega)).trans a3, fun i hi => ?_, a5, (hA 1 2 (by omega)).trans a6, (hB 1 (by omega)).trans a7, (hB 9 (by omega)).trans a8, ⟨w, b1, (hA 1 3 (by omega)).trans b2, (hB 2 (by omega)).trans b3, b4⟩, ⟨q1, c1, (hA 1 4 (by omega)).trans c2, (hB 3 (by omega)).trans c3⟩, ⟨q2, d1, (hA 1 5 (by omega)).trans d2, (hB 4 (by omega)).trans d3⟩, ⟨c, e1, (hA 1 6 (by omega)).trans e2, (hB 5 (by omega)).trans e3, fun i hi => ?_⟩, fun m hm => ?_⟩
  · show jm X 2 q u 2 i = jm N 95 (10 + q) u 95 (10 + i)
    by_cases e : i = q
    · subst e; rw [jm_s, jm_s]
    · rw [hA 2 i (by omega), hB (10 + i) (by omega)]; exact a4 i hi
  · show jm X 2 q u 3 i = _ ∧ r04 (jm X 2 q u 3 i)
    rw [hA 3 i (by omega), hB (6 + i) (by omega)]; exact e4 i hi
  · have hm := f m hm
    unfold mtR at hm ⊢
    rw [hB _ (by omega), hB _ (by omega), hB _ (by omega), hB _ (by omega), hB _ (by omega), hB _ (by omega), hB _ (by omega), hB _ (by omega)]
    show _ ∧ _ ∧ _ ∧ jm X 2 q u 4 m = _ ∧ _ ∧ ((_ ∧ ∃ g h : Nat, g ≤ 20 ∧ h ≤ 20 ∧ jm X 2 q u 5 m = nI g ∧ _ ∧ jm X 2 q u 6 m = nI h ∧ _) ∨ (_ ∧ jm X 2 q u 5 m = -1 ∧ jm X 2 q u 6 m = -1))
    rw [hA 4 m (by omega), hA 5 m (by omega), hA 6 m (by omega)]
    exact hm
theorem S_ground {b : SBt} {Y : OUt} {M : MM} (I : Inv b M) (u v : Int32) : Step b Y M yL_ground cL_ground 5 [(0, 10, 13, 13)] [.ref 0, .int u, .int v, .ref 102] yX6_ground cX6_ground 4 (some .int) [.ref 94, .int u, .int v] cmpI := by
  have hb := I.hb
  obtain ⟨τ, k, j, hP⟩ := Rel_P.mp I.1
  have hL := hP.now
  have hF := hP.fix
  obtain ⟨t, et⟩ : ∃ t, (τ k).1 = t := ⟨_, rfl⟩
  obtain ⟨dr, ed⟩ : ∃ dr, (τ k).2 = dr := ⟨_, rfl⟩
  have hX : (τ k).2 = true → (t, dr) = τ k := fun _ => by rw [← et, ← ed]
  rw [et, ed] at hL hF
  have ht := hL.1
  have h10 : M 1 0 = nI t := hL.2.1
  have h950 : M 95 0 = nI t := hL.2.2.1
  by_cases hT : ∃ q, q < t ∧ u = nI q
  · have hT1 := (in_q1 (x := u) (n := t) (by omega)).mpr hT
    obtain ⟨q, hq, rfl⟩ := hT
    rw [← h10] at hT1
    by_cases hx : ¬ v < 0 ∧ ¬ 9 < v
    · have hj := hP.1
      have hk := hP.2.1
      have hr : rGround M (nI q) v = none := by unfold rGround; rw [if_neg (fun z => z hT1), if_neg (fun z => z hx)]
      have hm : jground M j k (nI q) v = jm (jkeep M j k) 2 q v := by unfold jground; rw [jput_nI (by omega) (by decide)]
      have hhi : hiE M (jground M j k (nI q) v) := by rw [hm]; exact hi_jm (hi_keep hj) (by omega)
      have hP2 := hP.hi hhi
      have hc := c_ground_ok (d := 13) (Y := Y) hb hr hj hk hP.2.2.1 hP.2.2.2.1 (rL_z hL)
      have hg := cx_ground_G (d := 18) (M := jground M j k (nI q) v) (u := v) (Y := (ju Y.1 0 (jat 8 (jkeep M j k 2) (nI q)).toInt64, Y.2)) hb ht (by rw [hhi 95 0 (by omega)]; exact h950) hq hx hk (by rw [hhi 94 3 (by omega)]; exact hP.2.2.2.2.1)
      refine Step_of I (H_ground_r hb hc) hg (by decide) (by decide) hhi (lo_kp (lo_jm lo_tr (by omega) (by omega))) ?_ (cmp_eq ?_ ?_)
      · refine rel_push (x := (t, dr)) hP2 hX ?_ (fun q => rFix_c (hF q) (fun i c q1 q2 => ?_)) (fun i c q => ?_) (fun i c q => ?_) (fun c q => ?_)
        · rw [hm]
          exact now_ground (keep_now hj hL (fun c _ => by rw [jtr_95, ← hm]; exact hhi 95 c (by omega))) (by omega)
        · rw [hm, jm_n (by omega)]; exact keep_lo (by omega) hj
        · rw [hm, jm_n (by omega)]
        · unfold gGround; rw [jm_n (by omega)]; exact jtr_at (by omega) (by omega)
        · unfold gGround; rw [jm_n (by omega)]; exact jtr_96 q
      · unfold gGround; rw [kp_19, jm_n (by omega)]; exact jtr_19
      · rw [hhi 95 _ (by omega), jat_nI (by omega) (by decide), keep_lo (by omega) hj]; exact hL.2.2.2.1 q (by omega)
    · exact Step_ref I (by decide) (by decide) (H_ground_t1 (d := 19) hb (c_ground_no (d := 17) hb (show rGround M (nI q) v = some (1, 0) by unfold rGround; rw [if_neg (fun z => z hT1), if_pos hx]))) (cx_ground_bad (d := 18) hb ht (by rw [ref_95]; exact h950) hq hx)
  · have hT1 : ¬ (¬ u < 0 ∧ ¬ M 1 0 ≤ u) := by rw [h10]; exact fun z => hT ((in_q1 (by omega)).mp z)
    exact Step_ref I (by decide) (by decide) (H_ground_t1 (d := 19) hb (c_ground_no (d := 17) hb (show rGround M u v = some (3, u) by unfold rGround; rw [if_pos hT1]))) (cx_ground_nt (d := 18) hb (by rw [ref_95, h950]; exact fun z => hT ((in_q2 (by omega)).mp z)))
/-! rules -/
theorem hi_addr {M N : MM} {g : Nat} {t : Int32} (h : hiE M N) (hg : g + 2 < 92) : hiE M (jaddr N g t) := by
  unfold jaddr
  split
  · exact h
  · exact hi_jm (hi_put h hg) (by omega)
theorem setr_n {X : MM} {t u v : Int32} {i c : Nat} (h1 : i ≠ 1) (h3 : i ≠ 3) : jsetr X 1 t u v i c = X i c := by
  have h : ∀ (Z : MM) (t : Int32), jaddr Z 1 t i c = Z i c := fun Z t => by
    unfold jaddr
    split
    · rfl
    · rw [jm_n (by omega), m_put (by omega)]
  unfold jsetr
  rw [h, h, h, jm_n (by omega)]
theorem lo_xr {M N : MM} {t : Int32} (h : loE M N) : loE M (jxr N t) := by
  unfold jxr
  split
  · exact h
  · exact lo_jm (lo_jm h (by omega) (by omega)) (by omega) (by omega)
theorem lo_xR {M N : MM} {t u v : Int32} (h : loE M N) : loE M (jxR N t u v) := lo_xr (lo_xr (lo_xr (lo_jm h (by omega) (by omega))))
theorem S_rules {b : SBt} {Y : OUt} {M : MM} (I : Inv b M) (u v w : Int32) : Step b Y M yL_rules cL_rules 6 [(0, 12, 15, 13)] [.ref 0, .int u, .int v, .int w, .ref 102] yX6_rules cX6_rules 4 (some .int) [.ref 94, .int u, .int v, .int w] cmpI := by
  have hb := I.hb
  obtain ⟨τ, k, j, hP⟩ := Rel_P.mp I.1
  have hL := hP.now
  have hF := hP.fix
  obtain ⟨t, et⟩ : ∃ t, (τ k).1 = t := ⟨_, rfl⟩
  obtain ⟨dr, ed⟩ : ∃ dr, (τ k).2 = dr := ⟨_, rfl⟩
  have hX : (τ k).2 = true → (t, dr) = τ k := fun _ => by rw [← et, ← ed]
  rw [et, ed] at hL hF
  cases hr : rRules u v w with
  | some q =>
    obtain ⟨r, z⟩ := q
    exact Step_ref I (by decide) (by decide) (H_rules_t1 (d := 19) hb (c_rules_no (d := 17) hb hr)) (cx_rules_no (d := 18) hb hr)
  | none =>
    have hj := hP.1
    have hk := hP.2.1
    have hhi : hiE M (jrules M j k u v w) := hi_addr (hi_addr (hi_addr (hi_jm (hi_keep hj) (by omega)) (by omega)) (by omega)) (by omega)
    have hP2 := hP.hi hhi
    have hc := c_rules_ok (d := 15) (Y := Y) hb hr hj hk hP.2.2.1 hP.2.2.2.1 (rL_z hL)
    have hg := cx_rules_G (d := 18) (M := jrules M j k u v w) (Y := (ju Y.1 0 (jrules M j k u v w 1 6).toInt64, Y.2)) hb hr hk (by rw [hhi 94 3 (by omega)]; exact hP.2.2.2.2.1)
    obtain ⟨n1, n2⟩ := now_rules (X := jkeep M j k) (N := jtr (jrules M j k u v w)) (keep_now hj hL (fun c _ => by rw [jtr_95]; exact hhi 95 c (by omega))) hr
    refine Step_of I (H_rules_r hb hc) hg (by decide) (by decide) hhi (lo_kp (lo_jm (lo_xR lo_tr) (by omega) (by omega))) ?_ (cmp_eq ?_ n2)
    · refine rel_push (x := (t, dr)) hP2 hX (rL_cells n1 (fun _ _ _ _ => rfl) (fun c _ => jm_n (by omega))) (fun q => rFix_c (hF q) (fun i c q1 q2 => ?_)) (fun i c q => setr_n (by omega) (by omega)) (fun i c q => ?_) (fun c q => ?_)
      · exact (setr_n (by omega) (by omega)).trans (keep_lo (by omega) hj)
      · rw [jm_n (by omega), jxR_n (by omega)]; exact jtr_at (by omega) (by omega)
      · rw [jm_n (by omega), jxR_n (by omega)]; exact jtr_96 q
    · rw [kp_19, jm_n (by omega), jxR_n (by omega)]; exact jtr_19
