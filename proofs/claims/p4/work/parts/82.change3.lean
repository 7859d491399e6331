/-! ===== steps: points given; what a drawn league takes ===== -/
theorem int_rng {u : Int32} {n : Nat} (hn : n < 100) (h0 : ¬ u < 0) (h1 : ¬ nI n < u) : ∃ q, q ≤ n ∧ u = nI q := by
  obtain ⟨j, hj, rfl⟩ := nI_of2 (M := nI n) (n := n) (nI_toInt (by omega)) h0 (Int32.not_lt.mp h1)
  exact ⟨j, hj, rfl⟩
theorem now_give {t q1 q2 : Nat} {dr : Bool} {X N : MM} (h : rL t dr (lgC X 1) (N 95)) (h1 : q1 ≤ 5) (h2 : q2 ≤ 3) : rL t dr (lgC (jm (jm X 1 4 (nI q1)) 1 5 (nI q2)) 1) (jm (jm N 95 3 (nI q1)) 95 4 (nI q2) 95) := by
  obtain ⟨a1, a2, a3, a4, a5, a6, a7, a8, ⟨w, b1, b2, b3, b4⟩, -, -, ⟨c, e1, e2, e3, e4⟩, f⟩ := h
  have hA : ∀ i k, ¬ (i = 1 ∧ (k = 4 ∨ k = 5)) → jm (jm X 1 4 (nI q1)) 1 5 (nI q2) i k = X i k := fun i k h1 => by rw [jm_n (by omega), jm_n (by omega)]
  have hB : ∀ k, k ≠ 3 → k ≠ 4 → jm (jm N 95 3 (nI q1)) 95 4 (nI q2) 95 k = N 95 k := fun k h1 h2 => by rw [jm_n (by omega), jm_n (by omega)]
  refine ⟨a1, (hA 1 0 (by omega)).trans a2, (hB 0 (by omega) (by omega)).trans a3, fun i hi => ?_, a5, (hA 1 2 (by omega)).trans a6, (hB 1 (by omega) (by omega)).trans a7, (hB 9 (by omega) (by omega)).trans a8, ⟨w, b1, (hA 1 3 (by omega)).trans b2, (hB 2 (by omega) (by omega)).trans b3, b4⟩, ⟨q1, h1, ?_, ?_⟩, ⟨q2, h2, ?_, ?_⟩, ⟨c, e1, (hA 1 6 (by omega)).trans e2, (hB 5 (by omega) (by omega)).trans e3, fun i hi => ?_⟩, fun m hm => ?_⟩
  · rw [hB (10 + i) (by omega) (by omega)]; exact (hA 2 i (by omega)).trans (a4 i hi)
  · show jm (jm X 1 4 (nI q1)) 1 5 (nI q2) 1 4 = _; rw [jm_n (by omega), jm_s]
  · show jm (jm N 95 3 (nI q1)) 95 4 (nI q2) 95 3 = _; rw [jm_n (by omega), jm_s]
  · show jm (jm X 1 4 (nI q1)) 1 5 (nI q2) 1 5 = _; rw [jm_s]
  · show jm (jm N 95 3 (nI q1)) 95 4 (nI q2) 95 4 = _; rw [jm_s]
  · show jm (jm X 1 4 (nI q1)) 1 5 (nI q2) 3 i = _ ∧ r04 (jm (jm X 1 4 (nI q1)) 1 5 (nI q2) 3 i)
    rw [hA 3 i (by omega), hB (6 + i) (by omega) (by omega)]; exact e4 i hi
  · have hm := f m hm
    unfold mtR at hm ⊢
    rw [hB _ (by omega) (by omega), hB _ (by omega) (by omega), hB _ (by omega) (by omega), hB _ (by omega) (by omega), hB _ (by omega) (by omega), hB _ (by omega) (by omega), hB _ (by omega) (by omega), hB _ (by omega) (by omega)]
    show _ ∧ _ ∧ _ ∧ jm (jm X 1 4 _) 1 5 _ 4 m = _ ∧ _ ∧ ((_ ∧ ∃ g h : Nat, g ≤ 20 ∧ h ≤ 20 ∧ jm (jm X 1 4 _) 1 5 _ 5 m = nI g ∧ _ ∧ jm (jm X 1 4 _) 1 5 _ 6 m = nI h ∧ _) ∨ (_ ∧ jm (jm X 1 4 _) 1 5 _ 5 m = -1 ∧ jm (jm X 1 4 _) 1 5 _ 6 m = -1))
    rw [hA 4 m (by omega), hA 5 m (by omega), hA 6 m (by omega)]
    exact hm
theorem S_give {b : SBt} {Y : OUt} {M : MM} (I : Inv b M) (u v : Int32) : Step b Y M yL_give cL_give 5 [(0, 10, 13, 13)] [.ref 0, .int u, .int v, .ref 102] yX6_give cX6_give 4 (some .int) [.ref 94, .int u, .int v] cmpI := by
  have hb := I.hb
  obtain ⟨τ, k, j, hP⟩ := Rel_P.mp I.1
  have hL := hP.now
  have hF := hP.fix
  obtain ⟨t, et⟩ : ∃ t, (τ k).1 = t := ⟨_, rfl⟩
  obtain ⟨dr, ed⟩ : ∃ dr, (τ k).2 = dr := ⟨_, rfl⟩
  have hX : (τ k).2 = true → (t, dr) = τ k := fun _ => by rw [← et, ← ed]
  rw [et, ed] at hL hF
  have ht := hL.1
  have hn := nn_le (dr := dr) ht
  have hm := jmc_r hL hF
  have hz := zz_0 hL.1 hL.2.2.2.2.1
  have h951 : M 95 1 = nI (zz t dr) := hL.2.2.2.2.2.2.1
  have h959 : M 95 9 = nI (nn t dr) := hL.2.2.2.2.2.2.2.1
  have h12 : M 1 2 = if dr = true then 1 else 0 := hL.2.2.2.2.2.1
  have hj := hP.1
  have hk := hP.2.1
  by_cases hx : (¬ u < 1 ∧ ¬ 5 < u) ∧ (¬ v < 0 ∧ ¬ 3 < v)
  · have hx2 : ¬ (u < 1 ∨ 5 < u ∨ v < 0 ∨ ¬ v ≤ 3) := fun q => by
      rcases q with q | q | q | q
      · exact hx.1.1 q
      · exact hx.1.2 q
      · exact hx.2.1 q
      · exact hx.2.2 (Int32.not_le.mp q)
    have hct : jcount M (nn t dr) 75 0 = jsum (fun m => jof M m 4) (nn t dr) := jcount_pl.trans (pl_r hL)
    have hsum : ∀ N : MM, N 95 = M 95 → jsum (fun m => jof (jtr N) m 4) (nn t dr) = jsum (fun m => jof M m 4) (nn t dr) := fun N hN => by unfold jof; rw [jtr_95, hN]
    by_cases h3 : jcount M (nn t dr) 75 0 ≤ 0
    · obtain ⟨q1, g1, rfl⟩ := int_rng (u := u) (n := 5) (by decide) (fun z => hx.1.1 (Int32.lt_trans z (by decide))) hx.1.2
      obtain ⟨q2, g2, rfl⟩ := int_rng (u := v) (n := 3) (by decide) hx.2.1 hx.2.2
      have hhi : hiE M (jgiven M j k (nn t dr) (nI q1) (nI q2)) := hi_jm (hi_jm (hi_t hi_count (hi_keep hj)) (by omega)) (by omega)
      have hP2 := (hP.hi hhi).cnt (n := nn t dr)
      have hc := c_give_ok (d := 13) (Y := Y) hb hn hm hx2 h3 hj hk hP.2.2.1 hP.2.2.2.1 (rL_z hL)
      have hg := cx_give_G (d := 18) (M := jgiven M j k (nn t dr) (nI q1) (nI q2)) (Y := (ju Y.1 0 (10 * jkeep (jcount M (nn t dr)) j k 1 4 + jkeep (jcount M (nn t dr)) j k 1 5).toInt64, Y.2)) hb hx hn (by rw [hhi 95 9 (by omega)]; exact h959) (by rw [hsum _ (hiR hhi (by omega)), ← hct]; exact h3) hk (by rw [hhi 94 3 (by omega)]; exact hP.2.2.2.2.1)
      have hL2 : rL t dr (lgC (jcount M (nn t dr)) 1) (M 95) := rL_cells hL (fun i c _ _ => jcount_n (by omega)) (fun _ _ => rfl)
      refine Step_of I (H_give_r hb hc) hg (by decide) (by decide) hhi (lo_kp (lo_jm (lo_jm lo_tr (by omega) (by omega)) (by omega) (by omega))) ?_ (cmp_eq ?_ ?_)
      · refine rel_push (x := (t, dr)) hP2 hX (now_give (keep_now hj hL2 (fun c _ => by rw [jtr_95]; exact hhi 95 c (by omega))) g1 g2) (fun q => rFix_c (hF q) (fun i c q1 q2 => ?_)) (fun i c q => ?_) (fun i c q => ?_) (fun c q => ?_)
        · unfold jgiven; rw [jm_n (by omega), jm_n (by omega), keep_lo (by omega) hj]; exact jcount_n (by omega)
        · unfold jgiven; rw [jm_n (by omega), jm_n (by omega)]
        · unfold gGive; rw [jm_n (by omega), jm_n (by omega)]; exact jtr_at (by omega) (by omega)
        · unfold gGive; rw [jm_n (by omega), jm_n (by omega)]; exact jtr_96 q
      · unfold gGive; rw [kp_19, jm_n (by omega), jm_n (by omega)]; exact jtr_19
      · rw [keep_lo (by omega) hj, keep_lo (by omega) hj, jcount_n (by omega), jcount_n (by omega), hhi 95 3 (by omega), hhi 95 4 (by omega)]
        obtain ⟨a1, a2, a3, a4, a5, a6, a7, a8, -, ⟨q, c1, c2, c3⟩, ⟨q2, d1, d2, d3⟩, -⟩ := hL
        rw [show M 1 4 = nI q from c2, show M 1 5 = nI q2 from d2, c3, d3]
    · have hc := c_give_no (d := 13) (Y := Y) hb hn hm hx2 h3
      have hhi : hiE M (jref (jcount M (nn t dr)) 12 (jcount M (nn t dr) 75 0)) := hi_t hi_count hi_ref
      have hg := cx_give_pl (d := 18) (M := jref (jcount M (nn t dr)) 12 (jcount M (nn t dr) 75 0)) (Y := Y) hb hx hn (by rw [hhi 95 9 (by omega)]; exact h959) (by rw [hsum _ (hiR hhi (by omega)), ← hct]; exact h3)
      rw [hsum _ (hiR hhi (by omega)), ← hct] at hg
      exact Step_of I (H_give_t1 (d := 19) hb hc) hg (by decide) (by decide) hhi lo_refu (rel_ref (rel_count (Rel_hi I.1 hhi))) cmp_ref
  · refine Step_ref I (by decide) (by decide) (H_give_t1 (d := 19) hb (c_give_bad (d := 14) hb ?_)) (cx_give_no (d := 18) hb ?_)
    · by_cases q1 : u < 1
      · exact Or.inl q1
      · by_cases q2 : 5 < u
        · exact Or.inr (Or.inl q2)
        · by_cases q3 : v < 0
          · exact Or.inr (Or.inr (Or.inl q3))
          · exact Or.inr (Or.inr (Or.inr fun q4 => hx ⟨⟨q1, q2⟩, q3, Int32.not_lt.mpr q4⟩))
    · by_cases q1 : ¬ u < 1 ∧ ¬ 5 < u
      · exact Or.inr fun q2 => hx ⟨q1, q2⟩
      · exact Or.inl q1
theorem gRes_95 {N N2 : MM} {q : Nat} {u v : Int32} (h : N 95 = N2 95) : gRes N q u v = gRes N2 q u v := by unfold gRes jof; rw [h]
theorem gBack_95 {N N2 : MM} {q : Nat} (h : N 95 = N2 95) : gBack N q = gBack N2 q := by unfold gBack jhow jof; rw [h]
theorem gPut_95 {N N2 : MM} {q : Nat} {u : Int32} (h : N 95 = N2 95) : gPut N q u = gPut N2 q u := by unfold gPut jof; rw [h]
theorem gNext_95 {N N2 : MM} {n : Nat} (h : N 95 = N2 95) : gNext N n = gNext N2 n := by
  have e : gLeft N = gLeft N2 := by funext m; unfold gLeft jof; rw [h]
  unfold gNext; rw [h, e]
theorem hi_setg {M N : MM} {q : Nat} {u v : Int32} (h : hiE M N) (hq : q < 56) : hiE M (jsetg N 1 (nI q) u v) := by
  rw [jsetg_nI hq]; exact hi_jm (hi_jm h (by omega)) (by omega)
theorem setg_n {N : MM} {q i c : Nat} {u v : Int32} (hq : q < 56) (h : i ≠ 5 ∧ i ≠ 6) : jsetg N 1 (nI q) u v i c = N i c := by
  rw [jsetg_nI hq, jm_n (by omega), jm_n (by omega)]
theorem lo_sets {M N : MM} {m w : Nat} {v : Int32} (h : loE M N) : loE M (jsets N m w v) := lo_jm h (by omega) (by omega)
theorem S_result {b : SBt} {Y : OUt} {M : MM} (I : Inv b M) (x u v : Int32) : Step b Y M yL_result cL_result 6 [(0, 12, 15, 13)] [.ref 0, .int x, .int u, .int v, .ref 102] yX6_result cX6_result 4 (some .int) [.ref 94, .int x, .int u, .int v] cmpI := by
  have hb := I.hb
  obtain ⟨τ, k, j, hP⟩ := Rel_P.mp I.1
  have hL := hP.now
  have hF := hP.fix
  obtain ⟨t, et⟩ : ∃ t, (τ k).1 = t := ⟨_, rfl⟩
  obtain ⟨dr, ed⟩ : ∃ dr, (τ k).2 = dr := ⟨_, rfl⟩
  have hX : (τ k).2 = true → (t, dr) = τ k := fun _ => by rw [← et, ← ed]
  rw [et, ed] at hL hF
  have ht := hL.1
  have hn := nn_le (dr := dr) ht
  have hm := jmc_r hL hF
  have hz := zz_0 hL.1 hL.2.2.2.2.1
  have h951 : M 95 1 = nI (zz t dr) := hL.2.2.2.2.2.2.1
  have h959 : M 95 9 = nI (nn t dr) := hL.2.2.2.2.2.2.2.1
  have h12 : M 1 2 = if dr = true then 1 else 0 := hL.2.2.2.2.2.1
  have hj := hP.1
  have hk := hP.2.1
  have hRR : rRes M x u v = gNo M x (gRes M x.toNatClampNeg u v) := res_r hL hF
  rcases noM_r hL hF (x := x) with ⟨h1, h2, h3⟩ | ⟨h1, h4, h2, h3⟩ | ⟨h1, q, hq, hx, h2, h3⟩
  · subst h1
    rw [h3] at hRR
    exact Step_ref I (by decide) (by decide) (H_result_t1 (d := 19) hb (c_result_no (d := 15) hb hRR)) (cx_result_0 (d := 18) hb (by rw [ref_95, h951]; rfl))
  · subst h1
    rw [h3] at hRR
    exact Step_ref I (by decide) (by decide) (H_result_t1 (d := 19) hb (c_result_no (d := 15) hb hRR)) (cx_result_nm (d := 17) hb (by rw [ref_95, h959]; exact fun z => h4 ((in_q2 hn).mp z)) (by rw [ref_95, h951]; exact hz.2.mpr rfl))
  · subst h1
    subst hx
    have hq56 : q < 56 := Nat.lt_of_lt_of_le hq hn
    rw [h3, nI_clamp (by omega)] at hRR
    have hdd : ∀ N : MM, hiE M N → ¬ N 95 1 ≤ 0 := fun N hN => by rw [hN 95 1 (by omega), h951]; exact hz.2.mpr rfl
    cases hr : gRes M q u v with
    | some w =>
      obtain ⟨r, z⟩ := w
      rw [hr] at hRR
      exact Step_ref I (by decide) (by decide) (H_result_t1 (d := 19) hb (c_result_no (d := 15) hb hRR)) (cx_result_no (d := 16) hb (hdd _ hi_ref) hn (by rw [ref_95]; exact h959) hq ((gRes_95 (jtr_95.trans (hiR hi_ref (by omega)))).trans hr))
    | none =>
      rw [hr] at hRR
      have huv : (¬ u < 0 ∧ ¬ 20 < u) ∧ (¬ v < 0 ∧ ¬ 20 < v) := by
        apply Decidable.byContradiction
        intro z
        unfold gRes at hr
        rw [if_pos z] at hr
        cases hr
      obtain ⟨g1, k1, rfl⟩ := int_rng (u := u) (n := 20) (by decide) huv.1.1 huv.1.2
      obtain ⟨g2, k2, rfl⟩ := int_rng (u := v) (n := 20) (by decide) huv.2.1 huv.2.2
      have hhi : hiE M (jresult M j k (nI q) (nI g1) (nI g2)) := hi_setg (hi_keep hj) hq56
      have hP2 := hP.hi hhi
      have hc := c_result_ok (d := 13) (Y := Y) hb hRR hn hm hj hk hP.2.2.1 hP.2.2.2.1 (rL_z hL)
      have hg := cx_result_G (d := 16) (M := jresult M j k (nI q) (nI g1) (nI g2)) (Y := (ju Y.1 0 (jsum (fNow (jresult M j k (nI q) (nI g1) (nI g2))) (nn t true)).toInt64, Y.2)) hb (hdd _ hhi) hn (by rw [hhi 95 9 (by omega)]; exact h959) hq ((gRes_95 (jtr_95.trans (hiR hhi (by omega)))).trans hr) hk (by rw [hhi 94 3 (by omega)]; exact hP.2.2.2.2.1)
      have hnow := now_res (X := jkeep M j k) (N := jtr (jresult M j k (nI q) (nI g1) (nI g2))) (keep_now hj hL (fun c _ => by rw [jtr_95]; exact hhi 95 c (by omega))) hq k1 k2
      refine Step_of I (H_result_r hb hc) hg (by decide) (by decide) hhi (lo_kp (lo_jm (lo_sets (lo_sets (lo_sets lo_tr))) (by omega) (by omega))) ?_ (cmp_eq ?_ (left_r (A := jresult M j k (nI q) (nI g1) (nI g2)) hnow))
      · refine rel_push (x := (t, true)) hP2 hX (rL_cells hnow (fun _ _ _ _ => rfl) (fun c _ => jm_n (by omega))) (fun z => rFix_c (hF rfl) (fun i c z1 z2 => ?_)) (fun i c z => setg_n hq56 (by omega)) (fun i c z => ?_) (fun c z => ?_)
        · exact (setg_n hq56 (by omega)).trans (keep_lo (by omega) hj)
        · unfold gResS; rw [jm_n (by omega), jsets_n (by omega), jsets_n (by omega), jsets_n (by omega)]; exact jtr_at (by omega) (by omega)
        · unfold gResS; rw [jm_n (by omega), jsets_n (by omega), jsets_n (by omega), jsets_n (by omega)]; exact jtr_96 z
      · unfold gResS; rw [kp_19, jm_n (by omega), jsets_n (by omega), jsets_n (by omega), jsets_n (by omega)]; exact jtr_19
theorem S_back {b : SBt} {Y : OUt} {M : MM} (I : Inv b M) (x : Int32) : Step b Y M yL_back cL_back 4 [(0, 9, 12, 13)] [.ref 0, .int x, .ref 102] yX6_back cX6_back 2 (some .int) [.ref 94, .int x] cmpI := by
  have hb := I.hb
  obtain ⟨τ, k, j, hP⟩ := Rel_P.mp I.1
  have hL := hP.now
  have hF := hP.fix
  obtain ⟨t, et⟩ : ∃ t, (τ k).1 = t := ⟨_, rfl⟩
  obtain ⟨dr, ed⟩ : ∃ dr, (τ k).2 = dr := ⟨_, rfl⟩
  have hX : (τ k).2 = true → (t, dr) = τ k := fun _ => by rw [← et, ← ed]
  rw [et, ed] at hL hF
  have ht := hL.1
  have hn := nn_le (dr := dr) ht
  have hm := jmc_r hL hF
  have hz := zz_0 hL.1 hL.2.2.2.2.1
  have h951 : M 95 1 = nI (zz t dr) := hL.2.2.2.2.2.2.1
  have h959 : M 95 9 = nI (nn t dr) := hL.2.2.2.2.2.2.2.1
  have h12 : M 1 2 = if dr = true then 1 else 0 := hL.2.2.2.2.2.1
  have hj := hP.1
  have hk := hP.2.1
  have hRR : rBack M x = gNo M x (gBack M x.toNatClampNeg) := back_r hL hF
  rcases noM_r hL hF (x := x) with ⟨h1, h2, h3⟩ | ⟨h1, h4, h2, h3⟩ | ⟨h1, q, hq, hx, h2, h3⟩
  · subst h1
    rw [h3] at hRR
    exact Step_ref I (by decide) (by decide) (H_back_t1 (d := 19) hb (c_back_no (d := 15) hb hRR)) (cx_back_0 (d := 18) hb (by rw [ref_95, h951]; rfl))
  · subst h1
    rw [h3] at hRR
    exact Step_ref I (by decide) (by decide) (H_back_t1 (d := 19) hb (c_back_no (d := 15) hb hRR)) (cx_back_nm (d := 17) hb (by rw [ref_95, h959]; exact fun z => h4 ((in_q2 hn).mp z)) (by rw [ref_95, h951]; exact hz.2.mpr rfl))
  · subst h1
    subst hx
    have hq56 : q < 56 := Nat.lt_of_lt_of_le hq hn
    rw [h3, nI_clamp (by omega)] at hRR
    have hdd : ∀ N : MM, hiE M N → ¬ N 95 1 ≤ 0 := fun N hN => by rw [hN 95 1 (by omega), h951]; exact hz.2.mpr rfl
    cases hr : gBack M q with
    | some w =>
      obtain ⟨r, z⟩ := w
      rw [hr] at hRR
      exact Step_ref I (by decide) (by decide) (H_back_t1 (d := 19) hb (c_back_no (d := 15) hb hRR)) (cx_back_no (d := 16) hb (hdd _ hi_ref) hn (by rw [ref_95]; exact h959) hq ((gBack_95 (jtr_95.trans (hiR hi_ref (by omega)))).trans hr))
    | none =>
      rw [hr] at hRR
      have hhi : hiE M (jresult M j k (nI q) (-1) (-1)) := hi_setg (hi_keep hj) hq56
      have hP2 := hP.hi hhi
      have hc := c_back_ok (d := 13) (Y := Y) hb hRR hn hm hj hk hP.2.2.1 hP.2.2.2.1 (rL_z hL)
      have hg := cx_back_G (d := 16) (M := jresult M j k (nI q) (-1) (-1)) (Y := (ju Y.1 0 (jsum (fNow (jresult M j k (nI q) (-1) (-1))) (nn t true)).toInt64, Y.2)) hb (hdd _ hhi) hn (by rw [hhi 95 9 (by omega)]; exact h959) hq ((gBack_95 (jtr_95.trans (hiR hhi (by omega)))).trans hr) hk (by rw [hhi 94 3 (by omega)]; exact hP.2.2.2.2.1)
      have hnow := now_back (X := jkeep M j k) (N := jtr (jresult M j k (nI q) (-1) (-1))) (keep_now hj hL (fun c _ => by rw [jtr_95]; exact hhi 95 c (by omega))) hq
      refine Step_of I (H_back_r hb hc) hg (by decide) (by decide) hhi (lo_kp (lo_jm (lo_sets (lo_sets (lo_sets lo_tr))) (by omega) (by omega))) ?_ (cmp_eq ?_ (left_r (A := jresult M j k (nI q) (-1) (-1)) hnow))
      · refine rel_push (x := (t, true)) hP2 hX (rL_cells hnow (fun _ _ _ _ => rfl) (fun c _ => jm_n (by omega))) (fun z => rFix_c (hF rfl) (fun i c z1 z2 => ?_)) (fun i c z => setg_n hq56 (by omega)) (fun i c z => ?_) (fun c z => ?_)
        · exact (setg_n hq56 (by omega)).trans (keep_lo (by omega) hj)
        · unfold gBackS; rw [jm_n (by omega), jsets_n (by omega), jsets_n (by omega), jsets_n (by omega)]; exact jtr_at (by omega) (by omega)
        · unfold gBackS; rw [jm_n (by omega), jsets_n (by omega), jsets_n (by omega), jsets_n (by omega)]; exact jtr_96 z
      · unfold gBackS; rw [kp_19, jm_n (by omega), jsets_n (by omega), jsets_n (by omega), jsets_n (by omega)]; exact jtr_19
theorem S_putOff {b : SBt} {Y : OUt} {M : MM} (I : Inv b M) (x u : Int32) : Step b Y M yL_putOff cL_putOff 5 [(0, 10, 13, 13)] [.ref 0, .int x, .int u, .ref 102] yX6_putOff cX6_putOff 3 (some .int) [.ref 94, .int x, .int u] cmpI := by
  have hb := I.hb
  obtain ⟨τ, k, j, hP⟩ := Rel_P.mp I.1
  have hL := hP.now
  have hF := hP.fix
  obtain ⟨t, et⟩ : ∃ t, (τ k).1 = t := ⟨_, rfl⟩
  obtain ⟨dr, ed⟩ : ∃ dr, (τ k).2 = dr := ⟨_, rfl⟩
  have hX : (τ k).2 = true → (t, dr) = τ k := fun _ => by rw [← et, ← ed]
  rw [et, ed] at hL hF
  have ht := hL.1
  have hn := nn_le (dr := dr) ht
  have hm := jmc_r hL hF
  have hz := zz_0 hL.1 hL.2.2.2.2.1
  have h951 : M 95 1 = nI (zz t dr) := hL.2.2.2.2.2.2.1
  have h959 : M 95 9 = nI (nn t dr) := hL.2.2.2.2.2.2.2.1
  have h12 : M 1 2 = if dr = true then 1 else 0 := hL.2.2.2.2.2.1
  have hj := hP.1
  have hk := hP.2.1
  have hRR : rPut M x u = gNo M x (gPut M x.toNatClampNeg u) := put_r hL hF
  rcases noM_r hL hF (x := x) with ⟨h1, h2, h3⟩ | ⟨h1, h4, h2, h3⟩ | ⟨h1, q, hq, hx, h2, h3⟩
  · subst h1
    rw [h3] at hRR
    exact Step_ref I (by decide) (by decide) (H_putOff_t1 (d := 19) hb (c_putOff_no (d := 15) hb hRR)) (cx_putOff_0 (d := 18) hb (by rw [ref_95, h951]; rfl))
  · subst h1
    rw [h3] at hRR
    exact Step_ref I (by decide) (by decide) (H_putOff_t1 (d := 19) hb (c_putOff_no (d := 15) hb hRR)) (cx_putOff_nm (d := 17) hb (by rw [ref_95, h959]; exact fun z => h4 ((in_q2 hn).mp z)) (by rw [ref_95, h951]; exact hz.2.mpr rfl))
  · subst h1
    subst hx
    have hq56 : q < 56 := Nat.lt_of_lt_of_le hq hn
    rw [h3, nI_clamp (by omega)] at hRR
    have hdd : ∀ N : MM, hiE M N → ¬ N 95 1 ≤ 0 := fun N hN => by rw [hN 95 1 (by omega), h951]; exact hz.2.mpr rfl
    cases hr : gPut M q u with
    | some w =>
      obtain ⟨r, z⟩ := w
      rw [hr] at hRR
      exact Step_ref I (by decide) (by decide) (H_putOff_t1 (d := 19) hb (c_putOff_no (d := 15) hb hRR)) (cx_putOff_no (d := 16) hb (hdd _ hi_ref) hn (by rw [ref_95]; exact h959) hq (fun i hi => by unfold jof; rw [ref_95]; exact hho_r hL i hi) ((gPut_95 (jtr_95.trans (hiR hi_ref (by omega)))).trans hr))
    | none =>
      rw [hr] at hRR
      obtain ⟨h1, h2, h3⟩ : (¬ u < 1 ∧ ¬ 9 < u) ∧ jof M q 2 = M 95 2 ∧ (¬ M 95 2 + u < 0 ∧ ¬ M 95 1 - 1 < M 95 2 + u) := by
        unfold gPut at hr
        by_cases z1 : ¬ (¬ u < 1 ∧ ¬ 9 < u)
        · rw [if_pos z1] at hr; cases hr
        · rw [if_neg z1] at hr
          by_cases z2 : jof M q 4 = 1
          · rw [if_pos z2] at hr; cases hr
          · rw [if_neg z2] at hr
            by_cases z3 : ¬ jof M q 2 = M 95 2
            · rw [if_pos z3] at hr; cases hr
            · rw [if_neg z3] at hr
              by_cases z4 : ¬ (¬ M 95 2 + u < 0 ∧ ¬ M 95 1 - 1 < M 95 2 + u)
              · rw [if_pos z4] at hr; cases hr
              · exact ⟨Decidable.not_not.mp z1, Decidable.not_not.mp z3, Decidable.not_not.mp z4⟩
      obtain ⟨e, k1, rfl⟩ := int_rng (u := u) (n := 9) (by decide) (fun z => h1.1 (Int32.lt_trans z (by decide))) h1.2
      have he : 1 ≤ e := by
        rcases Nat.eq_zero_or_pos e with z | z
        · subst z; exact absurd (by decide) h1.1
        · exact z
      obtain ⟨w, -, w1, w2, w3⟩ := id hL.2.2.2.2.2.2.2.2.1
      have w1 : M 1 3 = nI w := w1
      have hw3 := w3 rfl
      have hw14 := wT_le ht
      have hwe : w + e < wT t := by
        rw [w2, h951, nI_add, in_q2 (show zz t true ≤ 56 by show wT t ≤ 56; omega)] at h3
        obtain ⟨q', y1, y2⟩ := h3
        have := (nI_eq (by omega) (by have : q' < wT t := y1; omega)).mp y2
        have : q' < wT t := y1
        omega
      have hput : ∀ X : MM, jput 56 X 4 (nI q) (X 1 3 + nI e) = jm X 4 q (X 1 3 + nI e) := fun X => jput_nI hq56 (by decide)
      have hhi : hiE M (jputoff M j k (nI q) (nI e)) := hi_put (hi_keep hj) (by omega)
      have hP2 := hP.hi hhi
      have hc := c_putOff_ok (d := 13) (Y := Y) hb hRR hn hm hj hk hP.2.2.1 hP.2.2.2.1 (rL_z hL)
      have hg := cx_putOff_G (d := 16) (M := jputoff M j k (nI q) (nI e)) (Y := (ju Y.1 0 (jsum (fCl (jputoff M j k (nI q) (nI e)) (nI q) (jkeep M j k 1 3 + nI e)) (nn t true)).toInt64, Y.2)) hb (hdd _ hhi) hn (by rw [hhi 95 9 (by omega)]; exact h959) hq (fun i hi => by unfold jof; rw [hhi 95 _ (by omega)]; exact hho_r hL i hi) ((gPut_95 (jtr_95.trans (hiR hhi (by omega)))).trans hr) hk (by rw [hhi 94 3 (by omega)]; exact hP.2.2.2.2.1)
      have e95 : jtr (jputoff M j k (nI q) (nI e)) 95 = M 95 := jtr_95.trans (hiR hhi (by omega))
      have hnow := now_put (X := jkeep M j k) (N := jtr (jputoff M j k (nI q) (nI e))) (keep_now hj hL (fun c _ => by rw [e95])) hq (by rw [keep_lo (by omega) hj]; exact w1) (by rw [e95]; exact w2) he hwe (by unfold jof; rw [e95]; exact h2.trans w2)
      have hfix : rFix t (jputoff M j k (nI q) (nI e)) := rFix_c (hF rfl) (fun i c z1 z2 => (m_put (by omega)).trans (keep_lo (by omega) hj))
      refine Step_of I (H_putOff_r hb hc) hg (by decide) (by decide) hhi (lo_kp (lo_jm (lo_sets (lo_sets lo_tr)) (by omega) (by omega))) ?_ (cmp_eq ?_ ?_)
      · refine rel_push (x := (t, true)) hP2 hX (rL_cells hnow (fun _ _ _ _ => rfl) (fun c _ => jm_n (by omega))) (fun _ => hfix) (fun i c z => m_put (by omega)) (fun i c z => ?_) (fun c z => ?_)
        · unfold gPutS; rw [jm_n (by omega), jsets_n (by omega), jsets_n (by omega)]; exact jtr_at (by omega) (by omega)
        · unfold gPutS; rw [jm_n (by omega), jsets_n (by omega), jsets_n (by omega)]; exact jtr_96 z
      · unfold gPutS; rw [kp_19, jm_n (by omega), jsets_n (by omega), jsets_n (by omega)]; exact jtr_19
      · rw [cl_r (A := jputoff M j k (nI q) (nI e)) hnow (fun _ => hfix) hq, keep_lo (by omega) hj, e95, wk_r hL]
theorem S_next {b : SBt} {Y : OUt} {M : MM} (I : Inv b M) : Step b Y M yL_next cL_next 3 [(0, 8, 11, 13)] [.ref 0, .ref 102] yX6_next cX6_next 1 (some .int) [.ref 94] cmpI := by
  have hb := I.hb
  obtain ⟨τ, k, j, hP⟩ := Rel_P.mp I.1
  have hL := hP.now
  have hF := hP.fix
  obtain ⟨t, et⟩ : ∃ t, (τ k).1 = t := ⟨_, rfl⟩
  obtain ⟨dr, ed⟩ : ∃ dr, (τ k).2 = dr := ⟨_, rfl⟩
  have hX : (τ k).2 = true → (t, dr) = τ k := fun _ => by rw [← et, ← ed]
  rw [et, ed] at hL hF
  have ht := hL.1
  have hn := nn_le (dr := dr) ht
  have hm := jmc_r hL hF
  have hz := zz_0 hL.1 hL.2.2.2.2.1
  have h951 : M 95 1 = nI (zz t dr) := hL.2.2.2.2.2.2.1
  have h959 : M 95 9 = nI (nn t dr) := hL.2.2.2.2.2.2.2.1
  have h12 : M 1 2 = if dr = true then 1 else 0 := hL.2.2.2.2.2.1
  have hj := hP.1
  have hk := hP.2.1
  have hRR := next_r hL hF
  cases dr with
  | false =>
    rw [if_pos (by rw [h951]; rfl)] at hRR
    exact Step_ref I (by decide) (by decide) (H_next_t1 (d := 19) hb (c_next_no (d := 15) hb hn hm hRR)) (cx_next_0 (d := 18) hb (by rw [ref_95, h951]; rfl))
  | true =>
    have hdd : ∀ N : MM, hiE M N → ¬ N 95 1 ≤ 0 := fun N hN => by rw [hN 95 1 (by omega), h951]; exact hz.2.mpr rfl
    rw [if_neg (fun z => hdd M hiE_0 (by rw [z]; exact Int32.le_refl 0))] at hRR
    cases hr : gNext M (nn t true) with
    | some w =>
      obtain ⟨r, z⟩ := w
      rw [hr] at hRR
      exact Step_ref I (by decide) (by decide) (H_next_t1 (d := 19) hb (c_next_no (d := 15) hb hn hm hRR)) (cx_next_no (d := 16) hb (hdd _ hi_ref) hn (by rw [ref_95]; exact h959) ((gNext_95 (jtr_95.trans (hiR hi_ref (by omega)))).trans hr))
    | none =>
      rw [hr] at hRR
      obtain ⟨w, -, w1, w2, w3⟩ := id hL.2.2.2.2.2.2.2.2.1
      have w1 : M 1 3 = nI w := w1
      have hw3 := w3 rfl
      have hw14 := wT_le ht
      have hw1 : w + 1 < wT t := by
        have hne : ¬ M 95 2 = M 95 1 - 1 := by
          intro z
          unfold gNext at hr
          by_cases y : ¬ jfst (gLeft M) (nn t true) = -1
          · rw [if_pos y] at hr; cases hr
          · rw [if_neg y, if_pos z] at hr; cases hr
        rw [w2, h951, show zz t true = wT t from rfl] at hne
        obtain ⟨k1, hk1⟩ : ∃ k1, wT t = k1 + 1 := ⟨wT t - 1, by omega⟩
        rw [hk1, nI_pred, nI_eq (by omega) (by omega)] at hne
        omega
      have hhi : hiE M (jnext M j k) := hi_jm (hi_keep hj) (by omega)
      have hP2 := hP.hi hhi
      have hc := c_next_ok (d := 13) (Y := Y) hb hn hm hRR hj hk hP.2.2.1 hP.2.2.2.1 (rL_z hL)
      have e95 : jtr (jnext M j k) 95 = M 95 := jtr_95.trans (hiR hhi (by omega))
      have hg := cx_next_G (d := 16) (M := jnext M j k) (Y := (ju Y.1 0 (jnext M j k 1 3).toInt64, Y.2)) hb (hdd _ hhi) hn (by rw [hhi 95 9 (by omega)]; exact h959) ((gNext_95 e95).trans hr) hk (by rw [hhi 94 3 (by omega)]; exact hP.2.2.2.2.1)
      have hnow := now_next (X := jkeep M j k) (N := jtr (jnext M j k)) (keep_now hj hL (fun c _ => by rw [e95])) (by rw [keep_lo (by omega) hj]; exact w1) (by rw [e95]; exact w2) hw1
      refine Step_of I (H_next_r hb hc) hg (by decide) (by decide) hhi (lo_kp (lo_jm (lo_jm lo_tr (by omega) (by omega)) (by omega) (by omega))) ?_ (cmp_eq ?_ ?_)
      · refine rel_push (x := (t, true)) hP2 hX (rL_cells hnow (fun _ _ _ _ => rfl) (fun c _ => jm_n (by omega))) (fun _ => rFix_c (hF rfl) (fun i c z1 z2 => (jm_n (by omega)).trans (keep_lo (by omega) hj))) (fun i c z => jm_n (by omega)) (fun i c z => ?_) (fun c z => ?_)
        · rw [jm_n (by omega), jm_n (by omega)]; exact jtr_at (by omega) (by omega)
        · rw [jm_n (by omega), jm_n (by omega)]; exact jtr_96 z
      · rw [kp_19, jm_n (by omega), jm_n (by omega)]; exact jtr_19
      · rw [e95, ← wk_r hL]
        unfold jnext
        rw [jm_s, keep_lo (by omega) hj]
