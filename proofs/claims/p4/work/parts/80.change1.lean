/-! ===== steps: changes before the draw ===== -/
def cmpI (k : Int32) (v : Value) (Y : OUt) (M : MM) : Prop := M 94 19 = k ∧ (k = 0 → ∃ w : Int32, v = .int w ∧ Y.1 0 = w.toInt64)
theorem cmp_eq {M : MM} {Y : OUt} {v w : Int32} (h : M 94 19 = 0) (e : v = w) : cmpI 0 (.int w) (ju Y.1 0 v.toInt64, Y.2) M := by
  subst e
  exact ⟨h, fun _ => ⟨v, rfl, show ju Y.1 0 v.toInt64 0 = v.toInt64 from ju_s⟩⟩
theorem cmp_no {M : MM} {Y : OUt} {k : Int32} {v : Value} (h : M 94 19 = k) (hk : ¬ k = 0) : cmpI k v Y M := ⟨h, fun q => absurd q hk⟩
theorem jtr_19 {N : MM} : jtr N 94 19 = 0 := by
  unfold jtr
  rw [jcp_n (by omega), jm_n (by omega), jm_s]
theorem kp_19 {N : MM} {k : Nat} : jkpg N k 94 19 = N 94 19 := jkpg_n (by omega) (by omega)
theorem cmp_ref {N : MM} {r z v : Int32} {Y : OUt} : cmpI 1 (.int v) Y (jrai (jrefu (jtr N) r z) 1) := cmp_no jm_s (by decide)
theorem hiR {M N : MM} (h : hiE M N) {i : Nat} (hi : 92 ≤ i) : N i = M i := funext fun c => h i c hi
/-- a refusal on both sides -/
theorem Step_ref {b : SBt} {Y : OUt} {M : MM} {yL : MethodName} {cL : ByteArray} {mL : Nat} {hh : List (Nat × Nat × Nat × Nat)} {asL : List Value} {y6 : MethodName} {c6 : ByteArray} {m6 : Nat} {r6 : Option FieldType} {as6 : List Value} {r z v : Int32} {mc ms : Nat} (I : Inv b M) (hmc : mc ≤ 40) (hms : ms ≤ 9000)
    (H : CMH 20 mc ms yL cL mL (some .int) hh asL b Y M 1 Y (jref M r z)) (C : CM 20 0 0 y6 c6 m6 r6 as6 b Y (jref M r z) (.inl (some (.int v))) (jrai (jrefu (jtr (jref M r z)) r z) 1)) (hk : vK r6 (.int v) := by first | exact vK_i | exact vK_b | exact vK_c) : Step b Y M yL cL mL hh asL y6 c6 m6 r6 as6 cmpI :=
  Step_of I H C hmc hms hi_ref lo_refu (rel_ref (Rel_hi I.1 hi_ref)) cmp_ref hk
theorem ref_95 {M : MM} {r z : Int32} {c : Nat} : jref M r z 95 c = M 95 c := hi_ref 95 c (by omega)
theorem ref_94 {M : MM} {r z : Int32} {c : Nat} : jref M r z 94 c = M 94 c := hi_ref 94 c (by omega)
/-! team -/
theorem now_team {t : Nat} {u : Int32} {X N : MM} (h : rL t false (lgC X 1) (N 95)) (ht : t < 8) : rL (t + 1) false (lgC (jm (jm X 2 t u) 1 0 (nI (t + 1))) 1) (jm (jm N 95 0 (nI (t + 1))) 95 (10 + t) u 95) := by
  obtain ⟨a1, a2, a3, a4, a5, a6, a7, a8, ⟨w, b1, b2, b3, b4⟩, ⟨q, c1, c2, c3⟩, ⟨q2, d1, d2, d3⟩, ⟨c, e1, e2, e3, e4⟩, f⟩ := h
  have hA : ∀ i k, ¬ (i = 1 ∧ k = 0) → ¬ (i = 2 ∧ k = t) → jm (jm X 2 t u) 1 0 (nI (t + 1)) i k = X i k := fun i k h1 h2 => by rw [jm_n h1, jm_n h2]
  have hB : ∀ k, k ≠ 0 → k ≠ 10 + t → jm (jm N 95 0 (nI (t + 1))) 95 (10 + t) u 95 k = N 95 k := fun k h1 h2 => by rw [jm_n (by omega), jm_n (by omega)]
  refine ⟨by omega, (show jm (jm X 2 t u) 1 0 (nI (t + 1)) 1 0 = _ from jm_s), ?_, fun i hi => ?_, (fun z => by cases z), (hA 1 2 (by omega) (by omega)).trans a6, (hB 1 (by omega) (by omega)).trans a7, (hB 9 (by omega) (by omega)).trans a8, ⟨w, b1, (hA 1 3 (by omega) (by omega)).trans b2, (hB 2 (by omega) (by omega)).trans b3, fun z => by cases z⟩, ⟨q, c1, (hA 1 4 (by omega) (by omega)).trans c2, (hB 3 (by omega) (by omega)).trans c3⟩, ⟨q2, d1, (hA 1 5 (by omega) (by omega)).trans d2, (hB 4 (by omega) (by omega)).trans d3⟩, ⟨c, e1, (hA 1 6 (by omega) (by omega)).trans e2, (hB 5 (by omega) (by omega)).trans e3, fun i hi => ?_⟩, fun m hm => absurd hm (Nat.not_lt_zero m)⟩
  · show jm (jm N 95 0 (nI (t + 1))) 95 (10 + t) u 95 0 = _
    rw [jm_n (by omega), jm_s]
  · show jm (jm X 2 t u) 1 0 (nI (t + 1)) 2 i = jm (jm N 95 0 (nI (t + 1))) 95 (10 + t) u 95 (10 + i)
    by_cases e : i = t
    · subst e; rw [jm_n (by omega), jm_s, jm_s]
    · rw [hA 2 i (by omega) (by omega), hB (10 + i) (by omega) (by omega)]; exact a4 i hi
  · show jm (jm X 2 t u) 1 0 (nI (t + 1)) 3 i = _ ∧ r04 (jm (jm X 2 t u) 1 0 (nI (t + 1)) 3 i)
    rw [hA 3 i (by omega) (by omega), hB (6 + i) (by omega) (by omega)]; exact e4 i hi
theorem keep_now {t : Nat} {dr : Bool} {A : MM} {R R2 : Nat → Int32} {j k : Nat} (hj : j < 9) (h : rL t dr (lgC A 1) R) (hR : ∀ k, k < 466 → R2 k = R k) : rL t dr (lgC (jkeep A j k) 1) R2 := rL_cells h (fun i c q1 q2 => jkeep_old (by omega) (by omega)) hR
theorem keep_lo {A : MM} {j k i c : Nat} (hi : i < 13 ∨ 69 ≤ i) (hj : j < 9) : jkeep A j k i c = A i c := jkeep_old (by omega) (by omega)
theorem S_team {b : SBt} {Y : OUt} {M : MM} (I : Inv b M) (u : Int32) : Step b Y M yL_team cL_team 4 [(0, 9, 12, 13)] [.ref 0, .int u, .ref 102] yX6_team cX6_team 3 (some .int) [.ref 94, .int u] cmpI := by
  have hb := I.hb
  obtain ⟨τ, k, j, hP⟩ := Rel_P.mp I.1
  have hL := hP.now
  have hF := hP.fix
  obtain ⟨t, et⟩ : ∃ t, (τ k).1 = t := ⟨_, rfl⟩
  obtain ⟨dr, ed⟩ : ∃ dr, (τ k).2 = dr := ⟨_, rfl⟩
  rw [et, ed] at hL
  have ht := hL.1
  have h10 : M 1 0 = nI t := hL.2.1
  have h950 : M 95 0 = nI t := hL.2.2.1
  have hz := zz_0 hL.1 hL.2.2.2.2.1
  have h951 : M 95 1 = nI (zz t dr) := hL.2.2.2.2.2.2.1
  have h12 : M 1 2 = if dr = true then 1 else 0 := hL.2.2.2.2.2.1
  by_cases hx : ¬ u < 0 ∧ ¬ 9 < u
  · cases dr with
    | true =>
      exact Step_ref I (by decide) (by decide) (H_team_t1 (d := 19) hb (c_team_no (d := 17) hb (show rTeam M u = some (4, 0) by unfold rTeam; rw [if_neg (fun q => q hx), if_pos (by rw [h12]; decide)]))) (cx_team_dr (d := 18) hb hx (by rw [ref_95, h951]; exact hz.2.mpr rfl))
    | false =>
      have h1 : M 95 1 ≤ 0 := by rw [h951]; exact Int32.le_refl 0
      by_cases h8 : t = 8
      · subst h8
        exact Step_ref I (by decide) (by decide) (H_team_t1 (d := 19) hb (c_team_no (d := 17) hb (show rTeam M u = some (2, 8) by unfold rTeam; rw [if_neg (fun q => q hx), if_neg (by rw [h12]; decide), if_pos (by rw [h10]; decide)]))) (cx_team_full (d := 18) hb hx (by rw [ref_95]; exact h1) (by rw [ref_95]; exact h950))
      · have h8 : t < 8 := by omega
        have hj := hP.1
        have hk := hP.2.1
        have hr : rTeam M u = none := by
          unfold rTeam
          rw [if_neg (fun q => q hx), if_neg (by rw [h12]; decide), if_neg (fun q => q (by rw [h10]; exact (nI_lt h8 (by decide) : nI t < nI 8)))]
        have hm : jteam M j k u = jm (jm (jkeep M j k) 2 t u) 1 0 (nI (t + 1)) := by
          unfold jteam
          rw [keep_lo (by omega) hj, h10, jput_nI h8 (by decide), jm_n (by omega), keep_lo (by omega) hj, h10, nI_1]
        have hhi : hiE M (jteam M j k u) := by rw [hm]; exact hi_jm (hi_jm (hi_keep hj) (by omega)) (by omega)
        have hP2 := hP.hi hhi
        have hc := c_team_ok (d := 15) (Y := Y) hb hr hj hk hP.2.2.1 hP.2.2.2.1 (rL_z hL)
        have hg := cx_team_G (d := 18) (M := jteam M j k u) (Y := (ju Y.1 0 (jteam M j k u 1 0 - 1).toInt64, Y.2)) hb hx (by rw [hhi 95 1 (by omega)]; exact h1) (by rw [hhi 95 0 (by omega)]; exact h950) h8 hk (by rw [hhi 94 3 (by omega)]; exact hP.2.2.2.2.1)
        refine Step_of I (H_team_r hb hc) hg (by decide) (by decide) hhi (lo_kp (lo_jm (lo_jm lo_tr (by omega) (by omega)) (by omega) (by omega))) ?_ (cmp_eq ?_ ?_)
        · refine rel_push (x := (t + 1, false)) hP2 (fun q => by rw [ed] at q; cases q) ?_ (fun q => by cases q) (fun i c q => ?_) (fun i c q => ?_) (fun c q => ?_)
          · rw [hm]
            exact now_team (keep_now hj hL (fun c _ => by rw [jtr_95, ← hm]; exact hhi 95 c (by omega))) h8
          · rw [hm, jm_n (by omega), jm_n (by omega)]
          · unfold gTeam; rw [jm_n (by omega), jm_n (by omega)]; exact jtr_at (by omega) (by omega)
          · unfold gTeam; rw [jm_n (by omega), jm_n (by omega)]; exact jtr_96 q
        · unfold gTeam; rw [kp_19, jm_n (by omega), jm_n (by omega)]; exact jtr_19
        · rw [hm, jm_s]; exact nI_pred t
  · exact Step_ref I (by decide) (by decide) (H_team_t1 (d := 19) hb (c_team_no (d := 17) hb (show rTeam M u = some (1, 0) by unfold rTeam; rw [if_pos hx]))) (cx_team_no (d := 18) hb hx)
