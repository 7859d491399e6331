/-! ===== steps: the draw, undo, save, restore, append ===== -/
theorem c_append_full {d : Nat} {b : SBt} {Y : OUt} {M : MM} (hb : 104 ≤ b.2.1) {v : Int32} (h0 : M 86 0 = 60) : CM (d + 1) 1 6 yX5_append cX5_append 2 (some .int) [.ref 0, .int v] b Y M (.inr "java/lang/IllegalStateException") (M) := by
  refine Con.of (by decide +kernel) (Nat.le_of_ble_eq_true rfl) rfl fun p l e s m args below meth c D tyc A ad0 x hr htab hname => ?_
  change JJ _ _ _ _ _ _ _ _ _ _ _ _ _ _ _ _ _ 0 [some (.ref 0), some (.int v)] [] _ 0 0
  refine j_aload_n x dX5_append_0 rfl ?_
  refine j2_getr (k := 7) (r := 86) x hb dX5_append_1 jc_9 wfX5_47 (by decide) rfl ?_
  refine j2_callVi x hb dX5_append_4 m_X4_isFull (CM_v (c_isFull (d := d) hb) (jb_t (show ¬ M 86 0 < 60 by rw [h0]; decide))) wmX5_302 jc_8 rfl rfl rfl (Nat.le_of_ble_eq_true rfl) (j_fit_rm (by omega) (by omega) (by omega)) rfl ?_
  refine j_if_eq (tgt := 21) x dX5_append_7 (by decide) (fun hc => absurd hc (by decide)) (fun hc => ?_)
  exact j_throwSW x exX5_305 wsX5_307 dX5_append_10 dX5_append_13 dX5_append_14 dX5_append_17 dX5_append_20 htab (by omega) (by omega) ⟨rfl, rfl⟩
theorem now_draw {t : Nat} {X N : MM} (h : rL t false (lgC X 1) (N 95)) (h2 : 2 ≤ t) (ht : t ≤ 8) : rL t true (lgC (jstart (jly t (gP t - 1) X (wT t)) 1) 1) (gdw N t (wT t) 95) := by
  obtain ⟨a1, a2, a3, a4, a5, a6, a7, a8, ⟨w, b1, b2, b3, b4⟩, ⟨q1, c1, c2, c3⟩, ⟨q2, d1, d2, d3⟩, ⟨c, e1, e2, e3, e4⟩, f⟩ := h
  have hw0 : w = 0 := b1 rfl
  subst hw0
  have hw2 := wT_pos h2
  have hw14 := wT_le ht
  have hnT := nT_le ht
  have hfx := jly_fix (X := X) h2 ht
  have hA : ∀ i k, i < 4 → ¬ (i = 1 ∧ (k = 2 ∨ k = 3)) → i ≠ 0 → jstart (jly t (gP t - 1) X (wT t)) 1 i k = X i k := fun i k h1 h2 h3 => by rw [jstart_n (by omega), jly_n (by omega)]
  have hB : ∀ k, k < 18 → k ≠ 9 → k ≠ 1 → gdw N t (wT t) 95 k = N 95 k := fun k h1 h2 h3 => gdw_n (by omega) _
  have h9 : N 95 9 = 0 := a8
  refine ⟨ht, (hA 1 0 (by omega) (by omega) (by omega)).trans a2, (hB 0 (by omega) (by omega) (by omega)).trans a3, fun i hi => ?_, fun _ => h2, ?_, gdw_1 _, gdw_9 h9 _, ⟨0, fun _ => rfl, ?_, (hB 2 (by omega) (by omega) (by omega)).trans b3, fun _ => by omega⟩, ⟨q1, c1, (hA 1 4 (by omega) (by omega) (by omega)).trans c2, (hB 3 (by omega) (by omega) (by omega)).trans c3⟩, ⟨q2, d1, (hA 1 5 (by omega) (by omega) (by omega)).trans d2, (hB 4 (by omega) (by omega) (by omega)).trans d3⟩, ⟨c, e1, (hA 1 6 (by omega) (by omega) (by omega)).trans e2, (hB 5 (by omega) (by omega) (by omega)).trans e3, fun i hi => ?_⟩, fun m hm => ?_⟩
  · rw [hB (10 + i) (by omega) (by omega) (by omega)]; exact (hA 2 i (by omega) (by omega) (by omega)).trans (a4 i hi)
  · show jstart (jly t (gP t - 1) X (wT t)) 1 1 2 = 1
    unfold jstart
    rw [jfill_n (by omega), jfill_n (by omega)]
    unfold jrow
    rw [if_neg (by omega), jm_n (by omega), jm_s]
  · show jstart (jly t (gP t - 1) X (wT t)) 1 1 3 = nI 0
    unfold jstart
    rw [jfill_n (by omega), jfill_n (by omega)]
    unfold jrow
    rw [if_neg (by omega), jm_s]
    rfl
  · rw [hB (6 + i) (by omega) (by omega) (by omega)]
    show jstart (jly t (gP t - 1) X (wT t)) 1 3 i = _ ∧ r04 (jstart (jly t (gP t - 1) X (wT t)) 1 3 i)
    rw [hA 3 i (by omega) (by omega) (by omega)]
    exact e4 i hi
  · have hm : m < nT t := hm
    obtain ⟨x1, x2, x3⟩ := hfx.2.2.1 m hm
    rw [mt_of, gdw_TB (by omega) hm, gdw_TB (by omega) hm, gdw_TB (by omega) hm, gdw_TB (by omega) hm, gdw_TB (by omega) hm, gdw_TB (by omega) hm, TB_23 ht hm]
    obtain ⟨z1, z2, z, y1, y2, y3, y4, y5, y6, y7, y8, y9, y10, -⟩ := TB_ok ht hm
    have h4 : jstart (jly t (gP t - 1) X (wT t)) 1 4 m = TB t m 3 := by
      unfold jstart
      rw [jfill_n (by omega), jfill_n (by omega)]
      unfold jrow
      rw [if_pos ⟨rfl, by omega⟩, jm_n (by omega), jm_n (by omega)]
      exact x3
    have h5 : jstart (jly t (gP t - 1) X (wT t)) 1 5 m = -1 := by
      unfold jstart
      rw [jfill_n (by omega)]
      unfold jfill
      rw [if_pos ⟨rfl, by omega⟩]
    have h6 : jstart (jly t (gP t - 1) X (wT t)) 1 6 m = -1 := by
      unfold jstart jfill
      rw [if_pos ⟨rfl, by omega⟩]
    exact ⟨rfl, rfl, rfl, h4, ⟨z, z, y8, y8, Nat.le_refl _, y4, by rw [y10, if_pos rfl]⟩, Or.inr ⟨y9, h5, h6⟩⟩
theorem hi_ly {M N : MM} {t q n : Nat} (h : hiE M N) : hiE M (jly t q N n) := fun i c z => by
  rw [jly_n (by omega)]; exact h i c z
theorem hi_start {M N : MM} (h : hiE M N) : hiE M (jstart N 1) := fun i c z => by
  rw [jstart_n (by omega)]; exact h i c z
theorem lo_dw {M N : MM} {t n : Nat} (h : loE M N) : loE M (gdw N t n) := fun i c z => by
  rw [gdw_n (by omega)]; exact h i c z
theorem S_draw {b : SBt} {Y : OUt} {M : MM} (I : Inv b M) : Step b Y M yL_draw cL_draw 3 [(0, 8, 11, 13)] [.ref 0, .ref 102] yX6_draw cX6_draw 9 (some .int) [.ref 94] cmpI := by
  have hb := I.hb
  obtain ⟨τ, k, j, hP⟩ := Rel_P.mp I.1
  have hL := hP.now
  have hF := hP.fix
  obtain ⟨t, et⟩ : ∃ t, (τ k).1 = t := ⟨_, rfl⟩
  obtain ⟨dr, ed⟩ : ∃ dr, (τ k).2 = dr := ⟨_, rfl⟩
  rw [et, ed] at hL hF
  have ht := hL.1
  have h10 : M 1 0 = nI t := hL.2.1
  have h950 : M 95 0 = nI t := hL.2.2.1
  have hz := zz_0 hL.1 hL.2.2.2.2.1
  have h951 : M 95 1 = nI (zz t dr) := hL.2.2.2.2.2.2.1
  have h959 : M 95 9 = nI (nn t dr) := hL.2.2.2.2.2.2.2.1
  have h12 : M 1 2 = if dr = true then 1 else 0 := hL.2.2.2.2.2.1
  have hj := hP.1
  have hk := hP.2.1
  cases dr with
  | true =>
    exact Step_ref I (by decide) (by decide) (H_draw_t1 (d := 19) hb (c_draw_no (d := 17) hb (show rDraw M = some (4, 0) by unfold rDraw; rw [if_pos (by rw [h12]; decide)]))) (cx_draw_dr (d := 18) hb (by rw [ref_95, h951]; exact hz.2.mpr rfl))
  | false =>
    by_cases h2 : 2 ≤ t
    · have hr : rDraw M = none := by
        unfold rDraw
        rw [if_neg (by rw [h12]; decide), if_neg (fun z => z (by rw [h10]; exact (nI_le h2 (by omega) : nI 2 ≤ nI t)))]
      have hl : (t % 2 = 0 ∧ gP t - 1 + 1 = t) ∨ (t % 2 = 1 ∧ gP t - 1 = t) := by unfold gP; omega
      have hhi : hiE M (jdraw M j k t (gP t - 1)) := hi_start (hi_ly (hi_keep hj))
      have hP2 := hP.hi hhi
      have hc := c_draw_ok (d := 13) (Y := Y) hb hr h10 hl (by unfold gP; omega) ht hj hk hP.2.2.1 hP.2.2.2.1 (rL_z hL)
      have hg := cx_draw_G (d := 18) (M := jdraw M j k t (gP t - 1)) (Y := (ju Y.1 0 (nI (2 * (gP t - 1))).toInt64, Y.2)) hb (by rw [hhi 95 1 (by omega), h951]; exact Int32.le_refl 0) (by rw [hhi 95 0 (by omega)]; exact h950) (by rw [hhi 95 9 (by omega)]; exact h959) h2 ht hk (by rw [hhi 94 3 (by omega)]; exact hP.2.2.2.2.1)
      have hnow := now_draw (X := jkeep M j k) (N := jtr (jdraw M j k t (gP t - 1))) (keep_now hj hL (fun c _ => by rw [jtr_95]; exact hhi 95 c (by omega))) h2 ht
      refine Step_of I (H_draw_r hb hc) hg (by decide) (by decide) hhi (lo_kp (lo_dw lo_tr)) ?_ (cmp_eq ?_ rfl)
      · refine rel_push (x := (t, true)) hP2 (fun q => by rw [ed] at q; cases q) hnow (fun _ => rFix_c (jly_fix (X := jkeep M j k) h2 ht) (fun i c z1 z2 => jstart_n (by omega))) (fun i c z => ?_) (fun i c z => ?_) (fun c z => ?_)
        · unfold jdraw; rw [jstart_n (by omega), jly_n (by omega)]
        · rw [gdw_n (by omega)]; exact jtr_at (by omega) (by omega)
        · rw [gdw_n (by omega)]; exact jtr_96 z
      · rw [kp_19, gdw_n (by omega)]; exact jtr_19
    · have hg := cx_draw_few (d := 18) (M := jref M 6 (M 1 0)) (Y := Y) hb (by rw [ref_95, h951]; rfl) (by rw [ref_95, h950]; exact (nI_lt (by omega) (by decide) : nI t < nI 2))
      rw [jtr_95, ref_95, h950, ← h10] at hg
      exact Step_ref I (by decide) (by decide) (H_draw_t1 (d := 19) hb (c_draw_no (d := 17) hb (show rDraw M = some (6, M 1 0) by unfold rDraw; rw [if_neg (by rw [h12]; decide), if_pos (fun z => by
        rw [h10] at z
        exact absurd (nI_lt (a := t) (b := 2) (by omega) (by decide)) (Int32.not_lt.mpr z))]))) hg
/-! undo, save, restore -/
theorem cmp_19 {M : MM} {Y : OUt} {v w : Int32} (h : M 94 19 = 0) (e : v = w) : cmpI 0 (.int w) (ju Y.1 0 v.toInt64, Y.2) M := cmp_eq h e
theorem gUndo_at {N : MM} {k i c : Nat} (h : i ≠ 95) (h2 : ¬ (i = 94 ∧ (c = 3 ∨ c = 19))) : gUndo N k i c = N i c := by
  unfold gUndo
  rw [jcp_n h, jm_n (by omega), jm_n (by omega)]
theorem gUndo_95 {N : MM} {k c : Nat} (hc : c < 466) : gUndo N k 95 c = N 97 (466 * k + c) := by
  unfold gUndo
  rw [show (95 : Nat) = 95 from rfl, show jcp (jm (jm N 94 19 0) 94 3 (nI k)) 97 (466 * k) 95 0 466 95 c = jcp (jm (jm N 94 19 0) 94 3 (nI k)) 97 (466 * k) 95 0 466 95 (0 + c) by rw [Nat.zero_add], jcp_at hc, jm_n (by omega), jm_n (by omega)]
theorem rel_undo {τ : Nat → Nat × Bool} {k j : Nat} {A B : MM} (h : RelP τ (k + 1) j A B) : Rel (jgl A j (k + 1)) (gUndo B k) := by
  obtain ⟨a1, a2, a3, a4, a5, a6, a7, a8, a9, a10, a11, a12⟩ := h
  have hA : ∀ i c, i < 1 ∨ 6 < i → i ≠ 13 → jgl A j (k + 1) i c = A i c := fun i c h1 h2 => by
    unfold jgl
    rw [jlg_n (by omega), jm_n (by omega), jm_n (by omega)]
  have hB : ∀ i c, i ≠ 95 → ¬ (i = 94 ∧ (c = 3 ∨ c = 19)) → gUndo B k i c = B i c := fun i c h1 h2 => gUndo_at h1 h2
  have hk1 := a7 k (Nat.lt_succ_self k)
  rw [show (j + 9 - (k + 1) + k) % 9 = (j + 8) % 9 by omega] at hk1
  have hj8 : (j + 8) % 9 < 9 := Nat.mod_lt _ (by decide)
  refine ⟨τ, k, (j + 8) % 9, hj8, by omega, ?_, ?_, ?_, ?_, fun i hi => ?_, fun i hi => a8 i (by omega), fun hd => ?_, rSv_c a10 (fun i c q => hA i c (by omega) (by omega)) (fun i c q => hB i c (by omega) (by omega)), rTx_c a11 (fun i c q => hA i c (by omega) (by omega)) (fun i c q => hB i c (by omega) (by omega)), rRs_c a12 (fun c q => hA 0 c (by omega) (by omega)) (fun c q => hB 94 c (by omega) (by omega))⟩
  · unfold jgl; rw [jlg_n (by omega), jm_n (by omega), jm_s]
  · unfold jgl; rw [jlg_n (by omega), jm_s]; rfl
  · unfold gUndo; rw [jcp_n (by omega), jm_s]
  · refine rL_copy (A := jm (jm A 13 1 (nI ((j + 8) % 9))) 13 2 (nI (k + 1 - 1))) (a := 15 + 6 * ((j + 8) % 9)) (g := 1) (rL_cells hk1 (fun i c q1 q2 => ?_) (fun _ _ => rfl)) (fun i c _ _ => rfl) (fun c hc => gUndo_95 hc)
    rw [jm_n (by omega), jm_n (by omega)]
  · have h1 := a7 i (by omega)
    rw [show (j + 9 - (k + 1) + i) % 9 = ((j + 8) % 9 + 9 - k + i) % 9 by omega] at h1
    exact rL_cells h1 (fun i2 c q1 q2 => hA i2 c (by omega) (by omega)) (fun c _ => hB 97 _ (by omega) (by omega))
  · have e1 := a8 k (Nat.lt_succ_self k) hd
    rw [← e1] at hd ⊢
    exact rFix_c (a9 hd) (fun i c q1 q2 => hA i c (by omega) (by omega))
theorem S_undo {b : SBt} {Y : OUt} {M : MM} (I : Inv b M) : Step b Y M yL_undo cL_undo 3 [(0, 8, 11, 101)] [.ref 0, .ref 102] yX6_undo cX6_undo 2 (some .int) [.ref 94] cmpI := by
  have hb := I.hb
  obtain ⟨τ, k, j, hP⟩ := Rel_P.mp I.1
  have hj := hP.1
  have hk := hP.2.1
  cases k with
  | zero =>
    exact Step_of I (H_undo_t1 (d := 19) hb (c_undo_no (d := 19) (Y := Y) hb hP.2.2.2.1)) (cx_undo_0 (d := 19) hb hP.2.2.2.2.1) (by decide) (by decide) hiE_0 lo_19t (rel_19t I.1) (cmp_no jm_s (by decide))
  | succ k =>
    have hs := hP.2.2.2.2.2.2.1 k (Nat.lt_succ_self k)
    rw [show (j + 9 - (k + 1) + k) % 9 = (j + 8) % 9 by omega] at hs
    have hhi : hiE M (jgl M j (k + 1)) := hi_lg (hi_jm (hi_jm hiE_0 (by omega)) (by omega)) (by omega)
    have hc := c_undo_ok (d := 15) (Y := Y) hb hj (Nat.succ_pos k) hk hP.2.2.1 hP.2.2.2.1 (rL_z hs)
    have hg := cx_undo_ok (d := 19) (M := jgl M j (k + 1)) (Y := (ju Y.1 0 (nI (k + 1 - 1)).toInt64, Y.2)) hb (show k < 8 by omega) (by rw [hhi 94 3 (by omega)]; exact hP.2.2.2.2.1)
    refine Step_of I (H_undo_r hb hc) hg (by decide) (by decide) hhi (lo_jcp (lo_jm (lo_jm loE_0 (by omega) (by omega)) (by omega) (by omega)) (by omega) (by omega)) (rel_undo (hP.hi hhi)) (cmp_eq ?_ rfl)
    unfold gUndo
    rw [jcp_n (by omega), jm_n (by omega), jm_s]
theorem rel_save {A B : MM} (h : Rel A B) : Rel (jm (jlg A 1 7) 0 2 1) (jcp (jm (jm B 94 19 0) 94 5 1) 95 0 98 0 466) := by
  obtain ⟨τ, k, j, a1, a2, a3, a4, a5, a6, a7, a8, a9, a10, a11, a12⟩ := h
  have hA : ∀ i c, i < 7 ∨ 12 < i → ¬ (i = 0 ∧ c = 2) → jm (jlg A 1 7) 0 2 1 i c = A i c := fun i c h1 h2 => by rw [jm_n (by omega), jlg_n (by omega)]
  have hB : ∀ i c, i ≠ 98 → ¬ (i = 94 ∧ (c = 5 ∨ c = 19)) → jcp (jm (jm B 94 19 0) 94 5 1) 95 0 98 0 466 i c = B i c := fun i c h1 h2 => by rw [jcp_n h1, jm_n (by omega), jm_n (by omega)]
  refine ⟨τ, k, j, a1, a2, (hA 13 1 (by omega) (by omega)).trans a3, (hA 13 2 (by omega) (by omega)).trans a4, (hB 94 3 (by omega) (by omega)).trans a5, rL_cells a6 (fun i c _ _ => hA i c (by omega) (by omega)) (fun c _ => hB 95 c (by omega) (by omega)), fun i hi => rL_cells (a7 i hi) (fun i2 c _ _ => hA i2 c (by omega) (by omega)) (fun c _ => hB 97 _ (by omega) (by omega)), a8, fun hd => rFix_c (a9 hd) (fun i c _ _ => hA i c (by omega) (by omega)), Or.inr ⟨jm_s, ?_, (τ k).1, (τ k).2, ?_⟩, rTx_c a11 (fun i c q => hA i c (by omega) (by omega)) (fun i c q => hB i c (by omega) (by omega)), rRs_c a12 (fun c q => hA 0 c (by omega) (by omega)) (fun c q => hB 94 c (by omega) (by omega))⟩
  · rw [jcp_n (by omega), jm_s]
  · refine rL_copy (A := A) (a := 1) (g := 7) a6 (fun i c q1 q2 => by rw [jm_n (by omega)]) (fun c hc => ?_)
    rw [show jcp (jm (jm B 94 19 0) 94 5 1) 95 0 98 0 466 98 c = jcp (jm (jm B 94 19 0) 94 5 1) 95 0 98 0 466 98 (0 + c) by rw [Nat.zero_add], jcp_at hc, Nat.zero_add, jm_n (by omega), jm_n (by omega)]
theorem gRest_at {N : MM} {i c : Nat} (h : i ≠ 95) (h2 : ¬ (i = 94 ∧ (c = 3 ∨ c = 19))) : gRest N i c = N i c := by
  unfold gRest
  rw [jm_n (by omega), jcp_n h, jm_n (by omega)]
theorem gRest_95 {N : MM} {c : Nat} (hc : c < 466) : gRest N 95 c = N 98 c := by
  unfold gRest
  rw [jm_n (by omega), show jcp (jm N 94 19 0) 98 0 95 0 466 95 c = jcp (jm N 94 19 0) 98 0 95 0 466 95 (0 + c) by rw [Nat.zero_add], jcp_at hc, Nat.zero_add, jm_n (by omega)]
/-- a league put back: whatever the class's fixtures then are -/
theorem rel_rest {A B A2 : MM} {t : Nat} {dr : Bool} (h : Rel A B) (hs : rL t dr (lgC A 7) (B 98)) (hA : ∀ i c, i < 69 → A2 i c = jres1 A i c) (hA8 : ∀ i c, i = 86 ∨ i = 87 → A2 i c = A i c) (hf : dr = true → rFix t A2) : Rel A2 (gRest B) := by
  obtain ⟨τ, k, j, a1, a2, a3, a4, a5, a6, a7, a8, a9, a10, a11, a12⟩ := h
  have hlow : ∀ i c, i < 1 ∨ 6 < i → i < 69 → ¬ (i = 13 ∧ c = 2) → A2 i c = A i c := fun i c h1 h2 h3 => by
    rw [hA i c h2]
    unfold jres1
    rw [jm_n h3, jlg_n (by omega)]
  have hB : ∀ i c, i ≠ 95 → ¬ (i = 94 ∧ (c = 3 ∨ c = 19)) → gRest B i c = B i c := fun i c h1 h2 => gRest_at h1 h2
  refine ⟨fun _ => (t, dr), 0, j, a1, by omega, (hlow 13 1 (by omega) (by omega) (by omega)).trans a3, ?_, ?_, ?_, fun i hi => absurd hi (Nat.not_lt_zero i), fun i hi => absurd hi (Nat.not_lt_zero i), hf, rSv_c a10 (fun i c q => hlow i c (by omega) (by omega) (by omega)) (fun i c q => hB i c (by omega) (by omega)), rTx_c a11 (fun i c q => hA8 i c (by omega)) (fun i c q => hB i c (by omega) (by omega)), rRs_c a12 (fun c q => hlow 0 c (by omega) (by omega) (by omega)) (fun c q => hB 94 c (by omega) (by omega))⟩
  · rw [hA 13 2 (by omega)]; unfold jres1; exact jm_s
  · unfold gRest; exact jm_s
  · exact rL_copy (A := A) (a := 7) (g := 1) hs (fun i c q1 q2 => by rw [hA i c (by omega)]; unfold jres1; rw [jm_n (by omega)]) (fun c hc => gRest_95 hc)
theorem S_restore {b : SBt} {Y : OUt} {M : MM} (I : Inv b M) : Step b Y M yL_restore cL_restore 3 [(0, 8, 11, 101)] [.ref 0, .ref 102] yX6_restore cX6_restore 2 (some .int) [.ref 94] cmpI := by
  have hb := I.hb
  have hsv : rSv M M := by
    obtain ⟨τ, k, j, -, -, -, -, -, -, -, -, -, h, -⟩ := I.1
    exact h
  rcases hsv with ⟨s1, s2⟩ | ⟨s1, s2, t, dr, hs⟩
  · exact Step_of I (H_restore_t1 (d := 19) hb (c_restore_no (d := 19) (Y := Y) hb s1)) (cx_restore_0 (d := 19) hb s2) (by decide) (by decide) hiE_0 lo_19t (rel_19t I.1) (cmp_no jm_s (by decide))
  · have ht := hs.1
    have h70 : M 7 0 = nI t := hs.2.1
    have h72 : M 7 2 = if dr = true then 1 else 0 := hs.2.2.2.2.2.1
    have hr1 : hiE M (jres1 M) := hi_jm (hi_lg hiE_0 (by omega)) (by omega)
    have hs0 : ¬ M 0 2 = 0 := by rw [s1]; decide
    have hv : ∀ N : MM, hiE M N → nI t = gRest N 95 0 := fun N hN => by rw [gRest_95 (by omega), hN 98 0 (by omega)]; exact hs.2.2.1.symm
    have lo : ∀ N : MM, loE N (gRest N) := fun N => lo_jm (lo_jcp (lo_jm loE_0 (by omega) (by omega)) (by omega) (by omega)) (by omega) (by omega)
    have h19 : ∀ N : MM, gRest N 94 19 = 0 := fun N => by unfold gRest; rw [jm_n (by omega), jcp_n (by omega), jm_s]
    cases dr with
    | false =>
      have hc := c_restore_un (d := 15) (Y := Y) hb hs0 (rL_z hs) h72
      rw [h70] at hc
      exact Step_of I (H_restore_r hb hc) (cx_restore_ok (d := 19) hb (by rw [hr1 94 5 (by omega), s2]; decide)) (by decide) (by decide) hr1 (lo _) (rel_rest (Rel_hi I.1 hr1) (rL_cells hs (fun _ _ _ _ => rfl) (fun c _ => hr1 98 c (by omega))) (fun _ _ _ => rfl) (fun i c q => by unfold jres1; rw [jm_n (by omega), jlg_n (by omega)]) (fun z => by cases z)) (cmp_eq (h19 _) (hv _ hr1))
    | true =>
      have h2 : 2 ≤ t := hs.2.2.2.2.1 rfl
      have hl : (t % 2 = 0 ∧ gP t - 1 + 1 = t) ∨ (t % 2 = 1 ∧ gP t - 1 = t) := by unfold gP; omega
      have hc := c_restore_dr (d := 15) (Y := Y) hb hs0 (rL_z hs) (by rw [h72]; decide) h70 hl (by unfold gP; omega) ht
      have hhi : hiE M (jly t (gP t - 1) (jres1 M) (2 * (gP t - 1))) := hi_ly hr1
      exact Step_of I (H_restore_r hb hc) (cx_restore_ok (d := 19) hb (by rw [hhi 94 5 (by omega), s2]; decide)) (by decide) (by decide) hhi (lo _) (rel_rest (Rel_hi I.1 hhi) (rL_cells hs (fun _ _ _ _ => rfl) (fun c _ => hhi 98 c (by omega))) (fun i c q => jly_n (by omega) _) (fun i c q => by rw [jly_n (by omega)]; unfold jres1; rw [jm_n (by omega), jlg_n (by omega)]) (fun _ => jly_fix h2 ht)) (cmp_eq (h19 _) (hv _ hhi))
/-! append -/
theorem rel_app {A B : MM} {n q : Nat} (h : Rel A B) (hn : n < 60) (hA0 : A 86 0 = nI n) (hB0 : B 94 9 = nI n) (hq : q < 65536) : Rel (jm (jm A 87 n (nI q)) 86 0 (nI (n + 1))) (jm (jm (jm B 94 19 0) 94 9 (nI (n + 1))) 100 n (nI q)) := by
  obtain ⟨τ, k, j, a1, a2, a3, a4, a5, a6, a7, a8, a9, a10, ⟨n2, t1, t2, t3, t4⟩, a12⟩ := h
  have e : n2 = n := (nI_eq (by omega) (by omega)).mp (t2.symm.trans hA0)
  subst e
  have hA : ∀ i c, i ≠ 87 → ¬ (i = 86 ∧ c = 0) → jm (jm A 87 n2 (nI q)) 86 0 (nI (n2 + 1)) i c = A i c := fun i c h1 h2 => by rw [jm_n (by omega), jm_n (by omega)]
  have hB : ∀ i c, i ≠ 100 → ¬ (i = 94 ∧ (c = 9 ∨ c = 19)) → jm (jm (jm B 94 19 0) 94 9 (nI (n2 + 1))) 100 n2 (nI q) i c = B i c := fun i c h1 h2 => by rw [jm_n (by omega), jm_n (by omega), jm_n (by omega)]
  refine ⟨τ, k, j, a1, a2, (hA 13 1 (by omega) (by omega)).trans a3, (hA 13 2 (by omega) (by omega)).trans a4, (hB 94 3 (by omega) (by omega)).trans a5, rL_cells a6 (fun i c _ _ => hA i c (by omega) (by omega)) (fun c _ => hB 95 c (by omega) (by omega)), fun i hi => rL_cells (a7 i hi) (fun i2 c _ _ => hA i2 c (by omega) (by omega)) (fun c _ => hB 97 _ (by omega) (by omega)), a8, fun hd => rFix_c (a9 hd) (fun i c _ _ => hA i c (by omega) (by omega)), rSv_c a10 (fun i c q => hA i c (by omega) (by omega)) (fun i c q => hB i c (by omega) (by omega)), ⟨n2 + 1, by omega, jm_s, ?_, fun i hi => ?_⟩, rRs_c a12 (fun c q => hA 0 c (by omega) (by omega)) (fun c q => hB 94 c (by omega) (by omega))⟩
  · rw [jm_n (by omega), jm_s]
  · rw [jm_n (show ¬ (87 = 86 ∧ i = 0) by omega)]
    by_cases e : i = n2
    · subst e
      rw [jm_s, jm_s]
      exact ⟨rfl, q, hq, rfl⟩
    · rw [jm_n (by omega), jm_n (by omega), jm_n (by omega), jm_n (by omega)]
      exact t4 i (by omega)
theorem S_append {b : SBt} {Y : OUt} {M : MM} (I : Inv b M) {q : Nat} (hq : q < 65536) : Step b Y M yL_append cL_append 4 [(0, 9, 12, 101)] [.ref 0, .int (nI q), .ref 102] yX6_append cX6_append 2 (some .int) [.ref 94, .int (nI q)] cmpI := by
  have hb := I.hb
  obtain ⟨n, t1, t2, t3, -⟩ : rTx M M := by
    obtain ⟨τ, k, j, -, -, -, -, -, -, -, -, -, -, h, -⟩ := I.1
    exact h
  by_cases hn : n < 60
  · have hv : vp_nar .char (nI q) = nI q := by
      unfold vp_nar
      rw [(pk_charN hq).1]
    have hhi : hiE M (jm (jm M 87 n (nI q)) 86 0 (nI (n + 1))) := hi_jm (hi_jm hiE_0 (by omega)) (by omega)
    have hc := c_append_ok (d := 18) (Y := Y) hb hn t2 hv
    have hg := cx_append_ok (d := 19) (M := jm (jm M 87 n (nI q)) 86 0 (nI (n + 1))) (Y := (ju Y.1 0 (nI (n + 1)).toInt64, Y.2)) hb hn (by rw [hhi 94 9 (by omega)]; exact t3) hv
    refine Step_of I (H_append_r hb hc) hg (by decide) (by decide) hhi (lo_jm (lo_jm (lo_jm loE_0 (by omega) (by omega)) (by omega) (by omega)) (by omega) (by omega)) (rel_app (Rel_hi I.1 hhi) hn t2 (by rw [hhi 94 9 (by omega)]; exact t3) hq) (cmp_eq ?_ rfl)
    rw [jm_n (by omega), jm_n (by omega), jm_s]
  · have e : n = 60 := by omega
    subst e
    exact Step_of I (H_append_t1 (d := 19) hb (c_append_full (d := 18) (Y := Y) hb t2)) (cx_append_full (d := 19) hb t3) (by decide) (by decide) hiE_0 lo_19t (rel_19t I.1) (cmp_no jm_s (by decide))
